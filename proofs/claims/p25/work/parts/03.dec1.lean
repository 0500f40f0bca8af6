theorem dX0_init_0 : decode cX0_init 0 = .ok (.aload_n 0, 1) := by decide +kernel
theorem dX0_init_1 : decode cX0_init 1 = .ok (.invokespecial 1, 3) := by decide +kernel
theorem dX0_init_4 : decode cX0_init 4 = .ok (.return_, 1) := by decide +kernel
theorem dX1_init_0 : decode cX1_init 0 = .ok (.aload_n 0, 1) := by decide +kernel
theorem dX1_init_1 : decode cX1_init 1 = .ok (.invokespecial 3, 3) := by decide +kernel
theorem dX1_init_4 : decode cX1_init 4 = .ok (.aload_n 0, 1) := by decide +kernel
theorem dX1_init_5 : decode cX1_init 5 = .ok (.iconst 0, 1) := by decide +kernel
theorem dX1_init_6 : decode cX1_init 6 = .ok (.putfield 9, 3) := by decide +kernel
theorem dX1_init_9 : decode cX1_init 9 = .ok (.aload_n 0, 1) := by decide +kernel
theorem dX1_init_10 : decode cX1_init 10 = .ok (.iconst (-1), 1) := by decide +kernel
theorem dX1_init_11 : decode cX1_init 11 = .ok (.putfield 15, 3) := by decide +kernel
theorem dX1_init_14 : decode cX1_init 14 = .ok (.aload_n 0, 1) := by decide +kernel
theorem dX1_init_15 : decode cX1_init 15 = .ok (.iload_n 1, 1) := by decide +kernel
theorem dX1_init_16 : decode cX1_init 16 = .ok (.putfield 18, 3) := by decide +kernel
theorem dX1_init_19 : decode cX1_init 19 = .ok (.aload_n 0, 1) := by decide +kernel
theorem dX1_init_20 : decode cX1_init 20 = .ok (.iload_n 2, 1) := by decide +kernel
theorem dX1_init_21 : decode cX1_init 21 = .ok (.putfield 21, 3) := by decide +kernel
theorem dX1_init_24 : decode cX1_init 24 = .ok (.aload_n 0, 1) := by decide +kernel
theorem dX1_init_25 : decode cX1_init 25 = .ok (.aload_n 3, 1) := by decide +kernel
theorem dX1_init_26 : decode cX1_init 26 = .ok (.putfield 24, 3) := by decide +kernel
theorem dX1_init_29 : decode cX1_init 29 = .ok (.aload_n 0, 1) := by decide +kernel
theorem dX1_init_30 : decode cX1_init 30 = .ok (.iload 4, 2) := by decide +kernel
theorem dX1_init_32 : decode cX1_init 32 = .ok (.putfield 28, 3) := by decide +kernel
theorem dX1_init_35 : decode cX1_init 35 = .ok (.aload_n 0, 1) := by decide +kernel
theorem dX1_init_36 : decode cX1_init 36 = .ok (.iload 5, 2) := by decide +kernel
theorem dX1_init_38 : decode cX1_init 38 = .ok (.putfield 31, 3) := by decide +kernel
theorem dX1_init_41 : decode cX1_init 41 = .ok (.return_, 1) := by decide +kernel
theorem dX1_layOut_0 : decode cX1_layOut 0 = .ok (.aload_n 0, 1) := by decide +kernel
theorem dX1_layOut_1 : decode cX1_layOut 1 = .ok (.getfield 24, 3) := by decide +kernel
theorem dX1_layOut_4 : decode cX1_layOut 4 = .ok (.iload_n 1, 1) := by decide +kernel
theorem dX1_layOut_5 : decode cX1_layOut 5 = .ok (.iload_n 2, 1) := by decide +kernel
theorem dX1_layOut_6 : decode cX1_layOut 6 = .ok (.invokevirtual 34, 3) := by decide +kernel
theorem dX1_layOut_9 : decode cX1_layOut 9 = .ok (.istore_n 3, 1) := by decide +kernel
theorem dX1_layOut_10 : decode cX1_layOut 10 = .ok (.aload_n 0, 1) := by decide +kernel
theorem dX1_layOut_11 : decode cX1_layOut 11 = .ok (.getfield 24, 3) := by decide +kernel
theorem dX1_layOut_14 : decode cX1_layOut 14 = .ok (.iload_n 2, 1) := by decide +kernel
theorem dX1_layOut_15 : decode cX1_layOut 15 = .ok (.iload_n 1, 1) := by decide +kernel
theorem dX1_layOut_16 : decode cX1_layOut 16 = .ok (.invokevirtual 34, 3) := by decide +kernel
theorem dX1_layOut_19 : decode cX1_layOut 19 = .ok (.istore 4, 2) := by decide +kernel
theorem dX1_layOut_21 : decode cX1_layOut 21 = .ok (.aload_n 0, 1) := by decide +kernel
theorem dX1_layOut_22 : decode cX1_layOut 22 = .ok (.iload 4, 2) := by decide +kernel
theorem dX1_layOut_24 : decode cX1_layOut 24 = .ok (.iload_n 3, 1) := by decide +kernel
theorem dX1_layOut_25 : decode cX1_layOut 25 = .ok (.if_icmp .le 7, 3) := by decide +kernel
theorem dX1_layOut_28 : decode cX1_layOut 28 = .ok (.iconst 1, 1) := by decide +kernel
theorem dX1_layOut_29 : decode cX1_layOut 29 = .ok (.goto 4, 3) := by decide +kernel
theorem dX1_layOut_32 : decode cX1_layOut 32 = .ok (.iconst 0, 1) := by decide +kernel
theorem dX1_layOut_33 : decode cX1_layOut 33 = .ok (.putfield 40, 3) := by decide +kernel
theorem dX1_layOut_36 : decode cX1_layOut 36 = .ok (.aload_n 0, 1) := by decide +kernel
theorem dX1_layOut_37 : decode cX1_layOut 37 = .ok (.aload_n 0, 1) := by decide +kernel
theorem dX1_layOut_38 : decode cX1_layOut 38 = .ok (.getfield 40, 3) := by decide +kernel
theorem dX1_layOut_41 : decode cX1_layOut 41 = .ok (.ifCond .eq 8, 3) := by decide +kernel
theorem dX1_layOut_44 : decode cX1_layOut 44 = .ok (.iload 4, 2) := by decide +kernel
theorem dX1_layOut_46 : decode cX1_layOut 46 = .ok (.goto 4, 3) := by decide +kernel
theorem dX1_layOut_49 : decode cX1_layOut 49 = .ok (.iload_n 3, 1) := by decide +kernel
theorem dX1_layOut_50 : decode cX1_layOut 50 = .ok (.putfield 44, 3) := by decide +kernel
theorem dX1_layOut_53 : decode cX1_layOut 53 = .ok (.aload_n 0, 1) := by decide +kernel
theorem dX1_layOut_54 : decode cX1_layOut 54 = .ok (.aload_n 0, 1) := by decide +kernel
theorem dX1_layOut_55 : decode cX1_layOut 55 = .ok (.getfield 24, 3) := by decide +kernel
theorem dX1_layOut_58 : decode cX1_layOut 58 = .ok (.getfield 47, 3) := by decide +kernel
theorem dX1_layOut_61 : decode cX1_layOut 61 = .ok (.aload_n 0, 1) := by decide +kernel
theorem dX1_layOut_62 : decode cX1_layOut 62 = .ok (.getfield 24, 3) := by decide +kernel
theorem dX1_layOut_65 : decode cX1_layOut 65 = .ok (.getfield 50, 3) := by decide +kernel
theorem dX1_layOut_68 : decode cX1_layOut 68 = .ok (.imul, 1) := by decide +kernel
theorem dX1_layOut_69 : decode cX1_layOut 69 = .ok (.aload_n 0, 1) := by decide +kernel
theorem dX1_layOut_70 : decode cX1_layOut 70 = .ok (.getfield 44, 3) := by decide +kernel
theorem dX1_layOut_73 : decode cX1_layOut 73 = .ok (.iload_n 1, 1) := by decide +kernel
theorem dX1_layOut_74 : decode cX1_layOut 74 = .ok (.imul, 1) := by decide +kernel
theorem dX1_layOut_75 : decode cX1_layOut 75 = .ok (.iload_n 2, 1) := by decide +kernel
theorem dX1_layOut_76 : decode cX1_layOut 76 = .ok (.imul, 1) := by decide +kernel
theorem dX1_layOut_77 : decode cX1_layOut 77 = .ok (.isub, 1) := by decide +kernel
theorem dX1_layOut_78 : decode cX1_layOut 78 = .ok (.putfield 53, 3) := by decide +kernel
theorem dX1_layOut_81 : decode cX1_layOut 81 = .ok (.return_, 1) := by decide +kernel
theorem dX1_sheets_0 : decode cX1_sheets 0 = .ok (.aload_n 0, 1) := by decide +kernel
theorem dX1_sheets_1 : decode cX1_sheets 1 = .ok (.getfield 28, 3) := by decide +kernel
theorem dX1_sheets_4 : decode cX1_sheets 4 = .ok (.aload_n 0, 1) := by decide +kernel
theorem dX1_sheets_5 : decode cX1_sheets 5 = .ok (.getfield 56, 3) := by decide +kernel
theorem dX1_sheets_8 : decode cX1_sheets 8 = .ok (.isub, 1) := by decide +kernel
theorem dX1_sheets_9 : decode cX1_sheets 9 = .ok (.iconst 0, 1) := by decide +kernel
theorem dX1_sheets_10 : decode cX1_sheets 10 = .ok (.invokestatic 59, 3) := by decide +kernel
theorem dX1_sheets_13 : decode cX1_sheets 13 = .ok (.istore_n 1, 1) := by decide +kernel
theorem dX1_sheets_14 : decode cX1_sheets 14 = .ok (.iload_n 1, 1) := by decide +kernel
theorem dX1_sheets_15 : decode cX1_sheets 15 = .ok (.aload_n 0, 1) := by decide +kernel
theorem dX1_sheets_16 : decode cX1_sheets 16 = .ok (.getfield 44, 3) := by decide +kernel
theorem dX1_sheets_19 : decode cX1_sheets 19 = .ok (.invokestatic 64, 3) := by decide +kernel
theorem dX1_sheets_22 : decode cX1_sheets 22 = .ok (.ireturn, 1) := by decide +kernel
theorem dX1_moneyOfInks_0 : decode cX1_moneyOfInks 0 = .ok (.sipush 200, 3) := by decide +kernel
theorem dX1_moneyOfInks_3 : decode cX1_moneyOfInks 3 = .ok (.aload_n 0, 1) := by decide +kernel
theorem dX1_moneyOfInks_4 : decode cX1_moneyOfInks 4 = .ok (.getfield 31, 3) := by decide +kernel
theorem dX1_moneyOfInks_7 : decode cX1_moneyOfInks 7 = .ok (.invokestatic 67, 3) := by decide +kernel
theorem dX1_moneyOfInks_10 : decode cX1_moneyOfInks 10 = .ok (.imul, 1) := by decide +kernel
theorem dX1_moneyOfInks_11 : decode cX1_moneyOfInks 11 = .ok (.ireturn, 1) := by decide +kernel
theorem dX1_takenWith_0 : decode cX1_takenWith 0 = .ok (.aload_n 0, 1) := by decide +kernel
theorem dX1_takenWith_1 : decode cX1_takenWith 1 = .ok (.invokevirtual 73, 3) := by decide +kernel
theorem dX1_takenWith_4 : decode cX1_takenWith 4 = .ok (.iload_n 1, 1) := by decide +kernel
theorem dX1_takenWith_5 : decode cX1_takenWith 5 = .ok (.iadd, 1) := by decide +kernel
theorem dX1_takenWith_6 : decode cX1_takenWith 6 = .ok (.aload_n 0, 1) := by decide +kernel
theorem dX1_takenWith_7 : decode cX1_takenWith 7 = .ok (.getfield 24, 3) := by decide +kernel
theorem dX1_takenWith_10 : decode cX1_takenWith 10 = .ok (.getfield 77, 3) := by decide +kernel
theorem dX1_takenWith_13 : decode cX1_takenWith 13 = .ok (.invokestatic 80, 3) := by decide +kernel
theorem dX1_takenWith_16 : decode cX1_takenWith 16 = .ok (.ireturn, 1) := by decide +kernel
theorem dX1_worth_0 : decode cX1_worth 0 = .ok (.aload_n 0, 1) := by decide +kernel
theorem dX1_worth_1 : decode cX1_worth 1 = .ok (.getfield 56, 3) := by decide +kernel
theorem dX1_worth_4 : decode cX1_worth 4 = .ok (.aload_n 0, 1) := by decide +kernel
theorem dX1_worth_5 : decode cX1_worth 5 = .ok (.getfield 28, 3) := by decide +kernel
theorem dX1_worth_8 : decode cX1_worth 8 = .ok (.aload_n 0, 1) := by decide +kernel
theorem dX1_worth_9 : decode cX1_worth 9 = .ok (.getfield 28, 3) := by decide +kernel
theorem dX1_worth_12 : decode cX1_worth 12 = .ok (.bipush 10, 2) := by decide +kernel
theorem dX1_worth_14 : decode cX1_worth 14 = .ok (.idiv, 1) := by decide +kernel
theorem dX1_worth_15 : decode cX1_worth 15 = .ok (.iadd, 1) := by decide +kernel
theorem dX1_worth_16 : decode cX1_worth 16 = .ok (.invokestatic 80, 3) := by decide +kernel
theorem dX1_worth_19 : decode cX1_worth 19 = .ok (.istore_n 1, 1) := by decide +kernel
theorem dX1_worth_20 : decode cX1_worth 20 = .ok (.aload_n 0, 1) := by decide +kernel
theorem dX1_worth_21 : decode cX1_worth 21 = .ok (.getfield 28, 3) := by decide +kernel
theorem dX1_worth_24 : decode cX1_worth 24 = .ok (.ifCond .ne 7, 3) := by decide +kernel
theorem dX1_worth_27 : decode cX1_worth 27 = .ok (.iconst 0, 1) := by decide +kernel
theorem dX1_worth_28 : decode cX1_worth 28 = .ok (.goto 18, 3) := by decide +kernel
theorem dX1_worth_31 : decode cX1_worth 31 = .ok (.aload_n 0, 1) := by decide +kernel
theorem dX1_worth_32 : decode cX1_worth 32 = .ok (.getfield 83, 3) := by decide +kernel
theorem dX1_worth_35 : decode cX1_worth 35 = .ok (.i2l, 1) := by decide +kernel
theorem dX1_worth_36 : decode cX1_worth 36 = .ok (.iload_n 1, 1) := by decide +kernel
theorem dX1_worth_37 : decode cX1_worth 37 = .ok (.i2l, 1) := by decide +kernel
theorem dX1_worth_38 : decode cX1_worth 38 = .ok (.lmul, 1) := by decide +kernel
theorem dX1_worth_39 : decode cX1_worth 39 = .ok (.aload_n 0, 1) := by decide +kernel
theorem dX1_worth_40 : decode cX1_worth 40 = .ok (.getfield 28, 3) := by decide +kernel
theorem dX1_worth_43 : decode cX1_worth 43 = .ok (.i2l, 1) := by decide +kernel
theorem dX1_worth_44 : decode cX1_worth 44 = .ok (.ldiv, 1) := by decide +kernel
theorem dX1_worth_45 : decode cX1_worth 45 = .ok (.l2i, 1) := by decide +kernel
theorem dX1_worth_46 : decode cX1_worth 46 = .ok (.ireturn, 1) := by decide +kernel
theorem dX2_init_0 : decode cX2_init 0 = .ok (.aload_n 0, 1) := by decide +kernel
theorem dX2_init_1 : decode cX2_init 1 = .ok (.invokespecial 3, 3) := by decide +kernel
theorem dX2_init_4 : decode cX2_init 4 = .ok (.aload_n 0, 1) := by decide +kernel
theorem dX2_init_5 : decode cX2_init 5 = .ok (.bipush 70, 2) := by decide +kernel
theorem dX2_init_7 : decode cX2_init 7 = .ok (.putfield 9, 3) := by decide +kernel
theorem dX2_init_10 : decode cX2_init 10 = .ok (.aload_n 0, 1) := by decide +kernel
theorem dX2_init_11 : decode cX2_init 11 = .ok (.bipush 50, 2) := by decide +kernel
theorem dX2_init_13 : decode cX2_init 13 = .ok (.putfield 15, 3) := by decide +kernel
theorem dX2_init_16 : decode cX2_init 16 = .ok (.aload_n 0, 1) := by decide +kernel
theorem dX2_init_17 : decode cX2_init 17 = .ok (.iconst 5, 1) := by decide +kernel
theorem dX2_init_18 : decode cX2_init 18 = .ok (.putfield 18, 3) := by decide +kernel
theorem dX2_init_21 : decode cX2_init 21 = .ok (.return_, 1) := by decide +kernel
theorem dX2_holds_0 : decode cX2_holds 0 = .ok (.aload_n 0, 1) := by decide +kernel
theorem dX2_holds_1 : decode cX2_holds 1 = .ok (.getfield 9, 3) := by decide +kernel
theorem dX2_holds_4 : decode cX2_holds 4 = .ok (.iload_n 1, 1) := by decide +kernel
theorem dX2_holds_5 : decode cX2_holds 5 = .ok (.invokestatic 21, 3) := by decide +kernel
theorem dX2_holds_8 : decode cX2_holds 8 = .ok (.aload_n 0, 1) := by decide +kernel
theorem dX2_holds_9 : decode cX2_holds 9 = .ok (.getfield 15, 3) := by decide +kernel
theorem dX2_holds_12 : decode cX2_holds 12 = .ok (.iload_n 2, 1) := by decide +kernel
theorem dX2_holds_13 : decode cX2_holds 13 = .ok (.invokestatic 21, 3) := by decide +kernel
theorem dX2_holds_16 : decode cX2_holds 16 = .ok (.imul, 1) := by decide +kernel
theorem dX2_holds_17 : decode cX2_holds 17 = .ok (.ireturn, 1) := by decide +kernel
theorem dX2_lotsWithRoom_0 : decode cX2_lotsWithRoom 0 = .ok (.ldc 25, 2) := by decide +kernel
theorem dX2_lotsWithRoom_2 : decode cX2_lotsWithRoom 2 = .ok (.aload_n 0, 1) := by decide +kernel
theorem dX2_lotsWithRoom_3 : decode cX2_lotsWithRoom 3 = .ok (.getfield 26, 3) := by decide +kernel
theorem dX2_lotsWithRoom_6 : decode cX2_lotsWithRoom 6 = .ok (.isub, 1) := by decide +kernel
theorem dX2_lotsWithRoom_7 : decode cX2_lotsWithRoom 7 = .ok (.sipush 250, 3) := by decide +kernel
theorem dX2_lotsWithRoom_10 : decode cX2_lotsWithRoom 10 = .ok (.idiv, 1) := by decide +kernel
theorem dX2_lotsWithRoom_11 : decode cX2_lotsWithRoom 11 = .ok (.ireturn, 1) := by decide +kernel
theorem dX3_init_0 : decode cX3_init 0 = .ok (.aload_n 0, 1) := by decide +kernel
theorem dX3_init_1 : decode cX3_init 1 = .ok (.invokespecial 3, 3) := by decide +kernel
theorem dX3_init_4 : decode cX3_init 4 = .ok (.aload_n 0, 1) := by decide +kernel
theorem dX3_init_5 : decode cX3_init 5 = .ok (.iconst 2, 1) := by decide +kernel
theorem dX3_init_6 : decode cX3_init 6 = .ok (.putfield 9, 3) := by decide +kernel
theorem dX3_init_9 : decode cX3_init 9 = .ok (.aload_n 0, 1) := by decide +kernel
theorem dX3_init_10 : decode cX3_init 10 = .ok (.bipush 20, 2) := by decide +kernel
theorem dX3_init_12 : decode cX3_init 12 = .ok (.putfield 15, 3) := by decide +kernel
theorem dX3_init_15 : decode cX3_init 15 = .ok (.aload_n 0, 1) := by decide +kernel
theorem dX3_init_16 : decode cX3_init 16 = .ok (.bipush 30, 2) := by decide +kernel
theorem dX3_init_18 : decode cX3_init 18 = .ok (.putfield 18, 3) := by decide +kernel
theorem dX3_init_21 : decode cX3_init 21 = .ok (.aload_n 0, 1) := by decide +kernel
theorem dX3_init_22 : decode cX3_init 22 = .ok (.bipush 50, 2) := by decide +kernel
theorem dX3_init_24 : decode cX3_init 24 = .ok (.putfield 21, 3) := by decide +kernel
theorem dX3_init_27 : decode cX3_init 27 = .ok (.aload_n 0, 1) := by decide +kernel
theorem dX3_init_28 : decode cX3_init 28 = .ok (.bipush 20, 2) := by decide +kernel
theorem dX3_init_30 : decode cX3_init 30 = .ok (.anewarray 24, 3) := by decide +kernel
theorem dX3_init_33 : decode cX3_init 33 = .ok (.putfield 26, 3) := by decide +kernel
theorem dX3_init_36 : decode cX3_init 36 = .ok (.return_, 1) := by decide +kernel
theorem dX3_passesOf_0 : decode cX3_passesOf 0 = .ok (.aload_n 1, 1) := by decide +kernel
theorem dX3_passesOf_1 : decode cX3_passesOf 1 = .ok (.getfield 30, 3) := by decide +kernel
theorem dX3_passesOf_4 : decode cX3_passesOf 4 = .ok (.invokestatic 33, 3) := by decide +kernel
theorem dX3_passesOf_7 : decode cX3_passesOf 7 = .ok (.aload_n 0, 1) := by decide +kernel
theorem dX3_passesOf_8 : decode cX3_passesOf 8 = .ok (.getfield 9, 3) := by decide +kernel
theorem dX3_passesOf_11 : decode cX3_passesOf 11 = .ok (.invokestatic 39, 3) := by decide +kernel
theorem dX3_passesOf_14 : decode cX3_passesOf 14 = .ok (.ireturn, 1) := by decide +kernel
theorem dX3_jobAt_0 : decode cX3_jobAt 0 = .ok (.iload_n 1, 1) := by decide +kernel
theorem dX3_jobAt_1 : decode cX3_jobAt 1 = .ok (.ifCond .lt 20, 3) := by decide +kernel
theorem dX3_jobAt_4 : decode cX3_jobAt 4 = .ok (.iload_n 1, 1) := by decide +kernel
theorem dX3_jobAt_5 : decode cX3_jobAt 5 = .ok (.aload_n 0, 1) := by decide +kernel
theorem dX3_jobAt_6 : decode cX3_jobAt 6 = .ok (.getfield 43, 3) := by decide +kernel
theorem dX3_jobAt_9 : decode cX3_jobAt 9 = .ok (.if_icmp .ge 12, 3) := by decide +kernel
theorem dX3_jobAt_12 : decode cX3_jobAt 12 = .ok (.iload_n 1, 1) := by decide +kernel
theorem dX3_jobAt_13 : decode cX3_jobAt 13 = .ok (.aload_n 0, 1) := by decide +kernel
theorem dX3_jobAt_14 : decode cX3_jobAt 14 = .ok (.getfield 26, 3) := by decide +kernel
theorem dX3_jobAt_17 : decode cX3_jobAt 17 = .ok (.arraylength, 1) := by decide +kernel
theorem dX3_jobAt_18 : decode cX3_jobAt 18 = .ok (.if_icmp .lt 7, 3) := by decide +kernel
theorem dX3_jobAt_21 : decode cX3_jobAt 21 = .ok (.aconst_null, 1) := by decide +kernel
theorem dX3_jobAt_22 : decode cX3_jobAt 22 = .ok (.goto 9, 3) := by decide +kernel
theorem dX3_jobAt_25 : decode cX3_jobAt 25 = .ok (.aload_n 0, 1) := by decide +kernel
theorem dX3_jobAt_26 : decode cX3_jobAt 26 = .ok (.getfield 26, 3) := by decide +kernel
theorem dX3_jobAt_29 : decode cX3_jobAt 29 = .ok (.iload_n 1, 1) := by decide +kernel
theorem dX3_jobAt_30 : decode cX3_jobAt 30 = .ok (.aaload, 1) := by decide +kernel
theorem dX3_jobAt_31 : decode cX3_jobAt 31 = .ok (.areturn, 1) := by decide +kernel
theorem dX3_insert_0 : decode cX3_insert 0 = .ok (.iload_n 2, 1) := by decide +kernel
theorem dX3_insert_1 : decode cX3_insert 1 = .ok (.ifCond .lt 23, 3) := by decide +kernel
theorem dX3_insert_4 : decode cX3_insert 4 = .ok (.iload_n 2, 1) := by decide +kernel
theorem dX3_insert_5 : decode cX3_insert 5 = .ok (.aload_n 0, 1) := by decide +kernel
theorem dX3_insert_6 : decode cX3_insert 6 = .ok (.getfield 43, 3) := by decide +kernel
theorem dX3_insert_9 : decode cX3_insert 9 = .ok (.if_icmp .gt 15, 3) := by decide +kernel
theorem dX3_insert_12 : decode cX3_insert 12 = .ok (.aload_n 0, 1) := by decide +kernel
theorem dX3_insert_13 : decode cX3_insert 13 = .ok (.getfield 43, 3) := by decide +kernel
theorem dX3_insert_16 : decode cX3_insert 16 = .ok (.aload_n 0, 1) := by decide +kernel
theorem dX3_insert_17 : decode cX3_insert 17 = .ok (.getfield 26, 3) := by decide +kernel
theorem dX3_insert_20 : decode cX3_insert 20 = .ok (.arraylength, 1) := by decide +kernel
theorem dX3_insert_21 : decode cX3_insert 21 = .ok (.if_icmp .lt 4, 3) := by decide +kernel
theorem dX3_insert_24 : decode cX3_insert 24 = .ok (.return_, 1) := by decide +kernel
theorem dX3_insert_25 : decode cX3_insert 25 = .ok (.aload_n 0, 1) := by decide +kernel
theorem dX3_insert_26 : decode cX3_insert 26 = .ok (.getfield 43, 3) := by decide +kernel
theorem dX3_insert_29 : decode cX3_insert 29 = .ok (.istore_n 3, 1) := by decide +kernel
theorem dX3_insert_30 : decode cX3_insert 30 = .ok (.iload_n 3, 1) := by decide +kernel
theorem dX3_insert_31 : decode cX3_insert 31 = .ok (.iload_n 2, 1) := by decide +kernel
theorem dX3_insert_32 : decode cX3_insert 32 = .ok (.if_icmp .le 23, 3) := by decide +kernel
theorem dX3_insert_35 : decode cX3_insert 35 = .ok (.aload_n 0, 1) := by decide +kernel
theorem dX3_insert_36 : decode cX3_insert 36 = .ok (.getfield 26, 3) := by decide +kernel
theorem dX3_insert_39 : decode cX3_insert 39 = .ok (.iload_n 3, 1) := by decide +kernel
theorem dX3_insert_40 : decode cX3_insert 40 = .ok (.aload_n 0, 1) := by decide +kernel
theorem dX3_insert_41 : decode cX3_insert 41 = .ok (.getfield 26, 3) := by decide +kernel
theorem dX3_insert_44 : decode cX3_insert 44 = .ok (.iload_n 3, 1) := by decide +kernel
theorem dX3_insert_45 : decode cX3_insert 45 = .ok (.iconst 1, 1) := by decide +kernel
theorem dX3_insert_46 : decode cX3_insert 46 = .ok (.isub, 1) := by decide +kernel
theorem dX3_insert_47 : decode cX3_insert 47 = .ok (.aaload, 1) := by decide +kernel
theorem dX3_insert_48 : decode cX3_insert 48 = .ok (.aastore, 1) := by decide +kernel
theorem dX3_insert_49 : decode cX3_insert 49 = .ok (.iinc 3 (-1), 3) := by decide +kernel
theorem dX3_insert_52 : decode cX3_insert 52 = .ok (.goto (-22), 3) := by decide +kernel
theorem dX3_insert_55 : decode cX3_insert 55 = .ok (.aload_n 0, 1) := by decide +kernel
theorem dX3_insert_56 : decode cX3_insert 56 = .ok (.getfield 26, 3) := by decide +kernel
theorem dX3_insert_59 : decode cX3_insert 59 = .ok (.iload_n 2, 1) := by decide +kernel
theorem dX3_insert_60 : decode cX3_insert 60 = .ok (.aload_n 1, 1) := by decide +kernel
theorem dX3_insert_61 : decode cX3_insert 61 = .ok (.aastore, 1) := by decide +kernel
theorem dX3_insert_62 : decode cX3_insert 62 = .ok (.aload_n 0, 1) := by decide +kernel
theorem dX3_insert_63 : decode cX3_insert 63 = .ok (.dup, 1) := by decide +kernel
theorem dX3_insert_64 : decode cX3_insert 64 = .ok (.getfield 43, 3) := by decide +kernel
theorem dX3_insert_67 : decode cX3_insert 67 = .ok (.iconst 1, 1) := by decide +kernel
theorem dX3_insert_68 : decode cX3_insert 68 = .ok (.iadd, 1) := by decide +kernel
theorem dX3_insert_69 : decode cX3_insert 69 = .ok (.putfield 43, 3) := by decide +kernel
theorem dX3_insert_72 : decode cX3_insert 72 = .ok (.return_, 1) := by decide +kernel
theorem dX3_remove_0 : decode cX3_remove 0 = .ok (.iload_n 1, 1) := by decide +kernel
theorem dX3_remove_1 : decode cX3_remove 1 = .ok (.ifCond .lt 23, 3) := by decide +kernel
theorem dX3_remove_4 : decode cX3_remove 4 = .ok (.iload_n 1, 1) := by decide +kernel
theorem dX3_remove_5 : decode cX3_remove 5 = .ok (.aload_n 0, 1) := by decide +kernel
theorem dX3_remove_6 : decode cX3_remove 6 = .ok (.getfield 43, 3) := by decide +kernel
theorem dX3_remove_9 : decode cX3_remove 9 = .ok (.if_icmp .ge 15, 3) := by decide +kernel
theorem dX3_remove_12 : decode cX3_remove 12 = .ok (.aload_n 0, 1) := by decide +kernel
theorem dX3_remove_13 : decode cX3_remove 13 = .ok (.getfield 43, 3) := by decide +kernel
theorem dX3_remove_16 : decode cX3_remove 16 = .ok (.aload_n 0, 1) := by decide +kernel
theorem dX3_remove_17 : decode cX3_remove 17 = .ok (.getfield 26, 3) := by decide +kernel
theorem dX3_remove_20 : decode cX3_remove 20 = .ok (.arraylength, 1) := by decide +kernel
theorem dX3_remove_21 : decode cX3_remove 21 = .ok (.if_icmp .le 4, 3) := by decide +kernel
theorem dX3_remove_24 : decode cX3_remove 24 = .ok (.return_, 1) := by decide +kernel
theorem dX3_remove_25 : decode cX3_remove 25 = .ok (.iload_n 1, 1) := by decide +kernel
theorem dX3_remove_26 : decode cX3_remove 26 = .ok (.istore_n 2, 1) := by decide +kernel
theorem dX3_remove_27 : decode cX3_remove 27 = .ok (.iload_n 2, 1) := by decide +kernel
theorem dX3_remove_28 : decode cX3_remove 28 = .ok (.aload_n 0, 1) := by decide +kernel
theorem dX3_remove_29 : decode cX3_remove 29 = .ok (.getfield 43, 3) := by decide +kernel
theorem dX3_remove_32 : decode cX3_remove 32 = .ok (.iconst 1, 1) := by decide +kernel
theorem dX3_remove_33 : decode cX3_remove 33 = .ok (.isub, 1) := by decide +kernel
theorem dX3_remove_34 : decode cX3_remove 34 = .ok (.if_icmp .ge 23, 3) := by decide +kernel
theorem dX3_remove_37 : decode cX3_remove 37 = .ok (.aload_n 0, 1) := by decide +kernel
theorem dX3_remove_38 : decode cX3_remove 38 = .ok (.getfield 26, 3) := by decide +kernel
theorem dX3_remove_41 : decode cX3_remove 41 = .ok (.iload_n 2, 1) := by decide +kernel
theorem dX3_remove_42 : decode cX3_remove 42 = .ok (.aload_n 0, 1) := by decide +kernel
theorem dX3_remove_43 : decode cX3_remove 43 = .ok (.getfield 26, 3) := by decide +kernel
theorem dX3_remove_46 : decode cX3_remove 46 = .ok (.iload_n 2, 1) := by decide +kernel
theorem dX3_remove_47 : decode cX3_remove 47 = .ok (.iconst 1, 1) := by decide +kernel
theorem dX3_remove_48 : decode cX3_remove 48 = .ok (.iadd, 1) := by decide +kernel
theorem dX3_remove_49 : decode cX3_remove 49 = .ok (.aaload, 1) := by decide +kernel
theorem dX3_remove_50 : decode cX3_remove 50 = .ok (.aastore, 1) := by decide +kernel
theorem dX3_remove_51 : decode cX3_remove 51 = .ok (.iinc 2 1, 3) := by decide +kernel
theorem dX3_remove_54 : decode cX3_remove 54 = .ok (.goto (-27), 3) := by decide +kernel
theorem dX3_remove_57 : decode cX3_remove 57 = .ok (.aload_n 0, 1) := by decide +kernel
theorem dX3_remove_58 : decode cX3_remove 58 = .ok (.dup, 1) := by decide +kernel
theorem dX3_remove_59 : decode cX3_remove 59 = .ok (.getfield 43, 3) := by decide +kernel
theorem dX3_remove_62 : decode cX3_remove 62 = .ok (.iconst 1, 1) := by decide +kernel
theorem dX3_remove_63 : decode cX3_remove 63 = .ok (.isub, 1) := by decide +kernel
theorem dX3_remove_64 : decode cX3_remove 64 = .ok (.putfield 43, 3) := by decide +kernel
theorem dX3_remove_67 : decode cX3_remove 67 = .ok (.aload_n 0, 1) := by decide +kernel
theorem dX3_remove_68 : decode cX3_remove 68 = .ok (.getfield 26, 3) := by decide +kernel
theorem dX3_remove_71 : decode cX3_remove 71 = .ok (.aload_n 0, 1) := by decide +kernel
theorem dX3_remove_72 : decode cX3_remove 72 = .ok (.getfield 43, 3) := by decide +kernel
theorem dX3_remove_75 : decode cX3_remove 75 = .ok (.aconst_null, 1) := by decide +kernel
theorem dX3_remove_76 : decode cX3_remove 76 = .ok (.aastore, 1) := by decide +kernel
theorem dX3_remove_77 : decode cX3_remove 77 = .ok (.return_, 1) := by decide +kernel
theorem dX3_bringLeastChangeAhead_0 : decode cX3_bringLeastChangeAhead 0 = .ok (.aload_n 0, 1) := by decide +kernel
theorem dX3_bringLeastChangeAhead_1 : decode cX3_bringLeastChangeAhead 1 = .ok (.getfield 46, 3) := by decide +kernel
theorem dX3_bringLeastChangeAhead_4 : decode cX3_bringLeastChangeAhead 4 = .ok (.istore_n 1, 1) := by decide +kernel
theorem dX3_bringLeastChangeAhead_5 : decode cX3_bringLeastChangeAhead 5 = .ok (.aload_n 0, 1) := by decide +kernel
theorem dX3_bringLeastChangeAhead_6 : decode cX3_bringLeastChangeAhead 6 = .ok (.getfield 43, 3) := by decide +kernel
theorem dX3_bringLeastChangeAhead_9 : decode cX3_bringLeastChangeAhead 9 = .ok (.istore_n 2, 1) := by decide +kernel
theorem dX3_bringLeastChangeAhead_10 : decode cX3_bringLeastChangeAhead 10 = .ok (.iconst 0, 1) := by decide +kernel
theorem dX3_bringLeastChangeAhead_11 : decode cX3_bringLeastChangeAhead 11 = .ok (.istore_n 3, 1) := by decide +kernel
theorem dX3_bringLeastChangeAhead_12 : decode cX3_bringLeastChangeAhead 12 = .ok (.iload_n 3, 1) := by decide +kernel
theorem dX3_bringLeastChangeAhead_13 : decode cX3_bringLeastChangeAhead 13 = .ok (.iload_n 2, 1) := by decide +kernel
theorem dX3_bringLeastChangeAhead_14 : decode cX3_bringLeastChangeAhead 14 = .ok (.if_icmp .ge 49, 3) := by decide +kernel
theorem dX3_bringLeastChangeAhead_17 : decode cX3_bringLeastChangeAhead 17 = .ok (.aload_n 0, 1) := by decide +kernel
theorem dX3_bringLeastChangeAhead_18 : decode cX3_bringLeastChangeAhead 18 = .ok (.iload_n 3, 1) := by decide +kernel
theorem dX3_bringLeastChangeAhead_19 : decode cX3_bringLeastChangeAhead 19 = .ok (.iload_n 1, 1) := by decide +kernel
theorem dX3_bringLeastChangeAhead_20 : decode cX3_bringLeastChangeAhead 20 = .ok (.invokevirtual 47, 3) := by decide +kernel
theorem dX3_bringLeastChangeAhead_23 : decode cX3_bringLeastChangeAhead 23 = .ok (.istore 4, 2) := by decide +kernel
theorem dX3_bringLeastChangeAhead_25 : decode cX3_bringLeastChangeAhead 25 = .ok (.aload_n 0, 1) := by decide +kernel
theorem dX3_bringLeastChangeAhead_26 : decode cX3_bringLeastChangeAhead 26 = .ok (.iload 4, 2) := by decide +kernel
theorem dX3_bringLeastChangeAhead_28 : decode cX3_bringLeastChangeAhead 28 = .ok (.invokevirtual 50, 3) := by decide +kernel
theorem dX3_bringLeastChangeAhead_31 : decode cX3_bringLeastChangeAhead 31 = .ok (.astore 5, 2) := by decide +kernel
theorem dX3_bringLeastChangeAhead_33 : decode cX3_bringLeastChangeAhead 33 = .ok (.aload 5, 2) := by decide +kernel
theorem dX3_bringLeastChangeAhead_35 : decode cX3_bringLeastChangeAhead 35 = .ok (.ifnull 22, 3) := by decide +kernel
theorem dX3_bringLeastChangeAhead_38 : decode cX3_bringLeastChangeAhead 38 = .ok (.aload_n 0, 1) := by decide +kernel
theorem dX3_bringLeastChangeAhead_39 : decode cX3_bringLeastChangeAhead 39 = .ok (.iload 4, 2) := by decide +kernel
theorem dX3_bringLeastChangeAhead_41 : decode cX3_bringLeastChangeAhead 41 = .ok (.invokevirtual 54, 3) := by decide +kernel
theorem dX3_bringLeastChangeAhead_44 : decode cX3_bringLeastChangeAhead 44 = .ok (.aload_n 0, 1) := by decide +kernel
theorem dX3_bringLeastChangeAhead_45 : decode cX3_bringLeastChangeAhead 45 = .ok (.aload 5, 2) := by decide +kernel
theorem dX3_bringLeastChangeAhead_47 : decode cX3_bringLeastChangeAhead 47 = .ok (.iload_n 3, 1) := by decide +kernel
theorem dX3_bringLeastChangeAhead_48 : decode cX3_bringLeastChangeAhead 48 = .ok (.invokevirtual 58, 3) := by decide +kernel
theorem dX3_bringLeastChangeAhead_51 : decode cX3_bringLeastChangeAhead 51 = .ok (.aload 5, 2) := by decide +kernel
theorem dX3_bringLeastChangeAhead_53 : decode cX3_bringLeastChangeAhead 53 = .ok (.getfield 30, 3) := by decide +kernel
theorem dX3_bringLeastChangeAhead_56 : decode cX3_bringLeastChangeAhead 56 = .ok (.istore_n 1, 1) := by decide +kernel
theorem dX3_bringLeastChangeAhead_57 : decode cX3_bringLeastChangeAhead 57 = .ok (.iinc 3 1, 3) := by decide +kernel
theorem dX3_bringLeastChangeAhead_60 : decode cX3_bringLeastChangeAhead 60 = .ok (.goto (-48), 3) := by decide +kernel
theorem dX3_bringLeastChangeAhead_63 : decode cX3_bringLeastChangeAhead 63 = .ok (.return_, 1) := by decide +kernel
theorem dX3_placeOfLeastChange_0 : decode cX3_placeOfLeastChange 0 = .ok (.iload_n 1, 1) := by decide +kernel
theorem dX3_placeOfLeastChange_1 : decode cX3_placeOfLeastChange 1 = .ok (.istore_n 3, 1) := by decide +kernel
theorem dX3_placeOfLeastChange_2 : decode cX3_placeOfLeastChange 2 = .ok (.ldc 62, 2) := by decide +kernel
theorem dX3_placeOfLeastChange_4 : decode cX3_placeOfLeastChange 4 = .ok (.istore 4, 2) := by decide +kernel
theorem dX3_placeOfLeastChange_6 : decode cX3_placeOfLeastChange 6 = .ok (.iload_n 1, 1) := by decide +kernel
theorem dX3_placeOfLeastChange_7 : decode cX3_placeOfLeastChange 7 = .ok (.istore 5, 2) := by decide +kernel
theorem dX3_placeOfLeastChange_9 : decode cX3_placeOfLeastChange 9 = .ok (.iload 5, 2) := by decide +kernel
theorem dX3_placeOfLeastChange_11 : decode cX3_placeOfLeastChange 11 = .ok (.aload_n 0, 1) := by decide +kernel
theorem dX3_placeOfLeastChange_12 : decode cX3_placeOfLeastChange 12 = .ok (.getfield 43, 3) := by decide +kernel
theorem dX3_placeOfLeastChange_15 : decode cX3_placeOfLeastChange 15 = .ok (.if_icmp .ge 49, 3) := by decide +kernel
theorem dX3_placeOfLeastChange_18 : decode cX3_placeOfLeastChange 18 = .ok (.aload_n 0, 1) := by decide +kernel
theorem dX3_placeOfLeastChange_19 : decode cX3_placeOfLeastChange 19 = .ok (.iload 5, 2) := by decide +kernel
theorem dX3_placeOfLeastChange_21 : decode cX3_placeOfLeastChange 21 = .ok (.invokevirtual 50, 3) := by decide +kernel
theorem dX3_placeOfLeastChange_24 : decode cX3_placeOfLeastChange 24 = .ok (.astore 6, 2) := by decide +kernel
theorem dX3_placeOfLeastChange_26 : decode cX3_placeOfLeastChange 26 = .ok (.aload 6, 2) := by decide +kernel
theorem dX3_placeOfLeastChange_28 : decode cX3_placeOfLeastChange 28 = .ok (.ifnonnull 8, 3) := by decide +kernel
theorem dX3_placeOfLeastChange_31 : decode cX3_placeOfLeastChange 31 = .ok (.ldc 62, 2) := by decide +kernel
theorem dX3_placeOfLeastChange_33 : decode cX3_placeOfLeastChange 33 = .ok (.goto 9, 3) := by decide +kernel
theorem dX3_placeOfLeastChange_36 : decode cX3_placeOfLeastChange 36 = .ok (.aload 6, 2) := by decide +kernel
theorem dX3_placeOfLeastChange_38 : decode cX3_placeOfLeastChange 38 = .ok (.iload_n 2, 1) := by decide +kernel
theorem dX3_placeOfLeastChange_39 : decode cX3_placeOfLeastChange 39 = .ok (.invokestatic 63, 3) := by decide +kernel
theorem dX3_placeOfLeastChange_42 : decode cX3_placeOfLeastChange 42 = .ok (.istore 7, 2) := by decide +kernel
theorem dX3_placeOfLeastChange_44 : decode cX3_placeOfLeastChange 44 = .ok (.iload 7, 2) := by decide +kernel
theorem dX3_placeOfLeastChange_46 : decode cX3_placeOfLeastChange 46 = .ok (.iload 4, 2) := by decide +kernel
theorem dX3_placeOfLeastChange_48 : decode cX3_placeOfLeastChange 48 = .ok (.if_icmp .ge 10, 3) := by decide +kernel
theorem dX3_placeOfLeastChange_51 : decode cX3_placeOfLeastChange 51 = .ok (.iload 5, 2) := by decide +kernel
theorem dX3_placeOfLeastChange_53 : decode cX3_placeOfLeastChange 53 = .ok (.istore_n 3, 1) := by decide +kernel
theorem dX3_placeOfLeastChange_54 : decode cX3_placeOfLeastChange 54 = .ok (.iload 7, 2) := by decide +kernel
theorem dX3_placeOfLeastChange_56 : decode cX3_placeOfLeastChange 56 = .ok (.istore 4, 2) := by decide +kernel
theorem dX3_placeOfLeastChange_58 : decode cX3_placeOfLeastChange 58 = .ok (.iinc 5 1, 3) := by decide +kernel
theorem dX3_placeOfLeastChange_61 : decode cX3_placeOfLeastChange 61 = .ok (.goto (-52), 3) := by decide +kernel
theorem dX3_placeOfLeastChange_64 : decode cX3_placeOfLeastChange 64 = .ok (.iload_n 3, 1) := by decide +kernel
theorem dX3_placeOfLeastChange_65 : decode cX3_placeOfLeastChange 65 = .ok (.ireturn, 1) := by decide +kernel
theorem dX3_learn_0 : decode cX3_learn 0 = .ok (.aload_n 0, 1) := by decide +kernel
theorem dX3_learn_1 : decode cX3_learn 1 = .ok (.aload_n 1, 1) := by decide +kernel
theorem dX3_learn_2 : decode cX3_learn 2 = .ok (.invokevirtual 67, 3) := by decide +kernel
theorem dX3_learn_5 : decode cX3_learn 5 = .ok (.istore 5, 2) := by decide +kernel
theorem dX3_learn_7 : decode cX3_learn 7 = .ok (.iload_n 2, 1) := by decide +kernel
theorem dX3_learn_8 : decode cX3_learn 8 = .ok (.aload_n 1, 1) := by decide +kernel
theorem dX3_learn_9 : decode cX3_learn 9 = .ok (.aload_n 0, 1) := by decide +kernel
theorem dX3_learn_10 : decode cX3_learn 10 = .ok (.getfield 46, 3) := by decide +kernel
theorem dX3_learn_13 : decode cX3_learn 13 = .ok (.invokestatic 63, 3) := by decide +kernel
theorem dX3_learn_16 : decode cX3_learn 16 = .ok (.isub, 1) := by decide +kernel
theorem dX3_learn_17 : decode cX3_learn 17 = .ok (.istore 6, 2) := by decide +kernel
theorem dX3_learn_19 : decode cX3_learn 19 = .ok (.iload 6, 2) := by decide +kernel
theorem dX3_learn_21 : decode cX3_learn 21 = .ok (.aload_n 0, 1) := by decide +kernel
theorem dX3_learn_22 : decode cX3_learn 22 = .ok (.getfield 15, 3) := by decide +kernel
theorem dX3_learn_25 : decode cX3_learn 25 = .ok (.iload 5, 2) := by decide +kernel
theorem dX3_learn_27 : decode cX3_learn 27 = .ok (.imul, 1) := by decide +kernel
theorem dX3_learn_28 : decode cX3_learn 28 = .ok (.isub, 1) := by decide +kernel
theorem dX3_learn_29 : decode cX3_learn 29 = .ok (.istore 7, 2) := by decide +kernel
theorem dX3_learn_31 : decode cX3_learn 31 = .ok (.iload 7, 2) := by decide +kernel
theorem dX3_learn_33 : decode cX3_learn 33 = .ok (.ifCond .lt 36, 3) := by decide +kernel
theorem dX3_learn_36 : decode cX3_learn 36 = .ok (.aload_n 0, 1) := by decide +kernel
theorem dX3_learn_37 : decode cX3_learn 37 = .ok (.iconst 3, 1) := by decide +kernel
theorem dX3_learn_38 : decode cX3_learn 38 = .ok (.aload_n 0, 1) := by decide +kernel
theorem dX3_learn_39 : decode cX3_learn 39 = .ok (.getfield 18, 3) := by decide +kernel
theorem dX3_learn_42 : decode cX3_learn 42 = .ok (.imul, 1) := by decide +kernel
theorem dX3_learn_43 : decode cX3_learn 43 = .ok (.iload 7, 2) := by decide +kernel
theorem dX3_learn_45 : decode cX3_learn 45 = .ok (.sipush 1000, 3) := by decide +kernel
theorem dX3_learn_48 : decode cX3_learn 48 = .ok (.imul, 1) := by decide +kernel
theorem dX3_learn_49 : decode cX3_learn 49 = .ok (.iload 4, 2) := by decide +kernel
theorem dX3_learn_51 : decode cX3_learn 51 = .ok (.iload 5, 2) := by decide +kernel
theorem dX3_learn_53 : decode cX3_learn 53 = .ok (.imul, 1) := by decide +kernel
theorem dX3_learn_54 : decode cX3_learn 54 = .ok (.invokestatic 71, 3) := by decide +kernel
theorem dX3_learn_57 : decode cX3_learn 57 = .ok (.iadd, 1) := by decide +kernel
theorem dX3_learn_58 : decode cX3_learn 58 = .ok (.iconst 4, 1) := by decide +kernel
theorem dX3_learn_59 : decode cX3_learn 59 = .ok (.idiv, 1) := by decide +kernel
theorem dX3_learn_60 : decode cX3_learn 60 = .ok (.invokestatic 74, 3) := by decide +kernel
theorem dX3_learn_63 : decode cX3_learn 63 = .ok (.putfield 18, 3) := by decide +kernel
theorem dX3_learn_66 : decode cX3_learn 66 = .ok (.goto 30, 3) := by decide +kernel
theorem dX3_learn_69 : decode cX3_learn 69 = .ok (.aload_n 0, 1) := by decide +kernel
theorem dX3_learn_70 : decode cX3_learn 70 = .ok (.iconst 3, 1) := by decide +kernel
theorem dX3_learn_71 : decode cX3_learn 71 = .ok (.aload_n 0, 1) := by decide +kernel
theorem dX3_learn_72 : decode cX3_learn 72 = .ok (.getfield 15, 3) := by decide +kernel
theorem dX3_learn_75 : decode cX3_learn 75 = .ok (.imul, 1) := by decide +kernel
theorem dX3_learn_76 : decode cX3_learn 76 = .ok (.iload 6, 2) := by decide +kernel
theorem dX3_learn_78 : decode cX3_learn 78 = .ok (.iconst 0, 1) := by decide +kernel
theorem dX3_learn_79 : decode cX3_learn 79 = .ok (.invokestatic 77, 3) := by decide +kernel
theorem dX3_learn_82 : decode cX3_learn 82 = .ok (.iload 5, 2) := by decide +kernel
theorem dX3_learn_84 : decode cX3_learn 84 = .ok (.invokestatic 71, 3) := by decide +kernel
theorem dX3_learn_87 : decode cX3_learn 87 = .ok (.iadd, 1) := by decide +kernel
theorem dX3_learn_88 : decode cX3_learn 88 = .ok (.iconst 4, 1) := by decide +kernel
theorem dX3_learn_89 : decode cX3_learn 89 = .ok (.idiv, 1) := by decide +kernel
theorem dX3_learn_90 : decode cX3_learn 90 = .ok (.invokestatic 74, 3) := by decide +kernel
theorem dX3_learn_93 : decode cX3_learn 93 = .ok (.putfield 15, 3) := by decide +kernel
theorem dX3_learn_96 : decode cX3_learn 96 = .ok (.aload_n 0, 1) := by decide +kernel
theorem dX3_learn_97 : decode cX3_learn 97 = .ok (.iconst 3, 1) := by decide +kernel
theorem dX3_learn_98 : decode cX3_learn 98 = .ok (.aload_n 0, 1) := by decide +kernel
theorem dX3_learn_99 : decode cX3_learn 99 = .ok (.getfield 21, 3) := by decide +kernel
theorem dX3_learn_102 : decode cX3_learn 102 = .ok (.imul, 1) := by decide +kernel
theorem dX3_learn_103 : decode cX3_learn 103 = .ok (.iload_n 3, 1) := by decide +kernel
theorem dX3_learn_104 : decode cX3_learn 104 = .ok (.sipush 1000, 3) := by decide +kernel
theorem dX3_learn_107 : decode cX3_learn 107 = .ok (.imul, 1) := by decide +kernel
theorem dX3_learn_108 : decode cX3_learn 108 = .ok (.iload 4, 2) := by decide +kernel
theorem dX3_learn_110 : decode cX3_learn 110 = .ok (.invokestatic 71, 3) := by decide +kernel
theorem dX3_learn_113 : decode cX3_learn 113 = .ok (.iadd, 1) := by decide +kernel
theorem dX3_learn_114 : decode cX3_learn 114 = .ok (.iconst 4, 1) := by decide +kernel
theorem dX3_learn_115 : decode cX3_learn 115 = .ok (.idiv, 1) := by decide +kernel
theorem dX3_learn_116 : decode cX3_learn 116 = .ok (.sipush 999, 3) := by decide +kernel
theorem dX3_learn_119 : decode cX3_learn 119 = .ok (.invokestatic 82, 3) := by decide +kernel
theorem dX3_learn_122 : decode cX3_learn 122 = .ok (.putfield 21, 3) := by decide +kernel
theorem dX3_learn_125 : decode cX3_learn 125 = .ok (.aload_n 0, 1) := by decide +kernel
theorem dX3_learn_126 : decode cX3_learn 126 = .ok (.aload_n 1, 1) := by decide +kernel
theorem dX3_learn_127 : decode cX3_learn 127 = .ok (.getfield 30, 3) := by decide +kernel
theorem dX3_learn_130 : decode cX3_learn 130 = .ok (.putfield 46, 3) := by decide +kernel
theorem dX3_learn_133 : decode cX3_learn 133 = .ok (.return_, 1) := by decide +kernel
theorem dX3_rateOf_0 : decode cX3_rateOf 0 = .ok (.iconst 1, 1) := by decide +kernel
theorem dX3_rateOf_1 : decode cX3_rateOf 1 = .ok (.iload_n 0, 1) := by decide +kernel
theorem dX3_rateOf_2 : decode cX3_rateOf 2 = .ok (.sipush 999, 3) := by decide +kernel
theorem dX3_rateOf_5 : decode cX3_rateOf 5 = .ok (.invokestatic 82, 3) := by decide +kernel
theorem dX3_rateOf_8 : decode cX3_rateOf 8 = .ok (.invokestatic 77, 3) := by decide +kernel
theorem dX3_rateOf_11 : decode cX3_rateOf 11 = .ok (.ireturn, 1) := by decide +kernel
theorem dX4_init_0 : decode cX4_init 0 = .ok (.aload_n 0, 1) := by decide +kernel
theorem dX4_init_1 : decode cX4_init 1 = .ok (.invokespecial 1, 3) := by decide +kernel
theorem dX4_init_4 : decode cX4_init 4 = .ok (.aload_n 0, 1) := by decide +kernel
theorem dX4_init_5 : decode cX4_init 5 = .ok (.iconst 4, 1) := by decide +kernel
theorem dX4_init_6 : decode cX4_init 6 = .ok (.anewarray 9, 3) := by decide +kernel
theorem dX4_init_9 : decode cX4_init 9 = .ok (.putfield 11, 3) := by decide +kernel
theorem dX4_init_12 : decode cX4_init 12 = .ok (.iconst 0, 1) := by decide +kernel
theorem dX4_init_13 : decode cX4_init 13 = .ok (.istore_n 1, 1) := by decide +kernel
theorem dX4_init_14 : decode cX4_init 14 = .ok (.iload_n 1, 1) := by decide +kernel
theorem dX4_init_15 : decode cX4_init 15 = .ok (.aload_n 0, 1) := by decide +kernel
theorem dX4_init_16 : decode cX4_init 16 = .ok (.getfield 11, 3) := by decide +kernel
theorem dX4_init_19 : decode cX4_init 19 = .ok (.arraylength, 1) := by decide +kernel
theorem dX4_init_20 : decode cX4_init 20 = .ok (.if_icmp .ge 22, 3) := by decide +kernel
theorem dX4_init_23 : decode cX4_init 23 = .ok (.aload_n 0, 1) := by decide +kernel
theorem dX4_init_24 : decode cX4_init 24 = .ok (.getfield 11, 3) := by decide +kernel
theorem dX4_init_27 : decode cX4_init 27 = .ok (.iload_n 1, 1) := by decide +kernel
theorem dX4_init_28 : decode cX4_init 28 = .ok (.new 9, 3) := by decide +kernel
theorem dX4_init_31 : decode cX4_init 31 = .ok (.dup, 1) := by decide +kernel
theorem dX4_init_32 : decode cX4_init 32 = .ok (.invokespecial 15, 3) := by decide +kernel
theorem dX4_init_35 : decode cX4_init 35 = .ok (.aastore, 1) := by decide +kernel
theorem dX4_init_36 : decode cX4_init 36 = .ok (.iinc 1 1, 3) := by decide +kernel
theorem dX4_init_39 : decode cX4_init 39 = .ok (.goto (-25), 3) := by decide +kernel
theorem dX4_init_42 : decode cX4_init 42 = .ok (.aload_n 0, 1) := by decide +kernel
theorem dX4_init_43 : decode cX4_init 43 = .ok (.iconst 3, 1) := by decide +kernel
theorem dX4_init_44 : decode cX4_init 44 = .ok (.anewarray 16, 3) := by decide +kernel
theorem dX4_init_47 : decode cX4_init 47 = .ok (.putfield 18, 3) := by decide +kernel
theorem dX4_init_50 : decode cX4_init 50 = .ok (.iconst 0, 1) := by decide +kernel
theorem dX4_init_51 : decode cX4_init 51 = .ok (.istore_n 1, 1) := by decide +kernel
theorem dX4_init_52 : decode cX4_init 52 = .ok (.iload_n 1, 1) := by decide +kernel
theorem dX4_init_53 : decode cX4_init 53 = .ok (.aload_n 0, 1) := by decide +kernel
theorem dX4_init_54 : decode cX4_init 54 = .ok (.getfield 18, 3) := by decide +kernel
theorem dX4_init_57 : decode cX4_init 57 = .ok (.arraylength, 1) := by decide +kernel
theorem dX4_init_58 : decode cX4_init 58 = .ok (.if_icmp .ge 22, 3) := by decide +kernel
theorem dX4_init_61 : decode cX4_init 61 = .ok (.aload_n 0, 1) := by decide +kernel
theorem dX4_init_62 : decode cX4_init 62 = .ok (.getfield 18, 3) := by decide +kernel
theorem dX4_init_65 : decode cX4_init 65 = .ok (.iload_n 1, 1) := by decide +kernel
theorem dX4_init_66 : decode cX4_init 66 = .ok (.new 16, 3) := by decide +kernel
theorem dX4_init_69 : decode cX4_init 69 = .ok (.dup, 1) := by decide +kernel
theorem dX4_init_70 : decode cX4_init 70 = .ok (.invokespecial 22, 3) := by decide +kernel
theorem dX4_init_73 : decode cX4_init 73 = .ok (.aastore, 1) := by decide +kernel
theorem dX4_init_74 : decode cX4_init 74 = .ok (.iinc 1 1, 3) := by decide +kernel
theorem dX4_init_77 : decode cX4_init 77 = .ok (.goto (-25), 3) := by decide +kernel
theorem dX4_init_80 : decode cX4_init 80 = .ok (.aload_n 0, 1) := by decide +kernel
theorem dX4_init_81 : decode cX4_init 81 = .ok (.bipush 20, 2) := by decide +kernel
theorem dX4_init_83 : decode cX4_init 83 = .ok (.anewarray 23, 3) := by decide +kernel
theorem dX4_init_86 : decode cX4_init 86 = .ok (.putfield 25, 3) := by decide +kernel
theorem dX4_init_89 : decode cX4_init 89 = .ok (.aload_n 0, 1) := by decide +kernel
theorem dX4_init_90 : decode cX4_init 90 = .ok (.bipush 10, 2) := by decide +kernel
theorem dX4_init_92 : decode cX4_init 92 = .ok (.putfield 29, 3) := by decide +kernel
theorem dX4_init_95 : decode cX4_init 95 = .ok (.aload_n 0, 1) := by decide +kernel
theorem dX4_init_96 : decode cX4_init 96 = .ok (.bipush 25, 2) := by decide +kernel
theorem dX4_init_98 : decode cX4_init 98 = .ok (.putfield 33, 3) := by decide +kernel
theorem dX4_init_101 : decode cX4_init 101 = .ok (.aload_n 0, 1) := by decide +kernel
theorem dX4_init_102 : decode cX4_init 102 = .ok (.new 36, 3) := by decide +kernel
theorem dX4_init_105 : decode cX4_init 105 = .ok (.dup, 1) := by decide +kernel
theorem dX4_init_106 : decode cX4_init 106 = .ok (.invokespecial 38, 3) := by decide +kernel
theorem dX4_init_109 : decode cX4_init 109 = .ok (.putfield 39, 3) := by decide +kernel
theorem dX4_init_112 : decode cX4_init 112 = .ok (.aload_n 0, 1) := by decide +kernel
theorem dX4_init_113 : decode cX4_init 113 = .ok (.new 16, 3) := by decide +kernel
theorem dX4_init_116 : decode cX4_init 116 = .ok (.dup, 1) := by decide +kernel
theorem dX4_init_117 : decode cX4_init 117 = .ok (.invokespecial 22, 3) := by decide +kernel
theorem dX4_init_120 : decode cX4_init 120 = .ok (.putfield 43, 3) := by decide +kernel
theorem dX4_init_123 : decode cX4_init 123 = .ok (.return_, 1) := by decide +kernel
theorem dX4_paper_0 : decode cX4_paper 0 = .ok (.aload_n 0, 1) := by decide +kernel
theorem dX4_paper_1 : decode cX4_paper 1 = .ok (.iload_n 1, 1) := by decide +kernel
theorem dX4_paper_2 : decode cX4_paper 2 = .ok (.invokevirtual 47, 3) := by decide +kernel
theorem dX4_paper_5 : decode cX4_paper 5 = .ok (.astore 5, 2) := by decide +kernel
theorem dX4_paper_7 : decode cX4_paper 7 = .ok (.iload_n 2, 1) := by decide +kernel
theorem dX4_paper_8 : decode cX4_paper 8 = .ok (.bipush 20, 2) := by decide +kernel
theorem dX4_paper_10 : decode cX4_paper 10 = .ok (.bipush 99, 2) := by decide +kernel
theorem dX4_paper_12 : decode cX4_paper 12 = .ok (.invokestatic 51, 3) := by decide +kernel
theorem dX4_paper_15 : decode cX4_paper 15 = .ok (.ifCond .ne 14, 3) := by decide +kernel
theorem dX4_paper_18 : decode cX4_paper 18 = .ok (.iload_n 3, 1) := by decide +kernel
theorem dX4_paper_19 : decode cX4_paper 19 = .ok (.bipush 20, 2) := by decide +kernel
theorem dX4_paper_21 : decode cX4_paper 21 = .ok (.bipush 99, 2) := by decide +kernel
theorem dX4_paper_23 : decode cX4_paper 23 = .ok (.invokestatic 51, 3) := by decide +kernel
theorem dX4_paper_26 : decode cX4_paper 26 = .ok (.ifCond .eq 13, 3) := by decide +kernel
theorem dX4_paper_29 : decode cX4_paper 29 = .ok (.new 55, 3) := by decide +kernel
theorem dX4_paper_32 : decode cX4_paper 32 = .ok (.dup, 1) := by decide +kernel
theorem dX4_paper_33 : decode cX4_paper 33 = .ok (.ldc 57, 2) := by decide +kernel
theorem dX4_paper_35 : decode cX4_paper 35 = .ok (.invokespecial 59, 3) := by decide +kernel
theorem dX4_paper_38 : decode cX4_paper 38 = .ok (.athrow, 1) := by decide +kernel
theorem dX4_paper_39 : decode cX4_paper 39 = .ok (.iload 4, 2) := by decide +kernel
theorem dX4_paper_41 : decode cX4_paper 41 = .ok (.iconst 1, 1) := by decide +kernel
theorem dX4_paper_42 : decode cX4_paper 42 = .ok (.bipush 99, 2) := by decide +kernel
theorem dX4_paper_44 : decode cX4_paper 44 = .ok (.invokestatic 51, 3) := by decide +kernel
theorem dX4_paper_47 : decode cX4_paper 47 = .ok (.ifCond .eq 13, 3) := by decide +kernel
theorem dX4_paper_50 : decode cX4_paper 50 = .ok (.new 55, 3) := by decide +kernel
theorem dX4_paper_53 : decode cX4_paper 53 = .ok (.dup, 1) := by decide +kernel
theorem dX4_paper_54 : decode cX4_paper 54 = .ok (.ldc 62, 2) := by decide +kernel
theorem dX4_paper_56 : decode cX4_paper 56 = .ok (.invokespecial 59, 3) := by decide +kernel
theorem dX4_paper_59 : decode cX4_paper 59 = .ok (.athrow, 1) := by decide +kernel
theorem dX4_paper_60 : decode cX4_paper 60 = .ok (.aload 5, 2) := by decide +kernel
theorem dX4_paper_62 : decode cX4_paper 62 = .ok (.getfield 64, 3) := by decide +kernel
theorem dX4_paper_65 : decode cX4_paper 65 = .ok (.istore 6, 2) := by decide +kernel
theorem dX4_paper_67 : decode cX4_paper 67 = .ok (.aload 5, 2) := by decide +kernel
theorem dX4_paper_69 : decode cX4_paper 69 = .ok (.iload_n 2, 1) := by decide +kernel
theorem dX4_paper_70 : decode cX4_paper 70 = .ok (.putfield 67, 3) := by decide +kernel
theorem dX4_paper_73 : decode cX4_paper 73 = .ok (.aload 5, 2) := by decide +kernel
theorem dX4_paper_75 : decode cX4_paper 75 = .ok (.iload_n 3, 1) := by decide +kernel
theorem dX4_paper_76 : decode cX4_paper 76 = .ok (.putfield 70, 3) := by decide +kernel
theorem dX4_paper_79 : decode cX4_paper 79 = .ok (.aload 5, 2) := by decide +kernel
theorem dX4_paper_81 : decode cX4_paper 81 = .ok (.iload 4, 2) := by decide +kernel
theorem dX4_paper_83 : decode cX4_paper 83 = .ok (.putfield 64, 3) := by decide +kernel
theorem dX4_paper_86 : decode cX4_paper 86 = .ok (.iload 6, 2) := by decide +kernel
theorem dX4_paper_88 : decode cX4_paper 88 = .ok (.ireturn, 1) := by decide +kernel
theorem dX4_buy_0 : decode cX4_buy 0 = .ok (.aload_n 0, 1) := by decide +kernel
theorem dX4_buy_1 : decode cX4_buy 1 = .ok (.iload_n 1, 1) := by decide +kernel
theorem dX4_buy_2 : decode cX4_buy 2 = .ok (.invokevirtual 47, 3) := by decide +kernel
theorem dX4_buy_5 : decode cX4_buy 5 = .ok (.astore_n 3, 1) := by decide +kernel
theorem dX4_buy_6 : decode cX4_buy 6 = .ok (.iload_n 2, 1) := by decide +kernel
theorem dX4_buy_7 : decode cX4_buy 7 = .ok (.iconst 1, 1) := by decide +kernel
theorem dX4_buy_8 : decode cX4_buy 8 = .ok (.bipush 40, 2) := by decide +kernel
theorem dX4_buy_10 : decode cX4_buy 10 = .ok (.invokestatic 51, 3) := by decide +kernel
theorem dX4_buy_13 : decode cX4_buy 13 = .ok (.ifCond .eq 13, 3) := by decide +kernel
theorem dX4_buy_16 : decode cX4_buy 16 = .ok (.new 55, 3) := by decide +kernel
theorem dX4_buy_19 : decode cX4_buy 19 = .ok (.dup, 1) := by decide +kernel
theorem dX4_buy_20 : decode cX4_buy 20 = .ok (.ldc 73, 2) := by decide +kernel
theorem dX4_buy_22 : decode cX4_buy 22 = .ok (.invokespecial 59, 3) := by decide +kernel
theorem dX4_buy_25 : decode cX4_buy 25 = .ok (.athrow, 1) := by decide +kernel
theorem dX4_buy_26 : decode cX4_buy 26 = .ok (.iload_n 2, 1) := by decide +kernel
theorem dX4_buy_27 : decode cX4_buy 27 = .ok (.aload_n 3, 1) := by decide +kernel
theorem dX4_buy_28 : decode cX4_buy 28 = .ok (.invokevirtual 75, 3) := by decide +kernel
theorem dX4_buy_31 : decode cX4_buy 31 = .ok (.if_icmp .le 13, 3) := by decide +kernel
theorem dX4_buy_34 : decode cX4_buy 34 = .ok (.new 55, 3) := by decide +kernel
theorem dX4_buy_37 : decode cX4_buy 37 = .ok (.dup, 1) := by decide +kernel
theorem dX4_buy_38 : decode cX4_buy 38 = .ok (.ldc 79, 2) := by decide +kernel
theorem dX4_buy_40 : decode cX4_buy 40 = .ok (.invokespecial 59, 3) := by decide +kernel
theorem dX4_buy_43 : decode cX4_buy 43 = .ok (.athrow, 1) := by decide +kernel
theorem dX4_buy_44 : decode cX4_buy 44 = .ok (.aload_n 0, 1) := by decide +kernel
theorem dX4_buy_45 : decode cX4_buy 45 = .ok (.aload_n 3, 1) := by decide +kernel
theorem dX4_buy_46 : decode cX4_buy 46 = .ok (.iload_n 2, 1) := by decide +kernel
theorem dX4_buy_47 : decode cX4_buy 47 = .ok (.invokevirtual 81, 3) := by decide +kernel
theorem dX4_buy_50 : decode cX4_buy 50 = .ok (.aload_n 3, 1) := by decide +kernel
theorem dX4_buy_51 : decode cX4_buy 51 = .ok (.getfield 85, 3) := by decide +kernel
theorem dX4_buy_54 : decode cX4_buy 54 = .ok (.ireturn, 1) := by decide +kernel
theorem dX4_buyAll_0 : decode cX4_buyAll 0 = .ok (.iconst 0, 1) := by decide +kernel
theorem dX4_buyAll_1 : decode cX4_buyAll 1 = .ok (.istore_n 1, 1) := by decide +kernel
theorem dX4_buyAll_2 : decode cX4_buyAll 2 = .ok (.iconst 0, 1) := by decide +kernel
theorem dX4_buyAll_3 : decode cX4_buyAll 3 = .ok (.istore_n 2, 1) := by decide +kernel
theorem dX4_buyAll_4 : decode cX4_buyAll 4 = .ok (.iload_n 2, 1) := by decide +kernel
theorem dX4_buyAll_5 : decode cX4_buyAll 5 = .ok (.aload_n 0, 1) := by decide +kernel
theorem dX4_buyAll_6 : decode cX4_buyAll 6 = .ok (.getfield 11, 3) := by decide +kernel
theorem dX4_buyAll_9 : decode cX4_buyAll 9 = .ok (.arraylength, 1) := by decide +kernel
theorem dX4_buyAll_10 : decode cX4_buyAll 10 = .ok (.if_icmp .ge 61, 3) := by decide +kernel
theorem dX4_buyAll_13 : decode cX4_buyAll 13 = .ok (.aload_n 0, 1) := by decide +kernel
theorem dX4_buyAll_14 : decode cX4_buyAll 14 = .ok (.getfield 11, 3) := by decide +kernel
theorem dX4_buyAll_17 : decode cX4_buyAll 17 = .ok (.iload_n 2, 1) := by decide +kernel
theorem dX4_buyAll_18 : decode cX4_buyAll 18 = .ok (.aaload, 1) := by decide +kernel
theorem dX4_buyAll_19 : decode cX4_buyAll 19 = .ok (.astore_n 3, 1) := by decide +kernel
theorem dX4_buyAll_20 : decode cX4_buyAll 20 = .ok (.aload_n 3, 1) := by decide +kernel
theorem dX4_buyAll_21 : decode cX4_buyAll 21 = .ok (.ifnull 44, 3) := by decide +kernel
theorem dX4_buyAll_24 : decode cX4_buyAll 24 = .ok (.aload_n 0, 1) := by decide +kernel
theorem dX4_buyAll_25 : decode cX4_buyAll 25 = .ok (.aload_n 3, 1) := by decide +kernel
theorem dX4_buyAll_26 : decode cX4_buyAll 26 = .ok (.invokevirtual 88, 3) := by decide +kernel
theorem dX4_buyAll_29 : decode cX4_buyAll 29 = .ok (.sipush 250, 3) := by decide +kernel
theorem dX4_buyAll_32 : decode cX4_buyAll 32 = .ok (.invokestatic 92, 3) := by decide +kernel
theorem dX4_buyAll_35 : decode cX4_buyAll 35 = .ok (.istore 4, 2) := by decide +kernel
theorem dX4_buyAll_37 : decode cX4_buyAll 37 = .ok (.iload 4, 2) := by decide +kernel
theorem dX4_buyAll_39 : decode cX4_buyAll 39 = .ok (.bipush 40, 2) := by decide +kernel
theorem dX4_buyAll_41 : decode cX4_buyAll 41 = .ok (.invokestatic 96, 3) := by decide +kernel
theorem dX4_buyAll_44 : decode cX4_buyAll 44 = .ok (.aload_n 3, 1) := by decide +kernel
theorem dX4_buyAll_45 : decode cX4_buyAll 45 = .ok (.invokevirtual 75, 3) := by decide +kernel
theorem dX4_buyAll_48 : decode cX4_buyAll 48 = .ok (.invokestatic 96, 3) := by decide +kernel
theorem dX4_buyAll_51 : decode cX4_buyAll 51 = .ok (.istore 5, 2) := by decide +kernel
theorem dX4_buyAll_53 : decode cX4_buyAll 53 = .ok (.aload_n 0, 1) := by decide +kernel
theorem dX4_buyAll_54 : decode cX4_buyAll 54 = .ok (.aload_n 3, 1) := by decide +kernel
theorem dX4_buyAll_55 : decode cX4_buyAll 55 = .ok (.iload 5, 2) := by decide +kernel
theorem dX4_buyAll_57 : decode cX4_buyAll 57 = .ok (.invokevirtual 81, 3) := by decide +kernel
theorem dX4_buyAll_60 : decode cX4_buyAll 60 = .ok (.iload_n 1, 1) := by decide +kernel
theorem dX4_buyAll_61 : decode cX4_buyAll 61 = .ok (.iload 5, 2) := by decide +kernel
theorem dX4_buyAll_63 : decode cX4_buyAll 63 = .ok (.iadd, 1) := by decide +kernel
theorem dX4_buyAll_64 : decode cX4_buyAll 64 = .ok (.istore_n 1, 1) := by decide +kernel
theorem dX4_buyAll_65 : decode cX4_buyAll 65 = .ok (.iinc 2 1, 3) := by decide +kernel
theorem dX4_buyAll_68 : decode cX4_buyAll 68 = .ok (.goto (-64), 3) := by decide +kernel
theorem dX4_buyAll_71 : decode cX4_buyAll 71 = .ok (.iload_n 1, 1) := by decide +kernel
theorem dX4_buyAll_72 : decode cX4_buyAll 72 = .ok (.ireturn, 1) := by decide +kernel
theorem dX4_ofPaper_0 : decode cX4_ofPaper 0 = .ok (.aload_n 0, 1) := by decide +kernel
theorem dX4_ofPaper_1 : decode cX4_ofPaper 1 = .ok (.iload_n 1, 1) := by decide +kernel
theorem dX4_ofPaper_2 : decode cX4_ofPaper 2 = .ok (.invokevirtual 47, 3) := by decide +kernel
theorem dX4_ofPaper_5 : decode cX4_ofPaper 5 = .ok (.astore_n 3, 1) := by decide +kernel
theorem dX4_ofPaper_6 : decode cX4_ofPaper 6 = .ok (.iload_n 2, 1) := by decide +kernel
theorem dX4_ofPaper_7 : decode cX4_ofPaper 7 = .ok (.tableswitch 69 0 5 #[37, 42, 47, 52, 57, 63], 37) := by decide +kernel
theorem dX4_ofPaper_44 : decode cX4_ofPaper 44 = .ok (.aload_n 3, 1) := by decide +kernel
theorem dX4_ofPaper_45 : decode cX4_ofPaper 45 = .ok (.getfield 67, 3) := by decide +kernel
theorem dX4_ofPaper_48 : decode cX4_ofPaper 48 = .ok (.ireturn, 1) := by decide +kernel
theorem dX4_ofPaper_49 : decode cX4_ofPaper 49 = .ok (.aload_n 3, 1) := by decide +kernel
theorem dX4_ofPaper_50 : decode cX4_ofPaper 50 = .ok (.getfield 70, 3) := by decide +kernel
theorem dX4_ofPaper_53 : decode cX4_ofPaper 53 = .ok (.ireturn, 1) := by decide +kernel
theorem dX4_ofPaper_54 : decode cX4_ofPaper 54 = .ok (.aload_n 3, 1) := by decide +kernel
theorem dX4_ofPaper_55 : decode cX4_ofPaper 55 = .ok (.getfield 64, 3) := by decide +kernel
theorem dX4_ofPaper_58 : decode cX4_ofPaper 58 = .ok (.ireturn, 1) := by decide +kernel
theorem dX4_ofPaper_59 : decode cX4_ofPaper 59 = .ok (.aload_n 3, 1) := by decide +kernel
theorem dX4_ofPaper_60 : decode cX4_ofPaper 60 = .ok (.getfield 85, 3) := by decide +kernel
theorem dX4_ofPaper_63 : decode cX4_ofPaper 63 = .ok (.ireturn, 1) := by decide +kernel
theorem dX4_ofPaper_64 : decode cX4_ofPaper 64 = .ok (.aload_n 0, 1) := by decide +kernel
theorem dX4_ofPaper_65 : decode cX4_ofPaper 65 = .ok (.aload_n 3, 1) := by decide +kernel
theorem dX4_ofPaper_66 : decode cX4_ofPaper 66 = .ok (.invokevirtual 101, 3) := by decide +kernel
theorem dX4_ofPaper_69 : decode cX4_ofPaper 69 = .ok (.ireturn, 1) := by decide +kernel
theorem dX4_ofPaper_70 : decode cX4_ofPaper 70 = .ok (.aload_n 0, 1) := by decide +kernel
theorem dX4_ofPaper_71 : decode cX4_ofPaper 71 = .ok (.aload_n 3, 1) := by decide +kernel
theorem dX4_ofPaper_72 : decode cX4_ofPaper 72 = .ok (.invokevirtual 88, 3) := by decide +kernel
theorem dX4_ofPaper_75 : decode cX4_ofPaper 75 = .ok (.ireturn, 1) := by decide +kernel
theorem dX4_ofPaper_76 : decode cX4_ofPaper 76 = .ok (.new 55, 3) := by decide +kernel
theorem dX4_ofPaper_79 : decode cX4_ofPaper 79 = .ok (.dup, 1) := by decide +kernel
theorem dX4_ofPaper_80 : decode cX4_ofPaper 80 = .ok (.ldc 104, 2) := by decide +kernel
theorem dX4_ofPaper_82 : decode cX4_ofPaper 82 = .ok (.invokespecial 59, 3) := by decide +kernel
theorem dX4_ofPaper_85 : decode cX4_ofPaper 85 = .ok (.athrow, 1) := by decide +kernel
theorem dX4_bring_0 : decode cX4_bring 0 = .ok (.iload_n 2, 1) := by decide +kernel
theorem dX4_bring_1 : decode cX4_bring 1 = .ok (.sipush 250, 3) := by decide +kernel
theorem dX4_bring_4 : decode cX4_bring 4 = .ok (.imul, 1) := by decide +kernel
theorem dX4_bring_5 : decode cX4_bring 5 = .ok (.istore_n 3, 1) := by decide +kernel
theorem dX4_bring_6 : decode cX4_bring 6 = .ok (.aload_n 1, 1) := by decide +kernel
theorem dX4_bring_7 : decode cX4_bring 7 = .ok (.dup, 1) := by decide +kernel
theorem dX4_bring_8 : decode cX4_bring 8 = .ok (.getfield 85, 3) := by decide +kernel
theorem dX4_bring_11 : decode cX4_bring 11 = .ok (.iload_n 3, 1) := by decide +kernel
theorem dX4_bring_12 : decode cX4_bring 12 = .ok (.iadd, 1) := by decide +kernel
theorem dX4_bring_13 : decode cX4_bring 13 = .ok (.putfield 85, 3) := by decide +kernel
theorem dX4_bring_16 : decode cX4_bring 16 = .ok (.aload_n 0, 1) := by decide +kernel
theorem dX4_bring_17 : decode cX4_bring 17 = .ok (.dup, 1) := by decide +kernel
theorem dX4_bring_18 : decode cX4_bring 18 = .ok (.getfield 106, 3) := by decide +kernel
theorem dX4_bring_21 : decode cX4_bring 21 = .ok (.iload_n 3, 1) := by decide +kernel
theorem dX4_bring_22 : decode cX4_bring 22 = .ok (.aload_n 1, 1) := by decide +kernel
theorem dX4_bring_23 : decode cX4_bring 23 = .ok (.getfield 64, 3) := by decide +kernel
theorem dX4_bring_26 : decode cX4_bring 26 = .ok (.imul, 1) := by decide +kernel
theorem dX4_bring_27 : decode cX4_bring 27 = .ok (.isub, 1) := by decide +kernel
theorem dX4_bring_28 : decode cX4_bring 28 = .ok (.putfield 106, 3) := by decide +kernel
theorem dX4_bring_31 : decode cX4_bring 31 = .ok (.return_, 1) := by decide +kernel
theorem dX4_forecastOf_0 : decode cX4_forecastOf 0 = .ok (.iconst 0, 1) := by decide +kernel
theorem dX4_forecastOf_1 : decode cX4_forecastOf 1 = .ok (.istore_n 2, 1) := by decide +kernel
theorem dX4_forecastOf_2 : decode cX4_forecastOf 2 = .ok (.iconst 0, 1) := by decide +kernel
theorem dX4_forecastOf_3 : decode cX4_forecastOf 3 = .ok (.istore_n 3, 1) := by decide +kernel
theorem dX4_forecastOf_4 : decode cX4_forecastOf 4 = .ok (.iload_n 3, 1) := by decide +kernel
theorem dX4_forecastOf_5 : decode cX4_forecastOf 5 = .ok (.aload_n 0, 1) := by decide +kernel
theorem dX4_forecastOf_6 : decode cX4_forecastOf 6 = .ok (.getfield 18, 3) := by decide +kernel
theorem dX4_forecastOf_9 : decode cX4_forecastOf 9 = .ok (.arraylength, 1) := by decide +kernel
theorem dX4_forecastOf_10 : decode cX4_forecastOf 10 = .ok (.if_icmp .ge 32, 3) := by decide +kernel
theorem dX4_forecastOf_13 : decode cX4_forecastOf 13 = .ok (.aload_n 0, 1) := by decide +kernel
theorem dX4_forecastOf_14 : decode cX4_forecastOf 14 = .ok (.getfield 18, 3) := by decide +kernel
theorem dX4_forecastOf_17 : decode cX4_forecastOf 17 = .ok (.iload_n 3, 1) := by decide +kernel
theorem dX4_forecastOf_18 : decode cX4_forecastOf 18 = .ok (.aaload, 1) := by decide +kernel
theorem dX4_forecastOf_19 : decode cX4_forecastOf 19 = .ok (.astore 4, 2) := by decide +kernel
theorem dX4_forecastOf_21 : decode cX4_forecastOf 21 = .ok (.aload 4, 2) := by decide +kernel
theorem dX4_forecastOf_23 : decode cX4_forecastOf 23 = .ok (.ifnull 13, 3) := by decide +kernel
theorem dX4_forecastOf_26 : decode cX4_forecastOf 26 = .ok (.iload_n 2, 1) := by decide +kernel
theorem dX4_forecastOf_27 : decode cX4_forecastOf 27 = .ok (.aload_n 0, 1) := by decide +kernel
theorem dX4_forecastOf_28 : decode cX4_forecastOf 28 = .ok (.aload_n 1, 1) := by decide +kernel
theorem dX4_forecastOf_29 : decode cX4_forecastOf 29 = .ok (.aload 4, 2) := by decide +kernel
theorem dX4_forecastOf_31 : decode cX4_forecastOf 31 = .ok (.invokevirtual 109, 3) := by decide +kernel
theorem dX4_forecastOf_34 : decode cX4_forecastOf 34 = .ok (.iadd, 1) := by decide +kernel
theorem dX4_forecastOf_35 : decode cX4_forecastOf 35 = .ok (.istore_n 2, 1) := by decide +kernel
theorem dX4_forecastOf_36 : decode cX4_forecastOf 36 = .ok (.iinc 3 1, 3) := by decide +kernel
theorem dX4_forecastOf_39 : decode cX4_forecastOf 39 = .ok (.goto (-35), 3) := by decide +kernel
theorem dX4_forecastOf_42 : decode cX4_forecastOf 42 = .ok (.iload_n 2, 1) := by decide +kernel
theorem dX4_forecastOf_43 : decode cX4_forecastOf 43 = .ok (.ireturn, 1) := by decide +kernel
theorem dX4_neededOf_0 : decode cX4_neededOf 0 = .ok (.iconst 0, 1) := by decide +kernel
theorem dX4_neededOf_1 : decode cX4_neededOf 1 = .ok (.istore_n 3, 1) := by decide +kernel
theorem dX4_neededOf_2 : decode cX4_neededOf 2 = .ok (.iconst 0, 1) := by decide +kernel
theorem dX4_neededOf_3 : decode cX4_neededOf 3 = .ok (.istore 4, 2) := by decide +kernel
theorem dX4_neededOf_5 : decode cX4_neededOf 5 = .ok (.iload 4, 2) := by decide +kernel
theorem dX4_neededOf_7 : decode cX4_neededOf 7 = .ok (.aload_n 2, 1) := by decide +kernel
theorem dX4_neededOf_8 : decode cX4_neededOf 8 = .ok (.getfield 113, 3) := by decide +kernel
theorem dX4_neededOf_11 : decode cX4_neededOf 11 = .ok (.if_icmp .ge 48, 3) := by decide +kernel
theorem dX4_neededOf_14 : decode cX4_neededOf 14 = .ok (.aload_n 2, 1) := by decide +kernel
theorem dX4_neededOf_15 : decode cX4_neededOf 15 = .ok (.iload 4, 2) := by decide +kernel
theorem dX4_neededOf_17 : decode cX4_neededOf 17 = .ok (.invokevirtual 116, 3) := by decide +kernel
theorem dX4_neededOf_20 : decode cX4_neededOf 20 = .ok (.astore 5, 2) := by decide +kernel
theorem dX4_neededOf_22 : decode cX4_neededOf 22 = .ok (.aload 5, 2) := by decide +kernel
theorem dX4_neededOf_24 : decode cX4_neededOf 24 = .ok (.ifnull 29, 3) := by decide +kernel
theorem dX4_neededOf_27 : decode cX4_neededOf 27 = .ok (.aload 5, 2) := by decide +kernel
theorem dX4_neededOf_29 : decode cX4_neededOf 29 = .ok (.getfield 120, 3) := by decide +kernel
theorem dX4_neededOf_32 : decode cX4_neededOf 32 = .ok (.aload_n 1, 1) := by decide +kernel
theorem dX4_neededOf_33 : decode cX4_neededOf 33 = .ok (.if_acmp .ne 20, 3) := by decide +kernel
theorem dX4_neededOf_36 : decode cX4_neededOf 36 = .ok (.iload_n 3, 1) := by decide +kernel
theorem dX4_neededOf_37 : decode cX4_neededOf 37 = .ok (.aload_n 0, 1) := by decide +kernel
theorem dX4_neededOf_38 : decode cX4_neededOf 38 = .ok (.aload 5, 2) := by decide +kernel
theorem dX4_neededOf_40 : decode cX4_neededOf 40 = .ok (.aload_n 2, 1) := by decide +kernel
theorem dX4_neededOf_41 : decode cX4_neededOf 41 = .ok (.aload_n 2, 1) := by decide +kernel
theorem dX4_neededOf_42 : decode cX4_neededOf 42 = .ok (.getfield 124, 3) := by decide +kernel
theorem dX4_neededOf_45 : decode cX4_neededOf 45 = .ok (.invokevirtual 127, 3) := by decide +kernel
theorem dX4_neededOf_48 : decode cX4_neededOf 48 = .ok (.getfield 131, 3) := by decide +kernel
theorem dX4_neededOf_51 : decode cX4_neededOf 51 = .ok (.iadd, 1) := by decide +kernel
theorem dX4_neededOf_52 : decode cX4_neededOf 52 = .ok (.istore_n 3, 1) := by decide +kernel
theorem dX4_neededOf_53 : decode cX4_neededOf 53 = .ok (.iinc 4 1, 3) := by decide +kernel
theorem dX4_neededOf_56 : decode cX4_neededOf 56 = .ok (.goto (-51), 3) := by decide +kernel
theorem dX4_neededOf_59 : decode cX4_neededOf 59 = .ok (.iload_n 3, 1) := by decide +kernel
theorem dX4_neededOf_60 : decode cX4_neededOf 60 = .ok (.ireturn, 1) := by decide +kernel
theorem dX4_shortOf_0 : decode cX4_shortOf 0 = .ok (.aload_n 0, 1) := by decide +kernel
theorem dX4_shortOf_1 : decode cX4_shortOf 1 = .ok (.aload_n 1, 1) := by decide +kernel
theorem dX4_shortOf_2 : decode cX4_shortOf 2 = .ok (.invokevirtual 101, 3) := by decide +kernel
theorem dX4_shortOf_5 : decode cX4_shortOf 5 = .ok (.aload_n 1, 1) := by decide +kernel
theorem dX4_shortOf_6 : decode cX4_shortOf 6 = .ok (.getfield 85, 3) := by decide +kernel
theorem dX4_shortOf_9 : decode cX4_shortOf 9 = .ok (.isub, 1) := by decide +kernel
theorem dX4_shortOf_10 : decode cX4_shortOf 10 = .ok (.iconst 0, 1) := by decide +kernel
theorem dX4_shortOf_11 : decode cX4_shortOf 11 = .ok (.invokestatic 134, 3) := by decide +kernel
theorem dX4_shortOf_14 : decode cX4_shortOf 14 = .ok (.ireturn, 1) := by decide +kernel
theorem dX4_job_0 : decode cX4_job 0 = .ok (.aload_n 0, 1) := by decide +kernel
theorem dX4_job_1 : decode cX4_job 1 = .ok (.iload_n 1, 1) := by decide +kernel
theorem dX4_job_2 : decode cX4_job 2 = .ok (.invokevirtual 47, 3) := by decide +kernel
theorem dX4_job_5 : decode cX4_job 5 = .ok (.astore 6, 2) := by decide +kernel
theorem dX4_job_7 : decode cX4_job 7 = .ok (.iload_n 2, 1) := by decide +kernel
theorem dX4_job_8 : decode cX4_job 8 = .ok (.iconst 1, 1) := by decide +kernel
theorem dX4_job_9 : decode cX4_job 9 = .ok (.bipush 99, 2) := by decide +kernel
theorem dX4_job_11 : decode cX4_job 11 = .ok (.invokestatic 51, 3) := by decide +kernel
theorem dX4_job_14 : decode cX4_job 14 = .ok (.ifCond .ne 13, 3) := by decide +kernel
theorem dX4_job_17 : decode cX4_job 17 = .ok (.iload_n 3, 1) := by decide +kernel
theorem dX4_job_18 : decode cX4_job 18 = .ok (.iconst 1, 1) := by decide +kernel
theorem dX4_job_19 : decode cX4_job 19 = .ok (.bipush 99, 2) := by decide +kernel
theorem dX4_job_21 : decode cX4_job 21 = .ok (.invokestatic 51, 3) := by decide +kernel
theorem dX4_job_24 : decode cX4_job 24 = .ok (.ifCond .eq 13, 3) := by decide +kernel
theorem dX4_job_27 : decode cX4_job 27 = .ok (.new 55, 3) := by decide +kernel
theorem dX4_job_30 : decode cX4_job 30 = .ok (.dup, 1) := by decide +kernel
theorem dX4_job_31 : decode cX4_job 31 = .ok (.ldc 137, 2) := by decide +kernel
theorem dX4_job_33 : decode cX4_job 33 = .ok (.invokespecial 59, 3) := by decide +kernel
theorem dX4_job_36 : decode cX4_job 36 = .ok (.athrow, 1) := by decide +kernel
theorem dX4_job_37 : decode cX4_job 37 = .ok (.iload 4, 2) := by decide +kernel
theorem dX4_job_39 : decode cX4_job 39 = .ok (.iconst 1, 1) := by decide +kernel
theorem dX4_job_40 : decode cX4_job 40 = .ok (.sipush 9999, 3) := by decide +kernel
theorem dX4_job_43 : decode cX4_job 43 = .ok (.invokestatic 51, 3) := by decide +kernel
theorem dX4_job_46 : decode cX4_job 46 = .ok (.ifCond .eq 13, 3) := by decide +kernel
theorem dX4_job_49 : decode cX4_job 49 = .ok (.new 55, 3) := by decide +kernel
theorem dX4_job_52 : decode cX4_job 52 = .ok (.dup, 1) := by decide +kernel
theorem dX4_job_53 : decode cX4_job 53 = .ok (.ldc 139, 2) := by decide +kernel
theorem dX4_job_55 : decode cX4_job 55 = .ok (.invokespecial 59, 3) := by decide +kernel
theorem dX4_job_58 : decode cX4_job 58 = .ok (.athrow, 1) := by decide +kernel
theorem dX4_job_59 : decode cX4_job 59 = .ok (.iload 5, 2) := by decide +kernel
theorem dX4_job_61 : decode cX4_job 61 = .ok (.iconst 1, 1) := by decide +kernel
theorem dX4_job_62 : decode cX4_job 62 = .ok (.bipush 15, 2) := by decide +kernel
theorem dX4_job_64 : decode cX4_job 64 = .ok (.invokestatic 51, 3) := by decide +kernel
theorem dX4_job_67 : decode cX4_job 67 = .ok (.ifCond .eq 13, 3) := by decide +kernel
theorem dX4_job_70 : decode cX4_job 70 = .ok (.new 55, 3) := by decide +kernel
theorem dX4_job_73 : decode cX4_job 73 = .ok (.dup, 1) := by decide +kernel
theorem dX4_job_74 : decode cX4_job 74 = .ok (.ldc 141, 2) := by decide +kernel
theorem dX4_job_76 : decode cX4_job 76 = .ok (.invokespecial 59, 3) := by decide +kernel
theorem dX4_job_79 : decode cX4_job 79 = .ok (.athrow, 1) := by decide +kernel
theorem dX4_job_80 : decode cX4_job 80 = .ok (.aload 6, 2) := by decide +kernel
theorem dX4_job_82 : decode cX4_job 82 = .ok (.iload_n 2, 1) := by decide +kernel
theorem dX4_job_83 : decode cX4_job 83 = .ok (.iload_n 3, 1) := by decide +kernel
theorem dX4_job_84 : decode cX4_job 84 = .ok (.invokevirtual 143, 3) := by decide +kernel
theorem dX4_job_87 : decode cX4_job 87 = .ok (.ifCond .ne 23, 3) := by decide +kernel
theorem dX4_job_90 : decode cX4_job 90 = .ok (.aload 6, 2) := by decide +kernel
theorem dX4_job_92 : decode cX4_job 92 = .ok (.iload_n 3, 1) := by decide +kernel
theorem dX4_job_93 : decode cX4_job 93 = .ok (.iload_n 2, 1) := by decide +kernel
theorem dX4_job_94 : decode cX4_job 94 = .ok (.invokevirtual 143, 3) := by decide +kernel
theorem dX4_job_97 : decode cX4_job 97 = .ok (.ifCond .ne 13, 3) := by decide +kernel
theorem dX4_job_100 : decode cX4_job 100 = .ok (.new 55, 3) := by decide +kernel
theorem dX4_job_103 : decode cX4_job 103 = .ok (.dup, 1) := by decide +kernel
theorem dX4_job_104 : decode cX4_job 104 = .ok (.ldc 146, 2) := by decide +kernel
theorem dX4_job_106 : decode cX4_job 106 = .ok (.invokespecial 59, 3) := by decide +kernel
theorem dX4_job_109 : decode cX4_job 109 = .ok (.athrow, 1) := by decide +kernel
theorem dX4_job_110 : decode cX4_job 110 = .ok (.aload_n 0, 1) := by decide +kernel
theorem dX4_job_111 : decode cX4_job 111 = .ok (.getfield 148, 3) := by decide +kernel
theorem dX4_job_114 : decode cX4_job 114 = .ok (.istore 7, 2) := by decide +kernel
theorem dX4_job_116 : decode cX4_job 116 = .ok (.iload 7, 2) := by decide +kernel
theorem dX4_job_118 : decode cX4_job 118 = .ok (.ifCond .lt 13, 3) := by decide +kernel
theorem dX4_job_121 : decode cX4_job 121 = .ok (.iload 7, 2) := by decide +kernel
theorem dX4_job_123 : decode cX4_job 123 = .ok (.aload_n 0, 1) := by decide +kernel
theorem dX4_job_124 : decode cX4_job 124 = .ok (.getfield 25, 3) := by decide +kernel
theorem dX4_job_127 : decode cX4_job 127 = .ok (.arraylength, 1) := by decide +kernel
theorem dX4_job_128 : decode cX4_job 128 = .ok (.if_icmp .lt 13, 3) := by decide +kernel
theorem dX4_job_131 : decode cX4_job 131 = .ok (.new 151, 3) := by decide +kernel
theorem dX4_job_134 : decode cX4_job 134 = .ok (.dup, 1) := by decide +kernel
theorem dX4_job_135 : decode cX4_job 135 = .ok (.ldc 153, 2) := by decide +kernel
theorem dX4_job_137 : decode cX4_job 137 = .ok (.invokespecial 155, 3) := by decide +kernel
theorem dX4_job_140 : decode cX4_job 140 = .ok (.athrow, 1) := by decide +kernel
theorem dX4_job_141 : decode cX4_job 141 = .ok (.new 23, 3) := by decide +kernel
theorem dX4_job_144 : decode cX4_job 144 = .ok (.dup, 1) := by decide +kernel
theorem dX4_job_145 : decode cX4_job 145 = .ok (.iload 7, 2) := by decide +kernel
theorem dX4_job_147 : decode cX4_job 147 = .ok (.iload_n 1, 1) := by decide +kernel
theorem dX4_job_148 : decode cX4_job 148 = .ok (.aload 6, 2) := by decide +kernel
theorem dX4_job_150 : decode cX4_job 150 = .ok (.iload 4, 2) := by decide +kernel
theorem dX4_job_152 : decode cX4_job 152 = .ok (.iload 5, 2) := by decide +kernel
theorem dX4_job_154 : decode cX4_job 154 = .ok (.invokespecial 156, 3) := by decide +kernel
theorem dX4_job_157 : decode cX4_job 157 = .ok (.astore 8, 2) := by decide +kernel
theorem dX4_job_159 : decode cX4_job 159 = .ok (.aload 8, 2) := by decide +kernel
theorem dX4_job_161 : decode cX4_job 161 = .ok (.iload_n 2, 1) := by decide +kernel
theorem dX4_job_162 : decode cX4_job 162 = .ok (.iload_n 3, 1) := by decide +kernel
theorem dX4_job_163 : decode cX4_job 163 = .ok (.invokevirtual 159, 3) := by decide +kernel
theorem dX4_job_166 : decode cX4_job 166 = .ok (.aload_n 0, 1) := by decide +kernel
theorem dX4_job_167 : decode cX4_job 167 = .ok (.getfield 25, 3) := by decide +kernel
theorem dX4_job_170 : decode cX4_job 170 = .ok (.iload 7, 2) := by decide +kernel
theorem dX4_job_172 : decode cX4_job 172 = .ok (.aload 8, 2) := by decide +kernel
theorem dX4_job_174 : decode cX4_job 174 = .ok (.aastore, 1) := by decide +kernel
theorem dX4_job_175 : decode cX4_job 175 = .ok (.aload_n 0, 1) := by decide +kernel
theorem dX4_job_176 : decode cX4_job 176 = .ok (.iload 7, 2) := by decide +kernel
theorem dX4_job_178 : decode cX4_job 178 = .ok (.iconst 1, 1) := by decide +kernel
theorem dX4_job_179 : decode cX4_job 179 = .ok (.iadd, 1) := by decide +kernel
theorem dX4_job_180 : decode cX4_job 180 = .ok (.putfield 148, 3) := by decide +kernel
theorem dX4_job_183 : decode cX4_job 183 = .ok (.iload 7, 2) := by decide +kernel
theorem dX4_job_185 : decode cX4_job 185 = .ok (.ireturn, 1) := by decide +kernel
theorem dX4_ofJob_0 : decode cX4_ofJob 0 = .ok (.aload_n 0, 1) := by decide +kernel
theorem dX4_ofJob_1 : decode cX4_ofJob 1 = .ok (.iload_n 1, 1) := by decide +kernel
theorem dX4_ofJob_2 : decode cX4_ofJob 2 = .ok (.invokevirtual 163, 3) := by decide +kernel
theorem dX4_ofJob_5 : decode cX4_ofJob 5 = .ok (.astore_n 3, 1) := by decide +kernel
theorem dX4_ofJob_6 : decode cX4_ofJob 6 = .ok (.iload_n 2, 1) := by decide +kernel
theorem dX4_ofJob_7 : decode cX4_ofJob 7 = .ok (.tableswitch 138 0 12 #[65, 70, 75, 80, 85, 98, 103, 108, 113, 118, 123, 128, 133], 65) := by decide +kernel
theorem dX4_ofJob_72 : decode cX4_ofJob 72 = .ok (.aload_n 3, 1) := by decide +kernel
theorem dX4_ofJob_73 : decode cX4_ofJob 73 = .ok (.getfield 166, 3) := by decide +kernel
theorem dX4_ofJob_76 : decode cX4_ofJob 76 = .ok (.ireturn, 1) := by decide +kernel
theorem dX4_ofJob_77 : decode cX4_ofJob 77 = .ok (.aload_n 3, 1) := by decide +kernel
theorem dX4_ofJob_78 : decode cX4_ofJob 78 = .ok (.getfield 169, 3) := by decide +kernel
theorem dX4_ofJob_81 : decode cX4_ofJob 81 = .ok (.ireturn, 1) := by decide +kernel
theorem dX4_ofJob_82 : decode cX4_ofJob 82 = .ok (.aload_n 3, 1) := by decide +kernel
theorem dX4_ofJob_83 : decode cX4_ofJob 83 = .ok (.getfield 172, 3) := by decide +kernel
theorem dX4_ofJob_86 : decode cX4_ofJob 86 = .ok (.ireturn, 1) := by decide +kernel
theorem dX4_ofJob_87 : decode cX4_ofJob 87 = .ok (.aload_n 3, 1) := by decide +kernel
theorem dX4_ofJob_88 : decode cX4_ofJob 88 = .ok (.getfield 173, 3) := by decide +kernel
theorem dX4_ofJob_91 : decode cX4_ofJob 91 = .ok (.ireturn, 1) := by decide +kernel
theorem dX4_ofJob_92 : decode cX4_ofJob 92 = .ok (.aload_n 3, 1) := by decide +kernel
theorem dX4_ofJob_93 : decode cX4_ofJob 93 = .ok (.getfield 176, 3) := by decide +kernel
theorem dX4_ofJob_96 : decode cX4_ofJob 96 = .ok (.ifCond .eq 7, 3) := by decide +kernel
theorem dX4_ofJob_99 : decode cX4_ofJob 99 = .ok (.iconst 1, 1) := by decide +kernel
theorem dX4_ofJob_100 : decode cX4_ofJob 100 = .ok (.goto 4, 3) := by decide +kernel
theorem dX4_ofJob_103 : decode cX4_ofJob 103 = .ok (.iconst 0, 1) := by decide +kernel
theorem dX4_ofJob_104 : decode cX4_ofJob 104 = .ok (.ireturn, 1) := by decide +kernel
theorem dX4_ofJob_105 : decode cX4_ofJob 105 = .ok (.aload_n 3, 1) := by decide +kernel
theorem dX4_ofJob_106 : decode cX4_ofJob 106 = .ok (.getfield 180, 3) := by decide +kernel
theorem dX4_ofJob_109 : decode cX4_ofJob 109 = .ok (.ireturn, 1) := by decide +kernel
theorem dX4_ofJob_110 : decode cX4_ofJob 110 = .ok (.aload_n 3, 1) := by decide +kernel
theorem dX4_ofJob_111 : decode cX4_ofJob 111 = .ok (.getfield 183, 3) := by decide +kernel
theorem dX4_ofJob_114 : decode cX4_ofJob 114 = .ok (.ireturn, 1) := by decide +kernel
theorem dX4_ofJob_115 : decode cX4_ofJob 115 = .ok (.aload_n 3, 1) := by decide +kernel
theorem dX4_ofJob_116 : decode cX4_ofJob 116 = .ok (.getfield 186, 3) := by decide +kernel
theorem dX4_ofJob_119 : decode cX4_ofJob 119 = .ok (.ireturn, 1) := by decide +kernel
theorem dX4_ofJob_120 : decode cX4_ofJob 120 = .ok (.aload_n 3, 1) := by decide +kernel
theorem dX4_ofJob_121 : decode cX4_ofJob 121 = .ok (.invokevirtual 189, 3) := by decide +kernel
theorem dX4_ofJob_124 : decode cX4_ofJob 124 = .ok (.ireturn, 1) := by decide +kernel
theorem dX4_ofJob_125 : decode cX4_ofJob 125 = .ok (.aload_n 3, 1) := by decide +kernel
theorem dX4_ofJob_126 : decode cX4_ofJob 126 = .ok (.getfield 192, 3) := by decide +kernel
theorem dX4_ofJob_129 : decode cX4_ofJob 129 = .ok (.ireturn, 1) := by decide +kernel
theorem dX4_ofJob_130 : decode cX4_ofJob 130 = .ok (.aload_n 3, 1) := by decide +kernel
theorem dX4_ofJob_131 : decode cX4_ofJob 131 = .ok (.getfield 195, 3) := by decide +kernel
theorem dX4_ofJob_134 : decode cX4_ofJob 134 = .ok (.ireturn, 1) := by decide +kernel
theorem dX4_ofJob_135 : decode cX4_ofJob 135 = .ok (.aload_n 3, 1) := by decide +kernel
theorem dX4_ofJob_136 : decode cX4_ofJob 136 = .ok (.getfield 198, 3) := by decide +kernel
theorem dX4_ofJob_139 : decode cX4_ofJob 139 = .ok (.ireturn, 1) := by decide +kernel
theorem dX4_ofJob_140 : decode cX4_ofJob 140 = .ok (.aload_n 3, 1) := by decide +kernel
theorem dX4_ofJob_141 : decode cX4_ofJob 141 = .ok (.getfield 201, 3) := by decide +kernel
theorem dX4_ofJob_144 : decode cX4_ofJob 144 = .ok (.ireturn, 1) := by decide +kernel
theorem dX4_ofJob_145 : decode cX4_ofJob 145 = .ok (.new 55, 3) := by decide +kernel
theorem dX4_ofJob_148 : decode cX4_ofJob 148 = .ok (.dup, 1) := by decide +kernel
theorem dX4_ofJob_149 : decode cX4_ofJob 149 = .ok (.ldc 204, 2) := by decide +kernel
theorem dX4_ofJob_151 : decode cX4_ofJob 151 = .ok (.invokespecial 59, 3) := by decide +kernel
theorem dX4_ofJob_154 : decode cX4_ofJob 154 = .ok (.athrow, 1) := by decide +kernel
theorem dX4_expected_0 : decode cX4_expected 0 = .ok (.aload_n 0, 1) := by decide +kernel
theorem dX4_expected_1 : decode cX4_expected 1 = .ok (.iload_n 1, 1) := by decide +kernel
theorem dX4_expected_2 : decode cX4_expected 2 = .ok (.invokevirtual 163, 3) := by decide +kernel
theorem dX4_expected_5 : decode cX4_expected 5 = .ok (.astore 4, 2) := by decide +kernel
theorem dX4_expected_7 : decode cX4_expected 7 = .ok (.aload_n 0, 1) := by decide +kernel
theorem dX4_expected_8 : decode cX4_expected 8 = .ok (.iload_n 2, 1) := by decide +kernel
theorem dX4_expected_9 : decode cX4_expected 9 = .ok (.invokevirtual 206, 3) := by decide +kernel
theorem dX4_expected_12 : decode cX4_expected 12 = .ok (.astore 5, 2) := by decide +kernel
theorem dX4_expected_14 : decode cX4_expected 14 = .ok (.aload_n 0, 1) := by decide +kernel
theorem dX4_expected_15 : decode cX4_expected 15 = .ok (.aload 4, 2) := by decide +kernel
theorem dX4_expected_17 : decode cX4_expected 17 = .ok (.aload 5, 2) := by decide +kernel
theorem dX4_expected_19 : decode cX4_expected 19 = .ok (.aload 5, 2) := by decide +kernel
theorem dX4_expected_21 : decode cX4_expected 21 = .ok (.getfield 124, 3) := by decide +kernel
theorem dX4_expected_24 : decode cX4_expected 24 = .ok (.invokevirtual 127, 3) := by decide +kernel
theorem dX4_expected_27 : decode cX4_expected 27 = .ok (.astore 6, 2) := by decide +kernel
theorem dX4_expected_29 : decode cX4_expected 29 = .ok (.iload_n 3, 1) := by decide +kernel
theorem dX4_expected_30 : decode cX4_expected 30 = .ok (.tableswitch 84 0 6 #[42, 48, 54, 60, 66, 72, 78], 42) := by decide +kernel
theorem dX4_expected_72 : decode cX4_expected 72 = .ok (.aload 6, 2) := by decide +kernel
theorem dX4_expected_74 : decode cX4_expected 74 = .ok (.getfield 210, 3) := by decide +kernel
theorem dX4_expected_77 : decode cX4_expected 77 = .ok (.ireturn, 1) := by decide +kernel
theorem dX4_expected_78 : decode cX4_expected 78 = .ok (.aload 6, 2) := by decide +kernel
theorem dX4_expected_80 : decode cX4_expected 80 = .ok (.getfield 213, 3) := by decide +kernel
theorem dX4_expected_83 : decode cX4_expected 83 = .ok (.ireturn, 1) := by decide +kernel
theorem dX4_expected_84 : decode cX4_expected 84 = .ok (.aload 6, 2) := by decide +kernel
theorem dX4_expected_86 : decode cX4_expected 86 = .ok (.getfield 216, 3) := by decide +kernel
theorem dX4_expected_89 : decode cX4_expected 89 = .ok (.ireturn, 1) := by decide +kernel
theorem dX4_expected_90 : decode cX4_expected 90 = .ok (.aload 6, 2) := by decide +kernel
theorem dX4_expected_92 : decode cX4_expected 92 = .ok (.getfield 131, 3) := by decide +kernel
theorem dX4_expected_95 : decode cX4_expected 95 = .ok (.ireturn, 1) := by decide +kernel
theorem dX4_expected_96 : decode cX4_expected 96 = .ok (.aload 6, 2) := by decide +kernel
theorem dX4_expected_98 : decode cX4_expected 98 = .ok (.getfield 219, 3) := by decide +kernel
theorem dX4_expected_101 : decode cX4_expected 101 = .ok (.ireturn, 1) := by decide +kernel
theorem dX4_expected_102 : decode cX4_expected 102 = .ok (.aload 6, 2) := by decide +kernel
theorem dX4_expected_104 : decode cX4_expected 104 = .ok (.getfield 222, 3) := by decide +kernel
theorem dX4_expected_107 : decode cX4_expected 107 = .ok (.ireturn, 1) := by decide +kernel
theorem dX4_expected_108 : decode cX4_expected 108 = .ok (.aload 6, 2) := by decide +kernel
theorem dX4_expected_110 : decode cX4_expected 110 = .ok (.getfield 223, 3) := by decide +kernel
theorem dX4_expected_113 : decode cX4_expected 113 = .ok (.ireturn, 1) := by decide +kernel
theorem dX4_expected_114 : decode cX4_expected 114 = .ok (.new 55, 3) := by decide +kernel
theorem dX4_expected_117 : decode cX4_expected 117 = .ok (.dup, 1) := by decide +kernel
theorem dX4_expected_118 : decode cX4_expected 118 = .ok (.ldc 224, 2) := by decide +kernel
theorem dX4_expected_120 : decode cX4_expected 120 = .ok (.invokespecial 59, 3) := by decide +kernel
theorem dX4_expected_123 : decode cX4_expected 123 = .ok (.athrow, 1) := by decide +kernel
theorem dX4_order_0 : decode cX4_order 0 = .ok (.aload_n 0, 1) := by decide +kernel
theorem dX4_order_1 : decode cX4_order 1 = .ok (.iload_n 1, 1) := by decide +kernel
theorem dX4_order_2 : decode cX4_order 2 = .ok (.invokevirtual 163, 3) := by decide +kernel
theorem dX4_order_5 : decode cX4_order 5 = .ok (.astore_n 3, 1) := by decide +kernel
theorem dX4_order_6 : decode cX4_order 6 = .ok (.aload_n 0, 1) := by decide +kernel
theorem dX4_order_7 : decode cX4_order 7 = .ok (.iload_n 2, 1) := by decide +kernel
theorem dX4_order_8 : decode cX4_order 8 = .ok (.invokevirtual 206, 3) := by decide +kernel
theorem dX4_order_11 : decode cX4_order 11 = .ok (.astore 4, 2) := by decide +kernel
theorem dX4_order_13 : decode cX4_order 13 = .ok (.aload_n 3, 1) := by decide +kernel
theorem dX4_order_14 : decode cX4_order 14 = .ok (.getfield 183, 3) := by decide +kernel
theorem dX4_order_17 : decode cX4_order 17 = .ok (.ifCond .eq 13, 3) := by decide +kernel
theorem dX4_order_20 : decode cX4_order 20 = .ok (.new 151, 3) := by decide +kernel
theorem dX4_order_23 : decode cX4_order 23 = .ok (.dup, 1) := by decide +kernel
theorem dX4_order_24 : decode cX4_order 24 = .ok (.ldc 226, 2) := by decide +kernel
theorem dX4_order_26 : decode cX4_order 26 = .ok (.invokespecial 155, 3) := by decide +kernel
theorem dX4_order_29 : decode cX4_order 29 = .ok (.athrow, 1) := by decide +kernel
theorem dX4_order_30 : decode cX4_order 30 = .ok (.aload_n 3, 1) := by decide +kernel
theorem dX4_order_31 : decode cX4_order 31 = .ok (.aload_n 0, 1) := by decide +kernel
theorem dX4_order_32 : decode cX4_order 32 = .ok (.aload_n 3, 1) := by decide +kernel
theorem dX4_order_33 : decode cX4_order 33 = .ok (.aload 4, 2) := by decide +kernel
theorem dX4_order_35 : decode cX4_order 35 = .ok (.aload 4, 2) := by decide +kernel
theorem dX4_order_37 : decode cX4_order 37 = .ok (.getfield 124, 3) := by decide +kernel
theorem dX4_order_40 : decode cX4_order 40 = .ok (.invokevirtual 127, 3) := by decide +kernel
theorem dX4_order_43 : decode cX4_order 43 = .ok (.getfield 223, 3) := by decide +kernel
theorem dX4_order_46 : decode cX4_order 46 = .ok (.putfield 192, 3) := by decide +kernel
theorem dX4_order_49 : decode cX4_order 49 = .ok (.aload_n 3, 1) := by decide +kernel
theorem dX4_order_50 : decode cX4_order 50 = .ok (.iload_n 2, 1) := by decide +kernel
theorem dX4_order_51 : decode cX4_order 51 = .ok (.putfield 201, 3) := by decide +kernel
theorem dX4_order_54 : decode cX4_order 54 = .ok (.aload_n 3, 1) := by decide +kernel
theorem dX4_order_55 : decode cX4_order 55 = .ok (.iconst 1, 1) := by decide +kernel
theorem dX4_order_56 : decode cX4_order 56 = .ok (.putfield 183, 3) := by decide +kernel
theorem dX4_order_59 : decode cX4_order 59 = .ok (.aload 4, 2) := by decide +kernel
theorem dX4_order_61 : decode cX4_order 61 = .ok (.aload_n 3, 1) := by decide +kernel
theorem dX4_order_62 : decode cX4_order 62 = .ok (.aload 4, 2) := by decide +kernel
theorem dX4_order_64 : decode cX4_order 64 = .ok (.getfield 113, 3) := by decide +kernel
theorem dX4_order_67 : decode cX4_order 67 = .ok (.invokevirtual 228, 3) := by decide +kernel
theorem dX4_order_70 : decode cX4_order 70 = .ok (.aload_n 3, 1) := by decide +kernel
theorem dX4_order_71 : decode cX4_order 71 = .ok (.getfield 192, 3) := by decide +kernel
theorem dX4_order_74 : decode cX4_order 74 = .ok (.ireturn, 1) := by decide +kernel
theorem dX4_again_0 : decode cX4_again 0 = .ok (.aload_n 0, 1) := by decide +kernel
theorem dX4_again_1 : decode cX4_again 1 = .ok (.iload_n 1, 1) := by decide +kernel
theorem dX4_again_2 : decode cX4_again 2 = .ok (.invokevirtual 163, 3) := by decide +kernel
theorem dX4_again_5 : decode cX4_again 5 = .ok (.astore_n 2, 1) := by decide +kernel
theorem dX4_again_6 : decode cX4_again 6 = .ok (.aload_n 2, 1) := by decide +kernel
theorem dX4_again_7 : decode cX4_again 7 = .ok (.getfield 183, 3) := by decide +kernel
theorem dX4_again_10 : decode cX4_again 10 = .ok (.iconst 2, 1) := by decide +kernel
theorem dX4_again_11 : decode cX4_again 11 = .ok (.if_icmp .eq 13, 3) := by decide +kernel
theorem dX4_again_14 : decode cX4_again 14 = .ok (.new 151, 3) := by decide +kernel
theorem dX4_again_17 : decode cX4_again 17 = .ok (.dup, 1) := by decide +kernel
theorem dX4_again_18 : decode cX4_again 18 = .ok (.ldc 232, 2) := by decide +kernel
theorem dX4_again_20 : decode cX4_again 20 = .ok (.invokespecial 155, 3) := by decide +kernel
theorem dX4_again_23 : decode cX4_again 23 = .ok (.athrow, 1) := by decide +kernel
theorem dX4_again_24 : decode cX4_again 24 = .ok (.aload_n 2, 1) := by decide +kernel
theorem dX4_again_25 : decode cX4_again 25 = .ok (.getfield 186, 3) := by decide +kernel
theorem dX4_again_28 : decode cX4_again 28 = .ok (.aload_n 2, 1) := by decide +kernel
theorem dX4_again_29 : decode cX4_again 29 = .ok (.getfield 169, 3) := by decide +kernel
theorem dX4_again_32 : decode cX4_again 32 = .ok (.if_icmp .lt 13, 3) := by decide +kernel
theorem dX4_again_35 : decode cX4_again 35 = .ok (.new 151, 3) := by decide +kernel
theorem dX4_again_38 : decode cX4_again 38 = .ok (.dup, 1) := by decide +kernel
theorem dX4_again_39 : decode cX4_again 39 = .ok (.ldc 234, 2) := by decide +kernel
theorem dX4_again_41 : decode cX4_again 41 = .ok (.invokespecial 155, 3) := by decide +kernel
theorem dX4_again_44 : decode cX4_again 44 = .ok (.athrow, 1) := by decide +kernel
theorem dX4_again_45 : decode cX4_again 45 = .ok (.aload_n 0, 1) := by decide +kernel
theorem dX4_again_46 : decode cX4_again 46 = .ok (.aload_n 2, 1) := by decide +kernel
theorem dX4_again_47 : decode cX4_again 47 = .ok (.getfield 201, 3) := by decide +kernel
theorem dX4_again_50 : decode cX4_again 50 = .ok (.invokevirtual 206, 3) := by decide +kernel
theorem dX4_again_53 : decode cX4_again 53 = .ok (.aload_n 2, 1) := by decide +kernel
theorem dX4_again_54 : decode cX4_again 54 = .ok (.iconst 0, 1) := by decide +kernel
theorem dX4_again_55 : decode cX4_again 55 = .ok (.invokevirtual 228, 3) := by decide +kernel
theorem dX4_again_58 : decode cX4_again 58 = .ok (.aload_n 2, 1) := by decide +kernel
theorem dX4_again_59 : decode cX4_again 59 = .ok (.iconst 1, 1) := by decide +kernel
theorem dX4_again_60 : decode cX4_again 60 = .ok (.putfield 183, 3) := by decide +kernel
theorem dX4_again_63 : decode cX4_again 63 = .ok (.aload_n 2, 1) := by decide +kernel
theorem dX4_again_64 : decode cX4_again 64 = .ok (.invokevirtual 189, 3) := by decide +kernel
theorem dX4_again_67 : decode cX4_again 67 = .ok (.ireturn, 1) := by decide +kernel
theorem dX4_invoice_0 : decode cX4_invoice 0 = .ok (.aload_n 0, 1) := by decide +kernel
theorem dX4_invoice_1 : decode cX4_invoice 1 = .ok (.iload_n 1, 1) := by decide +kernel
theorem dX4_invoice_2 : decode cX4_invoice 2 = .ok (.invokevirtual 163, 3) := by decide +kernel
theorem dX4_invoice_5 : decode cX4_invoice 5 = .ok (.astore_n 2, 1) := by decide +kernel
theorem dX4_invoice_6 : decode cX4_invoice 6 = .ok (.aload_n 2, 1) := by decide +kernel
theorem dX4_invoice_7 : decode cX4_invoice 7 = .ok (.getfield 183, 3) := by decide +kernel
theorem dX4_invoice_10 : decode cX4_invoice 10 = .ok (.iconst 2, 1) := by decide +kernel
theorem dX4_invoice_11 : decode cX4_invoice 11 = .ok (.if_icmp .eq 13, 3) := by decide +kernel
theorem dX4_invoice_14 : decode cX4_invoice 14 = .ok (.new 151, 3) := by decide +kernel
theorem dX4_invoice_17 : decode cX4_invoice 17 = .ok (.dup, 1) := by decide +kernel
theorem dX4_invoice_18 : decode cX4_invoice 18 = .ok (.ldc 232, 2) := by decide +kernel
theorem dX4_invoice_20 : decode cX4_invoice 20 = .ok (.invokespecial 155, 3) := by decide +kernel
theorem dX4_invoice_23 : decode cX4_invoice 23 = .ok (.athrow, 1) := by decide +kernel
theorem dX4_invoice_24 : decode cX4_invoice 24 = .ok (.aload_n 2, 1) := by decide +kernel
theorem dX4_invoice_25 : decode cX4_invoice 25 = .ok (.getfield 186, 3) := by decide +kernel
theorem dX4_invoice_28 : decode cX4_invoice 28 = .ok (.aload_n 2, 1) := by decide +kernel
theorem dX4_invoice_29 : decode cX4_invoice 29 = .ok (.getfield 169, 3) := by decide +kernel
theorem dX4_invoice_32 : decode cX4_invoice 32 = .ok (.aload_n 2, 1) := by decide +kernel
theorem dX4_invoice_33 : decode cX4_invoice 33 = .ok (.getfield 169, 3) := by decide +kernel
theorem dX4_invoice_36 : decode cX4_invoice 36 = .ok (.bipush 20, 2) := by decide +kernel
theorem dX4_invoice_38 : decode cX4_invoice 38 = .ok (.idiv, 1) := by decide +kernel
theorem dX4_invoice_39 : decode cX4_invoice 39 = .ok (.isub, 1) := by decide +kernel
theorem dX4_invoice_40 : decode cX4_invoice 40 = .ok (.if_icmp .ge 13, 3) := by decide +kernel
theorem dX4_invoice_43 : decode cX4_invoice 43 = .ok (.new 151, 3) := by decide +kernel
theorem dX4_invoice_46 : decode cX4_invoice 46 = .ok (.dup, 1) := by decide +kernel
theorem dX4_invoice_47 : decode cX4_invoice 47 = .ok (.ldc 236, 2) := by decide +kernel
theorem dX4_invoice_49 : decode cX4_invoice 49 = .ok (.invokespecial 155, 3) := by decide +kernel
theorem dX4_invoice_52 : decode cX4_invoice 52 = .ok (.athrow, 1) := by decide +kernel
theorem dX4_invoice_53 : decode cX4_invoice 53 = .ok (.aload_n 2, 1) := by decide +kernel
theorem dX4_invoice_54 : decode cX4_invoice 54 = .ok (.aload_n 2, 1) := by decide +kernel
theorem dX4_invoice_55 : decode cX4_invoice 55 = .ok (.invokevirtual 238, 3) := by decide +kernel
theorem dX4_invoice_58 : decode cX4_invoice 58 = .ok (.putfield 198, 3) := by decide +kernel
theorem dX4_invoice_61 : decode cX4_invoice 61 = .ok (.aload_n 2, 1) := by decide +kernel
theorem dX4_invoice_62 : decode cX4_invoice 62 = .ok (.iconst 3, 1) := by decide +kernel
theorem dX4_invoice_63 : decode cX4_invoice 63 = .ok (.putfield 183, 3) := by decide +kernel
theorem dX4_invoice_66 : decode cX4_invoice 66 = .ok (.aload_n 0, 1) := by decide +kernel
theorem dX4_invoice_67 : decode cX4_invoice 67 = .ok (.dup, 1) := by decide +kernel
theorem dX4_invoice_68 : decode cX4_invoice 68 = .ok (.getfield 106, 3) := by decide +kernel
theorem dX4_invoice_71 : decode cX4_invoice 71 = .ok (.aload_n 2, 1) := by decide +kernel
theorem dX4_invoice_72 : decode cX4_invoice 72 = .ok (.getfield 198, 3) := by decide +kernel
theorem dX4_invoice_75 : decode cX4_invoice 75 = .ok (.iadd, 1) := by decide +kernel
theorem dX4_invoice_76 : decode cX4_invoice 76 = .ok (.putfield 106, 3) := by decide +kernel
theorem dX4_invoice_79 : decode cX4_invoice 79 = .ok (.aload_n 2, 1) := by decide +kernel
theorem dX4_invoice_80 : decode cX4_invoice 80 = .ok (.getfield 198, 3) := by decide +kernel
theorem dX4_invoice_83 : decode cX4_invoice 83 = .ok (.ireturn, 1) := by decide +kernel
theorem dX4_expect_0 : decode cX4_expect 0 = .ok (.aload_n 0, 1) := by decide +kernel
theorem dX4_expect_1 : decode cX4_expect 1 = .ok (.getfield 39, 3) := by decide +kernel
theorem dX4_expect_4 : decode cX4_expect 4 = .ok (.astore 4, 2) := by decide +kernel
theorem dX4_expect_6 : decode cX4_expect 6 = .ok (.aload_n 1, 1) := by decide +kernel
theorem dX4_expect_7 : decode cX4_expect 7 = .ok (.invokevirtual 189, 3) := by decide +kernel
theorem dX4_expect_10 : decode cX4_expect 10 = .ok (.istore 5, 2) := by decide +kernel
theorem dX4_expect_12 : decode cX4_expect 12 = .ok (.aload 4, 2) := by decide +kernel
theorem dX4_expect_14 : decode cX4_expect 14 = .ok (.aload_n 2, 1) := by decide +kernel
theorem dX4_expect_15 : decode cX4_expect 15 = .ok (.aload_n 1, 1) := by decide +kernel
theorem dX4_expect_16 : decode cX4_expect 16 = .ok (.invokevirtual 241, 3) := by decide +kernel
theorem dX4_expect_19 : decode cX4_expect 19 = .ok (.putfield 210, 3) := by decide +kernel
theorem dX4_expect_22 : decode cX4_expect 22 = .ok (.aload 4, 2) := by decide +kernel
theorem dX4_expect_24 : decode cX4_expect 24 = .ok (.aload_n 1, 1) := by decide +kernel
theorem dX4_expect_25 : decode cX4_expect 25 = .ok (.iload_n 3, 1) := by decide +kernel
theorem dX4_expect_26 : decode cX4_expect 26 = .ok (.invokestatic 245, 3) := by decide +kernel
theorem dX4_expect_29 : decode cX4_expect 29 = .ok (.putfield 213, 3) := by decide +kernel
theorem dX4_expect_32 : decode cX4_expect 32 = .ok (.aload 4, 2) := by decide +kernel
theorem dX4_expect_34 : decode cX4_expect 34 = .ok (.iload 5, 2) := by decide +kernel
theorem dX4_expect_36 : decode cX4_expect 36 = .ok (.aload_n 2, 1) := by decide +kernel
theorem dX4_expect_37 : decode cX4_expect 37 = .ok (.getfield 249, 3) := by decide +kernel
theorem dX4_expect_40 : decode cX4_expect 40 = .ok (.imul, 1) := by decide +kernel
theorem dX4_expect_41 : decode cX4_expect 41 = .ok (.sipush 1000, 3) := by decide +kernel
theorem dX4_expect_44 : decode cX4_expect 44 = .ok (.idiv, 1) := by decide +kernel
theorem dX4_expect_45 : decode cX4_expect 45 = .ok (.iconst 5, 1) := by decide +kernel
theorem dX4_expect_46 : decode cX4_expect 46 = .ok (.aload 4, 2) := by decide +kernel
theorem dX4_expect_48 : decode cX4_expect 48 = .ok (.getfield 210, 3) := by decide +kernel
theorem dX4_expect_51 : decode cX4_expect 51 = .ok (.imul, 1) := by decide +kernel
theorem dX4_expect_52 : decode cX4_expect 52 = .ok (.iadd, 1) := by decide +kernel
theorem dX4_expect_53 : decode cX4_expect 53 = .ok (.putfield 216, 3) := by decide +kernel
theorem dX4_expect_56 : decode cX4_expect 56 = .ok (.aload 4, 2) := by decide +kernel
theorem dX4_expect_58 : decode cX4_expect 58 = .ok (.iload 5, 2) := by decide +kernel
theorem dX4_expect_60 : decode cX4_expect 60 = .ok (.aload 4, 2) := by decide +kernel
theorem dX4_expect_62 : decode cX4_expect 62 = .ok (.getfield 216, 3) := by decide +kernel
theorem dX4_expect_65 : decode cX4_expect 65 = .ok (.iadd, 1) := by decide +kernel
theorem dX4_expect_66 : decode cX4_expect 66 = .ok (.putfield 131, 3) := by decide +kernel
theorem dX4_expect_69 : decode cX4_expect 69 = .ok (.aload 4, 2) := by decide +kernel
theorem dX4_expect_71 : decode cX4_expect 71 = .ok (.getfield 131, 3) := by decide +kernel
theorem dX4_expect_74 : decode cX4_expect 74 = .ok (.i2l, 1) := by decide +kernel
theorem dX4_expect_75 : decode cX4_expect 75 = .ok (.aload_n 2, 1) := by decide +kernel
theorem dX4_expect_76 : decode cX4_expect 76 = .ok (.getfield 252, 3) := by decide +kernel
theorem dX4_expect_79 : decode cX4_expect 79 = .ok (.i2l, 1) := by decide +kernel
theorem dX4_expect_80 : decode cX4_expect 80 = .ok (.lmul, 1) := by decide +kernel
theorem dX4_expect_81 : decode cX4_expect 81 = .ok (.aload 4, 2) := by decide +kernel
theorem dX4_expect_83 : decode cX4_expect 83 = .ok (.getfield 210, 3) := by decide +kernel
theorem dX4_expect_86 : decode cX4_expect 86 = .ok (.i2l, 1) := by decide +kernel
theorem dX4_expect_87 : decode cX4_expect 87 = .ok (.lmul, 1) := by decide +kernel
theorem dX4_expect_88 : decode cX4_expect 88 = .ok (.ldc2_w 255, 3) := by decide +kernel
theorem dX4_expect_91 : decode cX4_expect 91 = .ok (.ldiv, 1) := by decide +kernel
theorem dX4_expect_92 : decode cX4_expect 92 = .ok (.lstore 6, 2) := by decide +kernel
theorem dX4_expect_94 : decode cX4_expect 94 = .ok (.aload 4, 2) := by decide +kernel
theorem dX4_expect_96 : decode cX4_expect 96 = .ok (.aload 4, 2) := by decide +kernel
theorem dX4_expect_98 : decode cX4_expect 98 = .ok (.getfield 213, 3) := by decide +kernel
theorem dX4_expect_101 : decode cX4_expect 101 = .ok (.aload_n 2, 1) := by decide +kernel
theorem dX4_expect_102 : decode cX4_expect 102 = .ok (.getfield 257, 3) := by decide +kernel
theorem dX4_expect_105 : decode cX4_expect 105 = .ok (.aload 4, 2) := by decide +kernel
theorem dX4_expect_107 : decode cX4_expect 107 = .ok (.getfield 210, 3) := by decide +kernel
theorem dX4_expect_110 : decode cX4_expect 110 = .ok (.imul, 1) := by decide +kernel
theorem dX4_expect_111 : decode cX4_expect 111 = .ok (.iadd, 1) := by decide +kernel
theorem dX4_expect_112 : decode cX4_expect 112 = .ok (.lload 6, 2) := by decide +kernel
theorem dX4_expect_114 : decode cX4_expect 114 = .ok (.l2i, 1) := by decide +kernel
theorem dX4_expect_115 : decode cX4_expect 115 = .ok (.iadd, 1) := by decide +kernel
theorem dX4_expect_116 : decode cX4_expect 116 = .ok (.putfield 219, 3) := by decide +kernel
theorem dX4_expect_119 : decode cX4_expect 119 = .ok (.aload 4, 2) := by decide +kernel
theorem dX4_expect_121 : decode cX4_expect 121 = .ok (.aload 4, 2) := by decide +kernel
theorem dX4_expect_123 : decode cX4_expect 123 = .ok (.getfield 219, 3) := by decide +kernel
theorem dX4_expect_126 : decode cX4_expect 126 = .ok (.aload_n 0, 1) := by decide +kernel
theorem dX4_expect_127 : decode cX4_expect 127 = .ok (.getfield 29, 3) := by decide +kernel
theorem dX4_expect_130 : decode cX4_expect 130 = .ok (.imul, 1) := by decide +kernel
theorem dX4_expect_131 : decode cX4_expect 131 = .ok (.aload_n 1, 1) := by decide +kernel
theorem dX4_expect_132 : decode cX4_expect 132 = .ok (.invokevirtual 260, 3) := by decide +kernel
theorem dX4_expect_135 : decode cX4_expect 135 = .ok (.iadd, 1) := by decide +kernel
theorem dX4_expect_136 : decode cX4_expect 136 = .ok (.aload 4, 2) := by decide +kernel
theorem dX4_expect_138 : decode cX4_expect 138 = .ok (.getfield 131, 3) := by decide +kernel
theorem dX4_expect_141 : decode cX4_expect 141 = .ok (.aload_n 1, 1) := by decide +kernel
theorem dX4_expect_142 : decode cX4_expect 142 = .ok (.getfield 120, 3) := by decide +kernel
theorem dX4_expect_145 : decode cX4_expect 145 = .ok (.getfield 64, 3) := by decide +kernel
theorem dX4_expect_148 : decode cX4_expect 148 = .ok (.imul, 1) := by decide +kernel
theorem dX4_expect_149 : decode cX4_expect 149 = .ok (.iadd, 1) := by decide +kernel
theorem dX4_expect_150 : decode cX4_expect 150 = .ok (.putfield 222, 3) := by decide +kernel
theorem dX4_expect_153 : decode cX4_expect 153 = .ok (.aload 4, 2) := by decide +kernel
theorem dX4_expect_155 : decode cX4_expect 155 = .ok (.aload 4, 2) := by decide +kernel
theorem dX4_expect_157 : decode cX4_expect 157 = .ok (.getfield 222, 3) := by decide +kernel
theorem dX4_expect_160 : decode cX4_expect 160 = .ok (.i2l, 1) := by decide +kernel
theorem dX4_expect_161 : decode cX4_expect 161 = .ok (.bipush 100, 2) := by decide +kernel
theorem dX4_expect_163 : decode cX4_expect 163 = .ok (.aload_n 0, 1) := by decide +kernel
theorem dX4_expect_164 : decode cX4_expect 164 = .ok (.getfield 33, 3) := by decide +kernel
theorem dX4_expect_167 : decode cX4_expect 167 = .ok (.iadd, 1) := by decide +kernel
theorem dX4_expect_168 : decode cX4_expect 168 = .ok (.i2l, 1) := by decide +kernel
theorem dX4_expect_169 : decode cX4_expect 169 = .ok (.lmul, 1) := by decide +kernel
theorem dX4_expect_170 : decode cX4_expect 170 = .ok (.ldc2_w 263, 3) := by decide +kernel
theorem dX4_expect_173 : decode cX4_expect 173 = .ok (.ldiv, 1) := by decide +kernel
theorem dX4_expect_174 : decode cX4_expect 174 = .ok (.l2i, 1) := by decide +kernel
theorem dX4_expect_175 : decode cX4_expect 175 = .ok (.putfield 223, 3) := by decide +kernel
theorem dX4_expect_178 : decode cX4_expect 178 = .ok (.aload 4, 2) := by decide +kernel
theorem dX4_expect_180 : decode cX4_expect 180 = .ok (.areturn, 1) := by decide +kernel
theorem dX4_changeOf_0 : decode cX4_changeOf 0 = .ok (.iconst 4, 1) := by decide +kernel
theorem dX4_changeOf_1 : decode cX4_changeOf 1 = .ok (.aload_n 0, 1) := by decide +kernel
theorem dX4_changeOf_2 : decode cX4_changeOf 2 = .ok (.getfield 172, 3) := by decide +kernel
theorem dX4_changeOf_5 : decode cX4_changeOf 5 = .ok (.iload_n 1, 1) := by decide +kernel
theorem dX4_changeOf_6 : decode cX4_changeOf 6 = .ok (.iconst (-1), 1) := by decide +kernel
theorem dX4_changeOf_7 : decode cX4_changeOf 7 = .ok (.ixor, 1) := by decide +kernel
theorem dX4_changeOf_8 : decode cX4_changeOf 8 = .ok (.iand, 1) := by decide +kernel
theorem dX4_changeOf_9 : decode cX4_changeOf 9 = .ok (.invokestatic 265, 3) := by decide +kernel
theorem dX4_changeOf_12 : decode cX4_changeOf 12 = .ok (.imul, 1) := by decide +kernel
theorem dX4_changeOf_13 : decode cX4_changeOf 13 = .ok (.ireturn, 1) := by decide +kernel
theorem dX4_towers_0 : decode cX4_towers 0 = .ok (.aload_n 0, 1) := by decide +kernel
theorem dX4_towers_1 : decode cX4_towers 1 = .ok (.iload_n 1, 1) := by decide +kernel
theorem dX4_towers_2 : decode cX4_towers 2 = .ok (.invokevirtual 206, 3) := by decide +kernel
theorem dX4_towers_5 : decode cX4_towers 5 = .ok (.astore_n 3, 1) := by decide +kernel
theorem dX4_towers_6 : decode cX4_towers 6 = .ok (.iload_n 2, 1) := by decide +kernel
theorem dX4_towers_7 : decode cX4_towers 7 = .ok (.iconst 1, 1) := by decide +kernel
theorem dX4_towers_8 : decode cX4_towers 8 = .ok (.iconst 4, 1) := by decide +kernel
theorem dX4_towers_9 : decode cX4_towers 9 = .ok (.invokestatic 51, 3) := by decide +kernel
theorem dX4_towers_12 : decode cX4_towers 12 = .ok (.ifCond .eq 14, 3) := by decide +kernel
theorem dX4_towers_15 : decode cX4_towers 15 = .ok (.new 55, 3) := by decide +kernel
theorem dX4_towers_18 : decode cX4_towers 18 = .ok (.dup, 1) := by decide +kernel
theorem dX4_towers_19 : decode cX4_towers 19 = .ok (.ldc_w 271, 3) := by decide +kernel
theorem dX4_towers_22 : decode cX4_towers 22 = .ok (.invokespecial 59, 3) := by decide +kernel
theorem dX4_towers_25 : decode cX4_towers 25 = .ok (.athrow, 1) := by decide +kernel
theorem dX4_towers_26 : decode cX4_towers 26 = .ok (.aload_n 3, 1) := by decide +kernel
theorem dX4_towers_27 : decode cX4_towers 27 = .ok (.getfield 273, 3) := by decide +kernel
theorem dX4_towers_30 : decode cX4_towers 30 = .ok (.istore 4, 2) := by decide +kernel
theorem dX4_towers_32 : decode cX4_towers 32 = .ok (.aload_n 3, 1) := by decide +kernel
theorem dX4_towers_33 : decode cX4_towers 33 = .ok (.iload_n 2, 1) := by decide +kernel
theorem dX4_towers_34 : decode cX4_towers 34 = .ok (.putfield 273, 3) := by decide +kernel
theorem dX4_towers_37 : decode cX4_towers 37 = .ok (.iload 4, 2) := by decide +kernel
theorem dX4_towers_39 : decode cX4_towers 39 = .ok (.ireturn, 1) := by decide +kernel
theorem dX4_ofPress_0 : decode cX4_ofPress 0 = .ok (.aload_n 0, 1) := by decide +kernel
theorem dX4_ofPress_1 : decode cX4_ofPress 1 = .ok (.iload_n 1, 1) := by decide +kernel
theorem dX4_ofPress_2 : decode cX4_ofPress 2 = .ok (.invokevirtual 206, 3) := by decide +kernel
theorem dX4_ofPress_5 : decode cX4_ofPress 5 = .ok (.astore_n 3, 1) := by decide +kernel
theorem dX4_ofPress_6 : decode cX4_ofPress 6 = .ok (.iload_n 2, 1) := by decide +kernel
theorem dX4_ofPress_7 : decode cX4_ofPress 7 = .ok (.tableswitch 77 0 6 #[41, 46, 51, 56, 61, 66, 71], 41) := by decide +kernel
theorem dX4_ofPress_48 : decode cX4_ofPress 48 = .ok (.aload_n 3, 1) := by decide +kernel
theorem dX4_ofPress_49 : decode cX4_ofPress 49 = .ok (.getfield 273, 3) := by decide +kernel
theorem dX4_ofPress_52 : decode cX4_ofPress 52 = .ok (.ireturn, 1) := by decide +kernel
theorem dX4_ofPress_53 : decode cX4_ofPress 53 = .ok (.aload_n 3, 1) := by decide +kernel
theorem dX4_ofPress_54 : decode cX4_ofPress 54 = .ok (.getfield 124, 3) := by decide +kernel
theorem dX4_ofPress_57 : decode cX4_ofPress 57 = .ok (.ireturn, 1) := by decide +kernel
theorem dX4_ofPress_58 : decode cX4_ofPress 58 = .ok (.aload_n 3, 1) := by decide +kernel
theorem dX4_ofPress_59 : decode cX4_ofPress 59 = .ok (.getfield 257, 3) := by decide +kernel
theorem dX4_ofPress_62 : decode cX4_ofPress 62 = .ok (.ireturn, 1) := by decide +kernel
theorem dX4_ofPress_63 : decode cX4_ofPress 63 = .ok (.aload_n 3, 1) := by decide +kernel
theorem dX4_ofPress_64 : decode cX4_ofPress 64 = .ok (.getfield 252, 3) := by decide +kernel
theorem dX4_ofPress_67 : decode cX4_ofPress 67 = .ok (.ireturn, 1) := by decide +kernel
theorem dX4_ofPress_68 : decode cX4_ofPress 68 = .ok (.aload_n 3, 1) := by decide +kernel
theorem dX4_ofPress_69 : decode cX4_ofPress 69 = .ok (.getfield 249, 3) := by decide +kernel
theorem dX4_ofPress_72 : decode cX4_ofPress 72 = .ok (.ireturn, 1) := by decide +kernel
theorem dX4_ofPress_73 : decode cX4_ofPress 73 = .ok (.aload_n 3, 1) := by decide +kernel
theorem dX4_ofPress_74 : decode cX4_ofPress 74 = .ok (.getfield 113, 3) := by decide +kernel
theorem dX4_ofPress_77 : decode cX4_ofPress 77 = .ok (.ireturn, 1) := by decide +kernel
theorem dX4_ofPress_78 : decode cX4_ofPress 78 = .ok (.aload_n 0, 1) := by decide +kernel
theorem dX4_ofPress_79 : decode cX4_ofPress 79 = .ok (.aload_n 3, 1) := by decide +kernel
theorem dX4_ofPress_80 : decode cX4_ofPress 80 = .ok (.invokevirtual 276, 3) := by decide +kernel
theorem dX4_ofPress_83 : decode cX4_ofPress 83 = .ok (.ireturn, 1) := by decide +kernel
theorem dX4_ofPress_84 : decode cX4_ofPress 84 = .ok (.new 55, 3) := by decide +kernel
theorem dX4_ofPress_87 : decode cX4_ofPress 87 = .ok (.dup, 1) := by decide +kernel
theorem dX4_ofPress_88 : decode cX4_ofPress 88 = .ok (.ldc_w 280, 3) := by decide +kernel
theorem dX4_ofPress_91 : decode cX4_ofPress 91 = .ok (.invokespecial 59, 3) := by decide +kernel
theorem dX4_ofPress_94 : decode cX4_ofPress 94 = .ok (.athrow, 1) := by decide +kernel
theorem dX4_queue_0 : decode cX4_queue 0 = .ok (.aload_n 0, 1) := by decide +kernel
theorem dX4_queue_1 : decode cX4_queue 1 = .ok (.iload_n 1, 1) := by decide +kernel
theorem dX4_queue_2 : decode cX4_queue 2 = .ok (.invokevirtual 206, 3) := by decide +kernel
theorem dX4_queue_5 : decode cX4_queue 5 = .ok (.iload_n 2, 1) := by decide +kernel
theorem dX4_queue_6 : decode cX4_queue 6 = .ok (.invokevirtual 116, 3) := by decide +kernel
theorem dX4_queue_9 : decode cX4_queue 9 = .ok (.astore_n 3, 1) := by decide +kernel
theorem dX4_queue_10 : decode cX4_queue 10 = .ok (.aload_n 3, 1) := by decide +kernel
theorem dX4_queue_11 : decode cX4_queue 11 = .ok (.ifnonnull 14, 3) := by decide +kernel
theorem dX4_queue_14 : decode cX4_queue 14 = .ok (.new 282, 3) := by decide +kernel
theorem dX4_queue_17 : decode cX4_queue 17 = .ok (.dup, 1) := by decide +kernel
theorem dX4_queue_18 : decode cX4_queue 18 = .ok (.ldc_w 284, 3) := by decide +kernel
theorem dX4_queue_21 : decode cX4_queue 21 = .ok (.invokespecial 286, 3) := by decide +kernel
theorem dX4_queue_24 : decode cX4_queue 24 = .ok (.athrow, 1) := by decide +kernel
theorem dX4_queue_25 : decode cX4_queue 25 = .ok (.aload_n 3, 1) := by decide +kernel
theorem dX4_queue_26 : decode cX4_queue 26 = .ok (.getfield 287, 3) := by decide +kernel
theorem dX4_queue_29 : decode cX4_queue 29 = .ok (.ireturn, 1) := by decide +kernel
theorem dX4_sort_0 : decode cX4_sort 0 = .ok (.aload_n 0, 1) := by decide +kernel
theorem dX4_sort_1 : decode cX4_sort 1 = .ok (.iload_n 1, 1) := by decide +kernel
theorem dX4_sort_2 : decode cX4_sort 2 = .ok (.invokevirtual 206, 3) := by decide +kernel
theorem dX4_sort_5 : decode cX4_sort 5 = .ok (.astore_n 2, 1) := by decide +kernel
theorem dX4_sort_6 : decode cX4_sort 6 = .ok (.aload_n 0, 1) := by decide +kernel
theorem dX4_sort_7 : decode cX4_sort 7 = .ok (.aload_n 2, 1) := by decide +kernel
theorem dX4_sort_8 : decode cX4_sort 8 = .ok (.invokevirtual 276, 3) := by decide +kernel
theorem dX4_sort_11 : decode cX4_sort 11 = .ok (.istore_n 3, 1) := by decide +kernel
theorem dX4_sort_12 : decode cX4_sort 12 = .ok (.aload_n 2, 1) := by decide +kernel
theorem dX4_sort_13 : decode cX4_sort 13 = .ok (.invokevirtual 290, 3) := by decide +kernel
theorem dX4_sort_16 : decode cX4_sort 16 = .ok (.iload_n 3, 1) := by decide +kernel
theorem dX4_sort_17 : decode cX4_sort 17 = .ok (.aload_n 0, 1) := by decide +kernel
theorem dX4_sort_18 : decode cX4_sort 18 = .ok (.aload_n 2, 1) := by decide +kernel
theorem dX4_sort_19 : decode cX4_sort 19 = .ok (.invokevirtual 276, 3) := by decide +kernel
theorem dX4_sort_22 : decode cX4_sort 22 = .ok (.isub, 1) := by decide +kernel
theorem dX4_sort_23 : decode cX4_sort 23 = .ok (.ireturn, 1) := by decide +kernel
theorem dX4_slip_0 : decode cX4_slip 0 = .ok (.aload_n 0, 1) := by decide +kernel
theorem dX4_slip_1 : decode cX4_slip 1 = .ok (.iload_n 1, 1) := by decide +kernel
theorem dX4_slip_2 : decode cX4_slip 2 = .ok (.invokevirtual 206, 3) := by decide +kernel
theorem dX4_slip_5 : decode cX4_slip 5 = .ok (.astore 4, 2) := by decide +kernel
theorem dX4_slip_7 : decode cX4_slip 7 = .ok (.aload 4, 2) := by decide +kernel
theorem dX4_slip_9 : decode cX4_slip 9 = .ok (.iload_n 2, 1) := by decide +kernel
theorem dX4_slip_10 : decode cX4_slip 10 = .ok (.iload_n 3, 1) := by decide +kernel
theorem dX4_slip_11 : decode cX4_slip 11 = .ok (.invokestatic 293, 3) := by decide +kernel
theorem dX4_slip_14 : decode cX4_slip 14 = .ok (.astore 5, 2) := by decide +kernel
theorem dX4_slip_16 : decode cX4_slip 16 = .ok (.aload 5, 2) := by decide +kernel
theorem dX4_slip_18 : decode cX4_slip 18 = .ok (.iload_n 3, 1) := by decide +kernel
theorem dX4_slip_19 : decode cX4_slip 19 = .ok (.invokevirtual 297, 3) := by decide +kernel
theorem dX4_slip_22 : decode cX4_slip 22 = .ok (.istore 6, 2) := by decide +kernel
theorem dX4_slip_24 : decode cX4_slip 24 = .ok (.iload_n 2, 1) := by decide +kernel
theorem dX4_slip_25 : decode cX4_slip 25 = .ok (.aload_n 0, 1) := by decide +kernel
theorem dX4_slip_26 : decode cX4_slip 26 = .ok (.getfield 29, 3) := by decide +kernel
theorem dX4_slip_29 : decode cX4_slip 29 = .ok (.imul, 1) := by decide +kernel
theorem dX4_slip_30 : decode cX4_slip 30 = .ok (.aload 5, 2) := by decide +kernel
theorem dX4_slip_32 : decode cX4_slip 32 = .ok (.getfield 300, 3) := by decide +kernel
theorem dX4_slip_35 : decode cX4_slip 35 = .ok (.ifCond .eq 7, 3) := by decide +kernel
theorem dX4_slip_38 : decode cX4_slip 38 = .ok (.iconst 0, 1) := by decide +kernel
theorem dX4_slip_39 : decode cX4_slip 39 = .ok (.goto 8, 3) := by decide +kernel
theorem dX4_slip_42 : decode cX4_slip 42 = .ok (.aload 5, 2) := by decide +kernel
theorem dX4_slip_44 : decode cX4_slip 44 = .ok (.invokevirtual 260, 3) := by decide +kernel
theorem dX4_slip_47 : decode cX4_slip 47 = .ok (.iadd, 1) := by decide +kernel
theorem dX4_slip_48 : decode cX4_slip 48 = .ok (.istore 7, 2) := by decide +kernel
theorem dX4_slip_50 : decode cX4_slip 50 = .ok (.aload 5, 2) := by decide +kernel
theorem dX4_slip_52 : decode cX4_slip 52 = .ok (.getfield 120, 3) := by decide +kernel
theorem dX4_slip_55 : decode cX4_slip 55 = .ok (.dup, 1) := by decide +kernel
theorem dX4_slip_56 : decode cX4_slip 56 = .ok (.getfield 85, 3) := by decide +kernel
theorem dX4_slip_59 : decode cX4_slip 59 = .ok (.iload 6, 2) := by decide +kernel
theorem dX4_slip_61 : decode cX4_slip 61 = .ok (.isub, 1) := by decide +kernel
theorem dX4_slip_62 : decode cX4_slip 62 = .ok (.putfield 85, 3) := by decide +kernel
theorem dX4_slip_65 : decode cX4_slip 65 = .ok (.aload 5, 2) := by decide +kernel
theorem dX4_slip_67 : decode cX4_slip 67 = .ok (.dup, 1) := by decide +kernel
theorem dX4_slip_68 : decode cX4_slip 68 = .ok (.getfield 186, 3) := by decide +kernel
theorem dX4_slip_71 : decode cX4_slip 71 = .ok (.iload 6, 2) := by decide +kernel
theorem dX4_slip_73 : decode cX4_slip 73 = .ok (.iload_n 3, 1) := by decide +kernel
theorem dX4_slip_74 : decode cX4_slip 74 = .ok (.isub, 1) := by decide +kernel
theorem dX4_slip_75 : decode cX4_slip 75 = .ok (.aload 5, 2) := by decide +kernel
theorem dX4_slip_77 : decode cX4_slip 77 = .ok (.getfield 173, 3) := by decide +kernel
theorem dX4_slip_80 : decode cX4_slip 80 = .ok (.imul, 1) := by decide +kernel
theorem dX4_slip_81 : decode cX4_slip 81 = .ok (.iadd, 1) := by decide +kernel
theorem dX4_slip_82 : decode cX4_slip 82 = .ok (.putfield 186, 3) := by decide +kernel
theorem dX4_slip_85 : decode cX4_slip 85 = .ok (.aload 5, 2) := by decide +kernel
theorem dX4_slip_87 : decode cX4_slip 87 = .ok (.dup, 1) := by decide +kernel
theorem dX4_slip_88 : decode cX4_slip 88 = .ok (.getfield 195, 3) := by decide +kernel
theorem dX4_slip_91 : decode cX4_slip 91 = .ok (.iload 7, 2) := by decide +kernel
theorem dX4_slip_93 : decode cX4_slip 93 = .ok (.iload 6, 2) := by decide +kernel
theorem dX4_slip_95 : decode cX4_slip 95 = .ok (.aload 5, 2) := by decide +kernel
theorem dX4_slip_97 : decode cX4_slip 97 = .ok (.getfield 120, 3) := by decide +kernel
theorem dX4_slip_100 : decode cX4_slip 100 = .ok (.getfield 64, 3) := by decide +kernel
theorem dX4_slip_103 : decode cX4_slip 103 = .ok (.imul, 1) := by decide +kernel
theorem dX4_slip_104 : decode cX4_slip 104 = .ok (.iadd, 1) := by decide +kernel
theorem dX4_slip_105 : decode cX4_slip 105 = .ok (.iadd, 1) := by decide +kernel
theorem dX4_slip_106 : decode cX4_slip 106 = .ok (.putfield 195, 3) := by decide +kernel
theorem dX4_slip_109 : decode cX4_slip 109 = .ok (.aload 5, 2) := by decide +kernel
theorem dX4_slip_111 : decode cX4_slip 111 = .ok (.iconst 1, 1) := by decide +kernel
theorem dX4_slip_112 : decode cX4_slip 112 = .ok (.putfield 300, 3) := by decide +kernel
theorem dX4_slip_115 : decode cX4_slip 115 = .ok (.aload 5, 2) := by decide +kernel
theorem dX4_slip_117 : decode cX4_slip 117 = .ok (.iconst 2, 1) := by decide +kernel
theorem dX4_slip_118 : decode cX4_slip 118 = .ok (.putfield 183, 3) := by decide +kernel
theorem dX4_slip_121 : decode cX4_slip 121 = .ok (.aload 4, 2) := by decide +kernel
theorem dX4_slip_123 : decode cX4_slip 123 = .ok (.iconst 0, 1) := by decide +kernel
theorem dX4_slip_124 : decode cX4_slip 124 = .ok (.invokevirtual 303, 3) := by decide +kernel
theorem dX4_slip_127 : decode cX4_slip 127 = .ok (.aload 4, 2) := by decide +kernel
theorem dX4_slip_129 : decode cX4_slip 129 = .ok (.aload 5, 2) := by decide +kernel
theorem dX4_slip_131 : decode cX4_slip 131 = .ok (.iload_n 2, 1) := by decide +kernel
theorem dX4_slip_132 : decode cX4_slip 132 = .ok (.iload_n 3, 1) := by decide +kernel
theorem dX4_slip_133 : decode cX4_slip 133 = .ok (.iload 6, 2) := by decide +kernel
theorem dX4_slip_135 : decode cX4_slip 135 = .ok (.invokevirtual 307, 3) := by decide +kernel
theorem dX4_slip_138 : decode cX4_slip 138 = .ok (.aload_n 0, 1) := by decide +kernel
theorem dX4_slip_139 : decode cX4_slip 139 = .ok (.dup, 1) := by decide +kernel
theorem dX4_slip_140 : decode cX4_slip 140 = .ok (.getfield 106, 3) := by decide +kernel
theorem dX4_slip_143 : decode cX4_slip 143 = .ok (.iload 7, 2) := by decide +kernel
theorem dX4_slip_145 : decode cX4_slip 145 = .ok (.isub, 1) := by decide +kernel
theorem dX4_slip_146 : decode cX4_slip 146 = .ok (.putfield 106, 3) := by decide +kernel
theorem dX4_slip_149 : decode cX4_slip 149 = .ok (.aload_n 0, 1) := by decide +kernel
theorem dX4_slip_150 : decode cX4_slip 150 = .ok (.dup, 1) := by decide +kernel
theorem dX4_slip_151 : decode cX4_slip 151 = .ok (.getfield 311, 3) := by decide +kernel
theorem dX4_slip_154 : decode cX4_slip 154 = .ok (.iload_n 2, 1) := by decide +kernel
theorem dX4_slip_155 : decode cX4_slip 155 = .ok (.iadd, 1) := by decide +kernel
theorem dX4_slip_156 : decode cX4_slip 156 = .ok (.putfield 311, 3) := by decide +kernel
theorem dX4_slip_159 : decode cX4_slip 159 = .ok (.aload_n 0, 1) := by decide +kernel
theorem dX4_slip_160 : decode cX4_slip 160 = .ok (.dup, 1) := by decide +kernel
theorem dX4_slip_161 : decode cX4_slip 161 = .ok (.getfield 314, 3) := by decide +kernel
theorem dX4_slip_164 : decode cX4_slip 164 = .ok (.iload_n 3, 1) := by decide +kernel
theorem dX4_slip_165 : decode cX4_slip 165 = .ok (.iadd, 1) := by decide +kernel
theorem dX4_slip_166 : decode cX4_slip 166 = .ok (.putfield 314, 3) := by decide +kernel
theorem dX4_slip_169 : decode cX4_slip 169 = .ok (.iload 6, 2) := by decide +kernel
theorem dX4_slip_171 : decode cX4_slip 171 = .ok (.iload_n 3, 1) := by decide +kernel
theorem dX4_slip_172 : decode cX4_slip 172 = .ok (.isub, 1) := by decide +kernel
theorem dX4_slip_173 : decode cX4_slip 173 = .ok (.ireturn, 1) := by decide +kernel
theorem dX4_jobOfSlip_0 : decode cX4_jobOfSlip 0 = .ok (.iload_n 1, 1) := by decide +kernel
theorem dX4_jobOfSlip_1 : decode cX4_jobOfSlip 1 = .ok (.iconst 1, 1) := by decide +kernel
theorem dX4_jobOfSlip_2 : decode cX4_jobOfSlip 2 = .ok (.sipush 9999, 3) := by decide +kernel
theorem dX4_jobOfSlip_5 : decode cX4_jobOfSlip 5 = .ok (.invokestatic 51, 3) := by decide +kernel
theorem dX4_jobOfSlip_8 : decode cX4_jobOfSlip 8 = .ok (.ifCond .eq 14, 3) := by decide +kernel
theorem dX4_jobOfSlip_11 : decode cX4_jobOfSlip 11 = .ok (.new 55, 3) := by decide +kernel
theorem dX4_jobOfSlip_14 : decode cX4_jobOfSlip 14 = .ok (.dup, 1) := by decide +kernel
theorem dX4_jobOfSlip_15 : decode cX4_jobOfSlip 15 = .ok (.ldc_w 317, 3) := by decide +kernel
theorem dX4_jobOfSlip_18 : decode cX4_jobOfSlip 18 = .ok (.invokespecial 59, 3) := by decide +kernel
theorem dX4_jobOfSlip_21 : decode cX4_jobOfSlip 21 = .ok (.athrow, 1) := by decide +kernel
theorem dX4_jobOfSlip_22 : decode cX4_jobOfSlip 22 = .ok (.iload_n 2, 1) := by decide +kernel
theorem dX4_jobOfSlip_23 : decode cX4_jobOfSlip 23 = .ok (.iconst 0, 1) := by decide +kernel
theorem dX4_jobOfSlip_24 : decode cX4_jobOfSlip 24 = .ok (.sipush 9999, 3) := by decide +kernel
theorem dX4_jobOfSlip_27 : decode cX4_jobOfSlip 27 = .ok (.invokestatic 51, 3) := by decide +kernel
theorem dX4_jobOfSlip_30 : decode cX4_jobOfSlip 30 = .ok (.ifCond .eq 14, 3) := by decide +kernel
theorem dX4_jobOfSlip_33 : decode cX4_jobOfSlip 33 = .ok (.new 55, 3) := by decide +kernel
theorem dX4_jobOfSlip_36 : decode cX4_jobOfSlip 36 = .ok (.dup, 1) := by decide +kernel
theorem dX4_jobOfSlip_37 : decode cX4_jobOfSlip 37 = .ok (.ldc_w 319, 3) := by decide +kernel
theorem dX4_jobOfSlip_40 : decode cX4_jobOfSlip 40 = .ok (.invokespecial 59, 3) := by decide +kernel
theorem dX4_jobOfSlip_43 : decode cX4_jobOfSlip 43 = .ok (.athrow, 1) := by decide +kernel
theorem dX4_jobOfSlip_44 : decode cX4_jobOfSlip 44 = .ok (.aload_n 0, 1) := by decide +kernel
theorem dX4_jobOfSlip_45 : decode cX4_jobOfSlip 45 = .ok (.iconst 0, 1) := by decide +kernel
theorem dX4_jobOfSlip_46 : decode cX4_jobOfSlip 46 = .ok (.invokevirtual 116, 3) := by decide +kernel
theorem dX4_jobOfSlip_49 : decode cX4_jobOfSlip 49 = .ok (.astore_n 3, 1) := by decide +kernel
theorem dX4_jobOfSlip_50 : decode cX4_jobOfSlip 50 = .ok (.aload_n 3, 1) := by decide +kernel
theorem dX4_jobOfSlip_51 : decode cX4_jobOfSlip 51 = .ok (.ifnonnull 14, 3) := by decide +kernel
theorem dX4_jobOfSlip_54 : decode cX4_jobOfSlip 54 = .ok (.new 151, 3) := by decide +kernel
theorem dX4_jobOfSlip_57 : decode cX4_jobOfSlip 57 = .ok (.dup, 1) := by decide +kernel
theorem dX4_jobOfSlip_58 : decode cX4_jobOfSlip 58 = .ok (.ldc_w 321, 3) := by decide +kernel
theorem dX4_jobOfSlip_61 : decode cX4_jobOfSlip 61 = .ok (.invokespecial 155, 3) := by decide +kernel
theorem dX4_jobOfSlip_64 : decode cX4_jobOfSlip 64 = .ok (.athrow, 1) := by decide +kernel
theorem dX4_jobOfSlip_65 : decode cX4_jobOfSlip 65 = .ok (.aload_n 3, 1) := by decide +kernel
theorem dX4_jobOfSlip_66 : decode cX4_jobOfSlip 66 = .ok (.getfield 120, 3) := by decide +kernel
theorem dX4_jobOfSlip_69 : decode cX4_jobOfSlip 69 = .ok (.getfield 85, 3) := by decide +kernel
theorem dX4_jobOfSlip_72 : decode cX4_jobOfSlip 72 = .ok (.iload_n 2, 1) := by decide +kernel
theorem dX4_jobOfSlip_73 : decode cX4_jobOfSlip 73 = .ok (.if_icmp .gt 14, 3) := by decide +kernel
theorem dX4_jobOfSlip_76 : decode cX4_jobOfSlip 76 = .ok (.new 151, 3) := by decide +kernel
theorem dX4_jobOfSlip_79 : decode cX4_jobOfSlip 79 = .ok (.dup, 1) := by decide +kernel
theorem dX4_jobOfSlip_80 : decode cX4_jobOfSlip 80 = .ok (.ldc_w 323, 3) := by decide +kernel
theorem dX4_jobOfSlip_83 : decode cX4_jobOfSlip 83 = .ok (.invokespecial 155, 3) := by decide +kernel
theorem dX4_jobOfSlip_86 : decode cX4_jobOfSlip 86 = .ok (.athrow, 1) := by decide +kernel
theorem dX4_jobOfSlip_87 : decode cX4_jobOfSlip 87 = .ok (.aload_n 3, 1) := by decide +kernel
theorem dX4_jobOfSlip_88 : decode cX4_jobOfSlip 88 = .ok (.areturn, 1) := by decide +kernel
theorem dX4_minutesOfQueue_0 : decode cX4_minutesOfQueue 0 = .ok (.iconst 0, 1) := by decide +kernel
theorem dX4_minutesOfQueue_1 : decode cX4_minutesOfQueue 1 = .ok (.istore_n 2, 1) := by decide +kernel
theorem dX4_minutesOfQueue_2 : decode cX4_minutesOfQueue 2 = .ok (.aload_n 1, 1) := by decide +kernel
theorem dX4_minutesOfQueue_3 : decode cX4_minutesOfQueue 3 = .ok (.getfield 124, 3) := by decide +kernel
theorem dX4_minutesOfQueue_6 : decode cX4_minutesOfQueue 6 = .ok (.istore_n 3, 1) := by decide +kernel
theorem dX4_minutesOfQueue_7 : decode cX4_minutesOfQueue 7 = .ok (.iconst 0, 1) := by decide +kernel
theorem dX4_minutesOfQueue_8 : decode cX4_minutesOfQueue 8 = .ok (.istore 4, 2) := by decide +kernel
theorem dX4_minutesOfQueue_10 : decode cX4_minutesOfQueue 10 = .ok (.iload 4, 2) := by decide +kernel
theorem dX4_minutesOfQueue_12 : decode cX4_minutesOfQueue 12 = .ok (.aload_n 1, 1) := by decide +kernel
theorem dX4_minutesOfQueue_13 : decode cX4_minutesOfQueue 13 = .ok (.getfield 113, 3) := by decide +kernel
theorem dX4_minutesOfQueue_16 : decode cX4_minutesOfQueue 16 = .ok (.if_icmp .ge 42, 3) := by decide +kernel
theorem dX4_minutesOfQueue_19 : decode cX4_minutesOfQueue 19 = .ok (.aload_n 1, 1) := by decide +kernel
theorem dX4_minutesOfQueue_20 : decode cX4_minutesOfQueue 20 = .ok (.iload 4, 2) := by decide +kernel
theorem dX4_minutesOfQueue_22 : decode cX4_minutesOfQueue 22 = .ok (.invokevirtual 116, 3) := by decide +kernel
theorem dX4_minutesOfQueue_25 : decode cX4_minutesOfQueue 25 = .ok (.astore 5, 2) := by decide +kernel
theorem dX4_minutesOfQueue_27 : decode cX4_minutesOfQueue 27 = .ok (.aload 5, 2) := by decide +kernel
theorem dX4_minutesOfQueue_29 : decode cX4_minutesOfQueue 29 = .ok (.ifnull 23, 3) := by decide +kernel
theorem dX4_minutesOfQueue_32 : decode cX4_minutesOfQueue 32 = .ok (.iload_n 2, 1) := by decide +kernel
theorem dX4_minutesOfQueue_33 : decode cX4_minutesOfQueue 33 = .ok (.aload_n 0, 1) := by decide +kernel
theorem dX4_minutesOfQueue_34 : decode cX4_minutesOfQueue 34 = .ok (.aload 5, 2) := by decide +kernel
theorem dX4_minutesOfQueue_36 : decode cX4_minutesOfQueue 36 = .ok (.aload_n 1, 1) := by decide +kernel
theorem dX4_minutesOfQueue_37 : decode cX4_minutesOfQueue 37 = .ok (.iload_n 3, 1) := by decide +kernel
theorem dX4_minutesOfQueue_38 : decode cX4_minutesOfQueue 38 = .ok (.invokevirtual 127, 3) := by decide +kernel
theorem dX4_minutesOfQueue_41 : decode cX4_minutesOfQueue 41 = .ok (.getfield 219, 3) := by decide +kernel
theorem dX4_minutesOfQueue_44 : decode cX4_minutesOfQueue 44 = .ok (.iadd, 1) := by decide +kernel
theorem dX4_minutesOfQueue_45 : decode cX4_minutesOfQueue 45 = .ok (.istore_n 2, 1) := by decide +kernel
theorem dX4_minutesOfQueue_46 : decode cX4_minutesOfQueue 46 = .ok (.aload 5, 2) := by decide +kernel
theorem dX4_minutesOfQueue_48 : decode cX4_minutesOfQueue 48 = .ok (.getfield 172, 3) := by decide +kernel
theorem dX4_minutesOfQueue_51 : decode cX4_minutesOfQueue 51 = .ok (.istore_n 3, 1) := by decide +kernel
theorem dX4_minutesOfQueue_52 : decode cX4_minutesOfQueue 52 = .ok (.iinc 4 1, 3) := by decide +kernel
theorem dX4_minutesOfQueue_55 : decode cX4_minutesOfQueue 55 = .ok (.goto (-45), 3) := by decide +kernel
theorem dX4_minutesOfQueue_58 : decode cX4_minutesOfQueue 58 = .ok (.iload_n 2, 1) := by decide +kernel
theorem dX4_minutesOfQueue_59 : decode cX4_minutesOfQueue 59 = .ok (.ireturn, 1) := by decide +kernel
theorem dX4_terms_0 : decode cX4_terms 0 = .ok (.iload_n 1, 1) := by decide +kernel
theorem dX4_terms_1 : decode cX4_terms 1 = .ok (.iconst 1, 1) := by decide +kernel
theorem dX4_terms_2 : decode cX4_terms 2 = .ok (.bipush 99, 2) := by decide +kernel
theorem dX4_terms_4 : decode cX4_terms 4 = .ok (.invokestatic 51, 3) := by decide +kernel
theorem dX4_terms_7 : decode cX4_terms 7 = .ok (.ifCond .eq 14, 3) := by decide +kernel
theorem dX4_terms_10 : decode cX4_terms 10 = .ok (.new 55, 3) := by decide +kernel
theorem dX4_terms_13 : decode cX4_terms 13 = .ok (.dup, 1) := by decide +kernel
theorem dX4_terms_14 : decode cX4_terms 14 = .ok (.ldc_w 325, 3) := by decide +kernel
theorem dX4_terms_17 : decode cX4_terms 17 = .ok (.invokespecial 59, 3) := by decide +kernel
theorem dX4_terms_20 : decode cX4_terms 20 = .ok (.athrow, 1) := by decide +kernel
theorem dX4_terms_21 : decode cX4_terms 21 = .ok (.iload_n 2, 1) := by decide +kernel
theorem dX4_terms_22 : decode cX4_terms 22 = .ok (.iconst 0, 1) := by decide +kernel
theorem dX4_terms_23 : decode cX4_terms 23 = .ok (.sipush 200, 3) := by decide +kernel
theorem dX4_terms_26 : decode cX4_terms 26 = .ok (.invokestatic 51, 3) := by decide +kernel
theorem dX4_terms_29 : decode cX4_terms 29 = .ok (.ifCond .eq 14, 3) := by decide +kernel
theorem dX4_terms_32 : decode cX4_terms 32 = .ok (.new 55, 3) := by decide +kernel
theorem dX4_terms_35 : decode cX4_terms 35 = .ok (.dup, 1) := by decide +kernel
theorem dX4_terms_36 : decode cX4_terms 36 = .ok (.ldc_w 327, 3) := by decide +kernel
theorem dX4_terms_39 : decode cX4_terms 39 = .ok (.invokespecial 59, 3) := by decide +kernel
theorem dX4_terms_42 : decode cX4_terms 42 = .ok (.athrow, 1) := by decide +kernel
theorem dX4_terms_43 : decode cX4_terms 43 = .ok (.aload_n 0, 1) := by decide +kernel
theorem dX4_terms_44 : decode cX4_terms 44 = .ok (.iload_n 1, 1) := by decide +kernel
theorem dX4_terms_45 : decode cX4_terms 45 = .ok (.putfield 29, 3) := by decide +kernel
theorem dX4_terms_48 : decode cX4_terms 48 = .ok (.aload_n 0, 1) := by decide +kernel
theorem dX4_terms_49 : decode cX4_terms 49 = .ok (.iload_n 2, 1) := by decide +kernel
theorem dX4_terms_50 : decode cX4_terms 50 = .ok (.putfield 33, 3) := by decide +kernel
theorem dX4_terms_53 : decode cX4_terms 53 = .ok (.aload_n 0, 1) := by decide +kernel
theorem dX4_terms_54 : decode cX4_terms 54 = .ok (.getfield 106, 3) := by decide +kernel
theorem dX4_terms_57 : decode cX4_terms 57 = .ok (.ireturn, 1) := by decide +kernel
theorem dX4_many_0 : decode cX4_many 0 = .ok (.iload_n 1, 1) := by decide +kernel
theorem dX4_many_1 : decode cX4_many 1 = .ok (.tableswitch 118 0 10 #[59, 64, 70, 76, 82, 88, 93, 98, 103, 108, 113], 59) := by decide +kernel
theorem dX4_many_60 : decode cX4_many 60 = .ok (.aload_n 0, 1) := by decide +kernel
theorem dX4_many_61 : decode cX4_many 61 = .ok (.getfield 148, 3) := by decide +kernel
theorem dX4_many_64 : decode cX4_many 64 = .ok (.ireturn, 1) := by decide +kernel
theorem dX4_many_65 : decode cX4_many 65 = .ok (.aload_n 0, 1) := by decide +kernel
theorem dX4_many_66 : decode cX4_many 66 = .ok (.iconst 0, 1) := by decide +kernel
theorem dX4_many_67 : decode cX4_many 67 = .ok (.invokevirtual 329, 3) := by decide +kernel
theorem dX4_many_70 : decode cX4_many 70 = .ok (.ireturn, 1) := by decide +kernel
theorem dX4_many_71 : decode cX4_many 71 = .ok (.aload_n 0, 1) := by decide +kernel
theorem dX4_many_72 : decode cX4_many 72 = .ok (.iconst 1, 1) := by decide +kernel
theorem dX4_many_73 : decode cX4_many 73 = .ok (.invokevirtual 329, 3) := by decide +kernel
theorem dX4_many_76 : decode cX4_many 76 = .ok (.ireturn, 1) := by decide +kernel
theorem dX4_many_77 : decode cX4_many 77 = .ok (.aload_n 0, 1) := by decide +kernel
theorem dX4_many_78 : decode cX4_many 78 = .ok (.iconst 2, 1) := by decide +kernel
theorem dX4_many_79 : decode cX4_many 79 = .ok (.invokevirtual 329, 3) := by decide +kernel
theorem dX4_many_82 : decode cX4_many 82 = .ok (.ireturn, 1) := by decide +kernel
theorem dX4_many_83 : decode cX4_many 83 = .ok (.aload_n 0, 1) := by decide +kernel
theorem dX4_many_84 : decode cX4_many 84 = .ok (.iconst 3, 1) := by decide +kernel
theorem dX4_many_85 : decode cX4_many 85 = .ok (.invokevirtual 329, 3) := by decide +kernel
theorem dX4_many_88 : decode cX4_many 88 = .ok (.ireturn, 1) := by decide +kernel
theorem dX4_many_89 : decode cX4_many 89 = .ok (.aload_n 0, 1) := by decide +kernel
theorem dX4_many_90 : decode cX4_many 90 = .ok (.getfield 106, 3) := by decide +kernel
theorem dX4_many_93 : decode cX4_many 93 = .ok (.ireturn, 1) := by decide +kernel
theorem dX4_many_94 : decode cX4_many 94 = .ok (.aload_n 0, 1) := by decide +kernel
theorem dX4_many_95 : decode cX4_many 95 = .ok (.invokevirtual 332, 3) := by decide +kernel
theorem dX4_many_98 : decode cX4_many 98 = .ok (.ireturn, 1) := by decide +kernel
theorem dX4_many_99 : decode cX4_many 99 = .ok (.aload_n 0, 1) := by decide +kernel
theorem dX4_many_100 : decode cX4_many 100 = .ok (.invokevirtual 335, 3) := by decide +kernel
theorem dX4_many_103 : decode cX4_many 103 = .ok (.ireturn, 1) := by decide +kernel
theorem dX4_many_104 : decode cX4_many 104 = .ok (.aload_n 0, 1) := by decide +kernel
theorem dX4_many_105 : decode cX4_many 105 = .ok (.invokevirtual 338, 3) := by decide +kernel
theorem dX4_many_108 : decode cX4_many 108 = .ok (.ireturn, 1) := by decide +kernel
theorem dX4_many_109 : decode cX4_many 109 = .ok (.aload_n 0, 1) := by decide +kernel
theorem dX4_many_110 : decode cX4_many 110 = .ok (.getfield 311, 3) := by decide +kernel
theorem dX4_many_113 : decode cX4_many 113 = .ok (.ireturn, 1) := by decide +kernel
theorem dX4_many_114 : decode cX4_many 114 = .ok (.aload_n 0, 1) := by decide +kernel
theorem dX4_many_115 : decode cX4_many 115 = .ok (.getfield 314, 3) := by decide +kernel
theorem dX4_many_118 : decode cX4_many 118 = .ok (.ireturn, 1) := by decide +kernel
theorem dX4_many_119 : decode cX4_many 119 = .ok (.new 55, 3) := by decide +kernel
theorem dX4_many_122 : decode cX4_many 122 = .ok (.dup, 1) := by decide +kernel
theorem dX4_many_123 : decode cX4_many 123 = .ok (.ldc_w 341, 3) := by decide +kernel
theorem dX4_many_126 : decode cX4_many 126 = .ok (.invokespecial 59, 3) := by decide +kernel
theorem dX4_many_129 : decode cX4_many 129 = .ok (.athrow, 1) := by decide +kernel
theorem dX4_jobsThatAre_0 : decode cX4_jobsThatAre 0 = .ok (.iconst 0, 1) := by decide +kernel
theorem dX4_jobsThatAre_1 : decode cX4_jobsThatAre 1 = .ok (.istore_n 2, 1) := by decide +kernel
theorem dX4_jobsThatAre_2 : decode cX4_jobsThatAre 2 = .ok (.iconst 0, 1) := by decide +kernel
theorem dX4_jobsThatAre_3 : decode cX4_jobsThatAre 3 = .ok (.istore_n 3, 1) := by decide +kernel
theorem dX4_jobsThatAre_4 : decode cX4_jobsThatAre 4 = .ok (.iload_n 3, 1) := by decide +kernel
theorem dX4_jobsThatAre_5 : decode cX4_jobsThatAre 5 = .ok (.aload_n 0, 1) := by decide +kernel
theorem dX4_jobsThatAre_6 : decode cX4_jobsThatAre 6 = .ok (.getfield 25, 3) := by decide +kernel
theorem dX4_jobsThatAre_9 : decode cX4_jobsThatAre 9 = .ok (.arraylength, 1) := by decide +kernel
theorem dX4_jobsThatAre_10 : decode cX4_jobsThatAre 10 = .ok (.if_icmp .ge 34, 3) := by decide +kernel
theorem dX4_jobsThatAre_13 : decode cX4_jobsThatAre 13 = .ok (.aload_n 0, 1) := by decide +kernel
theorem dX4_jobsThatAre_14 : decode cX4_jobsThatAre 14 = .ok (.getfield 25, 3) := by decide +kernel
theorem dX4_jobsThatAre_17 : decode cX4_jobsThatAre 17 = .ok (.iload_n 3, 1) := by decide +kernel
theorem dX4_jobsThatAre_18 : decode cX4_jobsThatAre 18 = .ok (.aaload, 1) := by decide +kernel
theorem dX4_jobsThatAre_19 : decode cX4_jobsThatAre 19 = .ok (.astore 4, 2) := by decide +kernel
theorem dX4_jobsThatAre_21 : decode cX4_jobsThatAre 21 = .ok (.aload 4, 2) := by decide +kernel
theorem dX4_jobsThatAre_23 : decode cX4_jobsThatAre 23 = .ok (.ifnull 15, 3) := by decide +kernel
theorem dX4_jobsThatAre_26 : decode cX4_jobsThatAre 26 = .ok (.aload 4, 2) := by decide +kernel
theorem dX4_jobsThatAre_28 : decode cX4_jobsThatAre 28 = .ok (.getfield 183, 3) := by decide +kernel
theorem dX4_jobsThatAre_31 : decode cX4_jobsThatAre 31 = .ok (.iload_n 1, 1) := by decide +kernel
theorem dX4_jobsThatAre_32 : decode cX4_jobsThatAre 32 = .ok (.if_icmp .ne 6, 3) := by decide +kernel
theorem dX4_jobsThatAre_35 : decode cX4_jobsThatAre 35 = .ok (.iinc 2 1, 3) := by decide +kernel
