theorem dX4_jobsThatAre_38 : decode cX4_jobsThatAre 38 = .ok (.iinc 3 1, 3) := by decide +kernel
theorem dX4_jobsThatAre_41 : decode cX4_jobsThatAre 41 = .ok (.goto (-37), 3) := by decide +kernel
theorem dX4_jobsThatAre_44 : decode cX4_jobsThatAre 44 = .ok (.iload_n 2, 1) := by decide +kernel
theorem dX4_jobsThatAre_45 : decode cX4_jobsThatAre 45 = .ok (.ireturn, 1) := by decide +kernel
theorem dX4_moneyOfInvoices_0 : decode cX4_moneyOfInvoices 0 = .ok (.iconst 0, 1) := by decide +kernel
theorem dX4_moneyOfInvoices_1 : decode cX4_moneyOfInvoices 1 = .ok (.istore_n 1, 1) := by decide +kernel
theorem dX4_moneyOfInvoices_2 : decode cX4_moneyOfInvoices 2 = .ok (.iconst 0, 1) := by decide +kernel
theorem dX4_moneyOfInvoices_3 : decode cX4_moneyOfInvoices 3 = .ok (.istore_n 2, 1) := by decide +kernel
theorem dX4_moneyOfInvoices_4 : decode cX4_moneyOfInvoices 4 = .ok (.iload_n 2, 1) := by decide +kernel
theorem dX4_moneyOfInvoices_5 : decode cX4_moneyOfInvoices 5 = .ok (.aload_n 0, 1) := by decide +kernel
theorem dX4_moneyOfInvoices_6 : decode cX4_moneyOfInvoices 6 = .ok (.getfield 25, 3) := by decide +kernel
theorem dX4_moneyOfInvoices_9 : decode cX4_moneyOfInvoices 9 = .ok (.arraylength, 1) := by decide +kernel
theorem dX4_moneyOfInvoices_10 : decode cX4_moneyOfInvoices 10 = .ok (.if_icmp .ge 27, 3) := by decide +kernel
theorem dX4_moneyOfInvoices_13 : decode cX4_moneyOfInvoices 13 = .ok (.aload_n 0, 1) := by decide +kernel
theorem dX4_moneyOfInvoices_14 : decode cX4_moneyOfInvoices 14 = .ok (.getfield 25, 3) := by decide +kernel
theorem dX4_moneyOfInvoices_17 : decode cX4_moneyOfInvoices 17 = .ok (.iload_n 2, 1) := by decide +kernel
theorem dX4_moneyOfInvoices_18 : decode cX4_moneyOfInvoices 18 = .ok (.aaload, 1) := by decide +kernel
theorem dX4_moneyOfInvoices_19 : decode cX4_moneyOfInvoices 19 = .ok (.astore_n 3, 1) := by decide +kernel
theorem dX4_moneyOfInvoices_20 : decode cX4_moneyOfInvoices 20 = .ok (.aload_n 3, 1) := by decide +kernel
theorem dX4_moneyOfInvoices_21 : decode cX4_moneyOfInvoices 21 = .ok (.ifnull 10, 3) := by decide +kernel
theorem dX4_moneyOfInvoices_24 : decode cX4_moneyOfInvoices 24 = .ok (.iload_n 1, 1) := by decide +kernel
theorem dX4_moneyOfInvoices_25 : decode cX4_moneyOfInvoices 25 = .ok (.aload_n 3, 1) := by decide +kernel
theorem dX4_moneyOfInvoices_26 : decode cX4_moneyOfInvoices 26 = .ok (.getfield 198, 3) := by decide +kernel
theorem dX4_moneyOfInvoices_29 : decode cX4_moneyOfInvoices 29 = .ok (.iadd, 1) := by decide +kernel
theorem dX4_moneyOfInvoices_30 : decode cX4_moneyOfInvoices 30 = .ok (.istore_n 1, 1) := by decide +kernel
theorem dX4_moneyOfInvoices_31 : decode cX4_moneyOfInvoices 31 = .ok (.iinc 2 1, 3) := by decide +kernel
theorem dX4_moneyOfInvoices_34 : decode cX4_moneyOfInvoices 34 = .ok (.goto (-30), 3) := by decide +kernel
theorem dX4_moneyOfInvoices_37 : decode cX4_moneyOfInvoices 37 = .ok (.iload_n 1, 1) := by decide +kernel
theorem dX4_moneyOfInvoices_38 : decode cX4_moneyOfInvoices 38 = .ok (.ireturn, 1) := by decide +kernel
theorem dX4_costOfJobs_0 : decode cX4_costOfJobs 0 = .ok (.iconst 0, 1) := by decide +kernel
theorem dX4_costOfJobs_1 : decode cX4_costOfJobs 1 = .ok (.istore_n 1, 1) := by decide +kernel
theorem dX4_costOfJobs_2 : decode cX4_costOfJobs 2 = .ok (.iconst 0, 1) := by decide +kernel
theorem dX4_costOfJobs_3 : decode cX4_costOfJobs 3 = .ok (.istore_n 2, 1) := by decide +kernel
theorem dX4_costOfJobs_4 : decode cX4_costOfJobs 4 = .ok (.iload_n 2, 1) := by decide +kernel
theorem dX4_costOfJobs_5 : decode cX4_costOfJobs 5 = .ok (.aload_n 0, 1) := by decide +kernel
theorem dX4_costOfJobs_6 : decode cX4_costOfJobs 6 = .ok (.getfield 25, 3) := by decide +kernel
theorem dX4_costOfJobs_9 : decode cX4_costOfJobs 9 = .ok (.arraylength, 1) := by decide +kernel
theorem dX4_costOfJobs_10 : decode cX4_costOfJobs 10 = .ok (.if_icmp .ge 27, 3) := by decide +kernel
theorem dX4_costOfJobs_13 : decode cX4_costOfJobs 13 = .ok (.aload_n 0, 1) := by decide +kernel
theorem dX4_costOfJobs_14 : decode cX4_costOfJobs 14 = .ok (.getfield 25, 3) := by decide +kernel
theorem dX4_costOfJobs_17 : decode cX4_costOfJobs 17 = .ok (.iload_n 2, 1) := by decide +kernel
theorem dX4_costOfJobs_18 : decode cX4_costOfJobs 18 = .ok (.aaload, 1) := by decide +kernel
theorem dX4_costOfJobs_19 : decode cX4_costOfJobs 19 = .ok (.astore_n 3, 1) := by decide +kernel
theorem dX4_costOfJobs_20 : decode cX4_costOfJobs 20 = .ok (.aload_n 3, 1) := by decide +kernel
theorem dX4_costOfJobs_21 : decode cX4_costOfJobs 21 = .ok (.ifnull 10, 3) := by decide +kernel
theorem dX4_costOfJobs_24 : decode cX4_costOfJobs 24 = .ok (.iload_n 1, 1) := by decide +kernel
theorem dX4_costOfJobs_25 : decode cX4_costOfJobs 25 = .ok (.aload_n 3, 1) := by decide +kernel
theorem dX4_costOfJobs_26 : decode cX4_costOfJobs 26 = .ok (.getfield 195, 3) := by decide +kernel
theorem dX4_costOfJobs_29 : decode cX4_costOfJobs 29 = .ok (.iadd, 1) := by decide +kernel
theorem dX4_costOfJobs_30 : decode cX4_costOfJobs 30 = .ok (.istore_n 1, 1) := by decide +kernel
theorem dX4_costOfJobs_31 : decode cX4_costOfJobs 31 = .ok (.iinc 2 1, 3) := by decide +kernel
theorem dX4_costOfJobs_34 : decode cX4_costOfJobs 34 = .ok (.goto (-30), 3) := by decide +kernel
theorem dX4_costOfJobs_37 : decode cX4_costOfJobs 37 = .ok (.iload_n 1, 1) := by decide +kernel
theorem dX4_costOfJobs_38 : decode cX4_costOfJobs 38 = .ok (.ireturn, 1) := by decide +kernel
theorem dX4_worthOfStock_0 : decode cX4_worthOfStock 0 = .ok (.iconst 0, 1) := by decide +kernel
theorem dX4_worthOfStock_1 : decode cX4_worthOfStock 1 = .ok (.istore_n 1, 1) := by decide +kernel
theorem dX4_worthOfStock_2 : decode cX4_worthOfStock 2 = .ok (.iconst 0, 1) := by decide +kernel
theorem dX4_worthOfStock_3 : decode cX4_worthOfStock 3 = .ok (.istore_n 2, 1) := by decide +kernel
theorem dX4_worthOfStock_4 : decode cX4_worthOfStock 4 = .ok (.iload_n 2, 1) := by decide +kernel
theorem dX4_worthOfStock_5 : decode cX4_worthOfStock 5 = .ok (.aload_n 0, 1) := by decide +kernel
theorem dX4_worthOfStock_6 : decode cX4_worthOfStock 6 = .ok (.getfield 11, 3) := by decide +kernel
theorem dX4_worthOfStock_9 : decode cX4_worthOfStock 9 = .ok (.arraylength, 1) := by decide +kernel
theorem dX4_worthOfStock_10 : decode cX4_worthOfStock 10 = .ok (.if_icmp .ge 32, 3) := by decide +kernel
theorem dX4_worthOfStock_13 : decode cX4_worthOfStock 13 = .ok (.aload_n 0, 1) := by decide +kernel
theorem dX4_worthOfStock_14 : decode cX4_worthOfStock 14 = .ok (.getfield 11, 3) := by decide +kernel
theorem dX4_worthOfStock_17 : decode cX4_worthOfStock 17 = .ok (.iload_n 2, 1) := by decide +kernel
theorem dX4_worthOfStock_18 : decode cX4_worthOfStock 18 = .ok (.aaload, 1) := by decide +kernel
theorem dX4_worthOfStock_19 : decode cX4_worthOfStock 19 = .ok (.astore_n 3, 1) := by decide +kernel
theorem dX4_worthOfStock_20 : decode cX4_worthOfStock 20 = .ok (.aload_n 3, 1) := by decide +kernel
theorem dX4_worthOfStock_21 : decode cX4_worthOfStock 21 = .ok (.ifnull 15, 3) := by decide +kernel
theorem dX4_worthOfStock_24 : decode cX4_worthOfStock 24 = .ok (.iload_n 1, 1) := by decide +kernel
theorem dX4_worthOfStock_25 : decode cX4_worthOfStock 25 = .ok (.aload_n 3, 1) := by decide +kernel
theorem dX4_worthOfStock_26 : decode cX4_worthOfStock 26 = .ok (.getfield 85, 3) := by decide +kernel
theorem dX4_worthOfStock_29 : decode cX4_worthOfStock 29 = .ok (.aload_n 3, 1) := by decide +kernel
theorem dX4_worthOfStock_30 : decode cX4_worthOfStock 30 = .ok (.getfield 64, 3) := by decide +kernel
theorem dX4_worthOfStock_33 : decode cX4_worthOfStock 33 = .ok (.imul, 1) := by decide +kernel
theorem dX4_worthOfStock_34 : decode cX4_worthOfStock 34 = .ok (.iadd, 1) := by decide +kernel
theorem dX4_worthOfStock_35 : decode cX4_worthOfStock 35 = .ok (.istore_n 1, 1) := by decide +kernel
theorem dX4_worthOfStock_36 : decode cX4_worthOfStock 36 = .ok (.iinc 2 1, 3) := by decide +kernel
theorem dX4_worthOfStock_39 : decode cX4_worthOfStock 39 = .ok (.goto (-35), 3) := by decide +kernel
theorem dX4_worthOfStock_42 : decode cX4_worthOfStock 42 = .ok (.iload_n 1, 1) := by decide +kernel
theorem dX4_worthOfStock_43 : decode cX4_worthOfStock 43 = .ok (.ireturn, 1) := by decide +kernel
theorem dX4_bestPress_0 : decode cX4_bestPress 0 = .ok (.aload_n 0, 1) := by decide +kernel
theorem dX4_bestPress_1 : decode cX4_bestPress 1 = .ok (.iload_n 1, 1) := by decide +kernel
theorem dX4_bestPress_2 : decode cX4_bestPress 2 = .ok (.invokevirtual 163, 3) := by decide +kernel
theorem dX4_bestPress_5 : decode cX4_bestPress 5 = .ok (.astore_n 2, 1) := by decide +kernel
theorem dX4_bestPress_6 : decode cX4_bestPress 6 = .ok (.iconst 0, 1) := by decide +kernel
theorem dX4_bestPress_7 : decode cX4_bestPress 7 = .ok (.istore_n 3, 1) := by decide +kernel
theorem dX4_bestPress_8 : decode cX4_bestPress 8 = .ok (.ldc_w 343, 3) := by decide +kernel
theorem dX4_bestPress_11 : decode cX4_bestPress 11 = .ok (.istore 4, 2) := by decide +kernel
theorem dX4_bestPress_13 : decode cX4_bestPress 13 = .ok (.iconst 0, 1) := by decide +kernel
theorem dX4_bestPress_14 : decode cX4_bestPress 14 = .ok (.istore 5, 2) := by decide +kernel
theorem dX4_bestPress_16 : decode cX4_bestPress 16 = .ok (.iload 5, 2) := by decide +kernel
theorem dX4_bestPress_18 : decode cX4_bestPress 18 = .ok (.aload_n 0, 1) := by decide +kernel
theorem dX4_bestPress_19 : decode cX4_bestPress 19 = .ok (.getfield 18, 3) := by decide +kernel
theorem dX4_bestPress_22 : decode cX4_bestPress 22 = .ok (.arraylength, 1) := by decide +kernel
theorem dX4_bestPress_23 : decode cX4_bestPress 23 = .ok (.if_icmp .ge 54, 3) := by decide +kernel
theorem dX4_bestPress_26 : decode cX4_bestPress 26 = .ok (.aload_n 0, 1) := by decide +kernel
theorem dX4_bestPress_27 : decode cX4_bestPress 27 = .ok (.getfield 18, 3) := by decide +kernel
theorem dX4_bestPress_30 : decode cX4_bestPress 30 = .ok (.iload 5, 2) := by decide +kernel
theorem dX4_bestPress_32 : decode cX4_bestPress 32 = .ok (.aaload, 1) := by decide +kernel
theorem dX4_bestPress_33 : decode cX4_bestPress 33 = .ok (.astore 6, 2) := by decide +kernel
theorem dX4_bestPress_35 : decode cX4_bestPress 35 = .ok (.aload 6, 2) := by decide +kernel
theorem dX4_bestPress_37 : decode cX4_bestPress 37 = .ok (.ifnull 34, 3) := by decide +kernel
theorem dX4_bestPress_40 : decode cX4_bestPress 40 = .ok (.aload_n 0, 1) := by decide +kernel
theorem dX4_bestPress_41 : decode cX4_bestPress 41 = .ok (.aload_n 2, 1) := by decide +kernel
theorem dX4_bestPress_42 : decode cX4_bestPress 42 = .ok (.aload 6, 2) := by decide +kernel
theorem dX4_bestPress_44 : decode cX4_bestPress 44 = .ok (.aload 6, 2) := by decide +kernel
theorem dX4_bestPress_46 : decode cX4_bestPress 46 = .ok (.getfield 124, 3) := by decide +kernel
theorem dX4_bestPress_49 : decode cX4_bestPress 49 = .ok (.invokevirtual 127, 3) := by decide +kernel
theorem dX4_bestPress_52 : decode cX4_bestPress 52 = .ok (.getfield 222, 3) := by decide +kernel
theorem dX4_bestPress_55 : decode cX4_bestPress 55 = .ok (.istore 7, 2) := by decide +kernel
theorem dX4_bestPress_57 : decode cX4_bestPress 57 = .ok (.iload 7, 2) := by decide +kernel
theorem dX4_bestPress_59 : decode cX4_bestPress 59 = .ok (.iload 4, 2) := by decide +kernel
theorem dX4_bestPress_61 : decode cX4_bestPress 61 = .ok (.if_icmp .ge 10, 3) := by decide +kernel
theorem dX4_bestPress_64 : decode cX4_bestPress 64 = .ok (.iload 5, 2) := by decide +kernel
theorem dX4_bestPress_66 : decode cX4_bestPress 66 = .ok (.istore_n 3, 1) := by decide +kernel
theorem dX4_bestPress_67 : decode cX4_bestPress 67 = .ok (.iload 7, 2) := by decide +kernel
theorem dX4_bestPress_69 : decode cX4_bestPress 69 = .ok (.istore 4, 2) := by decide +kernel
theorem dX4_bestPress_71 : decode cX4_bestPress 71 = .ok (.iinc 5 1, 3) := by decide +kernel
theorem dX4_bestPress_74 : decode cX4_bestPress 74 = .ok (.goto (-58), 3) := by decide +kernel
theorem dX4_bestPress_77 : decode cX4_bestPress 77 = .ok (.iload_n 3, 1) := by decide +kernel
theorem dX4_bestPress_78 : decode cX4_bestPress 78 = .ok (.ireturn, 1) := by decide +kernel
theorem dX4_profit_0 : decode cX4_profit 0 = .ok (.aload_n 0, 1) := by decide +kernel
theorem dX4_profit_1 : decode cX4_profit 1 = .ok (.iload_n 1, 1) := by decide +kernel
theorem dX4_profit_2 : decode cX4_profit 2 = .ok (.invokevirtual 163, 3) := by decide +kernel
theorem dX4_profit_5 : decode cX4_profit 5 = .ok (.astore_n 2, 1) := by decide +kernel
theorem dX4_profit_6 : decode cX4_profit 6 = .ok (.aload_n 2, 1) := by decide +kernel
theorem dX4_profit_7 : decode cX4_profit 7 = .ok (.invokevirtual 238, 3) := by decide +kernel
theorem dX4_profit_10 : decode cX4_profit 10 = .ok (.aload_n 2, 1) := by decide +kernel
theorem dX4_profit_11 : decode cX4_profit 11 = .ok (.getfield 195, 3) := by decide +kernel
theorem dX4_profit_14 : decode cX4_profit 14 = .ok (.isub, 1) := by decide +kernel
theorem dX4_profit_15 : decode cX4_profit 15 = .ok (.ireturn, 1) := by decide +kernel
theorem dX4_digest_0 : decode cX4_digest 0 = .ok (.ldc2_w 348, 3) := by decide +kernel
theorem dX4_digest_3 : decode cX4_digest 3 = .ok (.lstore_n 1, 1) := by decide +kernel
theorem dX4_digest_4 : decode cX4_digest 4 = .ok (.iconst 0, 1) := by decide +kernel
theorem dX4_digest_5 : decode cX4_digest 5 = .ok (.istore_n 3, 1) := by decide +kernel
theorem dX4_digest_6 : decode cX4_digest 6 = .ok (.iload_n 3, 1) := by decide +kernel
theorem dX4_digest_7 : decode cX4_digest 7 = .ok (.bipush 10, 2) := by decide +kernel
theorem dX4_digest_9 : decode cX4_digest 9 = .ok (.if_icmp .gt 22, 3) := by decide +kernel
theorem dX4_digest_12 : decode cX4_digest 12 = .ok (.lload_n 1, 1) := by decide +kernel
theorem dX4_digest_13 : decode cX4_digest 13 = .ok (.ldc2_w 350, 3) := by decide +kernel
theorem dX4_digest_16 : decode cX4_digest 16 = .ok (.lmul, 1) := by decide +kernel
theorem dX4_digest_17 : decode cX4_digest 17 = .ok (.aload_n 0, 1) := by decide +kernel
theorem dX4_digest_18 : decode cX4_digest 18 = .ok (.iload_n 3, 1) := by decide +kernel
theorem dX4_digest_19 : decode cX4_digest 19 = .ok (.invokevirtual 352, 3) := by decide +kernel
theorem dX4_digest_22 : decode cX4_digest 22 = .ok (.i2l, 1) := by decide +kernel
theorem dX4_digest_23 : decode cX4_digest 23 = .ok (.ladd, 1) := by decide +kernel
theorem dX4_digest_24 : decode cX4_digest 24 = .ok (.lstore_n 1, 1) := by decide +kernel
theorem dX4_digest_25 : decode cX4_digest 25 = .ok (.iinc 3 1, 3) := by decide +kernel
theorem dX4_digest_28 : decode cX4_digest 28 = .ok (.goto (-22), 3) := by decide +kernel
theorem dX4_digest_31 : decode cX4_digest 31 = .ok (.iconst 0, 1) := by decide +kernel
theorem dX4_digest_32 : decode cX4_digest 32 = .ok (.istore_n 3, 1) := by decide +kernel
theorem dX4_digest_33 : decode cX4_digest 33 = .ok (.iload_n 3, 1) := by decide +kernel
theorem dX4_digest_34 : decode cX4_digest 34 = .ok (.aload_n 0, 1) := by decide +kernel
theorem dX4_digest_35 : decode cX4_digest 35 = .ok (.getfield 11, 3) := by decide +kernel
theorem dX4_digest_38 : decode cX4_digest 38 = .ok (.arraylength, 1) := by decide +kernel
theorem dX4_digest_39 : decode cX4_digest 39 = .ok (.if_icmp .ge 39, 3) := by decide +kernel
theorem dX4_digest_42 : decode cX4_digest 42 = .ok (.iconst 0, 1) := by decide +kernel
theorem dX4_digest_43 : decode cX4_digest 43 = .ok (.istore 4, 2) := by decide +kernel
theorem dX4_digest_45 : decode cX4_digest 45 = .ok (.iload 4, 2) := by decide +kernel
theorem dX4_digest_47 : decode cX4_digest 47 = .ok (.iconst 5, 1) := by decide +kernel
theorem dX4_digest_48 : decode cX4_digest 48 = .ok (.if_icmp .gt 24, 3) := by decide +kernel
theorem dX4_digest_51 : decode cX4_digest 51 = .ok (.lload_n 1, 1) := by decide +kernel
theorem dX4_digest_52 : decode cX4_digest 52 = .ok (.ldc2_w 350, 3) := by decide +kernel
theorem dX4_digest_55 : decode cX4_digest 55 = .ok (.lmul, 1) := by decide +kernel
theorem dX4_digest_56 : decode cX4_digest 56 = .ok (.aload_n 0, 1) := by decide +kernel
theorem dX4_digest_57 : decode cX4_digest 57 = .ok (.iload_n 3, 1) := by decide +kernel
theorem dX4_digest_58 : decode cX4_digest 58 = .ok (.iload 4, 2) := by decide +kernel
theorem dX4_digest_60 : decode cX4_digest 60 = .ok (.invokevirtual 355, 3) := by decide +kernel
theorem dX4_digest_63 : decode cX4_digest 63 = .ok (.i2l, 1) := by decide +kernel
theorem dX4_digest_64 : decode cX4_digest 64 = .ok (.ladd, 1) := by decide +kernel
theorem dX4_digest_65 : decode cX4_digest 65 = .ok (.lstore_n 1, 1) := by decide +kernel
theorem dX4_digest_66 : decode cX4_digest 66 = .ok (.iinc 4 1, 3) := by decide +kernel
theorem dX4_digest_69 : decode cX4_digest 69 = .ok (.goto (-24), 3) := by decide +kernel
theorem dX4_digest_72 : decode cX4_digest 72 = .ok (.iinc 3 1, 3) := by decide +kernel
theorem dX4_digest_75 : decode cX4_digest 75 = .ok (.goto (-42), 3) := by decide +kernel
theorem dX4_digest_78 : decode cX4_digest 78 = .ok (.iconst 0, 1) := by decide +kernel
theorem dX4_digest_79 : decode cX4_digest 79 = .ok (.istore_n 3, 1) := by decide +kernel
theorem dX4_digest_80 : decode cX4_digest 80 = .ok (.iload_n 3, 1) := by decide +kernel
theorem dX4_digest_81 : decode cX4_digest 81 = .ok (.aload_n 0, 1) := by decide +kernel
theorem dX4_digest_82 : decode cX4_digest 82 = .ok (.getfield 18, 3) := by decide +kernel
theorem dX4_digest_85 : decode cX4_digest 85 = .ok (.arraylength, 1) := by decide +kernel
theorem dX4_digest_86 : decode cX4_digest 86 = .ok (.if_icmp .ge 16, 3) := by decide +kernel
theorem dX4_digest_89 : decode cX4_digest 89 = .ok (.aload_n 0, 1) := by decide +kernel
theorem dX4_digest_90 : decode cX4_digest 90 = .ok (.lload_n 1, 1) := by decide +kernel
theorem dX4_digest_91 : decode cX4_digest 91 = .ok (.iload_n 3, 1) := by decide +kernel
theorem dX4_digest_92 : decode cX4_digest 92 = .ok (.invokevirtual 358, 3) := by decide +kernel
theorem dX4_digest_95 : decode cX4_digest 95 = .ok (.lstore_n 1, 1) := by decide +kernel
theorem dX4_digest_96 : decode cX4_digest 96 = .ok (.iinc 3 1, 3) := by decide +kernel
theorem dX4_digest_99 : decode cX4_digest 99 = .ok (.goto (-19), 3) := by decide +kernel
theorem dX4_digest_102 : decode cX4_digest 102 = .ok (.iconst 0, 1) := by decide +kernel
theorem dX4_digest_103 : decode cX4_digest 103 = .ok (.istore_n 3, 1) := by decide +kernel
theorem dX4_digest_104 : decode cX4_digest 104 = .ok (.iload_n 3, 1) := by decide +kernel
theorem dX4_digest_105 : decode cX4_digest 105 = .ok (.aload_n 0, 1) := by decide +kernel
theorem dX4_digest_106 : decode cX4_digest 106 = .ok (.getfield 148, 3) := by decide +kernel
theorem dX4_digest_109 : decode cX4_digest 109 = .ok (.if_icmp .ge 16, 3) := by decide +kernel
theorem dX4_digest_112 : decode cX4_digest 112 = .ok (.aload_n 0, 1) := by decide +kernel
theorem dX4_digest_113 : decode cX4_digest 113 = .ok (.lload_n 1, 1) := by decide +kernel
theorem dX4_digest_114 : decode cX4_digest 114 = .ok (.iload_n 3, 1) := by decide +kernel
theorem dX4_digest_115 : decode cX4_digest 115 = .ok (.invokevirtual 362, 3) := by decide +kernel
theorem dX4_digest_118 : decode cX4_digest 118 = .ok (.lstore_n 1, 1) := by decide +kernel
theorem dX4_digest_119 : decode cX4_digest 119 = .ok (.iinc 3 1, 3) := by decide +kernel
theorem dX4_digest_122 : decode cX4_digest 122 = .ok (.goto (-18), 3) := by decide +kernel
theorem dX4_digest_125 : decode cX4_digest 125 = .ok (.lload_n 1, 1) := by decide +kernel
theorem dX4_digest_126 : decode cX4_digest 126 = .ok (.lreturn, 1) := by decide +kernel
theorem dX4_digestWithPress_0 : decode cX4_digestWithPress 0 = .ok (.lload_n 1, 1) := by decide +kernel
theorem dX4_digestWithPress_1 : decode cX4_digestWithPress 1 = .ok (.lstore 4, 2) := by decide +kernel
theorem dX4_digestWithPress_3 : decode cX4_digestWithPress 3 = .ok (.iconst 0, 1) := by decide +kernel
theorem dX4_digestWithPress_4 : decode cX4_digestWithPress 4 = .ok (.istore 6, 2) := by decide +kernel
theorem dX4_digestWithPress_6 : decode cX4_digestWithPress 6 = .ok (.iload 6, 2) := by decide +kernel
theorem dX4_digestWithPress_8 : decode cX4_digestWithPress 8 = .ok (.bipush 6, 2) := by decide +kernel
theorem dX4_digestWithPress_10 : decode cX4_digestWithPress 10 = .ok (.if_icmp .gt 26, 3) := by decide +kernel
theorem dX4_digestWithPress_13 : decode cX4_digestWithPress 13 = .ok (.lload 4, 2) := by decide +kernel
theorem dX4_digestWithPress_15 : decode cX4_digestWithPress 15 = .ok (.ldc2_w 350, 3) := by decide +kernel
theorem dX4_digestWithPress_18 : decode cX4_digestWithPress 18 = .ok (.lmul, 1) := by decide +kernel
theorem dX4_digestWithPress_19 : decode cX4_digestWithPress 19 = .ok (.aload_n 0, 1) := by decide +kernel
theorem dX4_digestWithPress_20 : decode cX4_digestWithPress 20 = .ok (.iload_n 3, 1) := by decide +kernel
theorem dX4_digestWithPress_21 : decode cX4_digestWithPress 21 = .ok (.iload 6, 2) := by decide +kernel
theorem dX4_digestWithPress_23 : decode cX4_digestWithPress 23 = .ok (.invokevirtual 365, 3) := by decide +kernel
theorem dX4_digestWithPress_26 : decode cX4_digestWithPress 26 = .ok (.i2l, 1) := by decide +kernel
theorem dX4_digestWithPress_27 : decode cX4_digestWithPress 27 = .ok (.ladd, 1) := by decide +kernel
theorem dX4_digestWithPress_28 : decode cX4_digestWithPress 28 = .ok (.lstore 4, 2) := by decide +kernel
theorem dX4_digestWithPress_30 : decode cX4_digestWithPress 30 = .ok (.iinc 6 1, 3) := by decide +kernel
theorem dX4_digestWithPress_33 : decode cX4_digestWithPress 33 = .ok (.goto (-27), 3) := by decide +kernel
theorem dX4_digestWithPress_36 : decode cX4_digestWithPress 36 = .ok (.aload_n 0, 1) := by decide +kernel
theorem dX4_digestWithPress_37 : decode cX4_digestWithPress 37 = .ok (.iload_n 3, 1) := by decide +kernel
theorem dX4_digestWithPress_38 : decode cX4_digestWithPress 38 = .ok (.invokevirtual 206, 3) := by decide +kernel
theorem dX4_digestWithPress_41 : decode cX4_digestWithPress 41 = .ok (.getfield 113, 3) := by decide +kernel
theorem dX4_digestWithPress_44 : decode cX4_digestWithPress 44 = .ok (.istore 6, 2) := by decide +kernel
theorem dX4_digestWithPress_46 : decode cX4_digestWithPress 46 = .ok (.iconst 0, 1) := by decide +kernel
theorem dX4_digestWithPress_47 : decode cX4_digestWithPress 47 = .ok (.istore 7, 2) := by decide +kernel
theorem dX4_digestWithPress_49 : decode cX4_digestWithPress 49 = .ok (.iload 7, 2) := by decide +kernel
theorem dX4_digestWithPress_51 : decode cX4_digestWithPress 51 = .ok (.iload 6, 2) := by decide +kernel
theorem dX4_digestWithPress_53 : decode cX4_digestWithPress 53 = .ok (.if_icmp .ge 26, 3) := by decide +kernel
theorem dX4_digestWithPress_56 : decode cX4_digestWithPress 56 = .ok (.lload 4, 2) := by decide +kernel
theorem dX4_digestWithPress_58 : decode cX4_digestWithPress 58 = .ok (.ldc2_w 350, 3) := by decide +kernel
theorem dX4_digestWithPress_61 : decode cX4_digestWithPress 61 = .ok (.lmul, 1) := by decide +kernel
theorem dX4_digestWithPress_62 : decode cX4_digestWithPress 62 = .ok (.aload_n 0, 1) := by decide +kernel
theorem dX4_digestWithPress_63 : decode cX4_digestWithPress 63 = .ok (.iload_n 3, 1) := by decide +kernel
theorem dX4_digestWithPress_64 : decode cX4_digestWithPress 64 = .ok (.iload 7, 2) := by decide +kernel
theorem dX4_digestWithPress_66 : decode cX4_digestWithPress 66 = .ok (.invokevirtual 368, 3) := by decide +kernel
theorem dX4_digestWithPress_69 : decode cX4_digestWithPress 69 = .ok (.i2l, 1) := by decide +kernel
theorem dX4_digestWithPress_70 : decode cX4_digestWithPress 70 = .ok (.ladd, 1) := by decide +kernel
theorem dX4_digestWithPress_71 : decode cX4_digestWithPress 71 = .ok (.lstore 4, 2) := by decide +kernel
theorem dX4_digestWithPress_73 : decode cX4_digestWithPress 73 = .ok (.iinc 7 1, 3) := by decide +kernel
theorem dX4_digestWithPress_76 : decode cX4_digestWithPress 76 = .ok (.goto (-27), 3) := by decide +kernel
theorem dX4_digestWithPress_79 : decode cX4_digestWithPress 79 = .ok (.lload 4, 2) := by decide +kernel
theorem dX4_digestWithPress_81 : decode cX4_digestWithPress 81 = .ok (.lreturn, 1) := by decide +kernel
theorem dX4_digestWithJob_0 : decode cX4_digestWithJob 0 = .ok (.lload_n 1, 1) := by decide +kernel
theorem dX4_digestWithJob_1 : decode cX4_digestWithJob 1 = .ok (.lstore 4, 2) := by decide +kernel
theorem dX4_digestWithJob_3 : decode cX4_digestWithJob 3 = .ok (.iconst 0, 1) := by decide +kernel
theorem dX4_digestWithJob_4 : decode cX4_digestWithJob 4 = .ok (.istore 6, 2) := by decide +kernel
theorem dX4_digestWithJob_6 : decode cX4_digestWithJob 6 = .ok (.iload 6, 2) := by decide +kernel
theorem dX4_digestWithJob_8 : decode cX4_digestWithJob 8 = .ok (.bipush 12, 2) := by decide +kernel
theorem dX4_digestWithJob_10 : decode cX4_digestWithJob 10 = .ok (.if_icmp .gt 26, 3) := by decide +kernel
theorem dX4_digestWithJob_13 : decode cX4_digestWithJob 13 = .ok (.lload 4, 2) := by decide +kernel
theorem dX4_digestWithJob_15 : decode cX4_digestWithJob 15 = .ok (.ldc2_w 350, 3) := by decide +kernel
theorem dX4_digestWithJob_18 : decode cX4_digestWithJob 18 = .ok (.lmul, 1) := by decide +kernel
theorem dX4_digestWithJob_19 : decode cX4_digestWithJob 19 = .ok (.aload_n 0, 1) := by decide +kernel
theorem dX4_digestWithJob_20 : decode cX4_digestWithJob 20 = .ok (.iload_n 3, 1) := by decide +kernel
theorem dX4_digestWithJob_21 : decode cX4_digestWithJob 21 = .ok (.iload 6, 2) := by decide +kernel
theorem dX4_digestWithJob_23 : decode cX4_digestWithJob 23 = .ok (.invokevirtual 371, 3) := by decide +kernel
theorem dX4_digestWithJob_26 : decode cX4_digestWithJob 26 = .ok (.i2l, 1) := by decide +kernel
theorem dX4_digestWithJob_27 : decode cX4_digestWithJob 27 = .ok (.ladd, 1) := by decide +kernel
theorem dX4_digestWithJob_28 : decode cX4_digestWithJob 28 = .ok (.lstore 4, 2) := by decide +kernel
theorem dX4_digestWithJob_30 : decode cX4_digestWithJob 30 = .ok (.iinc 6 1, 3) := by decide +kernel
theorem dX4_digestWithJob_33 : decode cX4_digestWithJob 33 = .ok (.goto (-27), 3) := by decide +kernel
theorem dX4_digestWithJob_36 : decode cX4_digestWithJob 36 = .ok (.iconst 0, 1) := by decide +kernel
theorem dX4_digestWithJob_37 : decode cX4_digestWithJob 37 = .ok (.istore 6, 2) := by decide +kernel
theorem dX4_digestWithJob_39 : decode cX4_digestWithJob 39 = .ok (.iload 6, 2) := by decide +kernel
theorem dX4_digestWithJob_41 : decode cX4_digestWithJob 41 = .ok (.iconst 1, 1) := by decide +kernel
theorem dX4_digestWithJob_42 : decode cX4_digestWithJob 42 = .ok (.if_icmp .gt 44, 3) := by decide +kernel
theorem dX4_digestWithJob_45 : decode cX4_digestWithJob 45 = .ok (.iconst 3, 1) := by decide +kernel
theorem dX4_digestWithJob_46 : decode cX4_digestWithJob 46 = .ok (.istore 7, 2) := by decide +kernel
theorem dX4_digestWithJob_48 : decode cX4_digestWithJob 48 = .ok (.iload 7, 2) := by decide +kernel
theorem dX4_digestWithJob_50 : decode cX4_digestWithJob 50 = .ok (.bipush 6, 2) := by decide +kernel
theorem dX4_digestWithJob_52 : decode cX4_digestWithJob 52 = .ok (.if_icmp .gt 28, 3) := by decide +kernel
theorem dX4_digestWithJob_55 : decode cX4_digestWithJob 55 = .ok (.lload 4, 2) := by decide +kernel
theorem dX4_digestWithJob_57 : decode cX4_digestWithJob 57 = .ok (.ldc2_w 350, 3) := by decide +kernel
theorem dX4_digestWithJob_60 : decode cX4_digestWithJob 60 = .ok (.lmul, 1) := by decide +kernel
theorem dX4_digestWithJob_61 : decode cX4_digestWithJob 61 = .ok (.aload_n 0, 1) := by decide +kernel
theorem dX4_digestWithJob_62 : decode cX4_digestWithJob 62 = .ok (.iload_n 3, 1) := by decide +kernel
theorem dX4_digestWithJob_63 : decode cX4_digestWithJob 63 = .ok (.iload 6, 2) := by decide +kernel
theorem dX4_digestWithJob_65 : decode cX4_digestWithJob 65 = .ok (.iload 7, 2) := by decide +kernel
theorem dX4_digestWithJob_67 : decode cX4_digestWithJob 67 = .ok (.invokevirtual 374, 3) := by decide +kernel
theorem dX4_digestWithJob_70 : decode cX4_digestWithJob 70 = .ok (.i2l, 1) := by decide +kernel
theorem dX4_digestWithJob_71 : decode cX4_digestWithJob 71 = .ok (.ladd, 1) := by decide +kernel
theorem dX4_digestWithJob_72 : decode cX4_digestWithJob 72 = .ok (.lstore 4, 2) := by decide +kernel
theorem dX4_digestWithJob_74 : decode cX4_digestWithJob 74 = .ok (.iinc 7 1, 3) := by decide +kernel
theorem dX4_digestWithJob_77 : decode cX4_digestWithJob 77 = .ok (.goto (-29), 3) := by decide +kernel
theorem dX4_digestWithJob_80 : decode cX4_digestWithJob 80 = .ok (.iinc 6 1, 3) := by decide +kernel
theorem dX4_digestWithJob_83 : decode cX4_digestWithJob 83 = .ok (.goto (-44), 3) := by decide +kernel
theorem dX4_digestWithJob_86 : decode cX4_digestWithJob 86 = .ok (.lload 4, 2) := by decide +kernel
theorem dX4_digestWithJob_88 : decode cX4_digestWithJob 88 = .ok (.ldc2_w 350, 3) := by decide +kernel
theorem dX4_digestWithJob_91 : decode cX4_digestWithJob 91 = .ok (.lmul, 1) := by decide +kernel
theorem dX4_digestWithJob_92 : decode cX4_digestWithJob 92 = .ok (.aload_n 0, 1) := by decide +kernel
theorem dX4_digestWithJob_93 : decode cX4_digestWithJob 93 = .ok (.iload_n 3, 1) := by decide +kernel
theorem dX4_digestWithJob_94 : decode cX4_digestWithJob 94 = .ok (.invokevirtual 378, 3) := by decide +kernel
theorem dX4_digestWithJob_97 : decode cX4_digestWithJob 97 = .ok (.i2l, 1) := by decide +kernel
theorem dX4_digestWithJob_98 : decode cX4_digestWithJob 98 = .ok (.ladd, 1) := by decide +kernel
theorem dX4_digestWithJob_99 : decode cX4_digestWithJob 99 = .ok (.lstore 4, 2) := by decide +kernel
theorem dX4_digestWithJob_101 : decode cX4_digestWithJob 101 = .ok (.lload 4, 2) := by decide +kernel
theorem dX4_digestWithJob_103 : decode cX4_digestWithJob 103 = .ok (.ldc2_w 350, 3) := by decide +kernel
theorem dX4_digestWithJob_106 : decode cX4_digestWithJob 106 = .ok (.lmul, 1) := by decide +kernel
theorem dX4_digestWithJob_107 : decode cX4_digestWithJob 107 = .ok (.aload_n 0, 1) := by decide +kernel
theorem dX4_digestWithJob_108 : decode cX4_digestWithJob 108 = .ok (.iload_n 3, 1) := by decide +kernel
theorem dX4_digestWithJob_109 : decode cX4_digestWithJob 109 = .ok (.invokevirtual 381, 3) := by decide +kernel
theorem dX4_digestWithJob_112 : decode cX4_digestWithJob 112 = .ok (.i2l, 1) := by decide +kernel
theorem dX4_digestWithJob_113 : decode cX4_digestWithJob 113 = .ok (.ladd, 1) := by decide +kernel
theorem dX4_digestWithJob_114 : decode cX4_digestWithJob 114 = .ok (.lreturn, 1) := by decide +kernel
theorem dX4_paperOf_0 : decode cX4_paperOf 0 = .ok (.iload_n 1, 1) := by decide +kernel
theorem dX4_paperOf_1 : decode cX4_paperOf 1 = .ok (.ifCond .lt 12, 3) := by decide +kernel
theorem dX4_paperOf_4 : decode cX4_paperOf 4 = .ok (.iload_n 1, 1) := by decide +kernel
theorem dX4_paperOf_5 : decode cX4_paperOf 5 = .ok (.aload_n 0, 1) := by decide +kernel
theorem dX4_paperOf_6 : decode cX4_paperOf 6 = .ok (.getfield 11, 3) := by decide +kernel
theorem dX4_paperOf_9 : decode cX4_paperOf 9 = .ok (.arraylength, 1) := by decide +kernel
theorem dX4_paperOf_10 : decode cX4_paperOf 10 = .ok (.if_icmp .lt 7, 3) := by decide +kernel
theorem dX4_paperOf_13 : decode cX4_paperOf 13 = .ok (.aconst_null, 1) := by decide +kernel
theorem dX4_paperOf_14 : decode cX4_paperOf 14 = .ok (.goto 9, 3) := by decide +kernel
theorem dX4_paperOf_17 : decode cX4_paperOf 17 = .ok (.aload_n 0, 1) := by decide +kernel
theorem dX4_paperOf_18 : decode cX4_paperOf 18 = .ok (.getfield 11, 3) := by decide +kernel
theorem dX4_paperOf_21 : decode cX4_paperOf 21 = .ok (.iload_n 1, 1) := by decide +kernel
theorem dX4_paperOf_22 : decode cX4_paperOf 22 = .ok (.aaload, 1) := by decide +kernel
theorem dX4_paperOf_23 : decode cX4_paperOf 23 = .ok (.astore_n 2, 1) := by decide +kernel
theorem dX4_paperOf_24 : decode cX4_paperOf 24 = .ok (.aload_n 2, 1) := by decide +kernel
theorem dX4_paperOf_25 : decode cX4_paperOf 25 = .ok (.ifnonnull 14, 3) := by decide +kernel
theorem dX4_paperOf_28 : decode cX4_paperOf 28 = .ok (.new 282, 3) := by decide +kernel
theorem dX4_paperOf_31 : decode cX4_paperOf 31 = .ok (.dup, 1) := by decide +kernel
theorem dX4_paperOf_32 : decode cX4_paperOf 32 = .ok (.ldc_w 384, 3) := by decide +kernel
theorem dX4_paperOf_35 : decode cX4_paperOf 35 = .ok (.invokespecial 286, 3) := by decide +kernel
theorem dX4_paperOf_38 : decode cX4_paperOf 38 = .ok (.athrow, 1) := by decide +kernel
theorem dX4_paperOf_39 : decode cX4_paperOf 39 = .ok (.aload_n 2, 1) := by decide +kernel
theorem dX4_paperOf_40 : decode cX4_paperOf 40 = .ok (.areturn, 1) := by decide +kernel
theorem dX4_jobOf_0 : decode cX4_jobOf 0 = .ok (.iload_n 1, 1) := by decide +kernel
theorem dX4_jobOf_1 : decode cX4_jobOf 1 = .ok (.ifCond .lt 12, 3) := by decide +kernel
theorem dX4_jobOf_4 : decode cX4_jobOf 4 = .ok (.iload_n 1, 1) := by decide +kernel
theorem dX4_jobOf_5 : decode cX4_jobOf 5 = .ok (.aload_n 0, 1) := by decide +kernel
theorem dX4_jobOf_6 : decode cX4_jobOf 6 = .ok (.getfield 25, 3) := by decide +kernel
theorem dX4_jobOf_9 : decode cX4_jobOf 9 = .ok (.arraylength, 1) := by decide +kernel
theorem dX4_jobOf_10 : decode cX4_jobOf 10 = .ok (.if_icmp .lt 7, 3) := by decide +kernel
theorem dX4_jobOf_13 : decode cX4_jobOf 13 = .ok (.aconst_null, 1) := by decide +kernel
theorem dX4_jobOf_14 : decode cX4_jobOf 14 = .ok (.goto 9, 3) := by decide +kernel
theorem dX4_jobOf_17 : decode cX4_jobOf 17 = .ok (.aload_n 0, 1) := by decide +kernel
theorem dX4_jobOf_18 : decode cX4_jobOf 18 = .ok (.getfield 25, 3) := by decide +kernel
theorem dX4_jobOf_21 : decode cX4_jobOf 21 = .ok (.iload_n 1, 1) := by decide +kernel
theorem dX4_jobOf_22 : decode cX4_jobOf 22 = .ok (.aaload, 1) := by decide +kernel
theorem dX4_jobOf_23 : decode cX4_jobOf 23 = .ok (.astore_n 2, 1) := by decide +kernel
theorem dX4_jobOf_24 : decode cX4_jobOf 24 = .ok (.aload_n 2, 1) := by decide +kernel
theorem dX4_jobOf_25 : decode cX4_jobOf 25 = .ok (.ifnonnull 14, 3) := by decide +kernel
theorem dX4_jobOf_28 : decode cX4_jobOf 28 = .ok (.new 282, 3) := by decide +kernel
theorem dX4_jobOf_31 : decode cX4_jobOf 31 = .ok (.dup, 1) := by decide +kernel
theorem dX4_jobOf_32 : decode cX4_jobOf 32 = .ok (.ldc_w 386, 3) := by decide +kernel
theorem dX4_jobOf_35 : decode cX4_jobOf 35 = .ok (.invokespecial 286, 3) := by decide +kernel
theorem dX4_jobOf_38 : decode cX4_jobOf 38 = .ok (.athrow, 1) := by decide +kernel
theorem dX4_jobOf_39 : decode cX4_jobOf 39 = .ok (.aload_n 2, 1) := by decide +kernel
theorem dX4_jobOf_40 : decode cX4_jobOf 40 = .ok (.areturn, 1) := by decide +kernel
theorem dX4_pressOf_0 : decode cX4_pressOf 0 = .ok (.iload_n 1, 1) := by decide +kernel
theorem dX4_pressOf_1 : decode cX4_pressOf 1 = .ok (.ifCond .lt 12, 3) := by decide +kernel
theorem dX4_pressOf_4 : decode cX4_pressOf 4 = .ok (.iload_n 1, 1) := by decide +kernel
theorem dX4_pressOf_5 : decode cX4_pressOf 5 = .ok (.aload_n 0, 1) := by decide +kernel
theorem dX4_pressOf_6 : decode cX4_pressOf 6 = .ok (.getfield 18, 3) := by decide +kernel
theorem dX4_pressOf_9 : decode cX4_pressOf 9 = .ok (.arraylength, 1) := by decide +kernel
theorem dX4_pressOf_10 : decode cX4_pressOf 10 = .ok (.if_icmp .lt 7, 3) := by decide +kernel
theorem dX4_pressOf_13 : decode cX4_pressOf 13 = .ok (.aconst_null, 1) := by decide +kernel
theorem dX4_pressOf_14 : decode cX4_pressOf 14 = .ok (.goto 9, 3) := by decide +kernel
theorem dX4_pressOf_17 : decode cX4_pressOf 17 = .ok (.aload_n 0, 1) := by decide +kernel
theorem dX4_pressOf_18 : decode cX4_pressOf 18 = .ok (.getfield 18, 3) := by decide +kernel
theorem dX4_pressOf_21 : decode cX4_pressOf 21 = .ok (.iload_n 1, 1) := by decide +kernel
theorem dX4_pressOf_22 : decode cX4_pressOf 22 = .ok (.aaload, 1) := by decide +kernel
theorem dX4_pressOf_23 : decode cX4_pressOf 23 = .ok (.astore_n 2, 1) := by decide +kernel
theorem dX4_pressOf_24 : decode cX4_pressOf 24 = .ok (.aload_n 2, 1) := by decide +kernel
theorem dX4_pressOf_25 : decode cX4_pressOf 25 = .ok (.ifnonnull 14, 3) := by decide +kernel
theorem dX4_pressOf_28 : decode cX4_pressOf 28 = .ok (.new 282, 3) := by decide +kernel
theorem dX4_pressOf_31 : decode cX4_pressOf 31 = .ok (.dup, 1) := by decide +kernel
theorem dX4_pressOf_32 : decode cX4_pressOf 32 = .ok (.ldc_w 388, 3) := by decide +kernel
theorem dX4_pressOf_35 : decode cX4_pressOf 35 = .ok (.invokespecial 286, 3) := by decide +kernel
theorem dX4_pressOf_38 : decode cX4_pressOf 38 = .ok (.athrow, 1) := by decide +kernel
theorem dX4_pressOf_39 : decode cX4_pressOf 39 = .ok (.aload_n 2, 1) := by decide +kernel
theorem dX4_pressOf_40 : decode cX4_pressOf 40 = .ok (.areturn, 1) := by decide +kernel
theorem dX4_isOutside_0 : decode cX4_isOutside 0 = .ok (.iload_n 0, 1) := by decide +kernel
theorem dX4_isOutside_1 : decode cX4_isOutside 1 = .ok (.iload_n 1, 1) := by decide +kernel
theorem dX4_isOutside_2 : decode cX4_isOutside 2 = .ok (.if_icmp .lt 8, 3) := by decide +kernel
theorem dX4_isOutside_5 : decode cX4_isOutside 5 = .ok (.iload_n 0, 1) := by decide +kernel
theorem dX4_isOutside_6 : decode cX4_isOutside 6 = .ok (.iload_n 2, 1) := by decide +kernel
theorem dX4_isOutside_7 : decode cX4_isOutside 7 = .ok (.if_icmp .le 7, 3) := by decide +kernel
theorem dX4_isOutside_10 : decode cX4_isOutside 10 = .ok (.iconst 1, 1) := by decide +kernel
theorem dX4_isOutside_11 : decode cX4_isOutside 11 = .ok (.goto 4, 3) := by decide +kernel
theorem dX4_isOutside_14 : decode cX4_isOutside 14 = .ok (.iconst 0, 1) := by decide +kernel
theorem dX4_isOutside_15 : decode cX4_isOutside 15 = .ok (.ireturn, 1) := by decide +kernel
theorem dX4_divide_0 : decode cX4_divide 0 = .ok (.iload_n 1, 1) := by decide +kernel
theorem dX4_divide_1 : decode cX4_divide 1 = .ok (.ifCond .ne 7, 3) := by decide +kernel
theorem dX4_divide_4 : decode cX4_divide 4 = .ok (.iconst 0, 1) := by decide +kernel
theorem dX4_divide_5 : decode cX4_divide 5 = .ok (.goto 6, 3) := by decide +kernel
theorem dX4_divide_8 : decode cX4_divide 8 = .ok (.iload_n 0, 1) := by decide +kernel
theorem dX4_divide_9 : decode cX4_divide 9 = .ok (.iload_n 1, 1) := by decide +kernel
theorem dX4_divide_10 : decode cX4_divide 10 = .ok (.idiv, 1) := by decide +kernel
theorem dX4_divide_11 : decode cX4_divide 11 = .ok (.ireturn, 1) := by decide +kernel
theorem dX4_divideUp_0 : decode cX4_divideUp 0 = .ok (.iload_n 1, 1) := by decide +kernel
theorem dX4_divideUp_1 : decode cX4_divideUp 1 = .ok (.ifCond .ne 7, 3) := by decide +kernel
theorem dX4_divideUp_4 : decode cX4_divideUp 4 = .ok (.iconst 0, 1) := by decide +kernel
theorem dX4_divideUp_5 : decode cX4_divideUp 5 = .ok (.goto 10, 3) := by decide +kernel
theorem dX4_divideUp_8 : decode cX4_divideUp 8 = .ok (.iload_n 0, 1) := by decide +kernel
theorem dX4_divideUp_9 : decode cX4_divideUp 9 = .ok (.iload_n 1, 1) := by decide +kernel
theorem dX4_divideUp_10 : decode cX4_divideUp 10 = .ok (.iadd, 1) := by decide +kernel
theorem dX4_divideUp_11 : decode cX4_divideUp 11 = .ok (.iconst 1, 1) := by decide +kernel
theorem dX4_divideUp_12 : decode cX4_divideUp 12 = .ok (.isub, 1) := by decide +kernel
theorem dX4_divideUp_13 : decode cX4_divideUp 13 = .ok (.iload_n 1, 1) := by decide +kernel
theorem dX4_divideUp_14 : decode cX4_divideUp 14 = .ok (.idiv, 1) := by decide +kernel
theorem dX4_divideUp_15 : decode cX4_divideUp 15 = .ok (.ireturn, 1) := by decide +kernel
theorem dJ6_bitCount_0f7a4_0 : decode cJ6_bitCount_0f7a4 0 = .ok (.iload_n 0, 1) := by decide +kernel
theorem dJ6_bitCount_0f7a4_1 : decode cJ6_bitCount_0f7a4 1 = .ok (.iload_n 0, 1) := by decide +kernel
theorem dJ6_bitCount_0f7a4_2 : decode cJ6_bitCount_0f7a4 2 = .ok (.iconst 1, 1) := by decide +kernel
theorem dJ6_bitCount_0f7a4_3 : decode cJ6_bitCount_0f7a4 3 = .ok (.iushr, 1) := by decide +kernel
theorem dJ6_bitCount_0f7a4_4 : decode cJ6_bitCount_0f7a4 4 = .ok (.ldc_w 265, 3) := by decide +kernel
theorem dJ6_bitCount_0f7a4_7 : decode cJ6_bitCount_0f7a4 7 = .ok (.iand, 1) := by decide +kernel
theorem dJ6_bitCount_0f7a4_8 : decode cJ6_bitCount_0f7a4 8 = .ok (.isub, 1) := by decide +kernel
theorem dJ6_bitCount_0f7a4_9 : decode cJ6_bitCount_0f7a4 9 = .ok (.istore_n 0, 1) := by decide +kernel
theorem dJ6_bitCount_0f7a4_10 : decode cJ6_bitCount_0f7a4 10 = .ok (.iload_n 0, 1) := by decide +kernel
theorem dJ6_bitCount_0f7a4_11 : decode cJ6_bitCount_0f7a4 11 = .ok (.ldc_w 266, 3) := by decide +kernel
theorem dJ6_bitCount_0f7a4_14 : decode cJ6_bitCount_0f7a4 14 = .ok (.iand, 1) := by decide +kernel
theorem dJ6_bitCount_0f7a4_15 : decode cJ6_bitCount_0f7a4 15 = .ok (.iload_n 0, 1) := by decide +kernel
theorem dJ6_bitCount_0f7a4_16 : decode cJ6_bitCount_0f7a4 16 = .ok (.iconst 2, 1) := by decide +kernel
theorem dJ6_bitCount_0f7a4_17 : decode cJ6_bitCount_0f7a4 17 = .ok (.iushr, 1) := by decide +kernel
theorem dJ6_bitCount_0f7a4_18 : decode cJ6_bitCount_0f7a4 18 = .ok (.ldc_w 266, 3) := by decide +kernel
theorem dJ6_bitCount_0f7a4_21 : decode cJ6_bitCount_0f7a4 21 = .ok (.iand, 1) := by decide +kernel
theorem dJ6_bitCount_0f7a4_22 : decode cJ6_bitCount_0f7a4 22 = .ok (.iadd, 1) := by decide +kernel
theorem dJ6_bitCount_0f7a4_23 : decode cJ6_bitCount_0f7a4 23 = .ok (.istore_n 0, 1) := by decide +kernel
theorem dJ6_bitCount_0f7a4_24 : decode cJ6_bitCount_0f7a4 24 = .ok (.iload_n 0, 1) := by decide +kernel
theorem dJ6_bitCount_0f7a4_25 : decode cJ6_bitCount_0f7a4 25 = .ok (.iload_n 0, 1) := by decide +kernel
theorem dJ6_bitCount_0f7a4_26 : decode cJ6_bitCount_0f7a4 26 = .ok (.iconst 4, 1) := by decide +kernel
theorem dJ6_bitCount_0f7a4_27 : decode cJ6_bitCount_0f7a4 27 = .ok (.iushr, 1) := by decide +kernel
theorem dJ6_bitCount_0f7a4_28 : decode cJ6_bitCount_0f7a4 28 = .ok (.iadd, 1) := by decide +kernel
theorem dJ6_bitCount_0f7a4_29 : decode cJ6_bitCount_0f7a4 29 = .ok (.ldc_w 267, 3) := by decide +kernel
theorem dJ6_bitCount_0f7a4_32 : decode cJ6_bitCount_0f7a4 32 = .ok (.iand, 1) := by decide +kernel
theorem dJ6_bitCount_0f7a4_33 : decode cJ6_bitCount_0f7a4 33 = .ok (.istore_n 0, 1) := by decide +kernel
theorem dJ6_bitCount_0f7a4_34 : decode cJ6_bitCount_0f7a4 34 = .ok (.iload_n 0, 1) := by decide +kernel
theorem dJ6_bitCount_0f7a4_35 : decode cJ6_bitCount_0f7a4 35 = .ok (.iload_n 0, 1) := by decide +kernel
theorem dJ6_bitCount_0f7a4_36 : decode cJ6_bitCount_0f7a4 36 = .ok (.bipush 8, 2) := by decide +kernel
theorem dJ6_bitCount_0f7a4_38 : decode cJ6_bitCount_0f7a4 38 = .ok (.iushr, 1) := by decide +kernel
theorem dJ6_bitCount_0f7a4_39 : decode cJ6_bitCount_0f7a4 39 = .ok (.iadd, 1) := by decide +kernel
theorem dJ6_bitCount_0f7a4_40 : decode cJ6_bitCount_0f7a4 40 = .ok (.istore_n 0, 1) := by decide +kernel
theorem dJ6_bitCount_0f7a4_41 : decode cJ6_bitCount_0f7a4 41 = .ok (.iload_n 0, 1) := by decide +kernel
theorem dJ6_bitCount_0f7a4_42 : decode cJ6_bitCount_0f7a4 42 = .ok (.iload_n 0, 1) := by decide +kernel
theorem dJ6_bitCount_0f7a4_43 : decode cJ6_bitCount_0f7a4 43 = .ok (.bipush 16, 2) := by decide +kernel
theorem dJ6_bitCount_0f7a4_45 : decode cJ6_bitCount_0f7a4 45 = .ok (.iushr, 1) := by decide +kernel
theorem dJ6_bitCount_0f7a4_46 : decode cJ6_bitCount_0f7a4 46 = .ok (.iadd, 1) := by decide +kernel
theorem dJ6_bitCount_0f7a4_47 : decode cJ6_bitCount_0f7a4 47 = .ok (.istore_n 0, 1) := by decide +kernel
theorem dJ6_bitCount_0f7a4_48 : decode cJ6_bitCount_0f7a4 48 = .ok (.iload_n 0, 1) := by decide +kernel
theorem dJ6_bitCount_0f7a4_49 : decode cJ6_bitCount_0f7a4 49 = .ok (.bipush 63, 2) := by decide +kernel
theorem dJ6_bitCount_0f7a4_51 : decode cJ6_bitCount_0f7a4 51 = .ok (.iand, 1) := by decide +kernel
theorem dJ6_bitCount_0f7a4_52 : decode cJ6_bitCount_0f7a4 52 = .ok (.ireturn, 1) := by decide +kernel
theorem dJ9_max_7cf53_0 : decode cJ9_max_7cf53 0 = .ok (.iload_n 0, 1) := by decide +kernel
theorem dJ9_max_7cf53_1 : decode cJ9_max_7cf53 1 = .ok (.iload_n 1, 1) := by decide +kernel
theorem dJ9_max_7cf53_2 : decode cJ9_max_7cf53 2 = .ok (.if_icmp .lt 7, 3) := by decide +kernel
theorem dJ9_max_7cf53_5 : decode cJ9_max_7cf53 5 = .ok (.iload_n 0, 1) := by decide +kernel
theorem dJ9_max_7cf53_6 : decode cJ9_max_7cf53 6 = .ok (.goto 4, 3) := by decide +kernel
theorem dJ9_max_7cf53_9 : decode cJ9_max_7cf53 9 = .ok (.iload_n 1, 1) := by decide +kernel
theorem dJ9_max_7cf53_10 : decode cJ9_max_7cf53 10 = .ok (.ireturn, 1) := by decide +kernel
theorem dJ9_min_7cf53_0 : decode cJ9_min_7cf53 0 = .ok (.iload_n 0, 1) := by decide +kernel
theorem dJ9_min_7cf53_1 : decode cJ9_min_7cf53 1 = .ok (.iload_n 1, 1) := by decide +kernel
theorem dJ9_min_7cf53_2 : decode cJ9_min_7cf53 2 = .ok (.if_icmp .gt 7, 3) := by decide +kernel
theorem dJ9_min_7cf53_5 : decode cJ9_min_7cf53 5 = .ok (.iload_n 0, 1) := by decide +kernel
theorem dJ9_min_7cf53_6 : decode cJ9_min_7cf53 6 = .ok (.goto 4, 3) := by decide +kernel
theorem dJ9_min_7cf53_9 : decode cJ9_min_7cf53 9 = .ok (.iload_n 1, 1) := by decide +kernel
theorem dJ9_min_7cf53_10 : decode cJ9_min_7cf53 10 = .ok (.ireturn, 1) := by decide +kernel
theorem dL_below_0 : decode cL_below 0 = .ok (.iload_n 0, 1) := by decide +kernel
theorem dL_below_1 : decode cL_below 1 = .ok (.ldc 7, 2) := by decide +kernel
theorem dL_below_3 : decode cL_below 3 = .ok (.iand, 1) := by decide +kernel
theorem dL_below_4 : decode cL_below 4 = .ok (.iload_n 1, 1) := by decide +kernel
theorem dL_below_5 : decode cL_below 5 = .ok (.irem, 1) := by decide +kernel
theorem dL_below_6 : decode cL_below 6 = .ok (.ireturn, 1) := by decide +kernel
theorem dL_cell_0 : decode cL_cell 0 = .ok (.iload_n 1, 1) := by decide +kernel
theorem dL_cell_1 : decode cL_cell 1 = .ok (.aload_n 0, 1) := by decide +kernel
theorem dL_cell_2 : decode cL_cell 2 = .ok (.arraylength, 1) := by decide +kernel
theorem dL_cell_3 : decode cL_cell 3 = .ok (.if_icmp .ge 9, 3) := by decide +kernel
theorem dL_cell_6 : decode cL_cell 6 = .ok (.aload_n 0, 1) := by decide +kernel
theorem dL_cell_7 : decode cL_cell 7 = .ok (.iload_n 1, 1) := by decide +kernel
theorem dL_cell_8 : decode cL_cell 8 = .ok (.iaload, 1) := by decide +kernel
theorem dL_cell_9 : decode cL_cell 9 = .ok (.goto 9, 3) := by decide +kernel
theorem dL_cell_12 : decode cL_cell 12 = .ok (.ldc 8, 2) := by decide +kernel
theorem dL_cell_14 : decode cL_cell 14 = .ok (.iload_n 1, 1) := by decide +kernel
theorem dL_cell_15 : decode cL_cell 15 = .ok (.iconst 3, 1) := by decide +kernel
theorem dL_cell_16 : decode cL_cell 16 = .ok (.iadd, 1) := by decide +kernel
theorem dL_cell_17 : decode cL_cell 17 = .ok (.imul, 1) := by decide +kernel
theorem dL_cell_18 : decode cL_cell 18 = .ok (.ireturn, 1) := by decide +kernel
theorem dL_law_0 : decode cL_law 0 = .ok (.new 9, 3) := by decide +kernel
theorem dL_law_3 : decode cL_law 3 = .ok (.dup, 1) := by decide +kernel
theorem dL_law_4 : decode cL_law 4 = .ok (.invokespecial 11, 3) := by decide +kernel
theorem dL_law_7 : decode cL_law 7 = .ok (.astore_n 1, 1) := by decide +kernel
theorem dL_law_8 : decode cL_law 8 = .ok (.iconst 0, 1) := by decide +kernel
theorem dL_law_9 : decode cL_law 9 = .ok (.istore_n 2, 1) := by decide +kernel
theorem dL_law_10 : decode cL_law 10 = .ok (.iconst 0, 1) := by decide +kernel
theorem dL_law_11 : decode cL_law 11 = .ok (.istore_n 3, 1) := by decide +kernel
theorem dL_law_12 : decode cL_law 12 = .ok (.iload_n 3, 1) := by decide +kernel
theorem dL_law_13 : decode cL_law 13 = .ok (.bipush 60, 2) := by decide +kernel
theorem dL_law_15 : decode cL_law 15 = .ok (.if_icmp .ge 234, 3) := by decide +kernel
theorem dL_law_18 : decode cL_law 18 = .ok (.aload_n 0, 1) := by decide +kernel
theorem dL_law_19 : decode cL_law 19 = .ok (.iload_n 3, 1) := by decide +kernel
theorem dL_law_20 : decode cL_law 20 = .ok (.bipush 29, 2) := by decide +kernel
theorem dL_law_22 : decode cL_law 22 = .ok (.irem, 1) := by decide +kernel
theorem dL_law_23 : decode cL_law 23 = .ok (.invokestatic 12, 3) := by decide +kernel
theorem dL_law_26 : decode cL_law 26 = .ok (.iload_n 3, 1) := by decide +kernel
theorem dL_law_27 : decode cL_law 27 = .ok (.bipush 29, 2) := by decide +kernel
theorem dL_law_29 : decode cL_law 29 = .ok (.idiv, 1) := by decide +kernel
theorem dL_law_30 : decode cL_law 30 = .ok (.bipush 6, 2) := by decide +kernel
theorem dL_law_32 : decode cL_law 32 = .ok (.imul, 1) := by decide +kernel
theorem dL_law_33 : decode cL_law 33 = .ok (.ishr, 1) := by decide +kernel
theorem dL_law_34 : decode cL_law 34 = .ok (.istore 4, 2) := by decide +kernel
theorem dL_law_36 : decode cL_law 36 = .ok (.aload_n 1, 1) := by decide +kernel
theorem dL_law_37 : decode cL_law 37 = .ok (.iconst 5, 1) := by decide +kernel
theorem dL_law_38 : decode cL_law 38 = .ok (.invokevirtual 18, 3) := by decide +kernel
theorem dL_law_41 : decode cL_law 41 = .ok (.istore 5, 2) := by decide +kernel
theorem dL_law_43 : decode cL_law 43 = .ok (.aload_n 1, 1) := by decide +kernel
theorem dL_law_44 : decode cL_law 44 = .ok (.bipush 8, 2) := by decide +kernel
theorem dL_law_46 : decode cL_law 46 = .ok (.invokevirtual 18, 3) := by decide +kernel
theorem dL_law_49 : decode cL_law 49 = .ok (.istore 6, 2) := by decide +kernel
theorem dL_law_51 : decode cL_law 51 = .ok (.aload_n 1, 1) := by decide +kernel
theorem dL_law_52 : decode cL_law 52 = .ok (.bipush 7, 2) := by decide +kernel
theorem dL_law_54 : decode cL_law 54 = .ok (.invokevirtual 18, 3) := by decide +kernel
theorem dL_law_57 : decode cL_law 57 = .ok (.istore 7, 2) := by decide +kernel
theorem dL_law_59 : decode cL_law 59 = .ok (.aload_n 1, 1) := by decide +kernel
theorem dL_law_60 : decode cL_law 60 = .ok (.bipush 6, 2) := by decide +kernel
theorem dL_law_62 : decode cL_law 62 = .ok (.invokevirtual 18, 3) := by decide +kernel
theorem dL_law_65 : decode cL_law 65 = .ok (.istore 8, 2) := by decide +kernel
theorem dL_law_67 : decode cL_law 67 = .ok (.aload_n 1, 1) := by decide +kernel
theorem dL_law_68 : decode cL_law 68 = .ok (.iload 4, 2) := by decide +kernel
theorem dL_law_70 : decode cL_law 70 = .ok (.iload 4, 2) := by decide +kernel
theorem dL_law_72 : decode cL_law 72 = .ok (.iconst 3, 1) := by decide +kernel
theorem dL_law_73 : decode cL_law 73 = .ok (.ishr, 1) := by decide +kernel
theorem dL_law_74 : decode cL_law 74 = .ok (.iconst 1, 1) := by decide +kernel
theorem dL_law_75 : decode cL_law 75 = .ok (.aload_n 1, 1) := by decide +kernel
theorem dL_law_76 : decode cL_law 76 = .ok (.iconst 0, 1) := by decide +kernel
theorem dL_law_77 : decode cL_law 77 = .ok (.invokevirtual 18, 3) := by decide +kernel
theorem dL_law_80 : decode cL_law 80 = .ok (.invokestatic 22, 3) := by decide +kernel
theorem dL_law_83 : decode cL_law 83 = .ok (.invokestatic 28, 3) := by decide +kernel
theorem dL_law_86 : decode cL_law 86 = .ok (.iload 4, 2) := by decide +kernel
theorem dL_law_88 : decode cL_law 88 = .ok (.iconst 5, 1) := by decide +kernel
theorem dL_law_89 : decode cL_law 89 = .ok (.ishr, 1) := by decide +kernel
theorem dL_law_90 : decode cL_law 90 = .ok (.iconst 3, 1) := by decide +kernel
theorem dL_law_91 : decode cL_law 91 = .ok (.invokestatic 28, 3) := by decide +kernel
theorem dL_law_94 : decode cL_law 94 = .ok (.iload 4, 2) := by decide +kernel
theorem dL_law_96 : decode cL_law 96 = .ok (.iconst 4, 1) := by decide +kernel
theorem dL_law_97 : decode cL_law 97 = .ok (.ishr, 1) := by decide +kernel
theorem dL_law_98 : decode cL_law 98 = .ok (.iconst 4, 1) := by decide +kernel
theorem dL_law_99 : decode cL_law 99 = .ok (.invokestatic 28, 3) := by decide +kernel
theorem dL_law_102 : decode cL_law 102 = .ok (.invokestatic 31, 3) := by decide +kernel
theorem dL_law_105 : decode cL_law 105 = .ok (.ifCond .ne 5, 3) := by decide +kernel
theorem dL_law_108 : decode cL_law 108 = .ok (.iconst 0, 1) := by decide +kernel
theorem dL_law_109 : decode cL_law 109 = .ok (.ireturn, 1) := by decide +kernel
theorem dL_law_110 : decode cL_law 110 = .ok (.iload 4, 2) := by decide +kernel
theorem dL_law_112 : decode cL_law 112 = .ok (.bipush 13, 2) := by decide +kernel
theorem dL_law_114 : decode cL_law 114 = .ok (.invokestatic 28, 3) := by decide +kernel
theorem dL_law_117 : decode cL_law 117 = .ok (.istore 9, 2) := by decide +kernel
theorem dL_law_119 : decode cL_law 119 = .ok (.iload 9, 2) := by decide +kernel
theorem dL_law_121 : decode cL_law 121 = .ok (.bipush 12, 2) := by decide +kernel
theorem dL_law_123 : decode cL_law 123 = .ok (.if_icmp .eq 45, 3) := by decide +kernel
theorem dL_law_126 : decode cL_law 126 = .ok (.aload_n 1, 1) := by decide +kernel
theorem dL_law_127 : decode cL_law 127 = .ok (.iconst 5, 1) := by decide +kernel
theorem dL_law_128 : decode cL_law 128 = .ok (.invokevirtual 18, 3) := by decide +kernel
theorem dL_law_131 : decode cL_law 131 = .ok (.iload 5, 2) := by decide +kernel
theorem dL_law_133 : decode cL_law 133 = .ok (.isub, 1) := by decide +kernel
theorem dL_law_134 : decode cL_law 134 = .ok (.aload_n 1, 1) := by decide +kernel
theorem dL_law_135 : decode cL_law 135 = .ok (.bipush 8, 2) := by decide +kernel
theorem dL_law_137 : decode cL_law 137 = .ok (.invokevirtual 18, 3) := by decide +kernel
theorem dL_law_140 : decode cL_law 140 = .ok (.iadd, 1) := by decide +kernel
theorem dL_law_141 : decode cL_law 141 = .ok (.iload 6, 2) := by decide +kernel
theorem dL_law_143 : decode cL_law 143 = .ok (.isub, 1) := by decide +kernel
theorem dL_law_144 : decode cL_law 144 = .ok (.aload_n 1, 1) := by decide +kernel
theorem dL_law_145 : decode cL_law 145 = .ok (.bipush 6, 2) := by decide +kernel
theorem dL_law_147 : decode cL_law 147 = .ok (.invokevirtual 18, 3) := by decide +kernel
theorem dL_law_150 : decode cL_law 150 = .ok (.iload 8, 2) := by decide +kernel
theorem dL_law_152 : decode cL_law 152 = .ok (.isub, 1) := by decide +kernel
theorem dL_law_153 : decode cL_law 153 = .ok (.aload_n 1, 1) := by decide +kernel
theorem dL_law_154 : decode cL_law 154 = .ok (.bipush 7, 2) := by decide +kernel
theorem dL_law_156 : decode cL_law 156 = .ok (.invokevirtual 18, 3) := by decide +kernel
theorem dL_law_159 : decode cL_law 159 = .ok (.isub, 1) := by decide +kernel
theorem dL_law_160 : decode cL_law 160 = .ok (.iload 7, 2) := by decide +kernel
theorem dL_law_162 : decode cL_law 162 = .ok (.iadd, 1) := by decide +kernel
theorem dL_law_163 : decode cL_law 163 = .ok (.if_icmp .eq 5, 3) := by decide +kernel
theorem dL_law_166 : decode cL_law 166 = .ok (.iconst 0, 1) := by decide +kernel
theorem dL_law_167 : decode cL_law 167 = .ok (.ireturn, 1) := by decide +kernel
theorem dL_law_168 : decode cL_law 168 = .ok (.iload_n 2, 1) := by decide +kernel
theorem dL_law_169 : decode cL_law 169 = .ok (.iload 9, 2) := by decide +kernel
theorem dL_law_171 : decode cL_law 171 = .ok (.bipush 12, 2) := by decide +kernel
theorem dL_law_173 : decode cL_law 173 = .ok (.if_icmp .ne 7, 3) := by decide +kernel
theorem dL_law_176 : decode cL_law 176 = .ok (.iconst 1, 1) := by decide +kernel
theorem dL_law_177 : decode cL_law 177 = .ok (.goto 4, 3) := by decide +kernel
theorem dL_law_180 : decode cL_law 180 = .ok (.iconst 0, 1) := by decide +kernel
theorem dL_law_181 : decode cL_law 181 = .ok (.iadd, 1) := by decide +kernel
theorem dL_law_182 : decode cL_law 182 = .ok (.istore_n 2, 1) := by decide +kernel
theorem dL_law_183 : decode cL_law 183 = .ok (.iload_n 3, 1) := by decide +kernel
theorem dL_law_184 : decode cL_law 184 = .ok (.bipush 7, 2) := by decide +kernel
theorem dL_law_186 : decode cL_law 186 = .ok (.irem, 1) := by decide +kernel
theorem dL_law_187 : decode cL_law 187 = .ok (.bipush 6, 2) := by decide +kernel
theorem dL_law_189 : decode cL_law 189 = .ok (.if_icmp .eq 6, 3) := by decide +kernel
theorem dL_law_192 : decode cL_law 192 = .ok (.goto 51, 3) := by decide +kernel
theorem dL_law_195 : decode cL_law 195 = .ok (.aload_n 1, 1) := by decide +kernel
theorem dL_law_196 : decode cL_law 196 = .ok (.invokevirtual 35, 3) := by decide +kernel
theorem dL_law_199 : decode cL_law 199 = .ok (.lstore 10, 2) := by decide +kernel
theorem dL_law_201 : decode cL_law 201 = .ok (.aload_n 1, 1) := by decide +kernel
theorem dL_law_202 : decode cL_law 202 = .ok (.invokestatic 39, 3) := by decide +kernel
theorem dL_law_205 : decode cL_law 205 = .ok (.ifCond .eq 36, 3) := by decide +kernel
theorem dL_law_208 : decode cL_law 208 = .ok (.aload_n 1, 1) := by decide +kernel
theorem dL_law_209 : decode cL_law 209 = .ok (.invokestatic 43, 3) := by decide +kernel
theorem dL_law_212 : decode cL_law 212 = .ok (.ifCond .eq 29, 3) := by decide +kernel
theorem dL_law_215 : decode cL_law 215 = .ok (.aload_n 1, 1) := by decide +kernel
theorem dL_law_216 : decode cL_law 216 = .ok (.iload_n 2, 1) := by decide +kernel
theorem dL_law_217 : decode cL_law 217 = .ok (.ifCond .ne 7, 3) := by decide +kernel
theorem dL_law_220 : decode cL_law 220 = .ok (.iconst 1, 1) := by decide +kernel
theorem dL_law_221 : decode cL_law 221 = .ok (.goto 4, 3) := by decide +kernel
theorem dL_law_224 : decode cL_law 224 = .ok (.iconst 0, 1) := by decide +kernel
theorem dL_law_225 : decode cL_law 225 = .ok (.invokestatic 46, 3) := by decide +kernel
theorem dL_law_228 : decode cL_law 228 = .ok (.ifCond .eq 13, 3) := by decide +kernel
theorem dL_law_231 : decode cL_law 231 = .ok (.aload_n 1, 1) := by decide +kernel
theorem dL_law_232 : decode cL_law 232 = .ok (.invokevirtual 35, 3) := by decide +kernel
theorem dL_law_235 : decode cL_law 235 = .ok (.lload 10, 2) := by decide +kernel
theorem dL_law_237 : decode cL_law 237 = .ok (.lcmp, 1) := by decide +kernel
theorem dL_law_238 : decode cL_law 238 = .ok (.ifCond .eq 5, 3) := by decide +kernel
theorem dL_law_241 : decode cL_law 241 = .ok (.iconst 0, 1) := by decide +kernel
theorem dL_law_242 : decode cL_law 242 = .ok (.ireturn, 1) := by decide +kernel
theorem dL_law_243 : decode cL_law 243 = .ok (.iinc 3 1, 3) := by decide +kernel
theorem dL_law_246 : decode cL_law 246 = .ok (.goto (-234), 3) := by decide +kernel
theorem dL_law_249 : decode cL_law 249 = .ok (.iconst 1, 1) := by decide +kernel
theorem dL_law_250 : decode cL_law 250 = .ok (.ireturn, 1) := by decide +kernel
theorem dL_act_0 : decode cL_act 0 = .ok (.iload_n 1, 1) := by decide +kernel
theorem dL_act_1 : decode cL_act 1 = .ok (.bipush 13, 2) := by decide +kernel
theorem dL_act_3 : decode cL_act 3 = .ok (.invokestatic 28, 3) := by decide +kernel
theorem dL_act_6 : decode cL_act 6 = .ok (.tableswitch 410 0 11 #[62, 62, 127, 127, 177, 209, 234, 289, 326, 359, 384, 384], 62) := by decide +kernel
theorem dL_act_68 : decode cL_act 68 = .ok (.aload_n 0, 1) := by decide +kernel
theorem dL_act_69 : decode cL_act 69 = .ok (.iload 4, 2) := by decide +kernel
theorem dL_act_71 : decode cL_act 71 = .ok (.iconst 4, 1) := by decide +kernel
theorem dL_act_72 : decode cL_act 72 = .ok (.iload_n 1, 1) := by decide +kernel
theorem dL_act_73 : decode cL_act 73 = .ok (.iconst 5, 1) := by decide +kernel
theorem dL_act_74 : decode cL_act 74 = .ok (.ishr, 1) := by decide +kernel
theorem dL_act_75 : decode cL_act 75 = .ok (.bipush 17, 2) := by decide +kernel
theorem dL_act_77 : decode cL_act 77 = .ok (.invokestatic 28, 3) := by decide +kernel
theorem dL_act_80 : decode cL_act 80 = .ok (.iadd, 1) := by decide +kernel
theorem dL_act_81 : decode cL_act 81 = .ok (.iconst 4, 1) := by decide +kernel
theorem dL_act_82 : decode cL_act 82 = .ok (.iload_n 1, 1) := by decide +kernel
theorem dL_act_83 : decode cL_act 83 = .ok (.bipush 7, 2) := by decide +kernel
theorem dL_act_85 : decode cL_act 85 = .ok (.ishr, 1) := by decide +kernel
theorem dL_act_86 : decode cL_act 86 = .ok (.bipush 17, 2) := by decide +kernel
theorem dL_act_88 : decode cL_act 88 = .ok (.invokestatic 28, 3) := by decide +kernel
theorem dL_act_91 : decode cL_act 91 = .ok (.iadd, 1) := by decide +kernel
theorem dL_act_92 : decode cL_act 92 = .ok (.iconst 5, 1) := by decide +kernel
theorem dL_act_93 : decode cL_act 93 = .ok (.iload_n 1, 1) := by decide +kernel
theorem dL_act_94 : decode cL_act 94 = .ok (.iconst 3, 1) := by decide +kernel
theorem dL_act_95 : decode cL_act 95 = .ok (.ishr, 1) := by decide +kernel
theorem dL_act_96 : decode cL_act 96 = .ok (.sipush 1500, 3) := by decide +kernel
theorem dL_act_99 : decode cL_act 99 = .ok (.invokestatic 28, 3) := by decide +kernel
theorem dL_act_102 : decode cL_act 102 = .ok (.iadd, 1) := by decide +kernel
theorem dL_act_103 : decode cL_act 103 = .ok (.iconst 1, 1) := by decide +kernel
theorem dL_act_104 : decode cL_act 104 = .ok (.iload_n 1, 1) := by decide +kernel
theorem dL_act_105 : decode cL_act 105 = .ok (.bipush 6, 2) := by decide +kernel
theorem dL_act_107 : decode cL_act 107 = .ok (.ishr, 1) := by decide +kernel
theorem dL_act_108 : decode cL_act 108 = .ok (.bipush 15, 2) := by decide +kernel
theorem dL_act_110 : decode cL_act 110 = .ok (.invokestatic 28, 3) := by decide +kernel
theorem dL_act_113 : decode cL_act 113 = .ok (.iadd, 1) := by decide +kernel
theorem dL_act_114 : decode cL_act 114 = .ok (.invokevirtual 50, 3) := by decide +kernel
theorem dL_act_117 : decode cL_act 117 = .ok (.aload_n 0, 1) := by decide +kernel
theorem dL_act_118 : decode cL_act 118 = .ok (.iconst 0, 1) := by decide +kernel
theorem dL_act_119 : decode cL_act 119 = .ok (.invokevirtual 18, 3) := by decide +kernel
theorem dL_act_122 : decode cL_act 122 = .ok (.iconst 1, 1) := by decide +kernel
theorem dL_act_123 : decode cL_act 123 = .ok (.isub, 1) := by decide +kernel
theorem dL_act_124 : decode cL_act 124 = .ok (.if_icmp .ne 7, 3) := by decide +kernel
theorem dL_act_127 : decode cL_act 127 = .ok (.iconst 1, 1) := by decide +kernel
theorem dL_act_128 : decode cL_act 128 = .ok (.goto 4, 3) := by decide +kernel
theorem dL_act_131 : decode cL_act 131 = .ok (.iconst 0, 1) := by decide +kernel
theorem dL_act_132 : decode cL_act 132 = .ok (.ireturn, 1) := by decide +kernel
theorem dL_act_133 : decode cL_act 133 = .ok (.aload_n 0, 1) := by decide +kernel
theorem dL_act_134 : decode cL_act 134 = .ok (.iload_n 2, 1) := by decide +kernel
theorem dL_act_135 : decode cL_act 135 = .ok (.iload_n 3, 1) := by decide +kernel
theorem dL_act_136 : decode cL_act 136 = .ok (.invokevirtual 54, 3) := by decide +kernel
theorem dL_act_139 : decode cL_act 139 = .ok (.aload_n 0, 1) := by decide +kernel
theorem dL_act_140 : decode cL_act 140 = .ok (.iload_n 2, 1) := by decide +kernel
theorem dL_act_141 : decode cL_act 141 = .ok (.bipush 9, 2) := by decide +kernel
theorem dL_act_143 : decode cL_act 143 = .ok (.invokevirtual 57, 3) := by decide +kernel
theorem dL_act_146 : decode cL_act 146 = .ok (.if_icmp .ne 35, 3) := by decide +kernel
theorem dL_act_149 : decode cL_act 149 = .ok (.aload_n 0, 1) := by decide +kernel
theorem dL_act_150 : decode cL_act 150 = .ok (.iload_n 2, 1) := by decide +kernel
theorem dL_act_151 : decode cL_act 151 = .ok (.bipush 6, 2) := by decide +kernel
theorem dL_act_153 : decode cL_act 153 = .ok (.invokevirtual 57, 3) := by decide +kernel
theorem dL_act_156 : decode cL_act 156 = .ok (.iconst 1, 1) := by decide +kernel
theorem dL_act_157 : decode cL_act 157 = .ok (.if_icmp .ne 24, 3) := by decide +kernel
theorem dL_act_160 : decode cL_act 160 = .ok (.aload_n 0, 1) := by decide +kernel
theorem dL_act_161 : decode cL_act 161 = .ok (.iload_n 3, 1) := by decide +kernel
theorem dL_act_162 : decode cL_act 162 = .ok (.aload_n 0, 1) := by decide +kernel
theorem dL_act_163 : decode cL_act 163 = .ok (.iload_n 3, 1) := by decide +kernel
theorem dL_act_164 : decode cL_act 164 = .ok (.iconst 5, 1) := by decide +kernel
theorem dL_act_165 : decode cL_act 165 = .ok (.invokevirtual 60, 3) := by decide +kernel
theorem dL_act_168 : decode cL_act 168 = .ok (.iconst 1, 1) := by decide +kernel
theorem dL_act_169 : decode cL_act 169 = .ok (.isub, 1) := by decide +kernel
theorem dL_act_170 : decode cL_act 170 = .ok (.invokevirtual 63, 3) := by decide +kernel
theorem dL_act_173 : decode cL_act 173 = .ok (.iload_n 2, 1) := by decide +kernel
theorem dL_act_174 : decode cL_act 174 = .ok (.if_icmp .ne 7, 3) := by decide +kernel
theorem dL_act_177 : decode cL_act 177 = .ok (.iconst 1, 1) := by decide +kernel
theorem dL_act_178 : decode cL_act 178 = .ok (.goto 4, 3) := by decide +kernel
theorem dL_act_181 : decode cL_act 181 = .ok (.iconst 0, 1) := by decide +kernel
theorem dL_act_182 : decode cL_act 182 = .ok (.ireturn, 1) := by decide +kernel
theorem dL_act_183 : decode cL_act 183 = .ok (.aload_n 0, 1) := by decide +kernel
theorem dL_act_184 : decode cL_act 184 = .ok (.iload 4, 2) := by decide +kernel
theorem dL_act_186 : decode cL_act 186 = .ok (.iconst 1, 1) := by decide +kernel
theorem dL_act_187 : decode cL_act 187 = .ok (.iload_n 1, 1) := by decide +kernel
theorem dL_act_188 : decode cL_act 188 = .ok (.bipush 6, 2) := by decide +kernel
theorem dL_act_190 : decode cL_act 190 = .ok (.ishr, 1) := by decide +kernel
theorem dL_act_191 : decode cL_act 191 = .ok (.iconst 4, 1) := by decide +kernel
theorem dL_act_192 : decode cL_act 192 = .ok (.invokestatic 28, 3) := by decide +kernel
theorem dL_act_195 : decode cL_act 195 = .ok (.iadd, 1) := by decide +kernel
theorem dL_act_196 : decode cL_act 196 = .ok (.invokevirtual 66, 3) := by decide +kernel
theorem dL_act_199 : decode cL_act 199 = .ok (.aload_n 0, 1) := by decide +kernel
theorem dL_act_200 : decode cL_act 200 = .ok (.iload 4, 2) := by decide +kernel
theorem dL_act_202 : decode cL_act 202 = .ok (.iconst 3, 1) := by decide +kernel
theorem dL_act_203 : decode cL_act 203 = .ok (.invokevirtual 69, 3) := by decide +kernel
theorem dL_act_206 : decode cL_act 206 = .ok (.if_icmp .ne 7, 3) := by decide +kernel
theorem dL_act_209 : decode cL_act 209 = .ok (.iconst 1, 1) := by decide +kernel
theorem dL_act_210 : decode cL_act 210 = .ok (.goto 4, 3) := by decide +kernel
theorem dL_act_213 : decode cL_act 213 = .ok (.iconst 0, 1) := by decide +kernel
theorem dL_act_214 : decode cL_act 214 = .ok (.ireturn, 1) := by decide +kernel
theorem dL_act_215 : decode cL_act 215 = .ok (.aload_n 0, 1) := by decide +kernel
theorem dL_act_216 : decode cL_act 216 = .ok (.invokevirtual 72, 3) := by decide +kernel
theorem dL_act_219 : decode cL_act 219 = .ok (.istore 5, 2) := by decide +kernel
theorem dL_act_221 : decode cL_act 221 = .ok (.iload 5, 2) := by decide +kernel
theorem dL_act_223 : decode cL_act 223 = .ok (.ifCond .lt 15, 3) := by decide +kernel
theorem dL_act_226 : decode cL_act 226 = .ok (.iload 5, 2) := by decide +kernel
theorem dL_act_228 : decode cL_act 228 = .ok (.sipush 160, 3) := by decide +kernel
theorem dL_act_231 : decode cL_act 231 = .ok (.if_icmp .gt 7, 3) := by decide +kernel
theorem dL_act_234 : decode cL_act 234 = .ok (.iconst 1, 1) := by decide +kernel
theorem dL_act_235 : decode cL_act 235 = .ok (.goto 4, 3) := by decide +kernel
theorem dL_act_238 : decode cL_act 238 = .ok (.iconst 0, 1) := by decide +kernel
theorem dL_act_239 : decode cL_act 239 = .ok (.ireturn, 1) := by decide +kernel
theorem dL_act_240 : decode cL_act 240 = .ok (.aload_n 0, 1) := by decide +kernel
theorem dL_act_241 : decode cL_act 241 = .ok (.iload_n 2, 1) := by decide +kernel
theorem dL_act_242 : decode cL_act 242 = .ok (.invokevirtual 76, 3) := by decide +kernel
theorem dL_act_245 : decode cL_act 245 = .ok (.aload_n 0, 1) := by decide +kernel
theorem dL_act_246 : decode cL_act 246 = .ok (.iload_n 2, 1) := by decide +kernel
theorem dL_act_247 : decode cL_act 247 = .ok (.bipush 11, 2) := by decide +kernel
theorem dL_act_249 : decode cL_act 249 = .ok (.invokevirtual 57, 3) := by decide +kernel
theorem dL_act_252 : decode cL_act 252 = .ok (.if_icmp .ne 41, 3) := by decide +kernel
theorem dL_act_255 : decode cL_act 255 = .ok (.aload_n 0, 1) := by decide +kernel
theorem dL_act_256 : decode cL_act 256 = .ok (.iload_n 2, 1) := by decide +kernel
theorem dL_act_257 : decode cL_act 257 = .ok (.bipush 6, 2) := by decide +kernel
theorem dL_act_259 : decode cL_act 259 = .ok (.invokevirtual 57, 3) := by decide +kernel
theorem dL_act_262 : decode cL_act 262 = .ok (.iconst 3, 1) := by decide +kernel
theorem dL_act_263 : decode cL_act 263 = .ok (.if_icmp .ne 30, 3) := by decide +kernel
theorem dL_act_266 : decode cL_act 266 = .ok (.aload_n 0, 1) := by decide +kernel
theorem dL_act_267 : decode cL_act 267 = .ok (.iload_n 2, 1) := by decide +kernel
theorem dL_act_268 : decode cL_act 268 = .ok (.bipush 11, 2) := by decide +kernel
theorem dL_act_270 : decode cL_act 270 = .ok (.invokevirtual 57, 3) := by decide +kernel
theorem dL_act_273 : decode cL_act 273 = .ok (.aload_n 0, 1) := by decide +kernel
theorem dL_act_274 : decode cL_act 274 = .ok (.iload_n 2, 1) := by decide +kernel
theorem dL_act_275 : decode cL_act 275 = .ok (.invokevirtual 79, 3) := by decide +kernel
theorem dL_act_278 : decode cL_act 278 = .ok (.aload_n 0, 1) := by decide +kernel
theorem dL_act_279 : decode cL_act 279 = .ok (.iload_n 2, 1) := by decide +kernel
theorem dL_act_280 : decode cL_act 280 = .ok (.bipush 10, 2) := by decide +kernel
theorem dL_act_282 : decode cL_act 282 = .ok (.invokevirtual 57, 3) := by decide +kernel
theorem dL_act_285 : decode cL_act 285 = .ok (.iadd, 1) := by decide +kernel
theorem dL_act_286 : decode cL_act 286 = .ok (.if_icmp .ne 7, 3) := by decide +kernel
theorem dL_act_289 : decode cL_act 289 = .ok (.iconst 1, 1) := by decide +kernel
theorem dL_act_290 : decode cL_act 290 = .ok (.goto 4, 3) := by decide +kernel
theorem dL_act_293 : decode cL_act 293 = .ok (.iconst 0, 1) := by decide +kernel
theorem dL_act_294 : decode cL_act 294 = .ok (.ireturn, 1) := by decide +kernel
theorem dL_act_295 : decode cL_act 295 = .ok (.aload_n 0, 1) := by decide +kernel
theorem dL_act_296 : decode cL_act 296 = .ok (.iload_n 2, 1) := by decide +kernel
theorem dL_act_297 : decode cL_act 297 = .ok (.invokevirtual 82, 3) := by decide +kernel
theorem dL_act_300 : decode cL_act 300 = .ok (.aload_n 0, 1) := by decide +kernel
theorem dL_act_301 : decode cL_act 301 = .ok (.iload_n 2, 1) := by decide +kernel
theorem dL_act_302 : decode cL_act 302 = .ok (.bipush 8, 2) := by decide +kernel
theorem dL_act_304 : decode cL_act 304 = .ok (.invokevirtual 57, 3) := by decide +kernel
theorem dL_act_307 : decode cL_act 307 = .ok (.if_icmp .ne 23, 3) := by decide +kernel
theorem dL_act_310 : decode cL_act 310 = .ok (.aload_n 0, 1) := by decide +kernel
theorem dL_act_311 : decode cL_act 311 = .ok (.aload_n 0, 1) := by decide +kernel
theorem dL_act_312 : decode cL_act 312 = .ok (.iload_n 2, 1) := by decide +kernel
theorem dL_act_313 : decode cL_act 313 = .ok (.bipush 12, 2) := by decide +kernel
theorem dL_act_315 : decode cL_act 315 = .ok (.invokevirtual 57, 3) := by decide +kernel
theorem dL_act_318 : decode cL_act 318 = .ok (.iconst 0, 1) := by decide +kernel
theorem dL_act_319 : decode cL_act 319 = .ok (.invokevirtual 63, 3) := by decide +kernel
theorem dL_act_322 : decode cL_act 322 = .ok (.iload_n 2, 1) := by decide +kernel
theorem dL_act_323 : decode cL_act 323 = .ok (.if_icmp .ne 7, 3) := by decide +kernel
theorem dL_act_326 : decode cL_act 326 = .ok (.iconst 1, 1) := by decide +kernel
theorem dL_act_327 : decode cL_act 327 = .ok (.goto 4, 3) := by decide +kernel
theorem dL_act_330 : decode cL_act 330 = .ok (.iconst 0, 1) := by decide +kernel
theorem dL_act_331 : decode cL_act 331 = .ok (.ireturn, 1) := by decide +kernel
theorem dL_act_332 : decode cL_act 332 = .ok (.aload_n 0, 1) := by decide +kernel
theorem dL_act_333 : decode cL_act 333 = .ok (.iload_n 3, 1) := by decide +kernel
theorem dL_act_334 : decode cL_act 334 = .ok (.bipush 6, 2) := by decide +kernel
theorem dL_act_336 : decode cL_act 336 = .ok (.invokevirtual 60, 3) := by decide +kernel
theorem dL_act_339 : decode cL_act 339 = .ok (.istore 6, 2) := by decide +kernel
theorem dL_act_341 : decode cL_act 341 = .ok (.aload_n 0, 1) := by decide +kernel
theorem dL_act_342 : decode cL_act 342 = .ok (.iload_n 3, 1) := by decide +kernel
theorem dL_act_343 : decode cL_act 343 = .ok (.invokevirtual 85, 3) := by decide +kernel
theorem dL_act_346 : decode cL_act 346 = .ok (.iload 6, 2) := by decide +kernel
theorem dL_act_348 : decode cL_act 348 = .ok (.aload_n 0, 1) := by decide +kernel
theorem dL_act_349 : decode cL_act 349 = .ok (.iload_n 3, 1) := by decide +kernel
theorem dL_act_350 : decode cL_act 350 = .ok (.bipush 6, 2) := by decide +kernel
theorem dL_act_352 : decode cL_act 352 = .ok (.invokevirtual 60, 3) := by decide +kernel
theorem dL_act_355 : decode cL_act 355 = .ok (.isub, 1) := by decide +kernel
theorem dL_act_356 : decode cL_act 356 = .ok (.if_icmp .ne 7, 3) := by decide +kernel
theorem dL_act_359 : decode cL_act 359 = .ok (.iconst 1, 1) := by decide +kernel
theorem dL_act_360 : decode cL_act 360 = .ok (.goto 4, 3) := by decide +kernel
theorem dL_act_363 : decode cL_act 363 = .ok (.iconst 0, 1) := by decide +kernel
theorem dL_act_364 : decode cL_act 364 = .ok (.ireturn, 1) := by decide +kernel
theorem dL_act_365 : decode cL_act 365 = .ok (.aload_n 0, 1) := by decide +kernel
theorem dL_act_366 : decode cL_act 366 = .ok (.iload_n 3, 1) := by decide +kernel
theorem dL_act_367 : decode cL_act 367 = .ok (.iconst 1, 1) := by decide +kernel
theorem dL_act_368 : decode cL_act 368 = .ok (.iload_n 1, 1) := by decide +kernel
theorem dL_act_369 : decode cL_act 369 = .ok (.bipush 6, 2) := by decide +kernel
theorem dL_act_371 : decode cL_act 371 = .ok (.ishr, 1) := by decide +kernel
theorem dL_act_372 : decode cL_act 372 = .ok (.iconst 4, 1) := by decide +kernel
theorem dL_act_373 : decode cL_act 373 = .ok (.invokestatic 28, 3) := by decide +kernel
theorem dL_act_376 : decode cL_act 376 = .ok (.iadd, 1) := by decide +kernel
theorem dL_act_377 : decode cL_act 377 = .ok (.invokevirtual 88, 3) := by decide +kernel
theorem dL_act_380 : decode cL_act 380 = .ok (.iconst 4, 1) := by decide +kernel
theorem dL_act_381 : decode cL_act 381 = .ok (.if_icmp .gt 7, 3) := by decide +kernel
theorem dL_act_384 : decode cL_act 384 = .ok (.iconst 1, 1) := by decide +kernel
theorem dL_act_385 : decode cL_act 385 = .ok (.goto 4, 3) := by decide +kernel
theorem dL_act_388 : decode cL_act 388 = .ok (.iconst 0, 1) := by decide +kernel
theorem dL_act_389 : decode cL_act 389 = .ok (.ireturn, 1) := by decide +kernel
theorem dL_act_390 : decode cL_act 390 = .ok (.aload_n 0, 1) := by decide +kernel
theorem dL_act_391 : decode cL_act 391 = .ok (.iload_n 3, 1) := by decide +kernel
theorem dL_act_392 : decode cL_act 392 = .ok (.iconst 1, 1) := by decide +kernel
theorem dL_act_393 : decode cL_act 393 = .ok (.iload_n 1, 1) := by decide +kernel
theorem dL_act_394 : decode cL_act 394 = .ok (.iconst 4, 1) := by decide +kernel
theorem dL_act_395 : decode cL_act 395 = .ok (.ishr, 1) := by decide +kernel
theorem dL_act_396 : decode cL_act 396 = .ok (.sipush 150, 3) := by decide +kernel
theorem dL_act_399 : decode cL_act 399 = .ok (.invokestatic 28, 3) := by decide +kernel
theorem dL_act_402 : decode cL_act 402 = .ok (.iadd, 1) := by decide +kernel
theorem dL_act_403 : decode cL_act 403 = .ok (.iload_n 1, 1) := by decide +kernel
theorem dL_act_404 : decode cL_act 404 = .ok (.bipush 6, 2) := by decide +kernel
theorem dL_act_406 : decode cL_act 406 = .ok (.ishr, 1) := by decide +kernel
theorem dL_act_407 : decode cL_act 407 = .ok (.bipush 25, 2) := by decide +kernel
theorem dL_act_409 : decode cL_act 409 = .ok (.invokestatic 28, 3) := by decide +kernel
theorem dL_act_412 : decode cL_act 412 = .ok (.invokestatic 91, 3) := by decide +kernel
theorem dL_act_415 : decode cL_act 415 = .ok (.ireturn, 1) := by decide +kernel
theorem dL_act_416 : decode cL_act 416 = .ok (.iload_n 1, 1) := by decide +kernel
theorem dL_act_417 : decode cL_act 417 = .ok (.bipush 6, 2) := by decide +kernel
theorem dL_act_419 : decode cL_act 419 = .ok (.ishr, 1) := by decide +kernel
theorem dL_act_420 : decode cL_act 420 = .ok (.iconst 2, 1) := by decide +kernel
theorem dL_act_421 : decode cL_act 421 = .ok (.invokestatic 28, 3) := by decide +kernel
theorem dL_act_424 : decode cL_act 424 = .ok (.ifCond .ne 40, 3) := by decide +kernel
theorem dL_act_427 : decode cL_act 427 = .ok (.aload_n 0, 1) := by decide +kernel
theorem dL_act_428 : decode cL_act 428 = .ok (.iconst 1, 1) := by decide +kernel
theorem dL_act_429 : decode cL_act 429 = .ok (.iload_n 1, 1) := by decide +kernel
theorem dL_act_430 : decode cL_act 430 = .ok (.iconst 5, 1) := by decide +kernel
theorem dL_act_431 : decode cL_act 431 = .ok (.ishr, 1) := by decide +kernel
theorem dL_act_432 : decode cL_act 432 = .ok (.bipush 30, 2) := by decide +kernel
theorem dL_act_434 : decode cL_act 434 = .ok (.invokestatic 28, 3) := by decide +kernel
theorem dL_act_437 : decode cL_act 437 = .ok (.iadd, 1) := by decide +kernel
theorem dL_act_438 : decode cL_act 438 = .ok (.iload_n 1, 1) := by decide +kernel
theorem dL_act_439 : decode cL_act 439 = .ok (.bipush 7, 2) := by decide +kernel
theorem dL_act_441 : decode cL_act 441 = .ok (.ishr, 1) := by decide +kernel
theorem dL_act_442 : decode cL_act 442 = .ok (.bipush 90, 2) := by decide +kernel
theorem dL_act_444 : decode cL_act 444 = .ok (.invokestatic 28, 3) := by decide +kernel
theorem dL_act_447 : decode cL_act 447 = .ok (.invokevirtual 95, 3) := by decide +kernel
theorem dL_act_450 : decode cL_act 450 = .ok (.aload_n 0, 1) := by decide +kernel
theorem dL_act_451 : decode cL_act 451 = .ok (.iconst 5, 1) := by decide +kernel
theorem dL_act_452 : decode cL_act 452 = .ok (.invokevirtual 18, 3) := by decide +kernel
theorem dL_act_455 : decode cL_act 455 = .ok (.if_icmp .ne 7, 3) := by decide +kernel
theorem dL_act_458 : decode cL_act 458 = .ok (.iconst 1, 1) := by decide +kernel
theorem dL_act_459 : decode cL_act 459 = .ok (.goto 4, 3) := by decide +kernel
theorem dL_act_462 : decode cL_act 462 = .ok (.iconst 0, 1) := by decide +kernel
theorem dL_act_463 : decode cL_act 463 = .ok (.ireturn, 1) := by decide +kernel
theorem dL_act_464 : decode cL_act 464 = .ok (.aload_n 0, 1) := by decide +kernel
theorem dL_act_465 : decode cL_act 465 = .ok (.iload 4, 2) := by decide +kernel
theorem dL_act_467 : decode cL_act 467 = .ok (.bipush 40, 2) := by decide +kernel
theorem dL_act_469 : decode cL_act 469 = .ok (.iload_n 1, 1) := by decide +kernel
theorem dL_act_470 : decode cL_act 470 = .ok (.iconst 5, 1) := by decide +kernel
theorem dL_act_471 : decode cL_act 471 = .ok (.ishr, 1) := by decide +kernel
theorem dL_act_472 : decode cL_act 472 = .ok (.bipush 50, 2) := by decide +kernel
theorem dL_act_474 : decode cL_act 474 = .ok (.invokestatic 28, 3) := by decide +kernel
theorem dL_act_477 : decode cL_act 477 = .ok (.iadd, 1) := by decide +kernel
theorem dL_act_478 : decode cL_act 478 = .ok (.bipush 40, 2) := by decide +kernel
theorem dL_act_480 : decode cL_act 480 = .ok (.iload_n 1, 1) := by decide +kernel
theorem dL_act_481 : decode cL_act 481 = .ok (.bipush 7, 2) := by decide +kernel
theorem dL_act_483 : decode cL_act 483 = .ok (.ishr, 1) := by decide +kernel
theorem dL_act_484 : decode cL_act 484 = .ok (.bipush 50, 2) := by decide +kernel
theorem dL_act_486 : decode cL_act 486 = .ok (.invokestatic 28, 3) := by decide +kernel
theorem dL_act_489 : decode cL_act 489 = .ok (.iadd, 1) := by decide +kernel
theorem dL_act_490 : decode cL_act 490 = .ok (.iconst 1, 1) := by decide +kernel
theorem dL_act_491 : decode cL_act 491 = .ok (.iload_n 1, 1) := by decide +kernel
theorem dL_act_492 : decode cL_act 492 = .ok (.iconst 3, 1) := by decide +kernel
theorem dL_act_493 : decode cL_act 493 = .ok (.ishr, 1) := by decide +kernel
theorem dL_act_494 : decode cL_act 494 = .ok (.bipush 15, 2) := by decide +kernel
theorem dL_act_496 : decode cL_act 496 = .ok (.invokestatic 28, 3) := by decide +kernel
theorem dL_act_499 : decode cL_act 499 = .ok (.iadd, 1) := by decide +kernel
theorem dL_act_500 : decode cL_act 500 = .ok (.invokevirtual 98, 3) := by decide +kernel
theorem dL_act_503 : decode cL_act 503 = .ok (.bipush 99, 2) := by decide +kernel
theorem dL_act_505 : decode cL_act 505 = .ok (.if_icmp .gt 7, 3) := by decide +kernel
theorem dL_act_508 : decode cL_act 508 = .ok (.iconst 1, 1) := by decide +kernel
theorem dL_act_509 : decode cL_act 509 = .ok (.goto 4, 3) := by decide +kernel
theorem dL_act_512 : decode cL_act 512 = .ok (.iconst 0, 1) := by decide +kernel
theorem dL_act_513 : decode cL_act 513 = .ok (.ireturn, 1) := by decide +kernel
theorem dL_act_514 : decode cL_act 514 = .ok (.astore 5, 2) := by decide +kernel
theorem dL_act_516 : decode cL_act 516 = .ok (.aload_n 0, 1) := by decide +kernel
theorem dL_act_517 : decode cL_act 517 = .ok (.iconst 0, 1) := by decide +kernel
theorem dL_act_518 : decode cL_act 518 = .ok (.invokevirtual 18, 3) := by decide +kernel
theorem dL_act_521 : decode cL_act 521 = .ok (.ifCond .eq 25, 3) := by decide +kernel
theorem dL_act_524 : decode cL_act 524 = .ok (.iload_n 1, 1) := by decide +kernel
theorem dL_act_525 : decode cL_act 525 = .ok (.bipush 13, 2) := by decide +kernel
theorem dL_act_527 : decode cL_act 527 = .ok (.invokestatic 28, 3) := by decide +kernel
theorem dL_act_530 : decode cL_act 530 = .ok (.bipush 10, 2) := by decide +kernel
theorem dL_act_532 : decode cL_act 532 = .ok (.if_icmp .eq 14, 3) := by decide +kernel
theorem dL_act_535 : decode cL_act 535 = .ok (.iload_n 1, 1) := by decide +kernel
theorem dL_act_536 : decode cL_act 536 = .ok (.bipush 13, 2) := by decide +kernel
theorem dL_act_538 : decode cL_act 538 = .ok (.invokestatic 28, 3) := by decide +kernel
theorem dL_act_541 : decode cL_act 541 = .ok (.bipush 11, 2) := by decide +kernel
theorem dL_act_543 : decode cL_act 543 = .ok (.if_icmp .ne 7, 3) := by decide +kernel
theorem dL_act_546 : decode cL_act 546 = .ok (.iconst 1, 1) := by decide +kernel
theorem dL_act_547 : decode cL_act 547 = .ok (.goto 4, 3) := by decide +kernel
theorem dL_act_550 : decode cL_act 550 = .ok (.iconst 0, 1) := by decide +kernel
theorem dL_act_551 : decode cL_act 551 = .ok (.ireturn, 1) := by decide +kernel
theorem dL_act_552 : decode cL_act 552 = .ok (.astore 5, 2) := by decide +kernel
theorem dL_act_554 : decode cL_act 554 = .ok (.iload_n 1, 1) := by decide +kernel
theorem dL_act_555 : decode cL_act 555 = .ok (.bipush 13, 2) := by decide +kernel
theorem dL_act_557 : decode cL_act 557 = .ok (.invokestatic 28, 3) := by decide +kernel
theorem dL_act_560 : decode cL_act 560 = .ok (.iconst 4, 1) := by decide +kernel
theorem dL_act_561 : decode cL_act 561 = .ok (.if_icmp .ne 7, 3) := by decide +kernel
theorem dL_act_564 : decode cL_act 564 = .ok (.iconst 1, 1) := by decide +kernel
theorem dL_act_565 : decode cL_act 565 = .ok (.goto 4, 3) := by decide +kernel
theorem dL_act_568 : decode cL_act 568 = .ok (.iconst 0, 1) := by decide +kernel
theorem dL_act_569 : decode cL_act 569 = .ok (.ireturn, 1) := by decide +kernel
theorem dL_act_570 : decode cL_act 570 = .ok (.astore 5, 2) := by decide +kernel
theorem dL_act_572 : decode cL_act 572 = .ok (.iload_n 1, 1) := by decide +kernel
theorem dL_act_573 : decode cL_act 573 = .ok (.bipush 13, 2) := by decide +kernel
theorem dL_act_575 : decode cL_act 575 = .ok (.invokestatic 28, 3) := by decide +kernel
theorem dL_act_578 : decode cL_act 578 = .ok (.iconst 4, 1) := by decide +kernel
theorem dL_act_579 : decode cL_act 579 = .ok (.if_icmp .lt 24, 3) := by decide +kernel
theorem dL_act_582 : decode cL_act 582 = .ok (.iload_n 1, 1) := by decide +kernel
theorem dL_act_583 : decode cL_act 583 = .ok (.bipush 13, 2) := by decide +kernel
theorem dL_act_585 : decode cL_act 585 = .ok (.invokestatic 28, 3) := by decide +kernel
theorem dL_act_588 : decode cL_act 588 = .ok (.iconst 5, 1) := by decide +kernel
theorem dL_act_589 : decode cL_act 589 = .ok (.if_icmp .le 18, 3) := by decide +kernel
theorem dL_act_592 : decode cL_act 592 = .ok (.iload_n 1, 1) := by decide +kernel
theorem dL_act_593 : decode cL_act 593 = .ok (.bipush 13, 2) := by decide +kernel
theorem dL_act_595 : decode cL_act 595 = .ok (.invokestatic 28, 3) := by decide +kernel
theorem dL_act_598 : decode cL_act 598 = .ok (.bipush 12, 2) := by decide +kernel
theorem dL_act_600 : decode cL_act 600 = .ok (.if_icmp .ge 7, 3) := by decide +kernel
theorem dL_act_603 : decode cL_act 603 = .ok (.iconst 1, 1) := by decide +kernel
theorem dL_act_604 : decode cL_act 604 = .ok (.goto 4, 3) := by decide +kernel
theorem dL_act_607 : decode cL_act 607 = .ok (.iconst 0, 1) := by decide +kernel
theorem dL_act_608 : decode cL_act 608 = .ok (.ireturn, 1) := by decide +kernel
theorem dL_isTold_0 : decode cL_isTold 0 = .ok (.aload_n 0, 1) := by decide +kernel
theorem dL_isTold_1 : decode cL_isTold 1 = .ok (.iload_n 1, 1) := by decide +kernel
theorem dL_isTold_2 : decode cL_isTold 2 = .ok (.iconst 0, 1) := by decide +kernel
theorem dL_isTold_3 : decode cL_isTold 3 = .ok (.invokevirtual 63, 3) := by decide +kernel
theorem dL_isTold_6 : decode cL_isTold 6 = .ok (.istore 4, 2) := by decide +kernel
theorem dL_isTold_8 : decode cL_isTold 8 = .ok (.aload_n 0, 1) := by decide +kernel
theorem dL_isTold_9 : decode cL_isTold 9 = .ok (.iload 4, 2) := by decide +kernel
theorem dL_isTold_11 : decode cL_isTold 11 = .ok (.iconst 0, 1) := by decide +kernel
theorem dL_isTold_12 : decode cL_isTold 12 = .ok (.invokevirtual 57, 3) := by decide +kernel
theorem dL_isTold_15 : decode cL_isTold 15 = .ok (.istore 5, 2) := by decide +kernel
theorem dL_isTold_17 : decode cL_isTold 17 = .ok (.aload_n 0, 1) := by decide +kernel
theorem dL_isTold_18 : decode cL_isTold 18 = .ok (.iload 4, 2) := by decide +kernel
theorem dL_isTold_20 : decode cL_isTold 20 = .ok (.bipush 7, 2) := by decide +kernel
theorem dL_isTold_22 : decode cL_isTold 22 = .ok (.invokevirtual 57, 3) := by decide +kernel
theorem dL_isTold_25 : decode cL_isTold 25 = .ok (.istore 6, 2) := by decide +kernel
theorem dL_isTold_27 : decode cL_isTold 27 = .ok (.aload_n 0, 1) := by decide +kernel
theorem dL_isTold_28 : decode cL_isTold 28 = .ok (.iload 4, 2) := by decide +kernel
theorem dL_isTold_30 : decode cL_isTold 30 = .ok (.bipush 8, 2) := by decide +kernel
theorem dL_isTold_32 : decode cL_isTold 32 = .ok (.invokevirtual 57, 3) := by decide +kernel
theorem dL_isTold_35 : decode cL_isTold 35 = .ok (.istore 7, 2) := by decide +kernel
theorem dL_isTold_37 : decode cL_isTold 37 = .ok (.aload_n 0, 1) := by decide +kernel
theorem dL_isTold_38 : decode cL_isTold 38 = .ok (.iload 5, 2) := by decide +kernel
theorem dL_isTold_40 : decode cL_isTold 40 = .ok (.iconst 3, 1) := by decide +kernel
theorem dL_isTold_41 : decode cL_isTold 41 = .ok (.invokevirtual 69, 3) := by decide +kernel
theorem dL_isTold_44 : decode cL_isTold 44 = .ok (.istore 8, 2) := by decide +kernel
theorem dL_isTold_46 : decode cL_isTold 46 = .ok (.aload_n 0, 1) := by decide +kernel
theorem dL_isTold_47 : decode cL_isTold 47 = .ok (.iload_n 1, 1) := by decide +kernel
theorem dL_isTold_48 : decode cL_isTold 48 = .ok (.iconst 5, 1) := by decide +kernel
theorem dL_isTold_49 : decode cL_isTold 49 = .ok (.invokevirtual 60, 3) := by decide +kernel
theorem dL_isTold_52 : decode cL_isTold 52 = .ok (.istore 9, 2) := by decide +kernel
theorem dL_isTold_54 : decode cL_isTold 54 = .ok (.aload_n 0, 1) := by decide +kernel
theorem dL_isTold_55 : decode cL_isTold 55 = .ok (.iload_n 1, 1) := by decide +kernel
theorem dL_isTold_56 : decode cL_isTold 56 = .ok (.iload_n 2, 1) := by decide +kernel
theorem dL_isTold_57 : decode cL_isTold 57 = .ok (.iload_n 3, 1) := by decide +kernel
theorem dL_isTold_58 : decode cL_isTold 58 = .ok (.invokevirtual 108, 3) := by decide +kernel
theorem dL_isTold_61 : decode cL_isTold 61 = .ok (.istore 10, 2) := by decide +kernel
theorem dL_isTold_63 : decode cL_isTold 63 = .ok (.iload 10, 2) := by decide +kernel
theorem dL_isTold_65 : decode cL_isTold 65 = .ok (.iload_n 3, 1) := by decide +kernel
theorem dL_isTold_66 : decode cL_isTold 66 = .ok (.iadd, 1) := by decide +kernel
theorem dL_isTold_67 : decode cL_isTold 67 = .ok (.istore 11, 2) := by decide +kernel
theorem dL_isTold_69 : decode cL_isTold 69 = .ok (.iload 10, 2) := by decide +kernel
theorem dL_isTold_71 : decode cL_isTold 71 = .ok (.iconst 1, 1) := by decide +kernel
theorem dL_isTold_72 : decode cL_isTold 72 = .ok (.if_icmp .lt 126, 3) := by decide +kernel
theorem dL_isTold_75 : decode cL_isTold 75 = .ok (.iload 10, 2) := by decide +kernel
theorem dL_isTold_77 : decode cL_isTold 77 = .ok (.iload 7, 2) := by decide +kernel
theorem dL_isTold_79 : decode cL_isTold 79 = .ok (.if_icmp .gt 119, 3) := by decide +kernel
theorem dL_isTold_82 : decode cL_isTold 82 = .ok (.iload 11, 2) := by decide +kernel
theorem dL_isTold_84 : decode cL_isTold 84 = .ok (.iload 8, 2) := by decide +kernel
theorem dL_isTold_86 : decode cL_isTold 86 = .ok (.if_icmp .gt 112, 3) := by decide +kernel
theorem dL_isTold_89 : decode cL_isTold 89 = .ok (.iload 10, 2) := by decide +kernel
theorem dL_isTold_91 : decode cL_isTold 91 = .ok (.iload 7, 2) := by decide +kernel
theorem dL_isTold_93 : decode cL_isTold 93 = .ok (.if_icmp .eq 10, 3) := by decide +kernel
theorem dL_isTold_96 : decode cL_isTold 96 = .ok (.iload 11, 2) := by decide +kernel
theorem dL_isTold_98 : decode cL_isTold 98 = .ok (.iload 8, 2) := by decide +kernel
theorem dL_isTold_100 : decode cL_isTold 100 = .ok (.if_icmp .ne 98, 3) := by decide +kernel
theorem dL_isTold_103 : decode cL_isTold 103 = .ok (.aload_n 0, 1) := by decide +kernel
theorem dL_isTold_104 : decode cL_isTold 104 = .ok (.iload 5, 2) := by decide +kernel
theorem dL_isTold_106 : decode cL_isTold 106 = .ok (.iconst 3, 1) := by decide +kernel
theorem dL_isTold_107 : decode cL_isTold 107 = .ok (.invokevirtual 69, 3) := by decide +kernel
theorem dL_isTold_110 : decode cL_isTold 110 = .ok (.iload 8, 2) := by decide +kernel
theorem dL_isTold_112 : decode cL_isTold 112 = .ok (.iload 11, 2) := by decide +kernel
theorem dL_isTold_114 : decode cL_isTold 114 = .ok (.isub, 1) := by decide +kernel
theorem dL_isTold_115 : decode cL_isTold 115 = .ok (.if_icmp .ne 83, 3) := by decide +kernel
theorem dL_isTold_118 : decode cL_isTold 118 = .ok (.aload_n 0, 1) := by decide +kernel
theorem dL_isTold_119 : decode cL_isTold 119 = .ok (.iload 4, 2) := by decide +kernel
theorem dL_isTold_121 : decode cL_isTold 121 = .ok (.bipush 7, 2) := by decide +kernel
theorem dL_isTold_123 : decode cL_isTold 123 = .ok (.invokevirtual 57, 3) := by decide +kernel
theorem dL_isTold_126 : decode cL_isTold 126 = .ok (.iload 6, 2) := by decide +kernel
theorem dL_isTold_128 : decode cL_isTold 128 = .ok (.iload 10, 2) := by decide +kernel
theorem dL_isTold_130 : decode cL_isTold 130 = .ok (.aload_n 0, 1) := by decide +kernel
theorem dL_isTold_131 : decode cL_isTold 131 = .ok (.iload 4, 2) := by decide +kernel
theorem dL_isTold_133 : decode cL_isTold 133 = .ok (.iconst 3, 1) := by decide +kernel
theorem dL_isTold_134 : decode cL_isTold 134 = .ok (.invokevirtual 57, 3) := by decide +kernel
theorem dL_isTold_137 : decode cL_isTold 137 = .ok (.imul, 1) := by decide +kernel
theorem dL_isTold_138 : decode cL_isTold 138 = .ok (.iadd, 1) := by decide +kernel
theorem dL_isTold_139 : decode cL_isTold 139 = .ok (.if_icmp .ne 59, 3) := by decide +kernel
theorem dL_isTold_142 : decode cL_isTold 142 = .ok (.aload_n 0, 1) := by decide +kernel
theorem dL_isTold_143 : decode cL_isTold 143 = .ok (.iload 4, 2) := by decide +kernel
theorem dL_isTold_145 : decode cL_isTold 145 = .ok (.bipush 6, 2) := by decide +kernel
theorem dL_isTold_147 : decode cL_isTold 147 = .ok (.invokevirtual 57, 3) := by decide +kernel
theorem dL_isTold_150 : decode cL_isTold 150 = .ok (.iconst 2, 1) := by decide +kernel
theorem dL_isTold_151 : decode cL_isTold 151 = .ok (.if_icmp .ne 47, 3) := by decide +kernel
theorem dL_isTold_154 : decode cL_isTold 154 = .ok (.aload_n 0, 1) := by decide +kernel
theorem dL_isTold_155 : decode cL_isTold 155 = .ok (.iload_n 1, 1) := by decide +kernel
theorem dL_isTold_156 : decode cL_isTold 156 = .ok (.iconst 5, 1) := by decide +kernel
theorem dL_isTold_157 : decode cL_isTold 157 = .ok (.invokevirtual 60, 3) := by decide +kernel
theorem dL_isTold_160 : decode cL_isTold 160 = .ok (.iload 9, 2) := by decide +kernel
theorem dL_isTold_162 : decode cL_isTold 162 = .ok (.iconst 1, 1) := by decide +kernel
theorem dL_isTold_163 : decode cL_isTold 163 = .ok (.isub, 1) := by decide +kernel
theorem dL_isTold_164 : decode cL_isTold 164 = .ok (.if_icmp .ne 34, 3) := by decide +kernel
theorem dL_isTold_167 : decode cL_isTold 167 = .ok (.aload_n 0, 1) := by decide +kernel
theorem dL_isTold_168 : decode cL_isTold 168 = .ok (.iload_n 1, 1) := by decide +kernel
theorem dL_isTold_169 : decode cL_isTold 169 = .ok (.iconst 1, 1) := by decide +kernel
theorem dL_isTold_170 : decode cL_isTold 170 = .ok (.invokevirtual 60, 3) := by decide +kernel
theorem dL_isTold_173 : decode cL_isTold 173 = .ok (.aload_n 0, 1) := by decide +kernel
theorem dL_isTold_174 : decode cL_isTold 174 = .ok (.iload 4, 2) := by decide +kernel
theorem dL_isTold_176 : decode cL_isTold 176 = .ok (.iconst 2, 1) := by decide +kernel
theorem dL_isTold_177 : decode cL_isTold 177 = .ok (.invokevirtual 57, 3) := by decide +kernel
theorem dL_isTold_180 : decode cL_isTold 180 = .ok (.if_icmp .ne 18, 3) := by decide +kernel
theorem dL_isTold_183 : decode cL_isTold 183 = .ok (.aload_n 0, 1) := by decide +kernel
theorem dL_isTold_184 : decode cL_isTold 184 = .ok (.iload 4, 2) := by decide +kernel
theorem dL_isTold_186 : decode cL_isTold 186 = .ok (.iload_n 1, 1) := by decide +kernel
theorem dL_isTold_187 : decode cL_isTold 187 = .ok (.iconst 1, 1) := by decide +kernel
theorem dL_isTold_188 : decode cL_isTold 188 = .ok (.invokevirtual 112, 3) := by decide +kernel
theorem dL_isTold_191 : decode cL_isTold 191 = .ok (.ifCond .ne 7, 3) := by decide +kernel
theorem dL_isTold_194 : decode cL_isTold 194 = .ok (.iconst 1, 1) := by decide +kernel
theorem dL_isTold_195 : decode cL_isTold 195 = .ok (.goto 4, 3) := by decide +kernel
theorem dL_isTold_198 : decode cL_isTold 198 = .ok (.iconst 0, 1) := by decide +kernel
theorem dL_isTold_199 : decode cL_isTold 199 = .ok (.ireturn, 1) := by decide +kernel
theorem dL_areJobsRight_0 : decode cL_areJobsRight 0 = .ok (.iconst 4, 1) := by decide +kernel
theorem dL_areJobsRight_1 : decode cL_areJobsRight 1 = .ok (.newarray .int, 2) := by decide +kernel
theorem dL_areJobsRight_3 : decode cL_areJobsRight 3 = .ok (.astore_n 1, 1) := by decide +kernel
theorem dL_areJobsRight_4 : decode cL_areJobsRight 4 = .ok (.iconst 0, 1) := by decide +kernel
theorem dL_areJobsRight_5 : decode cL_areJobsRight 5 = .ok (.istore_n 2, 1) := by decide +kernel
theorem dL_areJobsRight_6 : decode cL_areJobsRight 6 = .ok (.iconst 0, 1) := by decide +kernel
theorem dL_areJobsRight_7 : decode cL_areJobsRight 7 = .ok (.istore_n 3, 1) := by decide +kernel
theorem dL_areJobsRight_8 : decode cL_areJobsRight 8 = .ok (.iconst 0, 1) := by decide +kernel
theorem dL_areJobsRight_9 : decode cL_areJobsRight 9 = .ok (.istore 4, 2) := by decide +kernel
theorem dL_areJobsRight_11 : decode cL_areJobsRight 11 = .ok (.iload 4, 2) := by decide +kernel
theorem dL_areJobsRight_13 : decode cL_areJobsRight 13 = .ok (.aload_n 0, 1) := by decide +kernel
theorem dL_areJobsRight_14 : decode cL_areJobsRight 14 = .ok (.iconst 0, 1) := by decide +kernel
theorem dL_areJobsRight_15 : decode cL_areJobsRight 15 = .ok (.invokevirtual 18, 3) := by decide +kernel
theorem dL_areJobsRight_18 : decode cL_areJobsRight 18 = .ok (.if_icmp .ge 411, 3) := by decide +kernel
theorem dL_areJobsRight_21 : decode cL_areJobsRight 21 = .ok (.aload_n 0, 1) := by decide +kernel
theorem dL_areJobsRight_22 : decode cL_areJobsRight 22 = .ok (.iload 4, 2) := by decide +kernel
theorem dL_areJobsRight_24 : decode cL_areJobsRight 24 = .ok (.bipush 6, 2) := by decide +kernel
theorem dL_areJobsRight_26 : decode cL_areJobsRight 26 = .ok (.invokevirtual 57, 3) := by decide +kernel
theorem dL_areJobsRight_29 : decode cL_areJobsRight 29 = .ok (.istore 5, 2) := by decide +kernel
theorem dL_areJobsRight_31 : decode cL_areJobsRight 31 = .ok (.aload_n 1, 1) := by decide +kernel
theorem dL_areJobsRight_32 : decode cL_areJobsRight 32 = .ok (.iload 5, 2) := by decide +kernel
theorem dL_areJobsRight_34 : decode cL_areJobsRight 34 = .ok (.dup2, 1) := by decide +kernel
theorem dL_areJobsRight_35 : decode cL_areJobsRight 35 = .ok (.iaload, 1) := by decide +kernel
theorem dL_areJobsRight_36 : decode cL_areJobsRight 36 = .ok (.iconst 1, 1) := by decide +kernel
theorem dL_areJobsRight_37 : decode cL_areJobsRight 37 = .ok (.iadd, 1) := by decide +kernel
theorem dL_areJobsRight_38 : decode cL_areJobsRight 38 = .ok (.iastore, 1) := by decide +kernel
theorem dL_areJobsRight_39 : decode cL_areJobsRight 39 = .ok (.iload_n 2, 1) := by decide +kernel
theorem dL_areJobsRight_40 : decode cL_areJobsRight 40 = .ok (.aload_n 0, 1) := by decide +kernel
theorem dL_areJobsRight_41 : decode cL_areJobsRight 41 = .ok (.iload 4, 2) := by decide +kernel
theorem dL_areJobsRight_43 : decode cL_areJobsRight 43 = .ok (.bipush 10, 2) := by decide +kernel
theorem dL_areJobsRight_45 : decode cL_areJobsRight 45 = .ok (.invokevirtual 57, 3) := by decide +kernel
theorem dL_areJobsRight_48 : decode cL_areJobsRight 48 = .ok (.iadd, 1) := by decide +kernel
theorem dL_areJobsRight_49 : decode cL_areJobsRight 49 = .ok (.istore_n 2, 1) := by decide +kernel
theorem dL_areJobsRight_50 : decode cL_areJobsRight 50 = .ok (.iload_n 3, 1) := by decide +kernel
theorem dL_areJobsRight_51 : decode cL_areJobsRight 51 = .ok (.aload_n 0, 1) := by decide +kernel
theorem dL_areJobsRight_52 : decode cL_areJobsRight 52 = .ok (.iload 4, 2) := by decide +kernel
theorem dL_areJobsRight_54 : decode cL_areJobsRight 54 = .ok (.bipush 11, 2) := by decide +kernel
theorem dL_areJobsRight_56 : decode cL_areJobsRight 56 = .ok (.invokevirtual 57, 3) := by decide +kernel
theorem dL_areJobsRight_59 : decode cL_areJobsRight 59 = .ok (.iadd, 1) := by decide +kernel
theorem dL_areJobsRight_60 : decode cL_areJobsRight 60 = .ok (.istore_n 3, 1) := by decide +kernel
theorem dL_areJobsRight_61 : decode cL_areJobsRight 61 = .ok (.iconst 0, 1) := by decide +kernel
theorem dL_areJobsRight_62 : decode cL_areJobsRight 62 = .ok (.istore 6, 2) := by decide +kernel
theorem dL_areJobsRight_64 : decode cL_areJobsRight 64 = .ok (.iconst 0, 1) := by decide +kernel
theorem dL_areJobsRight_65 : decode cL_areJobsRight 65 = .ok (.istore 7, 2) := by decide +kernel
theorem dL_areJobsRight_67 : decode cL_areJobsRight 67 = .ok (.iload 7, 2) := by decide +kernel
theorem dL_areJobsRight_69 : decode cL_areJobsRight 69 = .ok (.iconst 3, 1) := by decide +kernel
theorem dL_areJobsRight_70 : decode cL_areJobsRight 70 = .ok (.if_icmp .ge 66, 3) := by decide +kernel
theorem dL_areJobsRight_73 : decode cL_areJobsRight 73 = .ok (.iconst 0, 1) := by decide +kernel
theorem dL_areJobsRight_74 : decode cL_areJobsRight 74 = .ok (.istore 8, 2) := by decide +kernel
theorem dL_areJobsRight_76 : decode cL_areJobsRight 76 = .ok (.iload 8, 2) := by decide +kernel
theorem dL_areJobsRight_78 : decode cL_areJobsRight 78 = .ok (.aload_n 0, 1) := by decide +kernel
theorem dL_areJobsRight_79 : decode cL_areJobsRight 79 = .ok (.iload 7, 2) := by decide +kernel
theorem dL_areJobsRight_81 : decode cL_areJobsRight 81 = .ok (.iconst 5, 1) := by decide +kernel
theorem dL_areJobsRight_82 : decode cL_areJobsRight 82 = .ok (.invokevirtual 60, 3) := by decide +kernel
theorem dL_areJobsRight_85 : decode cL_areJobsRight 85 = .ok (.if_icmp .ge 45, 3) := by decide +kernel
theorem dL_areJobsRight_88 : decode cL_areJobsRight 88 = .ok (.iload 6, 2) := by decide +kernel
theorem dL_areJobsRight_90 : decode cL_areJobsRight 90 = .ok (.aload_n 0, 1) := by decide +kernel
theorem dL_areJobsRight_91 : decode cL_areJobsRight 91 = .ok (.iload 7, 2) := by decide +kernel
theorem dL_areJobsRight_93 : decode cL_areJobsRight 93 = .ok (.iload 8, 2) := by decide +kernel
theorem dL_areJobsRight_95 : decode cL_areJobsRight 95 = .ok (.invokevirtual 63, 3) := by decide +kernel
theorem dL_areJobsRight_98 : decode cL_areJobsRight 98 = .ok (.iload 4, 2) := by decide +kernel
theorem dL_areJobsRight_100 : decode cL_areJobsRight 100 = .ok (.if_icmp .ne 20, 3) := by decide +kernel
theorem dL_areJobsRight_103 : decode cL_areJobsRight 103 = .ok (.aload_n 0, 1) := by decide +kernel
theorem dL_areJobsRight_104 : decode cL_areJobsRight 104 = .ok (.iload 4, 2) := by decide +kernel
theorem dL_areJobsRight_106 : decode cL_areJobsRight 106 = .ok (.bipush 12, 2) := by decide +kernel
theorem dL_areJobsRight_108 : decode cL_areJobsRight 108 = .ok (.invokevirtual 57, 3) := by decide +kernel
theorem dL_areJobsRight_111 : decode cL_areJobsRight 111 = .ok (.iload 7, 2) := by decide +kernel
theorem dL_areJobsRight_113 : decode cL_areJobsRight 113 = .ok (.if_icmp .ne 7, 3) := by decide +kernel
theorem dL_areJobsRight_116 : decode cL_areJobsRight 116 = .ok (.iconst 1, 1) := by decide +kernel
theorem dL_areJobsRight_117 : decode cL_areJobsRight 117 = .ok (.goto 4, 3) := by decide +kernel
theorem dL_areJobsRight_120 : decode cL_areJobsRight 120 = .ok (.iconst 0, 1) := by decide +kernel
theorem dL_areJobsRight_121 : decode cL_areJobsRight 121 = .ok (.iadd, 1) := by decide +kernel
theorem dL_areJobsRight_122 : decode cL_areJobsRight 122 = .ok (.istore 6, 2) := by decide +kernel
theorem dL_areJobsRight_124 : decode cL_areJobsRight 124 = .ok (.iinc 8 1, 3) := by decide +kernel
theorem dL_areJobsRight_127 : decode cL_areJobsRight 127 = .ok (.goto (-51), 3) := by decide +kernel
theorem dL_areJobsRight_130 : decode cL_areJobsRight 130 = .ok (.iinc 7 1, 3) := by decide +kernel
theorem dL_areJobsRight_133 : decode cL_areJobsRight 133 = .ok (.goto (-66), 3) := by decide +kernel
theorem dL_areJobsRight_136 : decode cL_areJobsRight 136 = .ok (.aload_n 0, 1) := by decide +kernel
theorem dL_areJobsRight_137 : decode cL_areJobsRight 137 = .ok (.iload 4, 2) := by decide +kernel
theorem dL_areJobsRight_139 : decode cL_areJobsRight 139 = .ok (.iconst 1, 1) := by decide +kernel
theorem dL_areJobsRight_140 : decode cL_areJobsRight 140 = .ok (.invokevirtual 57, 3) := by decide +kernel
theorem dL_areJobsRight_143 : decode cL_areJobsRight 143 = .ok (.istore 7, 2) := by decide +kernel
theorem dL_areJobsRight_145 : decode cL_areJobsRight 145 = .ok (.aload_n 0, 1) := by decide +kernel
theorem dL_areJobsRight_146 : decode cL_areJobsRight 146 = .ok (.iload 4, 2) := by decide +kernel
theorem dL_areJobsRight_148 : decode cL_areJobsRight 148 = .ok (.bipush 7, 2) := by decide +kernel
theorem dL_areJobsRight_150 : decode cL_areJobsRight 150 = .ok (.invokevirtual 57, 3) := by decide +kernel
theorem dL_areJobsRight_153 : decode cL_areJobsRight 153 = .ok (.istore 8, 2) := by decide +kernel
theorem dL_areJobsRight_155 : decode cL_areJobsRight 155 = .ok (.aload_n 0, 1) := by decide +kernel
theorem dL_areJobsRight_156 : decode cL_areJobsRight 156 = .ok (.iload 4, 2) := by decide +kernel
theorem dL_areJobsRight_158 : decode cL_areJobsRight 158 = .ok (.iconst 3, 1) := by decide +kernel
theorem dL_areJobsRight_159 : decode cL_areJobsRight 159 = .ok (.invokevirtual 57, 3) := by decide +kernel
theorem dL_areJobsRight_162 : decode cL_areJobsRight 162 = .ok (.istore 9, 2) := by decide +kernel
theorem dL_areJobsRight_164 : decode cL_areJobsRight 164 = .ok (.aload_n 0, 1) := by decide +kernel
theorem dL_areJobsRight_165 : decode cL_areJobsRight 165 = .ok (.iload 4, 2) := by decide +kernel
theorem dL_areJobsRight_167 : decode cL_areJobsRight 167 = .ok (.bipush 8, 2) := by decide +kernel
theorem dL_areJobsRight_169 : decode cL_areJobsRight 169 = .ok (.invokevirtual 57, 3) := by decide +kernel
theorem dL_areJobsRight_172 : decode cL_areJobsRight 172 = .ok (.istore 10, 2) := by decide +kernel
theorem dL_areJobsRight_174 : decode cL_areJobsRight 174 = .ok (.iload 6, 2) := by decide +kernel
theorem dL_areJobsRight_176 : decode cL_areJobsRight 176 = .ok (.iload 5, 2) := by decide +kernel
theorem dL_areJobsRight_178 : decode cL_areJobsRight 178 = .ok (.iconst 1, 1) := by decide +kernel
theorem dL_areJobsRight_179 : decode cL_areJobsRight 179 = .ok (.if_icmp .ne 7, 3) := by decide +kernel
theorem dL_areJobsRight_182 : decode cL_areJobsRight 182 = .ok (.iconst 1, 1) := by decide +kernel
theorem dL_areJobsRight_183 : decode cL_areJobsRight 183 = .ok (.goto 4, 3) := by decide +kernel
theorem dL_areJobsRight_186 : decode cL_areJobsRight 186 = .ok (.iconst 0, 1) := by decide +kernel
theorem dL_areJobsRight_187 : decode cL_areJobsRight 187 = .ok (.if_icmp .ne 57, 3) := by decide +kernel
theorem dL_areJobsRight_190 : decode cL_areJobsRight 190 = .ok (.iload 5, 2) := by decide +kernel
theorem dL_areJobsRight_192 : decode cL_areJobsRight 192 = .ok (.ifCond .ne 7, 3) := by decide +kernel
theorem dL_areJobsRight_195 : decode cL_areJobsRight 195 = .ok (.iconst 1, 1) := by decide +kernel
theorem dL_areJobsRight_196 : decode cL_areJobsRight 196 = .ok (.goto 4, 3) := by decide +kernel
theorem dL_areJobsRight_199 : decode cL_areJobsRight 199 = .ok (.iconst 0, 1) := by decide +kernel
theorem dL_areJobsRight_200 : decode cL_areJobsRight 200 = .ok (.aload_n 0, 1) := by decide +kernel
theorem dL_areJobsRight_201 : decode cL_areJobsRight 201 = .ok (.iload 4, 2) := by decide +kernel
theorem dL_areJobsRight_203 : decode cL_areJobsRight 203 = .ok (.bipush 12, 2) := by decide +kernel
theorem dL_areJobsRight_205 : decode cL_areJobsRight 205 = .ok (.invokevirtual 57, 3) := by decide +kernel
theorem dL_areJobsRight_208 : decode cL_areJobsRight 208 = .ok (.iconst (-1), 1) := by decide +kernel
theorem dL_areJobsRight_209 : decode cL_areJobsRight 209 = .ok (.if_icmp .ne 7, 3) := by decide +kernel
theorem dL_areJobsRight_212 : decode cL_areJobsRight 212 = .ok (.iconst 1, 1) := by decide +kernel
theorem dL_areJobsRight_213 : decode cL_areJobsRight 213 = .ok (.goto 4, 3) := by decide +kernel
theorem dL_areJobsRight_216 : decode cL_areJobsRight 216 = .ok (.iconst 0, 1) := by decide +kernel
theorem dL_areJobsRight_217 : decode cL_areJobsRight 217 = .ok (.if_icmp .ne 27, 3) := by decide +kernel
theorem dL_areJobsRight_220 : decode cL_areJobsRight 220 = .ok (.iload 8, 2) := by decide +kernel
theorem dL_areJobsRight_222 : decode cL_areJobsRight 222 = .ok (.iload 9, 2) := by decide +kernel
theorem dL_areJobsRight_224 : decode cL_areJobsRight 224 = .ok (.irem, 1) := by decide +kernel
theorem dL_areJobsRight_225 : decode cL_areJobsRight 225 = .ok (.ifCond .ne 19, 3) := by decide +kernel
theorem dL_areJobsRight_228 : decode cL_areJobsRight 228 = .ok (.iload 9, 2) := by decide +kernel
theorem dL_areJobsRight_230 : decode cL_areJobsRight 230 = .ok (.iconst 1, 1) := by decide +kernel
theorem dL_areJobsRight_231 : decode cL_areJobsRight 231 = .ok (.if_icmp .lt 13, 3) := by decide +kernel
theorem dL_areJobsRight_234 : decode cL_areJobsRight 234 = .ok (.aload_n 0, 1) := by decide +kernel
theorem dL_areJobsRight_235 : decode cL_areJobsRight 235 = .ok (.iload 4, 2) := by decide +kernel
theorem dL_areJobsRight_237 : decode cL_areJobsRight 237 = .ok (.iconst 5, 1) := by decide +kernel
theorem dL_areJobsRight_238 : decode cL_areJobsRight 238 = .ok (.invokevirtual 57, 3) := by decide +kernel
theorem dL_areJobsRight_241 : decode cL_areJobsRight 241 = .ok (.ifCond .ge 5, 3) := by decide +kernel
theorem dL_areJobsRight_244 : decode cL_areJobsRight 244 = .ok (.iconst 0, 1) := by decide +kernel
theorem dL_areJobsRight_245 : decode cL_areJobsRight 245 = .ok (.ireturn, 1) := by decide +kernel
theorem dL_areJobsRight_246 : decode cL_areJobsRight 246 = .ok (.iload 8, 2) := by decide +kernel
theorem dL_areJobsRight_248 : decode cL_areJobsRight 248 = .ok (.iload 7, 2) := by decide +kernel
theorem dL_areJobsRight_250 : decode cL_areJobsRight 250 = .ok (.if_icmp .lt 11, 3) := by decide +kernel
theorem dL_areJobsRight_253 : decode cL_areJobsRight 253 = .ok (.iload 10, 2) := by decide +kernel
theorem dL_areJobsRight_255 : decode cL_areJobsRight 255 = .ok (.ifCond .eq 36, 3) := by decide +kernel
theorem dL_areJobsRight_258 : decode cL_areJobsRight 258 = .ok (.goto 31, 3) := by decide +kernel
theorem dL_areJobsRight_261 : decode cL_areJobsRight 261 = .ok (.iload 10, 2) := by decide +kernel
theorem dL_areJobsRight_263 : decode cL_areJobsRight 263 = .ok (.iload 9, 2) := by decide +kernel
theorem dL_areJobsRight_265 : decode cL_areJobsRight 265 = .ok (.imul, 1) := by decide +kernel
theorem dL_areJobsRight_266 : decode cL_areJobsRight 266 = .ok (.iload 7, 2) := by decide +kernel
theorem dL_areJobsRight_268 : decode cL_areJobsRight 268 = .ok (.iload 8, 2) := by decide +kernel
theorem dL_areJobsRight_270 : decode cL_areJobsRight 270 = .ok (.isub, 1) := by decide +kernel
theorem dL_areJobsRight_271 : decode cL_areJobsRight 271 = .ok (.if_icmp .lt 18, 3) := by decide +kernel
theorem dL_areJobsRight_274 : decode cL_areJobsRight 274 = .ok (.iload 10, 2) := by decide +kernel
theorem dL_areJobsRight_276 : decode cL_areJobsRight 276 = .ok (.iconst 1, 1) := by decide +kernel
theorem dL_areJobsRight_277 : decode cL_areJobsRight 277 = .ok (.isub, 1) := by decide +kernel
theorem dL_areJobsRight_278 : decode cL_areJobsRight 278 = .ok (.iload 9, 2) := by decide +kernel
theorem dL_areJobsRight_280 : decode cL_areJobsRight 280 = .ok (.imul, 1) := by decide +kernel
theorem dL_areJobsRight_281 : decode cL_areJobsRight 281 = .ok (.iload 7, 2) := by decide +kernel
theorem dL_areJobsRight_283 : decode cL_areJobsRight 283 = .ok (.iload 8, 2) := by decide +kernel
theorem dL_areJobsRight_285 : decode cL_areJobsRight 285 = .ok (.isub, 1) := by decide +kernel
theorem dL_areJobsRight_286 : decode cL_areJobsRight 286 = .ok (.if_icmp .lt 5, 3) := by decide +kernel
theorem dL_areJobsRight_289 : decode cL_areJobsRight 289 = .ok (.iconst 0, 1) := by decide +kernel
theorem dL_areJobsRight_290 : decode cL_areJobsRight 290 = .ok (.ireturn, 1) := by decide +kernel
theorem dL_areJobsRight_291 : decode cL_areJobsRight 291 = .ok (.iload 5, 2) := by decide +kernel
theorem dL_areJobsRight_293 : decode cL_areJobsRight 293 = .ok (.iconst 3, 1) := by decide +kernel
theorem dL_areJobsRight_294 : decode cL_areJobsRight 294 = .ok (.if_icmp .ne 16, 3) := by decide +kernel
theorem dL_areJobsRight_297 : decode cL_areJobsRight 297 = .ok (.iload 8, 2) := by decide +kernel
theorem dL_areJobsRight_299 : decode cL_areJobsRight 299 = .ok (.iload 7, 2) := by decide +kernel
theorem dL_areJobsRight_301 : decode cL_areJobsRight 301 = .ok (.iload 7, 2) := by decide +kernel
theorem dL_areJobsRight_303 : decode cL_areJobsRight 303 = .ok (.bipush 20, 2) := by decide +kernel
theorem dL_areJobsRight_305 : decode cL_areJobsRight 305 = .ok (.idiv, 1) := by decide +kernel
theorem dL_areJobsRight_306 : decode cL_areJobsRight 306 = .ok (.isub, 1) := by decide +kernel
theorem dL_areJobsRight_307 : decode cL_areJobsRight 307 = .ok (.if_icmp .lt 46, 3) := by decide +kernel
theorem dL_areJobsRight_310 : decode cL_areJobsRight 310 = .ok (.iload 5, 2) := by decide +kernel
theorem dL_areJobsRight_312 : decode cL_areJobsRight 312 = .ok (.iconst 3, 1) := by decide +kernel
theorem dL_areJobsRight_313 : decode cL_areJobsRight 313 = .ok (.if_icmp .ne 7, 3) := by decide +kernel
theorem dL_areJobsRight_316 : decode cL_areJobsRight 316 = .ok (.iconst 1, 1) := by decide +kernel
theorem dL_areJobsRight_317 : decode cL_areJobsRight 317 = .ok (.goto 4, 3) := by decide +kernel
theorem dL_areJobsRight_320 : decode cL_areJobsRight 320 = .ok (.iconst 0, 1) := by decide +kernel
theorem dL_areJobsRight_321 : decode cL_areJobsRight 321 = .ok (.aload_n 0, 1) := by decide +kernel
theorem dL_areJobsRight_322 : decode cL_areJobsRight 322 = .ok (.iload 4, 2) := by decide +kernel
theorem dL_areJobsRight_324 : decode cL_areJobsRight 324 = .ok (.bipush 11, 2) := by decide +kernel
theorem dL_areJobsRight_326 : decode cL_areJobsRight 326 = .ok (.invokevirtual 57, 3) := by decide +kernel
theorem dL_areJobsRight_329 : decode cL_areJobsRight 329 = .ok (.ifCond .le 7, 3) := by decide +kernel
theorem dL_areJobsRight_332 : decode cL_areJobsRight 332 = .ok (.iconst 1, 1) := by decide +kernel
theorem dL_areJobsRight_333 : decode cL_areJobsRight 333 = .ok (.goto 4, 3) := by decide +kernel
theorem dL_areJobsRight_336 : decode cL_areJobsRight 336 = .ok (.iconst 0, 1) := by decide +kernel
theorem dL_areJobsRight_337 : decode cL_areJobsRight 337 = .ok (.if_icmp .eq 18, 3) := by decide +kernel
theorem dL_areJobsRight_340 : decode cL_areJobsRight 340 = .ok (.aload_n 0, 1) := by decide +kernel
theorem dL_areJobsRight_341 : decode cL_areJobsRight 341 = .ok (.iload 4, 2) := by decide +kernel
theorem dL_areJobsRight_343 : decode cL_areJobsRight 343 = .ok (.bipush 9, 2) := by decide +kernel
theorem dL_areJobsRight_345 : decode cL_areJobsRight 345 = .ok (.invokevirtual 57, 3) := by decide +kernel
theorem dL_areJobsRight_348 : decode cL_areJobsRight 348 = .ok (.iload 7, 2) := by decide +kernel
theorem dL_areJobsRight_350 : decode cL_areJobsRight 350 = .ok (.if_icmp .le 5, 3) := by decide +kernel
theorem dL_areJobsRight_353 : decode cL_areJobsRight 353 = .ok (.iconst 0, 1) := by decide +kernel
theorem dL_areJobsRight_354 : decode cL_areJobsRight 354 = .ok (.ireturn, 1) := by decide +kernel
theorem dL_areJobsRight_355 : decode cL_areJobsRight 355 = .ok (.aload_n 0, 1) := by decide +kernel
theorem dL_areJobsRight_356 : decode cL_areJobsRight 356 = .ok (.iload 4, 2) := by decide +kernel
theorem dL_areJobsRight_358 : decode cL_areJobsRight 358 = .ok (.invokevirtual 115, 3) := by decide +kernel
theorem dL_areJobsRight_361 : decode cL_areJobsRight 361 = .ok (.istore 11, 2) := by decide +kernel
theorem dL_areJobsRight_363 : decode cL_areJobsRight 363 = .ok (.iconst 0, 1) := by decide +kernel
theorem dL_areJobsRight_364 : decode cL_areJobsRight 364 = .ok (.istore 12, 2) := by decide +kernel
theorem dL_areJobsRight_366 : decode cL_areJobsRight 366 = .ok (.iload 12, 2) := by decide +kernel
theorem dL_areJobsRight_368 : decode cL_areJobsRight 368 = .ok (.iconst 3, 1) := by decide +kernel
theorem dL_areJobsRight_369 : decode cL_areJobsRight 369 = .ok (.if_icmp .ge 54, 3) := by decide +kernel
theorem dL_areJobsRight_372 : decode cL_areJobsRight 372 = .ok (.aload_n 0, 1) := by decide +kernel
theorem dL_areJobsRight_373 : decode cL_areJobsRight 373 = .ok (.iload 4, 2) := by decide +kernel
theorem dL_areJobsRight_375 : decode cL_areJobsRight 375 = .ok (.iload 12, 2) := by decide +kernel
theorem dL_areJobsRight_377 : decode cL_areJobsRight 377 = .ok (.iconst 5, 1) := by decide +kernel
theorem dL_areJobsRight_378 : decode cL_areJobsRight 378 = .ok (.invokevirtual 112, 3) := by decide +kernel
theorem dL_areJobsRight_381 : decode cL_areJobsRight 381 = .ok (.aload_n 0, 1) := by decide +kernel
theorem dL_areJobsRight_382 : decode cL_areJobsRight 382 = .ok (.iload 4, 2) := by decide +kernel
theorem dL_areJobsRight_384 : decode cL_areJobsRight 384 = .ok (.iload 11, 2) := by decide +kernel
theorem dL_areJobsRight_386 : decode cL_areJobsRight 386 = .ok (.iconst 5, 1) := by decide +kernel
theorem dL_areJobsRight_387 : decode cL_areJobsRight 387 = .ok (.invokevirtual 112, 3) := by decide +kernel
theorem dL_areJobsRight_390 : decode cL_areJobsRight 390 = .ok (.if_icmp .lt 25, 3) := by decide +kernel
theorem dL_areJobsRight_393 : decode cL_areJobsRight 393 = .ok (.aload_n 0, 1) := by decide +kernel
theorem dL_areJobsRight_394 : decode cL_areJobsRight 394 = .ok (.iload 4, 2) := by decide +kernel
theorem dL_areJobsRight_396 : decode cL_areJobsRight 396 = .ok (.iload 12, 2) := by decide +kernel
theorem dL_areJobsRight_398 : decode cL_areJobsRight 398 = .ok (.bipush 6, 2) := by decide +kernel
theorem dL_areJobsRight_400 : decode cL_areJobsRight 400 = .ok (.invokevirtual 112, 3) := by decide +kernel
theorem dL_areJobsRight_403 : decode cL_areJobsRight 403 = .ok (.aload_n 0, 1) := by decide +kernel
theorem dL_areJobsRight_404 : decode cL_areJobsRight 404 = .ok (.iload 4, 2) := by decide +kernel
theorem dL_areJobsRight_406 : decode cL_areJobsRight 406 = .ok (.iload 12, 2) := by decide +kernel
theorem dL_areJobsRight_408 : decode cL_areJobsRight 408 = .ok (.iconst 5, 1) := by decide +kernel
theorem dL_areJobsRight_409 : decode cL_areJobsRight 409 = .ok (.invokevirtual 112, 3) := by decide +kernel
theorem dL_areJobsRight_412 : decode cL_areJobsRight 412 = .ok (.if_icmp .ge 5, 3) := by decide +kernel
theorem dL_areJobsRight_415 : decode cL_areJobsRight 415 = .ok (.iconst 0, 1) := by decide +kernel
theorem dL_areJobsRight_416 : decode cL_areJobsRight 416 = .ok (.ireturn, 1) := by decide +kernel
theorem dL_areJobsRight_417 : decode cL_areJobsRight 417 = .ok (.iinc 12 1, 3) := by decide +kernel
theorem dL_areJobsRight_420 : decode cL_areJobsRight 420 = .ok (.goto (-54), 3) := by decide +kernel
theorem dL_areJobsRight_423 : decode cL_areJobsRight 423 = .ok (.iinc 4 1, 3) := by decide +kernel
theorem dL_areJobsRight_426 : decode cL_areJobsRight 426 = .ok (.goto (-415), 3) := by decide +kernel
theorem dL_areJobsRight_429 : decode cL_areJobsRight 429 = .ok (.iconst 0, 1) := by decide +kernel
theorem dL_areJobsRight_430 : decode cL_areJobsRight 430 = .ok (.istore 4, 2) := by decide +kernel
theorem dL_areJobsRight_432 : decode cL_areJobsRight 432 = .ok (.iload 4, 2) := by decide +kernel
theorem dL_areJobsRight_434 : decode cL_areJobsRight 434 = .ok (.iconst 4, 1) := by decide +kernel
theorem dL_areJobsRight_435 : decode cL_areJobsRight 435 = .ok (.if_icmp .ge 26, 3) := by decide +kernel
theorem dL_areJobsRight_438 : decode cL_areJobsRight 438 = .ok (.aload_n 0, 1) := by decide +kernel
theorem dL_areJobsRight_439 : decode cL_areJobsRight 439 = .ok (.iconst 1, 1) := by decide +kernel
theorem dL_areJobsRight_440 : decode cL_areJobsRight 440 = .ok (.iload 4, 2) := by decide +kernel
theorem dL_areJobsRight_442 : decode cL_areJobsRight 442 = .ok (.iadd, 1) := by decide +kernel
theorem dL_areJobsRight_443 : decode cL_areJobsRight 443 = .ok (.invokevirtual 18, 3) := by decide +kernel
theorem dL_areJobsRight_446 : decode cL_areJobsRight 446 = .ok (.aload_n 1, 1) := by decide +kernel
theorem dL_areJobsRight_447 : decode cL_areJobsRight 447 = .ok (.iload 4, 2) := by decide +kernel
theorem dL_areJobsRight_449 : decode cL_areJobsRight 449 = .ok (.iaload, 1) := by decide +kernel
theorem dL_areJobsRight_450 : decode cL_areJobsRight 450 = .ok (.if_icmp .eq 5, 3) := by decide +kernel
theorem dL_areJobsRight_453 : decode cL_areJobsRight 453 = .ok (.iconst 0, 1) := by decide +kernel
theorem dL_areJobsRight_454 : decode cL_areJobsRight 454 = .ok (.ireturn, 1) := by decide +kernel
theorem dL_areJobsRight_455 : decode cL_areJobsRight 455 = .ok (.iinc 4 1, 3) := by decide +kernel
theorem dL_areJobsRight_458 : decode cL_areJobsRight 458 = .ok (.goto (-26), 3) := by decide +kernel
theorem dL_areJobsRight_461 : decode cL_areJobsRight 461 = .ok (.aload_n 0, 1) := by decide +kernel
theorem dL_areJobsRight_462 : decode cL_areJobsRight 462 = .ok (.bipush 7, 2) := by decide +kernel
theorem dL_areJobsRight_464 : decode cL_areJobsRight 464 = .ok (.invokevirtual 18, 3) := by decide +kernel
theorem dL_areJobsRight_467 : decode cL_areJobsRight 467 = .ok (.iload_n 2, 1) := by decide +kernel
theorem dL_areJobsRight_468 : decode cL_areJobsRight 468 = .ok (.if_icmp .ne 17, 3) := by decide +kernel
theorem dL_areJobsRight_471 : decode cL_areJobsRight 471 = .ok (.aload_n 0, 1) := by decide +kernel
theorem dL_areJobsRight_472 : decode cL_areJobsRight 472 = .ok (.bipush 6, 2) := by decide +kernel
theorem dL_areJobsRight_474 : decode cL_areJobsRight 474 = .ok (.invokevirtual 18, 3) := by decide +kernel
theorem dL_areJobsRight_477 : decode cL_areJobsRight 477 = .ok (.iload_n 3, 1) := by decide +kernel
theorem dL_areJobsRight_478 : decode cL_areJobsRight 478 = .ok (.if_icmp .ne 7, 3) := by decide +kernel
theorem dL_areJobsRight_481 : decode cL_areJobsRight 481 = .ok (.iconst 1, 1) := by decide +kernel
theorem dL_areJobsRight_482 : decode cL_areJobsRight 482 = .ok (.goto 4, 3) := by decide +kernel
theorem dL_areJobsRight_485 : decode cL_areJobsRight 485 = .ok (.iconst 0, 1) := by decide +kernel
theorem dL_areJobsRight_486 : decode cL_areJobsRight 486 = .ok (.ireturn, 1) := by decide +kernel
theorem dL_arePressesRight_0 : decode cL_arePressesRight 0 = .ok (.iconst 0, 1) := by decide +kernel
theorem dL_arePressesRight_1 : decode cL_arePressesRight 1 = .ok (.istore_n 1, 1) := by decide +kernel
theorem dL_arePressesRight_2 : decode cL_arePressesRight 2 = .ok (.iconst 0, 1) := by decide +kernel
theorem dL_arePressesRight_3 : decode cL_arePressesRight 3 = .ok (.istore_n 2, 1) := by decide +kernel
theorem dL_arePressesRight_4 : decode cL_arePressesRight 4 = .ok (.iload_n 2, 1) := by decide +kernel
theorem dL_arePressesRight_5 : decode cL_arePressesRight 5 = .ok (.iconst 3, 1) := by decide +kernel
theorem dL_arePressesRight_6 : decode cL_arePressesRight 6 = .ok (.if_icmp .ge 163, 3) := by decide +kernel
theorem dL_arePressesRight_9 : decode cL_arePressesRight 9 = .ok (.iload_n 1, 1) := by decide +kernel
theorem dL_arePressesRight_10 : decode cL_arePressesRight 10 = .ok (.aload_n 0, 1) := by decide +kernel
theorem dL_arePressesRight_11 : decode cL_arePressesRight 11 = .ok (.iload_n 2, 1) := by decide +kernel
theorem dL_arePressesRight_12 : decode cL_arePressesRight 12 = .ok (.iconst 5, 1) := by decide +kernel
theorem dL_arePressesRight_13 : decode cL_arePressesRight 13 = .ok (.invokevirtual 60, 3) := by decide +kernel
theorem dL_arePressesRight_16 : decode cL_arePressesRight 16 = .ok (.iadd, 1) := by decide +kernel
theorem dL_arePressesRight_17 : decode cL_arePressesRight 17 = .ok (.istore_n 1, 1) := by decide +kernel
theorem dL_arePressesRight_18 : decode cL_arePressesRight 18 = .ok (.iconst 2, 1) := by decide +kernel
theorem dL_arePressesRight_19 : decode cL_arePressesRight 19 = .ok (.istore_n 3, 1) := by decide +kernel
theorem dL_arePressesRight_20 : decode cL_arePressesRight 20 = .ok (.iload_n 3, 1) := by decide +kernel
theorem dL_arePressesRight_21 : decode cL_arePressesRight 21 = .ok (.iconst 4, 1) := by decide +kernel
theorem dL_arePressesRight_22 : decode cL_arePressesRight 22 = .ok (.if_icmp .ge 33, 3) := by decide +kernel
theorem dL_arePressesRight_25 : decode cL_arePressesRight 25 = .ok (.aload_n 0, 1) := by decide +kernel
theorem dL_arePressesRight_26 : decode cL_arePressesRight 26 = .ok (.iload_n 2, 1) := by decide +kernel
theorem dL_arePressesRight_27 : decode cL_arePressesRight 27 = .ok (.iload_n 3, 1) := by decide +kernel
theorem dL_arePressesRight_28 : decode cL_arePressesRight 28 = .ok (.invokevirtual 60, 3) := by decide +kernel
theorem dL_arePressesRight_31 : decode cL_arePressesRight 31 = .ok (.iconst 1, 1) := by decide +kernel
theorem dL_arePressesRight_32 : decode cL_arePressesRight 32 = .ok (.if_icmp .lt 15, 3) := by decide +kernel
theorem dL_arePressesRight_35 : decode cL_arePressesRight 35 = .ok (.aload_n 0, 1) := by decide +kernel
theorem dL_arePressesRight_36 : decode cL_arePressesRight 36 = .ok (.iload_n 2, 1) := by decide +kernel
theorem dL_arePressesRight_37 : decode cL_arePressesRight 37 = .ok (.iload_n 3, 1) := by decide +kernel
theorem dL_arePressesRight_38 : decode cL_arePressesRight 38 = .ok (.invokevirtual 60, 3) := by decide +kernel
theorem dL_arePressesRight_41 : decode cL_arePressesRight 41 = .ok (.sipush 999, 3) := by decide +kernel
theorem dL_arePressesRight_44 : decode cL_arePressesRight 44 = .ok (.if_icmp .le 5, 3) := by decide +kernel
theorem dL_arePressesRight_47 : decode cL_arePressesRight 47 = .ok (.iconst 0, 1) := by decide +kernel
theorem dL_arePressesRight_48 : decode cL_arePressesRight 48 = .ok (.ireturn, 1) := by decide +kernel
theorem dL_arePressesRight_49 : decode cL_arePressesRight 49 = .ok (.iinc 3 1, 3) := by decide +kernel
theorem dL_arePressesRight_52 : decode cL_arePressesRight 52 = .ok (.goto (-32), 3) := by decide +kernel
theorem dL_arePressesRight_55 : decode cL_arePressesRight 55 = .ok (.aload_n 0, 1) := by decide +kernel
theorem dL_arePressesRight_56 : decode cL_arePressesRight 56 = .ok (.iload_n 2, 1) := by decide +kernel
theorem dL_arePressesRight_57 : decode cL_arePressesRight 57 = .ok (.iconst 0, 1) := by decide +kernel
theorem dL_arePressesRight_58 : decode cL_arePressesRight 58 = .ok (.invokevirtual 60, 3) := by decide +kernel
theorem dL_arePressesRight_61 : decode cL_arePressesRight 61 = .ok (.iconst 1, 1) := by decide +kernel
theorem dL_arePressesRight_62 : decode cL_arePressesRight 62 = .ok (.if_icmp .lt 66, 3) := by decide +kernel
theorem dL_arePressesRight_65 : decode cL_arePressesRight 65 = .ok (.aload_n 0, 1) := by decide +kernel
theorem dL_arePressesRight_66 : decode cL_arePressesRight 66 = .ok (.iload_n 2, 1) := by decide +kernel
theorem dL_arePressesRight_67 : decode cL_arePressesRight 67 = .ok (.iconst 0, 1) := by decide +kernel
theorem dL_arePressesRight_68 : decode cL_arePressesRight 68 = .ok (.invokevirtual 60, 3) := by decide +kernel
theorem dL_arePressesRight_71 : decode cL_arePressesRight 71 = .ok (.iconst 4, 1) := by decide +kernel
theorem dL_arePressesRight_72 : decode cL_arePressesRight 72 = .ok (.if_icmp .gt 56, 3) := by decide +kernel
theorem dL_arePressesRight_75 : decode cL_arePressesRight 75 = .ok (.aload_n 0, 1) := by decide +kernel
theorem dL_arePressesRight_76 : decode cL_arePressesRight 76 = .ok (.iload_n 2, 1) := by decide +kernel
theorem dL_arePressesRight_77 : decode cL_arePressesRight 77 = .ok (.iconst 4, 1) := by decide +kernel
theorem dL_arePressesRight_78 : decode cL_arePressesRight 78 = .ok (.invokevirtual 60, 3) := by decide +kernel
theorem dL_arePressesRight_81 : decode cL_arePressesRight 81 = .ok (.ifCond .lt 47, 3) := by decide +kernel
theorem dL_arePressesRight_84 : decode cL_arePressesRight 84 = .ok (.aload_n 0, 1) := by decide +kernel
theorem dL_arePressesRight_85 : decode cL_arePressesRight 85 = .ok (.iload_n 2, 1) := by decide +kernel
theorem dL_arePressesRight_86 : decode cL_arePressesRight 86 = .ok (.iconst 4, 1) := by decide +kernel
theorem dL_arePressesRight_87 : decode cL_arePressesRight 87 = .ok (.invokevirtual 60, 3) := by decide +kernel
theorem dL_arePressesRight_90 : decode cL_arePressesRight 90 = .ok (.sipush 999, 3) := by decide +kernel
theorem dL_arePressesRight_93 : decode cL_arePressesRight 93 = .ok (.if_icmp .gt 35, 3) := by decide +kernel
theorem dL_arePressesRight_96 : decode cL_arePressesRight 96 = .ok (.aload_n 0, 1) := by decide +kernel
theorem dL_arePressesRight_97 : decode cL_arePressesRight 97 = .ok (.iload_n 2, 1) := by decide +kernel
theorem dL_arePressesRight_98 : decode cL_arePressesRight 98 = .ok (.iconst 5, 1) := by decide +kernel
theorem dL_arePressesRight_99 : decode cL_arePressesRight 99 = .ok (.invokevirtual 60, 3) := by decide +kernel
theorem dL_arePressesRight_102 : decode cL_arePressesRight 102 = .ok (.ifCond .ne 7, 3) := by decide +kernel
theorem dL_arePressesRight_105 : decode cL_arePressesRight 105 = .ok (.iconst 1, 1) := by decide +kernel
theorem dL_arePressesRight_106 : decode cL_arePressesRight 106 = .ok (.goto 4, 3) := by decide +kernel
theorem dL_arePressesRight_109 : decode cL_arePressesRight 109 = .ok (.iconst 0, 1) := by decide +kernel
theorem dL_arePressesRight_110 : decode cL_arePressesRight 110 = .ok (.aload_n 0, 1) := by decide +kernel
theorem dL_arePressesRight_111 : decode cL_arePressesRight 111 = .ok (.iload_n 2, 1) := by decide +kernel
theorem dL_arePressesRight_112 : decode cL_arePressesRight 112 = .ok (.bipush 6, 2) := by decide +kernel
theorem dL_arePressesRight_114 : decode cL_arePressesRight 114 = .ok (.invokevirtual 60, 3) := by decide +kernel
theorem dL_arePressesRight_117 : decode cL_arePressesRight 117 = .ok (.ifCond .ne 7, 3) := by decide +kernel
theorem dL_arePressesRight_120 : decode cL_arePressesRight 120 = .ok (.iconst 1, 1) := by decide +kernel
theorem dL_arePressesRight_121 : decode cL_arePressesRight 121 = .ok (.goto 4, 3) := by decide +kernel
theorem dL_arePressesRight_124 : decode cL_arePressesRight 124 = .ok (.iconst 0, 1) := by decide +kernel
theorem dL_arePressesRight_125 : decode cL_arePressesRight 125 = .ok (.if_icmp .eq 5, 3) := by decide +kernel
theorem dL_arePressesRight_128 : decode cL_arePressesRight 128 = .ok (.iconst 0, 1) := by decide +kernel
theorem dL_arePressesRight_129 : decode cL_arePressesRight 129 = .ok (.ireturn, 1) := by decide +kernel
theorem dL_arePressesRight_130 : decode cL_arePressesRight 130 = .ok (.aload_n 0, 1) := by decide +kernel
theorem dL_arePressesRight_131 : decode cL_arePressesRight 131 = .ok (.iload_n 2, 1) := by decide +kernel
theorem dL_arePressesRight_132 : decode cL_arePressesRight 132 = .ok (.iconst 5, 1) := by decide +kernel
theorem dL_arePressesRight_133 : decode cL_arePressesRight 133 = .ok (.invokevirtual 60, 3) := by decide +kernel
theorem dL_arePressesRight_136 : decode cL_arePressesRight 136 = .ok (.ifCond .le 27, 3) := by decide +kernel
theorem dL_arePressesRight_139 : decode cL_arePressesRight 139 = .ok (.aload_n 0, 1) := by decide +kernel
theorem dL_arePressesRight_140 : decode cL_arePressesRight 140 = .ok (.iload_n 2, 1) := by decide +kernel
theorem dL_arePressesRight_141 : decode cL_arePressesRight 141 = .ok (.bipush 6, 2) := by decide +kernel
theorem dL_arePressesRight_143 : decode cL_arePressesRight 143 = .ok (.invokevirtual 60, 3) := by decide +kernel
theorem dL_arePressesRight_146 : decode cL_arePressesRight 146 = .ok (.aload_n 0, 1) := by decide +kernel
theorem dL_arePressesRight_147 : decode cL_arePressesRight 147 = .ok (.aload_n 0, 1) := by decide +kernel
theorem dL_arePressesRight_148 : decode cL_arePressesRight 148 = .ok (.iload_n 2, 1) := by decide +kernel
theorem dL_arePressesRight_149 : decode cL_arePressesRight 149 = .ok (.iconst 0, 1) := by decide +kernel
theorem dL_arePressesRight_150 : decode cL_arePressesRight 150 = .ok (.invokevirtual 63, 3) := by decide +kernel
theorem dL_arePressesRight_153 : decode cL_arePressesRight 153 = .ok (.iload_n 2, 1) := by decide +kernel
theorem dL_arePressesRight_154 : decode cL_arePressesRight 154 = .ok (.iconst 4, 1) := by decide +kernel
theorem dL_arePressesRight_155 : decode cL_arePressesRight 155 = .ok (.invokevirtual 112, 3) := by decide +kernel
theorem dL_arePressesRight_158 : decode cL_arePressesRight 158 = .ok (.if_icmp .ge 5, 3) := by decide +kernel
theorem dL_arePressesRight_161 : decode cL_arePressesRight 161 = .ok (.iconst 0, 1) := by decide +kernel
theorem dL_arePressesRight_162 : decode cL_arePressesRight 162 = .ok (.ireturn, 1) := by decide +kernel
theorem dL_arePressesRight_163 : decode cL_arePressesRight 163 = .ok (.iinc 2 1, 3) := by decide +kernel
theorem dL_arePressesRight_166 : decode cL_arePressesRight 166 = .ok (.goto (-162), 3) := by decide +kernel
theorem dL_arePressesRight_169 : decode cL_arePressesRight 169 = .ok (.iload_n 1, 1) := by decide +kernel
theorem dL_arePressesRight_170 : decode cL_arePressesRight 170 = .ok (.aload_n 0, 1) := by decide +kernel
theorem dL_arePressesRight_171 : decode cL_arePressesRight 171 = .ok (.iconst 2, 1) := by decide +kernel
theorem dL_arePressesRight_172 : decode cL_arePressesRight 172 = .ok (.invokevirtual 18, 3) := by decide +kernel
theorem dL_arePressesRight_175 : decode cL_arePressesRight 175 = .ok (.if_icmp .ne 36, 3) := by decide +kernel
theorem dL_arePressesRight_178 : decode cL_arePressesRight 178 = .ok (.aload_n 0, 1) := by decide +kernel
theorem dL_arePressesRight_179 : decode cL_arePressesRight 179 = .ok (.bipush 9, 2) := by decide +kernel
theorem dL_arePressesRight_181 : decode cL_arePressesRight 181 = .ok (.invokevirtual 18, 3) := by decide +kernel
theorem dL_arePressesRight_184 : decode cL_arePressesRight 184 = .ok (.aload_n 0, 1) := by decide +kernel
theorem dL_arePressesRight_185 : decode cL_arePressesRight 185 = .ok (.iconst 3, 1) := by decide +kernel
theorem dL_arePressesRight_186 : decode cL_arePressesRight 186 = .ok (.invokevirtual 18, 3) := by decide +kernel
theorem dL_arePressesRight_189 : decode cL_arePressesRight 189 = .ok (.aload_n 0, 1) := by decide +kernel
theorem dL_arePressesRight_190 : decode cL_arePressesRight 190 = .ok (.iconst 4, 1) := by decide +kernel
theorem dL_arePressesRight_191 : decode cL_arePressesRight 191 = .ok (.invokevirtual 18, 3) := by decide +kernel
theorem dL_arePressesRight_194 : decode cL_arePressesRight 194 = .ok (.iadd, 1) := by decide +kernel
theorem dL_arePressesRight_195 : decode cL_arePressesRight 195 = .ok (.if_icmp .lt 16, 3) := by decide +kernel
theorem dL_arePressesRight_198 : decode cL_arePressesRight 198 = .ok (.aload_n 0, 1) := by decide +kernel
theorem dL_arePressesRight_199 : decode cL_arePressesRight 199 = .ok (.bipush 10, 2) := by decide +kernel
theorem dL_arePressesRight_201 : decode cL_arePressesRight 201 = .ok (.invokevirtual 18, 3) := by decide +kernel
theorem dL_arePressesRight_204 : decode cL_arePressesRight 204 = .ok (.ifCond .lt 7, 3) := by decide +kernel
theorem dL_arePressesRight_207 : decode cL_arePressesRight 207 = .ok (.iconst 1, 1) := by decide +kernel
theorem dL_arePressesRight_208 : decode cL_arePressesRight 208 = .ok (.goto 4, 3) := by decide +kernel
theorem dL_arePressesRight_211 : decode cL_arePressesRight 211 = .ok (.iconst 0, 1) := by decide +kernel
theorem dL_arePressesRight_212 : decode cL_arePressesRight 212 = .ok (.ireturn, 1) := by decide +kernel
theorem dL_arePapersRight_0 : decode cL_arePapersRight 0 = .ok (.iconst 0, 1) := by decide +kernel
theorem dL_arePapersRight_1 : decode cL_arePapersRight 1 = .ok (.istore_n 2, 1) := by decide +kernel
theorem dL_arePapersRight_2 : decode cL_arePapersRight 2 = .ok (.iconst 0, 1) := by decide +kernel
theorem dL_arePapersRight_3 : decode cL_arePapersRight 3 = .ok (.istore_n 3, 1) := by decide +kernel
theorem dL_arePapersRight_4 : decode cL_arePapersRight 4 = .ok (.iload_n 3, 1) := by decide +kernel
theorem dL_arePapersRight_5 : decode cL_arePapersRight 5 = .ok (.iconst 4, 1) := by decide +kernel
theorem dL_arePapersRight_6 : decode cL_arePapersRight 6 = .ok (.if_icmp .ge 158, 3) := by decide +kernel
theorem dL_arePapersRight_9 : decode cL_arePapersRight 9 = .ok (.aload_n 0, 1) := by decide +kernel
theorem dL_arePapersRight_10 : decode cL_arePapersRight 10 = .ok (.iload_n 3, 1) := by decide +kernel
theorem dL_arePapersRight_11 : decode cL_arePapersRight 11 = .ok (.iconst 3, 1) := by decide +kernel
theorem dL_arePapersRight_12 : decode cL_arePapersRight 12 = .ok (.invokevirtual 69, 3) := by decide +kernel
theorem dL_arePapersRight_15 : decode cL_arePapersRight 15 = .ok (.istore 4, 2) := by decide +kernel
theorem dL_arePapersRight_17 : decode cL_arePapersRight 17 = .ok (.aload_n 0, 1) := by decide +kernel
theorem dL_arePapersRight_18 : decode cL_arePapersRight 18 = .ok (.iload_n 3, 1) := by decide +kernel
theorem dL_arePapersRight_19 : decode cL_arePapersRight 19 = .ok (.iconst 4, 1) := by decide +kernel
theorem dL_arePapersRight_20 : decode cL_arePapersRight 20 = .ok (.invokevirtual 69, 3) := by decide +kernel
theorem dL_arePapersRight_23 : decode cL_arePapersRight 23 = .ok (.istore 5, 2) := by decide +kernel
theorem dL_arePapersRight_25 : decode cL_arePapersRight 25 = .ok (.iload_n 2, 1) := by decide +kernel
theorem dL_arePapersRight_26 : decode cL_arePapersRight 26 = .ok (.iload 4, 2) := by decide +kernel
theorem dL_arePapersRight_28 : decode cL_arePapersRight 28 = .ok (.aload_n 0, 1) := by decide +kernel
theorem dL_arePapersRight_29 : decode cL_arePapersRight 29 = .ok (.iload_n 3, 1) := by decide +kernel
theorem dL_arePapersRight_30 : decode cL_arePapersRight 30 = .ok (.iconst 2, 1) := by decide +kernel
theorem dL_arePapersRight_31 : decode cL_arePapersRight 31 = .ok (.invokevirtual 69, 3) := by decide +kernel
theorem dL_arePapersRight_34 : decode cL_arePapersRight 34 = .ok (.imul, 1) := by decide +kernel
theorem dL_arePapersRight_35 : decode cL_arePapersRight 35 = .ok (.iadd, 1) := by decide +kernel
theorem dL_arePapersRight_36 : decode cL_arePapersRight 36 = .ok (.istore_n 2, 1) := by decide +kernel
theorem dL_arePapersRight_37 : decode cL_arePapersRight 37 = .ok (.iload 4, 2) := by decide +kernel
theorem dL_arePapersRight_39 : decode cL_arePapersRight 39 = .ok (.ifCond .lt 28, 3) := by decide +kernel
theorem dL_arePapersRight_42 : decode cL_arePapersRight 42 = .ok (.iload 4, 2) := by decide +kernel
theorem dL_arePapersRight_44 : decode cL_arePapersRight 44 = .ok (.ldc 118, 2) := by decide +kernel
theorem dL_arePapersRight_46 : decode cL_arePapersRight 46 = .ok (.if_icmp .gt 21, 3) := by decide +kernel
theorem dL_arePapersRight_49 : decode cL_arePapersRight 49 = .ok (.aload_n 0, 1) := by decide +kernel
theorem dL_arePapersRight_50 : decode cL_arePapersRight 50 = .ok (.iload_n 3, 1) := by decide +kernel
theorem dL_arePapersRight_51 : decode cL_arePapersRight 51 = .ok (.iconst 5, 1) := by decide +kernel
theorem dL_arePapersRight_52 : decode cL_arePapersRight 52 = .ok (.invokevirtual 69, 3) := by decide +kernel
theorem dL_arePapersRight_55 : decode cL_arePapersRight 55 = .ok (.iconst 0, 1) := by decide +kernel
theorem dL_arePapersRight_56 : decode cL_arePapersRight 56 = .ok (.iload 5, 2) := by decide +kernel
theorem dL_arePapersRight_58 : decode cL_arePapersRight 58 = .ok (.iload 4, 2) := by decide +kernel
theorem dL_arePapersRight_60 : decode cL_arePapersRight 60 = .ok (.isub, 1) := by decide +kernel
theorem dL_arePapersRight_61 : decode cL_arePapersRight 61 = .ok (.invokestatic 22, 3) := by decide +kernel
theorem dL_arePapersRight_64 : decode cL_arePapersRight 64 = .ok (.if_icmp .eq 5, 3) := by decide +kernel
theorem dL_arePapersRight_67 : decode cL_arePapersRight 67 = .ok (.iconst 0, 1) := by decide +kernel
theorem dL_arePapersRight_68 : decode cL_arePapersRight 68 = .ok (.ireturn, 1) := by decide +kernel
theorem dL_arePapersRight_69 : decode cL_arePapersRight 69 = .ok (.iconst 0, 1) := by decide +kernel
theorem dL_arePapersRight_70 : decode cL_arePapersRight 70 = .ok (.istore 6, 2) := by decide +kernel
theorem dL_arePapersRight_72 : decode cL_arePapersRight 72 = .ok (.iconst 0, 1) := by decide +kernel
theorem dL_arePapersRight_73 : decode cL_arePapersRight 73 = .ok (.istore 7, 2) := by decide +kernel
theorem dL_arePapersRight_75 : decode cL_arePapersRight 75 = .ok (.iload 7, 2) := by decide +kernel
theorem dL_arePapersRight_77 : decode cL_arePapersRight 77 = .ok (.iconst 3, 1) := by decide +kernel
theorem dL_arePapersRight_78 : decode cL_arePapersRight 78 = .ok (.if_icmp .ge 71, 3) := by decide +kernel
theorem dL_arePapersRight_81 : decode cL_arePapersRight 81 = .ok (.iconst 0, 1) := by decide +kernel
theorem dL_arePapersRight_82 : decode cL_arePapersRight 82 = .ok (.istore 8, 2) := by decide +kernel
theorem dL_arePapersRight_84 : decode cL_arePapersRight 84 = .ok (.iload 8, 2) := by decide +kernel
theorem dL_arePapersRight_86 : decode cL_arePapersRight 86 = .ok (.aload_n 0, 1) := by decide +kernel
theorem dL_arePapersRight_87 : decode cL_arePapersRight 87 = .ok (.iload 7, 2) := by decide +kernel
theorem dL_arePapersRight_89 : decode cL_arePapersRight 89 = .ok (.iconst 5, 1) := by decide +kernel
theorem dL_arePapersRight_90 : decode cL_arePapersRight 90 = .ok (.invokevirtual 60, 3) := by decide +kernel
theorem dL_arePapersRight_93 : decode cL_arePapersRight 93 = .ok (.if_icmp .ge 50, 3) := by decide +kernel
theorem dL_arePapersRight_96 : decode cL_arePapersRight 96 = .ok (.iload 6, 2) := by decide +kernel
theorem dL_arePapersRight_98 : decode cL_arePapersRight 98 = .ok (.aload_n 0, 1) := by decide +kernel
theorem dL_arePapersRight_99 : decode cL_arePapersRight 99 = .ok (.aload_n 0, 1) := by decide +kernel
theorem dL_arePapersRight_100 : decode cL_arePapersRight 100 = .ok (.iload 7, 2) := by decide +kernel
theorem dL_arePapersRight_102 : decode cL_arePapersRight 102 = .ok (.iload 8, 2) := by decide +kernel
theorem dL_arePapersRight_104 : decode cL_arePapersRight 104 = .ok (.invokevirtual 63, 3) := by decide +kernel
theorem dL_arePapersRight_107 : decode cL_arePapersRight 107 = .ok (.iconst 0, 1) := by decide +kernel
theorem dL_arePapersRight_108 : decode cL_arePapersRight 108 = .ok (.invokevirtual 57, 3) := by decide +kernel
theorem dL_arePapersRight_111 : decode cL_arePapersRight 111 = .ok (.iload_n 3, 1) := by decide +kernel
theorem dL_arePapersRight_112 : decode cL_arePapersRight 112 = .ok (.if_icmp .ne 21, 3) := by decide +kernel
theorem dL_arePapersRight_115 : decode cL_arePapersRight 115 = .ok (.aload_n 0, 1) := by decide +kernel
theorem dL_arePapersRight_116 : decode cL_arePapersRight 116 = .ok (.aload_n 0, 1) := by decide +kernel
theorem dL_arePapersRight_117 : decode cL_arePapersRight 117 = .ok (.iload 7, 2) := by decide +kernel
theorem dL_arePapersRight_119 : decode cL_arePapersRight 119 = .ok (.iload 8, 2) := by decide +kernel
theorem dL_arePapersRight_121 : decode cL_arePapersRight 121 = .ok (.invokevirtual 63, 3) := by decide +kernel
theorem dL_arePapersRight_124 : decode cL_arePapersRight 124 = .ok (.iload 7, 2) := by decide +kernel
theorem dL_arePapersRight_126 : decode cL_arePapersRight 126 = .ok (.iconst 3, 1) := by decide +kernel
theorem dL_arePapersRight_127 : decode cL_arePapersRight 127 = .ok (.invokevirtual 112, 3) := by decide +kernel
theorem dL_arePapersRight_130 : decode cL_arePapersRight 130 = .ok (.goto 4, 3) := by decide +kernel
theorem dL_arePapersRight_133 : decode cL_arePapersRight 133 = .ok (.iconst 0, 1) := by decide +kernel
theorem dL_arePapersRight_134 : decode cL_arePapersRight 134 = .ok (.iadd, 1) := by decide +kernel
theorem dL_arePapersRight_135 : decode cL_arePapersRight 135 = .ok (.istore 6, 2) := by decide +kernel
theorem dL_arePapersRight_137 : decode cL_arePapersRight 137 = .ok (.iinc 8 1, 3) := by decide +kernel
theorem dL_arePapersRight_140 : decode cL_arePapersRight 140 = .ok (.goto (-56), 3) := by decide +kernel
theorem dL_arePapersRight_143 : decode cL_arePapersRight 143 = .ok (.iinc 7 1, 3) := by decide +kernel
theorem dL_arePapersRight_146 : decode cL_arePapersRight 146 = .ok (.goto (-71), 3) := by decide +kernel
theorem dL_arePapersRight_149 : decode cL_arePapersRight 149 = .ok (.iload 6, 2) := by decide +kernel
theorem dL_arePapersRight_151 : decode cL_arePapersRight 151 = .ok (.iload 5, 2) := by decide +kernel
theorem dL_arePapersRight_153 : decode cL_arePapersRight 153 = .ok (.if_icmp .eq 5, 3) := by decide +kernel
theorem dL_arePapersRight_156 : decode cL_arePapersRight 156 = .ok (.iconst 0, 1) := by decide +kernel
theorem dL_arePapersRight_157 : decode cL_arePapersRight 157 = .ok (.ireturn, 1) := by decide +kernel
theorem dL_arePapersRight_158 : decode cL_arePapersRight 158 = .ok (.iinc 3 1, 3) := by decide +kernel
theorem dL_arePapersRight_161 : decode cL_arePapersRight 161 = .ok (.goto (-157), 3) := by decide +kernel
theorem dL_arePapersRight_164 : decode cL_arePapersRight 164 = .ok (.aload_n 0, 1) := by decide +kernel
theorem dL_arePapersRight_165 : decode cL_arePapersRight 165 = .ok (.bipush 8, 2) := by decide +kernel
theorem dL_arePapersRight_167 : decode cL_arePapersRight 167 = .ok (.invokevirtual 18, 3) := by decide +kernel
theorem dL_arePapersRight_170 : decode cL_arePapersRight 170 = .ok (.iload_n 2, 1) := by decide +kernel
theorem dL_arePapersRight_171 : decode cL_arePapersRight 171 = .ok (.if_icmp .ne 34, 3) := by decide +kernel
theorem dL_arePapersRight_174 : decode cL_arePapersRight 174 = .ok (.iload_n 1, 1) := by decide +kernel
theorem dL_arePapersRight_175 : decode cL_arePapersRight 175 = .ok (.ifCond .eq 26, 3) := by decide +kernel
theorem dL_arePapersRight_178 : decode cL_arePapersRight 178 = .ok (.aload_n 0, 1) := by decide +kernel
theorem dL_arePapersRight_179 : decode cL_arePapersRight 179 = .ok (.iconst 5, 1) := by decide +kernel
theorem dL_arePapersRight_180 : decode cL_arePapersRight 180 = .ok (.invokevirtual 18, 3) := by decide +kernel
theorem dL_arePapersRight_183 : decode cL_arePapersRight 183 = .ok (.iload_n 2, 1) := by decide +kernel
theorem dL_arePapersRight_184 : decode cL_arePapersRight 184 = .ok (.iadd, 1) := by decide +kernel
theorem dL_arePapersRight_185 : decode cL_arePapersRight 185 = .ok (.aload_n 0, 1) := by decide +kernel
theorem dL_arePapersRight_186 : decode cL_arePapersRight 186 = .ok (.bipush 6, 2) := by decide +kernel
theorem dL_arePapersRight_188 : decode cL_arePapersRight 188 = .ok (.invokevirtual 18, 3) := by decide +kernel
theorem dL_arePapersRight_191 : decode cL_arePapersRight 191 = .ok (.aload_n 0, 1) := by decide +kernel
theorem dL_arePapersRight_192 : decode cL_arePapersRight 192 = .ok (.bipush 7, 2) := by decide +kernel
theorem dL_arePapersRight_194 : decode cL_arePapersRight 194 = .ok (.invokevirtual 18, 3) := by decide +kernel
theorem dL_arePapersRight_197 : decode cL_arePapersRight 197 = .ok (.isub, 1) := by decide +kernel
theorem dL_arePapersRight_198 : decode cL_arePapersRight 198 = .ok (.if_icmp .ne 7, 3) := by decide +kernel
theorem dL_arePapersRight_201 : decode cL_arePapersRight 201 = .ok (.iconst 1, 1) := by decide +kernel
theorem dL_arePapersRight_202 : decode cL_arePapersRight 202 = .ok (.goto 4, 3) := by decide +kernel
theorem dL_arePapersRight_205 : decode cL_arePapersRight 205 = .ok (.iconst 0, 1) := by decide +kernel
theorem dL_arePapersRight_206 : decode cL_arePapersRight 206 = .ok (.ireturn, 1) := by decide +kernel
