/-! decode rows, by program -/
theorem dX_addCode_0 : decode (zby mX_addCode) 0 = .ok (.aload_n 0, 1) := by decide +kernel
theorem dX_addCode_1 : decode (zby mX_addCode) 1 = .ok (.iconst 1, 1) := by decide +kernel
theorem dX_addCode_2 : decode (zby mX_addCode) 2 = .ok (.iload_n 1, 1) := by decide +kernel
theorem dX_addCode_3 : decode (zby mX_addCode) 3 = .ok (.iload_n 2, 1) := by decide +kernel
theorem dX_addCode_4 : decode (zby mX_addCode) 4 = .ok (.invokevirtual 75, 3) := by decide +kernel
theorem dX_addCode_7 : decode (zby mX_addCode) 7 = .ok (.ireturn, 1) := by decide +kernel
theorem dX_addEntry_0 : decode (zby mX_addEntry) 0 = .ok (.aload_n 0, 1) := by decide +kernel
theorem dX_addEntry_1 : decode (zby mX_addEntry) 1 = .ok (.iconst 0, 1) := by decide +kernel
theorem dX_addEntry_2 : decode (zby mX_addEntry) 2 = .ok (.iload_n 1, 1) := by decide +kernel
theorem dX_addEntry_3 : decode (zby mX_addEntry) 3 = .ok (.iconst 0, 1) := by decide +kernel
theorem dX_addEntry_4 : decode (zby mX_addEntry) 4 = .ok (.invokevirtual 75, 3) := by decide +kernel
theorem dX_addEntry_7 : decode (zby mX_addEntry) 7 = .ok (.ireturn, 1) := by decide +kernel
theorem dX_addedTotal_0 : decode (zby mX_addedTotal) 0 = .ok (.aload_n 0, 1) := by decide +kernel
theorem dX_addedTotal_1 : decode (zby mX_addedTotal) 1 = .ok (.getfield 12, 3) := by decide +kernel
theorem dX_addedTotal_4 : decode (zby mX_addedTotal) 4 = .ok (.getfield 255, 3) := by decide +kernel
theorem dX_addedTotal_7 : decode (zby mX_addedTotal) 7 = .ok (.ireturn, 1) := by decide +kernel
theorem dX_ageOf_0 : decode (zby mX_ageOf) 0 = .ok (.aload_n 0, 1) := by decide +kernel
theorem dX_ageOf_1 : decode (zby mX_ageOf) 1 = .ok (.iload_n 1, 1) := by decide +kernel
theorem dX_ageOf_2 : decode (zby mX_ageOf) 2 = .ok (.invokevirtual 127, 3) := by decide +kernel
theorem dX_ageOf_5 : decode (zby mX_ageOf) 5 = .ok (.getfield 134, 3) := by decide +kernel
theorem dX_ageOf_8 : decode (zby mX_ageOf) 8 = .ok (.ireturn, 1) := by decide +kernel
theorem dX_append_0 : decode (zby mX_append) 0 = .ok (.iload_n 1, 1) := by decide +kernel
theorem dX_append_1 : decode (zby mX_append) 1 = .ok (.bipush 32, 2) := by decide +kernel
theorem dX_append_3 : decode (zby mX_append) 3 = .ok (.if_icmp .lt 9, 3) := by decide +kernel
theorem dX_append_6 : decode (zby mX_append) 6 = .ok (.iload_n 1, 1) := by decide +kernel
theorem dX_append_7 : decode (zby mX_append) 7 = .ok (.bipush 126, 2) := by decide +kernel
theorem dX_append_9 : decode (zby mX_append) 9 = .ok (.if_icmp .le 14, 3) := by decide +kernel
theorem dX_append_12 : decode (zby mX_append) 12 = .ok (.new 100, 3) := by decide +kernel
theorem dX_append_15 : decode (zby mX_append) 15 = .ok (.dup, 1) := by decide +kernel
theorem dX_append_16 : decode (zby mX_append) 16 = .ok (.ldc_w 333, 3) := by decide +kernel
theorem dX_append_19 : decode (zby mX_append) 19 = .ok (.invokespecial 104, 3) := by decide +kernel
theorem dX_append_22 : decode (zby mX_append) 22 = .ok (.athrow, 1) := by decide +kernel
theorem dX_append_23 : decode (zby mX_append) 23 = .ok (.aload_n 0, 1) := by decide +kernel
theorem dX_append_24 : decode (zby mX_append) 24 = .ok (.getfield 43, 3) := by decide +kernel
theorem dX_append_27 : decode (zby mX_append) 27 = .ok (.getfield 335, 3) := by decide +kernel
theorem dX_append_30 : decode (zby mX_append) 30 = .ok (.bipush 60, 2) := by decide +kernel
theorem dX_append_32 : decode (zby mX_append) 32 = .ok (.if_icmp .lt 14, 3) := by decide +kernel
theorem dX_append_35 : decode (zby mX_append) 35 = .ok (.new 110, 3) := by decide +kernel
theorem dX_append_38 : decode (zby mX_append) 38 = .ok (.dup, 1) := by decide +kernel
theorem dX_append_39 : decode (zby mX_append) 39 = .ok (.ldc_w 336, 3) := by decide +kernel
theorem dX_append_42 : decode (zby mX_append) 42 = .ok (.invokespecial 114, 3) := by decide +kernel
theorem dX_append_45 : decode (zby mX_append) 45 = .ok (.athrow, 1) := by decide +kernel
theorem dX_append_46 : decode (zby mX_append) 46 = .ok (.aload_n 0, 1) := by decide +kernel
theorem dX_append_47 : decode (zby mX_append) 47 = .ok (.getfield 43, 3) := by decide +kernel
theorem dX_append_50 : decode (zby mX_append) 50 = .ok (.iload_n 1, 1) := by decide +kernel
theorem dX_append_51 : decode (zby mX_append) 51 = .ok (.invokevirtual 338, 3) := by decide +kernel
theorem dX_append_54 : decode (zby mX_append) 54 = .ok (.ireturn, 1) := by decide +kernel
theorem dX_change_0 : decode (zby mX_change) 0 = .ok (.aload_n 0, 1) := by decide +kernel
theorem dX_change_1 : decode (zby mX_change) 1 = .ok (.getfield 22, 3) := by decide +kernel
theorem dX_change_4 : decode (zby mX_change) 4 = .ok (.aload_n 0, 1) := by decide +kernel
theorem dX_change_5 : decode (zby mX_change) 5 = .ok (.getfield 12, 3) := by decide +kernel
theorem dX_change_8 : decode (zby mX_change) 8 = .ok (.invokevirtual 79, 3) := by decide +kernel
theorem dX_change_11 : decode (zby mX_change) 11 = .ok (.aload_n 0, 1) := by decide +kernel
theorem dX_change_12 : decode (zby mX_change) 12 = .ok (.getfield 12, 3) := by decide +kernel
theorem dX_change_15 : decode (zby mX_change) 15 = .ok (.iload_n 1, 1) := by decide +kernel
theorem dX_change_16 : decode (zby mX_change) 16 = .ok (.iload_n 2, 1) := by decide +kernel
theorem dX_change_17 : decode (zby mX_change) 17 = .ok (.iload_n 3, 1) := by decide +kernel
theorem dX_change_18 : decode (zby mX_change) 18 = .ok (.invokevirtual 83, 3) := by decide +kernel
theorem dX_change_21 : decode (zby mX_change) 21 = .ok (.istore 4, 2) := by decide +kernel
theorem dX_change_23 : decode (zby mX_change) 23 = .ok (.iload 4, 2) := by decide +kernel
theorem dX_change_25 : decode (zby mX_change) 25 = .ok (.ifCond .ge 8, 3) := by decide +kernel
theorem dX_change_28 : decode (zby mX_change) 28 = .ok (.iload 4, 2) := by decide +kernel
theorem dX_change_30 : decode (zby mX_change) 30 = .ok (.invokestatic 86, 3) := by decide +kernel
theorem dX_change_33 : decode (zby mX_change) 33 = .ok (.aload_n 0, 1) := by decide +kernel
theorem dX_change_34 : decode (zby mX_change) 34 = .ok (.getfield 22, 3) := by decide +kernel
theorem dX_change_37 : decode (zby mX_change) 37 = .ok (.invokevirtual 90, 3) := by decide +kernel
theorem dX_change_40 : decode (zby mX_change) 40 = .ok (.aload_n 0, 1) := by decide +kernel
theorem dX_change_41 : decode (zby mX_change) 41 = .ok (.iconst 1, 1) := by decide +kernel
theorem dX_change_42 : decode (zby mX_change) 42 = .ok (.putfield 61, 3) := by decide +kernel
theorem dX_change_45 : decode (zby mX_change) 45 = .ok (.iload 4, 2) := by decide +kernel
theorem dX_change_47 : decode (zby mX_change) 47 = .ok (.ireturn, 1) := by decide +kernel
theorem dX_codeAfter_0 : decode (zby mX_codeAfter) 0 = .ok (.iload_n 1, 1) := by decide +kernel
theorem dX_codeAfter_1 : decode (zby mX_codeAfter) 1 = .ok (.iconst (-1), 1) := by decide +kernel
theorem dX_codeAfter_2 : decode (zby mX_codeAfter) 2 = .ok (.if_icmp .lt 10, 3) := by decide +kernel
theorem dX_codeAfter_5 : decode (zby mX_codeAfter) 5 = .ok (.iload_n 1, 1) := by decide +kernel
theorem dX_codeAfter_6 : decode (zby mX_codeAfter) 6 = .ok (.sipush 1000, 3) := by decide +kernel
theorem dX_codeAfter_9 : decode (zby mX_codeAfter) 9 = .ok (.if_icmp .lt 13, 3) := by decide +kernel
theorem dX_codeAfter_12 : decode (zby mX_codeAfter) 12 = .ok (.new 100, 3) := by decide +kernel
theorem dX_codeAfter_15 : decode (zby mX_codeAfter) 15 = .ok (.dup, 1) := by decide +kernel
theorem dX_codeAfter_16 : decode (zby mX_codeAfter) 16 = .ok (.ldc 218, 2) := by decide +kernel
theorem dX_codeAfter_18 : decode (zby mX_codeAfter) 18 = .ok (.invokespecial 104, 3) := by decide +kernel
theorem dX_codeAfter_21 : decode (zby mX_codeAfter) 21 = .ok (.athrow, 1) := by decide +kernel
theorem dX_codeAfter_22 : decode (zby mX_codeAfter) 22 = .ok (.sipush 1000, 3) := by decide +kernel
theorem dX_codeAfter_25 : decode (zby mX_codeAfter) 25 = .ok (.istore_n 2, 1) := by decide +kernel
theorem dX_codeAfter_26 : decode (zby mX_codeAfter) 26 = .ok (.iconst 0, 1) := by decide +kernel
theorem dX_codeAfter_27 : decode (zby mX_codeAfter) 27 = .ok (.istore_n 3, 1) := by decide +kernel
theorem dX_codeAfter_28 : decode (zby mX_codeAfter) 28 = .ok (.iload_n 3, 1) := by decide +kernel
theorem dX_codeAfter_29 : decode (zby mX_codeAfter) 29 = .ok (.aload_n 0, 1) := by decide +kernel
theorem dX_codeAfter_30 : decode (zby mX_codeAfter) 30 = .ok (.getfield 12, 3) := by decide +kernel
theorem dX_codeAfter_33 : decode (zby mX_codeAfter) 33 = .ok (.getfield 115, 3) := by decide +kernel
theorem dX_codeAfter_36 : decode (zby mX_codeAfter) 36 = .ok (.if_icmp .ge 27, 3) := by decide +kernel
theorem dX_codeAfter_39 : decode (zby mX_codeAfter) 39 = .ok (.iload_n 2, 1) := by decide +kernel
theorem dX_codeAfter_40 : decode (zby mX_codeAfter) 40 = .ok (.aload_n 0, 1) := by decide +kernel
theorem dX_codeAfter_41 : decode (zby mX_codeAfter) 41 = .ok (.getfield 12, 3) := by decide +kernel
theorem dX_codeAfter_44 : decode (zby mX_codeAfter) 44 = .ok (.getfield 120, 3) := by decide +kernel
theorem dX_codeAfter_47 : decode (zby mX_codeAfter) 47 = .ok (.iload_n 3, 1) := by decide +kernel
theorem dX_codeAfter_48 : decode (zby mX_codeAfter) 48 = .ok (.aaload, 1) := by decide +kernel
theorem dX_codeAfter_49 : decode (zby mX_codeAfter) 49 = .ok (.iload_n 1, 1) := by decide +kernel
theorem dX_codeAfter_50 : decode (zby mX_codeAfter) 50 = .ok (.invokevirtual 220, 3) := by decide +kernel
theorem dX_codeAfter_53 : decode (zby mX_codeAfter) 53 = .ok (.invokestatic 223, 3) := by decide +kernel
theorem dX_codeAfter_56 : decode (zby mX_codeAfter) 56 = .ok (.istore_n 2, 1) := by decide +kernel
theorem dX_codeAfter_57 : decode (zby mX_codeAfter) 57 = .ok (.iinc 3 1, 3) := by decide +kernel
theorem dX_codeAfter_60 : decode (zby mX_codeAfter) 60 = .ok (.goto (-32), 3) := by decide +kernel
theorem dX_codeAfter_63 : decode (zby mX_codeAfter) 63 = .ok (.iload_n 2, 1) := by decide +kernel
theorem dX_codeAfter_64 : decode (zby mX_codeAfter) 64 = .ok (.sipush 1000, 3) := by decide +kernel
theorem dX_codeAfter_67 : decode (zby mX_codeAfter) 67 = .ok (.if_icmp .ne 13, 3) := by decide +kernel
theorem dX_codeAfter_70 : decode (zby mX_codeAfter) 70 = .ok (.new 93, 3) := by decide +kernel
theorem dX_codeAfter_73 : decode (zby mX_codeAfter) 73 = .ok (.dup, 1) := by decide +kernel
theorem dX_codeAfter_74 : decode (zby mX_codeAfter) 74 = .ok (.ldc 226, 2) := by decide +kernel
theorem dX_codeAfter_76 : decode (zby mX_codeAfter) 76 = .ok (.invokespecial 97, 3) := by decide +kernel
theorem dX_codeAfter_79 : decode (zby mX_codeAfter) 79 = .ok (.athrow, 1) := by decide +kernel
theorem dX_codeAfter_80 : decode (zby mX_codeAfter) 80 = .ok (.iload_n 2, 1) := by decide +kernel
theorem dX_codeAfter_81 : decode (zby mX_codeAfter) 81 = .ok (.ireturn, 1) := by decide +kernel
theorem dX_codeAt_0 : decode (zby mX_codeAt) 0 = .ok (.aload_n 0, 1) := by decide +kernel
theorem dX_codeAt_1 : decode (zby mX_codeAt) 1 = .ok (.iload_n 1, 1) := by decide +kernel
theorem dX_codeAt_2 : decode (zby mX_codeAt) 2 = .ok (.invokevirtual 127, 3) := by decide +kernel
theorem dX_codeAt_5 : decode (zby mX_codeAt) 5 = .ok (.astore_n 3, 1) := by decide +kernel
theorem dX_codeAt_6 : decode (zby mX_codeAt) 6 = .ok (.iload_n 2, 1) := by decide +kernel
theorem dX_codeAt_7 : decode (zby mX_codeAt) 7 = .ok (.ifCond .lt 11, 3) := by decide +kernel
theorem dX_codeAt_10 : decode (zby mX_codeAt) 10 = .ok (.iload_n 2, 1) := by decide +kernel
theorem dX_codeAt_11 : decode (zby mX_codeAt) 11 = .ok (.aload_n 3, 1) := by decide +kernel
theorem dX_codeAt_12 : decode (zby mX_codeAt) 12 = .ok (.getfield 147, 3) := by decide +kernel
theorem dX_codeAt_15 : decode (zby mX_codeAt) 15 = .ok (.if_icmp .lt 13, 3) := by decide +kernel
theorem dX_codeAt_18 : decode (zby mX_codeAt) 18 = .ok (.new 105, 3) := by decide +kernel
theorem dX_codeAt_21 : decode (zby mX_codeAt) 21 = .ok (.dup, 1) := by decide +kernel
theorem dX_codeAt_22 : decode (zby mX_codeAt) 22 = .ok (.ldc 118, 2) := by decide +kernel
theorem dX_codeAt_24 : decode (zby mX_codeAt) 24 = .ok (.invokespecial 109, 3) := by decide +kernel
theorem dX_codeAt_27 : decode (zby mX_codeAt) 27 = .ok (.athrow, 1) := by decide +kernel
theorem dX_codeAt_28 : decode (zby mX_codeAt) 28 = .ok (.aload_n 3, 1) := by decide +kernel
theorem dX_codeAt_29 : decode (zby mX_codeAt) 29 = .ok (.getfield 150, 3) := by decide +kernel
theorem dX_codeAt_32 : decode (zby mX_codeAt) 32 = .ok (.iload_n 2, 1) := by decide +kernel
theorem dX_codeAt_33 : decode (zby mX_codeAt) 33 = .ok (.iaload, 1) := by decide +kernel
theorem dX_codeAt_34 : decode (zby mX_codeAt) 34 = .ok (.ireturn, 1) := by decide +kernel
theorem dX_codeCount_0 : decode (zby mX_codeCount) 0 = .ok (.aload_n 0, 1) := by decide +kernel
theorem dX_codeCount_1 : decode (zby mX_codeCount) 1 = .ok (.iload_n 1, 1) := by decide +kernel
theorem dX_codeCount_2 : decode (zby mX_codeCount) 2 = .ok (.invokevirtual 127, 3) := by decide +kernel
theorem dX_codeCount_5 : decode (zby mX_codeCount) 5 = .ok (.getfield 147, 3) := by decide +kernel
theorem dX_codeCount_8 : decode (zby mX_codeCount) 8 = .ok (.ireturn, 1) := by decide +kernel
theorem dX_codesWith_0 : decode (zby mX_codesWith) 0 = .ok (.iload_n 1, 1) := by decide +kernel
theorem dX_codesWith_1 : decode (zby mX_codesWith) 1 = .ok (.iload_n 2, 1) := by decide +kernel
theorem dX_codesWith_2 : decode (zby mX_codesWith) 2 = .ok (.invokestatic 161, 3) := by decide +kernel
theorem dX_codesWith_5 : decode (zby mX_codesWith) 5 = .ok (.aload_n 0, 1) := by decide +kernel
theorem dX_codesWith_6 : decode (zby mX_codesWith) 6 = .ok (.invokevirtual 175, 3) := by decide +kernel
theorem dX_codesWith_9 : decode (zby mX_codesWith) 9 = .ok (.iload_n 1, 1) := by decide +kernel
theorem dX_codesWith_10 : decode (zby mX_codesWith) 10 = .ok (.iload_n 2, 1) := by decide +kernel
theorem dX_codesWith_11 : decode (zby mX_codesWith) 11 = .ok (.invokestatic 179, 3) := by decide +kernel
theorem dX_codesWith_14 : decode (zby mX_codesWith) 14 = .ok (.invokevirtual 199, 3) := by decide +kernel
theorem dX_codesWith_17 : decode (zby mX_codesWith) 17 = .ok (.ireturn, 1) := by decide +kernel
theorem dX_commonDigits_0 : decode (zby mX_commonDigits) 0 = .ok (.iload_n 0, 1) := by decide +kernel
theorem dX_commonDigits_1 : decode (zby mX_commonDigits) 1 = .ok (.iload_n 1, 1) := by decide +kernel
theorem dX_commonDigits_2 : decode (zby mX_commonDigits) 2 = .ok (.if_icmp .ne 5, 3) := by decide +kernel
theorem dX_commonDigits_5 : decode (zby mX_commonDigits) 5 = .ok (.iconst 3, 1) := by decide +kernel
theorem dX_commonDigits_6 : decode (zby mX_commonDigits) 6 = .ok (.ireturn, 1) := by decide +kernel
theorem dX_commonDigits_7 : decode (zby mX_commonDigits) 7 = .ok (.iload_n 0, 1) := by decide +kernel
theorem dX_commonDigits_8 : decode (zby mX_commonDigits) 8 = .ok (.bipush 10, 2) := by decide +kernel
theorem dX_commonDigits_10 : decode (zby mX_commonDigits) 10 = .ok (.idiv, 1) := by decide +kernel
theorem dX_commonDigits_11 : decode (zby mX_commonDigits) 11 = .ok (.iload_n 1, 1) := by decide +kernel
theorem dX_commonDigits_12 : decode (zby mX_commonDigits) 12 = .ok (.bipush 10, 2) := by decide +kernel
theorem dX_commonDigits_14 : decode (zby mX_commonDigits) 14 = .ok (.idiv, 1) := by decide +kernel
theorem dX_commonDigits_15 : decode (zby mX_commonDigits) 15 = .ok (.if_icmp .ne 5, 3) := by decide +kernel
theorem dX_commonDigits_18 : decode (zby mX_commonDigits) 18 = .ok (.iconst 2, 1) := by decide +kernel
theorem dX_commonDigits_19 : decode (zby mX_commonDigits) 19 = .ok (.ireturn, 1) := by decide +kernel
theorem dX_commonDigits_20 : decode (zby mX_commonDigits) 20 = .ok (.iload_n 0, 1) := by decide +kernel
theorem dX_commonDigits_21 : decode (zby mX_commonDigits) 21 = .ok (.bipush 100, 2) := by decide +kernel
theorem dX_commonDigits_23 : decode (zby mX_commonDigits) 23 = .ok (.idiv, 1) := by decide +kernel
theorem dX_commonDigits_24 : decode (zby mX_commonDigits) 24 = .ok (.iload_n 1, 1) := by decide +kernel
theorem dX_commonDigits_25 : decode (zby mX_commonDigits) 25 = .ok (.bipush 100, 2) := by decide +kernel
theorem dX_commonDigits_27 : decode (zby mX_commonDigits) 27 = .ok (.idiv, 1) := by decide +kernel
theorem dX_commonDigits_28 : decode (zby mX_commonDigits) 28 = .ok (.if_icmp .ne 7, 3) := by decide +kernel
theorem dX_commonDigits_31 : decode (zby mX_commonDigits) 31 = .ok (.iconst 1, 1) := by decide +kernel
theorem dX_commonDigits_32 : decode (zby mX_commonDigits) 32 = .ok (.goto 4, 3) := by decide +kernel
theorem dX_commonDigits_35 : decode (zby mX_commonDigits) 35 = .ok (.iconst 0, 1) := by decide +kernel
theorem dX_commonDigits_36 : decode (zby mX_commonDigits) 36 = .ok (.ireturn, 1) := by decide +kernel
theorem dX_commonestCode_0 : decode (zby mX_commonestCode) 0 = .ok (.aload_n 0, 1) := by decide +kernel
theorem dX_commonestCode_1 : decode (zby mX_commonestCode) 1 = .ok (.invokevirtual 175, 3) := by decide +kernel
theorem dX_commonestCode_4 : decode (zby mX_commonestCode) 4 = .ok (.invokevirtual 228, 3) := by decide +kernel
theorem dX_commonestCode_7 : decode (zby mX_commonestCode) 7 = .ok (.istore_n 1, 1) := by decide +kernel
theorem dX_commonestCode_8 : decode (zby mX_commonestCode) 8 = .ok (.iload_n 1, 1) := by decide +kernel
theorem dX_commonestCode_9 : decode (zby mX_commonestCode) 9 = .ok (.iconst (-1), 1) := by decide +kernel
theorem dX_commonestCode_10 : decode (zby mX_commonestCode) 10 = .ok (.if_icmp .ne 13, 3) := by decide +kernel
theorem dX_commonestCode_13 : decode (zby mX_commonestCode) 13 = .ok (.new 93, 3) := by decide +kernel
theorem dX_commonestCode_16 : decode (zby mX_commonestCode) 16 = .ok (.dup, 1) := by decide +kernel
theorem dX_commonestCode_17 : decode (zby mX_commonestCode) 17 = .ok (.ldc 231, 2) := by decide +kernel
theorem dX_commonestCode_19 : decode (zby mX_commonestCode) 19 = .ok (.invokespecial 97, 3) := by decide +kernel
theorem dX_commonestCode_22 : decode (zby mX_commonestCode) 22 = .ok (.athrow, 1) := by decide +kernel
theorem dX_commonestCode_23 : decode (zby mX_commonestCode) 23 = .ok (.iload_n 1, 1) := by decide +kernel
theorem dX_commonestCode_24 : decode (zby mX_commonestCode) 24 = .ok (.ireturn, 1) := by decide +kernel
theorem dX_daysUntilFaded_0 : decode (zby mX_daysUntilFaded) 0 = .ok (.aload_n 0, 1) := by decide +kernel
theorem dX_daysUntilFaded_1 : decode (zby mX_daysUntilFaded) 1 = .ok (.iload_n 1, 1) := by decide +kernel
theorem dX_daysUntilFaded_2 : decode (zby mX_daysUntilFaded) 2 = .ok (.invokevirtual 127, 3) := by decide +kernel
theorem dX_daysUntilFaded_5 : decode (zby mX_daysUntilFaded) 5 = .ok (.invokevirtual 242, 3) := by decide +kernel
theorem dX_daysUntilFaded_8 : decode (zby mX_daysUntilFaded) 8 = .ok (.ireturn, 1) := by decide +kernel
theorem dX_daysUntilFadedByDays_0 : decode (zby mX_daysUntilFadedByDays) 0 = .ok (.aload_n 0, 1) := by decide +kernel
theorem dX_daysUntilFadedByDays_1 : decode (zby mX_daysUntilFadedByDays) 1 = .ok (.getfield 57, 3) := by decide +kernel
theorem dX_daysUntilFadedByDays_4 : decode (zby mX_daysUntilFadedByDays) 4 = .ok (.aload_n 0, 1) := by decide +kernel
theorem dX_daysUntilFadedByDays_5 : decode (zby mX_daysUntilFadedByDays) 5 = .ok (.iload_n 1, 1) := by decide +kernel
theorem dX_daysUntilFadedByDays_6 : decode (zby mX_daysUntilFadedByDays) 6 = .ok (.invokevirtual 127, 3) := by decide +kernel
theorem dX_daysUntilFadedByDays_9 : decode (zby mX_daysUntilFadedByDays) 9 = .ok (.invokevirtual 245, 3) := by decide +kernel
theorem dX_daysUntilFadedByDays_12 : decode (zby mX_daysUntilFadedByDays) 12 = .ok (.iconst 0, 1) := by decide +kernel
theorem dX_daysUntilFadedByDays_13 : decode (zby mX_daysUntilFadedByDays) 13 = .ok (.istore_n 2, 1) := by decide +kernel
theorem dX_daysUntilFadedByDays_14 : decode (zby mX_daysUntilFadedByDays) 14 = .ok (.iload_n 2, 1) := by decide +kernel
theorem dX_daysUntilFadedByDays_15 : decode (zby mX_daysUntilFadedByDays) 15 = .ok (.sipush 150, 3) := by decide +kernel
theorem dX_daysUntilFadedByDays_18 : decode (zby mX_daysUntilFadedByDays) 18 = .ok (.if_icmp .gt 32, 3) := by decide +kernel
theorem dX_daysUntilFadedByDays_21 : decode (zby mX_daysUntilFadedByDays) 21 = .ok (.aload_n 0, 1) := by decide +kernel
theorem dX_daysUntilFadedByDays_22 : decode (zby mX_daysUntilFadedByDays) 22 = .ok (.getfield 57, 3) := by decide +kernel
theorem dX_daysUntilFadedByDays_25 : decode (zby mX_daysUntilFadedByDays) 25 = .ok (.invokevirtual 249, 3) := by decide +kernel
theorem dX_daysUntilFadedByDays_28 : decode (zby mX_daysUntilFadedByDays) 28 = .ok (.ifCond .ne 22, 3) := by decide +kernel
theorem dX_daysUntilFadedByDays_31 : decode (zby mX_daysUntilFadedByDays) 31 = .ok (.aload_n 0, 1) := by decide +kernel
theorem dX_daysUntilFadedByDays_32 : decode (zby mX_daysUntilFadedByDays) 32 = .ok (.getfield 57, 3) := by decide +kernel
theorem dX_daysUntilFadedByDays_35 : decode (zby mX_daysUntilFadedByDays) 35 = .ok (.dup, 1) := by decide +kernel
theorem dX_daysUntilFadedByDays_36 : decode (zby mX_daysUntilFadedByDays) 36 = .ok (.getfield 134, 3) := by decide +kernel
theorem dX_daysUntilFadedByDays_39 : decode (zby mX_daysUntilFadedByDays) 39 = .ok (.iconst 1, 1) := by decide +kernel
theorem dX_daysUntilFadedByDays_40 : decode (zby mX_daysUntilFadedByDays) 40 = .ok (.iadd, 1) := by decide +kernel
theorem dX_daysUntilFadedByDays_41 : decode (zby mX_daysUntilFadedByDays) 41 = .ok (.putfield 134, 3) := by decide +kernel
theorem dX_daysUntilFadedByDays_44 : decode (zby mX_daysUntilFadedByDays) 44 = .ok (.iinc 2 1, 3) := by decide +kernel
theorem dX_daysUntilFadedByDays_47 : decode (zby mX_daysUntilFadedByDays) 47 = .ok (.goto (-33), 3) := by decide +kernel
theorem dX_daysUntilFadedByDays_50 : decode (zby mX_daysUntilFadedByDays) 50 = .ok (.iload_n 2, 1) := by decide +kernel
theorem dX_daysUntilFadedByDays_51 : decode (zby mX_daysUntilFadedByDays) 51 = .ok (.ireturn, 1) := by decide +kernel
theorem dX_entriesIn_0 : decode (zby mX_entriesIn) 0 = .ok (.iload_n 1, 1) := by decide +kernel
theorem dX_entriesIn_1 : decode (zby mX_entriesIn) 1 = .ok (.ifCond .lt 14, 3) := by decide +kernel
theorem dX_entriesIn_4 : decode (zby mX_entriesIn) 4 = .ok (.iload_n 1, 1) := by decide +kernel
theorem dX_entriesIn_5 : decode (zby mX_entriesIn) 5 = .ok (.aload_n 0, 1) := by decide +kernel
theorem dX_entriesIn_6 : decode (zby mX_entriesIn) 6 = .ok (.getfield 12, 3) := by decide +kernel
theorem dX_entriesIn_9 : decode (zby mX_entriesIn) 9 = .ok (.getfield 172, 3) := by decide +kernel
theorem dX_entriesIn_12 : decode (zby mX_entriesIn) 12 = .ok (.if_icmp .lt 13, 3) := by decide +kernel
theorem dX_entriesIn_15 : decode (zby mX_entriesIn) 15 = .ok (.new 105, 3) := by decide +kernel
theorem dX_entriesIn_18 : decode (zby mX_entriesIn) 18 = .ok (.dup, 1) := by decide +kernel
theorem dX_entriesIn_19 : decode (zby mX_entriesIn) 19 = .ok (.ldc 107, 2) := by decide +kernel
theorem dX_entriesIn_21 : decode (zby mX_entriesIn) 21 = .ok (.invokespecial 109, 3) := by decide +kernel
theorem dX_entriesIn_24 : decode (zby mX_entriesIn) 24 = .ok (.athrow, 1) := by decide +kernel
theorem dX_entriesIn_25 : decode (zby mX_entriesIn) 25 = .ok (.iconst 0, 1) := by decide +kernel
theorem dX_entriesIn_26 : decode (zby mX_entriesIn) 26 = .ok (.istore_n 2, 1) := by decide +kernel
theorem dX_entriesIn_27 : decode (zby mX_entriesIn) 27 = .ok (.iconst 0, 1) := by decide +kernel
theorem dX_entriesIn_28 : decode (zby mX_entriesIn) 28 = .ok (.istore_n 3, 1) := by decide +kernel
theorem dX_entriesIn_29 : decode (zby mX_entriesIn) 29 = .ok (.iload_n 3, 1) := by decide +kernel
theorem dX_entriesIn_30 : decode (zby mX_entriesIn) 30 = .ok (.aload_n 0, 1) := by decide +kernel
theorem dX_entriesIn_31 : decode (zby mX_entriesIn) 31 = .ok (.getfield 12, 3) := by decide +kernel
theorem dX_entriesIn_34 : decode (zby mX_entriesIn) 34 = .ok (.getfield 115, 3) := by decide +kernel
theorem dX_entriesIn_37 : decode (zby mX_entriesIn) 37 = .ok (.if_icmp .ge 28, 3) := by decide +kernel
theorem dX_entriesIn_40 : decode (zby mX_entriesIn) 40 = .ok (.aload_n 0, 1) := by decide +kernel
theorem dX_entriesIn_41 : decode (zby mX_entriesIn) 41 = .ok (.getfield 12, 3) := by decide +kernel
theorem dX_entriesIn_44 : decode (zby mX_entriesIn) 44 = .ok (.getfield 120, 3) := by decide +kernel
theorem dX_entriesIn_47 : decode (zby mX_entriesIn) 47 = .ok (.iload_n 3, 1) := by decide +kernel
theorem dX_entriesIn_48 : decode (zby mX_entriesIn) 48 = .ok (.aaload, 1) := by decide +kernel
theorem dX_entriesIn_49 : decode (zby mX_entriesIn) 49 = .ok (.getfield 144, 3) := by decide +kernel
theorem dX_entriesIn_52 : decode (zby mX_entriesIn) 52 = .ok (.iload_n 1, 1) := by decide +kernel
theorem dX_entriesIn_53 : decode (zby mX_entriesIn) 53 = .ok (.if_icmp .ne 6, 3) := by decide +kernel
theorem dX_entriesIn_56 : decode (zby mX_entriesIn) 56 = .ok (.iinc 2 1, 3) := by decide +kernel
theorem dX_entriesIn_59 : decode (zby mX_entriesIn) 59 = .ok (.iinc 3 1, 3) := by decide +kernel
theorem dX_entriesIn_62 : decode (zby mX_entriesIn) 62 = .ok (.goto (-33), 3) := by decide +kernel
theorem dX_entriesIn_65 : decode (zby mX_entriesIn) 65 = .ok (.iload_n 2, 1) := by decide +kernel
theorem dX_entriesIn_66 : decode (zby mX_entriesIn) 66 = .ok (.ireturn, 1) := by decide +kernel
theorem dX_entriesWith_0 : decode (zby mX_entriesWith) 0 = .ok (.iload_n 1, 1) := by decide +kernel
theorem dX_entriesWith_1 : decode (zby mX_entriesWith) 1 = .ok (.invokestatic 154, 3) := by decide +kernel
theorem dX_entriesWith_4 : decode (zby mX_entriesWith) 4 = .ok (.aload_n 0, 1) := by decide +kernel
theorem dX_entriesWith_5 : decode (zby mX_entriesWith) 5 = .ok (.invokevirtual 175, 3) := by decide +kernel
theorem dX_entriesWith_8 : decode (zby mX_entriesWith) 8 = .ok (.iconst 3, 1) := by decide +kernel
theorem dX_entriesWith_9 : decode (zby mX_entriesWith) 9 = .ok (.iload_n 1, 1) := by decide +kernel
theorem dX_entriesWith_10 : decode (zby mX_entriesWith) 10 = .ok (.invokestatic 179, 3) := by decide +kernel
theorem dX_entriesWith_13 : decode (zby mX_entriesWith) 13 = .ok (.invokevirtual 182, 3) := by decide +kernel
theorem dX_entriesWith_16 : decode (zby mX_entriesWith) 16 = .ok (.ireturn, 1) := by decide +kernel
theorem dX_entryCount_0 : decode (zby mX_entryCount) 0 = .ok (.aload_n 0, 1) := by decide +kernel
theorem dX_entryCount_1 : decode (zby mX_entryCount) 1 = .ok (.getfield 12, 3) := by decide +kernel
theorem dX_entryCount_4 : decode (zby mX_entryCount) 4 = .ok (.getfield 115, 3) := by decide +kernel
theorem dX_entryCount_7 : decode (zby mX_entryCount) 7 = .ok (.ireturn, 1) := by decide +kernel
theorem dX_errorPosition_0 : decode (zby mX_errorPosition) 0 = .ok (.aload_n 0, 1) := by decide +kernel
theorem dX_errorPosition_1 : decode (zby mX_errorPosition) 1 = .ok (.getfield 68, 3) := by decide +kernel
theorem dX_errorPosition_4 : decode (zby mX_errorPosition) 4 = .ok (.iconst (-1), 1) := by decide +kernel
theorem dX_errorPosition_5 : decode (zby mX_errorPosition) 5 = .ok (.if_icmp .ne 14, 3) := by decide +kernel
theorem dX_errorPosition_8 : decode (zby mX_errorPosition) 8 = .ok (.new 93, 3) := by decide +kernel
theorem dX_errorPosition_11 : decode (zby mX_errorPosition) 11 = .ok (.dup, 1) := by decide +kernel
theorem dX_errorPosition_12 : decode (zby mX_errorPosition) 12 = .ok (.ldc_w 368, 3) := by decide +kernel
theorem dX_errorPosition_15 : decode (zby mX_errorPosition) 15 = .ok (.invokespecial 97, 3) := by decide +kernel
theorem dX_errorPosition_18 : decode (zby mX_errorPosition) 18 = .ok (.athrow, 1) := by decide +kernel
theorem dX_errorPosition_19 : decode (zby mX_errorPosition) 19 = .ok (.aload_n 0, 1) := by decide +kernel
theorem dX_errorPosition_20 : decode (zby mX_errorPosition) 20 = .ok (.getfield 68, 3) := by decide +kernel
theorem dX_errorPosition_23 : decode (zby mX_errorPosition) 23 = .ok (.ireturn, 1) := by decide +kernel
theorem dX_existing_0 : decode (zby mX_existing) 0 = .ok (.aload_n 0, 1) := by decide +kernel
theorem dX_existing_1 : decode (zby mX_existing) 1 = .ok (.getfield 12, 3) := by decide +kernel
theorem dX_existing_4 : decode (zby mX_existing) 4 = .ok (.iload_n 1, 1) := by decide +kernel
theorem dX_existing_5 : decode (zby mX_existing) 5 = .ok (.invokevirtual 169, 3) := by decide +kernel
theorem dX_existing_8 : decode (zby mX_existing) 8 = .ok (.astore_n 2, 1) := by decide +kernel
theorem dX_existing_9 : decode (zby mX_existing) 9 = .ok (.aload_n 2, 1) := by decide +kernel
theorem dX_existing_10 : decode (zby mX_existing) 10 = .ok (.ifnonnull 13, 3) := by decide +kernel
theorem dX_existing_13 : decode (zby mX_existing) 13 = .ok (.new 93, 3) := by decide +kernel
theorem dX_existing_16 : decode (zby mX_existing) 16 = .ok (.dup, 1) := by decide +kernel
theorem dX_existing_17 : decode (zby mX_existing) 17 = .ok (.ldc 95, 2) := by decide +kernel
theorem dX_existing_19 : decode (zby mX_existing) 19 = .ok (.invokespecial 97, 3) := by decide +kernel
theorem dX_existing_22 : decode (zby mX_existing) 22 = .ok (.athrow, 1) := by decide +kernel
theorem dX_existing_23 : decode (zby mX_existing) 23 = .ok (.aload_n 2, 1) := by decide +kernel
theorem dX_existing_24 : decode (zby mX_existing) 24 = .ok (.areturn, 1) := by decide +kernel
theorem dX_fadedShare_0 : decode (zby mX_fadedShare) 0 = .ok (.aload_n 0, 1) := by decide +kernel
theorem dX_fadedShare_1 : decode (zby mX_fadedShare) 1 = .ok (.getfield 12, 3) := by decide +kernel
theorem dX_fadedShare_4 : decode (zby mX_fadedShare) 4 = .ok (.getfield 255, 3) := by decide +kernel
theorem dX_fadedShare_7 : decode (zby mX_fadedShare) 7 = .ok (.ifCond .ne 14, 3) := by decide +kernel
theorem dX_fadedShare_10 : decode (zby mX_fadedShare) 10 = .ok (.new 267, 3) := by decide +kernel
theorem dX_fadedShare_13 : decode (zby mX_fadedShare) 13 = .ok (.dup, 1) := by decide +kernel
theorem dX_fadedShare_14 : decode (zby mX_fadedShare) 14 = .ok (.ldc_w 272, 3) := by decide +kernel
theorem dX_fadedShare_17 : decode (zby mX_fadedShare) 17 = .ok (.invokespecial 271, 3) := by decide +kernel
theorem dX_fadedShare_20 : decode (zby mX_fadedShare) 20 = .ok (.athrow, 1) := by decide +kernel
theorem dX_fadedShare_21 : decode (zby mX_fadedShare) 21 = .ok (.aload_n 0, 1) := by decide +kernel
theorem dX_fadedShare_22 : decode (zby mX_fadedShare) 22 = .ok (.getfield 12, 3) := by decide +kernel
theorem dX_fadedShare_25 : decode (zby mX_fadedShare) 25 = .ok (.getfield 264, 3) := by decide +kernel
theorem dX_fadedShare_28 : decode (zby mX_fadedShare) 28 = .ok (.i2f, 1) := by decide +kernel
theorem dX_fadedShare_29 : decode (zby mX_fadedShare) 29 = .ok (.aload_n 0, 1) := by decide +kernel
theorem dX_fadedShare_30 : decode (zby mX_fadedShare) 30 = .ok (.getfield 12, 3) := by decide +kernel
theorem dX_fadedShare_33 : decode (zby mX_fadedShare) 33 = .ok (.getfield 255, 3) := by decide +kernel
theorem dX_fadedShare_36 : decode (zby mX_fadedShare) 36 = .ok (.i2f, 1) := by decide +kernel
theorem dX_fadedShare_37 : decode (zby mX_fadedShare) 37 = .ok (.fdiv, 1) := by decide +kernel
theorem dX_fadedShare_38 : decode (zby mX_fadedShare) 38 = .ok (.freturn, 1) := by decide +kernel
theorem dX_fadedTotal_0 : decode (zby mX_fadedTotal) 0 = .ok (.aload_n 0, 1) := by decide +kernel
theorem dX_fadedTotal_1 : decode (zby mX_fadedTotal) 1 = .ok (.getfield 12, 3) := by decide +kernel
theorem dX_fadedTotal_4 : decode (zby mX_fadedTotal) 4 = .ok (.getfield 264, 3) := by decide +kernel
theorem dX_fadedTotal_7 : decode (zby mX_fadedTotal) 7 = .ok (.ireturn, 1) := by decide +kernel
theorem dX_fadingAgrees_0 : decode (zby mX_fadingAgrees) 0 = .ok (.iconst 0, 1) := by decide +kernel
theorem dX_fadingAgrees_1 : decode (zby mX_fadingAgrees) 1 = .ok (.istore_n 1, 1) := by decide +kernel
theorem dX_fadingAgrees_2 : decode (zby mX_fadingAgrees) 2 = .ok (.iload_n 1, 1) := by decide +kernel
theorem dX_fadingAgrees_3 : decode (zby mX_fadingAgrees) 3 = .ok (.aload_n 0, 1) := by decide +kernel
theorem dX_fadingAgrees_4 : decode (zby mX_fadingAgrees) 4 = .ok (.getfield 12, 3) := by decide +kernel
theorem dX_fadingAgrees_7 : decode (zby mX_fadingAgrees) 7 = .ok (.getfield 115, 3) := by decide +kernel
theorem dX_fadingAgrees_10 : decode (zby mX_fadingAgrees) 10 = .ok (.if_icmp .ge 37, 3) := by decide +kernel
theorem dX_fadingAgrees_13 : decode (zby mX_fadingAgrees) 13 = .ok (.aload_n 0, 1) := by decide +kernel
theorem dX_fadingAgrees_14 : decode (zby mX_fadingAgrees) 14 = .ok (.getfield 12, 3) := by decide +kernel
theorem dX_fadingAgrees_17 : decode (zby mX_fadingAgrees) 17 = .ok (.getfield 120, 3) := by decide +kernel
theorem dX_fadingAgrees_20 : decode (zby mX_fadingAgrees) 20 = .ok (.iload_n 1, 1) := by decide +kernel
theorem dX_fadingAgrees_21 : decode (zby mX_fadingAgrees) 21 = .ok (.aaload, 1) := by decide +kernel
theorem dX_fadingAgrees_22 : decode (zby mX_fadingAgrees) 22 = .ok (.getfield 124, 3) := by decide +kernel
theorem dX_fadingAgrees_25 : decode (zby mX_fadingAgrees) 25 = .ok (.istore_n 2, 1) := by decide +kernel
theorem dX_fadingAgrees_26 : decode (zby mX_fadingAgrees) 26 = .ok (.aload_n 0, 1) := by decide +kernel
theorem dX_fadingAgrees_27 : decode (zby mX_fadingAgrees) 27 = .ok (.iload_n 2, 1) := by decide +kernel
theorem dX_fadingAgrees_28 : decode (zby mX_fadingAgrees) 28 = .ok (.invokevirtual 298, 3) := by decide +kernel
theorem dX_fadingAgrees_31 : decode (zby mX_fadingAgrees) 31 = .ok (.aload_n 0, 1) := by decide +kernel
theorem dX_fadingAgrees_32 : decode (zby mX_fadingAgrees) 32 = .ok (.iload_n 2, 1) := by decide +kernel
theorem dX_fadingAgrees_33 : decode (zby mX_fadingAgrees) 33 = .ok (.invokevirtual 301, 3) := by decide +kernel
theorem dX_fadingAgrees_36 : decode (zby mX_fadingAgrees) 36 = .ok (.if_icmp .eq 5, 3) := by decide +kernel
theorem dX_fadingAgrees_39 : decode (zby mX_fadingAgrees) 39 = .ok (.iconst 0, 1) := by decide +kernel
theorem dX_fadingAgrees_40 : decode (zby mX_fadingAgrees) 40 = .ok (.ireturn, 1) := by decide +kernel
theorem dX_fadingAgrees_41 : decode (zby mX_fadingAgrees) 41 = .ok (.iinc 1 1, 3) := by decide +kernel
theorem dX_fadingAgrees_44 : decode (zby mX_fadingAgrees) 44 = .ok (.goto (-42), 3) := by decide +kernel
theorem dX_fadingAgrees_47 : decode (zby mX_fadingAgrees) 47 = .ok (.iconst 1, 1) := by decide +kernel
theorem dX_fadingAgrees_48 : decode (zby mX_fadingAgrees) 48 = .ok (.ireturn, 1) := by decide +kernel
theorem dX_fadingWithin_0 : decode (zby mX_fadingWithin) 0 = .ok (.iload_n 1, 1) := by decide +kernel
theorem dX_fadingWithin_1 : decode (zby mX_fadingWithin) 1 = .ok (.iconst 1, 1) := by decide +kernel
theorem dX_fadingWithin_2 : decode (zby mX_fadingWithin) 2 = .ok (.if_icmp .lt 9, 3) := by decide +kernel
theorem dX_fadingWithin_5 : decode (zby mX_fadingWithin) 5 = .ok (.iload_n 1, 1) := by decide +kernel
theorem dX_fadingWithin_6 : decode (zby mX_fadingWithin) 6 = .ok (.bipush 60, 2) := by decide +kernel
theorem dX_fadingWithin_8 : decode (zby mX_fadingWithin) 8 = .ok (.if_icmp .le 13, 3) := by decide +kernel
theorem dX_fadingWithin_11 : decode (zby mX_fadingWithin) 11 = .ok (.new 100, 3) := by decide +kernel
theorem dX_fadingWithin_14 : decode (zby mX_fadingWithin) 14 = .ok (.dup, 1) := by decide +kernel
theorem dX_fadingWithin_15 : decode (zby mX_fadingWithin) 15 = .ok (.ldc 253, 2) := by decide +kernel
theorem dX_fadingWithin_17 : decode (zby mX_fadingWithin) 17 = .ok (.invokespecial 104, 3) := by decide +kernel
theorem dX_fadingWithin_20 : decode (zby mX_fadingWithin) 20 = .ok (.athrow, 1) := by decide +kernel
theorem dX_fadingWithin_21 : decode (zby mX_fadingWithin) 21 = .ok (.iconst 0, 1) := by decide +kernel
theorem dX_fadingWithin_22 : decode (zby mX_fadingWithin) 22 = .ok (.istore_n 2, 1) := by decide +kernel
theorem dX_fadingWithin_23 : decode (zby mX_fadingWithin) 23 = .ok (.iconst 0, 1) := by decide +kernel
theorem dX_fadingWithin_24 : decode (zby mX_fadingWithin) 24 = .ok (.istore_n 3, 1) := by decide +kernel
theorem dX_fadingWithin_25 : decode (zby mX_fadingWithin) 25 = .ok (.iload_n 3, 1) := by decide +kernel
theorem dX_fadingWithin_26 : decode (zby mX_fadingWithin) 26 = .ok (.aload_n 0, 1) := by decide +kernel
theorem dX_fadingWithin_27 : decode (zby mX_fadingWithin) 27 = .ok (.getfield 12, 3) := by decide +kernel
theorem dX_fadingWithin_30 : decode (zby mX_fadingWithin) 30 = .ok (.getfield 115, 3) := by decide +kernel
theorem dX_fadingWithin_33 : decode (zby mX_fadingWithin) 33 = .ok (.if_icmp .ge 28, 3) := by decide +kernel
theorem dX_fadingWithin_36 : decode (zby mX_fadingWithin) 36 = .ok (.aload_n 0, 1) := by decide +kernel
theorem dX_fadingWithin_37 : decode (zby mX_fadingWithin) 37 = .ok (.getfield 12, 3) := by decide +kernel
theorem dX_fadingWithin_40 : decode (zby mX_fadingWithin) 40 = .ok (.getfield 120, 3) := by decide +kernel
theorem dX_fadingWithin_43 : decode (zby mX_fadingWithin) 43 = .ok (.iload_n 3, 1) := by decide +kernel
theorem dX_fadingWithin_44 : decode (zby mX_fadingWithin) 44 = .ok (.aaload, 1) := by decide +kernel
theorem dX_fadingWithin_45 : decode (zby mX_fadingWithin) 45 = .ok (.invokevirtual 242, 3) := by decide +kernel
theorem dX_fadingWithin_48 : decode (zby mX_fadingWithin) 48 = .ok (.iload_n 1, 1) := by decide +kernel
theorem dX_fadingWithin_49 : decode (zby mX_fadingWithin) 49 = .ok (.if_icmp .gt 6, 3) := by decide +kernel
theorem dX_fadingWithin_52 : decode (zby mX_fadingWithin) 52 = .ok (.iinc 2 1, 3) := by decide +kernel
theorem dX_fadingWithin_55 : decode (zby mX_fadingWithin) 55 = .ok (.iinc 3 1, 3) := by decide +kernel
theorem dX_fadingWithin_58 : decode (zby mX_fadingWithin) 58 = .ok (.goto (-33), 3) := by decide +kernel
theorem dX_fadingWithin_61 : decode (zby mX_fadingWithin) 61 = .ok (.iload_n 2, 1) := by decide +kernel
theorem dX_fadingWithin_62 : decode (zby mX_fadingWithin) 62 = .ok (.ireturn, 1) := by decide +kernel
theorem dX_failedCommand_0 : decode (zby mX_failedCommand) 0 = .ok (.aload_n 0, 1) := by decide +kernel
theorem dX_failedCommand_1 : decode (zby mX_failedCommand) 1 = .ok (.getfield 72, 3) := by decide +kernel
theorem dX_failedCommand_4 : decode (zby mX_failedCommand) 4 = .ok (.iconst (-1), 1) := by decide +kernel
theorem dX_failedCommand_5 : decode (zby mX_failedCommand) 5 = .ok (.if_icmp .ne 14, 3) := by decide +kernel
theorem dX_failedCommand_8 : decode (zby mX_failedCommand) 8 = .ok (.new 93, 3) := by decide +kernel
theorem dX_failedCommand_11 : decode (zby mX_failedCommand) 11 = .ok (.dup, 1) := by decide +kernel
theorem dX_failedCommand_12 : decode (zby mX_failedCommand) 12 = .ok (.ldc_w 370, 3) := by decide +kernel
theorem dX_failedCommand_15 : decode (zby mX_failedCommand) 15 = .ok (.invokespecial 97, 3) := by decide +kernel
theorem dX_failedCommand_18 : decode (zby mX_failedCommand) 18 = .ok (.athrow, 1) := by decide +kernel
theorem dX_failedCommand_19 : decode (zby mX_failedCommand) 19 = .ok (.aload_n 0, 1) := by decide +kernel
theorem dX_failedCommand_20 : decode (zby mX_failedCommand) 20 = .ok (.getfield 72, 3) := by decide +kernel
theorem dX_failedCommand_23 : decode (zby mX_failedCommand) 23 = .ok (.ireturn, 1) := by decide +kernel
theorem dX_firstFailing_0 : decode (zby mX_firstFailing) 0 = .ok (.iconst 0, 1) := by decide +kernel
theorem dX_firstFailing_1 : decode (zby mX_firstFailing) 1 = .ok (.istore_n 1, 1) := by decide +kernel
theorem dX_firstFailing_2 : decode (zby mX_firstFailing) 2 = .ok (.iload_n 1, 1) := by decide +kernel
theorem dX_firstFailing_3 : decode (zby mX_firstFailing) 3 = .ok (.aload_n 0, 1) := by decide +kernel
theorem dX_firstFailing_4 : decode (zby mX_firstFailing) 4 = .ok (.getfield 43, 3) := by decide +kernel
theorem dX_firstFailing_7 : decode (zby mX_firstFailing) 7 = .ok (.getfield 356, 3) := by decide +kernel
theorem dX_firstFailing_10 : decode (zby mX_firstFailing) 10 = .ok (.if_icmp .ge 50, 3) := by decide +kernel
theorem dX_firstFailing_13 : decode (zby mX_firstFailing) 13 = .ok (.aload_n 0, 1) := by decide +kernel
theorem dX_firstFailing_14 : decode (zby mX_firstFailing) 14 = .ok (.getfield 12, 3) := by decide +kernel
theorem dX_firstFailing_17 : decode (zby mX_firstFailing) 17 = .ok (.aload_n 0, 1) := by decide +kernel
theorem dX_firstFailing_18 : decode (zby mX_firstFailing) 18 = .ok (.getfield 43, 3) := by decide +kernel
theorem dX_firstFailing_21 : decode (zby mX_firstFailing) 21 = .ok (.getfield 359, 3) := by decide +kernel
theorem dX_firstFailing_24 : decode (zby mX_firstFailing) 24 = .ok (.iload_n 1, 1) := by decide +kernel
theorem dX_firstFailing_25 : decode (zby mX_firstFailing) 25 = .ok (.iaload, 1) := by decide +kernel
theorem dX_firstFailing_26 : decode (zby mX_firstFailing) 26 = .ok (.aload_n 0, 1) := by decide +kernel
theorem dX_firstFailing_27 : decode (zby mX_firstFailing) 27 = .ok (.getfield 43, 3) := by decide +kernel
theorem dX_firstFailing_30 : decode (zby mX_firstFailing) 30 = .ok (.getfield 362, 3) := by decide +kernel
theorem dX_firstFailing_33 : decode (zby mX_firstFailing) 33 = .ok (.iload_n 1, 1) := by decide +kernel
theorem dX_firstFailing_34 : decode (zby mX_firstFailing) 34 = .ok (.iaload, 1) := by decide +kernel
theorem dX_firstFailing_35 : decode (zby mX_firstFailing) 35 = .ok (.aload_n 0, 1) := by decide +kernel
theorem dX_firstFailing_36 : decode (zby mX_firstFailing) 36 = .ok (.getfield 43, 3) := by decide +kernel
theorem dX_firstFailing_39 : decode (zby mX_firstFailing) 39 = .ok (.getfield 365, 3) := by decide +kernel
theorem dX_firstFailing_42 : decode (zby mX_firstFailing) 42 = .ok (.iload_n 1, 1) := by decide +kernel
theorem dX_firstFailing_43 : decode (zby mX_firstFailing) 43 = .ok (.iaload, 1) := by decide +kernel
theorem dX_firstFailing_44 : decode (zby mX_firstFailing) 44 = .ok (.invokevirtual 83, 3) := by decide +kernel
theorem dX_firstFailing_47 : decode (zby mX_firstFailing) 47 = .ok (.istore_n 2, 1) := by decide +kernel
theorem dX_firstFailing_48 : decode (zby mX_firstFailing) 48 = .ok (.iload_n 2, 1) := by decide +kernel
theorem dX_firstFailing_49 : decode (zby mX_firstFailing) 49 = .ok (.ifCond .ge 5, 3) := by decide +kernel
theorem dX_firstFailing_52 : decode (zby mX_firstFailing) 52 = .ok (.iload_n 1, 1) := by decide +kernel
theorem dX_firstFailing_53 : decode (zby mX_firstFailing) 53 = .ok (.ireturn, 1) := by decide +kernel
theorem dX_firstFailing_54 : decode (zby mX_firstFailing) 54 = .ok (.iinc 1 1, 3) := by decide +kernel
theorem dX_firstFailing_57 : decode (zby mX_firstFailing) 57 = .ok (.goto (-55), 3) := by decide +kernel
theorem dX_firstFailing_60 : decode (zby mX_firstFailing) 60 = .ok (.iconst (-1), 1) := by decide +kernel
theorem dX_firstFailing_61 : decode (zby mX_firstFailing) 61 = .ok (.ireturn, 1) := by decide +kernel
theorem dX_formatEntry_0 : decode (zby mX_formatEntry) 0 = .ok (.aload_n 0, 1) := by decide +kernel
theorem dX_formatEntry_1 : decode (zby mX_formatEntry) 1 = .ok (.iload_n 1, 1) := by decide +kernel
theorem dX_formatEntry_2 : decode (zby mX_formatEntry) 2 = .ok (.invokevirtual 127, 3) := by decide +kernel
theorem dX_formatEntry_5 : decode (zby mX_formatEntry) 5 = .ok (.astore_n 2, 1) := by decide +kernel
theorem dX_formatEntry_6 : decode (zby mX_formatEntry) 6 = .ok (.aload_n 0, 1) := by decide +kernel
theorem dX_formatEntry_7 : decode (zby mX_formatEntry) 7 = .ok (.getfield 50, 3) := by decide +kernel
theorem dX_formatEntry_10 : decode (zby mX_formatEntry) 10 = .ok (.invokevirtual 304, 3) := by decide +kernel
theorem dX_formatEntry_13 : decode (zby mX_formatEntry) 13 = .ok (.aload_n 0, 1) := by decide +kernel
theorem dX_formatEntry_14 : decode (zby mX_formatEntry) 14 = .ok (.getfield 50, 3) := by decide +kernel
theorem dX_formatEntry_17 : decode (zby mX_formatEntry) 17 = .ok (.bipush 101, 2) := by decide +kernel
theorem dX_formatEntry_19 : decode (zby mX_formatEntry) 19 = .ok (.aload_n 2, 1) := by decide +kernel
theorem dX_formatEntry_20 : decode (zby mX_formatEntry) 20 = .ok (.getfield 124, 3) := by decide +kernel
theorem dX_formatEntry_23 : decode (zby mX_formatEntry) 23 = .ok (.invokevirtual 307, 3) := by decide +kernel
theorem dX_formatEntry_26 : decode (zby mX_formatEntry) 26 = .ok (.aload_n 0, 1) := by decide +kernel
theorem dX_formatEntry_27 : decode (zby mX_formatEntry) 27 = .ok (.getfield 50, 3) := by decide +kernel
theorem dX_formatEntry_30 : decode (zby mX_formatEntry) 30 = .ok (.bipush 32, 2) := by decide +kernel
theorem dX_formatEntry_32 : decode (zby mX_formatEntry) 32 = .ok (.invokevirtual 311, 3) := by decide +kernel
theorem dX_formatEntry_35 : decode (zby mX_formatEntry) 35 = .ok (.aload_n 0, 1) := by decide +kernel
theorem dX_formatEntry_36 : decode (zby mX_formatEntry) 36 = .ok (.getfield 50, 3) := by decide +kernel
theorem dX_formatEntry_39 : decode (zby mX_formatEntry) 39 = .ok (.bipush 119, 2) := by decide +kernel
theorem dX_formatEntry_41 : decode (zby mX_formatEntry) 41 = .ok (.aload_n 2, 1) := by decide +kernel
theorem dX_formatEntry_42 : decode (zby mX_formatEntry) 42 = .ok (.getfield 131, 3) := by decide +kernel
theorem dX_formatEntry_45 : decode (zby mX_formatEntry) 45 = .ok (.invokevirtual 307, 3) := by decide +kernel
theorem dX_formatEntry_48 : decode (zby mX_formatEntry) 48 = .ok (.aload_n 0, 1) := by decide +kernel
theorem dX_formatEntry_49 : decode (zby mX_formatEntry) 49 = .ok (.getfield 50, 3) := by decide +kernel
theorem dX_formatEntry_52 : decode (zby mX_formatEntry) 52 = .ok (.bipush 32, 2) := by decide +kernel
theorem dX_formatEntry_54 : decode (zby mX_formatEntry) 54 = .ok (.invokevirtual 311, 3) := by decide +kernel
theorem dX_formatEntry_57 : decode (zby mX_formatEntry) 57 = .ok (.aload_n 0, 1) := by decide +kernel
theorem dX_formatEntry_58 : decode (zby mX_formatEntry) 58 = .ok (.getfield 50, 3) := by decide +kernel
theorem dX_formatEntry_61 : decode (zby mX_formatEntry) 61 = .ok (.bipush 97, 2) := by decide +kernel
theorem dX_formatEntry_63 : decode (zby mX_formatEntry) 63 = .ok (.aload_n 2, 1) := by decide +kernel
theorem dX_formatEntry_64 : decode (zby mX_formatEntry) 64 = .ok (.getfield 134, 3) := by decide +kernel
theorem dX_formatEntry_67 : decode (zby mX_formatEntry) 67 = .ok (.invokevirtual 307, 3) := by decide +kernel
theorem dX_formatEntry_70 : decode (zby mX_formatEntry) 70 = .ok (.aload_n 0, 1) := by decide +kernel
theorem dX_formatEntry_71 : decode (zby mX_formatEntry) 71 = .ok (.getfield 50, 3) := by decide +kernel
theorem dX_formatEntry_74 : decode (zby mX_formatEntry) 74 = .ok (.bipush 32, 2) := by decide +kernel
theorem dX_formatEntry_76 : decode (zby mX_formatEntry) 76 = .ok (.invokevirtual 311, 3) := by decide +kernel
theorem dX_formatEntry_79 : decode (zby mX_formatEntry) 79 = .ok (.aload_n 0, 1) := by decide +kernel
theorem dX_formatEntry_80 : decode (zby mX_formatEntry) 80 = .ok (.getfield 50, 3) := by decide +kernel
theorem dX_formatEntry_83 : decode (zby mX_formatEntry) 83 = .ok (.bipush 104, 2) := by decide +kernel
theorem dX_formatEntry_85 : decode (zby mX_formatEntry) 85 = .ok (.aload_n 2, 1) := by decide +kernel
theorem dX_formatEntry_86 : decode (zby mX_formatEntry) 86 = .ok (.getfield 137, 3) := by decide +kernel
theorem dX_formatEntry_89 : decode (zby mX_formatEntry) 89 = .ok (.invokevirtual 307, 3) := by decide +kernel
theorem dX_formatEntry_92 : decode (zby mX_formatEntry) 92 = .ok (.aload_n 0, 1) := by decide +kernel
theorem dX_formatEntry_93 : decode (zby mX_formatEntry) 93 = .ok (.getfield 50, 3) := by decide +kernel
theorem dX_formatEntry_96 : decode (zby mX_formatEntry) 96 = .ok (.bipush 32, 2) := by decide +kernel
theorem dX_formatEntry_98 : decode (zby mX_formatEntry) 98 = .ok (.invokevirtual 311, 3) := by decide +kernel
theorem dX_formatEntry_101 : decode (zby mX_formatEntry) 101 = .ok (.aload_n 0, 1) := by decide +kernel
theorem dX_formatEntry_102 : decode (zby mX_formatEntry) 102 = .ok (.getfield 50, 3) := by decide +kernel
theorem dX_formatEntry_105 : decode (zby mX_formatEntry) 105 = .ok (.bipush 115, 2) := by decide +kernel
theorem dX_formatEntry_107 : decode (zby mX_formatEntry) 107 = .ok (.aload_n 2, 1) := by decide +kernel
theorem dX_formatEntry_108 : decode (zby mX_formatEntry) 108 = .ok (.getfield 144, 3) := by decide +kernel
theorem dX_formatEntry_111 : decode (zby mX_formatEntry) 111 = .ok (.invokevirtual 307, 3) := by decide +kernel
theorem dX_formatEntry_114 : decode (zby mX_formatEntry) 114 = .ok (.iconst 0, 1) := by decide +kernel
theorem dX_formatEntry_115 : decode (zby mX_formatEntry) 115 = .ok (.istore_n 3, 1) := by decide +kernel
theorem dX_formatEntry_116 : decode (zby mX_formatEntry) 116 = .ok (.iload_n 3, 1) := by decide +kernel
theorem dX_formatEntry_117 : decode (zby mX_formatEntry) 117 = .ok (.aload_n 2, 1) := by decide +kernel
theorem dX_formatEntry_118 : decode (zby mX_formatEntry) 118 = .ok (.getfield 147, 3) := by decide +kernel
theorem dX_formatEntry_121 : decode (zby mX_formatEntry) 121 = .ok (.if_icmp .ge 31, 3) := by decide +kernel
theorem dX_formatEntry_124 : decode (zby mX_formatEntry) 124 = .ok (.aload_n 0, 1) := by decide +kernel
theorem dX_formatEntry_125 : decode (zby mX_formatEntry) 125 = .ok (.getfield 50, 3) := by decide +kernel
theorem dX_formatEntry_128 : decode (zby mX_formatEntry) 128 = .ok (.bipush 32, 2) := by decide +kernel
theorem dX_formatEntry_130 : decode (zby mX_formatEntry) 130 = .ok (.invokevirtual 311, 3) := by decide +kernel
theorem dX_formatEntry_133 : decode (zby mX_formatEntry) 133 = .ok (.aload_n 0, 1) := by decide +kernel
theorem dX_formatEntry_134 : decode (zby mX_formatEntry) 134 = .ok (.getfield 50, 3) := by decide +kernel
theorem dX_formatEntry_137 : decode (zby mX_formatEntry) 137 = .ok (.aload_n 2, 1) := by decide +kernel
theorem dX_formatEntry_138 : decode (zby mX_formatEntry) 138 = .ok (.getfield 150, 3) := by decide +kernel
theorem dX_formatEntry_141 : decode (zby mX_formatEntry) 141 = .ok (.iload_n 3, 1) := by decide +kernel
theorem dX_formatEntry_142 : decode (zby mX_formatEntry) 142 = .ok (.iaload, 1) := by decide +kernel
theorem dX_formatEntry_143 : decode (zby mX_formatEntry) 143 = .ok (.invokevirtual 315, 3) := by decide +kernel
theorem dX_formatEntry_146 : decode (zby mX_formatEntry) 146 = .ok (.iinc 3 1, 3) := by decide +kernel
theorem dX_formatEntry_149 : decode (zby mX_formatEntry) 149 = .ok (.goto (-33), 3) := by decide +kernel
theorem dX_formatEntry_152 : decode (zby mX_formatEntry) 152 = .ok (.aload_n 0, 1) := by decide +kernel
theorem dX_formatEntry_153 : decode (zby mX_formatEntry) 153 = .ok (.getfield 50, 3) := by decide +kernel
theorem dX_formatEntry_156 : decode (zby mX_formatEntry) 156 = .ok (.getfield 318, 3) := by decide +kernel
theorem dX_formatEntry_159 : decode (zby mX_formatEntry) 159 = .ok (.ireturn, 1) := by decide +kernel
theorem dX_formatResults_0 : decode (zby mX_formatResults) 0 = .ok (.iload_n 1, 1) := by decide +kernel
theorem dX_formatResults_1 : decode (zby mX_formatResults) 1 = .ok (.iload_n 2, 1) := by decide +kernel
theorem dX_formatResults_2 : decode (zby mX_formatResults) 2 = .ok (.invokestatic 161, 3) := by decide +kernel
theorem dX_formatResults_5 : decode (zby mX_formatResults) 5 = .ok (.aload_n 0, 1) := by decide +kernel
theorem dX_formatResults_6 : decode (zby mX_formatResults) 6 = .ok (.getfield 36, 3) := by decide +kernel
theorem dX_formatResults_9 : decode (zby mX_formatResults) 9 = .ok (.aload_n 0, 1) := by decide +kernel
theorem dX_formatResults_10 : decode (zby mX_formatResults) 10 = .ok (.getfield 12, 3) := by decide +kernel
theorem dX_formatResults_13 : decode (zby mX_formatResults) 13 = .ok (.iload_n 1, 1) := by decide +kernel
theorem dX_formatResults_14 : decode (zby mX_formatResults) 14 = .ok (.iload_n 2, 1) := by decide +kernel
theorem dX_formatResults_15 : decode (zby mX_formatResults) 15 = .ok (.invokevirtual 186, 3) := by decide +kernel
theorem dX_formatResults_18 : decode (zby mX_formatResults) 18 = .ok (.aload_n 0, 1) := by decide +kernel
theorem dX_formatResults_19 : decode (zby mX_formatResults) 19 = .ok (.getfield 50, 3) := by decide +kernel
theorem dX_formatResults_22 : decode (zby mX_formatResults) 22 = .ok (.invokevirtual 304, 3) := by decide +kernel
theorem dX_formatResults_25 : decode (zby mX_formatResults) 25 = .ok (.iconst 0, 1) := by decide +kernel
theorem dX_formatResults_26 : decode (zby mX_formatResults) 26 = .ok (.istore_n 3, 1) := by decide +kernel
theorem dX_formatResults_27 : decode (zby mX_formatResults) 27 = .ok (.iload_n 3, 1) := by decide +kernel
theorem dX_formatResults_28 : decode (zby mX_formatResults) 28 = .ok (.aload_n 0, 1) := by decide +kernel
theorem dX_formatResults_29 : decode (zby mX_formatResults) 29 = .ok (.getfield 36, 3) := by decide +kernel
theorem dX_formatResults_32 : decode (zby mX_formatResults) 32 = .ok (.getfield 190, 3) := by decide +kernel
theorem dX_formatResults_35 : decode (zby mX_formatResults) 35 = .ok (.if_icmp .ge 63, 3) := by decide +kernel
theorem dX_formatResults_38 : decode (zby mX_formatResults) 38 = .ok (.iload_n 3, 1) := by decide +kernel
theorem dX_formatResults_39 : decode (zby mX_formatResults) 39 = .ok (.ifCond .le 12, 3) := by decide +kernel
theorem dX_formatResults_42 : decode (zby mX_formatResults) 42 = .ok (.aload_n 0, 1) := by decide +kernel
theorem dX_formatResults_43 : decode (zby mX_formatResults) 43 = .ok (.getfield 50, 3) := by decide +kernel
theorem dX_formatResults_46 : decode (zby mX_formatResults) 46 = .ok (.bipush 44, 2) := by decide +kernel
theorem dX_formatResults_48 : decode (zby mX_formatResults) 48 = .ok (.invokevirtual 311, 3) := by decide +kernel
theorem dX_formatResults_51 : decode (zby mX_formatResults) 51 = .ok (.aload_n 0, 1) := by decide +kernel
theorem dX_formatResults_52 : decode (zby mX_formatResults) 52 = .ok (.getfield 50, 3) := by decide +kernel
theorem dX_formatResults_55 : decode (zby mX_formatResults) 55 = .ok (.aload_n 0, 1) := by decide +kernel
theorem dX_formatResults_56 : decode (zby mX_formatResults) 56 = .ok (.getfield 36, 3) := by decide +kernel
theorem dX_formatResults_59 : decode (zby mX_formatResults) 59 = .ok (.getfield 193, 3) := by decide +kernel
theorem dX_formatResults_62 : decode (zby mX_formatResults) 62 = .ok (.iload_n 3, 1) := by decide +kernel
theorem dX_formatResults_63 : decode (zby mX_formatResults) 63 = .ok (.iaload, 1) := by decide +kernel
theorem dX_formatResults_64 : decode (zby mX_formatResults) 64 = .ok (.invokevirtual 321, 3) := by decide +kernel
theorem dX_formatResults_67 : decode (zby mX_formatResults) 67 = .ok (.aload_n 0, 1) := by decide +kernel
theorem dX_formatResults_68 : decode (zby mX_formatResults) 68 = .ok (.getfield 50, 3) := by decide +kernel
theorem dX_formatResults_71 : decode (zby mX_formatResults) 71 = .ok (.bipush 61, 2) := by decide +kernel
theorem dX_formatResults_73 : decode (zby mX_formatResults) 73 = .ok (.invokevirtual 311, 3) := by decide +kernel
theorem dX_formatResults_76 : decode (zby mX_formatResults) 76 = .ok (.aload_n 0, 1) := by decide +kernel
theorem dX_formatResults_77 : decode (zby mX_formatResults) 77 = .ok (.getfield 50, 3) := by decide +kernel
theorem dX_formatResults_80 : decode (zby mX_formatResults) 80 = .ok (.aload_n 0, 1) := by decide +kernel
theorem dX_formatResults_81 : decode (zby mX_formatResults) 81 = .ok (.getfield 36, 3) := by decide +kernel
theorem dX_formatResults_84 : decode (zby mX_formatResults) 84 = .ok (.getfield 324, 3) := by decide +kernel
theorem dX_formatResults_87 : decode (zby mX_formatResults) 87 = .ok (.iload_n 3, 1) := by decide +kernel
theorem dX_formatResults_88 : decode (zby mX_formatResults) 88 = .ok (.iaload, 1) := by decide +kernel
theorem dX_formatResults_89 : decode (zby mX_formatResults) 89 = .ok (.invokevirtual 321, 3) := by decide +kernel
theorem dX_formatResults_92 : decode (zby mX_formatResults) 92 = .ok (.iinc 3 1, 3) := by decide +kernel
theorem dX_formatResults_95 : decode (zby mX_formatResults) 95 = .ok (.goto (-68), 3) := by decide +kernel
theorem dX_formatResults_98 : decode (zby mX_formatResults) 98 = .ok (.aload_n 0, 1) := by decide +kernel
theorem dX_formatResults_99 : decode (zby mX_formatResults) 99 = .ok (.getfield 50, 3) := by decide +kernel
theorem dX_formatResults_102 : decode (zby mX_formatResults) 102 = .ok (.getfield 318, 3) := by decide +kernel
theorem dX_formatResults_105 : decode (zby mX_formatResults) 105 = .ok (.ireturn, 1) := by decide +kernel
theorem dX_freshTrie_0 : decode (zby mX_freshTrie) 0 = .ok (.aload_n 0, 1) := by decide +kernel
theorem dX_freshTrie_1 : decode (zby mX_freshTrie) 1 = .ok (.getfield 61, 3) := by decide +kernel
theorem dX_freshTrie_4 : decode (zby mX_freshTrie) 4 = .ok (.ifCond .eq 19, 3) := by decide +kernel
theorem dX_freshTrie_7 : decode (zby mX_freshTrie) 7 = .ok (.aload_n 0, 1) := by decide +kernel
theorem dX_freshTrie_8 : decode (zby mX_freshTrie) 8 = .ok (.getfield 29, 3) := by decide +kernel
theorem dX_freshTrie_11 : decode (zby mX_freshTrie) 11 = .ok (.aload_n 0, 1) := by decide +kernel
theorem dX_freshTrie_12 : decode (zby mX_freshTrie) 12 = .ok (.getfield 12, 3) := by decide +kernel
theorem dX_freshTrie_15 : decode (zby mX_freshTrie) 15 = .ok (.invokevirtual 239, 3) := by decide +kernel
theorem dX_freshTrie_18 : decode (zby mX_freshTrie) 18 = .ok (.aload_n 0, 1) := by decide +kernel
theorem dX_freshTrie_19 : decode (zby mX_freshTrie) 19 = .ok (.iconst 0, 1) := by decide +kernel
theorem dX_freshTrie_20 : decode (zby mX_freshTrie) 20 = .ok (.putfield 61, 3) := by decide +kernel
theorem dX_freshTrie_23 : decode (zby mX_freshTrie) 23 = .ok (.aload_n 0, 1) := by decide +kernel
theorem dX_freshTrie_24 : decode (zby mX_freshTrie) 24 = .ok (.getfield 29, 3) := by decide +kernel
theorem dX_freshTrie_27 : decode (zby mX_freshTrie) 27 = .ok (.areturn, 1) := by decide +kernel
theorem dX_hasCode_0 : decode (zby mX_hasCode) 0 = .ok (.aload_n 0, 1) := by decide +kernel
theorem dX_hasCode_1 : decode (zby mX_hasCode) 1 = .ok (.iload_n 1, 1) := by decide +kernel
theorem dX_hasCode_2 : decode (zby mX_hasCode) 2 = .ok (.invokevirtual 127, 3) := by decide +kernel
theorem dX_hasCode_5 : decode (zby mX_hasCode) 5 = .ok (.astore_n 3, 1) := by decide +kernel
theorem dX_hasCode_6 : decode (zby mX_hasCode) 6 = .ok (.iload_n 2, 1) := by decide +kernel
theorem dX_hasCode_7 : decode (zby mX_hasCode) 7 = .ok (.invokestatic 154, 3) := by decide +kernel
theorem dX_hasCode_10 : decode (zby mX_hasCode) 10 = .ok (.aload_n 3, 1) := by decide +kernel
theorem dX_hasCode_11 : decode (zby mX_hasCode) 11 = .ok (.iload_n 2, 1) := by decide +kernel
theorem dX_hasCode_12 : decode (zby mX_hasCode) 12 = .ok (.invokevirtual 157, 3) := by decide +kernel
theorem dX_hasCode_15 : decode (zby mX_hasCode) 15 = .ok (.ireturn, 1) := by decide +kernel
theorem dX_hasPrefix_0 : decode (zby mX_hasPrefix) 0 = .ok (.iload_n 0, 1) := by decide +kernel
theorem dX_hasPrefix_1 : decode (zby mX_hasPrefix) 1 = .ok (.iconst 3, 1) := by decide +kernel
theorem dX_hasPrefix_2 : decode (zby mX_hasPrefix) 2 = .ok (.iload_n 1, 1) := by decide +kernel
theorem dX_hasPrefix_3 : decode (zby mX_hasPrefix) 3 = .ok (.isub, 1) := by decide +kernel
theorem dX_hasPrefix_4 : decode (zby mX_hasPrefix) 4 = .ok (.invokestatic 394, 3) := by decide +kernel
theorem dX_hasPrefix_7 : decode (zby mX_hasPrefix) 7 = .ok (.iload_n 2, 1) := by decide +kernel
theorem dX_hasPrefix_8 : decode (zby mX_hasPrefix) 8 = .ok (.if_icmp .ne 7, 3) := by decide +kernel
theorem dX_hasPrefix_11 : decode (zby mX_hasPrefix) 11 = .ok (.iconst 1, 1) := by decide +kernel
theorem dX_hasPrefix_12 : decode (zby mX_hasPrefix) 12 = .ok (.goto 4, 3) := by decide +kernel
theorem dX_hasPrefix_15 : decode (zby mX_hasPrefix) 15 = .ok (.iconst 0, 1) := by decide +kernel
theorem dX_hasPrefix_16 : decode (zby mX_hasPrefix) 16 = .ok (.ireturn, 1) := by decide +kernel
theorem dX_hitsOf_0 : decode (zby mX_hitsOf) 0 = .ok (.aload_n 0, 1) := by decide +kernel
theorem dX_hitsOf_1 : decode (zby mX_hitsOf) 1 = .ok (.iload_n 1, 1) := by decide +kernel
theorem dX_hitsOf_2 : decode (zby mX_hitsOf) 2 = .ok (.invokevirtual 127, 3) := by decide +kernel
theorem dX_hitsOf_5 : decode (zby mX_hitsOf) 5 = .ok (.getfield 137, 3) := by decide +kernel
theorem dX_hitsOf_8 : decode (zby mX_hitsOf) 8 = .ok (.ireturn, 1) := by decide +kernel
theorem dX_idAt_0 : decode (zby mX_idAt) 0 = .ok (.iload_n 1, 1) := by decide +kernel
theorem dX_idAt_1 : decode (zby mX_idAt) 1 = .ok (.ifCond .lt 14, 3) := by decide +kernel
theorem dX_idAt_4 : decode (zby mX_idAt) 4 = .ok (.iload_n 1, 1) := by decide +kernel
theorem dX_idAt_5 : decode (zby mX_idAt) 5 = .ok (.aload_n 0, 1) := by decide +kernel
theorem dX_idAt_6 : decode (zby mX_idAt) 6 = .ok (.getfield 12, 3) := by decide +kernel
theorem dX_idAt_9 : decode (zby mX_idAt) 9 = .ok (.getfield 115, 3) := by decide +kernel
theorem dX_idAt_12 : decode (zby mX_idAt) 12 = .ok (.if_icmp .lt 13, 3) := by decide +kernel
theorem dX_idAt_15 : decode (zby mX_idAt) 15 = .ok (.new 105, 3) := by decide +kernel
theorem dX_idAt_18 : decode (zby mX_idAt) 18 = .ok (.dup, 1) := by decide +kernel
theorem dX_idAt_19 : decode (zby mX_idAt) 19 = .ok (.ldc 118, 2) := by decide +kernel
theorem dX_idAt_21 : decode (zby mX_idAt) 21 = .ok (.invokespecial 109, 3) := by decide +kernel
theorem dX_idAt_24 : decode (zby mX_idAt) 24 = .ok (.athrow, 1) := by decide +kernel
theorem dX_idAt_25 : decode (zby mX_idAt) 25 = .ok (.aload_n 0, 1) := by decide +kernel
theorem dX_idAt_26 : decode (zby mX_idAt) 26 = .ok (.getfield 12, 3) := by decide +kernel
theorem dX_idAt_29 : decode (zby mX_idAt) 29 = .ok (.getfield 120, 3) := by decide +kernel
theorem dX_idAt_32 : decode (zby mX_idAt) 32 = .ok (.iload_n 1, 1) := by decide +kernel
theorem dX_idAt_33 : decode (zby mX_idAt) 33 = .ok (.aaload, 1) := by decide +kernel
theorem dX_idAt_34 : decode (zby mX_idAt) 34 = .ok (.getfield 124, 3) := by decide +kernel
theorem dX_idAt_37 : decode (zby mX_idAt) 37 = .ok (.ireturn, 1) := by decide +kernel
theorem dX_init_0 : decode (zby mX_init) 0 = .ok (.aload_n 0, 1) := by decide +kernel
theorem dX_init_1 : decode (zby mX_init) 1 = .ok (.invokespecial 3, 3) := by decide +kernel
theorem dX_init_4 : decode (zby mX_init) 4 = .ok (.aload_n 0, 1) := by decide +kernel
theorem dX_init_5 : decode (zby mX_init) 5 = .ok (.new 9, 3) := by decide +kernel
theorem dX_init_8 : decode (zby mX_init) 8 = .ok (.dup, 1) := by decide +kernel
theorem dX_init_9 : decode (zby mX_init) 9 = .ok (.invokespecial 11, 3) := by decide +kernel
theorem dX_init_12 : decode (zby mX_init) 12 = .ok (.putfield 12, 3) := by decide +kernel
theorem dX_init_15 : decode (zby mX_init) 15 = .ok (.aload_n 0, 1) := by decide +kernel
theorem dX_init_16 : decode (zby mX_init) 16 = .ok (.new 9, 3) := by decide +kernel
theorem dX_init_19 : decode (zby mX_init) 19 = .ok (.dup, 1) := by decide +kernel
theorem dX_init_20 : decode (zby mX_init) 20 = .ok (.invokespecial 11, 3) := by decide +kernel
theorem dX_init_23 : decode (zby mX_init) 23 = .ok (.putfield 16, 3) := by decide +kernel
theorem dX_init_26 : decode (zby mX_init) 26 = .ok (.aload_n 0, 1) := by decide +kernel
theorem dX_init_27 : decode (zby mX_init) 27 = .ok (.new 19, 3) := by decide +kernel
theorem dX_init_30 : decode (zby mX_init) 30 = .ok (.dup, 1) := by decide +kernel
theorem dX_init_31 : decode (zby mX_init) 31 = .ok (.invokespecial 21, 3) := by decide +kernel
theorem dX_init_34 : decode (zby mX_init) 34 = .ok (.putfield 22, 3) := by decide +kernel
theorem dX_init_37 : decode (zby mX_init) 37 = .ok (.aload_n 0, 1) := by decide +kernel
theorem dX_init_38 : decode (zby mX_init) 38 = .ok (.new 26, 3) := by decide +kernel
theorem dX_init_41 : decode (zby mX_init) 41 = .ok (.dup, 1) := by decide +kernel
theorem dX_init_42 : decode (zby mX_init) 42 = .ok (.invokespecial 28, 3) := by decide +kernel
theorem dX_init_45 : decode (zby mX_init) 45 = .ok (.putfield 29, 3) := by decide +kernel
theorem dX_init_48 : decode (zby mX_init) 48 = .ok (.aload_n 0, 1) := by decide +kernel
theorem dX_init_49 : decode (zby mX_init) 49 = .ok (.new 33, 3) := by decide +kernel
theorem dX_init_52 : decode (zby mX_init) 52 = .ok (.dup, 1) := by decide +kernel
theorem dX_init_53 : decode (zby mX_init) 53 = .ok (.invokespecial 35, 3) := by decide +kernel
theorem dX_init_56 : decode (zby mX_init) 56 = .ok (.putfield 36, 3) := by decide +kernel
theorem dX_init_59 : decode (zby mX_init) 59 = .ok (.aload_n 0, 1) := by decide +kernel
theorem dX_init_60 : decode (zby mX_init) 60 = .ok (.new 40, 3) := by decide +kernel
theorem dX_init_63 : decode (zby mX_init) 63 = .ok (.dup, 1) := by decide +kernel
theorem dX_init_64 : decode (zby mX_init) 64 = .ok (.invokespecial 42, 3) := by decide +kernel
theorem dX_init_67 : decode (zby mX_init) 67 = .ok (.putfield 43, 3) := by decide +kernel
theorem dX_init_70 : decode (zby mX_init) 70 = .ok (.aload_n 0, 1) := by decide +kernel
theorem dX_init_71 : decode (zby mX_init) 71 = .ok (.new 47, 3) := by decide +kernel
theorem dX_init_74 : decode (zby mX_init) 74 = .ok (.dup, 1) := by decide +kernel
theorem dX_init_75 : decode (zby mX_init) 75 = .ok (.invokespecial 49, 3) := by decide +kernel
theorem dX_init_78 : decode (zby mX_init) 78 = .ok (.putfield 50, 3) := by decide +kernel
theorem dX_init_81 : decode (zby mX_init) 81 = .ok (.aload_n 0, 1) := by decide +kernel
theorem dX_init_82 : decode (zby mX_init) 82 = .ok (.new 54, 3) := by decide +kernel
theorem dX_init_85 : decode (zby mX_init) 85 = .ok (.dup, 1) := by decide +kernel
theorem dX_init_86 : decode (zby mX_init) 86 = .ok (.invokespecial 56, 3) := by decide +kernel
theorem dX_init_89 : decode (zby mX_init) 89 = .ok (.putfield 57, 3) := by decide +kernel
theorem dX_init_92 : decode (zby mX_init) 92 = .ok (.aload_n 0, 1) := by decide +kernel
theorem dX_init_93 : decode (zby mX_init) 93 = .ok (.iconst 0, 1) := by decide +kernel
theorem dX_init_94 : decode (zby mX_init) 94 = .ok (.putfield 61, 3) := by decide +kernel
theorem dX_init_97 : decode (zby mX_init) 97 = .ok (.aload_n 0, 1) := by decide +kernel
theorem dX_init_98 : decode (zby mX_init) 98 = .ok (.iconst 0, 1) := by decide +kernel
theorem dX_init_99 : decode (zby mX_init) 99 = .ok (.putfield 65, 3) := by decide +kernel
theorem dX_init_102 : decode (zby mX_init) 102 = .ok (.aload_n 0, 1) := by decide +kernel
theorem dX_init_103 : decode (zby mX_init) 103 = .ok (.iconst (-1), 1) := by decide +kernel
theorem dX_init_104 : decode (zby mX_init) 104 = .ok (.putfield 68, 3) := by decide +kernel
theorem dX_init_107 : decode (zby mX_init) 107 = .ok (.aload_n 0, 1) := by decide +kernel
theorem dX_init_108 : decode (zby mX_init) 108 = .ok (.iconst (-1), 1) := by decide +kernel
theorem dX_init_109 : decode (zby mX_init) 109 = .ok (.putfield 72, 3) := by decide +kernel
theorem dX_init_112 : decode (zby mX_init) 112 = .ok (.return_, 1) := by decide +kernel
theorem dX_isCode_0 : decode (zby mX_isCode) 0 = .ok (.iload_n 0, 1) := by decide +kernel
theorem dX_isCode_1 : decode (zby mX_isCode) 1 = .ok (.ifCond .lt 14, 3) := by decide +kernel
theorem dX_isCode_4 : decode (zby mX_isCode) 4 = .ok (.iload_n 0, 1) := by decide +kernel
theorem dX_isCode_5 : decode (zby mX_isCode) 5 = .ok (.sipush 1000, 3) := by decide +kernel
theorem dX_isCode_8 : decode (zby mX_isCode) 8 = .ok (.if_icmp .ge 7, 3) := by decide +kernel
theorem dX_isCode_11 : decode (zby mX_isCode) 11 = .ok (.iconst 1, 1) := by decide +kernel
theorem dX_isCode_12 : decode (zby mX_isCode) 12 = .ok (.goto 4, 3) := by decide +kernel
theorem dX_isCode_15 : decode (zby mX_isCode) 15 = .ok (.iconst 0, 1) := by decide +kernel
theorem dX_isCode_16 : decode (zby mX_isCode) 16 = .ok (.ireturn, 1) := by decide +kernel
theorem dX_isConsistent_0 : decode (zby mX_isConsistent) 0 = .ok (.aload_n 0, 1) := by decide +kernel
theorem dX_isConsistent_1 : decode (zby mX_isConsistent) 1 = .ok (.invokevirtual 274, 3) := by decide +kernel
theorem dX_isConsistent_4 : decode (zby mX_isConsistent) 4 = .ok (.ifCond .eq 28, 3) := by decide +kernel
theorem dX_isConsistent_7 : decode (zby mX_isConsistent) 7 = .ok (.aload_n 0, 1) := by decide +kernel
theorem dX_isConsistent_8 : decode (zby mX_isConsistent) 8 = .ok (.invokevirtual 277, 3) := by decide +kernel
theorem dX_isConsistent_11 : decode (zby mX_isConsistent) 11 = .ok (.ifCond .eq 21, 3) := by decide +kernel
theorem dX_isConsistent_14 : decode (zby mX_isConsistent) 14 = .ok (.aload_n 0, 1) := by decide +kernel
theorem dX_isConsistent_15 : decode (zby mX_isConsistent) 15 = .ok (.invokevirtual 280, 3) := by decide +kernel
theorem dX_isConsistent_18 : decode (zby mX_isConsistent) 18 = .ok (.ifCond .eq 14, 3) := by decide +kernel
theorem dX_isConsistent_21 : decode (zby mX_isConsistent) 21 = .ok (.aload_n 0, 1) := by decide +kernel
theorem dX_isConsistent_22 : decode (zby mX_isConsistent) 22 = .ok (.invokevirtual 283, 3) := by decide +kernel
theorem dX_isConsistent_25 : decode (zby mX_isConsistent) 25 = .ok (.ifCond .eq 7, 3) := by decide +kernel
theorem dX_isConsistent_28 : decode (zby mX_isConsistent) 28 = .ok (.iconst 1, 1) := by decide +kernel
theorem dX_isConsistent_29 : decode (zby mX_isConsistent) 29 = .ok (.goto 4, 3) := by decide +kernel
theorem dX_isConsistent_32 : decode (zby mX_isConsistent) 32 = .ok (.iconst 0, 1) := by decide +kernel
theorem dX_isConsistent_33 : decode (zby mX_isConsistent) 33 = .ok (.ireturn, 1) := by decide +kernel
theorem dX_isPrefix_0 : decode (zby mX_isPrefix) 0 = .ok (.iload_n 0, 1) := by decide +kernel
theorem dX_isPrefix_1 : decode (zby mX_isPrefix) 1 = .ok (.ifCond .lt 24, 3) := by decide +kernel
theorem dX_isPrefix_4 : decode (zby mX_isPrefix) 4 = .ok (.iload_n 0, 1) := by decide +kernel
theorem dX_isPrefix_5 : decode (zby mX_isPrefix) 5 = .ok (.iconst 3, 1) := by decide +kernel
theorem dX_isPrefix_6 : decode (zby mX_isPrefix) 6 = .ok (.if_icmp .gt 19, 3) := by decide +kernel
theorem dX_isPrefix_9 : decode (zby mX_isPrefix) 9 = .ok (.iload_n 1, 1) := by decide +kernel
theorem dX_isPrefix_10 : decode (zby mX_isPrefix) 10 = .ok (.ifCond .lt 15, 3) := by decide +kernel
theorem dX_isPrefix_13 : decode (zby mX_isPrefix) 13 = .ok (.iload_n 1, 1) := by decide +kernel
theorem dX_isPrefix_14 : decode (zby mX_isPrefix) 14 = .ok (.iload_n 0, 1) := by decide +kernel
theorem dX_isPrefix_15 : decode (zby mX_isPrefix) 15 = .ok (.invokestatic 394, 3) := by decide +kernel
theorem dX_isPrefix_18 : decode (zby mX_isPrefix) 18 = .ok (.ifCond .ne 7, 3) := by decide +kernel
theorem dX_isPrefix_21 : decode (zby mX_isPrefix) 21 = .ok (.iconst 1, 1) := by decide +kernel
theorem dX_isPrefix_22 : decode (zby mX_isPrefix) 22 = .ok (.goto 4, 3) := by decide +kernel
theorem dX_isPrefix_25 : decode (zby mX_isPrefix) 25 = .ok (.iconst 0, 1) := by decide +kernel
theorem dX_isPrefix_26 : decode (zby mX_isPrefix) 26 = .ok (.ireturn, 1) := by decide +kernel
theorem dX_joinSegments_0 : decode (zby mX_joinSegments) 0 = .ok (.aload_n 0, 1) := by decide +kernel
theorem dX_joinSegments_1 : decode (zby mX_joinSegments) 1 = .ok (.bipush 7, 2) := by decide +kernel
theorem dX_joinSegments_3 : decode (zby mX_joinSegments) 3 = .ok (.iload_n 1, 1) := by decide +kernel
theorem dX_joinSegments_4 : decode (zby mX_joinSegments) 4 = .ok (.iconst 0, 1) := by decide +kernel
theorem dX_joinSegments_5 : decode (zby mX_joinSegments) 5 = .ok (.invokevirtual 75, 3) := by decide +kernel
theorem dX_joinSegments_8 : decode (zby mX_joinSegments) 8 = .ok (.ireturn, 1) := by decide +kernel
theorem dX_lifetimeOf_0 : decode (zby mX_lifetimeOf) 0 = .ok (.aload_n 0, 1) := by decide +kernel
theorem dX_lifetimeOf_1 : decode (zby mX_lifetimeOf) 1 = .ok (.iload_n 1, 1) := by decide +kernel
theorem dX_lifetimeOf_2 : decode (zby mX_lifetimeOf) 2 = .ok (.invokevirtual 127, 3) := by decide +kernel
theorem dX_lifetimeOf_5 : decode (zby mX_lifetimeOf) 5 = .ok (.invokevirtual 140, 3) := by decide +kernel
theorem dX_lifetimeOf_8 : decode (zby mX_lifetimeOf) 8 = .ok (.ireturn, 1) := by decide +kernel
theorem dX_lineChar_0 : decode (zby mX_lineChar) 0 = .ok (.iload_n 1, 1) := by decide +kernel
theorem dX_lineChar_1 : decode (zby mX_lineChar) 1 = .ok (.ifCond .lt 14, 3) := by decide +kernel
theorem dX_lineChar_4 : decode (zby mX_lineChar) 4 = .ok (.iload_n 1, 1) := by decide +kernel
theorem dX_lineChar_5 : decode (zby mX_lineChar) 5 = .ok (.aload_n 0, 1) := by decide +kernel
theorem dX_lineChar_6 : decode (zby mX_lineChar) 6 = .ok (.getfield 50, 3) := by decide +kernel
theorem dX_lineChar_9 : decode (zby mX_lineChar) 9 = .ok (.getfield 318, 3) := by decide +kernel
theorem dX_lineChar_12 : decode (zby mX_lineChar) 12 = .ok (.if_icmp .lt 14, 3) := by decide +kernel
theorem dX_lineChar_15 : decode (zby mX_lineChar) 15 = .ok (.new 105, 3) := by decide +kernel
theorem dX_lineChar_18 : decode (zby mX_lineChar) 18 = .ok (.dup, 1) := by decide +kernel
theorem dX_lineChar_19 : decode (zby mX_lineChar) 19 = .ok (.ldc_w 327, 3) := by decide +kernel
theorem dX_lineChar_22 : decode (zby mX_lineChar) 22 = .ok (.invokespecial 109, 3) := by decide +kernel
theorem dX_lineChar_25 : decode (zby mX_lineChar) 25 = .ok (.athrow, 1) := by decide +kernel
theorem dX_lineChar_26 : decode (zby mX_lineChar) 26 = .ok (.aload_n 0, 1) := by decide +kernel
theorem dX_lineChar_27 : decode (zby mX_lineChar) 27 = .ok (.getfield 50, 3) := by decide +kernel
theorem dX_lineChar_30 : decode (zby mX_lineChar) 30 = .ok (.getfield 329, 3) := by decide +kernel
theorem dX_lineChar_33 : decode (zby mX_lineChar) 33 = .ok (.iload_n 1, 1) := by decide +kernel
theorem dX_lineChar_34 : decode (zby mX_lineChar) 34 = .ok (.caload, 1) := by decide +kernel
theorem dX_lineChar_35 : decode (zby mX_lineChar) 35 = .ok (.ireturn, 1) := by decide +kernel
theorem dX_matches_0 : decode (zby mX_matches) 0 = .ok (.aload_n 0, 1) := by decide +kernel
theorem dX_matches_1 : decode (zby mX_matches) 1 = .ok (.iload_n 1, 1) := by decide +kernel
theorem dX_matches_2 : decode (zby mX_matches) 2 = .ok (.invokevirtual 127, 3) := by decide +kernel
theorem dX_matches_5 : decode (zby mX_matches) 5 = .ok (.astore 4, 2) := by decide +kernel
theorem dX_matches_7 : decode (zby mX_matches) 7 = .ok (.iload_n 2, 1) := by decide +kernel
theorem dX_matches_8 : decode (zby mX_matches) 8 = .ok (.iload_n 3, 1) := by decide +kernel
theorem dX_matches_9 : decode (zby mX_matches) 9 = .ok (.invokestatic 161, 3) := by decide +kernel
theorem dX_matches_12 : decode (zby mX_matches) 12 = .ok (.aload 4, 2) := by decide +kernel
theorem dX_matches_14 : decode (zby mX_matches) 14 = .ok (.iload_n 2, 1) := by decide +kernel
theorem dX_matches_15 : decode (zby mX_matches) 15 = .ok (.iload_n 3, 1) := by decide +kernel
theorem dX_matches_16 : decode (zby mX_matches) 16 = .ok (.invokevirtual 165, 3) := by decide +kernel
theorem dX_matches_19 : decode (zby mX_matches) 19 = .ok (.ifCond .le 7, 3) := by decide +kernel
theorem dX_matches_22 : decode (zby mX_matches) 22 = .ok (.iconst 1, 1) := by decide +kernel
theorem dX_matches_23 : decode (zby mX_matches) 23 = .ok (.goto 4, 3) := by decide +kernel
theorem dX_matches_26 : decode (zby mX_matches) 26 = .ok (.iconst 0, 1) := by decide +kernel
theorem dX_matches_27 : decode (zby mX_matches) 27 = .ok (.ireturn, 1) := by decide +kernel
theorem dX_meanCodes_0 : decode (zby mX_meanCodes) 0 = .ok (.iconst 0, 1) := by decide +kernel
theorem dX_meanCodes_1 : decode (zby mX_meanCodes) 1 = .ok (.istore_n 1, 1) := by decide +kernel
theorem dX_meanCodes_2 : decode (zby mX_meanCodes) 2 = .ok (.iconst 0, 1) := by decide +kernel
theorem dX_meanCodes_3 : decode (zby mX_meanCodes) 3 = .ok (.istore_n 2, 1) := by decide +kernel
theorem dX_meanCodes_4 : decode (zby mX_meanCodes) 4 = .ok (.iload_n 2, 1) := by decide +kernel
theorem dX_meanCodes_5 : decode (zby mX_meanCodes) 5 = .ok (.aload_n 0, 1) := by decide +kernel
theorem dX_meanCodes_6 : decode (zby mX_meanCodes) 6 = .ok (.getfield 12, 3) := by decide +kernel
theorem dX_meanCodes_9 : decode (zby mX_meanCodes) 9 = .ok (.getfield 115, 3) := by decide +kernel
theorem dX_meanCodes_12 : decode (zby mX_meanCodes) 12 = .ok (.if_icmp .ge 24, 3) := by decide +kernel
theorem dX_meanCodes_15 : decode (zby mX_meanCodes) 15 = .ok (.iload_n 1, 1) := by decide +kernel
theorem dX_meanCodes_16 : decode (zby mX_meanCodes) 16 = .ok (.aload_n 0, 1) := by decide +kernel
theorem dX_meanCodes_17 : decode (zby mX_meanCodes) 17 = .ok (.getfield 12, 3) := by decide +kernel
theorem dX_meanCodes_20 : decode (zby mX_meanCodes) 20 = .ok (.getfield 120, 3) := by decide +kernel
theorem dX_meanCodes_23 : decode (zby mX_meanCodes) 23 = .ok (.iload_n 2, 1) := by decide +kernel
theorem dX_meanCodes_24 : decode (zby mX_meanCodes) 24 = .ok (.aaload, 1) := by decide +kernel
theorem dX_meanCodes_25 : decode (zby mX_meanCodes) 25 = .ok (.getfield 147, 3) := by decide +kernel
theorem dX_meanCodes_28 : decode (zby mX_meanCodes) 28 = .ok (.iadd, 1) := by decide +kernel
theorem dX_meanCodes_29 : decode (zby mX_meanCodes) 29 = .ok (.istore_n 1, 1) := by decide +kernel
theorem dX_meanCodes_30 : decode (zby mX_meanCodes) 30 = .ok (.iinc 2 1, 3) := by decide +kernel
theorem dX_meanCodes_33 : decode (zby mX_meanCodes) 33 = .ok (.goto (-29), 3) := by decide +kernel
theorem dX_meanCodes_36 : decode (zby mX_meanCodes) 36 = .ok (.aload_n 0, 1) := by decide +kernel
theorem dX_meanCodes_37 : decode (zby mX_meanCodes) 37 = .ok (.getfield 12, 3) := by decide +kernel
theorem dX_meanCodes_40 : decode (zby mX_meanCodes) 40 = .ok (.getfield 115, 3) := by decide +kernel
theorem dX_meanCodes_43 : decode (zby mX_meanCodes) 43 = .ok (.ifCond .ne 14, 3) := by decide +kernel
theorem dX_meanCodes_46 : decode (zby mX_meanCodes) 46 = .ok (.new 267, 3) := by decide +kernel
theorem dX_meanCodes_49 : decode (zby mX_meanCodes) 49 = .ok (.dup, 1) := by decide +kernel
theorem dX_meanCodes_50 : decode (zby mX_meanCodes) 50 = .ok (.ldc_w 269, 3) := by decide +kernel
theorem dX_meanCodes_53 : decode (zby mX_meanCodes) 53 = .ok (.invokespecial 271, 3) := by decide +kernel
theorem dX_meanCodes_56 : decode (zby mX_meanCodes) 56 = .ok (.athrow, 1) := by decide +kernel
theorem dX_meanCodes_57 : decode (zby mX_meanCodes) 57 = .ok (.iload_n 1, 1) := by decide +kernel
theorem dX_meanCodes_58 : decode (zby mX_meanCodes) 58 = .ok (.i2d, 1) := by decide +kernel
theorem dX_meanCodes_59 : decode (zby mX_meanCodes) 59 = .ok (.aload_n 0, 1) := by decide +kernel
theorem dX_meanCodes_60 : decode (zby mX_meanCodes) 60 = .ok (.getfield 12, 3) := by decide +kernel
theorem dX_meanCodes_63 : decode (zby mX_meanCodes) 63 = .ok (.getfield 115, 3) := by decide +kernel
theorem dX_meanCodes_66 : decode (zby mX_meanCodes) 66 = .ok (.i2d, 1) := by decide +kernel
theorem dX_meanCodes_67 : decode (zby mX_meanCodes) 67 = .ok (.ddiv, 1) := by decide +kernel
theorem dX_meanCodes_68 : decode (zby mX_meanCodes) 68 = .ok (.dreturn, 1) := by decide +kernel
theorem dX_merge_0 : decode (zby mX_merge) 0 = .ok (.aload_n 0, 1) := by decide +kernel
theorem dX_merge_1 : decode (zby mX_merge) 1 = .ok (.iconst 5, 1) := by decide +kernel
theorem dX_merge_2 : decode (zby mX_merge) 2 = .ok (.iload_n 1, 1) := by decide +kernel
theorem dX_merge_3 : decode (zby mX_merge) 3 = .ok (.iload_n 2, 1) := by decide +kernel
theorem dX_merge_4 : decode (zby mX_merge) 4 = .ok (.invokevirtual 75, 3) := by decide +kernel
theorem dX_merge_7 : decode (zby mX_merge) 7 = .ok (.ireturn, 1) := by decide +kernel
theorem dX_mergedTotal_0 : decode (zby mX_mergedTotal) 0 = .ok (.aload_n 0, 1) := by decide +kernel
theorem dX_mergedTotal_1 : decode (zby mX_mergedTotal) 1 = .ok (.getfield 12, 3) := by decide +kernel
theorem dX_mergedTotal_4 : decode (zby mX_mergedTotal) 4 = .ok (.getfield 261, 3) := by decide +kernel
theorem dX_mergedTotal_7 : decode (zby mX_mergedTotal) 7 = .ok (.ireturn, 1) := by decide +kernel
theorem dX_mostSimilar_0 : decode (zby mX_mostSimilar) 0 = .ok (.aload_n 0, 1) := by decide +kernel
theorem dX_mostSimilar_1 : decode (zby mX_mostSimilar) 1 = .ok (.iload_n 1, 1) := by decide +kernel
theorem dX_mostSimilar_2 : decode (zby mX_mostSimilar) 2 = .ok (.invokevirtual 127, 3) := by decide +kernel
theorem dX_mostSimilar_5 : decode (zby mX_mostSimilar) 5 = .ok (.astore_n 2, 1) := by decide +kernel
theorem dX_mostSimilar_6 : decode (zby mX_mostSimilar) 6 = .ok (.iconst (-1), 1) := by decide +kernel
theorem dX_mostSimilar_7 : decode (zby mX_mostSimilar) 7 = .ok (.istore_n 3, 1) := by decide +kernel
theorem dX_mostSimilar_8 : decode (zby mX_mostSimilar) 8 = .ok (.iconst (-1), 1) := by decide +kernel
theorem dX_mostSimilar_9 : decode (zby mX_mostSimilar) 9 = .ok (.istore 4, 2) := by decide +kernel
theorem dX_mostSimilar_11 : decode (zby mX_mostSimilar) 11 = .ok (.iconst 0, 1) := by decide +kernel
theorem dX_mostSimilar_12 : decode (zby mX_mostSimilar) 12 = .ok (.istore 5, 2) := by decide +kernel
theorem dX_mostSimilar_14 : decode (zby mX_mostSimilar) 14 = .ok (.iload 5, 2) := by decide +kernel
theorem dX_mostSimilar_16 : decode (zby mX_mostSimilar) 16 = .ok (.aload_n 0, 1) := by decide +kernel
theorem dX_mostSimilar_17 : decode (zby mX_mostSimilar) 17 = .ok (.getfield 12, 3) := by decide +kernel
theorem dX_mostSimilar_20 : decode (zby mX_mostSimilar) 20 = .ok (.getfield 115, 3) := by decide +kernel
theorem dX_mostSimilar_23 : decode (zby mX_mostSimilar) 23 = .ok (.if_icmp .ge 55, 3) := by decide +kernel
theorem dX_mostSimilar_26 : decode (zby mX_mostSimilar) 26 = .ok (.aload_n 0, 1) := by decide +kernel
theorem dX_mostSimilar_27 : decode (zby mX_mostSimilar) 27 = .ok (.getfield 12, 3) := by decide +kernel
theorem dX_mostSimilar_30 : decode (zby mX_mostSimilar) 30 = .ok (.getfield 120, 3) := by decide +kernel
theorem dX_mostSimilar_33 : decode (zby mX_mostSimilar) 33 = .ok (.iload 5, 2) := by decide +kernel
theorem dX_mostSimilar_35 : decode (zby mX_mostSimilar) 35 = .ok (.aaload, 1) := by decide +kernel
theorem dX_mostSimilar_36 : decode (zby mX_mostSimilar) 36 = .ok (.astore 6, 2) := by decide +kernel
theorem dX_mostSimilar_38 : decode (zby mX_mostSimilar) 38 = .ok (.aload_n 2, 1) := by decide +kernel
theorem dX_mostSimilar_39 : decode (zby mX_mostSimilar) 39 = .ok (.aload 6, 2) := by decide +kernel
theorem dX_mostSimilar_41 : decode (zby mX_mostSimilar) 41 = .ok (.invokevirtual 233, 3) := by decide +kernel
theorem dX_mostSimilar_44 : decode (zby mX_mostSimilar) 44 = .ok (.istore 7, 2) := by decide +kernel
theorem dX_mostSimilar_46 : decode (zby mX_mostSimilar) 46 = .ok (.aload 6, 2) := by decide +kernel
theorem dX_mostSimilar_48 : decode (zby mX_mostSimilar) 48 = .ok (.getfield 124, 3) := by decide +kernel
theorem dX_mostSimilar_51 : decode (zby mX_mostSimilar) 51 = .ok (.iload_n 1, 1) := by decide +kernel
theorem dX_mostSimilar_52 : decode (zby mX_mostSimilar) 52 = .ok (.if_icmp .eq 20, 3) := by decide +kernel
theorem dX_mostSimilar_55 : decode (zby mX_mostSimilar) 55 = .ok (.iload 7, 2) := by decide +kernel
theorem dX_mostSimilar_57 : decode (zby mX_mostSimilar) 57 = .ok (.iload 4, 2) := by decide +kernel
theorem dX_mostSimilar_59 : decode (zby mX_mostSimilar) 59 = .ok (.if_icmp .le 13, 3) := by decide +kernel
theorem dX_mostSimilar_62 : decode (zby mX_mostSimilar) 62 = .ok (.aload 6, 2) := by decide +kernel
theorem dX_mostSimilar_64 : decode (zby mX_mostSimilar) 64 = .ok (.getfield 124, 3) := by decide +kernel
theorem dX_mostSimilar_67 : decode (zby mX_mostSimilar) 67 = .ok (.istore_n 3, 1) := by decide +kernel
theorem dX_mostSimilar_68 : decode (zby mX_mostSimilar) 68 = .ok (.iload 7, 2) := by decide +kernel
theorem dX_mostSimilar_70 : decode (zby mX_mostSimilar) 70 = .ok (.istore 4, 2) := by decide +kernel
theorem dX_mostSimilar_72 : decode (zby mX_mostSimilar) 72 = .ok (.iinc 5 1, 3) := by decide +kernel
theorem dX_mostSimilar_75 : decode (zby mX_mostSimilar) 75 = .ok (.goto (-61), 3) := by decide +kernel
theorem dX_mostSimilar_78 : decode (zby mX_mostSimilar) 78 = .ok (.iload_n 3, 1) := by decide +kernel
theorem dX_mostSimilar_79 : decode (zby mX_mostSimilar) 79 = .ok (.iconst (-1), 1) := by decide +kernel
theorem dX_mostSimilar_80 : decode (zby mX_mostSimilar) 80 = .ok (.if_icmp .ne 13, 3) := by decide +kernel
theorem dX_mostSimilar_83 : decode (zby mX_mostSimilar) 83 = .ok (.new 93, 3) := by decide +kernel
theorem dX_mostSimilar_86 : decode (zby mX_mostSimilar) 86 = .ok (.dup, 1) := by decide +kernel
theorem dX_mostSimilar_87 : decode (zby mX_mostSimilar) 87 = .ok (.ldc 237, 2) := by decide +kernel
theorem dX_mostSimilar_89 : decode (zby mX_mostSimilar) 89 = .ok (.invokespecial 97, 3) := by decide +kernel
theorem dX_mostSimilar_92 : decode (zby mX_mostSimilar) 92 = .ok (.athrow, 1) := by decide +kernel
theorem dX_mostSimilar_93 : decode (zby mX_mostSimilar) 93 = .ok (.iload_n 3, 1) := by decide +kernel
theorem dX_mostSimilar_94 : decode (zby mX_mostSimilar) 94 = .ok (.ireturn, 1) := by decide +kernel
theorem dX_nextDigits_0 : decode (zby mX_nextDigits) 0 = .ok (.iload_n 1, 1) := by decide +kernel
theorem dX_nextDigits_1 : decode (zby mX_nextDigits) 1 = .ok (.iload_n 2, 1) := by decide +kernel
theorem dX_nextDigits_2 : decode (zby mX_nextDigits) 2 = .ok (.invokestatic 161, 3) := by decide +kernel
theorem dX_nextDigits_5 : decode (zby mX_nextDigits) 5 = .ok (.iload_n 1, 1) := by decide +kernel
theorem dX_nextDigits_6 : decode (zby mX_nextDigits) 6 = .ok (.iconst 3, 1) := by decide +kernel
theorem dX_nextDigits_7 : decode (zby mX_nextDigits) 7 = .ok (.if_icmp .ne 13, 3) := by decide +kernel
theorem dX_nextDigits_10 : decode (zby mX_nextDigits) 10 = .ok (.new 100, 3) := by decide +kernel
theorem dX_nextDigits_13 : decode (zby mX_nextDigits) 13 = .ok (.dup, 1) := by decide +kernel
theorem dX_nextDigits_14 : decode (zby mX_nextDigits) 14 = .ok (.ldc 202, 2) := by decide +kernel
theorem dX_nextDigits_16 : decode (zby mX_nextDigits) 16 = .ok (.invokespecial 104, 3) := by decide +kernel
theorem dX_nextDigits_19 : decode (zby mX_nextDigits) 19 = .ok (.athrow, 1) := by decide +kernel
theorem dX_nextDigits_20 : decode (zby mX_nextDigits) 20 = .ok (.aload_n 0, 1) := by decide +kernel
theorem dX_nextDigits_21 : decode (zby mX_nextDigits) 21 = .ok (.invokevirtual 175, 3) := by decide +kernel
theorem dX_nextDigits_24 : decode (zby mX_nextDigits) 24 = .ok (.iload_n 1, 1) := by decide +kernel
theorem dX_nextDigits_25 : decode (zby mX_nextDigits) 25 = .ok (.iload_n 2, 1) := by decide +kernel
theorem dX_nextDigits_26 : decode (zby mX_nextDigits) 26 = .ok (.invokestatic 179, 3) := by decide +kernel
theorem dX_nextDigits_29 : decode (zby mX_nextDigits) 29 = .ok (.invokevirtual 204, 3) := by decide +kernel
theorem dX_nextDigits_32 : decode (zby mX_nextDigits) 32 = .ok (.ireturn, 1) := by decide +kernel
theorem dX_pass_0 : decode (zby mX_pass) 0 = .ok (.aload_n 0, 1) := by decide +kernel
theorem dX_pass_1 : decode (zby mX_pass) 1 = .ok (.bipush 9, 2) := by decide +kernel
theorem dX_pass_3 : decode (zby mX_pass) 3 = .ok (.iload_n 1, 1) := by decide +kernel
theorem dX_pass_4 : decode (zby mX_pass) 4 = .ok (.iconst 0, 1) := by decide +kernel
theorem dX_pass_5 : decode (zby mX_pass) 5 = .ok (.invokevirtual 75, 3) := by decide +kernel
theorem dX_pass_8 : decode (zby mX_pass) 8 = .ok (.ireturn, 1) := by decide +kernel
theorem dX_removeCode_0 : decode (zby mX_removeCode) 0 = .ok (.aload_n 0, 1) := by decide +kernel
theorem dX_removeCode_1 : decode (zby mX_removeCode) 1 = .ok (.iconst 2, 1) := by decide +kernel
theorem dX_removeCode_2 : decode (zby mX_removeCode) 2 = .ok (.iload_n 1, 1) := by decide +kernel
theorem dX_removeCode_3 : decode (zby mX_removeCode) 3 = .ok (.iload_n 2, 1) := by decide +kernel
theorem dX_removeCode_4 : decode (zby mX_removeCode) 4 = .ok (.invokevirtual 75, 3) := by decide +kernel
theorem dX_removeCode_7 : decode (zby mX_removeCode) 7 = .ok (.ireturn, 1) := by decide +kernel
theorem dX_removeEntry_0 : decode (zby mX_removeEntry) 0 = .ok (.aload_n 0, 1) := by decide +kernel
theorem dX_removeEntry_1 : decode (zby mX_removeEntry) 1 = .ok (.iconst 3, 1) := by decide +kernel
theorem dX_removeEntry_2 : decode (zby mX_removeEntry) 2 = .ok (.iload_n 1, 1) := by decide +kernel
theorem dX_removeEntry_3 : decode (zby mX_removeEntry) 3 = .ok (.iconst 0, 1) := by decide +kernel
theorem dX_removeEntry_4 : decode (zby mX_removeEntry) 4 = .ok (.invokevirtual 75, 3) := by decide +kernel
theorem dX_removeEntry_7 : decode (zby mX_removeEntry) 7 = .ok (.ireturn, 1) := by decide +kernel
theorem dX_removedTotal_0 : decode (zby mX_removedTotal) 0 = .ok (.aload_n 0, 1) := by decide +kernel
theorem dX_removedTotal_1 : decode (zby mX_removedTotal) 1 = .ok (.getfield 12, 3) := by decide +kernel
theorem dX_removedTotal_4 : decode (zby mX_removedTotal) 4 = .ok (.getfield 258, 3) := by decide +kernel
theorem dX_removedTotal_7 : decode (zby mX_removedTotal) 7 = .ok (.ireturn, 1) := by decide +kernel
theorem dX_requireCode_0 : decode (zby mX_requireCode) 0 = .ok (.iload_n 0, 1) := by decide +kernel
theorem dX_requireCode_1 : decode (zby mX_requireCode) 1 = .ok (.invokestatic 385, 3) := by decide +kernel
theorem dX_requireCode_4 : decode (zby mX_requireCode) 4 = .ok (.ifCond .ne 13, 3) := by decide +kernel
theorem dX_requireCode_7 : decode (zby mX_requireCode) 7 = .ok (.new 100, 3) := by decide +kernel
theorem dX_requireCode_10 : decode (zby mX_requireCode) 10 = .ok (.dup, 1) := by decide +kernel
theorem dX_requireCode_11 : decode (zby mX_requireCode) 11 = .ok (.ldc 218, 2) := by decide +kernel
theorem dX_requireCode_13 : decode (zby mX_requireCode) 13 = .ok (.invokespecial 104, 3) := by decide +kernel
theorem dX_requireCode_16 : decode (zby mX_requireCode) 16 = .ok (.athrow, 1) := by decide +kernel
theorem dX_requireCode_17 : decode (zby mX_requireCode) 17 = .ok (.return_, 1) := by decide +kernel
theorem dX_requirePrefix_0 : decode (zby mX_requirePrefix) 0 = .ok (.iload_n 0, 1) := by decide +kernel
theorem dX_requirePrefix_1 : decode (zby mX_requirePrefix) 1 = .ok (.iload_n 1, 1) := by decide +kernel
theorem dX_requirePrefix_2 : decode (zby mX_requirePrefix) 2 = .ok (.invokestatic 388, 3) := by decide +kernel
theorem dX_requirePrefix_5 : decode (zby mX_requirePrefix) 5 = .ok (.ifCond .ne 14, 3) := by decide +kernel
theorem dX_requirePrefix_8 : decode (zby mX_requirePrefix) 8 = .ok (.new 100, 3) := by decide +kernel
theorem dX_requirePrefix_11 : decode (zby mX_requirePrefix) 11 = .ok (.dup, 1) := by decide +kernel
theorem dX_requirePrefix_12 : decode (zby mX_requirePrefix) 12 = .ok (.ldc_w 392, 3) := by decide +kernel
theorem dX_requirePrefix_15 : decode (zby mX_requirePrefix) 15 = .ok (.invokespecial 104, 3) := by decide +kernel
theorem dX_requirePrefix_18 : decode (zby mX_requirePrefix) 18 = .ok (.athrow, 1) := by decide +kernel
theorem dX_requirePrefix_19 : decode (zby mX_requirePrefix) 19 = .ok (.return_, 1) := by decide +kernel
theorem dX_restore_0 : decode (zby mX_restore) 0 = .ok (.aload_n 0, 1) := by decide +kernel
theorem dX_restore_1 : decode (zby mX_restore) 1 = .ok (.getfield 65, 3) := by decide +kernel
theorem dX_restore_4 : decode (zby mX_restore) 4 = .ok (.ifCond .ne 14, 3) := by decide +kernel
theorem dX_restore_7 : decode (zby mX_restore) 7 = .ok (.new 110, 3) := by decide +kernel
theorem dX_restore_10 : decode (zby mX_restore) 10 = .ok (.dup, 1) := by decide +kernel
theorem dX_restore_11 : decode (zby mX_restore) 11 = .ok (.ldc_w 380, 3) := by decide +kernel
theorem dX_restore_14 : decode (zby mX_restore) 14 = .ok (.invokespecial 114, 3) := by decide +kernel
theorem dX_restore_17 : decode (zby mX_restore) 17 = .ok (.athrow, 1) := by decide +kernel
theorem dX_restore_18 : decode (zby mX_restore) 18 = .ok (.aload_n 0, 1) := by decide +kernel
theorem dX_restore_19 : decode (zby mX_restore) 19 = .ok (.getfield 12, 3) := by decide +kernel
theorem dX_restore_22 : decode (zby mX_restore) 22 = .ok (.aload_n 0, 1) := by decide +kernel
theorem dX_restore_23 : decode (zby mX_restore) 23 = .ok (.getfield 16, 3) := by decide +kernel
theorem dX_restore_26 : decode (zby mX_restore) 26 = .ok (.invokevirtual 378, 3) := by decide +kernel
theorem dX_restore_29 : decode (zby mX_restore) 29 = .ok (.aload_n 0, 1) := by decide +kernel
theorem dX_restore_30 : decode (zby mX_restore) 30 = .ok (.getfield 22, 3) := by decide +kernel
theorem dX_restore_33 : decode (zby mX_restore) 33 = .ok (.invokevirtual 382, 3) := by decide +kernel
theorem dX_restore_36 : decode (zby mX_restore) 36 = .ok (.aload_n 0, 1) := by decide +kernel
theorem dX_restore_37 : decode (zby mX_restore) 37 = .ok (.iconst 1, 1) := by decide +kernel
theorem dX_restore_38 : decode (zby mX_restore) 38 = .ok (.putfield 61, 3) := by decide +kernel
theorem dX_restore_41 : decode (zby mX_restore) 41 = .ok (.aload_n 0, 1) := by decide +kernel
theorem dX_restore_42 : decode (zby mX_restore) 42 = .ok (.getfield 12, 3) := by decide +kernel
theorem dX_restore_45 : decode (zby mX_restore) 45 = .ok (.getfield 115, 3) := by decide +kernel
theorem dX_restore_48 : decode (zby mX_restore) 48 = .ok (.ireturn, 1) := by decide +kernel
theorem dX_resultAt_0 : decode (zby mX_resultAt) 0 = .ok (.iload_n 1, 1) := by decide +kernel
theorem dX_resultAt_1 : decode (zby mX_resultAt) 1 = .ok (.iload_n 2, 1) := by decide +kernel
theorem dX_resultAt_2 : decode (zby mX_resultAt) 2 = .ok (.invokestatic 161, 3) := by decide +kernel
theorem dX_resultAt_5 : decode (zby mX_resultAt) 5 = .ok (.aload_n 0, 1) := by decide +kernel
theorem dX_resultAt_6 : decode (zby mX_resultAt) 6 = .ok (.getfield 36, 3) := by decide +kernel
theorem dX_resultAt_9 : decode (zby mX_resultAt) 9 = .ok (.aload_n 0, 1) := by decide +kernel
theorem dX_resultAt_10 : decode (zby mX_resultAt) 10 = .ok (.getfield 12, 3) := by decide +kernel
theorem dX_resultAt_13 : decode (zby mX_resultAt) 13 = .ok (.iload_n 1, 1) := by decide +kernel
theorem dX_resultAt_14 : decode (zby mX_resultAt) 14 = .ok (.iload_n 2, 1) := by decide +kernel
theorem dX_resultAt_15 : decode (zby mX_resultAt) 15 = .ok (.invokevirtual 186, 3) := by decide +kernel
theorem dX_resultAt_18 : decode (zby mX_resultAt) 18 = .ok (.iload_n 3, 1) := by decide +kernel
theorem dX_resultAt_19 : decode (zby mX_resultAt) 19 = .ok (.ifCond .lt 14, 3) := by decide +kernel
theorem dX_resultAt_22 : decode (zby mX_resultAt) 22 = .ok (.iload_n 3, 1) := by decide +kernel
theorem dX_resultAt_23 : decode (zby mX_resultAt) 23 = .ok (.aload_n 0, 1) := by decide +kernel
theorem dX_resultAt_24 : decode (zby mX_resultAt) 24 = .ok (.getfield 36, 3) := by decide +kernel
theorem dX_resultAt_27 : decode (zby mX_resultAt) 27 = .ok (.getfield 190, 3) := by decide +kernel
theorem dX_resultAt_30 : decode (zby mX_resultAt) 30 = .ok (.if_icmp .lt 13, 3) := by decide +kernel
theorem dX_resultAt_33 : decode (zby mX_resultAt) 33 = .ok (.new 93, 3) := by decide +kernel
theorem dX_resultAt_36 : decode (zby mX_resultAt) 36 = .ok (.dup, 1) := by decide +kernel
theorem dX_resultAt_37 : decode (zby mX_resultAt) 37 = .ok (.ldc 191, 2) := by decide +kernel
theorem dX_resultAt_39 : decode (zby mX_resultAt) 39 = .ok (.invokespecial 97, 3) := by decide +kernel
theorem dX_resultAt_42 : decode (zby mX_resultAt) 42 = .ok (.athrow, 1) := by decide +kernel
theorem dX_resultAt_43 : decode (zby mX_resultAt) 43 = .ok (.aload_n 0, 1) := by decide +kernel
theorem dX_resultAt_44 : decode (zby mX_resultAt) 44 = .ok (.getfield 36, 3) := by decide +kernel
theorem dX_resultAt_47 : decode (zby mX_resultAt) 47 = .ok (.getfield 193, 3) := by decide +kernel
theorem dX_resultAt_50 : decode (zby mX_resultAt) 50 = .ok (.iload_n 3, 1) := by decide +kernel
theorem dX_resultAt_51 : decode (zby mX_resultAt) 51 = .ok (.iaload, 1) := by decide +kernel
theorem dX_resultAt_52 : decode (zby mX_resultAt) 52 = .ok (.ireturn, 1) := by decide +kernel
theorem dX_resultCount_0 : decode (zby mX_resultCount) 0 = .ok (.iload_n 1, 1) := by decide +kernel
theorem dX_resultCount_1 : decode (zby mX_resultCount) 1 = .ok (.iload_n 2, 1) := by decide +kernel
theorem dX_resultCount_2 : decode (zby mX_resultCount) 2 = .ok (.invokestatic 161, 3) := by decide +kernel
theorem dX_resultCount_5 : decode (zby mX_resultCount) 5 = .ok (.aload_n 0, 1) := by decide +kernel
theorem dX_resultCount_6 : decode (zby mX_resultCount) 6 = .ok (.invokevirtual 175, 3) := by decide +kernel
theorem dX_resultCount_9 : decode (zby mX_resultCount) 9 = .ok (.iload_n 1, 1) := by decide +kernel
theorem dX_resultCount_10 : decode (zby mX_resultCount) 10 = .ok (.iload_n 2, 1) := by decide +kernel
theorem dX_resultCount_11 : decode (zby mX_resultCount) 11 = .ok (.invokestatic 179, 3) := by decide +kernel
theorem dX_resultCount_14 : decode (zby mX_resultCount) 14 = .ok (.invokevirtual 182, 3) := by decide +kernel
theorem dX_resultCount_17 : decode (zby mX_resultCount) 17 = .ok (.ireturn, 1) := by decide +kernel
theorem dX_resultCountByScan_0 : decode (zby mX_resultCountByScan) 0 = .ok (.iload_n 1, 1) := by decide +kernel
theorem dX_resultCountByScan_1 : decode (zby mX_resultCountByScan) 1 = .ok (.iload_n 2, 1) := by decide +kernel
theorem dX_resultCountByScan_2 : decode (zby mX_resultCountByScan) 2 = .ok (.invokestatic 161, 3) := by decide +kernel
theorem dX_resultCountByScan_5 : decode (zby mX_resultCountByScan) 5 = .ok (.iconst 0, 1) := by decide +kernel
theorem dX_resultCountByScan_6 : decode (zby mX_resultCountByScan) 6 = .ok (.istore_n 3, 1) := by decide +kernel
theorem dX_resultCountByScan_7 : decode (zby mX_resultCountByScan) 7 = .ok (.iconst 0, 1) := by decide +kernel
theorem dX_resultCountByScan_8 : decode (zby mX_resultCountByScan) 8 = .ok (.istore 4, 2) := by decide +kernel
theorem dX_resultCountByScan_10 : decode (zby mX_resultCountByScan) 10 = .ok (.iload 4, 2) := by decide +kernel
theorem dX_resultCountByScan_12 : decode (zby mX_resultCountByScan) 12 = .ok (.aload_n 0, 1) := by decide +kernel
theorem dX_resultCountByScan_13 : decode (zby mX_resultCountByScan) 13 = .ok (.getfield 12, 3) := by decide +kernel
theorem dX_resultCountByScan_16 : decode (zby mX_resultCountByScan) 16 = .ok (.getfield 115, 3) := by decide +kernel
theorem dX_resultCountByScan_19 : decode (zby mX_resultCountByScan) 19 = .ok (.if_icmp .ge 30, 3) := by decide +kernel
theorem dX_resultCountByScan_22 : decode (zby mX_resultCountByScan) 22 = .ok (.aload_n 0, 1) := by decide +kernel
theorem dX_resultCountByScan_23 : decode (zby mX_resultCountByScan) 23 = .ok (.getfield 12, 3) := by decide +kernel
theorem dX_resultCountByScan_26 : decode (zby mX_resultCountByScan) 26 = .ok (.getfield 120, 3) := by decide +kernel
theorem dX_resultCountByScan_29 : decode (zby mX_resultCountByScan) 29 = .ok (.iload 4, 2) := by decide +kernel
theorem dX_resultCountByScan_31 : decode (zby mX_resultCountByScan) 31 = .ok (.aaload, 1) := by decide +kernel
theorem dX_resultCountByScan_32 : decode (zby mX_resultCountByScan) 32 = .ok (.iload_n 1, 1) := by decide +kernel
theorem dX_resultCountByScan_33 : decode (zby mX_resultCountByScan) 33 = .ok (.iload_n 2, 1) := by decide +kernel
theorem dX_resultCountByScan_34 : decode (zby mX_resultCountByScan) 34 = .ok (.invokevirtual 165, 3) := by decide +kernel
theorem dX_resultCountByScan_37 : decode (zby mX_resultCountByScan) 37 = .ok (.ifCond .le 6, 3) := by decide +kernel
theorem dX_resultCountByScan_40 : decode (zby mX_resultCountByScan) 40 = .ok (.iinc 3 1, 3) := by decide +kernel
theorem dX_resultCountByScan_43 : decode (zby mX_resultCountByScan) 43 = .ok (.iinc 4 1, 3) := by decide +kernel
theorem dX_resultCountByScan_46 : decode (zby mX_resultCountByScan) 46 = .ok (.goto (-36), 3) := by decide +kernel
theorem dX_resultCountByScan_49 : decode (zby mX_resultCountByScan) 49 = .ok (.iload_n 3, 1) := by decide +kernel
theorem dX_resultCountByScan_50 : decode (zby mX_resultCountByScan) 50 = .ok (.ireturn, 1) := by decide +kernel
theorem dX_resultCountsAgree_0 : decode (zby mX_resultCountsAgree) 0 = .ok (.aload_n 0, 1) := by decide +kernel
theorem dX_resultCountsAgree_1 : decode (zby mX_resultCountsAgree) 1 = .ok (.iconst 0, 1) := by decide +kernel
theorem dX_resultCountsAgree_2 : decode (zby mX_resultCountsAgree) 2 = .ok (.iconst 0, 1) := by decide +kernel
theorem dX_resultCountsAgree_3 : decode (zby mX_resultCountsAgree) 3 = .ok (.invokevirtual 286, 3) := by decide +kernel
theorem dX_resultCountsAgree_6 : decode (zby mX_resultCountsAgree) 6 = .ok (.aload_n 0, 1) := by decide +kernel
theorem dX_resultCountsAgree_7 : decode (zby mX_resultCountsAgree) 7 = .ok (.iconst 0, 1) := by decide +kernel
theorem dX_resultCountsAgree_8 : decode (zby mX_resultCountsAgree) 8 = .ok (.iconst 0, 1) := by decide +kernel
theorem dX_resultCountsAgree_9 : decode (zby mX_resultCountsAgree) 9 = .ok (.invokevirtual 289, 3) := by decide +kernel
theorem dX_resultCountsAgree_12 : decode (zby mX_resultCountsAgree) 12 = .ok (.if_icmp .ne 7, 3) := by decide +kernel
theorem dX_resultCountsAgree_15 : decode (zby mX_resultCountsAgree) 15 = .ok (.iconst 1, 1) := by decide +kernel
theorem dX_resultCountsAgree_16 : decode (zby mX_resultCountsAgree) 16 = .ok (.goto 4, 3) := by decide +kernel
theorem dX_resultCountsAgree_19 : decode (zby mX_resultCountsAgree) 19 = .ok (.iconst 0, 1) := by decide +kernel
theorem dX_resultCountsAgree_20 : decode (zby mX_resultCountsAgree) 20 = .ok (.istore_n 1, 1) := by decide +kernel
theorem dX_resultCountsAgree_21 : decode (zby mX_resultCountsAgree) 21 = .ok (.iconst 0, 1) := by decide +kernel
theorem dX_resultCountsAgree_22 : decode (zby mX_resultCountsAgree) 22 = .ok (.istore_n 2, 1) := by decide +kernel
theorem dX_resultCountsAgree_23 : decode (zby mX_resultCountsAgree) 23 = .ok (.iload_n 2, 1) := by decide +kernel
theorem dX_resultCountsAgree_24 : decode (zby mX_resultCountsAgree) 24 = .ok (.bipush 10, 2) := by decide +kernel
theorem dX_resultCountsAgree_26 : decode (zby mX_resultCountsAgree) 26 = .ok (.if_icmp .ge 34, 3) := by decide +kernel
theorem dX_resultCountsAgree_29 : decode (zby mX_resultCountsAgree) 29 = .ok (.iload_n 1, 1) := by decide +kernel
theorem dX_resultCountsAgree_30 : decode (zby mX_resultCountsAgree) 30 = .ok (.ifCond .eq 22, 3) := by decide +kernel
theorem dX_resultCountsAgree_33 : decode (zby mX_resultCountsAgree) 33 = .ok (.aload_n 0, 1) := by decide +kernel
theorem dX_resultCountsAgree_34 : decode (zby mX_resultCountsAgree) 34 = .ok (.iconst 1, 1) := by decide +kernel
theorem dX_resultCountsAgree_35 : decode (zby mX_resultCountsAgree) 35 = .ok (.iload_n 2, 1) := by decide +kernel
theorem dX_resultCountsAgree_36 : decode (zby mX_resultCountsAgree) 36 = .ok (.invokevirtual 286, 3) := by decide +kernel
theorem dX_resultCountsAgree_39 : decode (zby mX_resultCountsAgree) 39 = .ok (.aload_n 0, 1) := by decide +kernel
theorem dX_resultCountsAgree_40 : decode (zby mX_resultCountsAgree) 40 = .ok (.iconst 1, 1) := by decide +kernel
theorem dX_resultCountsAgree_41 : decode (zby mX_resultCountsAgree) 41 = .ok (.iload_n 2, 1) := by decide +kernel
theorem dX_resultCountsAgree_42 : decode (zby mX_resultCountsAgree) 42 = .ok (.invokevirtual 289, 3) := by decide +kernel
theorem dX_resultCountsAgree_45 : decode (zby mX_resultCountsAgree) 45 = .ok (.if_icmp .ne 7, 3) := by decide +kernel
theorem dX_resultCountsAgree_48 : decode (zby mX_resultCountsAgree) 48 = .ok (.iconst 1, 1) := by decide +kernel
theorem dX_resultCountsAgree_49 : decode (zby mX_resultCountsAgree) 49 = .ok (.goto 4, 3) := by decide +kernel
theorem dX_resultCountsAgree_52 : decode (zby mX_resultCountsAgree) 52 = .ok (.iconst 0, 1) := by decide +kernel
theorem dX_resultCountsAgree_53 : decode (zby mX_resultCountsAgree) 53 = .ok (.istore_n 1, 1) := by decide +kernel
theorem dX_resultCountsAgree_54 : decode (zby mX_resultCountsAgree) 54 = .ok (.iinc 2 1, 3) := by decide +kernel
theorem dX_resultCountsAgree_57 : decode (zby mX_resultCountsAgree) 57 = .ok (.goto (-34), 3) := by decide +kernel
theorem dX_resultCountsAgree_60 : decode (zby mX_resultCountsAgree) 60 = .ok (.iload_n 1, 1) := by decide +kernel
theorem dX_resultCountsAgree_61 : decode (zby mX_resultCountsAgree) 61 = .ok (.ireturn, 1) := by decide +kernel
theorem dX_run_0 : decode (zby mX_run) 0 = .ok (.aload_n 0, 1) := by decide +kernel
theorem dX_run_1 : decode (zby mX_run) 1 = .ok (.getfield 43, 3) := by decide +kernel
theorem dX_run_4 : decode (zby mX_run) 4 = .ok (.invokevirtual 342, 3) := by decide +kernel
theorem dX_run_7 : decode (zby mX_run) 7 = .ok (.istore_n 1, 1) := by decide +kernel
theorem dX_run_8 : decode (zby mX_run) 8 = .ok (.aload_n 0, 1) := by decide +kernel
theorem dX_run_9 : decode (zby mX_run) 9 = .ok (.getfield 43, 3) := by decide +kernel
theorem dX_run_12 : decode (zby mX_run) 12 = .ok (.invokevirtual 345, 3) := by decide +kernel
theorem dX_run_15 : decode (zby mX_run) 15 = .ok (.iload_n 1, 1) := by decide +kernel
theorem dX_run_16 : decode (zby mX_run) 16 = .ok (.iconst (-1), 1) := by decide +kernel
theorem dX_run_17 : decode (zby mX_run) 17 = .ok (.if_icmp .eq 19, 3) := by decide +kernel
theorem dX_run_20 : decode (zby mX_run) 20 = .ok (.aload_n 0, 1) := by decide +kernel
theorem dX_run_21 : decode (zby mX_run) 21 = .ok (.iload_n 1, 1) := by decide +kernel
theorem dX_run_22 : decode (zby mX_run) 22 = .ok (.putfield 68, 3) := by decide +kernel
theorem dX_run_25 : decode (zby mX_run) 25 = .ok (.new 100, 3) := by decide +kernel
theorem dX_run_28 : decode (zby mX_run) 28 = .ok (.dup, 1) := by decide +kernel
theorem dX_run_29 : decode (zby mX_run) 29 = .ok (.ldc_w 346, 3) := by decide +kernel
theorem dX_run_32 : decode (zby mX_run) 32 = .ok (.invokespecial 104, 3) := by decide +kernel
theorem dX_run_35 : decode (zby mX_run) 35 = .ok (.athrow, 1) := by decide +kernel
theorem dX_run_36 : decode (zby mX_run) 36 = .ok (.aload_n 0, 1) := by decide +kernel
theorem dX_run_37 : decode (zby mX_run) 37 = .ok (.getfield 22, 3) := by decide +kernel
theorem dX_run_40 : decode (zby mX_run) 40 = .ok (.aload_n 0, 1) := by decide +kernel
theorem dX_run_41 : decode (zby mX_run) 41 = .ok (.getfield 12, 3) := by decide +kernel
theorem dX_run_44 : decode (zby mX_run) 44 = .ok (.invokevirtual 79, 3) := by decide +kernel
theorem dX_run_47 : decode (zby mX_run) 47 = .ok (.aload_n 0, 1) := by decide +kernel
theorem dX_run_48 : decode (zby mX_run) 48 = .ok (.invokevirtual 348, 3) := by decide +kernel
theorem dX_run_51 : decode (zby mX_run) 51 = .ok (.istore_n 2, 1) := by decide +kernel
theorem dX_run_52 : decode (zby mX_run) 52 = .ok (.iload_n 2, 1) := by decide +kernel
theorem dX_run_53 : decode (zby mX_run) 53 = .ok (.iconst (-1), 1) := by decide +kernel
theorem dX_run_54 : decode (zby mX_run) 54 = .ok (.if_icmp .eq 30, 3) := by decide +kernel
theorem dX_run_57 : decode (zby mX_run) 57 = .ok (.aload_n 0, 1) := by decide +kernel
theorem dX_run_58 : decode (zby mX_run) 58 = .ok (.getfield 22, 3) := by decide +kernel
theorem dX_run_61 : decode (zby mX_run) 61 = .ok (.aload_n 0, 1) := by decide +kernel
theorem dX_run_62 : decode (zby mX_run) 62 = .ok (.getfield 12, 3) := by decide +kernel
theorem dX_run_65 : decode (zby mX_run) 65 = .ok (.invokevirtual 351, 3) := by decide +kernel
theorem dX_run_68 : decode (zby mX_run) 68 = .ok (.aload_n 0, 1) := by decide +kernel
theorem dX_run_69 : decode (zby mX_run) 69 = .ok (.iload_n 2, 1) := by decide +kernel
theorem dX_run_70 : decode (zby mX_run) 70 = .ok (.putfield 72, 3) := by decide +kernel
theorem dX_run_73 : decode (zby mX_run) 73 = .ok (.new 110, 3) := by decide +kernel
theorem dX_run_76 : decode (zby mX_run) 76 = .ok (.dup, 1) := by decide +kernel
theorem dX_run_77 : decode (zby mX_run) 77 = .ok (.ldc_w 354, 3) := by decide +kernel
theorem dX_run_80 : decode (zby mX_run) 80 = .ok (.invokespecial 114, 3) := by decide +kernel
theorem dX_run_83 : decode (zby mX_run) 83 = .ok (.athrow, 1) := by decide +kernel
theorem dX_run_84 : decode (zby mX_run) 84 = .ok (.aload_n 0, 1) := by decide +kernel
theorem dX_run_85 : decode (zby mX_run) 85 = .ok (.getfield 22, 3) := by decide +kernel
theorem dX_run_88 : decode (zby mX_run) 88 = .ok (.invokevirtual 90, 3) := by decide +kernel
theorem dX_run_91 : decode (zby mX_run) 91 = .ok (.aload_n 0, 1) := by decide +kernel
theorem dX_run_92 : decode (zby mX_run) 92 = .ok (.iconst 1, 1) := by decide +kernel
theorem dX_run_93 : decode (zby mX_run) 93 = .ok (.putfield 61, 3) := by decide +kernel
theorem dX_run_96 : decode (zby mX_run) 96 = .ok (.aload_n 0, 1) := by decide +kernel
theorem dX_run_97 : decode (zby mX_run) 97 = .ok (.getfield 43, 3) := by decide +kernel
theorem dX_run_100 : decode (zby mX_run) 100 = .ok (.getfield 356, 3) := by decide +kernel
theorem dX_run_103 : decode (zby mX_run) 103 = .ok (.ireturn, 1) := by decide +kernel
theorem dX_save_0 : decode (zby mX_save) 0 = .ok (.aload_n 0, 1) := by decide +kernel
theorem dX_save_1 : decode (zby mX_save) 1 = .ok (.getfield 16, 3) := by decide +kernel
theorem dX_save_4 : decode (zby mX_save) 4 = .ok (.aload_n 0, 1) := by decide +kernel
theorem dX_save_5 : decode (zby mX_save) 5 = .ok (.getfield 12, 3) := by decide +kernel
theorem dX_save_8 : decode (zby mX_save) 8 = .ok (.invokevirtual 378, 3) := by decide +kernel
theorem dX_save_11 : decode (zby mX_save) 11 = .ok (.aload_n 0, 1) := by decide +kernel
theorem dX_save_12 : decode (zby mX_save) 12 = .ok (.iconst 1, 1) := by decide +kernel
theorem dX_save_13 : decode (zby mX_save) 13 = .ok (.putfield 65, 3) := by decide +kernel
theorem dX_save_16 : decode (zby mX_save) 16 = .ok (.aload_n 0, 1) := by decide +kernel
theorem dX_save_17 : decode (zby mX_save) 17 = .ok (.getfield 16, 3) := by decide +kernel
theorem dX_save_20 : decode (zby mX_save) 20 = .ok (.getfield 115, 3) := by decide +kernel
theorem dX_save_23 : decode (zby mX_save) 23 = .ok (.ireturn, 1) := by decide +kernel
theorem dX_scoreOf_0 : decode (zby mX_scoreOf) 0 = .ok (.aload_n 0, 1) := by decide +kernel
theorem dX_scoreOf_1 : decode (zby mX_scoreOf) 1 = .ok (.iload_n 1, 1) := by decide +kernel
theorem dX_scoreOf_2 : decode (zby mX_scoreOf) 2 = .ok (.invokevirtual 127, 3) := by decide +kernel
theorem dX_scoreOf_5 : decode (zby mX_scoreOf) 5 = .ok (.astore 4, 2) := by decide +kernel
theorem dX_scoreOf_7 : decode (zby mX_scoreOf) 7 = .ok (.iload_n 2, 1) := by decide +kernel
theorem dX_scoreOf_8 : decode (zby mX_scoreOf) 8 = .ok (.iload_n 3, 1) := by decide +kernel
theorem dX_scoreOf_9 : decode (zby mX_scoreOf) 9 = .ok (.invokestatic 161, 3) := by decide +kernel
theorem dX_scoreOf_12 : decode (zby mX_scoreOf) 12 = .ok (.aload 4, 2) := by decide +kernel
theorem dX_scoreOf_14 : decode (zby mX_scoreOf) 14 = .ok (.iload_n 2, 1) := by decide +kernel
theorem dX_scoreOf_15 : decode (zby mX_scoreOf) 15 = .ok (.iload_n 3, 1) := by decide +kernel
theorem dX_scoreOf_16 : decode (zby mX_scoreOf) 16 = .ok (.invokevirtual 196, 3) := by decide +kernel
theorem dX_scoreOf_19 : decode (zby mX_scoreOf) 19 = .ok (.ireturn, 1) := by decide +kernel
theorem dX_search_0 : decode (zby mX_search) 0 = .ok (.aload_n 0, 1) := by decide +kernel
theorem dX_search_1 : decode (zby mX_search) 1 = .ok (.bipush 8, 2) := by decide +kernel
theorem dX_search_3 : decode (zby mX_search) 3 = .ok (.iload_n 1, 1) := by decide +kernel
theorem dX_search_4 : decode (zby mX_search) 4 = .ok (.iload_n 2, 1) := by decide +kernel
theorem dX_search_5 : decode (zby mX_search) 5 = .ok (.invokevirtual 75, 3) := by decide +kernel
theorem dX_search_8 : decode (zby mX_search) 8 = .ok (.ireturn, 1) := by decide +kernel
theorem dX_segmentCount_0 : decode (zby mX_segmentCount) 0 = .ok (.aload_n 0, 1) := by decide +kernel
theorem dX_segmentCount_1 : decode (zby mX_segmentCount) 1 = .ok (.getfield 12, 3) := by decide +kernel
theorem dX_segmentCount_4 : decode (zby mX_segmentCount) 4 = .ok (.getfield 172, 3) := by decide +kernel
theorem dX_segmentCount_7 : decode (zby mX_segmentCount) 7 = .ok (.ireturn, 1) := by decide +kernel
theorem dX_segmentOf_0 : decode (zby mX_segmentOf) 0 = .ok (.aload_n 0, 1) := by decide +kernel
theorem dX_segmentOf_1 : decode (zby mX_segmentOf) 1 = .ok (.iload_n 1, 1) := by decide +kernel
theorem dX_segmentOf_2 : decode (zby mX_segmentOf) 2 = .ok (.invokevirtual 127, 3) := by decide +kernel
theorem dX_segmentOf_5 : decode (zby mX_segmentOf) 5 = .ok (.getfield 144, 3) := by decide +kernel
theorem dX_segmentOf_8 : decode (zby mX_segmentOf) 8 = .ok (.ireturn, 1) := by decide +kernel
theorem dX_sharedCodes_0 : decode (zby mX_sharedCodes) 0 = .ok (.aload_n 0, 1) := by decide +kernel
theorem dX_sharedCodes_1 : decode (zby mX_sharedCodes) 1 = .ok (.iload_n 1, 1) := by decide +kernel
theorem dX_sharedCodes_2 : decode (zby mX_sharedCodes) 2 = .ok (.invokevirtual 127, 3) := by decide +kernel
theorem dX_sharedCodes_5 : decode (zby mX_sharedCodes) 5 = .ok (.aload_n 0, 1) := by decide +kernel
theorem dX_sharedCodes_6 : decode (zby mX_sharedCodes) 6 = .ok (.iload_n 2, 1) := by decide +kernel
theorem dX_sharedCodes_7 : decode (zby mX_sharedCodes) 7 = .ok (.invokevirtual 127, 3) := by decide +kernel
theorem dX_sharedCodes_10 : decode (zby mX_sharedCodes) 10 = .ok (.invokevirtual 233, 3) := by decide +kernel
theorem dX_sharedCodes_13 : decode (zby mX_sharedCodes) 13 = .ok (.ireturn, 1) := by decide +kernel
theorem dX_sharedDigits_0 : decode (zby mX_sharedDigits) 0 = .ok (.iload_n 1, 1) := by decide +kernel
theorem dX_sharedDigits_1 : decode (zby mX_sharedDigits) 1 = .ok (.invokestatic 154, 3) := by decide +kernel
theorem dX_sharedDigits_4 : decode (zby mX_sharedDigits) 4 = .ok (.aload_n 0, 1) := by decide +kernel
theorem dX_sharedDigits_5 : decode (zby mX_sharedDigits) 5 = .ok (.invokevirtual 175, 3) := by decide +kernel
theorem dX_sharedDigits_8 : decode (zby mX_sharedDigits) 8 = .ok (.iload_n 1, 1) := by decide +kernel
theorem dX_sharedDigits_9 : decode (zby mX_sharedDigits) 9 = .ok (.invokevirtual 207, 3) := by decide +kernel
theorem dX_sharedDigits_12 : decode (zby mX_sharedDigits) 12 = .ok (.ireturn, 1) := by decide +kernel
theorem dX_sharedDigitsAgree_0 : decode (zby mX_sharedDigitsAgree) 0 = .ok (.iconst 0, 1) := by decide +kernel
theorem dX_sharedDigitsAgree_1 : decode (zby mX_sharedDigitsAgree) 1 = .ok (.istore_n 1, 1) := by decide +kernel
theorem dX_sharedDigitsAgree_2 : decode (zby mX_sharedDigitsAgree) 2 = .ok (.iload_n 1, 1) := by decide +kernel
theorem dX_sharedDigitsAgree_3 : decode (zby mX_sharedDigitsAgree) 3 = .ok (.aload_n 0, 1) := by decide +kernel
theorem dX_sharedDigitsAgree_4 : decode (zby mX_sharedDigitsAgree) 4 = .ok (.getfield 12, 3) := by decide +kernel
theorem dX_sharedDigitsAgree_7 : decode (zby mX_sharedDigitsAgree) 7 = .ok (.getfield 115, 3) := by decide +kernel
theorem dX_sharedDigitsAgree_10 : decode (zby mX_sharedDigitsAgree) 10 = .ok (.if_icmp .ge 60, 3) := by decide +kernel
theorem dX_sharedDigitsAgree_13 : decode (zby mX_sharedDigitsAgree) 13 = .ok (.aload_n 0, 1) := by decide +kernel
theorem dX_sharedDigitsAgree_14 : decode (zby mX_sharedDigitsAgree) 14 = .ok (.getfield 12, 3) := by decide +kernel
theorem dX_sharedDigitsAgree_17 : decode (zby mX_sharedDigitsAgree) 17 = .ok (.getfield 120, 3) := by decide +kernel
theorem dX_sharedDigitsAgree_20 : decode (zby mX_sharedDigitsAgree) 20 = .ok (.iload_n 1, 1) := by decide +kernel
theorem dX_sharedDigitsAgree_21 : decode (zby mX_sharedDigitsAgree) 21 = .ok (.aaload, 1) := by decide +kernel
theorem dX_sharedDigitsAgree_22 : decode (zby mX_sharedDigitsAgree) 22 = .ok (.astore_n 2, 1) := by decide +kernel
theorem dX_sharedDigitsAgree_23 : decode (zby mX_sharedDigitsAgree) 23 = .ok (.iconst 0, 1) := by decide +kernel
theorem dX_sharedDigitsAgree_24 : decode (zby mX_sharedDigitsAgree) 24 = .ok (.istore_n 3, 1) := by decide +kernel
theorem dX_sharedDigitsAgree_25 : decode (zby mX_sharedDigitsAgree) 25 = .ok (.iload_n 3, 1) := by decide +kernel
theorem dX_sharedDigitsAgree_26 : decode (zby mX_sharedDigitsAgree) 26 = .ok (.aload_n 2, 1) := by decide +kernel
theorem dX_sharedDigitsAgree_27 : decode (zby mX_sharedDigitsAgree) 27 = .ok (.getfield 147, 3) := by decide +kernel
theorem dX_sharedDigitsAgree_30 : decode (zby mX_sharedDigitsAgree) 30 = .ok (.if_icmp .ge 34, 3) := by decide +kernel
theorem dX_sharedDigitsAgree_33 : decode (zby mX_sharedDigitsAgree) 33 = .ok (.aload_n 0, 1) := by decide +kernel
theorem dX_sharedDigitsAgree_34 : decode (zby mX_sharedDigitsAgree) 34 = .ok (.aload_n 2, 1) := by decide +kernel
theorem dX_sharedDigitsAgree_35 : decode (zby mX_sharedDigitsAgree) 35 = .ok (.getfield 150, 3) := by decide +kernel
theorem dX_sharedDigitsAgree_38 : decode (zby mX_sharedDigitsAgree) 38 = .ok (.iload_n 3, 1) := by decide +kernel
theorem dX_sharedDigitsAgree_39 : decode (zby mX_sharedDigitsAgree) 39 = .ok (.iaload, 1) := by decide +kernel
theorem dX_sharedDigitsAgree_40 : decode (zby mX_sharedDigitsAgree) 40 = .ok (.invokevirtual 292, 3) := by decide +kernel
theorem dX_sharedDigitsAgree_43 : decode (zby mX_sharedDigitsAgree) 43 = .ok (.aload_n 0, 1) := by decide +kernel
theorem dX_sharedDigitsAgree_44 : decode (zby mX_sharedDigitsAgree) 44 = .ok (.aload_n 2, 1) := by decide +kernel
theorem dX_sharedDigitsAgree_45 : decode (zby mX_sharedDigitsAgree) 45 = .ok (.getfield 150, 3) := by decide +kernel
theorem dX_sharedDigitsAgree_48 : decode (zby mX_sharedDigitsAgree) 48 = .ok (.iload_n 3, 1) := by decide +kernel
theorem dX_sharedDigitsAgree_49 : decode (zby mX_sharedDigitsAgree) 49 = .ok (.iaload, 1) := by decide +kernel
theorem dX_sharedDigitsAgree_50 : decode (zby mX_sharedDigitsAgree) 50 = .ok (.invokevirtual 295, 3) := by decide +kernel
theorem dX_sharedDigitsAgree_53 : decode (zby mX_sharedDigitsAgree) 53 = .ok (.if_icmp .eq 5, 3) := by decide +kernel
theorem dX_sharedDigitsAgree_56 : decode (zby mX_sharedDigitsAgree) 56 = .ok (.iconst 0, 1) := by decide +kernel
theorem dX_sharedDigitsAgree_57 : decode (zby mX_sharedDigitsAgree) 57 = .ok (.ireturn, 1) := by decide +kernel
theorem dX_sharedDigitsAgree_58 : decode (zby mX_sharedDigitsAgree) 58 = .ok (.iinc 3 1, 3) := by decide +kernel
theorem dX_sharedDigitsAgree_61 : decode (zby mX_sharedDigitsAgree) 61 = .ok (.goto (-36), 3) := by decide +kernel
theorem dX_sharedDigitsAgree_64 : decode (zby mX_sharedDigitsAgree) 64 = .ok (.iinc 1 1, 3) := by decide +kernel
theorem dX_sharedDigitsAgree_67 : decode (zby mX_sharedDigitsAgree) 67 = .ok (.goto (-65), 3) := by decide +kernel
theorem dX_sharedDigitsAgree_70 : decode (zby mX_sharedDigitsAgree) 70 = .ok (.iconst 1, 1) := by decide +kernel
theorem dX_sharedDigitsAgree_71 : decode (zby mX_sharedDigitsAgree) 71 = .ok (.ireturn, 1) := by decide +kernel
theorem dX_sharedDigitsByScan_0 : decode (zby mX_sharedDigitsByScan) 0 = .ok (.iload_n 1, 1) := by decide +kernel
theorem dX_sharedDigitsByScan_1 : decode (zby mX_sharedDigitsByScan) 1 = .ok (.invokestatic 154, 3) := by decide +kernel
theorem dX_sharedDigitsByScan_4 : decode (zby mX_sharedDigitsByScan) 4 = .ok (.iconst 0, 1) := by decide +kernel
theorem dX_sharedDigitsByScan_5 : decode (zby mX_sharedDigitsByScan) 5 = .ok (.istore_n 2, 1) := by decide +kernel
theorem dX_sharedDigitsByScan_6 : decode (zby mX_sharedDigitsByScan) 6 = .ok (.iconst 0, 1) := by decide +kernel
theorem dX_sharedDigitsByScan_7 : decode (zby mX_sharedDigitsByScan) 7 = .ok (.istore_n 3, 1) := by decide +kernel
theorem dX_sharedDigitsByScan_8 : decode (zby mX_sharedDigitsByScan) 8 = .ok (.iload_n 3, 1) := by decide +kernel
theorem dX_sharedDigitsByScan_9 : decode (zby mX_sharedDigitsByScan) 9 = .ok (.aload_n 0, 1) := by decide +kernel
theorem dX_sharedDigitsByScan_10 : decode (zby mX_sharedDigitsByScan) 10 = .ok (.getfield 12, 3) := by decide +kernel
theorem dX_sharedDigitsByScan_13 : decode (zby mX_sharedDigitsByScan) 13 = .ok (.getfield 115, 3) := by decide +kernel
theorem dX_sharedDigitsByScan_16 : decode (zby mX_sharedDigitsByScan) 16 = .ok (.if_icmp .ge 56, 3) := by decide +kernel
theorem dX_sharedDigitsByScan_19 : decode (zby mX_sharedDigitsByScan) 19 = .ok (.aload_n 0, 1) := by decide +kernel
theorem dX_sharedDigitsByScan_20 : decode (zby mX_sharedDigitsByScan) 20 = .ok (.getfield 12, 3) := by decide +kernel
theorem dX_sharedDigitsByScan_23 : decode (zby mX_sharedDigitsByScan) 23 = .ok (.getfield 120, 3) := by decide +kernel
theorem dX_sharedDigitsByScan_26 : decode (zby mX_sharedDigitsByScan) 26 = .ok (.iload_n 3, 1) := by decide +kernel
theorem dX_sharedDigitsByScan_27 : decode (zby mX_sharedDigitsByScan) 27 = .ok (.aaload, 1) := by decide +kernel
theorem dX_sharedDigitsByScan_28 : decode (zby mX_sharedDigitsByScan) 28 = .ok (.astore 4, 2) := by decide +kernel
theorem dX_sharedDigitsByScan_30 : decode (zby mX_sharedDigitsByScan) 30 = .ok (.iconst 0, 1) := by decide +kernel
theorem dX_sharedDigitsByScan_31 : decode (zby mX_sharedDigitsByScan) 31 = .ok (.istore 5, 2) := by decide +kernel
theorem dX_sharedDigitsByScan_33 : decode (zby mX_sharedDigitsByScan) 33 = .ok (.iload 5, 2) := by decide +kernel
theorem dX_sharedDigitsByScan_35 : decode (zby mX_sharedDigitsByScan) 35 = .ok (.aload 4, 2) := by decide +kernel
theorem dX_sharedDigitsByScan_37 : decode (zby mX_sharedDigitsByScan) 37 = .ok (.getfield 147, 3) := by decide +kernel
theorem dX_sharedDigitsByScan_40 : decode (zby mX_sharedDigitsByScan) 40 = .ok (.if_icmp .ge 26, 3) := by decide +kernel
theorem dX_sharedDigitsByScan_43 : decode (zby mX_sharedDigitsByScan) 43 = .ok (.iload_n 2, 1) := by decide +kernel
theorem dX_sharedDigitsByScan_44 : decode (zby mX_sharedDigitsByScan) 44 = .ok (.iload_n 1, 1) := by decide +kernel
theorem dX_sharedDigitsByScan_45 : decode (zby mX_sharedDigitsByScan) 45 = .ok (.aload 4, 2) := by decide +kernel
theorem dX_sharedDigitsByScan_47 : decode (zby mX_sharedDigitsByScan) 47 = .ok (.getfield 150, 3) := by decide +kernel
theorem dX_sharedDigitsByScan_50 : decode (zby mX_sharedDigitsByScan) 50 = .ok (.iload 5, 2) := by decide +kernel
theorem dX_sharedDigitsByScan_52 : decode (zby mX_sharedDigitsByScan) 52 = .ok (.iaload, 1) := by decide +kernel
theorem dX_sharedDigitsByScan_53 : decode (zby mX_sharedDigitsByScan) 53 = .ok (.invokestatic 210, 3) := by decide +kernel
theorem dX_sharedDigitsByScan_56 : decode (zby mX_sharedDigitsByScan) 56 = .ok (.invokestatic 213, 3) := by decide +kernel
theorem dX_sharedDigitsByScan_59 : decode (zby mX_sharedDigitsByScan) 59 = .ok (.istore_n 2, 1) := by decide +kernel
theorem dX_sharedDigitsByScan_60 : decode (zby mX_sharedDigitsByScan) 60 = .ok (.iinc 5 1, 3) := by decide +kernel
theorem dX_sharedDigitsByScan_63 : decode (zby mX_sharedDigitsByScan) 63 = .ok (.goto (-30), 3) := by decide +kernel
theorem dX_sharedDigitsByScan_66 : decode (zby mX_sharedDigitsByScan) 66 = .ok (.iinc 3 1, 3) := by decide +kernel
theorem dX_sharedDigitsByScan_69 : decode (zby mX_sharedDigitsByScan) 69 = .ok (.goto (-61), 3) := by decide +kernel
theorem dX_sharedDigitsByScan_72 : decode (zby mX_sharedDigitsByScan) 72 = .ok (.iload_n 2, 1) := by decide +kernel
theorem dX_sharedDigitsByScan_73 : decode (zby mX_sharedDigitsByScan) 73 = .ok (.ireturn, 1) := by decide +kernel
theorem dX_startSegment_0 : decode (zby mX_startSegment) 0 = .ok (.aload_n 0, 1) := by decide +kernel
theorem dX_startSegment_1 : decode (zby mX_startSegment) 1 = .ok (.bipush 6, 2) := by decide +kernel
theorem dX_startSegment_3 : decode (zby mX_startSegment) 3 = .ok (.iconst 0, 1) := by decide +kernel
theorem dX_startSegment_4 : decode (zby mX_startSegment) 4 = .ok (.iconst 0, 1) := by decide +kernel
theorem dX_startSegment_5 : decode (zby mX_startSegment) 5 = .ok (.invokevirtual 75, 3) := by decide +kernel
theorem dX_startSegment_8 : decode (zby mX_startSegment) 8 = .ok (.ireturn, 1) := by decide +kernel
theorem dX_throwFor_0 : decode (zby mX_throwFor) 0 = .ok (.iload_n 0, 1) := by decide +kernel
theorem dX_throwFor_1 : decode (zby mX_throwFor) 1 = .ok (.tableswitch 61 (-4) (-1) #[51, 61, 41, 31], 31) := by decide +kernel
theorem dX_throwFor_32 : decode (zby mX_throwFor) 32 = .ok (.new 93, 3) := by decide +kernel
theorem dX_throwFor_35 : decode (zby mX_throwFor) 35 = .ok (.dup, 1) := by decide +kernel
theorem dX_throwFor_36 : decode (zby mX_throwFor) 36 = .ok (.ldc 95, 2) := by decide +kernel
theorem dX_throwFor_38 : decode (zby mX_throwFor) 38 = .ok (.invokespecial 97, 3) := by decide +kernel
theorem dX_throwFor_41 : decode (zby mX_throwFor) 41 = .ok (.athrow, 1) := by decide +kernel
theorem dX_throwFor_42 : decode (zby mX_throwFor) 42 = .ok (.new 100, 3) := by decide +kernel
theorem dX_throwFor_45 : decode (zby mX_throwFor) 45 = .ok (.dup, 1) := by decide +kernel
theorem dX_throwFor_46 : decode (zby mX_throwFor) 46 = .ok (.ldc 102, 2) := by decide +kernel
theorem dX_throwFor_48 : decode (zby mX_throwFor) 48 = .ok (.invokespecial 104, 3) := by decide +kernel
theorem dX_throwFor_51 : decode (zby mX_throwFor) 51 = .ok (.athrow, 1) := by decide +kernel
theorem dX_throwFor_52 : decode (zby mX_throwFor) 52 = .ok (.new 105, 3) := by decide +kernel
theorem dX_throwFor_55 : decode (zby mX_throwFor) 55 = .ok (.dup, 1) := by decide +kernel
theorem dX_throwFor_56 : decode (zby mX_throwFor) 56 = .ok (.ldc 107, 2) := by decide +kernel
theorem dX_throwFor_58 : decode (zby mX_throwFor) 58 = .ok (.invokespecial 109, 3) := by decide +kernel
theorem dX_throwFor_61 : decode (zby mX_throwFor) 61 = .ok (.athrow, 1) := by decide +kernel
theorem dX_throwFor_62 : decode (zby mX_throwFor) 62 = .ok (.new 110, 3) := by decide +kernel
theorem dX_throwFor_65 : decode (zby mX_throwFor) 65 = .ok (.dup, 1) := by decide +kernel
theorem dX_throwFor_66 : decode (zby mX_throwFor) 66 = .ok (.ldc 112, 2) := by decide +kernel
theorem dX_throwFor_68 : decode (zby mX_throwFor) 68 = .ok (.invokespecial 114, 3) := by decide +kernel
theorem dX_throwFor_71 : decode (zby mX_throwFor) 71 = .ok (.athrow, 1) := by decide +kernel
theorem dX_totalsAgree_0 : decode (zby mX_totalsAgree) 0 = .ok (.aload_n 0, 1) := by decide +kernel
theorem dX_totalsAgree_1 : decode (zby mX_totalsAgree) 1 = .ok (.getfield 12, 3) := by decide +kernel
theorem dX_totalsAgree_4 : decode (zby mX_totalsAgree) 4 = .ok (.getfield 115, 3) := by decide +kernel
theorem dX_totalsAgree_7 : decode (zby mX_totalsAgree) 7 = .ok (.aload_n 0, 1) := by decide +kernel
theorem dX_totalsAgree_8 : decode (zby mX_totalsAgree) 8 = .ok (.getfield 12, 3) := by decide +kernel
theorem dX_totalsAgree_11 : decode (zby mX_totalsAgree) 11 = .ok (.getfield 258, 3) := by decide +kernel
theorem dX_totalsAgree_14 : decode (zby mX_totalsAgree) 14 = .ok (.iadd, 1) := by decide +kernel
theorem dX_totalsAgree_15 : decode (zby mX_totalsAgree) 15 = .ok (.aload_n 0, 1) := by decide +kernel
theorem dX_totalsAgree_16 : decode (zby mX_totalsAgree) 16 = .ok (.getfield 12, 3) := by decide +kernel
theorem dX_totalsAgree_19 : decode (zby mX_totalsAgree) 19 = .ok (.getfield 261, 3) := by decide +kernel
theorem dX_totalsAgree_22 : decode (zby mX_totalsAgree) 22 = .ok (.iadd, 1) := by decide +kernel
theorem dX_totalsAgree_23 : decode (zby mX_totalsAgree) 23 = .ok (.aload_n 0, 1) := by decide +kernel
theorem dX_totalsAgree_24 : decode (zby mX_totalsAgree) 24 = .ok (.getfield 12, 3) := by decide +kernel
theorem dX_totalsAgree_27 : decode (zby mX_totalsAgree) 27 = .ok (.getfield 264, 3) := by decide +kernel
theorem dX_totalsAgree_30 : decode (zby mX_totalsAgree) 30 = .ok (.iadd, 1) := by decide +kernel
theorem dX_totalsAgree_31 : decode (zby mX_totalsAgree) 31 = .ok (.istore_n 1, 1) := by decide +kernel
theorem dX_totalsAgree_32 : decode (zby mX_totalsAgree) 32 = .ok (.aload_n 0, 1) := by decide +kernel
theorem dX_totalsAgree_33 : decode (zby mX_totalsAgree) 33 = .ok (.getfield 12, 3) := by decide +kernel
theorem dX_totalsAgree_36 : decode (zby mX_totalsAgree) 36 = .ok (.getfield 255, 3) := by decide +kernel
theorem dX_totalsAgree_39 : decode (zby mX_totalsAgree) 39 = .ok (.iload_n 1, 1) := by decide +kernel
theorem dX_totalsAgree_40 : decode (zby mX_totalsAgree) 40 = .ok (.if_icmp .ne 7, 3) := by decide +kernel
theorem dX_totalsAgree_43 : decode (zby mX_totalsAgree) 43 = .ok (.iconst 1, 1) := by decide +kernel
theorem dX_totalsAgree_44 : decode (zby mX_totalsAgree) 44 = .ok (.goto 4, 3) := by decide +kernel
theorem dX_totalsAgree_47 : decode (zby mX_totalsAgree) 47 = .ok (.iconst 0, 1) := by decide +kernel
theorem dX_totalsAgree_48 : decode (zby mX_totalsAgree) 48 = .ok (.ireturn, 1) := by decide +kernel
theorem dX_touch_0 : decode (zby mX_touch) 0 = .ok (.aload_n 0, 1) := by decide +kernel
theorem dX_touch_1 : decode (zby mX_touch) 1 = .ok (.iconst 4, 1) := by decide +kernel
theorem dX_touch_2 : decode (zby mX_touch) 2 = .ok (.iload_n 1, 1) := by decide +kernel
theorem dX_touch_3 : decode (zby mX_touch) 3 = .ok (.iconst 0, 1) := by decide +kernel
theorem dX_touch_4 : decode (zby mX_touch) 4 = .ok (.invokevirtual 75, 3) := by decide +kernel
theorem dX_touch_7 : decode (zby mX_touch) 7 = .ok (.ireturn, 1) := by decide +kernel
theorem dX_undo_0 : decode (zby mX_undo) 0 = .ok (.aload_n 0, 1) := by decide +kernel
theorem dX_undo_1 : decode (zby mX_undo) 1 = .ok (.getfield 22, 3) := by decide +kernel
theorem dX_undo_4 : decode (zby mX_undo) 4 = .ok (.getfield 372, 3) := by decide +kernel
theorem dX_undo_7 : decode (zby mX_undo) 7 = .ok (.ifCond .ne 14, 3) := by decide +kernel
theorem dX_undo_10 : decode (zby mX_undo) 10 = .ok (.new 110, 3) := by decide +kernel
theorem dX_undo_13 : decode (zby mX_undo) 13 = .ok (.dup, 1) := by decide +kernel
theorem dX_undo_14 : decode (zby mX_undo) 14 = .ok (.ldc_w 373, 3) := by decide +kernel
theorem dX_undo_17 : decode (zby mX_undo) 17 = .ok (.invokespecial 114, 3) := by decide +kernel
theorem dX_undo_20 : decode (zby mX_undo) 20 = .ok (.athrow, 1) := by decide +kernel
theorem dX_undo_21 : decode (zby mX_undo) 21 = .ok (.aload_n 0, 1) := by decide +kernel
theorem dX_undo_22 : decode (zby mX_undo) 22 = .ok (.getfield 22, 3) := by decide +kernel
theorem dX_undo_25 : decode (zby mX_undo) 25 = .ok (.aload_n 0, 1) := by decide +kernel
theorem dX_undo_26 : decode (zby mX_undo) 26 = .ok (.getfield 12, 3) := by decide +kernel
theorem dX_undo_29 : decode (zby mX_undo) 29 = .ok (.invokevirtual 375, 3) := by decide +kernel
theorem dX_undo_32 : decode (zby mX_undo) 32 = .ok (.aload_n 0, 1) := by decide +kernel
theorem dX_undo_33 : decode (zby mX_undo) 33 = .ok (.iconst 1, 1) := by decide +kernel
theorem dX_undo_34 : decode (zby mX_undo) 34 = .ok (.putfield 61, 3) := by decide +kernel
theorem dX_undo_37 : decode (zby mX_undo) 37 = .ok (.aload_n 0, 1) := by decide +kernel
theorem dX_undo_38 : decode (zby mX_undo) 38 = .ok (.getfield 22, 3) := by decide +kernel
theorem dX_undo_41 : decode (zby mX_undo) 41 = .ok (.getfield 372, 3) := by decide +kernel
theorem dX_undo_44 : decode (zby mX_undo) 44 = .ok (.ireturn, 1) := by decide +kernel
theorem dX_undoableCount_0 : decode (zby mX_undoableCount) 0 = .ok (.aload_n 0, 1) := by decide +kernel
theorem dX_undoableCount_1 : decode (zby mX_undoableCount) 1 = .ok (.getfield 22, 3) := by decide +kernel
theorem dX_undoableCount_4 : decode (zby mX_undoableCount) 4 = .ok (.getfield 372, 3) := by decide +kernel
theorem dX_undoableCount_7 : decode (zby mX_undoableCount) 7 = .ok (.ireturn, 1) := by decide +kernel
theorem dX_weightOf_0 : decode (zby mX_weightOf) 0 = .ok (.aload_n 0, 1) := by decide +kernel
theorem dX_weightOf_1 : decode (zby mX_weightOf) 1 = .ok (.iload_n 1, 1) := by decide +kernel
theorem dX_weightOf_2 : decode (zby mX_weightOf) 2 = .ok (.invokevirtual 127, 3) := by decide +kernel
theorem dX_weightOf_5 : decode (zby mX_weightOf) 5 = .ok (.getfield 131, 3) := by decide +kernel
theorem dX_weightOf_8 : decode (zby mX_weightOf) 8 = .ok (.ireturn, 1) := by decide +kernel
theorem dX_withoutEnd_0 : decode (zby mX_withoutEnd) 0 = .ok (.iload_n 0, 1) := by decide +kernel
theorem dX_withoutEnd_1 : decode (zby mX_withoutEnd) 1 = .ok (.istore_n 2, 1) := by decide +kernel
theorem dX_withoutEnd_2 : decode (zby mX_withoutEnd) 2 = .ok (.iconst 0, 1) := by decide +kernel
theorem dX_withoutEnd_3 : decode (zby mX_withoutEnd) 3 = .ok (.istore_n 3, 1) := by decide +kernel
theorem dX_withoutEnd_4 : decode (zby mX_withoutEnd) 4 = .ok (.iload_n 3, 1) := by decide +kernel
theorem dX_withoutEnd_5 : decode (zby mX_withoutEnd) 5 = .ok (.iload_n 1, 1) := by decide +kernel
theorem dX_withoutEnd_6 : decode (zby mX_withoutEnd) 6 = .ok (.if_icmp .ge 14, 3) := by decide +kernel
theorem dX_withoutEnd_9 : decode (zby mX_withoutEnd) 9 = .ok (.iload_n 2, 1) := by decide +kernel
theorem dX_withoutEnd_10 : decode (zby mX_withoutEnd) 10 = .ok (.bipush 10, 2) := by decide +kernel
theorem dX_withoutEnd_12 : decode (zby mX_withoutEnd) 12 = .ok (.idiv, 1) := by decide +kernel
theorem dX_withoutEnd_13 : decode (zby mX_withoutEnd) 13 = .ok (.istore_n 2, 1) := by decide +kernel
theorem dX_withoutEnd_14 : decode (zby mX_withoutEnd) 14 = .ok (.iinc 3 1, 3) := by decide +kernel
theorem dX_withoutEnd_17 : decode (zby mX_withoutEnd) 17 = .ok (.goto (-13), 3) := by decide +kernel
theorem dX_withoutEnd_20 : decode (zby mX_withoutEnd) 20 = .ok (.iload_n 2, 1) := by decide +kernel
theorem dX_withoutEnd_21 : decode (zby mX_withoutEnd) 21 = .ok (.ireturn, 1) := by decide +kernel
