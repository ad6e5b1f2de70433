/-! decode rows, by program -/
theorem dM_addCode_0 : decode (zby mM_addCode) 0 = .ok (.aload_n 0, 1) := by decide +kernel
theorem dM_addCode_1 : decode (zby mM_addCode) 1 = .ok (.invokevirtual 93, 3) := by decide +kernel
theorem dM_addCode_4 : decode (zby mM_addCode) 4 = .ok (.aload_n 0, 1) := by decide +kernel
theorem dM_addCode_5 : decode (zby mM_addCode) 5 = .ok (.aload_n 0, 1) := by decide +kernel
theorem dM_addCode_6 : decode (zby mM_addCode) 6 = .ok (.iload_n 1, 1) := by decide +kernel
theorem dM_addCode_7 : decode (zby mM_addCode) 7 = .ok (.iload_n 2, 1) := by decide +kernel
theorem dM_addCode_8 : decode (zby mM_addCode) 8 = .ok (.invokevirtual 111, 3) := by decide +kernel
theorem dM_addCode_11 : decode (zby mM_addCode) 11 = .ok (.invokevirtual 99, 3) := by decide +kernel
theorem dM_addCode_14 : decode (zby mM_addCode) 14 = .ok (.ireturn, 1) := by decide +kernel
theorem dM_addEntry_0 : decode (zby mM_addEntry) 0 = .ok (.aload_n 0, 1) := by decide +kernel
theorem dM_addEntry_1 : decode (zby mM_addEntry) 1 = .ok (.invokevirtual 93, 3) := by decide +kernel
theorem dM_addEntry_4 : decode (zby mM_addEntry) 4 = .ok (.aload_n 0, 1) := by decide +kernel
theorem dM_addEntry_5 : decode (zby mM_addEntry) 5 = .ok (.aload_n 0, 1) := by decide +kernel
theorem dM_addEntry_6 : decode (zby mM_addEntry) 6 = .ok (.iload_n 1, 1) := by decide +kernel
theorem dM_addEntry_7 : decode (zby mM_addEntry) 7 = .ok (.invokevirtual 96, 3) := by decide +kernel
theorem dM_addEntry_10 : decode (zby mM_addEntry) 10 = .ok (.invokevirtual 99, 3) := by decide +kernel
theorem dM_addEntry_13 : decode (zby mM_addEntry) 13 = .ok (.ireturn, 1) := by decide +kernel
theorem dM_addedTotal_0 : decode (zby mM_addedTotal) 0 = .ok (.aload_n 0, 1) := by decide +kernel
theorem dM_addedTotal_1 : decode (zby mM_addedTotal) 1 = .ok (.iconst 1, 1) := by decide +kernel
theorem dM_addedTotal_2 : decode (zby mM_addedTotal) 2 = .ok (.invokevirtual 154, 3) := by decide +kernel
theorem dM_addedTotal_5 : decode (zby mM_addedTotal) 5 = .ok (.ireturn, 1) := by decide +kernel
theorem dM_ageOf_0 : decode (zby mM_ageOf) 0 = .ok (.aload_n 0, 1) := by decide +kernel
theorem dM_ageOf_1 : decode (zby mM_ageOf) 1 = .ok (.iload_n 1, 1) := by decide +kernel
theorem dM_ageOf_2 : decode (zby mM_ageOf) 2 = .ok (.iconst 2, 1) := by decide +kernel
theorem dM_ageOf_3 : decode (zby mM_ageOf) 3 = .ok (.invokevirtual 157, 3) := by decide +kernel
theorem dM_ageOf_6 : decode (zby mM_ageOf) 6 = .ok (.ireturn, 1) := by decide +kernel
theorem dM_append_0 : decode (zby mM_append) 0 = .ok (.aload_n 0, 1) := by decide +kernel
theorem dM_append_1 : decode (zby mM_append) 1 = .ok (.iconst 0, 1) := by decide +kernel
theorem dM_append_2 : decode (zby mM_append) 2 = .ok (.putfield 45, 3) := by decide +kernel
theorem dM_append_5 : decode (zby mM_append) 5 = .ok (.iload_n 1, 1) := by decide +kernel
theorem dM_append_6 : decode (zby mM_append) 6 = .ok (.i2l, 1) := by decide +kernel
theorem dM_append_7 : decode (zby mM_append) 7 = .ok (.ldc2_w 195, 3) := by decide +kernel
theorem dM_append_10 : decode (zby mM_append) 10 = .ok (.ldc2_w 197, 3) := by decide +kernel
theorem dM_append_13 : decode (zby mM_append) 13 = .ok (.invokestatic 55, 3) := by decide +kernel
theorem dM_append_16 : decode (zby mM_append) 16 = .ok (.ifCond .ne 9, 3) := by decide +kernel
theorem dM_append_19 : decode (zby mM_append) 19 = .ok (.aload_n 0, 1) := by decide +kernel
theorem dM_append_20 : decode (zby mM_append) 20 = .ok (.iconst 1, 1) := by decide +kernel
theorem dM_append_21 : decode (zby mM_append) 21 = .ok (.invokevirtual 90, 3) := by decide +kernel
theorem dM_append_24 : decode (zby mM_append) 24 = .ok (.ireturn, 1) := by decide +kernel
theorem dM_append_25 : decode (zby mM_append) 25 = .ok (.aload_n 0, 1) := by decide +kernel
theorem dM_append_26 : decode (zby mM_append) 26 = .ok (.getfield 199, 3) := by decide +kernel
theorem dM_append_29 : decode (zby mM_append) 29 = .ok (.bipush 60, 2) := by decide +kernel
theorem dM_append_31 : decode (zby mM_append) 31 = .ok (.if_icmp .ne 9, 3) := by decide +kernel
theorem dM_append_34 : decode (zby mM_append) 34 = .ok (.aload_n 0, 1) := by decide +kernel
theorem dM_append_35 : decode (zby mM_append) 35 = .ok (.iconst 2, 1) := by decide +kernel
theorem dM_append_36 : decode (zby mM_append) 36 = .ok (.invokevirtual 90, 3) := by decide +kernel
theorem dM_append_39 : decode (zby mM_append) 39 = .ok (.ireturn, 1) := by decide +kernel
theorem dM_append_40 : decode (zby mM_append) 40 = .ok (.aload_n 0, 1) := by decide +kernel
theorem dM_append_41 : decode (zby mM_append) 41 = .ok (.getfield 29, 3) := by decide +kernel
theorem dM_append_44 : decode (zby mM_append) 44 = .ok (.aload_n 0, 1) := by decide +kernel
theorem dM_append_45 : decode (zby mM_append) 45 = .ok (.getfield 199, 3) := by decide +kernel
theorem dM_append_48 : decode (zby mM_append) 48 = .ok (.iload_n 1, 1) := by decide +kernel
theorem dM_append_49 : decode (zby mM_append) 49 = .ok (.iastore, 1) := by decide +kernel
theorem dM_append_50 : decode (zby mM_append) 50 = .ok (.aload_n 0, 1) := by decide +kernel
theorem dM_append_51 : decode (zby mM_append) 51 = .ok (.dup, 1) := by decide +kernel
theorem dM_append_52 : decode (zby mM_append) 52 = .ok (.getfield 199, 3) := by decide +kernel
theorem dM_append_55 : decode (zby mM_append) 55 = .ok (.iconst 1, 1) := by decide +kernel
theorem dM_append_56 : decode (zby mM_append) 56 = .ok (.iadd, 1) := by decide +kernel
theorem dM_append_57 : decode (zby mM_append) 57 = .ok (.putfield 199, 3) := by decide +kernel
theorem dM_append_60 : decode (zby mM_append) 60 = .ok (.aload_n 0, 1) := by decide +kernel
theorem dM_append_61 : decode (zby mM_append) 61 = .ok (.getfield 199, 3) := by decide +kernel
theorem dM_append_64 : decode (zby mM_append) 64 = .ok (.ireturn, 1) := by decide +kernel
theorem dM_changed_0 : decode (zby mM_changed) 0 = .ok (.aload_n 0, 1) := by decide +kernel
theorem dM_changed_1 : decode (zby mM_changed) 1 = .ok (.getfield 45, 3) := by decide +kernel
theorem dM_changed_4 : decode (zby mM_changed) 4 = .ok (.ifCond .le 5, 3) := by decide +kernel
theorem dM_changed_7 : decode (zby mM_changed) 7 = .ok (.iload_n 1, 1) := by decide +kernel
theorem dM_changed_8 : decode (zby mM_changed) 8 = .ok (.ireturn, 1) := by decide +kernel
theorem dM_changed_9 : decode (zby mM_changed) 9 = .ok (.aload_n 0, 1) := by decide +kernel
theorem dM_changed_10 : decode (zby mM_changed) 10 = .ok (.getfield 48, 3) := by decide +kernel
theorem dM_changed_13 : decode (zby mM_changed) 13 = .ok (.bipush 8, 2) := by decide +kernel
theorem dM_changed_15 : decode (zby mM_changed) 15 = .ok (.if_icmp .ne 44, 3) := by decide +kernel
theorem dM_changed_18 : decode (zby mM_changed) 18 = .ok (.iconst 0, 1) := by decide +kernel
theorem dM_changed_19 : decode (zby mM_changed) 19 = .ok (.istore_n 2, 1) := by decide +kernel
theorem dM_changed_20 : decode (zby mM_changed) 20 = .ok (.iload_n 2, 1) := by decide +kernel
theorem dM_changed_21 : decode (zby mM_changed) 21 = .ok (.sipush 1722, 3) := by decide +kernel
theorem dM_changed_24 : decode (zby mM_changed) 24 = .ok (.if_icmp .ge 25, 3) := by decide +kernel
theorem dM_changed_27 : decode (zby mM_changed) 27 = .ok (.aload_n 0, 1) := by decide +kernel
theorem dM_changed_28 : decode (zby mM_changed) 28 = .ok (.getfield 19, 3) := by decide +kernel
theorem dM_changed_31 : decode (zby mM_changed) 31 = .ok (.iload_n 2, 1) := by decide +kernel
theorem dM_changed_32 : decode (zby mM_changed) 32 = .ok (.aload_n 0, 1) := by decide +kernel
theorem dM_changed_33 : decode (zby mM_changed) 33 = .ok (.getfield 19, 3) := by decide +kernel
theorem dM_changed_36 : decode (zby mM_changed) 36 = .ok (.iload_n 2, 1) := by decide +kernel
theorem dM_changed_37 : decode (zby mM_changed) 37 = .ok (.sipush 246, 3) := by decide +kernel
theorem dM_changed_40 : decode (zby mM_changed) 40 = .ok (.iadd, 1) := by decide +kernel
theorem dM_changed_41 : decode (zby mM_changed) 41 = .ok (.iaload, 1) := by decide +kernel
theorem dM_changed_42 : decode (zby mM_changed) 42 = .ok (.iastore, 1) := by decide +kernel
theorem dM_changed_43 : decode (zby mM_changed) 43 = .ok (.iinc 2 1, 3) := by decide +kernel
theorem dM_changed_46 : decode (zby mM_changed) 46 = .ok (.goto (-26), 3) := by decide +kernel
theorem dM_changed_49 : decode (zby mM_changed) 49 = .ok (.aload_n 0, 1) := by decide +kernel
theorem dM_changed_50 : decode (zby mM_changed) 50 = .ok (.dup, 1) := by decide +kernel
theorem dM_changed_51 : decode (zby mM_changed) 51 = .ok (.getfield 48, 3) := by decide +kernel
theorem dM_changed_54 : decode (zby mM_changed) 54 = .ok (.iconst 1, 1) := by decide +kernel
theorem dM_changed_55 : decode (zby mM_changed) 55 = .ok (.isub, 1) := by decide +kernel
theorem dM_changed_56 : decode (zby mM_changed) 56 = .ok (.putfield 48, 3) := by decide +kernel
theorem dM_changed_59 : decode (zby mM_changed) 59 = .ok (.iconst 0, 1) := by decide +kernel
theorem dM_changed_60 : decode (zby mM_changed) 60 = .ok (.istore_n 2, 1) := by decide +kernel
theorem dM_changed_61 : decode (zby mM_changed) 61 = .ok (.iload_n 2, 1) := by decide +kernel
theorem dM_changed_62 : decode (zby mM_changed) 62 = .ok (.sipush 246, 3) := by decide +kernel
theorem dM_changed_65 : decode (zby mM_changed) 65 = .ok (.if_icmp .ge 30, 3) := by decide +kernel
theorem dM_changed_68 : decode (zby mM_changed) 68 = .ok (.aload_n 0, 1) := by decide +kernel
theorem dM_changed_69 : decode (zby mM_changed) 69 = .ok (.getfield 19, 3) := by decide +kernel
theorem dM_changed_72 : decode (zby mM_changed) 72 = .ok (.sipush 246, 3) := by decide +kernel
theorem dM_changed_75 : decode (zby mM_changed) 75 = .ok (.aload_n 0, 1) := by decide +kernel
theorem dM_changed_76 : decode (zby mM_changed) 76 = .ok (.getfield 48, 3) := by decide +kernel
theorem dM_changed_79 : decode (zby mM_changed) 79 = .ok (.imul, 1) := by decide +kernel
theorem dM_changed_80 : decode (zby mM_changed) 80 = .ok (.iload_n 2, 1) := by decide +kernel
theorem dM_changed_81 : decode (zby mM_changed) 81 = .ok (.iadd, 1) := by decide +kernel
theorem dM_changed_82 : decode (zby mM_changed) 82 = .ok (.aload_n 0, 1) := by decide +kernel
theorem dM_changed_83 : decode (zby mM_changed) 83 = .ok (.getfield 13, 3) := by decide +kernel
theorem dM_changed_86 : decode (zby mM_changed) 86 = .ok (.iload_n 2, 1) := by decide +kernel
theorem dM_changed_87 : decode (zby mM_changed) 87 = .ok (.iaload, 1) := by decide +kernel
theorem dM_changed_88 : decode (zby mM_changed) 88 = .ok (.iastore, 1) := by decide +kernel
theorem dM_changed_89 : decode (zby mM_changed) 89 = .ok (.iinc 2 1, 3) := by decide +kernel
theorem dM_changed_92 : decode (zby mM_changed) 92 = .ok (.goto (-31), 3) := by decide +kernel
theorem dM_changed_95 : decode (zby mM_changed) 95 = .ok (.aload_n 0, 1) := by decide +kernel
theorem dM_changed_96 : decode (zby mM_changed) 96 = .ok (.dup, 1) := by decide +kernel
theorem dM_changed_97 : decode (zby mM_changed) 97 = .ok (.getfield 48, 3) := by decide +kernel
theorem dM_changed_100 : decode (zby mM_changed) 100 = .ok (.iconst 1, 1) := by decide +kernel
theorem dM_changed_101 : decode (zby mM_changed) 101 = .ok (.iadd, 1) := by decide +kernel
theorem dM_changed_102 : decode (zby mM_changed) 102 = .ok (.putfield 48, 3) := by decide +kernel
theorem dM_changed_105 : decode (zby mM_changed) 105 = .ok (.iload_n 1, 1) := by decide +kernel
theorem dM_changed_106 : decode (zby mM_changed) 106 = .ok (.ireturn, 1) := by decide +kernel
theorem dM_codeAfter_0 : decode (zby mM_codeAfter) 0 = .ok (.aload_n 0, 1) := by decide +kernel
theorem dM_codeAfter_1 : decode (zby mM_codeAfter) 1 = .ok (.iconst 0, 1) := by decide +kernel
theorem dM_codeAfter_2 : decode (zby mM_codeAfter) 2 = .ok (.putfield 45, 3) := by decide +kernel
theorem dM_codeAfter_5 : decode (zby mM_codeAfter) 5 = .ok (.iload_n 1, 1) := by decide +kernel
theorem dM_codeAfter_6 : decode (zby mM_codeAfter) 6 = .ok (.i2l, 1) := by decide +kernel
theorem dM_codeAfter_7 : decode (zby mM_codeAfter) 7 = .ok (.ldc2_w 172, 3) := by decide +kernel
theorem dM_codeAfter_10 : decode (zby mM_codeAfter) 10 = .ok (.ldc2_w 105, 3) := by decide +kernel
theorem dM_codeAfter_13 : decode (zby mM_codeAfter) 13 = .ok (.invokestatic 55, 3) := by decide +kernel
theorem dM_codeAfter_16 : decode (zby mM_codeAfter) 16 = .ok (.ifCond .ne 9, 3) := by decide +kernel
theorem dM_codeAfter_19 : decode (zby mM_codeAfter) 19 = .ok (.aload_n 0, 1) := by decide +kernel
theorem dM_codeAfter_20 : decode (zby mM_codeAfter) 20 = .ok (.iconst 1, 1) := by decide +kernel
theorem dM_codeAfter_21 : decode (zby mM_codeAfter) 21 = .ok (.invokevirtual 90, 3) := by decide +kernel
theorem dM_codeAfter_24 : decode (zby mM_codeAfter) 24 = .ok (.ireturn, 1) := by decide +kernel
theorem dM_codeAfter_25 : decode (zby mM_codeAfter) 25 = .ok (.iload_n 1, 1) := by decide +kernel
theorem dM_codeAfter_26 : decode (zby mM_codeAfter) 26 = .ok (.iconst 1, 1) := by decide +kernel
theorem dM_codeAfter_27 : decode (zby mM_codeAfter) 27 = .ok (.iadd, 1) := by decide +kernel
theorem dM_codeAfter_28 : decode (zby mM_codeAfter) 28 = .ok (.istore_n 2, 1) := by decide +kernel
theorem dM_codeAfter_29 : decode (zby mM_codeAfter) 29 = .ok (.iload_n 2, 1) := by decide +kernel
theorem dM_codeAfter_30 : decode (zby mM_codeAfter) 30 = .ok (.sipush 1000, 3) := by decide +kernel
theorem dM_codeAfter_33 : decode (zby mM_codeAfter) 33 = .ok (.if_icmp .ge 19, 3) := by decide +kernel
theorem dM_codeAfter_36 : decode (zby mM_codeAfter) 36 = .ok (.aload_n 0, 1) := by decide +kernel
theorem dM_codeAfter_37 : decode (zby mM_codeAfter) 37 = .ok (.iload_n 2, 1) := by decide +kernel
theorem dM_codeAfter_38 : decode (zby mM_codeAfter) 38 = .ok (.invokevirtual 166, 3) := by decide +kernel
theorem dM_codeAfter_41 : decode (zby mM_codeAfter) 41 = .ok (.ifCond .le 5, 3) := by decide +kernel
theorem dM_codeAfter_44 : decode (zby mM_codeAfter) 44 = .ok (.iload_n 2, 1) := by decide +kernel
theorem dM_codeAfter_45 : decode (zby mM_codeAfter) 45 = .ok (.ireturn, 1) := by decide +kernel
theorem dM_codeAfter_46 : decode (zby mM_codeAfter) 46 = .ok (.iinc 2 1, 3) := by decide +kernel
theorem dM_codeAfter_49 : decode (zby mM_codeAfter) 49 = .ok (.goto (-20), 3) := by decide +kernel
theorem dM_codeAfter_52 : decode (zby mM_codeAfter) 52 = .ok (.aload_n 0, 1) := by decide +kernel
theorem dM_codeAfter_53 : decode (zby mM_codeAfter) 53 = .ok (.iconst 2, 1) := by decide +kernel
theorem dM_codeAfter_54 : decode (zby mM_codeAfter) 54 = .ok (.invokevirtual 90, 3) := by decide +kernel
theorem dM_codeAfter_57 : decode (zby mM_codeAfter) 57 = .ok (.ireturn, 1) := by decide +kernel
theorem dM_codeAt_0 : decode (zby mM_codeAt) 0 = .ok (.aload_n 0, 1) := by decide +kernel
theorem dM_codeAt_1 : decode (zby mM_codeAt) 1 = .ok (.iload_n 1, 1) := by decide +kernel
theorem dM_codeAt_2 : decode (zby mM_codeAt) 2 = .ok (.iconst 5, 1) := by decide +kernel
theorem dM_codeAt_3 : decode (zby mM_codeAt) 3 = .ok (.invokevirtual 157, 3) := by decide +kernel
theorem dM_codeAt_6 : decode (zby mM_codeAt) 6 = .ok (.istore_n 3, 1) := by decide +kernel
theorem dM_codeAt_7 : decode (zby mM_codeAt) 7 = .ok (.aload_n 0, 1) := by decide +kernel
theorem dM_codeAt_8 : decode (zby mM_codeAt) 8 = .ok (.getfield 45, 3) := by decide +kernel
theorem dM_codeAt_11 : decode (zby mM_codeAt) 11 = .ok (.ifCond .le 5, 3) := by decide +kernel
theorem dM_codeAt_14 : decode (zby mM_codeAt) 14 = .ok (.iconst (-1), 1) := by decide +kernel
theorem dM_codeAt_15 : decode (zby mM_codeAt) 15 = .ok (.ireturn, 1) := by decide +kernel
theorem dM_codeAt_16 : decode (zby mM_codeAt) 16 = .ok (.iload_n 2, 1) := by decide +kernel
theorem dM_codeAt_17 : decode (zby mM_codeAt) 17 = .ok (.i2l, 1) := by decide +kernel
theorem dM_codeAt_18 : decode (zby mM_codeAt) 18 = .ok (.lconst 0, 1) := by decide +kernel
theorem dM_codeAt_19 : decode (zby mM_codeAt) 19 = .ok (.iload_n 3, 1) := by decide +kernel
theorem dM_codeAt_20 : decode (zby mM_codeAt) 20 = .ok (.iconst 1, 1) := by decide +kernel
theorem dM_codeAt_21 : decode (zby mM_codeAt) 21 = .ok (.isub, 1) := by decide +kernel
theorem dM_codeAt_22 : decode (zby mM_codeAt) 22 = .ok (.i2l, 1) := by decide +kernel
theorem dM_codeAt_23 : decode (zby mM_codeAt) 23 = .ok (.invokestatic 55, 3) := by decide +kernel
theorem dM_codeAt_26 : decode (zby mM_codeAt) 26 = .ok (.ifCond .eq 16, 3) := by decide +kernel
theorem dM_codeAt_29 : decode (zby mM_codeAt) 29 = .ok (.aload_n 0, 1) := by decide +kernel
theorem dM_codeAt_30 : decode (zby mM_codeAt) 30 = .ok (.aload_n 0, 1) := by decide +kernel
theorem dM_codeAt_31 : decode (zby mM_codeAt) 31 = .ok (.iload_n 1, 1) := by decide +kernel
theorem dM_codeAt_32 : decode (zby mM_codeAt) 32 = .ok (.invokevirtual 102, 3) := by decide +kernel
theorem dM_codeAt_35 : decode (zby mM_codeAt) 35 = .ok (.iload_n 2, 1) := by decide +kernel
theorem dM_codeAt_36 : decode (zby mM_codeAt) 36 = .ok (.invokevirtual 62, 3) := by decide +kernel
theorem dM_codeAt_39 : decode (zby mM_codeAt) 39 = .ok (.goto 8, 3) := by decide +kernel
theorem dM_codeAt_42 : decode (zby mM_codeAt) 42 = .ok (.aload_n 0, 1) := by decide +kernel
theorem dM_codeAt_43 : decode (zby mM_codeAt) 43 = .ok (.iconst 2, 1) := by decide +kernel
theorem dM_codeAt_44 : decode (zby mM_codeAt) 44 = .ok (.invokevirtual 90, 3) := by decide +kernel
theorem dM_codeAt_47 : decode (zby mM_codeAt) 47 = .ok (.ireturn, 1) := by decide +kernel
theorem dM_codeCount_0 : decode (zby mM_codeCount) 0 = .ok (.aload_n 0, 1) := by decide +kernel
theorem dM_codeCount_1 : decode (zby mM_codeCount) 1 = .ok (.iload_n 1, 1) := by decide +kernel
theorem dM_codeCount_2 : decode (zby mM_codeCount) 2 = .ok (.iconst 5, 1) := by decide +kernel
theorem dM_codeCount_3 : decode (zby mM_codeCount) 3 = .ok (.invokevirtual 157, 3) := by decide +kernel
theorem dM_codeCount_6 : decode (zby mM_codeCount) 6 = .ok (.ireturn, 1) := by decide +kernel
theorem dM_codeIt_0 : decode (zby mM_codeIt) 0 = .ok (.aload_n 0, 1) := by decide +kernel
theorem dM_codeIt_1 : decode (zby mM_codeIt) 1 = .ok (.iload_n 1, 1) := by decide +kernel
theorem dM_codeIt_2 : decode (zby mM_codeIt) 2 = .ok (.invokevirtual 102, 3) := by decide +kernel
theorem dM_codeIt_5 : decode (zby mM_codeIt) 5 = .ok (.istore_n 3, 1) := by decide +kernel
theorem dM_codeIt_6 : decode (zby mM_codeIt) 6 = .ok (.iload_n 3, 1) := by decide +kernel
theorem dM_codeIt_7 : decode (zby mM_codeIt) 7 = .ok (.iconst (-1), 1) := by decide +kernel
theorem dM_codeIt_8 : decode (zby mM_codeIt) 8 = .ok (.if_icmp .ne 9, 3) := by decide +kernel
theorem dM_codeIt_11 : decode (zby mM_codeIt) 11 = .ok (.aload_n 0, 1) := by decide +kernel
theorem dM_codeIt_12 : decode (zby mM_codeIt) 12 = .ok (.iconst 1, 1) := by decide +kernel
theorem dM_codeIt_13 : decode (zby mM_codeIt) 13 = .ok (.invokevirtual 90, 3) := by decide +kernel
theorem dM_codeIt_16 : decode (zby mM_codeIt) 16 = .ok (.ireturn, 1) := by decide +kernel
theorem dM_codeIt_17 : decode (zby mM_codeIt) 17 = .ok (.iload_n 2, 1) := by decide +kernel
theorem dM_codeIt_18 : decode (zby mM_codeIt) 18 = .ok (.i2l, 1) := by decide +kernel
theorem dM_codeIt_19 : decode (zby mM_codeIt) 19 = .ok (.lconst 0, 1) := by decide +kernel
theorem dM_codeIt_20 : decode (zby mM_codeIt) 20 = .ok (.ldc2_w 105, 3) := by decide +kernel
theorem dM_codeIt_23 : decode (zby mM_codeIt) 23 = .ok (.invokestatic 55, 3) := by decide +kernel
theorem dM_codeIt_26 : decode (zby mM_codeIt) 26 = .ok (.ifCond .ne 9, 3) := by decide +kernel
theorem dM_codeIt_29 : decode (zby mM_codeIt) 29 = .ok (.aload_n 0, 1) := by decide +kernel
theorem dM_codeIt_30 : decode (zby mM_codeIt) 30 = .ok (.iconst 2, 1) := by decide +kernel
theorem dM_codeIt_31 : decode (zby mM_codeIt) 31 = .ok (.invokevirtual 90, 3) := by decide +kernel
theorem dM_codeIt_34 : decode (zby mM_codeIt) 34 = .ok (.ireturn, 1) := by decide +kernel
theorem dM_codeIt_35 : decode (zby mM_codeIt) 35 = .ok (.aload_n 0, 1) := by decide +kernel
theorem dM_codeIt_36 : decode (zby mM_codeIt) 36 = .ok (.iload_n 3, 1) := by decide +kernel
theorem dM_codeIt_37 : decode (zby mM_codeIt) 37 = .ok (.iconst 3, 1) := by decide +kernel
theorem dM_codeIt_38 : decode (zby mM_codeIt) 38 = .ok (.iload_n 2, 1) := by decide +kernel
theorem dM_codeIt_39 : decode (zby mM_codeIt) 39 = .ok (.invokevirtual 70, 3) := by decide +kernel
theorem dM_codeIt_42 : decode (zby mM_codeIt) 42 = .ok (.ifCond .gt 19, 3) := by decide +kernel
theorem dM_codeIt_45 : decode (zby mM_codeIt) 45 = .ok (.aload_n 0, 1) := by decide +kernel
theorem dM_codeIt_46 : decode (zby mM_codeIt) 46 = .ok (.getfield 9, 3) := by decide +kernel
theorem dM_codeIt_49 : decode (zby mM_codeIt) 49 = .ok (.iload_n 3, 1) := by decide +kernel
theorem dM_codeIt_50 : decode (zby mM_codeIt) 50 = .ok (.invokestatic 51, 3) := by decide +kernel
theorem dM_codeIt_53 : decode (zby mM_codeIt) 53 = .ok (.iconst 5, 1) := by decide +kernel
theorem dM_codeIt_54 : decode (zby mM_codeIt) 54 = .ok (.iadd, 1) := by decide +kernel
theorem dM_codeIt_55 : decode (zby mM_codeIt) 55 = .ok (.iaload, 1) := by decide +kernel
theorem dM_codeIt_56 : decode (zby mM_codeIt) 56 = .ok (.bipush 6, 2) := by decide +kernel
theorem dM_codeIt_58 : decode (zby mM_codeIt) 58 = .ok (.if_icmp .ne 9, 3) := by decide +kernel
theorem dM_codeIt_61 : decode (zby mM_codeIt) 61 = .ok (.aload_n 0, 1) := by decide +kernel
theorem dM_codeIt_62 : decode (zby mM_codeIt) 62 = .ok (.iconst 3, 1) := by decide +kernel
theorem dM_codeIt_63 : decode (zby mM_codeIt) 63 = .ok (.invokevirtual 90, 3) := by decide +kernel
theorem dM_codeIt_66 : decode (zby mM_codeIt) 66 = .ok (.ireturn, 1) := by decide +kernel
theorem dM_codeIt_67 : decode (zby mM_codeIt) 67 = .ok (.aload_n 0, 1) := by decide +kernel
theorem dM_codeIt_68 : decode (zby mM_codeIt) 68 = .ok (.iload_n 3, 1) := by decide +kernel
theorem dM_codeIt_69 : decode (zby mM_codeIt) 69 = .ok (.iload_n 2, 1) := by decide +kernel
theorem dM_codeIt_70 : decode (zby mM_codeIt) 70 = .ok (.invokevirtual 107, 3) := by decide +kernel
theorem dM_codeIt_73 : decode (zby mM_codeIt) 73 = .ok (.aload_n 0, 1) := by decide +kernel
theorem dM_codeIt_74 : decode (zby mM_codeIt) 74 = .ok (.getfield 9, 3) := by decide +kernel
theorem dM_codeIt_77 : decode (zby mM_codeIt) 77 = .ok (.iload_n 3, 1) := by decide +kernel
theorem dM_codeIt_78 : decode (zby mM_codeIt) 78 = .ok (.invokestatic 51, 3) := by decide +kernel
theorem dM_codeIt_81 : decode (zby mM_codeIt) 81 = .ok (.iconst 5, 1) := by decide +kernel
theorem dM_codeIt_82 : decode (zby mM_codeIt) 82 = .ok (.iadd, 1) := by decide +kernel
theorem dM_codeIt_83 : decode (zby mM_codeIt) 83 = .ok (.iaload, 1) := by decide +kernel
theorem dM_codeIt_84 : decode (zby mM_codeIt) 84 = .ok (.ireturn, 1) := by decide +kernel
theorem dM_codeOf_0 : decode (zby mM_codeOf) 0 = .ok (.aload_n 0, 1) := by decide +kernel
theorem dM_codeOf_1 : decode (zby mM_codeOf) 1 = .ok (.getfield 9, 3) := by decide +kernel
theorem dM_codeOf_4 : decode (zby mM_codeOf) 4 = .ok (.iload_n 1, 1) := by decide +kernel
theorem dM_codeOf_5 : decode (zby mM_codeOf) 5 = .ok (.invokestatic 51, 3) := by decide +kernel
theorem dM_codeOf_8 : decode (zby mM_codeOf) 8 = .ok (.bipush 6, 2) := by decide +kernel
theorem dM_codeOf_10 : decode (zby mM_codeOf) 10 = .ok (.iadd, 1) := by decide +kernel
theorem dM_codeOf_11 : decode (zby mM_codeOf) 11 = .ok (.iload_n 2, 1) := by decide +kernel
theorem dM_codeOf_12 : decode (zby mM_codeOf) 12 = .ok (.iadd, 1) := by decide +kernel
theorem dM_codeOf_13 : decode (zby mM_codeOf) 13 = .ok (.iaload, 1) := by decide +kernel
theorem dM_codeOf_14 : decode (zby mM_codeOf) 14 = .ok (.ireturn, 1) := by decide +kernel
theorem dM_codesWith_0 : decode (zby mM_codesWith) 0 = .ok (.aload_n 0, 1) := by decide +kernel
theorem dM_codesWith_1 : decode (zby mM_codesWith) 1 = .ok (.iconst 0, 1) := by decide +kernel
theorem dM_codesWith_2 : decode (zby mM_codesWith) 2 = .ok (.putfield 45, 3) := by decide +kernel
theorem dM_codesWith_5 : decode (zby mM_codesWith) 5 = .ok (.iload_n 1, 1) := by decide +kernel
theorem dM_codesWith_6 : decode (zby mM_codesWith) 6 = .ok (.iload_n 2, 1) := by decide +kernel
theorem dM_codesWith_7 : decode (zby mM_codesWith) 7 = .ok (.iconst 3, 1) := by decide +kernel
theorem dM_codesWith_8 : decode (zby mM_codesWith) 8 = .ok (.invokestatic 143, 3) := by decide +kernel
theorem dM_codesWith_11 : decode (zby mM_codesWith) 11 = .ok (.ifCond .ne 9, 3) := by decide +kernel
theorem dM_codesWith_14 : decode (zby mM_codesWith) 14 = .ok (.aload_n 0, 1) := by decide +kernel
theorem dM_codesWith_15 : decode (zby mM_codesWith) 15 = .ok (.iconst 1, 1) := by decide +kernel
theorem dM_codesWith_16 : decode (zby mM_codesWith) 16 = .ok (.invokevirtual 90, 3) := by decide +kernel
theorem dM_codesWith_19 : decode (zby mM_codesWith) 19 = .ok (.ireturn, 1) := by decide +kernel
theorem dM_codesWith_20 : decode (zby mM_codesWith) 20 = .ok (.iconst 0, 1) := by decide +kernel
theorem dM_codesWith_21 : decode (zby mM_codesWith) 21 = .ok (.istore_n 3, 1) := by decide +kernel
theorem dM_codesWith_22 : decode (zby mM_codesWith) 22 = .ok (.iconst 0, 1) := by decide +kernel
theorem dM_codesWith_23 : decode (zby mM_codesWith) 23 = .ok (.istore 4, 2) := by decide +kernel
theorem dM_codesWith_25 : decode (zby mM_codesWith) 25 = .ok (.iload 4, 2) := by decide +kernel
theorem dM_codesWith_27 : decode (zby mM_codesWith) 27 = .ok (.sipush 1000, 3) := by decide +kernel
theorem dM_codesWith_30 : decode (zby mM_codesWith) 30 = .ok (.if_icmp .ge 36, 3) := by decide +kernel
theorem dM_codesWith_33 : decode (zby mM_codesWith) 33 = .ok (.iload_n 3, 1) := by decide +kernel
theorem dM_codesWith_34 : decode (zby mM_codesWith) 34 = .ok (.iload 4, 2) := by decide +kernel
theorem dM_codesWith_36 : decode (zby mM_codesWith) 36 = .ok (.iload_n 1, 1) := by decide +kernel
theorem dM_codesWith_37 : decode (zby mM_codesWith) 37 = .ok (.iload_n 2, 1) := by decide +kernel
theorem dM_codesWith_38 : decode (zby mM_codesWith) 38 = .ok (.invokestatic 66, 3) := by decide +kernel
theorem dM_codesWith_41 : decode (zby mM_codesWith) 41 = .ok (.ifCond .eq 16, 3) := by decide +kernel
theorem dM_codesWith_44 : decode (zby mM_codesWith) 44 = .ok (.aload_n 0, 1) := by decide +kernel
theorem dM_codesWith_45 : decode (zby mM_codesWith) 45 = .ok (.iload 4, 2) := by decide +kernel
theorem dM_codesWith_47 : decode (zby mM_codesWith) 47 = .ok (.invokevirtual 166, 3) := by decide +kernel
theorem dM_codesWith_50 : decode (zby mM_codesWith) 50 = .ok (.ifCond .le 7, 3) := by decide +kernel
theorem dM_codesWith_53 : decode (zby mM_codesWith) 53 = .ok (.iconst 1, 1) := by decide +kernel
theorem dM_codesWith_54 : decode (zby mM_codesWith) 54 = .ok (.goto 4, 3) := by decide +kernel
theorem dM_codesWith_57 : decode (zby mM_codesWith) 57 = .ok (.iconst 0, 1) := by decide +kernel
theorem dM_codesWith_58 : decode (zby mM_codesWith) 58 = .ok (.iadd, 1) := by decide +kernel
theorem dM_codesWith_59 : decode (zby mM_codesWith) 59 = .ok (.istore_n 3, 1) := by decide +kernel
theorem dM_codesWith_60 : decode (zby mM_codesWith) 60 = .ok (.iinc 4 1, 3) := by decide +kernel
theorem dM_codesWith_63 : decode (zby mM_codesWith) 63 = .ok (.goto (-38), 3) := by decide +kernel
theorem dM_codesWith_66 : decode (zby mM_codesWith) 66 = .ok (.iload_n 3, 1) := by decide +kernel
theorem dM_codesWith_67 : decode (zby mM_codesWith) 67 = .ok (.ireturn, 1) := by decide +kernel
theorem dM_common_0 : decode (zby mM_common) 0 = .ok (.iconst 0, 1) := by decide +kernel
theorem dM_common_1 : decode (zby mM_common) 1 = .ok (.istore_n 3, 1) := by decide +kernel
theorem dM_common_2 : decode (zby mM_common) 2 = .ok (.iconst 0, 1) := by decide +kernel
theorem dM_common_3 : decode (zby mM_common) 3 = .ok (.istore 4, 2) := by decide +kernel
theorem dM_common_5 : decode (zby mM_common) 5 = .ok (.iload 4, 2) := by decide +kernel
theorem dM_common_7 : decode (zby mM_common) 7 = .ok (.aload_n 0, 1) := by decide +kernel
theorem dM_common_8 : decode (zby mM_common) 8 = .ok (.getfield 9, 3) := by decide +kernel
theorem dM_common_11 : decode (zby mM_common) 11 = .ok (.iload_n 1, 1) := by decide +kernel
theorem dM_common_12 : decode (zby mM_common) 12 = .ok (.invokestatic 51, 3) := by decide +kernel
theorem dM_common_15 : decode (zby mM_common) 15 = .ok (.iconst 5, 1) := by decide +kernel
theorem dM_common_16 : decode (zby mM_common) 16 = .ok (.iadd, 1) := by decide +kernel
theorem dM_common_17 : decode (zby mM_common) 17 = .ok (.iaload, 1) := by decide +kernel
theorem dM_common_18 : decode (zby mM_common) 18 = .ok (.if_icmp .ge 25, 3) := by decide +kernel
theorem dM_common_21 : decode (zby mM_common) 21 = .ok (.iload_n 3, 1) := by decide +kernel
theorem dM_common_22 : decode (zby mM_common) 22 = .ok (.aload_n 0, 1) := by decide +kernel
theorem dM_common_23 : decode (zby mM_common) 23 = .ok (.iload_n 2, 1) := by decide +kernel
theorem dM_common_24 : decode (zby mM_common) 24 = .ok (.iconst 3, 1) := by decide +kernel
theorem dM_common_25 : decode (zby mM_common) 25 = .ok (.aload_n 0, 1) := by decide +kernel
theorem dM_common_26 : decode (zby mM_common) 26 = .ok (.iload_n 1, 1) := by decide +kernel
theorem dM_common_27 : decode (zby mM_common) 27 = .ok (.iload 4, 2) := by decide +kernel
theorem dM_common_29 : decode (zby mM_common) 29 = .ok (.invokevirtual 62, 3) := by decide +kernel
theorem dM_common_32 : decode (zby mM_common) 32 = .ok (.invokevirtual 70, 3) := by decide +kernel
theorem dM_common_35 : decode (zby mM_common) 35 = .ok (.iadd, 1) := by decide +kernel
theorem dM_common_36 : decode (zby mM_common) 36 = .ok (.istore_n 3, 1) := by decide +kernel
theorem dM_common_37 : decode (zby mM_common) 37 = .ok (.iinc 4 1, 3) := by decide +kernel
theorem dM_common_40 : decode (zby mM_common) 40 = .ok (.goto (-35), 3) := by decide +kernel
theorem dM_common_43 : decode (zby mM_common) 43 = .ok (.iload_n 3, 1) := by decide +kernel
theorem dM_common_44 : decode (zby mM_common) 44 = .ok (.ireturn, 1) := by decide +kernel
theorem dM_commonestCode_0 : decode (zby mM_commonestCode) 0 = .ok (.aload_n 0, 1) := by decide +kernel
theorem dM_commonestCode_1 : decode (zby mM_commonestCode) 1 = .ok (.iconst 0, 1) := by decide +kernel
theorem dM_commonestCode_2 : decode (zby mM_commonestCode) 2 = .ok (.putfield 45, 3) := by decide +kernel
theorem dM_commonestCode_5 : decode (zby mM_commonestCode) 5 = .ok (.iconst 0, 1) := by decide +kernel
theorem dM_commonestCode_6 : decode (zby mM_commonestCode) 6 = .ok (.istore_n 1, 1) := by decide +kernel
theorem dM_commonestCode_7 : decode (zby mM_commonestCode) 7 = .ok (.iconst (-1), 1) := by decide +kernel
theorem dM_commonestCode_8 : decode (zby mM_commonestCode) 8 = .ok (.istore_n 2, 1) := by decide +kernel
theorem dM_commonestCode_9 : decode (zby mM_commonestCode) 9 = .ok (.iconst 0, 1) := by decide +kernel
theorem dM_commonestCode_10 : decode (zby mM_commonestCode) 10 = .ok (.istore_n 3, 1) := by decide +kernel
theorem dM_commonestCode_11 : decode (zby mM_commonestCode) 11 = .ok (.iload_n 3, 1) := by decide +kernel
theorem dM_commonestCode_12 : decode (zby mM_commonestCode) 12 = .ok (.sipush 1000, 3) := by decide +kernel
theorem dM_commonestCode_15 : decode (zby mM_commonestCode) 15 = .ok (.if_icmp .ge 35, 3) := by decide +kernel
theorem dM_commonestCode_18 : decode (zby mM_commonestCode) 18 = .ok (.aload_n 0, 1) := by decide +kernel
theorem dM_commonestCode_19 : decode (zby mM_commonestCode) 19 = .ok (.iload_n 3, 1) := by decide +kernel
theorem dM_commonestCode_20 : decode (zby mM_commonestCode) 20 = .ok (.invokevirtual 166, 3) := by decide +kernel
theorem dM_commonestCode_23 : decode (zby mM_commonestCode) 23 = .ok (.istore 4, 2) := by decide +kernel
theorem dM_commonestCode_25 : decode (zby mM_commonestCode) 25 = .ok (.iload 4, 2) := by decide +kernel
theorem dM_commonestCode_27 : decode (zby mM_commonestCode) 27 = .ok (.iload_n 1, 1) := by decide +kernel
theorem dM_commonestCode_28 : decode (zby mM_commonestCode) 28 = .ok (.if_icmp .le 7, 3) := by decide +kernel
theorem dM_commonestCode_31 : decode (zby mM_commonestCode) 31 = .ok (.iload_n 3, 1) := by decide +kernel
theorem dM_commonestCode_32 : decode (zby mM_commonestCode) 32 = .ok (.goto 4, 3) := by decide +kernel
theorem dM_commonestCode_35 : decode (zby mM_commonestCode) 35 = .ok (.iload_n 2, 1) := by decide +kernel
theorem dM_commonestCode_36 : decode (zby mM_commonestCode) 36 = .ok (.istore_n 2, 1) := by decide +kernel
theorem dM_commonestCode_37 : decode (zby mM_commonestCode) 37 = .ok (.iload_n 1, 1) := by decide +kernel
theorem dM_commonestCode_38 : decode (zby mM_commonestCode) 38 = .ok (.iload 4, 2) := by decide +kernel
theorem dM_commonestCode_40 : decode (zby mM_commonestCode) 40 = .ok (.invokestatic 130, 3) := by decide +kernel
theorem dM_commonestCode_43 : decode (zby mM_commonestCode) 43 = .ok (.istore_n 1, 1) := by decide +kernel
theorem dM_commonestCode_44 : decode (zby mM_commonestCode) 44 = .ok (.iinc 3 1, 3) := by decide +kernel
theorem dM_commonestCode_47 : decode (zby mM_commonestCode) 47 = .ok (.goto (-36), 3) := by decide +kernel
theorem dM_commonestCode_50 : decode (zby mM_commonestCode) 50 = .ok (.iload_n 2, 1) := by decide +kernel
theorem dM_commonestCode_51 : decode (zby mM_commonestCode) 51 = .ok (.iconst (-1), 1) := by decide +kernel
theorem dM_commonestCode_52 : decode (zby mM_commonestCode) 52 = .ok (.if_icmp .ne 11, 3) := by decide +kernel
theorem dM_commonestCode_55 : decode (zby mM_commonestCode) 55 = .ok (.aload_n 0, 1) := by decide +kernel
theorem dM_commonestCode_56 : decode (zby mM_commonestCode) 56 = .ok (.iconst 1, 1) := by decide +kernel
theorem dM_commonestCode_57 : decode (zby mM_commonestCode) 57 = .ok (.invokevirtual 90, 3) := by decide +kernel
theorem dM_commonestCode_60 : decode (zby mM_commonestCode) 60 = .ok (.goto 4, 3) := by decide +kernel
theorem dM_commonestCode_63 : decode (zby mM_commonestCode) 63 = .ok (.iload_n 2, 1) := by decide +kernel
theorem dM_commonestCode_64 : decode (zby mM_commonestCode) 64 = .ok (.ireturn, 1) := by decide +kernel
theorem dM_daysLeft_0 : decode (zby mM_daysLeft) 0 = .ok (.aload_n 0, 1) := by decide +kernel
theorem dM_daysLeft_1 : decode (zby mM_daysLeft) 1 = .ok (.iload_n 1, 1) := by decide +kernel
theorem dM_daysLeft_2 : decode (zby mM_daysLeft) 2 = .ok (.invokevirtual 85, 3) := by decide +kernel
theorem dM_daysLeft_5 : decode (zby mM_daysLeft) 5 = .ok (.aload_n 0, 1) := by decide +kernel
theorem dM_daysLeft_6 : decode (zby mM_daysLeft) 6 = .ok (.getfield 9, 3) := by decide +kernel
theorem dM_daysLeft_9 : decode (zby mM_daysLeft) 9 = .ok (.iload_n 1, 1) := by decide +kernel
theorem dM_daysLeft_10 : decode (zby mM_daysLeft) 10 = .ok (.invokestatic 51, 3) := by decide +kernel
theorem dM_daysLeft_13 : decode (zby mM_daysLeft) 13 = .ok (.iconst 2, 1) := by decide +kernel
theorem dM_daysLeft_14 : decode (zby mM_daysLeft) 14 = .ok (.iadd, 1) := by decide +kernel
theorem dM_daysLeft_15 : decode (zby mM_daysLeft) 15 = .ok (.iaload, 1) := by decide +kernel
theorem dM_daysLeft_16 : decode (zby mM_daysLeft) 16 = .ok (.isub, 1) := by decide +kernel
theorem dM_daysLeft_17 : decode (zby mM_daysLeft) 17 = .ok (.iconst 1, 1) := by decide +kernel
theorem dM_daysLeft_18 : decode (zby mM_daysLeft) 18 = .ok (.iadd, 1) := by decide +kernel
theorem dM_daysLeft_19 : decode (zby mM_daysLeft) 19 = .ok (.ireturn, 1) := by decide +kernel
theorem dM_daysUntilFaded_0 : decode (zby mM_daysUntilFaded) 0 = .ok (.aload_n 0, 1) := by decide +kernel
theorem dM_daysUntilFaded_1 : decode (zby mM_daysUntilFaded) 1 = .ok (.iconst 0, 1) := by decide +kernel
theorem dM_daysUntilFaded_2 : decode (zby mM_daysUntilFaded) 2 = .ok (.putfield 45, 3) := by decide +kernel
theorem dM_daysUntilFaded_5 : decode (zby mM_daysUntilFaded) 5 = .ok (.aload_n 0, 1) := by decide +kernel
theorem dM_daysUntilFaded_6 : decode (zby mM_daysUntilFaded) 6 = .ok (.iload_n 1, 1) := by decide +kernel
theorem dM_daysUntilFaded_7 : decode (zby mM_daysUntilFaded) 7 = .ok (.invokevirtual 102, 3) := by decide +kernel
theorem dM_daysUntilFaded_10 : decode (zby mM_daysUntilFaded) 10 = .ok (.iconst (-1), 1) := by decide +kernel
theorem dM_daysUntilFaded_11 : decode (zby mM_daysUntilFaded) 11 = .ok (.if_icmp .ne 11, 3) := by decide +kernel
theorem dM_daysUntilFaded_14 : decode (zby mM_daysUntilFaded) 14 = .ok (.aload_n 0, 1) := by decide +kernel
theorem dM_daysUntilFaded_15 : decode (zby mM_daysUntilFaded) 15 = .ok (.iconst 1, 1) := by decide +kernel
theorem dM_daysUntilFaded_16 : decode (zby mM_daysUntilFaded) 16 = .ok (.invokevirtual 90, 3) := by decide +kernel
theorem dM_daysUntilFaded_19 : decode (zby mM_daysUntilFaded) 19 = .ok (.goto 12, 3) := by decide +kernel
theorem dM_daysUntilFaded_22 : decode (zby mM_daysUntilFaded) 22 = .ok (.aload_n 0, 1) := by decide +kernel
theorem dM_daysUntilFaded_23 : decode (zby mM_daysUntilFaded) 23 = .ok (.aload_n 0, 1) := by decide +kernel
theorem dM_daysUntilFaded_24 : decode (zby mM_daysUntilFaded) 24 = .ok (.iload_n 1, 1) := by decide +kernel
theorem dM_daysUntilFaded_25 : decode (zby mM_daysUntilFaded) 25 = .ok (.invokevirtual 102, 3) := by decide +kernel
theorem dM_daysUntilFaded_28 : decode (zby mM_daysUntilFaded) 28 = .ok (.invokevirtual 174, 3) := by decide +kernel
theorem dM_daysUntilFaded_31 : decode (zby mM_daysUntilFaded) 31 = .ok (.ireturn, 1) := by decide +kernel
theorem dM_daysUntilFadedByDays_0 : decode (zby mM_daysUntilFadedByDays) 0 = .ok (.aload_n 0, 1) := by decide +kernel
theorem dM_daysUntilFadedByDays_1 : decode (zby mM_daysUntilFadedByDays) 1 = .ok (.iload_n 1, 1) := by decide +kernel
theorem dM_daysUntilFadedByDays_2 : decode (zby mM_daysUntilFadedByDays) 2 = .ok (.invokevirtual 177, 3) := by decide +kernel
theorem dM_daysUntilFadedByDays_5 : decode (zby mM_daysUntilFadedByDays) 5 = .ok (.ireturn, 1) := by decide +kernel
theorem dM_digit_0 : decode (zby mM_digit) 0 = .ok (.aload_n 0, 1) := by decide +kernel
theorem dM_digit_1 : decode (zby mM_digit) 1 = .ok (.aload_n 0, 1) := by decide +kernel
theorem dM_digit_2 : decode (zby mM_digit) 2 = .ok (.getfield 208, 3) := by decide +kernel
theorem dM_digit_5 : decode (zby mM_digit) 5 = .ok (.ifCond .ne 20, 3) := by decide +kernel
theorem dM_digit_8 : decode (zby mM_digit) 8 = .ok (.aload_n 0, 1) := by decide +kernel
theorem dM_digit_9 : decode (zby mM_digit) 9 = .ok (.invokevirtual 212, 3) := by decide +kernel
theorem dM_digit_12 : decode (zby mM_digit) 12 = .ok (.i2l, 1) := by decide +kernel
theorem dM_digit_13 : decode (zby mM_digit) 13 = .ok (.ldc2_w 215, 3) := by decide +kernel
theorem dM_digit_16 : decode (zby mM_digit) 16 = .ok (.ldc2_w 217, 3) := by decide +kernel
theorem dM_digit_19 : decode (zby mM_digit) 19 = .ok (.invokestatic 55, 3) := by decide +kernel
theorem dM_digit_22 : decode (zby mM_digit) 22 = .ok (.ifCond .ne 7, 3) := by decide +kernel
theorem dM_digit_25 : decode (zby mM_digit) 25 = .ok (.iconst 1, 1) := by decide +kernel
theorem dM_digit_26 : decode (zby mM_digit) 26 = .ok (.goto 4, 3) := by decide +kernel
theorem dM_digit_29 : decode (zby mM_digit) 29 = .ok (.iconst 0, 1) := by decide +kernel
theorem dM_digit_30 : decode (zby mM_digit) 30 = .ok (.putfield 208, 3) := by decide +kernel
theorem dM_digit_33 : decode (zby mM_digit) 33 = .ok (.aload_n 0, 1) := by decide +kernel
theorem dM_digit_34 : decode (zby mM_digit) 34 = .ok (.getfield 208, 3) := by decide +kernel
theorem dM_digit_37 : decode (zby mM_digit) 37 = .ok (.ifCond .eq 7, 3) := by decide +kernel
theorem dM_digit_40 : decode (zby mM_digit) 40 = .ok (.iconst 0, 1) := by decide +kernel
theorem dM_digit_41 : decode (zby mM_digit) 41 = .ok (.goto 10, 3) := by decide +kernel
theorem dM_digit_44 : decode (zby mM_digit) 44 = .ok (.aload_n 0, 1) := by decide +kernel
theorem dM_digit_45 : decode (zby mM_digit) 45 = .ok (.invokevirtual 212, 3) := by decide +kernel
theorem dM_digit_48 : decode (zby mM_digit) 48 = .ok (.bipush 48, 2) := by decide +kernel
theorem dM_digit_50 : decode (zby mM_digit) 50 = .ok (.isub, 1) := by decide +kernel
theorem dM_digit_51 : decode (zby mM_digit) 51 = .ok (.istore_n 1, 1) := by decide +kernel
theorem dM_digit_52 : decode (zby mM_digit) 52 = .ok (.aload_n 0, 1) := by decide +kernel
theorem dM_digit_53 : decode (zby mM_digit) 53 = .ok (.dup, 1) := by decide +kernel
theorem dM_digit_54 : decode (zby mM_digit) 54 = .ok (.getfield 202, 3) := by decide +kernel
theorem dM_digit_57 : decode (zby mM_digit) 57 = .ok (.aload_n 0, 1) := by decide +kernel
theorem dM_digit_58 : decode (zby mM_digit) 58 = .ok (.getfield 208, 3) := by decide +kernel
theorem dM_digit_61 : decode (zby mM_digit) 61 = .ok (.ifCond .eq 7, 3) := by decide +kernel
theorem dM_digit_64 : decode (zby mM_digit) 64 = .ok (.iconst 0, 1) := by decide +kernel
theorem dM_digit_65 : decode (zby mM_digit) 65 = .ok (.goto 4, 3) := by decide +kernel
theorem dM_digit_68 : decode (zby mM_digit) 68 = .ok (.iconst 1, 1) := by decide +kernel
theorem dM_digit_69 : decode (zby mM_digit) 69 = .ok (.iadd, 1) := by decide +kernel
theorem dM_digit_70 : decode (zby mM_digit) 70 = .ok (.putfield 202, 3) := by decide +kernel
theorem dM_digit_73 : decode (zby mM_digit) 73 = .ok (.iload_n 1, 1) := by decide +kernel
theorem dM_digit_74 : decode (zby mM_digit) 74 = .ok (.ireturn, 1) := by decide +kernel
theorem dM_does_0 : decode (zby mM_does) 0 = .ok (.aload_n 0, 1) := by decide +kernel
theorem dM_does_1 : decode (zby mM_does) 1 = .ok (.getfield 42, 3) := by decide +kernel
theorem dM_does_4 : decode (zby mM_does) 4 = .ok (.iload_n 1, 1) := by decide +kernel
theorem dM_does_5 : decode (zby mM_does) 5 = .ok (.iconst 1, 1) := by decide +kernel
theorem dM_does_6 : decode (zby mM_does) 6 = .ok (.iadd, 1) := by decide +kernel
theorem dM_does_7 : decode (zby mM_does) 7 = .ok (.iaload, 1) := by decide +kernel
theorem dM_does_8 : decode (zby mM_does) 8 = .ok (.istore_n 2, 1) := by decide +kernel
theorem dM_does_9 : decode (zby mM_does) 9 = .ok (.aload_n 0, 1) := by decide +kernel
theorem dM_does_10 : decode (zby mM_does) 10 = .ok (.getfield 42, 3) := by decide +kernel
theorem dM_does_13 : decode (zby mM_does) 13 = .ok (.iload_n 1, 1) := by decide +kernel
theorem dM_does_14 : decode (zby mM_does) 14 = .ok (.iconst 2, 1) := by decide +kernel
theorem dM_does_15 : decode (zby mM_does) 15 = .ok (.iadd, 1) := by decide +kernel
theorem dM_does_16 : decode (zby mM_does) 16 = .ok (.iaload, 1) := by decide +kernel
theorem dM_does_17 : decode (zby mM_does) 17 = .ok (.istore_n 3, 1) := by decide +kernel
theorem dM_does_18 : decode (zby mM_does) 18 = .ok (.aload_n 0, 1) := by decide +kernel
theorem dM_does_19 : decode (zby mM_does) 19 = .ok (.getfield 42, 3) := by decide +kernel
theorem dM_does_22 : decode (zby mM_does) 22 = .ok (.iload_n 1, 1) := by decide +kernel
theorem dM_does_23 : decode (zby mM_does) 23 = .ok (.iaload, 1) := by decide +kernel
theorem dM_does_24 : decode (zby mM_does) 24 = .ok (.tableswitch 136 0 8 #[52, 61, 71, 81, 90, 99, 109, 117, 126], 52) := by decide +kernel
theorem dM_does_76 : decode (zby mM_does) 76 = .ok (.aload_n 0, 1) := by decide +kernel
theorem dM_does_77 : decode (zby mM_does) 77 = .ok (.iload_n 2, 1) := by decide +kernel
theorem dM_does_78 : decode (zby mM_does) 78 = .ok (.invokevirtual 96, 3) := by decide +kernel
theorem dM_does_81 : decode (zby mM_does) 81 = .ok (.pop, 1) := by decide +kernel
theorem dM_does_82 : decode (zby mM_does) 82 = .ok (.goto 84, 3) := by decide +kernel
theorem dM_does_85 : decode (zby mM_does) 85 = .ok (.aload_n 0, 1) := by decide +kernel
theorem dM_does_86 : decode (zby mM_does) 86 = .ok (.iload_n 2, 1) := by decide +kernel
theorem dM_does_87 : decode (zby mM_does) 87 = .ok (.iload_n 3, 1) := by decide +kernel
theorem dM_does_88 : decode (zby mM_does) 88 = .ok (.invokevirtual 111, 3) := by decide +kernel
theorem dM_does_91 : decode (zby mM_does) 91 = .ok (.pop, 1) := by decide +kernel
theorem dM_does_92 : decode (zby mM_does) 92 = .ok (.goto 74, 3) := by decide +kernel
theorem dM_does_95 : decode (zby mM_does) 95 = .ok (.aload_n 0, 1) := by decide +kernel
theorem dM_does_96 : decode (zby mM_does) 96 = .ok (.iload_n 2, 1) := by decide +kernel
theorem dM_does_97 : decode (zby mM_does) 97 = .ok (.iload_n 3, 1) := by decide +kernel
theorem dM_does_98 : decode (zby mM_does) 98 = .ok (.invokevirtual 114, 3) := by decide +kernel
theorem dM_does_101 : decode (zby mM_does) 101 = .ok (.pop, 1) := by decide +kernel
theorem dM_does_102 : decode (zby mM_does) 102 = .ok (.goto 64, 3) := by decide +kernel
theorem dM_does_105 : decode (zby mM_does) 105 = .ok (.aload_n 0, 1) := by decide +kernel
theorem dM_does_106 : decode (zby mM_does) 106 = .ok (.iload_n 2, 1) := by decide +kernel
theorem dM_does_107 : decode (zby mM_does) 107 = .ok (.invokevirtual 121, 3) := by decide +kernel
theorem dM_does_110 : decode (zby mM_does) 110 = .ok (.pop, 1) := by decide +kernel
theorem dM_does_111 : decode (zby mM_does) 111 = .ok (.goto 55, 3) := by decide +kernel
theorem dM_does_114 : decode (zby mM_does) 114 = .ok (.aload_n 0, 1) := by decide +kernel
theorem dM_does_115 : decode (zby mM_does) 115 = .ok (.iload_n 2, 1) := by decide +kernel
theorem dM_does_116 : decode (zby mM_does) 116 = .ok (.invokevirtual 124, 3) := by decide +kernel
theorem dM_does_119 : decode (zby mM_does) 119 = .ok (.pop, 1) := by decide +kernel
theorem dM_does_120 : decode (zby mM_does) 120 = .ok (.goto 46, 3) := by decide +kernel
theorem dM_does_123 : decode (zby mM_does) 123 = .ok (.aload_n 0, 1) := by decide +kernel
theorem dM_does_124 : decode (zby mM_does) 124 = .ok (.iload_n 2, 1) := by decide +kernel
theorem dM_does_125 : decode (zby mM_does) 125 = .ok (.iload_n 3, 1) := by decide +kernel
theorem dM_does_126 : decode (zby mM_does) 126 = .ok (.invokevirtual 133, 3) := by decide +kernel
theorem dM_does_129 : decode (zby mM_does) 129 = .ok (.pop, 1) := by decide +kernel
theorem dM_does_130 : decode (zby mM_does) 130 = .ok (.goto 36, 3) := by decide +kernel
theorem dM_does_133 : decode (zby mM_does) 133 = .ok (.aload_n 0, 1) := by decide +kernel
theorem dM_does_134 : decode (zby mM_does) 134 = .ok (.invokevirtual 136, 3) := by decide +kernel
theorem dM_does_137 : decode (zby mM_does) 137 = .ok (.pop, 1) := by decide +kernel
theorem dM_does_138 : decode (zby mM_does) 138 = .ok (.goto 28, 3) := by decide +kernel
theorem dM_does_141 : decode (zby mM_does) 141 = .ok (.aload_n 0, 1) := by decide +kernel
theorem dM_does_142 : decode (zby mM_does) 142 = .ok (.iload_n 2, 1) := by decide +kernel
theorem dM_does_143 : decode (zby mM_does) 143 = .ok (.invokevirtual 140, 3) := by decide +kernel
theorem dM_does_146 : decode (zby mM_does) 146 = .ok (.pop, 1) := by decide +kernel
theorem dM_does_147 : decode (zby mM_does) 147 = .ok (.goto 19, 3) := by decide +kernel
theorem dM_does_150 : decode (zby mM_does) 150 = .ok (.aload_n 0, 1) := by decide +kernel
theorem dM_does_151 : decode (zby mM_does) 151 = .ok (.iload_n 2, 1) := by decide +kernel
theorem dM_does_152 : decode (zby mM_does) 152 = .ok (.iload_n 3, 1) := by decide +kernel
theorem dM_does_153 : decode (zby mM_does) 153 = .ok (.invokevirtual 146, 3) := by decide +kernel
theorem dM_does_156 : decode (zby mM_does) 156 = .ok (.pop, 1) := by decide +kernel
theorem dM_does_157 : decode (zby mM_does) 157 = .ok (.goto 9, 3) := by decide +kernel
theorem dM_does_160 : decode (zby mM_does) 160 = .ok (.aload_n 0, 1) := by decide +kernel
theorem dM_does_161 : decode (zby mM_does) 161 = .ok (.iload_n 2, 1) := by decide +kernel
theorem dM_does_162 : decode (zby mM_does) 162 = .ok (.invokevirtual 151, 3) := by decide +kernel
theorem dM_does_165 : decode (zby mM_does) 165 = .ok (.pop, 1) := by decide +kernel
theorem dM_does_166 : decode (zby mM_does) 166 = .ok (.return_, 1) := by decide +kernel
theorem dM_dropIt_0 : decode (zby mM_dropIt) 0 = .ok (.aload_n 0, 1) := by decide +kernel
theorem dM_dropIt_1 : decode (zby mM_dropIt) 1 = .ok (.iload_n 1, 1) := by decide +kernel
theorem dM_dropIt_2 : decode (zby mM_dropIt) 2 = .ok (.invokevirtual 102, 3) := by decide +kernel
theorem dM_dropIt_5 : decode (zby mM_dropIt) 5 = .ok (.istore_n 2, 1) := by decide +kernel
theorem dM_dropIt_6 : decode (zby mM_dropIt) 6 = .ok (.iload_n 2, 1) := by decide +kernel
theorem dM_dropIt_7 : decode (zby mM_dropIt) 7 = .ok (.iconst (-1), 1) := by decide +kernel
theorem dM_dropIt_8 : decode (zby mM_dropIt) 8 = .ok (.if_icmp .ne 9, 3) := by decide +kernel
theorem dM_dropIt_11 : decode (zby mM_dropIt) 11 = .ok (.aload_n 0, 1) := by decide +kernel
theorem dM_dropIt_12 : decode (zby mM_dropIt) 12 = .ok (.iconst 1, 1) := by decide +kernel
theorem dM_dropIt_13 : decode (zby mM_dropIt) 13 = .ok (.invokevirtual 90, 3) := by decide +kernel
theorem dM_dropIt_16 : decode (zby mM_dropIt) 16 = .ok (.ireturn, 1) := by decide +kernel
theorem dM_dropIt_17 : decode (zby mM_dropIt) 17 = .ok (.aload_n 0, 1) := by decide +kernel
theorem dM_dropIt_18 : decode (zby mM_dropIt) 18 = .ok (.iload_n 2, 1) := by decide +kernel
theorem dM_dropIt_19 : decode (zby mM_dropIt) 19 = .ok (.invokevirtual 117, 3) := by decide +kernel
theorem dM_dropIt_22 : decode (zby mM_dropIt) 22 = .ok (.aload_n 0, 1) := by decide +kernel
theorem dM_dropIt_23 : decode (zby mM_dropIt) 23 = .ok (.getfield 9, 3) := by decide +kernel
theorem dM_dropIt_26 : decode (zby mM_dropIt) 26 = .ok (.iconst 3, 1) := by decide +kernel
theorem dM_dropIt_27 : decode (zby mM_dropIt) 27 = .ok (.dup2, 1) := by decide +kernel
theorem dM_dropIt_28 : decode (zby mM_dropIt) 28 = .ok (.iaload, 1) := by decide +kernel
theorem dM_dropIt_29 : decode (zby mM_dropIt) 29 = .ok (.iconst 1, 1) := by decide +kernel
theorem dM_dropIt_30 : decode (zby mM_dropIt) 30 = .ok (.iadd, 1) := by decide +kernel
theorem dM_dropIt_31 : decode (zby mM_dropIt) 31 = .ok (.iastore, 1) := by decide +kernel
theorem dM_dropIt_32 : decode (zby mM_dropIt) 32 = .ok (.aload_n 0, 1) := by decide +kernel
theorem dM_dropIt_33 : decode (zby mM_dropIt) 33 = .ok (.getfield 9, 3) := by decide +kernel
theorem dM_dropIt_36 : decode (zby mM_dropIt) 36 = .ok (.iconst 0, 1) := by decide +kernel
theorem dM_dropIt_37 : decode (zby mM_dropIt) 37 = .ok (.iaload, 1) := by decide +kernel
theorem dM_dropIt_38 : decode (zby mM_dropIt) 38 = .ok (.ireturn, 1) := by decide +kernel
theorem dM_entriesIn_0 : decode (zby mM_entriesIn) 0 = .ok (.aload_n 0, 1) := by decide +kernel
theorem dM_entriesIn_1 : decode (zby mM_entriesIn) 1 = .ok (.iconst 0, 1) := by decide +kernel
theorem dM_entriesIn_2 : decode (zby mM_entriesIn) 2 = .ok (.putfield 45, 3) := by decide +kernel
theorem dM_entriesIn_5 : decode (zby mM_entriesIn) 5 = .ok (.iload_n 1, 1) := by decide +kernel
theorem dM_entriesIn_6 : decode (zby mM_entriesIn) 6 = .ok (.i2l, 1) := by decide +kernel
theorem dM_entriesIn_7 : decode (zby mM_entriesIn) 7 = .ok (.lconst 0, 1) := by decide +kernel
theorem dM_entriesIn_8 : decode (zby mM_entriesIn) 8 = .ok (.aload_n 0, 1) := by decide +kernel
theorem dM_entriesIn_9 : decode (zby mM_entriesIn) 9 = .ok (.getfield 9, 3) := by decide +kernel
theorem dM_entriesIn_12 : decode (zby mM_entriesIn) 12 = .ok (.iconst 2, 1) := by decide +kernel
theorem dM_entriesIn_13 : decode (zby mM_entriesIn) 13 = .ok (.iaload, 1) := by decide +kernel
theorem dM_entriesIn_14 : decode (zby mM_entriesIn) 14 = .ok (.iconst 1, 1) := by decide +kernel
theorem dM_entriesIn_15 : decode (zby mM_entriesIn) 15 = .ok (.isub, 1) := by decide +kernel
theorem dM_entriesIn_16 : decode (zby mM_entriesIn) 16 = .ok (.i2l, 1) := by decide +kernel
theorem dM_entriesIn_17 : decode (zby mM_entriesIn) 17 = .ok (.invokestatic 55, 3) := by decide +kernel
theorem dM_entriesIn_20 : decode (zby mM_entriesIn) 20 = .ok (.ifCond .ne 9, 3) := by decide +kernel
theorem dM_entriesIn_23 : decode (zby mM_entriesIn) 23 = .ok (.aload_n 0, 1) := by decide +kernel
theorem dM_entriesIn_24 : decode (zby mM_entriesIn) 24 = .ok (.iconst 1, 1) := by decide +kernel
theorem dM_entriesIn_25 : decode (zby mM_entriesIn) 25 = .ok (.invokevirtual 90, 3) := by decide +kernel
theorem dM_entriesIn_28 : decode (zby mM_entriesIn) 28 = .ok (.ireturn, 1) := by decide +kernel
theorem dM_entriesIn_29 : decode (zby mM_entriesIn) 29 = .ok (.iconst 0, 1) := by decide +kernel
theorem dM_entriesIn_30 : decode (zby mM_entriesIn) 30 = .ok (.istore_n 2, 1) := by decide +kernel
theorem dM_entriesIn_31 : decode (zby mM_entriesIn) 31 = .ok (.iconst 0, 1) := by decide +kernel
theorem dM_entriesIn_32 : decode (zby mM_entriesIn) 32 = .ok (.istore_n 3, 1) := by decide +kernel
theorem dM_entriesIn_33 : decode (zby mM_entriesIn) 33 = .ok (.iload_n 3, 1) := by decide +kernel
theorem dM_entriesIn_34 : decode (zby mM_entriesIn) 34 = .ok (.aload_n 0, 1) := by decide +kernel
theorem dM_entriesIn_35 : decode (zby mM_entriesIn) 35 = .ok (.getfield 9, 3) := by decide +kernel
theorem dM_entriesIn_38 : decode (zby mM_entriesIn) 38 = .ok (.iconst 0, 1) := by decide +kernel
theorem dM_entriesIn_39 : decode (zby mM_entriesIn) 39 = .ok (.iaload, 1) := by decide +kernel
theorem dM_entriesIn_40 : decode (zby mM_entriesIn) 40 = .ok (.if_icmp .ge 32, 3) := by decide +kernel
theorem dM_entriesIn_43 : decode (zby mM_entriesIn) 43 = .ok (.iload_n 2, 1) := by decide +kernel
theorem dM_entriesIn_44 : decode (zby mM_entriesIn) 44 = .ok (.aload_n 0, 1) := by decide +kernel
theorem dM_entriesIn_45 : decode (zby mM_entriesIn) 45 = .ok (.getfield 9, 3) := by decide +kernel
theorem dM_entriesIn_48 : decode (zby mM_entriesIn) 48 = .ok (.iload_n 3, 1) := by decide +kernel
theorem dM_entriesIn_49 : decode (zby mM_entriesIn) 49 = .ok (.invokestatic 51, 3) := by decide +kernel
theorem dM_entriesIn_52 : decode (zby mM_entriesIn) 52 = .ok (.iconst 4, 1) := by decide +kernel
theorem dM_entriesIn_53 : decode (zby mM_entriesIn) 53 = .ok (.iadd, 1) := by decide +kernel
theorem dM_entriesIn_54 : decode (zby mM_entriesIn) 54 = .ok (.iaload, 1) := by decide +kernel
theorem dM_entriesIn_55 : decode (zby mM_entriesIn) 55 = .ok (.iload_n 1, 1) := by decide +kernel
theorem dM_entriesIn_56 : decode (zby mM_entriesIn) 56 = .ok (.if_icmp .ne 7, 3) := by decide +kernel
theorem dM_entriesIn_59 : decode (zby mM_entriesIn) 59 = .ok (.iconst 1, 1) := by decide +kernel
theorem dM_entriesIn_60 : decode (zby mM_entriesIn) 60 = .ok (.goto 4, 3) := by decide +kernel
theorem dM_entriesIn_63 : decode (zby mM_entriesIn) 63 = .ok (.iconst 0, 1) := by decide +kernel
theorem dM_entriesIn_64 : decode (zby mM_entriesIn) 64 = .ok (.iadd, 1) := by decide +kernel
theorem dM_entriesIn_65 : decode (zby mM_entriesIn) 65 = .ok (.istore_n 2, 1) := by decide +kernel
theorem dM_entriesIn_66 : decode (zby mM_entriesIn) 66 = .ok (.iinc 3 1, 3) := by decide +kernel
theorem dM_entriesIn_69 : decode (zby mM_entriesIn) 69 = .ok (.goto (-36), 3) := by decide +kernel
theorem dM_entriesIn_72 : decode (zby mM_entriesIn) 72 = .ok (.iload_n 2, 1) := by decide +kernel
theorem dM_entriesIn_73 : decode (zby mM_entriesIn) 73 = .ok (.ireturn, 1) := by decide +kernel
theorem dM_entriesWith_0 : decode (zby mM_entriesWith) 0 = .ok (.aload_n 0, 1) := by decide +kernel
theorem dM_entriesWith_1 : decode (zby mM_entriesWith) 1 = .ok (.iconst 0, 1) := by decide +kernel
theorem dM_entriesWith_2 : decode (zby mM_entriesWith) 2 = .ok (.putfield 45, 3) := by decide +kernel
theorem dM_entriesWith_5 : decode (zby mM_entriesWith) 5 = .ok (.iload_n 1, 1) := by decide +kernel
theorem dM_entriesWith_6 : decode (zby mM_entriesWith) 6 = .ok (.i2l, 1) := by decide +kernel
theorem dM_entriesWith_7 : decode (zby mM_entriesWith) 7 = .ok (.lconst 0, 1) := by decide +kernel
theorem dM_entriesWith_8 : decode (zby mM_entriesWith) 8 = .ok (.ldc2_w 105, 3) := by decide +kernel
theorem dM_entriesWith_11 : decode (zby mM_entriesWith) 11 = .ok (.invokestatic 55, 3) := by decide +kernel
theorem dM_entriesWith_14 : decode (zby mM_entriesWith) 14 = .ok (.ifCond .eq 11, 3) := by decide +kernel
theorem dM_entriesWith_17 : decode (zby mM_entriesWith) 17 = .ok (.aload_n 0, 1) := by decide +kernel
theorem dM_entriesWith_18 : decode (zby mM_entriesWith) 18 = .ok (.iload_n 1, 1) := by decide +kernel
theorem dM_entriesWith_19 : decode (zby mM_entriesWith) 19 = .ok (.invokevirtual 166, 3) := by decide +kernel
theorem dM_entriesWith_22 : decode (zby mM_entriesWith) 22 = .ok (.goto 8, 3) := by decide +kernel
theorem dM_entriesWith_25 : decode (zby mM_entriesWith) 25 = .ok (.aload_n 0, 1) := by decide +kernel
theorem dM_entriesWith_26 : decode (zby mM_entriesWith) 26 = .ok (.iconst 1, 1) := by decide +kernel
theorem dM_entriesWith_27 : decode (zby mM_entriesWith) 27 = .ok (.invokevirtual 90, 3) := by decide +kernel
theorem dM_entriesWith_30 : decode (zby mM_entriesWith) 30 = .ok (.ireturn, 1) := by decide +kernel
theorem dM_entryAt_0 : decode (zby mM_entryAt) 0 = .ok (.bipush 6, 2) := by decide +kernel
theorem dM_entryAt_2 : decode (zby mM_entryAt) 2 = .ok (.bipush 12, 2) := by decide +kernel
theorem dM_entryAt_4 : decode (zby mM_entryAt) 4 = .ok (.iload_n 0, 1) := by decide +kernel
theorem dM_entryAt_5 : decode (zby mM_entryAt) 5 = .ok (.imul, 1) := by decide +kernel
theorem dM_entryAt_6 : decode (zby mM_entryAt) 6 = .ok (.iadd, 1) := by decide +kernel
theorem dM_entryAt_7 : decode (zby mM_entryAt) 7 = .ok (.ireturn, 1) := by decide +kernel
theorem dM_entryCount_0 : decode (zby mM_entryCount) 0 = .ok (.aload_n 0, 1) := by decide +kernel
theorem dM_entryCount_1 : decode (zby mM_entryCount) 1 = .ok (.iconst 0, 1) := by decide +kernel
theorem dM_entryCount_2 : decode (zby mM_entryCount) 2 = .ok (.invokevirtual 154, 3) := by decide +kernel
theorem dM_entryCount_5 : decode (zby mM_entryCount) 5 = .ok (.ireturn, 1) := by decide +kernel
theorem dM_entryIt_0 : decode (zby mM_entryIt) 0 = .ok (.iload_n 1, 1) := by decide +kernel
theorem dM_entryIt_1 : decode (zby mM_entryIt) 1 = .ok (.i2l, 1) := by decide +kernel
theorem dM_entryIt_2 : decode (zby mM_entryIt) 2 = .ok (.lconst 1, 1) := by decide +kernel
theorem dM_entryIt_3 : decode (zby mM_entryIt) 3 = .ok (.ldc2_w 88, 3) := by decide +kernel
theorem dM_entryIt_6 : decode (zby mM_entryIt) 6 = .ok (.invokestatic 55, 3) := by decide +kernel
theorem dM_entryIt_9 : decode (zby mM_entryIt) 9 = .ok (.ifCond .ne 9, 3) := by decide +kernel
theorem dM_entryIt_12 : decode (zby mM_entryIt) 12 = .ok (.aload_n 0, 1) := by decide +kernel
theorem dM_entryIt_13 : decode (zby mM_entryIt) 13 = .ok (.iconst 1, 1) := by decide +kernel
theorem dM_entryIt_14 : decode (zby mM_entryIt) 14 = .ok (.invokevirtual 90, 3) := by decide +kernel
theorem dM_entryIt_17 : decode (zby mM_entryIt) 17 = .ok (.ireturn, 1) := by decide +kernel
theorem dM_entryIt_18 : decode (zby mM_entryIt) 18 = .ok (.aload_n 0, 1) := by decide +kernel
theorem dM_entryIt_19 : decode (zby mM_entryIt) 19 = .ok (.getfield 9, 3) := by decide +kernel
theorem dM_entryIt_22 : decode (zby mM_entryIt) 22 = .ok (.iconst 0, 1) := by decide +kernel
theorem dM_entryIt_23 : decode (zby mM_entryIt) 23 = .ok (.iaload, 1) := by decide +kernel
theorem dM_entryIt_24 : decode (zby mM_entryIt) 24 = .ok (.bipush 20, 2) := by decide +kernel
theorem dM_entryIt_26 : decode (zby mM_entryIt) 26 = .ok (.if_icmp .ne 9, 3) := by decide +kernel
theorem dM_entryIt_29 : decode (zby mM_entryIt) 29 = .ok (.aload_n 0, 1) := by decide +kernel
theorem dM_entryIt_30 : decode (zby mM_entryIt) 30 = .ok (.iconst 2, 1) := by decide +kernel
theorem dM_entryIt_31 : decode (zby mM_entryIt) 31 = .ok (.invokevirtual 90, 3) := by decide +kernel
theorem dM_entryIt_34 : decode (zby mM_entryIt) 34 = .ok (.ireturn, 1) := by decide +kernel
theorem dM_entryIt_35 : decode (zby mM_entryIt) 35 = .ok (.aload_n 0, 1) := by decide +kernel
theorem dM_entryIt_36 : decode (zby mM_entryIt) 36 = .ok (.getfield 9, 3) := by decide +kernel
theorem dM_entryIt_39 : decode (zby mM_entryIt) 39 = .ok (.iconst 0, 1) := by decide +kernel
theorem dM_entryIt_40 : decode (zby mM_entryIt) 40 = .ok (.iaload, 1) := by decide +kernel
theorem dM_entryIt_41 : decode (zby mM_entryIt) 41 = .ok (.invokestatic 51, 3) := by decide +kernel
theorem dM_entryIt_44 : decode (zby mM_entryIt) 44 = .ok (.istore_n 2, 1) := by decide +kernel
theorem dM_entryIt_45 : decode (zby mM_entryIt) 45 = .ok (.aload_n 0, 1) := by decide +kernel
theorem dM_entryIt_46 : decode (zby mM_entryIt) 46 = .ok (.getfield 9, 3) := by decide +kernel
theorem dM_entryIt_49 : decode (zby mM_entryIt) 49 = .ok (.iload_n 2, 1) := by decide +kernel
theorem dM_entryIt_50 : decode (zby mM_entryIt) 50 = .ok (.aload_n 0, 1) := by decide +kernel
theorem dM_entryIt_51 : decode (zby mM_entryIt) 51 = .ok (.getfield 9, 3) := by decide +kernel
theorem dM_entryIt_54 : decode (zby mM_entryIt) 54 = .ok (.iconst 1, 1) := by decide +kernel
theorem dM_entryIt_55 : decode (zby mM_entryIt) 55 = .ok (.iaload, 1) := by decide +kernel
theorem dM_entryIt_56 : decode (zby mM_entryIt) 56 = .ok (.iastore, 1) := by decide +kernel
theorem dM_entryIt_57 : decode (zby mM_entryIt) 57 = .ok (.aload_n 0, 1) := by decide +kernel
theorem dM_entryIt_58 : decode (zby mM_entryIt) 58 = .ok (.getfield 9, 3) := by decide +kernel
theorem dM_entryIt_61 : decode (zby mM_entryIt) 61 = .ok (.iload_n 2, 1) := by decide +kernel
theorem dM_entryIt_62 : decode (zby mM_entryIt) 62 = .ok (.iconst 1, 1) := by decide +kernel
theorem dM_entryIt_63 : decode (zby mM_entryIt) 63 = .ok (.iadd, 1) := by decide +kernel
theorem dM_entryIt_64 : decode (zby mM_entryIt) 64 = .ok (.iload_n 1, 1) := by decide +kernel
theorem dM_entryIt_65 : decode (zby mM_entryIt) 65 = .ok (.iastore, 1) := by decide +kernel
theorem dM_entryIt_66 : decode (zby mM_entryIt) 66 = .ok (.aload_n 0, 1) := by decide +kernel
theorem dM_entryIt_67 : decode (zby mM_entryIt) 67 = .ok (.getfield 9, 3) := by decide +kernel
theorem dM_entryIt_70 : decode (zby mM_entryIt) 70 = .ok (.iload_n 2, 1) := by decide +kernel
theorem dM_entryIt_71 : decode (zby mM_entryIt) 71 = .ok (.iconst 4, 1) := by decide +kernel
theorem dM_entryIt_72 : decode (zby mM_entryIt) 72 = .ok (.iadd, 1) := by decide +kernel
theorem dM_entryIt_73 : decode (zby mM_entryIt) 73 = .ok (.aload_n 0, 1) := by decide +kernel
theorem dM_entryIt_74 : decode (zby mM_entryIt) 74 = .ok (.getfield 9, 3) := by decide +kernel
theorem dM_entryIt_77 : decode (zby mM_entryIt) 77 = .ok (.iconst 2, 1) := by decide +kernel
theorem dM_entryIt_78 : decode (zby mM_entryIt) 78 = .ok (.iaload, 1) := by decide +kernel
theorem dM_entryIt_79 : decode (zby mM_entryIt) 79 = .ok (.iconst 1, 1) := by decide +kernel
theorem dM_entryIt_80 : decode (zby mM_entryIt) 80 = .ok (.isub, 1) := by decide +kernel
theorem dM_entryIt_81 : decode (zby mM_entryIt) 81 = .ok (.iastore, 1) := by decide +kernel
theorem dM_entryIt_82 : decode (zby mM_entryIt) 82 = .ok (.aload_n 0, 1) := by decide +kernel
theorem dM_entryIt_83 : decode (zby mM_entryIt) 83 = .ok (.getfield 9, 3) := by decide +kernel
theorem dM_entryIt_86 : decode (zby mM_entryIt) 86 = .ok (.iconst 0, 1) := by decide +kernel
theorem dM_entryIt_87 : decode (zby mM_entryIt) 87 = .ok (.dup2, 1) := by decide +kernel
theorem dM_entryIt_88 : decode (zby mM_entryIt) 88 = .ok (.iaload, 1) := by decide +kernel
theorem dM_entryIt_89 : decode (zby mM_entryIt) 89 = .ok (.iconst 1, 1) := by decide +kernel
theorem dM_entryIt_90 : decode (zby mM_entryIt) 90 = .ok (.iadd, 1) := by decide +kernel
theorem dM_entryIt_91 : decode (zby mM_entryIt) 91 = .ok (.iastore, 1) := by decide +kernel
theorem dM_entryIt_92 : decode (zby mM_entryIt) 92 = .ok (.aload_n 0, 1) := by decide +kernel
theorem dM_entryIt_93 : decode (zby mM_entryIt) 93 = .ok (.getfield 9, 3) := by decide +kernel
theorem dM_entryIt_96 : decode (zby mM_entryIt) 96 = .ok (.iconst 1, 1) := by decide +kernel
theorem dM_entryIt_97 : decode (zby mM_entryIt) 97 = .ok (.dup2, 1) := by decide +kernel
theorem dM_entryIt_98 : decode (zby mM_entryIt) 98 = .ok (.iaload, 1) := by decide +kernel
theorem dM_entryIt_99 : decode (zby mM_entryIt) 99 = .ok (.iconst 1, 1) := by decide +kernel
theorem dM_entryIt_100 : decode (zby mM_entryIt) 100 = .ok (.iadd, 1) := by decide +kernel
theorem dM_entryIt_101 : decode (zby mM_entryIt) 101 = .ok (.iastore, 1) := by decide +kernel
theorem dM_entryIt_102 : decode (zby mM_entryIt) 102 = .ok (.aload_n 0, 1) := by decide +kernel
theorem dM_entryIt_103 : decode (zby mM_entryIt) 103 = .ok (.getfield 9, 3) := by decide +kernel
theorem dM_entryIt_106 : decode (zby mM_entryIt) 106 = .ok (.iload_n 2, 1) := by decide +kernel
theorem dM_entryIt_107 : decode (zby mM_entryIt) 107 = .ok (.iaload, 1) := by decide +kernel
theorem dM_entryIt_108 : decode (zby mM_entryIt) 108 = .ok (.ireturn, 1) := by decide +kernel
theorem dM_errorPosition_0 : decode (zby mM_errorPosition) 0 = .ok (.aload_n 0, 1) := by decide +kernel
theorem dM_errorPosition_1 : decode (zby mM_errorPosition) 1 = .ok (.iconst 0, 1) := by decide +kernel
theorem dM_errorPosition_2 : decode (zby mM_errorPosition) 2 = .ok (.putfield 45, 3) := by decide +kernel
theorem dM_errorPosition_5 : decode (zby mM_errorPosition) 5 = .ok (.aload_n 0, 1) := by decide +kernel
theorem dM_errorPosition_6 : decode (zby mM_errorPosition) 6 = .ok (.getfield 22, 3) := by decide +kernel
theorem dM_errorPosition_9 : decode (zby mM_errorPosition) 9 = .ok (.iconst (-1), 1) := by decide +kernel
theorem dM_errorPosition_10 : decode (zby mM_errorPosition) 10 = .ok (.if_icmp .ne 11, 3) := by decide +kernel
theorem dM_errorPosition_13 : decode (zby mM_errorPosition) 13 = .ok (.aload_n 0, 1) := by decide +kernel
theorem dM_errorPosition_14 : decode (zby mM_errorPosition) 14 = .ok (.iconst 1, 1) := by decide +kernel
theorem dM_errorPosition_15 : decode (zby mM_errorPosition) 15 = .ok (.invokevirtual 90, 3) := by decide +kernel
theorem dM_errorPosition_18 : decode (zby mM_errorPosition) 18 = .ok (.goto 7, 3) := by decide +kernel
theorem dM_errorPosition_21 : decode (zby mM_errorPosition) 21 = .ok (.aload_n 0, 1) := by decide +kernel
theorem dM_errorPosition_22 : decode (zby mM_errorPosition) 22 = .ok (.getfield 22, 3) := by decide +kernel
theorem dM_errorPosition_25 : decode (zby mM_errorPosition) 25 = .ok (.ireturn, 1) := by decide +kernel
theorem dM_expects_0 : decode (zby mM_expects) 0 = .ok (.aload_n 0, 1) := by decide +kernel
theorem dM_expects_1 : decode (zby mM_expects) 1 = .ok (.aload_n 0, 1) := by decide +kernel
theorem dM_expects_2 : decode (zby mM_expects) 2 = .ok (.getfield 208, 3) := by decide +kernel
theorem dM_expects_5 : decode (zby mM_expects) 5 = .ok (.ifCond .ne 11, 3) := by decide +kernel
theorem dM_expects_8 : decode (zby mM_expects) 8 = .ok (.aload_n 0, 1) := by decide +kernel
theorem dM_expects_9 : decode (zby mM_expects) 9 = .ok (.invokevirtual 212, 3) := by decide +kernel
theorem dM_expects_12 : decode (zby mM_expects) 12 = .ok (.iload_n 1, 1) := by decide +kernel
theorem dM_expects_13 : decode (zby mM_expects) 13 = .ok (.if_icmp .eq 7, 3) := by decide +kernel
theorem dM_expects_16 : decode (zby mM_expects) 16 = .ok (.iconst 1, 1) := by decide +kernel
theorem dM_expects_17 : decode (zby mM_expects) 17 = .ok (.goto 4, 3) := by decide +kernel
theorem dM_expects_20 : decode (zby mM_expects) 20 = .ok (.iconst 0, 1) := by decide +kernel
theorem dM_expects_21 : decode (zby mM_expects) 21 = .ok (.putfield 208, 3) := by decide +kernel
theorem dM_expects_24 : decode (zby mM_expects) 24 = .ok (.aload_n 0, 1) := by decide +kernel
theorem dM_expects_25 : decode (zby mM_expects) 25 = .ok (.dup, 1) := by decide +kernel
theorem dM_expects_26 : decode (zby mM_expects) 26 = .ok (.getfield 202, 3) := by decide +kernel
theorem dM_expects_29 : decode (zby mM_expects) 29 = .ok (.aload_n 0, 1) := by decide +kernel
theorem dM_expects_30 : decode (zby mM_expects) 30 = .ok (.getfield 208, 3) := by decide +kernel
theorem dM_expects_33 : decode (zby mM_expects) 33 = .ok (.ifCond .eq 7, 3) := by decide +kernel
theorem dM_expects_36 : decode (zby mM_expects) 36 = .ok (.iconst 0, 1) := by decide +kernel
theorem dM_expects_37 : decode (zby mM_expects) 37 = .ok (.goto 4, 3) := by decide +kernel
theorem dM_expects_40 : decode (zby mM_expects) 40 = .ok (.iconst 1, 1) := by decide +kernel
theorem dM_expects_41 : decode (zby mM_expects) 41 = .ok (.iadd, 1) := by decide +kernel
theorem dM_expects_42 : decode (zby mM_expects) 42 = .ok (.putfield 202, 3) := by decide +kernel
theorem dM_expects_45 : decode (zby mM_expects) 45 = .ok (.return_, 1) := by decide +kernel
theorem dM_fadedShare_0 : decode (zby mM_fadedShare) 0 = .ok (.aload_n 0, 1) := by decide +kernel
theorem dM_fadedShare_1 : decode (zby mM_fadedShare) 1 = .ok (.iconst 0, 1) := by decide +kernel
theorem dM_fadedShare_2 : decode (zby mM_fadedShare) 2 = .ok (.putfield 45, 3) := by decide +kernel
theorem dM_fadedShare_5 : decode (zby mM_fadedShare) 5 = .ok (.aload_n 0, 1) := by decide +kernel
theorem dM_fadedShare_6 : decode (zby mM_fadedShare) 6 = .ok (.getfield 9, 3) := by decide +kernel
theorem dM_fadedShare_9 : decode (zby mM_fadedShare) 9 = .ok (.iconst 1, 1) := by decide +kernel
theorem dM_fadedShare_10 : decode (zby mM_fadedShare) 10 = .ok (.iaload, 1) := by decide +kernel
theorem dM_fadedShare_11 : decode (zby mM_fadedShare) 11 = .ok (.ifCond .ne 11, 3) := by decide +kernel
theorem dM_fadedShare_14 : decode (zby mM_fadedShare) 14 = .ok (.aload_n 0, 1) := by decide +kernel
theorem dM_fadedShare_15 : decode (zby mM_fadedShare) 15 = .ok (.iconst 1, 1) := by decide +kernel
theorem dM_fadedShare_16 : decode (zby mM_fadedShare) 16 = .ok (.invokevirtual 90, 3) := by decide +kernel
theorem dM_fadedShare_19 : decode (zby mM_fadedShare) 19 = .ok (.pop, 1) := by decide +kernel
theorem dM_fadedShare_20 : decode (zby mM_fadedShare) 20 = .ok (.fconst 0, 1) := by decide +kernel
theorem dM_fadedShare_21 : decode (zby mM_fadedShare) 21 = .ok (.freturn, 1) := by decide +kernel
theorem dM_fadedShare_22 : decode (zby mM_fadedShare) 22 = .ok (.aload_n 0, 1) := by decide +kernel
theorem dM_fadedShare_23 : decode (zby mM_fadedShare) 23 = .ok (.getfield 9, 3) := by decide +kernel
theorem dM_fadedShare_26 : decode (zby mM_fadedShare) 26 = .ok (.iconst 5, 1) := by decide +kernel
theorem dM_fadedShare_27 : decode (zby mM_fadedShare) 27 = .ok (.iaload, 1) := by decide +kernel
theorem dM_fadedShare_28 : decode (zby mM_fadedShare) 28 = .ok (.i2f, 1) := by decide +kernel
theorem dM_fadedShare_29 : decode (zby mM_fadedShare) 29 = .ok (.aload_n 0, 1) := by decide +kernel
theorem dM_fadedShare_30 : decode (zby mM_fadedShare) 30 = .ok (.getfield 9, 3) := by decide +kernel
theorem dM_fadedShare_33 : decode (zby mM_fadedShare) 33 = .ok (.iconst 1, 1) := by decide +kernel
theorem dM_fadedShare_34 : decode (zby mM_fadedShare) 34 = .ok (.iaload, 1) := by decide +kernel
theorem dM_fadedShare_35 : decode (zby mM_fadedShare) 35 = .ok (.i2f, 1) := by decide +kernel
theorem dM_fadedShare_36 : decode (zby mM_fadedShare) 36 = .ok (.fdiv, 1) := by decide +kernel
theorem dM_fadedShare_37 : decode (zby mM_fadedShare) 37 = .ok (.freturn, 1) := by decide +kernel
theorem dM_fadedTotal_0 : decode (zby mM_fadedTotal) 0 = .ok (.aload_n 0, 1) := by decide +kernel
theorem dM_fadedTotal_1 : decode (zby mM_fadedTotal) 1 = .ok (.iconst 5, 1) := by decide +kernel
theorem dM_fadedTotal_2 : decode (zby mM_fadedTotal) 2 = .ok (.invokevirtual 154, 3) := by decide +kernel
theorem dM_fadedTotal_5 : decode (zby mM_fadedTotal) 5 = .ok (.ireturn, 1) := by decide +kernel
theorem dM_fadingWithin_0 : decode (zby mM_fadingWithin) 0 = .ok (.aload_n 0, 1) := by decide +kernel
theorem dM_fadingWithin_1 : decode (zby mM_fadingWithin) 1 = .ok (.iconst 0, 1) := by decide +kernel
theorem dM_fadingWithin_2 : decode (zby mM_fadingWithin) 2 = .ok (.putfield 45, 3) := by decide +kernel
theorem dM_fadingWithin_5 : decode (zby mM_fadingWithin) 5 = .ok (.iload_n 1, 1) := by decide +kernel
theorem dM_fadingWithin_6 : decode (zby mM_fadingWithin) 6 = .ok (.i2l, 1) := by decide +kernel
theorem dM_fadingWithin_7 : decode (zby mM_fadingWithin) 7 = .ok (.lconst 1, 1) := by decide +kernel
theorem dM_fadingWithin_8 : decode (zby mM_fadingWithin) 8 = .ok (.ldc2_w 149, 3) := by decide +kernel
theorem dM_fadingWithin_11 : decode (zby mM_fadingWithin) 11 = .ok (.invokestatic 55, 3) := by decide +kernel
theorem dM_fadingWithin_14 : decode (zby mM_fadingWithin) 14 = .ok (.ifCond .ne 9, 3) := by decide +kernel
theorem dM_fadingWithin_17 : decode (zby mM_fadingWithin) 17 = .ok (.aload_n 0, 1) := by decide +kernel
theorem dM_fadingWithin_18 : decode (zby mM_fadingWithin) 18 = .ok (.iconst 1, 1) := by decide +kernel
theorem dM_fadingWithin_19 : decode (zby mM_fadingWithin) 19 = .ok (.invokevirtual 90, 3) := by decide +kernel
theorem dM_fadingWithin_22 : decode (zby mM_fadingWithin) 22 = .ok (.ireturn, 1) := by decide +kernel
theorem dM_fadingWithin_23 : decode (zby mM_fadingWithin) 23 = .ok (.iconst 0, 1) := by decide +kernel
theorem dM_fadingWithin_24 : decode (zby mM_fadingWithin) 24 = .ok (.istore_n 2, 1) := by decide +kernel
theorem dM_fadingWithin_25 : decode (zby mM_fadingWithin) 25 = .ok (.iconst 0, 1) := by decide +kernel
theorem dM_fadingWithin_26 : decode (zby mM_fadingWithin) 26 = .ok (.istore_n 3, 1) := by decide +kernel
theorem dM_fadingWithin_27 : decode (zby mM_fadingWithin) 27 = .ok (.iload_n 3, 1) := by decide +kernel
theorem dM_fadingWithin_28 : decode (zby mM_fadingWithin) 28 = .ok (.aload_n 0, 1) := by decide +kernel
theorem dM_fadingWithin_29 : decode (zby mM_fadingWithin) 29 = .ok (.getfield 9, 3) := by decide +kernel
theorem dM_fadingWithin_32 : decode (zby mM_fadingWithin) 32 = .ok (.iconst 0, 1) := by decide +kernel
theorem dM_fadingWithin_33 : decode (zby mM_fadingWithin) 33 = .ok (.iaload, 1) := by decide +kernel
theorem dM_fadingWithin_34 : decode (zby mM_fadingWithin) 34 = .ok (.if_icmp .ge 26, 3) := by decide +kernel
theorem dM_fadingWithin_37 : decode (zby mM_fadingWithin) 37 = .ok (.iload_n 2, 1) := by decide +kernel
theorem dM_fadingWithin_38 : decode (zby mM_fadingWithin) 38 = .ok (.aload_n 0, 1) := by decide +kernel
theorem dM_fadingWithin_39 : decode (zby mM_fadingWithin) 39 = .ok (.iload_n 3, 1) := by decide +kernel
theorem dM_fadingWithin_40 : decode (zby mM_fadingWithin) 40 = .ok (.invokevirtual 174, 3) := by decide +kernel
theorem dM_fadingWithin_43 : decode (zby mM_fadingWithin) 43 = .ok (.iload_n 1, 1) := by decide +kernel
theorem dM_fadingWithin_44 : decode (zby mM_fadingWithin) 44 = .ok (.if_icmp .gt 7, 3) := by decide +kernel
theorem dM_fadingWithin_47 : decode (zby mM_fadingWithin) 47 = .ok (.iconst 1, 1) := by decide +kernel
theorem dM_fadingWithin_48 : decode (zby mM_fadingWithin) 48 = .ok (.goto 4, 3) := by decide +kernel
theorem dM_fadingWithin_51 : decode (zby mM_fadingWithin) 51 = .ok (.iconst 0, 1) := by decide +kernel
theorem dM_fadingWithin_52 : decode (zby mM_fadingWithin) 52 = .ok (.iadd, 1) := by decide +kernel
theorem dM_fadingWithin_53 : decode (zby mM_fadingWithin) 53 = .ok (.istore_n 2, 1) := by decide +kernel
theorem dM_fadingWithin_54 : decode (zby mM_fadingWithin) 54 = .ok (.iinc 3 1, 3) := by decide +kernel
theorem dM_fadingWithin_57 : decode (zby mM_fadingWithin) 57 = .ok (.goto (-30), 3) := by decide +kernel
theorem dM_fadingWithin_60 : decode (zby mM_fadingWithin) 60 = .ok (.iload_n 2, 1) := by decide +kernel
theorem dM_fadingWithin_61 : decode (zby mM_fadingWithin) 61 = .ok (.ireturn, 1) := by decide +kernel
theorem dM_failedCommand_0 : decode (zby mM_failedCommand) 0 = .ok (.aload_n 0, 1) := by decide +kernel
theorem dM_failedCommand_1 : decode (zby mM_failedCommand) 1 = .ok (.iconst 0, 1) := by decide +kernel
theorem dM_failedCommand_2 : decode (zby mM_failedCommand) 2 = .ok (.putfield 45, 3) := by decide +kernel
theorem dM_failedCommand_5 : decode (zby mM_failedCommand) 5 = .ok (.aload_n 0, 1) := by decide +kernel
theorem dM_failedCommand_6 : decode (zby mM_failedCommand) 6 = .ok (.getfield 26, 3) := by decide +kernel
theorem dM_failedCommand_9 : decode (zby mM_failedCommand) 9 = .ok (.iconst (-1), 1) := by decide +kernel
theorem dM_failedCommand_10 : decode (zby mM_failedCommand) 10 = .ok (.if_icmp .ne 11, 3) := by decide +kernel
theorem dM_failedCommand_13 : decode (zby mM_failedCommand) 13 = .ok (.aload_n 0, 1) := by decide +kernel
theorem dM_failedCommand_14 : decode (zby mM_failedCommand) 14 = .ok (.iconst 1, 1) := by decide +kernel
theorem dM_failedCommand_15 : decode (zby mM_failedCommand) 15 = .ok (.invokevirtual 90, 3) := by decide +kernel
theorem dM_failedCommand_18 : decode (zby mM_failedCommand) 18 = .ok (.goto 7, 3) := by decide +kernel
theorem dM_failedCommand_21 : decode (zby mM_failedCommand) 21 = .ok (.aload_n 0, 1) := by decide +kernel
theorem dM_failedCommand_22 : decode (zby mM_failedCommand) 22 = .ok (.getfield 26, 3) := by decide +kernel
theorem dM_failedCommand_25 : decode (zby mM_failedCommand) 25 = .ok (.ireturn, 1) := by decide +kernel
theorem dM_find_0 : decode (zby mM_find) 0 = .ok (.iconst 0, 1) := by decide +kernel
theorem dM_find_1 : decode (zby mM_find) 1 = .ok (.istore_n 2, 1) := by decide +kernel
theorem dM_find_2 : decode (zby mM_find) 2 = .ok (.iload_n 2, 1) := by decide +kernel
theorem dM_find_3 : decode (zby mM_find) 3 = .ok (.aload_n 0, 1) := by decide +kernel
theorem dM_find_4 : decode (zby mM_find) 4 = .ok (.getfield 9, 3) := by decide +kernel
theorem dM_find_7 : decode (zby mM_find) 7 = .ok (.iconst 0, 1) := by decide +kernel
theorem dM_find_8 : decode (zby mM_find) 8 = .ok (.iaload, 1) := by decide +kernel
theorem dM_find_9 : decode (zby mM_find) 9 = .ok (.if_icmp .ge 24, 3) := by decide +kernel
theorem dM_find_12 : decode (zby mM_find) 12 = .ok (.aload_n 0, 1) := by decide +kernel
theorem dM_find_13 : decode (zby mM_find) 13 = .ok (.getfield 9, 3) := by decide +kernel
theorem dM_find_16 : decode (zby mM_find) 16 = .ok (.iload_n 2, 1) := by decide +kernel
theorem dM_find_17 : decode (zby mM_find) 17 = .ok (.invokestatic 51, 3) := by decide +kernel
theorem dM_find_20 : decode (zby mM_find) 20 = .ok (.iaload, 1) := by decide +kernel
theorem dM_find_21 : decode (zby mM_find) 21 = .ok (.iload_n 1, 1) := by decide +kernel
theorem dM_find_22 : decode (zby mM_find) 22 = .ok (.if_icmp .ne 5, 3) := by decide +kernel
theorem dM_find_25 : decode (zby mM_find) 25 = .ok (.iload_n 2, 1) := by decide +kernel
theorem dM_find_26 : decode (zby mM_find) 26 = .ok (.ireturn, 1) := by decide +kernel
theorem dM_find_27 : decode (zby mM_find) 27 = .ok (.iinc 2 1, 3) := by decide +kernel
theorem dM_find_30 : decode (zby mM_find) 30 = .ok (.goto (-28), 3) := by decide +kernel
theorem dM_find_33 : decode (zby mM_find) 33 = .ok (.iconst (-1), 1) := by decide +kernel
theorem dM_find_34 : decode (zby mM_find) 34 = .ok (.ireturn, 1) := by decide +kernel
theorem dM_formatEntry_0 : decode (zby mM_formatEntry) 0 = .ok (.aload_n 0, 1) := by decide +kernel
theorem dM_formatEntry_1 : decode (zby mM_formatEntry) 1 = .ok (.iconst 0, 1) := by decide +kernel
theorem dM_formatEntry_2 : decode (zby mM_formatEntry) 2 = .ok (.putfield 45, 3) := by decide +kernel
theorem dM_formatEntry_5 : decode (zby mM_formatEntry) 5 = .ok (.aload_n 0, 1) := by decide +kernel
theorem dM_formatEntry_6 : decode (zby mM_formatEntry) 6 = .ok (.iload_n 1, 1) := by decide +kernel
theorem dM_formatEntry_7 : decode (zby mM_formatEntry) 7 = .ok (.invokevirtual 102, 3) := by decide +kernel
theorem dM_formatEntry_10 : decode (zby mM_formatEntry) 10 = .ok (.istore_n 2, 1) := by decide +kernel
theorem dM_formatEntry_11 : decode (zby mM_formatEntry) 11 = .ok (.iload_n 2, 1) := by decide +kernel
theorem dM_formatEntry_12 : decode (zby mM_formatEntry) 12 = .ok (.iconst (-1), 1) := by decide +kernel
theorem dM_formatEntry_13 : decode (zby mM_formatEntry) 13 = .ok (.if_icmp .ne 9, 3) := by decide +kernel
theorem dM_formatEntry_16 : decode (zby mM_formatEntry) 16 = .ok (.aload_n 0, 1) := by decide +kernel
theorem dM_formatEntry_17 : decode (zby mM_formatEntry) 17 = .ok (.iconst 1, 1) := by decide +kernel
theorem dM_formatEntry_18 : decode (zby mM_formatEntry) 18 = .ok (.invokevirtual 90, 3) := by decide +kernel
theorem dM_formatEntry_21 : decode (zby mM_formatEntry) 21 = .ok (.ireturn, 1) := by decide +kernel
theorem dM_formatEntry_22 : decode (zby mM_formatEntry) 22 = .ok (.iload_n 2, 1) := by decide +kernel
theorem dM_formatEntry_23 : decode (zby mM_formatEntry) 23 = .ok (.invokestatic 51, 3) := by decide +kernel
theorem dM_formatEntry_26 : decode (zby mM_formatEntry) 26 = .ok (.istore_n 3, 1) := by decide +kernel
theorem dM_formatEntry_27 : decode (zby mM_formatEntry) 27 = .ok (.aload_n 0, 1) := by decide +kernel
theorem dM_formatEntry_28 : decode (zby mM_formatEntry) 28 = .ok (.iconst 0, 1) := by decide +kernel
theorem dM_formatEntry_29 : decode (zby mM_formatEntry) 29 = .ok (.putfield 180, 3) := by decide +kernel
theorem dM_formatEntry_32 : decode (zby mM_formatEntry) 32 = .ok (.aload_n 0, 1) := by decide +kernel
theorem dM_formatEntry_33 : decode (zby mM_formatEntry) 33 = .ok (.bipush 101, 2) := by decide +kernel
theorem dM_formatEntry_35 : decode (zby mM_formatEntry) 35 = .ok (.iload_n 1, 1) := by decide +kernel
theorem dM_formatEntry_36 : decode (zby mM_formatEntry) 36 = .ok (.invokevirtual 192, 3) := by decide +kernel
theorem dM_formatEntry_39 : decode (zby mM_formatEntry) 39 = .ok (.aload_n 0, 1) := by decide +kernel
theorem dM_formatEntry_40 : decode (zby mM_formatEntry) 40 = .ok (.bipush 32, 2) := by decide +kernel
theorem dM_formatEntry_42 : decode (zby mM_formatEntry) 42 = .ok (.invokevirtual 183, 3) := by decide +kernel
theorem dM_formatEntry_45 : decode (zby mM_formatEntry) 45 = .ok (.aload_n 0, 1) := by decide +kernel
theorem dM_formatEntry_46 : decode (zby mM_formatEntry) 46 = .ok (.bipush 119, 2) := by decide +kernel
theorem dM_formatEntry_48 : decode (zby mM_formatEntry) 48 = .ok (.aload_n 0, 1) := by decide +kernel
theorem dM_formatEntry_49 : decode (zby mM_formatEntry) 49 = .ok (.getfield 9, 3) := by decide +kernel
theorem dM_formatEntry_52 : decode (zby mM_formatEntry) 52 = .ok (.iload_n 3, 1) := by decide +kernel
theorem dM_formatEntry_53 : decode (zby mM_formatEntry) 53 = .ok (.iconst 1, 1) := by decide +kernel
theorem dM_formatEntry_54 : decode (zby mM_formatEntry) 54 = .ok (.iadd, 1) := by decide +kernel
theorem dM_formatEntry_55 : decode (zby mM_formatEntry) 55 = .ok (.iaload, 1) := by decide +kernel
theorem dM_formatEntry_56 : decode (zby mM_formatEntry) 56 = .ok (.invokevirtual 192, 3) := by decide +kernel
theorem dM_formatEntry_59 : decode (zby mM_formatEntry) 59 = .ok (.aload_n 0, 1) := by decide +kernel
theorem dM_formatEntry_60 : decode (zby mM_formatEntry) 60 = .ok (.bipush 32, 2) := by decide +kernel
theorem dM_formatEntry_62 : decode (zby mM_formatEntry) 62 = .ok (.invokevirtual 183, 3) := by decide +kernel
theorem dM_formatEntry_65 : decode (zby mM_formatEntry) 65 = .ok (.aload_n 0, 1) := by decide +kernel
theorem dM_formatEntry_66 : decode (zby mM_formatEntry) 66 = .ok (.bipush 97, 2) := by decide +kernel
theorem dM_formatEntry_68 : decode (zby mM_formatEntry) 68 = .ok (.aload_n 0, 1) := by decide +kernel
theorem dM_formatEntry_69 : decode (zby mM_formatEntry) 69 = .ok (.getfield 9, 3) := by decide +kernel
theorem dM_formatEntry_72 : decode (zby mM_formatEntry) 72 = .ok (.iload_n 3, 1) := by decide +kernel
theorem dM_formatEntry_73 : decode (zby mM_formatEntry) 73 = .ok (.iconst 2, 1) := by decide +kernel
theorem dM_formatEntry_74 : decode (zby mM_formatEntry) 74 = .ok (.iadd, 1) := by decide +kernel
theorem dM_formatEntry_75 : decode (zby mM_formatEntry) 75 = .ok (.iaload, 1) := by decide +kernel
theorem dM_formatEntry_76 : decode (zby mM_formatEntry) 76 = .ok (.invokevirtual 192, 3) := by decide +kernel
theorem dM_formatEntry_79 : decode (zby mM_formatEntry) 79 = .ok (.aload_n 0, 1) := by decide +kernel
theorem dM_formatEntry_80 : decode (zby mM_formatEntry) 80 = .ok (.bipush 32, 2) := by decide +kernel
theorem dM_formatEntry_82 : decode (zby mM_formatEntry) 82 = .ok (.invokevirtual 183, 3) := by decide +kernel
theorem dM_formatEntry_85 : decode (zby mM_formatEntry) 85 = .ok (.aload_n 0, 1) := by decide +kernel
theorem dM_formatEntry_86 : decode (zby mM_formatEntry) 86 = .ok (.bipush 104, 2) := by decide +kernel
theorem dM_formatEntry_88 : decode (zby mM_formatEntry) 88 = .ok (.aload_n 0, 1) := by decide +kernel
theorem dM_formatEntry_89 : decode (zby mM_formatEntry) 89 = .ok (.getfield 9, 3) := by decide +kernel
theorem dM_formatEntry_92 : decode (zby mM_formatEntry) 92 = .ok (.iload_n 3, 1) := by decide +kernel
theorem dM_formatEntry_93 : decode (zby mM_formatEntry) 93 = .ok (.iconst 3, 1) := by decide +kernel
theorem dM_formatEntry_94 : decode (zby mM_formatEntry) 94 = .ok (.iadd, 1) := by decide +kernel
theorem dM_formatEntry_95 : decode (zby mM_formatEntry) 95 = .ok (.iaload, 1) := by decide +kernel
theorem dM_formatEntry_96 : decode (zby mM_formatEntry) 96 = .ok (.invokevirtual 192, 3) := by decide +kernel
theorem dM_formatEntry_99 : decode (zby mM_formatEntry) 99 = .ok (.aload_n 0, 1) := by decide +kernel
theorem dM_formatEntry_100 : decode (zby mM_formatEntry) 100 = .ok (.bipush 32, 2) := by decide +kernel
theorem dM_formatEntry_102 : decode (zby mM_formatEntry) 102 = .ok (.invokevirtual 183, 3) := by decide +kernel
theorem dM_formatEntry_105 : decode (zby mM_formatEntry) 105 = .ok (.aload_n 0, 1) := by decide +kernel
theorem dM_formatEntry_106 : decode (zby mM_formatEntry) 106 = .ok (.bipush 115, 2) := by decide +kernel
theorem dM_formatEntry_108 : decode (zby mM_formatEntry) 108 = .ok (.aload_n 0, 1) := by decide +kernel
theorem dM_formatEntry_109 : decode (zby mM_formatEntry) 109 = .ok (.getfield 9, 3) := by decide +kernel
theorem dM_formatEntry_112 : decode (zby mM_formatEntry) 112 = .ok (.iload_n 3, 1) := by decide +kernel
theorem dM_formatEntry_113 : decode (zby mM_formatEntry) 113 = .ok (.iconst 4, 1) := by decide +kernel
theorem dM_formatEntry_114 : decode (zby mM_formatEntry) 114 = .ok (.iadd, 1) := by decide +kernel
theorem dM_formatEntry_115 : decode (zby mM_formatEntry) 115 = .ok (.iaload, 1) := by decide +kernel
theorem dM_formatEntry_116 : decode (zby mM_formatEntry) 116 = .ok (.invokevirtual 192, 3) := by decide +kernel
theorem dM_formatEntry_119 : decode (zby mM_formatEntry) 119 = .ok (.iconst 0, 1) := by decide +kernel
theorem dM_formatEntry_120 : decode (zby mM_formatEntry) 120 = .ok (.istore 4, 2) := by decide +kernel
theorem dM_formatEntry_122 : decode (zby mM_formatEntry) 122 = .ok (.iload 4, 2) := by decide +kernel
theorem dM_formatEntry_124 : decode (zby mM_formatEntry) 124 = .ok (.aload_n 0, 1) := by decide +kernel
theorem dM_formatEntry_125 : decode (zby mM_formatEntry) 125 = .ok (.getfield 9, 3) := by decide +kernel
theorem dM_formatEntry_128 : decode (zby mM_formatEntry) 128 = .ok (.iload_n 3, 1) := by decide +kernel
theorem dM_formatEntry_129 : decode (zby mM_formatEntry) 129 = .ok (.iconst 5, 1) := by decide +kernel
theorem dM_formatEntry_130 : decode (zby mM_formatEntry) 130 = .ok (.iadd, 1) := by decide +kernel
theorem dM_formatEntry_131 : decode (zby mM_formatEntry) 131 = .ok (.iaload, 1) := by decide +kernel
theorem dM_formatEntry_132 : decode (zby mM_formatEntry) 132 = .ok (.if_icmp .ge 69, 3) := by decide +kernel
theorem dM_formatEntry_135 : decode (zby mM_formatEntry) 135 = .ok (.aload_n 0, 1) := by decide +kernel
theorem dM_formatEntry_136 : decode (zby mM_formatEntry) 136 = .ok (.bipush 32, 2) := by decide +kernel
theorem dM_formatEntry_138 : decode (zby mM_formatEntry) 138 = .ok (.invokevirtual 183, 3) := by decide +kernel
theorem dM_formatEntry_141 : decode (zby mM_formatEntry) 141 = .ok (.aload_n 0, 1) := by decide +kernel
theorem dM_formatEntry_142 : decode (zby mM_formatEntry) 142 = .ok (.bipush 48, 2) := by decide +kernel
theorem dM_formatEntry_144 : decode (zby mM_formatEntry) 144 = .ok (.aload_n 0, 1) := by decide +kernel
theorem dM_formatEntry_145 : decode (zby mM_formatEntry) 145 = .ok (.iload_n 2, 1) := by decide +kernel
theorem dM_formatEntry_146 : decode (zby mM_formatEntry) 146 = .ok (.iload 4, 2) := by decide +kernel
theorem dM_formatEntry_148 : decode (zby mM_formatEntry) 148 = .ok (.invokevirtual 62, 3) := by decide +kernel
theorem dM_formatEntry_151 : decode (zby mM_formatEntry) 151 = .ok (.bipush 100, 2) := by decide +kernel
theorem dM_formatEntry_153 : decode (zby mM_formatEntry) 153 = .ok (.idiv, 1) := by decide +kernel
theorem dM_formatEntry_154 : decode (zby mM_formatEntry) 154 = .ok (.iadd, 1) := by decide +kernel
theorem dM_formatEntry_155 : decode (zby mM_formatEntry) 155 = .ok (.invokevirtual 183, 3) := by decide +kernel
theorem dM_formatEntry_158 : decode (zby mM_formatEntry) 158 = .ok (.aload_n 0, 1) := by decide +kernel
theorem dM_formatEntry_159 : decode (zby mM_formatEntry) 159 = .ok (.bipush 48, 2) := by decide +kernel
theorem dM_formatEntry_161 : decode (zby mM_formatEntry) 161 = .ok (.aload_n 0, 1) := by decide +kernel
theorem dM_formatEntry_162 : decode (zby mM_formatEntry) 162 = .ok (.iload_n 2, 1) := by decide +kernel
theorem dM_formatEntry_163 : decode (zby mM_formatEntry) 163 = .ok (.iload 4, 2) := by decide +kernel
theorem dM_formatEntry_165 : decode (zby mM_formatEntry) 165 = .ok (.invokevirtual 62, 3) := by decide +kernel
theorem dM_formatEntry_168 : decode (zby mM_formatEntry) 168 = .ok (.bipush 10, 2) := by decide +kernel
theorem dM_formatEntry_170 : decode (zby mM_formatEntry) 170 = .ok (.idiv, 1) := by decide +kernel
theorem dM_formatEntry_171 : decode (zby mM_formatEntry) 171 = .ok (.bipush 10, 2) := by decide +kernel
theorem dM_formatEntry_173 : decode (zby mM_formatEntry) 173 = .ok (.irem, 1) := by decide +kernel
theorem dM_formatEntry_174 : decode (zby mM_formatEntry) 174 = .ok (.iadd, 1) := by decide +kernel
theorem dM_formatEntry_175 : decode (zby mM_formatEntry) 175 = .ok (.invokevirtual 183, 3) := by decide +kernel
theorem dM_formatEntry_178 : decode (zby mM_formatEntry) 178 = .ok (.aload_n 0, 1) := by decide +kernel
theorem dM_formatEntry_179 : decode (zby mM_formatEntry) 179 = .ok (.bipush 48, 2) := by decide +kernel
theorem dM_formatEntry_181 : decode (zby mM_formatEntry) 181 = .ok (.aload_n 0, 1) := by decide +kernel
theorem dM_formatEntry_182 : decode (zby mM_formatEntry) 182 = .ok (.iload_n 2, 1) := by decide +kernel
theorem dM_formatEntry_183 : decode (zby mM_formatEntry) 183 = .ok (.iload 4, 2) := by decide +kernel
theorem dM_formatEntry_185 : decode (zby mM_formatEntry) 185 = .ok (.invokevirtual 62, 3) := by decide +kernel
theorem dM_formatEntry_188 : decode (zby mM_formatEntry) 188 = .ok (.bipush 10, 2) := by decide +kernel
theorem dM_formatEntry_190 : decode (zby mM_formatEntry) 190 = .ok (.irem, 1) := by decide +kernel
theorem dM_formatEntry_191 : decode (zby mM_formatEntry) 191 = .ok (.iadd, 1) := by decide +kernel
theorem dM_formatEntry_192 : decode (zby mM_formatEntry) 192 = .ok (.invokevirtual 183, 3) := by decide +kernel
theorem dM_formatEntry_195 : decode (zby mM_formatEntry) 195 = .ok (.iinc 4 1, 3) := by decide +kernel
theorem dM_formatEntry_198 : decode (zby mM_formatEntry) 198 = .ok (.goto (-76), 3) := by decide +kernel
theorem dM_formatEntry_201 : decode (zby mM_formatEntry) 201 = .ok (.aload_n 0, 1) := by decide +kernel
theorem dM_formatEntry_202 : decode (zby mM_formatEntry) 202 = .ok (.getfield 180, 3) := by decide +kernel
theorem dM_formatEntry_205 : decode (zby mM_formatEntry) 205 = .ok (.ireturn, 1) := by decide +kernel
theorem dM_formatResults_0 : decode (zby mM_formatResults) 0 = .ok (.aload_n 0, 1) := by decide +kernel
theorem dM_formatResults_1 : decode (zby mM_formatResults) 1 = .ok (.iconst 0, 1) := by decide +kernel
theorem dM_formatResults_2 : decode (zby mM_formatResults) 2 = .ok (.putfield 45, 3) := by decide +kernel
theorem dM_formatResults_5 : decode (zby mM_formatResults) 5 = .ok (.iload_n 1, 1) := by decide +kernel
theorem dM_formatResults_6 : decode (zby mM_formatResults) 6 = .ok (.iload_n 2, 1) := by decide +kernel
theorem dM_formatResults_7 : decode (zby mM_formatResults) 7 = .ok (.iconst 3, 1) := by decide +kernel
theorem dM_formatResults_8 : decode (zby mM_formatResults) 8 = .ok (.invokestatic 143, 3) := by decide +kernel
theorem dM_formatResults_11 : decode (zby mM_formatResults) 11 = .ok (.ifCond .ne 9, 3) := by decide +kernel
theorem dM_formatResults_14 : decode (zby mM_formatResults) 14 = .ok (.aload_n 0, 1) := by decide +kernel
theorem dM_formatResults_15 : decode (zby mM_formatResults) 15 = .ok (.iconst 1, 1) := by decide +kernel
theorem dM_formatResults_16 : decode (zby mM_formatResults) 16 = .ok (.invokevirtual 90, 3) := by decide +kernel
theorem dM_formatResults_19 : decode (zby mM_formatResults) 19 = .ok (.ireturn, 1) := by decide +kernel
theorem dM_formatResults_20 : decode (zby mM_formatResults) 20 = .ok (.aload_n 0, 1) := by decide +kernel
theorem dM_formatResults_21 : decode (zby mM_formatResults) 21 = .ok (.iconst 0, 1) := by decide +kernel
theorem dM_formatResults_22 : decode (zby mM_formatResults) 22 = .ok (.putfield 180, 3) := by decide +kernel
theorem dM_formatResults_25 : decode (zby mM_formatResults) 25 = .ok (.aload_n 0, 1) := by decide +kernel
theorem dM_formatResults_26 : decode (zby mM_formatResults) 26 = .ok (.iload_n 1, 1) := by decide +kernel
theorem dM_formatResults_27 : decode (zby mM_formatResults) 27 = .ok (.iload_n 2, 1) := by decide +kernel
theorem dM_formatResults_28 : decode (zby mM_formatResults) 28 = .ok (.invokevirtual 77, 3) := by decide +kernel
theorem dM_formatResults_31 : decode (zby mM_formatResults) 31 = .ok (.istore_n 3, 1) := by decide +kernel
theorem dM_formatResults_32 : decode (zby mM_formatResults) 32 = .ok (.iconst 0, 1) := by decide +kernel
theorem dM_formatResults_33 : decode (zby mM_formatResults) 33 = .ok (.istore 4, 2) := by decide +kernel
theorem dM_formatResults_35 : decode (zby mM_formatResults) 35 = .ok (.iload 4, 2) := by decide +kernel
theorem dM_formatResults_37 : decode (zby mM_formatResults) 37 = .ok (.iload_n 3, 1) := by decide +kernel
theorem dM_formatResults_38 : decode (zby mM_formatResults) 38 = .ok (.if_icmp .ge 62, 3) := by decide +kernel
theorem dM_formatResults_41 : decode (zby mM_formatResults) 41 = .ok (.aload_n 0, 1) := by decide +kernel
theorem dM_formatResults_42 : decode (zby mM_formatResults) 42 = .ok (.iload_n 1, 1) := by decide +kernel
theorem dM_formatResults_43 : decode (zby mM_formatResults) 43 = .ok (.iload_n 2, 1) := by decide +kernel
theorem dM_formatResults_44 : decode (zby mM_formatResults) 44 = .ok (.iload 4, 2) := by decide +kernel
theorem dM_formatResults_46 : decode (zby mM_formatResults) 46 = .ok (.invokevirtual 163, 3) := by decide +kernel
theorem dM_formatResults_49 : decode (zby mM_formatResults) 49 = .ok (.istore 5, 2) := by decide +kernel
theorem dM_formatResults_51 : decode (zby mM_formatResults) 51 = .ok (.iload 4, 2) := by decide +kernel
theorem dM_formatResults_53 : decode (zby mM_formatResults) 53 = .ok (.ifCond .le 9, 3) := by decide +kernel
theorem dM_formatResults_56 : decode (zby mM_formatResults) 56 = .ok (.aload_n 0, 1) := by decide +kernel
theorem dM_formatResults_57 : decode (zby mM_formatResults) 57 = .ok (.bipush 44, 2) := by decide +kernel
theorem dM_formatResults_59 : decode (zby mM_formatResults) 59 = .ok (.invokevirtual 183, 3) := by decide +kernel
theorem dM_formatResults_62 : decode (zby mM_formatResults) 62 = .ok (.aload_n 0, 1) := by decide +kernel
theorem dM_formatResults_63 : decode (zby mM_formatResults) 63 = .ok (.aload_n 0, 1) := by decide +kernel
theorem dM_formatResults_64 : decode (zby mM_formatResults) 64 = .ok (.getfield 9, 3) := by decide +kernel
theorem dM_formatResults_67 : decode (zby mM_formatResults) 67 = .ok (.iload 5, 2) := by decide +kernel
theorem dM_formatResults_69 : decode (zby mM_formatResults) 69 = .ok (.invokestatic 51, 3) := by decide +kernel
theorem dM_formatResults_72 : decode (zby mM_formatResults) 72 = .ok (.iaload, 1) := by decide +kernel
theorem dM_formatResults_73 : decode (zby mM_formatResults) 73 = .ok (.invokevirtual 189, 3) := by decide +kernel
theorem dM_formatResults_76 : decode (zby mM_formatResults) 76 = .ok (.aload_n 0, 1) := by decide +kernel
theorem dM_formatResults_77 : decode (zby mM_formatResults) 77 = .ok (.bipush 61, 2) := by decide +kernel
theorem dM_formatResults_79 : decode (zby mM_formatResults) 79 = .ok (.invokevirtual 183, 3) := by decide +kernel
theorem dM_formatResults_82 : decode (zby mM_formatResults) 82 = .ok (.aload_n 0, 1) := by decide +kernel
theorem dM_formatResults_83 : decode (zby mM_formatResults) 83 = .ok (.aload_n 0, 1) := by decide +kernel
theorem dM_formatResults_84 : decode (zby mM_formatResults) 84 = .ok (.iload 5, 2) := by decide +kernel
theorem dM_formatResults_86 : decode (zby mM_formatResults) 86 = .ok (.iload_n 1, 1) := by decide +kernel
theorem dM_formatResults_87 : decode (zby mM_formatResults) 87 = .ok (.iload_n 2, 1) := by decide +kernel
theorem dM_formatResults_88 : decode (zby mM_formatResults) 88 = .ok (.invokevirtual 74, 3) := by decide +kernel
theorem dM_formatResults_91 : decode (zby mM_formatResults) 91 = .ok (.invokevirtual 189, 3) := by decide +kernel
theorem dM_formatResults_94 : decode (zby mM_formatResults) 94 = .ok (.iinc 4 1, 3) := by decide +kernel
theorem dM_formatResults_97 : decode (zby mM_formatResults) 97 = .ok (.goto (-62), 3) := by decide +kernel
theorem dM_formatResults_100 : decode (zby mM_formatResults) 100 = .ok (.aload_n 0, 1) := by decide +kernel
theorem dM_formatResults_101 : decode (zby mM_formatResults) 101 = .ok (.getfield 180, 3) := by decide +kernel
theorem dM_formatResults_104 : decode (zby mM_formatResults) 104 = .ok (.ireturn, 1) := by decide +kernel
theorem dM_has_0 : decode (zby mM_has) 0 = .ok (.iload_n 0, 1) := by decide +kernel
theorem dM_has_1 : decode (zby mM_has) 1 = .ok (.iconst 3, 1) := by decide +kernel
theorem dM_has_2 : decode (zby mM_has) 2 = .ok (.iload_n 1, 1) := by decide +kernel
theorem dM_has_3 : decode (zby mM_has) 3 = .ok (.isub, 1) := by decide +kernel
theorem dM_has_4 : decode (zby mM_has) 4 = .ok (.invokestatic 59, 3) := by decide +kernel
theorem dM_has_7 : decode (zby mM_has) 7 = .ok (.idiv, 1) := by decide +kernel
theorem dM_has_8 : decode (zby mM_has) 8 = .ok (.iload_n 2, 1) := by decide +kernel
theorem dM_has_9 : decode (zby mM_has) 9 = .ok (.if_icmp .ne 7, 3) := by decide +kernel
theorem dM_has_12 : decode (zby mM_has) 12 = .ok (.iconst 1, 1) := by decide +kernel
theorem dM_has_13 : decode (zby mM_has) 13 = .ok (.goto 4, 3) := by decide +kernel
theorem dM_has_16 : decode (zby mM_has) 16 = .ok (.iconst 0, 1) := by decide +kernel
theorem dM_has_17 : decode (zby mM_has) 17 = .ok (.ireturn, 1) := by decide +kernel
theorem dM_hasCode_0 : decode (zby mM_hasCode) 0 = .ok (.aload_n 0, 1) := by decide +kernel
theorem dM_hasCode_1 : decode (zby mM_hasCode) 1 = .ok (.iconst 0, 1) := by decide +kernel
theorem dM_hasCode_2 : decode (zby mM_hasCode) 2 = .ok (.putfield 45, 3) := by decide +kernel
theorem dM_hasCode_5 : decode (zby mM_hasCode) 5 = .ok (.aload_n 0, 1) := by decide +kernel
theorem dM_hasCode_6 : decode (zby mM_hasCode) 6 = .ok (.iload_n 1, 1) := by decide +kernel
theorem dM_hasCode_7 : decode (zby mM_hasCode) 7 = .ok (.invokevirtual 102, 3) := by decide +kernel
theorem dM_hasCode_10 : decode (zby mM_hasCode) 10 = .ok (.iconst (-1), 1) := by decide +kernel
theorem dM_hasCode_11 : decode (zby mM_hasCode) 11 = .ok (.if_icmp .ne 12, 3) := by decide +kernel
theorem dM_hasCode_14 : decode (zby mM_hasCode) 14 = .ok (.aload_n 0, 1) := by decide +kernel
theorem dM_hasCode_15 : decode (zby mM_hasCode) 15 = .ok (.iconst 1, 1) := by decide +kernel
theorem dM_hasCode_16 : decode (zby mM_hasCode) 16 = .ok (.invokevirtual 90, 3) := by decide +kernel
theorem dM_hasCode_19 : decode (zby mM_hasCode) 19 = .ok (.pop, 1) := by decide +kernel
theorem dM_hasCode_20 : decode (zby mM_hasCode) 20 = .ok (.goto 21, 3) := by decide +kernel
theorem dM_hasCode_23 : decode (zby mM_hasCode) 23 = .ok (.iload_n 2, 1) := by decide +kernel
theorem dM_hasCode_24 : decode (zby mM_hasCode) 24 = .ok (.i2l, 1) := by decide +kernel
theorem dM_hasCode_25 : decode (zby mM_hasCode) 25 = .ok (.lconst 0, 1) := by decide +kernel
theorem dM_hasCode_26 : decode (zby mM_hasCode) 26 = .ok (.ldc2_w 105, 3) := by decide +kernel
theorem dM_hasCode_29 : decode (zby mM_hasCode) 29 = .ok (.invokestatic 55, 3) := by decide +kernel
theorem dM_hasCode_32 : decode (zby mM_hasCode) 32 = .ok (.ifCond .ne 9, 3) := by decide +kernel
theorem dM_hasCode_35 : decode (zby mM_hasCode) 35 = .ok (.aload_n 0, 1) := by decide +kernel
theorem dM_hasCode_36 : decode (zby mM_hasCode) 36 = .ok (.iconst 2, 1) := by decide +kernel
theorem dM_hasCode_37 : decode (zby mM_hasCode) 37 = .ok (.invokevirtual 90, 3) := by decide +kernel
theorem dM_hasCode_40 : decode (zby mM_hasCode) 40 = .ok (.pop, 1) := by decide +kernel
theorem dM_hasCode_41 : decode (zby mM_hasCode) 41 = .ok (.aload_n 0, 1) := by decide +kernel
theorem dM_hasCode_42 : decode (zby mM_hasCode) 42 = .ok (.getfield 45, 3) := by decide +kernel
theorem dM_hasCode_45 : decode (zby mM_hasCode) 45 = .ok (.ifCond .ne 21, 3) := by decide +kernel
theorem dM_hasCode_48 : decode (zby mM_hasCode) 48 = .ok (.aload_n 0, 1) := by decide +kernel
theorem dM_hasCode_49 : decode (zby mM_hasCode) 49 = .ok (.aload_n 0, 1) := by decide +kernel
theorem dM_hasCode_50 : decode (zby mM_hasCode) 50 = .ok (.iload_n 1, 1) := by decide +kernel
theorem dM_hasCode_51 : decode (zby mM_hasCode) 51 = .ok (.invokevirtual 102, 3) := by decide +kernel
theorem dM_hasCode_54 : decode (zby mM_hasCode) 54 = .ok (.iconst 3, 1) := by decide +kernel
theorem dM_hasCode_55 : decode (zby mM_hasCode) 55 = .ok (.iload_n 2, 1) := by decide +kernel
theorem dM_hasCode_56 : decode (zby mM_hasCode) 56 = .ok (.invokevirtual 70, 3) := by decide +kernel
theorem dM_hasCode_59 : decode (zby mM_hasCode) 59 = .ok (.ifCond .le 7, 3) := by decide +kernel
theorem dM_hasCode_62 : decode (zby mM_hasCode) 62 = .ok (.iconst 1, 1) := by decide +kernel
theorem dM_hasCode_63 : decode (zby mM_hasCode) 63 = .ok (.goto 4, 3) := by decide +kernel
theorem dM_hasCode_66 : decode (zby mM_hasCode) 66 = .ok (.iconst 0, 1) := by decide +kernel
theorem dM_hasCode_67 : decode (zby mM_hasCode) 67 = .ok (.ireturn, 1) := by decide +kernel
theorem dM_here_0 : decode (zby mM_here) 0 = .ok (.aload_n 0, 1) := by decide +kernel
theorem dM_here_1 : decode (zby mM_here) 1 = .ok (.getfield 202, 3) := by decide +kernel
theorem dM_here_4 : decode (zby mM_here) 4 = .ok (.aload_n 0, 1) := by decide +kernel
theorem dM_here_5 : decode (zby mM_here) 5 = .ok (.getfield 205, 3) := by decide +kernel
theorem dM_here_8 : decode (zby mM_here) 8 = .ok (.if_icmp .ge 15, 3) := by decide +kernel
theorem dM_here_11 : decode (zby mM_here) 11 = .ok (.aload_n 0, 1) := by decide +kernel
theorem dM_here_12 : decode (zby mM_here) 12 = .ok (.getfield 29, 3) := by decide +kernel
theorem dM_here_15 : decode (zby mM_here) 15 = .ok (.aload_n 0, 1) := by decide +kernel
theorem dM_here_16 : decode (zby mM_here) 16 = .ok (.getfield 202, 3) := by decide +kernel
theorem dM_here_19 : decode (zby mM_here) 19 = .ok (.iaload, 1) := by decide +kernel
theorem dM_here_20 : decode (zby mM_here) 20 = .ok (.goto 4, 3) := by decide +kernel
theorem dM_here_23 : decode (zby mM_here) 23 = .ok (.iconst (-1), 1) := by decide +kernel
theorem dM_here_24 : decode (zby mM_here) 24 = .ok (.ireturn, 1) := by decide +kernel
theorem dM_hitsOf_0 : decode (zby mM_hitsOf) 0 = .ok (.aload_n 0, 1) := by decide +kernel
theorem dM_hitsOf_1 : decode (zby mM_hitsOf) 1 = .ok (.iload_n 1, 1) := by decide +kernel
theorem dM_hitsOf_2 : decode (zby mM_hitsOf) 2 = .ok (.iconst 3, 1) := by decide +kernel
theorem dM_hitsOf_3 : decode (zby mM_hitsOf) 3 = .ok (.invokevirtual 157, 3) := by decide +kernel
theorem dM_hitsOf_6 : decode (zby mM_hitsOf) 6 = .ok (.ireturn, 1) := by decide +kernel
theorem dM_holders_0 : decode (zby mM_holders) 0 = .ok (.aload_n 0, 1) := by decide +kernel
theorem dM_holders_1 : decode (zby mM_holders) 1 = .ok (.iconst 3, 1) := by decide +kernel
theorem dM_holders_2 : decode (zby mM_holders) 2 = .ok (.iload_n 1, 1) := by decide +kernel
theorem dM_holders_3 : decode (zby mM_holders) 3 = .ok (.invokevirtual 77, 3) := by decide +kernel
theorem dM_holders_6 : decode (zby mM_holders) 6 = .ok (.ireturn, 1) := by decide +kernel
theorem dM_idAt_0 : decode (zby mM_idAt) 0 = .ok (.aload_n 0, 1) := by decide +kernel
theorem dM_idAt_1 : decode (zby mM_idAt) 1 = .ok (.iconst 0, 1) := by decide +kernel
theorem dM_idAt_2 : decode (zby mM_idAt) 2 = .ok (.putfield 45, 3) := by decide +kernel
theorem dM_idAt_5 : decode (zby mM_idAt) 5 = .ok (.iload_n 1, 1) := by decide +kernel
theorem dM_idAt_6 : decode (zby mM_idAt) 6 = .ok (.i2l, 1) := by decide +kernel
theorem dM_idAt_7 : decode (zby mM_idAt) 7 = .ok (.lconst 0, 1) := by decide +kernel
theorem dM_idAt_8 : decode (zby mM_idAt) 8 = .ok (.aload_n 0, 1) := by decide +kernel
theorem dM_idAt_9 : decode (zby mM_idAt) 9 = .ok (.getfield 9, 3) := by decide +kernel
theorem dM_idAt_12 : decode (zby mM_idAt) 12 = .ok (.iconst 0, 1) := by decide +kernel
theorem dM_idAt_13 : decode (zby mM_idAt) 13 = .ok (.iaload, 1) := by decide +kernel
theorem dM_idAt_14 : decode (zby mM_idAt) 14 = .ok (.iconst 1, 1) := by decide +kernel
theorem dM_idAt_15 : decode (zby mM_idAt) 15 = .ok (.isub, 1) := by decide +kernel
theorem dM_idAt_16 : decode (zby mM_idAt) 16 = .ok (.i2l, 1) := by decide +kernel
theorem dM_idAt_17 : decode (zby mM_idAt) 17 = .ok (.invokestatic 55, 3) := by decide +kernel
theorem dM_idAt_20 : decode (zby mM_idAt) 20 = .ok (.ifCond .eq 15, 3) := by decide +kernel
theorem dM_idAt_23 : decode (zby mM_idAt) 23 = .ok (.aload_n 0, 1) := by decide +kernel
theorem dM_idAt_24 : decode (zby mM_idAt) 24 = .ok (.getfield 9, 3) := by decide +kernel
theorem dM_idAt_27 : decode (zby mM_idAt) 27 = .ok (.iload_n 1, 1) := by decide +kernel
theorem dM_idAt_28 : decode (zby mM_idAt) 28 = .ok (.invokestatic 51, 3) := by decide +kernel
theorem dM_idAt_31 : decode (zby mM_idAt) 31 = .ok (.iaload, 1) := by decide +kernel
theorem dM_idAt_32 : decode (zby mM_idAt) 32 = .ok (.goto 8, 3) := by decide +kernel
theorem dM_idAt_35 : decode (zby mM_idAt) 35 = .ok (.aload_n 0, 1) := by decide +kernel
theorem dM_idAt_36 : decode (zby mM_idAt) 36 = .ok (.iconst 1, 1) := by decide +kernel
theorem dM_idAt_37 : decode (zby mM_idAt) 37 = .ok (.invokevirtual 90, 3) := by decide +kernel
theorem dM_idAt_40 : decode (zby mM_idAt) 40 = .ok (.ireturn, 1) := by decide +kernel
theorem dM_in_0 : decode (zby mM_in) 0 = .ok (.lload_n 0, 1) := by decide +kernel
theorem dM_in_1 : decode (zby mM_in) 1 = .ok (.lload_n 2, 1) := by decide +kernel
theorem dM_in_2 : decode (zby mM_in) 2 = .ok (.lcmp, 1) := by decide +kernel
theorem dM_in_3 : decode (zby mM_in) 3 = .ok (.ifCond .lt 14, 3) := by decide +kernel
theorem dM_in_6 : decode (zby mM_in) 6 = .ok (.lload_n 0, 1) := by decide +kernel
theorem dM_in_7 : decode (zby mM_in) 7 = .ok (.lload 4, 2) := by decide +kernel
theorem dM_in_9 : decode (zby mM_in) 9 = .ok (.lcmp, 1) := by decide +kernel
theorem dM_in_10 : decode (zby mM_in) 10 = .ok (.ifCond .gt 7, 3) := by decide +kernel
theorem dM_in_13 : decode (zby mM_in) 13 = .ok (.iconst 1, 1) := by decide +kernel
theorem dM_in_14 : decode (zby mM_in) 14 = .ok (.goto 4, 3) := by decide +kernel
theorem dM_in_17 : decode (zby mM_in) 17 = .ok (.iconst 0, 1) := by decide +kernel
theorem dM_in_18 : decode (zby mM_in) 18 = .ok (.ireturn, 1) := by decide +kernel
theorem dM_init_0 : decode (zby mM_init) 0 = .ok (.aload_n 0, 1) := by decide +kernel
theorem dM_init_1 : decode (zby mM_init) 1 = .ok (.invokespecial 1, 3) := by decide +kernel
theorem dM_init_4 : decode (zby mM_init) 4 = .ok (.aload_n 0, 1) := by decide +kernel
theorem dM_init_5 : decode (zby mM_init) 5 = .ok (.sipush 246, 3) := by decide +kernel
theorem dM_init_8 : decode (zby mM_init) 8 = .ok (.newarray .int, 2) := by decide +kernel
theorem dM_init_10 : decode (zby mM_init) 10 = .ok (.putfield 9, 3) := by decide +kernel
theorem dM_init_13 : decode (zby mM_init) 13 = .ok (.aload_n 0, 1) := by decide +kernel
theorem dM_init_14 : decode (zby mM_init) 14 = .ok (.sipush 246, 3) := by decide +kernel
theorem dM_init_17 : decode (zby mM_init) 17 = .ok (.newarray .int, 2) := by decide +kernel
theorem dM_init_19 : decode (zby mM_init) 19 = .ok (.putfield 13, 3) := by decide +kernel
theorem dM_init_22 : decode (zby mM_init) 22 = .ok (.aload_n 0, 1) := by decide +kernel
theorem dM_init_23 : decode (zby mM_init) 23 = .ok (.sipush 246, 3) := by decide +kernel
theorem dM_init_26 : decode (zby mM_init) 26 = .ok (.newarray .int, 2) := by decide +kernel
theorem dM_init_28 : decode (zby mM_init) 28 = .ok (.putfield 16, 3) := by decide +kernel
theorem dM_init_31 : decode (zby mM_init) 31 = .ok (.aload_n 0, 1) := by decide +kernel
theorem dM_init_32 : decode (zby mM_init) 32 = .ok (.sipush 1968, 3) := by decide +kernel
theorem dM_init_35 : decode (zby mM_init) 35 = .ok (.newarray .int, 2) := by decide +kernel
theorem dM_init_37 : decode (zby mM_init) 37 = .ok (.putfield 19, 3) := by decide +kernel
theorem dM_init_40 : decode (zby mM_init) 40 = .ok (.aload_n 0, 1) := by decide +kernel
theorem dM_init_41 : decode (zby mM_init) 41 = .ok (.iconst (-1), 1) := by decide +kernel
theorem dM_init_42 : decode (zby mM_init) 42 = .ok (.putfield 22, 3) := by decide +kernel
theorem dM_init_45 : decode (zby mM_init) 45 = .ok (.aload_n 0, 1) := by decide +kernel
theorem dM_init_46 : decode (zby mM_init) 46 = .ok (.iconst (-1), 1) := by decide +kernel
theorem dM_init_47 : decode (zby mM_init) 47 = .ok (.putfield 26, 3) := by decide +kernel
theorem dM_init_50 : decode (zby mM_init) 50 = .ok (.aload_n 0, 1) := by decide +kernel
theorem dM_init_51 : decode (zby mM_init) 51 = .ok (.bipush 60, 2) := by decide +kernel
theorem dM_init_53 : decode (zby mM_init) 53 = .ok (.newarray .int, 2) := by decide +kernel
theorem dM_init_55 : decode (zby mM_init) 55 = .ok (.putfield 29, 3) := by decide +kernel
theorem dM_init_58 : decode (zby mM_init) 58 = .ok (.aload_n 0, 1) := by decide +kernel
theorem dM_init_59 : decode (zby mM_init) 59 = .ok (.sipush 600, 3) := by decide +kernel
theorem dM_init_62 : decode (zby mM_init) 62 = .ok (.newarray .int, 2) := by decide +kernel
theorem dM_init_64 : decode (zby mM_init) 64 = .ok (.putfield 32, 3) := by decide +kernel
theorem dM_init_67 : decode (zby mM_init) 67 = .ok (.aload_n 0, 1) := by decide +kernel
theorem dM_init_68 : decode (zby mM_init) 68 = .ok (.bipush 56, 2) := by decide +kernel
theorem dM_init_70 : decode (zby mM_init) 70 = .ok (.newarray .char, 2) := by decide +kernel
theorem dM_init_72 : decode (zby mM_init) 72 = .ok (.dup, 1) := by decide +kernel
theorem dM_init_73 : decode (zby mM_init) 73 = .ok (.iconst 0, 1) := by decide +kernel
theorem dM_init_74 : decode (zby mM_init) 74 = .ok (.bipush 101, 2) := by decide +kernel
theorem dM_init_76 : decode (zby mM_init) 76 = .ok (.castore, 1) := by decide +kernel
theorem dM_init_77 : decode (zby mM_init) 77 = .ok (.dup, 1) := by decide +kernel
theorem dM_init_78 : decode (zby mM_init) 78 = .ok (.iconst 1, 1) := by decide +kernel
theorem dM_init_79 : decode (zby mM_init) 79 = .ok (.bipush 110, 2) := by decide +kernel
theorem dM_init_81 : decode (zby mM_init) 81 = .ok (.castore, 1) := by decide +kernel
theorem dM_init_82 : decode (zby mM_init) 82 = .ok (.dup, 1) := by decide +kernel
theorem dM_init_83 : decode (zby mM_init) 83 = .ok (.iconst 2, 1) := by decide +kernel
theorem dM_init_84 : decode (zby mM_init) 84 = .ok (.bipush 116, 2) := by decide +kernel
theorem dM_init_86 : decode (zby mM_init) 86 = .ok (.castore, 1) := by decide +kernel
theorem dM_init_87 : decode (zby mM_init) 87 = .ok (.dup, 1) := by decide +kernel
theorem dM_init_88 : decode (zby mM_init) 88 = .ok (.iconst 3, 1) := by decide +kernel
theorem dM_init_89 : decode (zby mM_init) 89 = .ok (.bipush 114, 2) := by decide +kernel
theorem dM_init_91 : decode (zby mM_init) 91 = .ok (.castore, 1) := by decide +kernel
theorem dM_init_92 : decode (zby mM_init) 92 = .ok (.dup, 1) := by decide +kernel
theorem dM_init_93 : decode (zby mM_init) 93 = .ok (.iconst 4, 1) := by decide +kernel
theorem dM_init_94 : decode (zby mM_init) 94 = .ok (.bipush 121, 2) := by decide +kernel
theorem dM_init_96 : decode (zby mM_init) 96 = .ok (.castore, 1) := by decide +kernel
theorem dM_init_97 : decode (zby mM_init) 97 = .ok (.dup, 1) := by decide +kernel
theorem dM_init_98 : decode (zby mM_init) 98 = .ok (.iconst 5, 1) := by decide +kernel
theorem dM_init_99 : decode (zby mM_init) 99 = .ok (.bipush 32, 2) := by decide +kernel
theorem dM_init_101 : decode (zby mM_init) 101 = .ok (.castore, 1) := by decide +kernel
theorem dM_init_102 : decode (zby mM_init) 102 = .ok (.dup, 1) := by decide +kernel
theorem dM_init_103 : decode (zby mM_init) 103 = .ok (.bipush 6, 2) := by decide +kernel
theorem dM_init_105 : decode (zby mM_init) 105 = .ok (.bipush 99, 2) := by decide +kernel
theorem dM_init_107 : decode (zby mM_init) 107 = .ok (.castore, 1) := by decide +kernel
theorem dM_init_108 : decode (zby mM_init) 108 = .ok (.dup, 1) := by decide +kernel
theorem dM_init_109 : decode (zby mM_init) 109 = .ok (.bipush 7, 2) := by decide +kernel
theorem dM_init_111 : decode (zby mM_init) 111 = .ok (.bipush 111, 2) := by decide +kernel
theorem dM_init_113 : decode (zby mM_init) 113 = .ok (.castore, 1) := by decide +kernel
theorem dM_init_114 : decode (zby mM_init) 114 = .ok (.dup, 1) := by decide +kernel
theorem dM_init_115 : decode (zby mM_init) 115 = .ok (.bipush 8, 2) := by decide +kernel
theorem dM_init_117 : decode (zby mM_init) 117 = .ok (.bipush 100, 2) := by decide +kernel
theorem dM_init_119 : decode (zby mM_init) 119 = .ok (.castore, 1) := by decide +kernel
theorem dM_init_120 : decode (zby mM_init) 120 = .ok (.dup, 1) := by decide +kernel
theorem dM_init_121 : decode (zby mM_init) 121 = .ok (.bipush 9, 2) := by decide +kernel
theorem dM_init_123 : decode (zby mM_init) 123 = .ok (.bipush 101, 2) := by decide +kernel
theorem dM_init_125 : decode (zby mM_init) 125 = .ok (.castore, 1) := by decide +kernel
theorem dM_init_126 : decode (zby mM_init) 126 = .ok (.dup, 1) := by decide +kernel
theorem dM_init_127 : decode (zby mM_init) 127 = .ok (.bipush 10, 2) := by decide +kernel
theorem dM_init_129 : decode (zby mM_init) 129 = .ok (.bipush 32, 2) := by decide +kernel
theorem dM_init_131 : decode (zby mM_init) 131 = .ok (.castore, 1) := by decide +kernel
theorem dM_init_132 : decode (zby mM_init) 132 = .ok (.dup, 1) := by decide +kernel
theorem dM_init_133 : decode (zby mM_init) 133 = .ok (.bipush 11, 2) := by decide +kernel
theorem dM_init_135 : decode (zby mM_init) 135 = .ok (.bipush 117, 2) := by decide +kernel
theorem dM_init_137 : decode (zby mM_init) 137 = .ok (.castore, 1) := by decide +kernel
theorem dM_init_138 : decode (zby mM_init) 138 = .ok (.dup, 1) := by decide +kernel
theorem dM_init_139 : decode (zby mM_init) 139 = .ok (.bipush 12, 2) := by decide +kernel
theorem dM_init_141 : decode (zby mM_init) 141 = .ok (.bipush 110, 2) := by decide +kernel
theorem dM_init_143 : decode (zby mM_init) 143 = .ok (.castore, 1) := by decide +kernel
theorem dM_init_144 : decode (zby mM_init) 144 = .ok (.dup, 1) := by decide +kernel
theorem dM_init_145 : decode (zby mM_init) 145 = .ok (.bipush 13, 2) := by decide +kernel
theorem dM_init_147 : decode (zby mM_init) 147 = .ok (.bipush 99, 2) := by decide +kernel
theorem dM_init_149 : decode (zby mM_init) 149 = .ok (.castore, 1) := by decide +kernel
theorem dM_init_150 : decode (zby mM_init) 150 = .ok (.dup, 1) := by decide +kernel
theorem dM_init_151 : decode (zby mM_init) 151 = .ok (.bipush 14, 2) := by decide +kernel
theorem dM_init_153 : decode (zby mM_init) 153 = .ok (.bipush 111, 2) := by decide +kernel
theorem dM_init_155 : decode (zby mM_init) 155 = .ok (.castore, 1) := by decide +kernel
theorem dM_init_156 : decode (zby mM_init) 156 = .ok (.dup, 1) := by decide +kernel
theorem dM_init_157 : decode (zby mM_init) 157 = .ok (.bipush 15, 2) := by decide +kernel
theorem dM_init_159 : decode (zby mM_init) 159 = .ok (.bipush 100, 2) := by decide +kernel
theorem dM_init_161 : decode (zby mM_init) 161 = .ok (.castore, 1) := by decide +kernel
theorem dM_init_162 : decode (zby mM_init) 162 = .ok (.dup, 1) := by decide +kernel
theorem dM_init_163 : decode (zby mM_init) 163 = .ok (.bipush 16, 2) := by decide +kernel
theorem dM_init_165 : decode (zby mM_init) 165 = .ok (.bipush 101, 2) := by decide +kernel
theorem dM_init_167 : decode (zby mM_init) 167 = .ok (.castore, 1) := by decide +kernel
theorem dM_init_168 : decode (zby mM_init) 168 = .ok (.dup, 1) := by decide +kernel
theorem dM_init_169 : decode (zby mM_init) 169 = .ok (.bipush 17, 2) := by decide +kernel
theorem dM_init_171 : decode (zby mM_init) 171 = .ok (.bipush 32, 2) := by decide +kernel
theorem dM_init_173 : decode (zby mM_init) 173 = .ok (.castore, 1) := by decide +kernel
theorem dM_init_174 : decode (zby mM_init) 174 = .ok (.dup, 1) := by decide +kernel
theorem dM_init_175 : decode (zby mM_init) 175 = .ok (.bipush 18, 2) := by decide +kernel
theorem dM_init_177 : decode (zby mM_init) 177 = .ok (.bipush 100, 2) := by decide +kernel
theorem dM_init_179 : decode (zby mM_init) 179 = .ok (.castore, 1) := by decide +kernel
theorem dM_init_180 : decode (zby mM_init) 180 = .ok (.dup, 1) := by decide +kernel
theorem dM_init_181 : decode (zby mM_init) 181 = .ok (.bipush 19, 2) := by decide +kernel
theorem dM_init_183 : decode (zby mM_init) 183 = .ok (.bipush 114, 2) := by decide +kernel
theorem dM_init_185 : decode (zby mM_init) 185 = .ok (.castore, 1) := by decide +kernel
theorem dM_init_186 : decode (zby mM_init) 186 = .ok (.dup, 1) := by decide +kernel
theorem dM_init_187 : decode (zby mM_init) 187 = .ok (.bipush 20, 2) := by decide +kernel
theorem dM_init_189 : decode (zby mM_init) 189 = .ok (.bipush 111, 2) := by decide +kernel
theorem dM_init_191 : decode (zby mM_init) 191 = .ok (.castore, 1) := by decide +kernel
theorem dM_init_192 : decode (zby mM_init) 192 = .ok (.dup, 1) := by decide +kernel
theorem dM_init_193 : decode (zby mM_init) 193 = .ok (.bipush 21, 2) := by decide +kernel
theorem dM_init_195 : decode (zby mM_init) 195 = .ok (.bipush 112, 2) := by decide +kernel
theorem dM_init_197 : decode (zby mM_init) 197 = .ok (.castore, 1) := by decide +kernel
theorem dM_init_198 : decode (zby mM_init) 198 = .ok (.dup, 1) := by decide +kernel
theorem dM_init_199 : decode (zby mM_init) 199 = .ok (.bipush 22, 2) := by decide +kernel
theorem dM_init_201 : decode (zby mM_init) 201 = .ok (.bipush 32, 2) := by decide +kernel
theorem dM_init_203 : decode (zby mM_init) 203 = .ok (.castore, 1) := by decide +kernel
theorem dM_init_204 : decode (zby mM_init) 204 = .ok (.dup, 1) := by decide +kernel
theorem dM_init_205 : decode (zby mM_init) 205 = .ok (.bipush 23, 2) := by decide +kernel
theorem dM_init_207 : decode (zby mM_init) 207 = .ok (.bipush 116, 2) := by decide +kernel
theorem dM_init_209 : decode (zby mM_init) 209 = .ok (.castore, 1) := by decide +kernel
theorem dM_init_210 : decode (zby mM_init) 210 = .ok (.dup, 1) := by decide +kernel
theorem dM_init_211 : decode (zby mM_init) 211 = .ok (.bipush 24, 2) := by decide +kernel
theorem dM_init_213 : decode (zby mM_init) 213 = .ok (.bipush 111, 2) := by decide +kernel
theorem dM_init_215 : decode (zby mM_init) 215 = .ok (.castore, 1) := by decide +kernel
theorem dM_init_216 : decode (zby mM_init) 216 = .ok (.dup, 1) := by decide +kernel
theorem dM_init_217 : decode (zby mM_init) 217 = .ok (.bipush 25, 2) := by decide +kernel
theorem dM_init_219 : decode (zby mM_init) 219 = .ok (.bipush 117, 2) := by decide +kernel
theorem dM_init_221 : decode (zby mM_init) 221 = .ok (.castore, 1) := by decide +kernel
theorem dM_init_222 : decode (zby mM_init) 222 = .ok (.dup, 1) := by decide +kernel
theorem dM_init_223 : decode (zby mM_init) 223 = .ok (.bipush 26, 2) := by decide +kernel
theorem dM_init_225 : decode (zby mM_init) 225 = .ok (.bipush 99, 2) := by decide +kernel
theorem dM_init_227 : decode (zby mM_init) 227 = .ok (.castore, 1) := by decide +kernel
theorem dM_init_228 : decode (zby mM_init) 228 = .ok (.dup, 1) := by decide +kernel
theorem dM_init_229 : decode (zby mM_init) 229 = .ok (.bipush 27, 2) := by decide +kernel
theorem dM_init_231 : decode (zby mM_init) 231 = .ok (.bipush 104, 2) := by decide +kernel
theorem dM_init_233 : decode (zby mM_init) 233 = .ok (.castore, 1) := by decide +kernel
theorem dM_init_234 : decode (zby mM_init) 234 = .ok (.dup, 1) := by decide +kernel
theorem dM_init_235 : decode (zby mM_init) 235 = .ok (.bipush 28, 2) := by decide +kernel
theorem dM_init_237 : decode (zby mM_init) 237 = .ok (.bipush 32, 2) := by decide +kernel
theorem dM_init_239 : decode (zby mM_init) 239 = .ok (.castore, 1) := by decide +kernel
theorem dM_init_240 : decode (zby mM_init) 240 = .ok (.dup, 1) := by decide +kernel
theorem dM_init_241 : decode (zby mM_init) 241 = .ok (.bipush 29, 2) := by decide +kernel
theorem dM_init_243 : decode (zby mM_init) 243 = .ok (.bipush 109, 2) := by decide +kernel
theorem dM_init_245 : decode (zby mM_init) 245 = .ok (.castore, 1) := by decide +kernel
theorem dM_init_246 : decode (zby mM_init) 246 = .ok (.dup, 1) := by decide +kernel
theorem dM_init_247 : decode (zby mM_init) 247 = .ok (.bipush 30, 2) := by decide +kernel
theorem dM_init_249 : decode (zby mM_init) 249 = .ok (.bipush 101, 2) := by decide +kernel
theorem dM_init_251 : decode (zby mM_init) 251 = .ok (.castore, 1) := by decide +kernel
theorem dM_init_252 : decode (zby mM_init) 252 = .ok (.dup, 1) := by decide +kernel
theorem dM_init_253 : decode (zby mM_init) 253 = .ok (.bipush 31, 2) := by decide +kernel
theorem dM_init_255 : decode (zby mM_init) 255 = .ok (.bipush 114, 2) := by decide +kernel
theorem dM_init_257 : decode (zby mM_init) 257 = .ok (.castore, 1) := by decide +kernel
theorem dM_init_258 : decode (zby mM_init) 258 = .ok (.dup, 1) := by decide +kernel
theorem dM_init_259 : decode (zby mM_init) 259 = .ok (.bipush 32, 2) := by decide +kernel
theorem dM_init_261 : decode (zby mM_init) 261 = .ok (.bipush 103, 2) := by decide +kernel
theorem dM_init_263 : decode (zby mM_init) 263 = .ok (.castore, 1) := by decide +kernel
theorem dM_init_264 : decode (zby mM_init) 264 = .ok (.dup, 1) := by decide +kernel
theorem dM_init_265 : decode (zby mM_init) 265 = .ok (.bipush 33, 2) := by decide +kernel
theorem dM_init_267 : decode (zby mM_init) 267 = .ok (.bipush 101, 2) := by decide +kernel
theorem dM_init_269 : decode (zby mM_init) 269 = .ok (.castore, 1) := by decide +kernel
theorem dM_init_270 : decode (zby mM_init) 270 = .ok (.dup, 1) := by decide +kernel
theorem dM_init_271 : decode (zby mM_init) 271 = .ok (.bipush 34, 2) := by decide +kernel
theorem dM_init_273 : decode (zby mM_init) 273 = .ok (.bipush 32, 2) := by decide +kernel
theorem dM_init_275 : decode (zby mM_init) 275 = .ok (.castore, 1) := by decide +kernel
theorem dM_init_276 : decode (zby mM_init) 276 = .ok (.dup, 1) := by decide +kernel
theorem dM_init_277 : decode (zby mM_init) 277 = .ok (.bipush 35, 2) := by decide +kernel
theorem dM_init_279 : decode (zby mM_init) 279 = .ok (.bipush 115, 2) := by decide +kernel
theorem dM_init_281 : decode (zby mM_init) 281 = .ok (.castore, 1) := by decide +kernel
theorem dM_init_282 : decode (zby mM_init) 282 = .ok (.dup, 1) := by decide +kernel
theorem dM_init_283 : decode (zby mM_init) 283 = .ok (.bipush 36, 2) := by decide +kernel
theorem dM_init_285 : decode (zby mM_init) 285 = .ok (.bipush 101, 2) := by decide +kernel
theorem dM_init_287 : decode (zby mM_init) 287 = .ok (.castore, 1) := by decide +kernel
theorem dM_init_288 : decode (zby mM_init) 288 = .ok (.dup, 1) := by decide +kernel
theorem dM_init_289 : decode (zby mM_init) 289 = .ok (.bipush 37, 2) := by decide +kernel
theorem dM_init_291 : decode (zby mM_init) 291 = .ok (.bipush 103, 2) := by decide +kernel
theorem dM_init_293 : decode (zby mM_init) 293 = .ok (.castore, 1) := by decide +kernel
theorem dM_init_294 : decode (zby mM_init) 294 = .ok (.dup, 1) := by decide +kernel
theorem dM_init_295 : decode (zby mM_init) 295 = .ok (.bipush 38, 2) := by decide +kernel
theorem dM_init_297 : decode (zby mM_init) 297 = .ok (.bipush 109, 2) := by decide +kernel
theorem dM_init_299 : decode (zby mM_init) 299 = .ok (.castore, 1) := by decide +kernel
theorem dM_init_300 : decode (zby mM_init) 300 = .ok (.dup, 1) := by decide +kernel
theorem dM_init_301 : decode (zby mM_init) 301 = .ok (.bipush 39, 2) := by decide +kernel
theorem dM_init_303 : decode (zby mM_init) 303 = .ok (.bipush 101, 2) := by decide +kernel
theorem dM_init_305 : decode (zby mM_init) 305 = .ok (.castore, 1) := by decide +kernel
theorem dM_init_306 : decode (zby mM_init) 306 = .ok (.dup, 1) := by decide +kernel
theorem dM_init_307 : decode (zby mM_init) 307 = .ok (.bipush 40, 2) := by decide +kernel
theorem dM_init_309 : decode (zby mM_init) 309 = .ok (.bipush 110, 2) := by decide +kernel
theorem dM_init_311 : decode (zby mM_init) 311 = .ok (.castore, 1) := by decide +kernel
theorem dM_init_312 : decode (zby mM_init) 312 = .ok (.dup, 1) := by decide +kernel
theorem dM_init_313 : decode (zby mM_init) 313 = .ok (.bipush 41, 2) := by decide +kernel
theorem dM_init_315 : decode (zby mM_init) 315 = .ok (.bipush 116, 2) := by decide +kernel
theorem dM_init_317 : decode (zby mM_init) 317 = .ok (.castore, 1) := by decide +kernel
theorem dM_init_318 : decode (zby mM_init) 318 = .ok (.dup, 1) := by decide +kernel
theorem dM_init_319 : decode (zby mM_init) 319 = .ok (.bipush 42, 2) := by decide +kernel
theorem dM_init_321 : decode (zby mM_init) 321 = .ok (.bipush 106, 2) := by decide +kernel
theorem dM_init_323 : decode (zby mM_init) 323 = .ok (.castore, 1) := by decide +kernel
theorem dM_init_324 : decode (zby mM_init) 324 = .ok (.dup, 1) := by decide +kernel
theorem dM_init_325 : decode (zby mM_init) 325 = .ok (.bipush 43, 2) := by decide +kernel
theorem dM_init_327 : decode (zby mM_init) 327 = .ok (.bipush 111, 2) := by decide +kernel
theorem dM_init_329 : decode (zby mM_init) 329 = .ok (.castore, 1) := by decide +kernel
theorem dM_init_330 : decode (zby mM_init) 330 = .ok (.dup, 1) := by decide +kernel
theorem dM_init_331 : decode (zby mM_init) 331 = .ok (.bipush 44, 2) := by decide +kernel
theorem dM_init_333 : decode (zby mM_init) 333 = .ok (.bipush 105, 2) := by decide +kernel
theorem dM_init_335 : decode (zby mM_init) 335 = .ok (.castore, 1) := by decide +kernel
theorem dM_init_336 : decode (zby mM_init) 336 = .ok (.dup, 1) := by decide +kernel
theorem dM_init_337 : decode (zby mM_init) 337 = .ok (.bipush 45, 2) := by decide +kernel
theorem dM_init_339 : decode (zby mM_init) 339 = .ok (.bipush 110, 2) := by decide +kernel
theorem dM_init_341 : decode (zby mM_init) 341 = .ok (.castore, 1) := by decide +kernel
theorem dM_init_342 : decode (zby mM_init) 342 = .ok (.dup, 1) := by decide +kernel
theorem dM_init_343 : decode (zby mM_init) 343 = .ok (.bipush 46, 2) := by decide +kernel
theorem dM_init_345 : decode (zby mM_init) 345 = .ok (.bipush 32, 2) := by decide +kernel
theorem dM_init_347 : decode (zby mM_init) 347 = .ok (.castore, 1) := by decide +kernel
theorem dM_init_348 : decode (zby mM_init) 348 = .ok (.dup, 1) := by decide +kernel
theorem dM_init_349 : decode (zby mM_init) 349 = .ok (.bipush 47, 2) := by decide +kernel
theorem dM_init_351 : decode (zby mM_init) 351 = .ok (.bipush 102, 2) := by decide +kernel
theorem dM_init_353 : decode (zby mM_init) 353 = .ok (.castore, 1) := by decide +kernel
theorem dM_init_354 : decode (zby mM_init) 354 = .ok (.dup, 1) := by decide +kernel
theorem dM_init_355 : decode (zby mM_init) 355 = .ok (.bipush 48, 2) := by decide +kernel
theorem dM_init_357 : decode (zby mM_init) 357 = .ok (.bipush 105, 2) := by decide +kernel
theorem dM_init_359 : decode (zby mM_init) 359 = .ok (.castore, 1) := by decide +kernel
theorem dM_init_360 : decode (zby mM_init) 360 = .ok (.dup, 1) := by decide +kernel
theorem dM_init_361 : decode (zby mM_init) 361 = .ok (.bipush 49, 2) := by decide +kernel
theorem dM_init_363 : decode (zby mM_init) 363 = .ok (.bipush 110, 2) := by decide +kernel
theorem dM_init_365 : decode (zby mM_init) 365 = .ok (.castore, 1) := by decide +kernel
theorem dM_init_366 : decode (zby mM_init) 366 = .ok (.dup, 1) := by decide +kernel
theorem dM_init_367 : decode (zby mM_init) 367 = .ok (.bipush 50, 2) := by decide +kernel
theorem dM_init_369 : decode (zby mM_init) 369 = .ok (.bipush 100, 2) := by decide +kernel
theorem dM_init_371 : decode (zby mM_init) 371 = .ok (.castore, 1) := by decide +kernel
theorem dM_init_372 : decode (zby mM_init) 372 = .ok (.dup, 1) := by decide +kernel
theorem dM_init_373 : decode (zby mM_init) 373 = .ok (.bipush 51, 2) := by decide +kernel
theorem dM_init_375 : decode (zby mM_init) 375 = .ok (.bipush 100, 2) := by decide +kernel
theorem dM_init_377 : decode (zby mM_init) 377 = .ok (.castore, 1) := by decide +kernel
theorem dM_init_378 : decode (zby mM_init) 378 = .ok (.dup, 1) := by decide +kernel
theorem dM_init_379 : decode (zby mM_init) 379 = .ok (.bipush 52, 2) := by decide +kernel
theorem dM_init_381 : decode (zby mM_init) 381 = .ok (.bipush 97, 2) := by decide +kernel
theorem dM_init_383 : decode (zby mM_init) 383 = .ok (.castore, 1) := by decide +kernel
theorem dM_init_384 : decode (zby mM_init) 384 = .ok (.dup, 1) := by decide +kernel
theorem dM_init_385 : decode (zby mM_init) 385 = .ok (.bipush 53, 2) := by decide +kernel
theorem dM_init_387 : decode (zby mM_init) 387 = .ok (.bipush 121, 2) := by decide +kernel
theorem dM_init_389 : decode (zby mM_init) 389 = .ok (.castore, 1) := by decide +kernel
theorem dM_init_390 : decode (zby mM_init) 390 = .ok (.dup, 1) := by decide +kernel
theorem dM_init_391 : decode (zby mM_init) 391 = .ok (.bipush 54, 2) := by decide +kernel
theorem dM_init_393 : decode (zby mM_init) 393 = .ok (.bipush 115, 2) := by decide +kernel
theorem dM_init_395 : decode (zby mM_init) 395 = .ok (.castore, 1) := by decide +kernel
theorem dM_init_396 : decode (zby mM_init) 396 = .ok (.dup, 1) := by decide +kernel
theorem dM_init_397 : decode (zby mM_init) 397 = .ok (.bipush 55, 2) := by decide +kernel
theorem dM_init_399 : decode (zby mM_init) 399 = .ok (.bipush 32, 2) := by decide +kernel
theorem dM_init_401 : decode (zby mM_init) 401 = .ok (.castore, 1) := by decide +kernel
theorem dM_init_402 : decode (zby mM_init) 402 = .ok (.putfield 35, 3) := by decide +kernel
theorem dM_init_405 : decode (zby mM_init) 405 = .ok (.aload_n 0, 1) := by decide +kernel
theorem dM_init_406 : decode (zby mM_init) 406 = .ok (.bipush 11, 2) := by decide +kernel
theorem dM_init_408 : decode (zby mM_init) 408 = .ok (.newarray .int, 2) := by decide +kernel
theorem dM_init_410 : decode (zby mM_init) 410 = .ok (.dup, 1) := by decide +kernel
theorem dM_init_411 : decode (zby mM_init) 411 = .ok (.iconst 0, 1) := by decide +kernel
theorem dM_init_412 : decode (zby mM_init) 412 = .ok (.iconst 0, 1) := by decide +kernel
theorem dM_init_413 : decode (zby mM_init) 413 = .ok (.iastore, 1) := by decide +kernel
theorem dM_init_414 : decode (zby mM_init) 414 = .ok (.dup, 1) := by decide +kernel
theorem dM_init_415 : decode (zby mM_init) 415 = .ok (.iconst 1, 1) := by decide +kernel
theorem dM_init_416 : decode (zby mM_init) 416 = .ok (.bipush 6, 2) := by decide +kernel
theorem dM_init_418 : decode (zby mM_init) 418 = .ok (.iastore, 1) := by decide +kernel
theorem dM_init_419 : decode (zby mM_init) 419 = .ok (.dup, 1) := by decide +kernel
theorem dM_init_420 : decode (zby mM_init) 420 = .ok (.iconst 2, 1) := by decide +kernel
theorem dM_init_421 : decode (zby mM_init) 421 = .ok (.bipush 11, 2) := by decide +kernel
theorem dM_init_423 : decode (zby mM_init) 423 = .ok (.iastore, 1) := by decide +kernel
theorem dM_init_424 : decode (zby mM_init) 424 = .ok (.dup, 1) := by decide +kernel
theorem dM_init_425 : decode (zby mM_init) 425 = .ok (.iconst 3, 1) := by decide +kernel
theorem dM_init_426 : decode (zby mM_init) 426 = .ok (.bipush 18, 2) := by decide +kernel
theorem dM_init_428 : decode (zby mM_init) 428 = .ok (.iastore, 1) := by decide +kernel
theorem dM_init_429 : decode (zby mM_init) 429 = .ok (.dup, 1) := by decide +kernel
theorem dM_init_430 : decode (zby mM_init) 430 = .ok (.iconst 4, 1) := by decide +kernel
theorem dM_init_431 : decode (zby mM_init) 431 = .ok (.bipush 23, 2) := by decide +kernel
theorem dM_init_433 : decode (zby mM_init) 433 = .ok (.iastore, 1) := by decide +kernel
theorem dM_init_434 : decode (zby mM_init) 434 = .ok (.dup, 1) := by decide +kernel
theorem dM_init_435 : decode (zby mM_init) 435 = .ok (.iconst 5, 1) := by decide +kernel
theorem dM_init_436 : decode (zby mM_init) 436 = .ok (.bipush 29, 2) := by decide +kernel
theorem dM_init_438 : decode (zby mM_init) 438 = .ok (.iastore, 1) := by decide +kernel
theorem dM_init_439 : decode (zby mM_init) 439 = .ok (.dup, 1) := by decide +kernel
theorem dM_init_440 : decode (zby mM_init) 440 = .ok (.bipush 6, 2) := by decide +kernel
theorem dM_init_442 : decode (zby mM_init) 442 = .ok (.bipush 35, 2) := by decide +kernel
theorem dM_init_444 : decode (zby mM_init) 444 = .ok (.iastore, 1) := by decide +kernel
theorem dM_init_445 : decode (zby mM_init) 445 = .ok (.dup, 1) := by decide +kernel
theorem dM_init_446 : decode (zby mM_init) 446 = .ok (.bipush 7, 2) := by decide +kernel
theorem dM_init_448 : decode (zby mM_init) 448 = .ok (.bipush 42, 2) := by decide +kernel
theorem dM_init_450 : decode (zby mM_init) 450 = .ok (.iastore, 1) := by decide +kernel
theorem dM_init_451 : decode (zby mM_init) 451 = .ok (.dup, 1) := by decide +kernel
theorem dM_init_452 : decode (zby mM_init) 452 = .ok (.bipush 8, 2) := by decide +kernel
theorem dM_init_454 : decode (zby mM_init) 454 = .ok (.bipush 47, 2) := by decide +kernel
theorem dM_init_456 : decode (zby mM_init) 456 = .ok (.iastore, 1) := by decide +kernel
theorem dM_init_457 : decode (zby mM_init) 457 = .ok (.dup, 1) := by decide +kernel
theorem dM_init_458 : decode (zby mM_init) 458 = .ok (.bipush 9, 2) := by decide +kernel
theorem dM_init_460 : decode (zby mM_init) 460 = .ok (.bipush 51, 2) := by decide +kernel
theorem dM_init_462 : decode (zby mM_init) 462 = .ok (.iastore, 1) := by decide +kernel
theorem dM_init_463 : decode (zby mM_init) 463 = .ok (.dup, 1) := by decide +kernel
theorem dM_init_464 : decode (zby mM_init) 464 = .ok (.bipush 10, 2) := by decide +kernel
theorem dM_init_466 : decode (zby mM_init) 466 = .ok (.bipush 56, 2) := by decide +kernel
theorem dM_init_468 : decode (zby mM_init) 468 = .ok (.iastore, 1) := by decide +kernel
theorem dM_init_469 : decode (zby mM_init) 469 = .ok (.putfield 39, 3) := by decide +kernel
theorem dM_init_472 : decode (zby mM_init) 472 = .ok (.aload_n 0, 1) := by decide +kernel
theorem dM_init_473 : decode (zby mM_init) 473 = .ok (.sipush 183, 3) := by decide +kernel
theorem dM_init_476 : decode (zby mM_init) 476 = .ok (.newarray .int, 2) := by decide +kernel
theorem dM_init_478 : decode (zby mM_init) 478 = .ok (.putfield 42, 3) := by decide +kernel
theorem dM_init_481 : decode (zby mM_init) 481 = .ok (.aload_n 0, 1) := by decide +kernel
theorem dM_init_482 : decode (zby mM_init) 482 = .ok (.getfield 9, 3) := by decide +kernel
theorem dM_init_485 : decode (zby mM_init) 485 = .ok (.iconst 2, 1) := by decide +kernel
theorem dM_init_486 : decode (zby mM_init) 486 = .ok (.iconst 1, 1) := by decide +kernel
theorem dM_init_487 : decode (zby mM_init) 487 = .ok (.iastore, 1) := by decide +kernel
theorem dM_init_488 : decode (zby mM_init) 488 = .ok (.return_, 1) := by decide +kernel
theorem dM_isConsistent_0 : decode (zby mM_isConsistent) 0 = .ok (.aload_n 0, 1) := by decide +kernel
theorem dM_isConsistent_1 : decode (zby mM_isConsistent) 1 = .ok (.iconst 0, 1) := by decide +kernel
theorem dM_isConsistent_2 : decode (zby mM_isConsistent) 2 = .ok (.putfield 45, 3) := by decide +kernel
theorem dM_isConsistent_5 : decode (zby mM_isConsistent) 5 = .ok (.iconst 1, 1) := by decide +kernel
theorem dM_isConsistent_6 : decode (zby mM_isConsistent) 6 = .ok (.ireturn, 1) := by decide +kernel
theorem dM_isPrefix_0 : decode (zby mM_isPrefix) 0 = .ok (.iload_n 0, 1) := by decide +kernel
theorem dM_isPrefix_1 : decode (zby mM_isPrefix) 1 = .ok (.i2l, 1) := by decide +kernel
theorem dM_isPrefix_2 : decode (zby mM_isPrefix) 2 = .ok (.lconst 0, 1) := by decide +kernel
theorem dM_isPrefix_3 : decode (zby mM_isPrefix) 3 = .ok (.iload_n 2, 1) := by decide +kernel
theorem dM_isPrefix_4 : decode (zby mM_isPrefix) 4 = .ok (.i2l, 1) := by decide +kernel
theorem dM_isPrefix_5 : decode (zby mM_isPrefix) 5 = .ok (.invokestatic 55, 3) := by decide +kernel
theorem dM_isPrefix_8 : decode (zby mM_isPrefix) 8 = .ok (.ifCond .eq 23, 3) := by decide +kernel
theorem dM_isPrefix_11 : decode (zby mM_isPrefix) 11 = .ok (.iload_n 1, 1) := by decide +kernel
theorem dM_isPrefix_12 : decode (zby mM_isPrefix) 12 = .ok (.i2l, 1) := by decide +kernel
theorem dM_isPrefix_13 : decode (zby mM_isPrefix) 13 = .ok (.lconst 0, 1) := by decide +kernel
theorem dM_isPrefix_14 : decode (zby mM_isPrefix) 14 = .ok (.iload_n 0, 1) := by decide +kernel
theorem dM_isPrefix_15 : decode (zby mM_isPrefix) 15 = .ok (.invokestatic 59, 3) := by decide +kernel
theorem dM_isPrefix_18 : decode (zby mM_isPrefix) 18 = .ok (.iconst 1, 1) := by decide +kernel
theorem dM_isPrefix_19 : decode (zby mM_isPrefix) 19 = .ok (.isub, 1) := by decide +kernel
theorem dM_isPrefix_20 : decode (zby mM_isPrefix) 20 = .ok (.i2l, 1) := by decide +kernel
theorem dM_isPrefix_21 : decode (zby mM_isPrefix) 21 = .ok (.invokestatic 55, 3) := by decide +kernel
theorem dM_isPrefix_24 : decode (zby mM_isPrefix) 24 = .ok (.ifCond .eq 7, 3) := by decide +kernel
theorem dM_isPrefix_27 : decode (zby mM_isPrefix) 27 = .ok (.iconst 1, 1) := by decide +kernel
theorem dM_isPrefix_28 : decode (zby mM_isPrefix) 28 = .ok (.goto 4, 3) := by decide +kernel
theorem dM_isPrefix_31 : decode (zby mM_isPrefix) 31 = .ok (.iconst 0, 1) := by decide +kernel
theorem dM_isPrefix_32 : decode (zby mM_isPrefix) 32 = .ok (.ireturn, 1) := by decide +kernel
theorem dM_joinIt_0 : decode (zby mM_joinIt) 0 = .ok (.iload_n 1, 1) := by decide +kernel
theorem dM_joinIt_1 : decode (zby mM_joinIt) 1 = .ok (.i2l, 1) := by decide +kernel
theorem dM_joinIt_2 : decode (zby mM_joinIt) 2 = .ok (.lconst 0, 1) := by decide +kernel
theorem dM_joinIt_3 : decode (zby mM_joinIt) 3 = .ok (.aload_n 0, 1) := by decide +kernel
theorem dM_joinIt_4 : decode (zby mM_joinIt) 4 = .ok (.getfield 9, 3) := by decide +kernel
theorem dM_joinIt_7 : decode (zby mM_joinIt) 7 = .ok (.iconst 2, 1) := by decide +kernel
theorem dM_joinIt_8 : decode (zby mM_joinIt) 8 = .ok (.iaload, 1) := by decide +kernel
theorem dM_joinIt_9 : decode (zby mM_joinIt) 9 = .ok (.iconst 1, 1) := by decide +kernel
theorem dM_joinIt_10 : decode (zby mM_joinIt) 10 = .ok (.isub, 1) := by decide +kernel
theorem dM_joinIt_11 : decode (zby mM_joinIt) 11 = .ok (.i2l, 1) := by decide +kernel
theorem dM_joinIt_12 : decode (zby mM_joinIt) 12 = .ok (.invokestatic 55, 3) := by decide +kernel
theorem dM_joinIt_15 : decode (zby mM_joinIt) 15 = .ok (.ifCond .ne 9, 3) := by decide +kernel
theorem dM_joinIt_18 : decode (zby mM_joinIt) 18 = .ok (.aload_n 0, 1) := by decide +kernel
theorem dM_joinIt_19 : decode (zby mM_joinIt) 19 = .ok (.iconst 1, 1) := by decide +kernel
theorem dM_joinIt_20 : decode (zby mM_joinIt) 20 = .ok (.invokevirtual 90, 3) := by decide +kernel
theorem dM_joinIt_23 : decode (zby mM_joinIt) 23 = .ok (.ireturn, 1) := by decide +kernel
theorem dM_joinIt_24 : decode (zby mM_joinIt) 24 = .ok (.iload_n 1, 1) := by decide +kernel
theorem dM_joinIt_25 : decode (zby mM_joinIt) 25 = .ok (.aload_n 0, 1) := by decide +kernel
theorem dM_joinIt_26 : decode (zby mM_joinIt) 26 = .ok (.getfield 9, 3) := by decide +kernel
theorem dM_joinIt_29 : decode (zby mM_joinIt) 29 = .ok (.iconst 2, 1) := by decide +kernel
theorem dM_joinIt_30 : decode (zby mM_joinIt) 30 = .ok (.iaload, 1) := by decide +kernel
theorem dM_joinIt_31 : decode (zby mM_joinIt) 31 = .ok (.iconst 1, 1) := by decide +kernel
theorem dM_joinIt_32 : decode (zby mM_joinIt) 32 = .ok (.isub, 1) := by decide +kernel
theorem dM_joinIt_33 : decode (zby mM_joinIt) 33 = .ok (.if_icmp .ne 9, 3) := by decide +kernel
theorem dM_joinIt_36 : decode (zby mM_joinIt) 36 = .ok (.aload_n 0, 1) := by decide +kernel
theorem dM_joinIt_37 : decode (zby mM_joinIt) 37 = .ok (.iconst 2, 1) := by decide +kernel
theorem dM_joinIt_38 : decode (zby mM_joinIt) 38 = .ok (.invokevirtual 90, 3) := by decide +kernel
theorem dM_joinIt_41 : decode (zby mM_joinIt) 41 = .ok (.ireturn, 1) := by decide +kernel
theorem dM_joinIt_42 : decode (zby mM_joinIt) 42 = .ok (.iconst 0, 1) := by decide +kernel
theorem dM_joinIt_43 : decode (zby mM_joinIt) 43 = .ok (.istore_n 2, 1) := by decide +kernel
theorem dM_joinIt_44 : decode (zby mM_joinIt) 44 = .ok (.iload_n 2, 1) := by decide +kernel
theorem dM_joinIt_45 : decode (zby mM_joinIt) 45 = .ok (.aload_n 0, 1) := by decide +kernel
theorem dM_joinIt_46 : decode (zby mM_joinIt) 46 = .ok (.getfield 9, 3) := by decide +kernel
theorem dM_joinIt_49 : decode (zby mM_joinIt) 49 = .ok (.iconst 0, 1) := by decide +kernel
theorem dM_joinIt_50 : decode (zby mM_joinIt) 50 = .ok (.iaload, 1) := by decide +kernel
theorem dM_joinIt_51 : decode (zby mM_joinIt) 51 = .ok (.if_icmp .ge 43, 3) := by decide +kernel
theorem dM_joinIt_54 : decode (zby mM_joinIt) 54 = .ok (.aload_n 0, 1) := by decide +kernel
theorem dM_joinIt_55 : decode (zby mM_joinIt) 55 = .ok (.getfield 9, 3) := by decide +kernel
theorem dM_joinIt_58 : decode (zby mM_joinIt) 58 = .ok (.iload_n 2, 1) := by decide +kernel
theorem dM_joinIt_59 : decode (zby mM_joinIt) 59 = .ok (.invokestatic 51, 3) := by decide +kernel
theorem dM_joinIt_62 : decode (zby mM_joinIt) 62 = .ok (.iconst 4, 1) := by decide +kernel
theorem dM_joinIt_63 : decode (zby mM_joinIt) 63 = .ok (.iadd, 1) := by decide +kernel
theorem dM_joinIt_64 : decode (zby mM_joinIt) 64 = .ok (.dup2, 1) := by decide +kernel
theorem dM_joinIt_65 : decode (zby mM_joinIt) 65 = .ok (.iaload, 1) := by decide +kernel
theorem dM_joinIt_66 : decode (zby mM_joinIt) 66 = .ok (.aload_n 0, 1) := by decide +kernel
theorem dM_joinIt_67 : decode (zby mM_joinIt) 67 = .ok (.getfield 9, 3) := by decide +kernel
theorem dM_joinIt_70 : decode (zby mM_joinIt) 70 = .ok (.iload_n 2, 1) := by decide +kernel
theorem dM_joinIt_71 : decode (zby mM_joinIt) 71 = .ok (.invokestatic 51, 3) := by decide +kernel
theorem dM_joinIt_74 : decode (zby mM_joinIt) 74 = .ok (.iconst 4, 1) := by decide +kernel
theorem dM_joinIt_75 : decode (zby mM_joinIt) 75 = .ok (.iadd, 1) := by decide +kernel
theorem dM_joinIt_76 : decode (zby mM_joinIt) 76 = .ok (.iaload, 1) := by decide +kernel
theorem dM_joinIt_77 : decode (zby mM_joinIt) 77 = .ok (.iload_n 1, 1) := by decide +kernel
theorem dM_joinIt_78 : decode (zby mM_joinIt) 78 = .ok (.if_icmp .le 7, 3) := by decide +kernel
theorem dM_joinIt_81 : decode (zby mM_joinIt) 81 = .ok (.iconst 1, 1) := by decide +kernel
theorem dM_joinIt_82 : decode (zby mM_joinIt) 82 = .ok (.goto 4, 3) := by decide +kernel
theorem dM_joinIt_85 : decode (zby mM_joinIt) 85 = .ok (.iconst 0, 1) := by decide +kernel
theorem dM_joinIt_86 : decode (zby mM_joinIt) 86 = .ok (.isub, 1) := by decide +kernel
theorem dM_joinIt_87 : decode (zby mM_joinIt) 87 = .ok (.iastore, 1) := by decide +kernel
theorem dM_joinIt_88 : decode (zby mM_joinIt) 88 = .ok (.iinc 2 1, 3) := by decide +kernel
theorem dM_joinIt_91 : decode (zby mM_joinIt) 91 = .ok (.goto (-47), 3) := by decide +kernel
theorem dM_joinIt_94 : decode (zby mM_joinIt) 94 = .ok (.aload_n 0, 1) := by decide +kernel
theorem dM_joinIt_95 : decode (zby mM_joinIt) 95 = .ok (.getfield 9, 3) := by decide +kernel
theorem dM_joinIt_98 : decode (zby mM_joinIt) 98 = .ok (.iconst 2, 1) := by decide +kernel
theorem dM_joinIt_99 : decode (zby mM_joinIt) 99 = .ok (.dup2, 1) := by decide +kernel
theorem dM_joinIt_100 : decode (zby mM_joinIt) 100 = .ok (.iaload, 1) := by decide +kernel
theorem dM_joinIt_101 : decode (zby mM_joinIt) 101 = .ok (.iconst 1, 1) := by decide +kernel
theorem dM_joinIt_102 : decode (zby mM_joinIt) 102 = .ok (.isub, 1) := by decide +kernel
theorem dM_joinIt_103 : decode (zby mM_joinIt) 103 = .ok (.iastore, 1) := by decide +kernel
theorem dM_joinIt_104 : decode (zby mM_joinIt) 104 = .ok (.aload_n 0, 1) := by decide +kernel
theorem dM_joinIt_105 : decode (zby mM_joinIt) 105 = .ok (.getfield 9, 3) := by decide +kernel
theorem dM_joinIt_108 : decode (zby mM_joinIt) 108 = .ok (.iconst 2, 1) := by decide +kernel
theorem dM_joinIt_109 : decode (zby mM_joinIt) 109 = .ok (.iaload, 1) := by decide +kernel
theorem dM_joinIt_110 : decode (zby mM_joinIt) 110 = .ok (.ireturn, 1) := by decide +kernel
theorem dM_joinSegments_0 : decode (zby mM_joinSegments) 0 = .ok (.aload_n 0, 1) := by decide +kernel
theorem dM_joinSegments_1 : decode (zby mM_joinSegments) 1 = .ok (.invokevirtual 93, 3) := by decide +kernel
theorem dM_joinSegments_4 : decode (zby mM_joinSegments) 4 = .ok (.aload_n 0, 1) := by decide +kernel
theorem dM_joinSegments_5 : decode (zby mM_joinSegments) 5 = .ok (.aload_n 0, 1) := by decide +kernel
theorem dM_joinSegments_6 : decode (zby mM_joinSegments) 6 = .ok (.iload_n 1, 1) := by decide +kernel
theorem dM_joinSegments_7 : decode (zby mM_joinSegments) 7 = .ok (.invokevirtual 140, 3) := by decide +kernel
theorem dM_joinSegments_10 : decode (zby mM_joinSegments) 10 = .ok (.invokevirtual 99, 3) := by decide +kernel
theorem dM_joinSegments_13 : decode (zby mM_joinSegments) 13 = .ok (.ireturn, 1) := by decide +kernel
theorem dM_leaves_0 : decode (zby mM_leaves) 0 = .ok (.iload_n 1, 1) := by decide +kernel
theorem dM_leaves_1 : decode (zby mM_leaves) 1 = .ok (.invokestatic 51, 3) := by decide +kernel
theorem dM_leaves_4 : decode (zby mM_leaves) 4 = .ok (.istore_n 2, 1) := by decide +kernel
theorem dM_leaves_5 : decode (zby mM_leaves) 5 = .ok (.iload_n 2, 1) := by decide +kernel
theorem dM_leaves_6 : decode (zby mM_leaves) 6 = .ok (.sipush 234, 3) := by decide +kernel
theorem dM_leaves_9 : decode (zby mM_leaves) 9 = .ok (.if_icmp .ge 24, 3) := by decide +kernel
theorem dM_leaves_12 : decode (zby mM_leaves) 12 = .ok (.aload_n 0, 1) := by decide +kernel
theorem dM_leaves_13 : decode (zby mM_leaves) 13 = .ok (.getfield 9, 3) := by decide +kernel
theorem dM_leaves_16 : decode (zby mM_leaves) 16 = .ok (.iload_n 2, 1) := by decide +kernel
theorem dM_leaves_17 : decode (zby mM_leaves) 17 = .ok (.aload_n 0, 1) := by decide +kernel
theorem dM_leaves_18 : decode (zby mM_leaves) 18 = .ok (.getfield 9, 3) := by decide +kernel
theorem dM_leaves_21 : decode (zby mM_leaves) 21 = .ok (.iload_n 2, 1) := by decide +kernel
theorem dM_leaves_22 : decode (zby mM_leaves) 22 = .ok (.bipush 12, 2) := by decide +kernel
theorem dM_leaves_24 : decode (zby mM_leaves) 24 = .ok (.iadd, 1) := by decide +kernel
theorem dM_leaves_25 : decode (zby mM_leaves) 25 = .ok (.iaload, 1) := by decide +kernel
theorem dM_leaves_26 : decode (zby mM_leaves) 26 = .ok (.iastore, 1) := by decide +kernel
theorem dM_leaves_27 : decode (zby mM_leaves) 27 = .ok (.iinc 2 1, 3) := by decide +kernel
theorem dM_leaves_30 : decode (zby mM_leaves) 30 = .ok (.goto (-25), 3) := by decide +kernel
theorem dM_leaves_33 : decode (zby mM_leaves) 33 = .ok (.sipush 234, 3) := by decide +kernel
theorem dM_leaves_36 : decode (zby mM_leaves) 36 = .ok (.istore_n 2, 1) := by decide +kernel
theorem dM_leaves_37 : decode (zby mM_leaves) 37 = .ok (.iload_n 2, 1) := by decide +kernel
theorem dM_leaves_38 : decode (zby mM_leaves) 38 = .ok (.sipush 246, 3) := by decide +kernel
theorem dM_leaves_41 : decode (zby mM_leaves) 41 = .ok (.if_icmp .ge 16, 3) := by decide +kernel
theorem dM_leaves_44 : decode (zby mM_leaves) 44 = .ok (.aload_n 0, 1) := by decide +kernel
theorem dM_leaves_45 : decode (zby mM_leaves) 45 = .ok (.getfield 9, 3) := by decide +kernel
theorem dM_leaves_48 : decode (zby mM_leaves) 48 = .ok (.iload_n 2, 1) := by decide +kernel
theorem dM_leaves_49 : decode (zby mM_leaves) 49 = .ok (.iconst 0, 1) := by decide +kernel
theorem dM_leaves_50 : decode (zby mM_leaves) 50 = .ok (.iastore, 1) := by decide +kernel
theorem dM_leaves_51 : decode (zby mM_leaves) 51 = .ok (.iinc 2 1, 3) := by decide +kernel
theorem dM_leaves_54 : decode (zby mM_leaves) 54 = .ok (.goto (-17), 3) := by decide +kernel
theorem dM_leaves_57 : decode (zby mM_leaves) 57 = .ok (.aload_n 0, 1) := by decide +kernel
theorem dM_leaves_58 : decode (zby mM_leaves) 58 = .ok (.getfield 9, 3) := by decide +kernel
theorem dM_leaves_61 : decode (zby mM_leaves) 61 = .ok (.iconst 0, 1) := by decide +kernel
theorem dM_leaves_62 : decode (zby mM_leaves) 62 = .ok (.dup2, 1) := by decide +kernel
theorem dM_leaves_63 : decode (zby mM_leaves) 63 = .ok (.iaload, 1) := by decide +kernel
theorem dM_leaves_64 : decode (zby mM_leaves) 64 = .ok (.iconst 1, 1) := by decide +kernel
theorem dM_leaves_65 : decode (zby mM_leaves) 65 = .ok (.isub, 1) := by decide +kernel
theorem dM_leaves_66 : decode (zby mM_leaves) 66 = .ok (.iastore, 1) := by decide +kernel
theorem dM_leaves_67 : decode (zby mM_leaves) 67 = .ok (.return_, 1) := by decide +kernel
theorem dM_lifetime_0 : decode (zby mM_lifetime) 0 = .ok (.iload_n 1, 1) := by decide +kernel
theorem dM_lifetime_1 : decode (zby mM_lifetime) 1 = .ok (.invokestatic 51, 3) := by decide +kernel
theorem dM_lifetime_4 : decode (zby mM_lifetime) 4 = .ok (.istore_n 2, 1) := by decide +kernel
theorem dM_lifetime_5 : decode (zby mM_lifetime) 5 = .ok (.sipush 150, 3) := by decide +kernel
theorem dM_lifetime_8 : decode (zby mM_lifetime) 8 = .ok (.bipush 10, 2) := by decide +kernel
theorem dM_lifetime_10 : decode (zby mM_lifetime) 10 = .ok (.aload_n 0, 1) := by decide +kernel
theorem dM_lifetime_11 : decode (zby mM_lifetime) 11 = .ok (.getfield 9, 3) := by decide +kernel
theorem dM_lifetime_14 : decode (zby mM_lifetime) 14 = .ok (.iload_n 2, 1) := by decide +kernel
theorem dM_lifetime_15 : decode (zby mM_lifetime) 15 = .ok (.iconst 1, 1) := by decide +kernel
theorem dM_lifetime_16 : decode (zby mM_lifetime) 16 = .ok (.iadd, 1) := by decide +kernel
theorem dM_lifetime_17 : decode (zby mM_lifetime) 17 = .ok (.iaload, 1) := by decide +kernel
theorem dM_lifetime_18 : decode (zby mM_lifetime) 18 = .ok (.imul, 1) := by decide +kernel
theorem dM_lifetime_19 : decode (zby mM_lifetime) 19 = .ok (.iconst 5, 1) := by decide +kernel
theorem dM_lifetime_20 : decode (zby mM_lifetime) 20 = .ok (.aload_n 0, 1) := by decide +kernel
theorem dM_lifetime_21 : decode (zby mM_lifetime) 21 = .ok (.getfield 9, 3) := by decide +kernel
theorem dM_lifetime_24 : decode (zby mM_lifetime) 24 = .ok (.iload_n 2, 1) := by decide +kernel
theorem dM_lifetime_25 : decode (zby mM_lifetime) 25 = .ok (.iconst 3, 1) := by decide +kernel
theorem dM_lifetime_26 : decode (zby mM_lifetime) 26 = .ok (.iadd, 1) := by decide +kernel
theorem dM_lifetime_27 : decode (zby mM_lifetime) 27 = .ok (.iaload, 1) := by decide +kernel
theorem dM_lifetime_28 : decode (zby mM_lifetime) 28 = .ok (.imul, 1) := by decide +kernel
theorem dM_lifetime_29 : decode (zby mM_lifetime) 29 = .ok (.iadd, 1) := by decide +kernel
theorem dM_lifetime_30 : decode (zby mM_lifetime) 30 = .ok (.invokestatic 80, 3) := by decide +kernel
theorem dM_lifetime_33 : decode (zby mM_lifetime) 33 = .ok (.ireturn, 1) := by decide +kernel
theorem dM_lifetimeOf_0 : decode (zby mM_lifetimeOf) 0 = .ok (.aload_n 0, 1) := by decide +kernel
theorem dM_lifetimeOf_1 : decode (zby mM_lifetimeOf) 1 = .ok (.iconst 0, 1) := by decide +kernel
theorem dM_lifetimeOf_2 : decode (zby mM_lifetimeOf) 2 = .ok (.putfield 45, 3) := by decide +kernel
theorem dM_lifetimeOf_5 : decode (zby mM_lifetimeOf) 5 = .ok (.aload_n 0, 1) := by decide +kernel
theorem dM_lifetimeOf_6 : decode (zby mM_lifetimeOf) 6 = .ok (.iload_n 1, 1) := by decide +kernel
theorem dM_lifetimeOf_7 : decode (zby mM_lifetimeOf) 7 = .ok (.invokevirtual 102, 3) := by decide +kernel
theorem dM_lifetimeOf_10 : decode (zby mM_lifetimeOf) 10 = .ok (.iconst (-1), 1) := by decide +kernel
theorem dM_lifetimeOf_11 : decode (zby mM_lifetimeOf) 11 = .ok (.if_icmp .ne 11, 3) := by decide +kernel
theorem dM_lifetimeOf_14 : decode (zby mM_lifetimeOf) 14 = .ok (.aload_n 0, 1) := by decide +kernel
theorem dM_lifetimeOf_15 : decode (zby mM_lifetimeOf) 15 = .ok (.iconst 1, 1) := by decide +kernel
theorem dM_lifetimeOf_16 : decode (zby mM_lifetimeOf) 16 = .ok (.invokevirtual 90, 3) := by decide +kernel
theorem dM_lifetimeOf_19 : decode (zby mM_lifetimeOf) 19 = .ok (.goto 12, 3) := by decide +kernel
theorem dM_lifetimeOf_22 : decode (zby mM_lifetimeOf) 22 = .ok (.aload_n 0, 1) := by decide +kernel
theorem dM_lifetimeOf_23 : decode (zby mM_lifetimeOf) 23 = .ok (.aload_n 0, 1) := by decide +kernel
theorem dM_lifetimeOf_24 : decode (zby mM_lifetimeOf) 24 = .ok (.iload_n 1, 1) := by decide +kernel
theorem dM_lifetimeOf_25 : decode (zby mM_lifetimeOf) 25 = .ok (.invokevirtual 102, 3) := by decide +kernel
theorem dM_lifetimeOf_28 : decode (zby mM_lifetimeOf) 28 = .ok (.invokevirtual 85, 3) := by decide +kernel
theorem dM_lifetimeOf_31 : decode (zby mM_lifetimeOf) 31 = .ok (.ireturn, 1) := by decide +kernel
theorem dM_likeness_0 : decode (zby mM_likeness) 0 = .ok (.iconst 0, 1) := by decide +kernel
theorem dM_likeness_1 : decode (zby mM_likeness) 1 = .ok (.istore_n 2, 1) := by decide +kernel
theorem dM_likeness_2 : decode (zby mM_likeness) 2 = .ok (.aload_n 0, 1) := by decide +kernel
theorem dM_likeness_3 : decode (zby mM_likeness) 3 = .ok (.getfield 39, 3) := by decide +kernel
theorem dM_likeness_6 : decode (zby mM_likeness) 6 = .ok (.iload_n 1, 1) := by decide +kernel
theorem dM_likeness_7 : decode (zby mM_likeness) 7 = .ok (.iconst 1, 1) := by decide +kernel
theorem dM_likeness_8 : decode (zby mM_likeness) 8 = .ok (.iadd, 1) := by decide +kernel
theorem dM_likeness_9 : decode (zby mM_likeness) 9 = .ok (.iaload, 1) := by decide +kernel
theorem dM_likeness_10 : decode (zby mM_likeness) 10 = .ok (.aload_n 0, 1) := by decide +kernel
theorem dM_likeness_11 : decode (zby mM_likeness) 11 = .ok (.getfield 39, 3) := by decide +kernel
theorem dM_likeness_14 : decode (zby mM_likeness) 14 = .ok (.iload_n 1, 1) := by decide +kernel
theorem dM_likeness_15 : decode (zby mM_likeness) 15 = .ok (.iaload, 1) := by decide +kernel
theorem dM_likeness_16 : decode (zby mM_likeness) 16 = .ok (.isub, 1) := by decide +kernel
theorem dM_likeness_17 : decode (zby mM_likeness) 17 = .ok (.istore_n 3, 1) := by decide +kernel
theorem dM_likeness_18 : decode (zby mM_likeness) 18 = .ok (.iload_n 2, 1) := by decide +kernel
theorem dM_likeness_19 : decode (zby mM_likeness) 19 = .ok (.iload_n 3, 1) := by decide +kernel
theorem dM_likeness_20 : decode (zby mM_likeness) 20 = .ok (.if_icmp .ge 49, 3) := by decide +kernel
theorem dM_likeness_23 : decode (zby mM_likeness) 23 = .ok (.aload_n 0, 1) := by decide +kernel
theorem dM_likeness_24 : decode (zby mM_likeness) 24 = .ok (.getfield 202, 3) := by decide +kernel
theorem dM_likeness_27 : decode (zby mM_likeness) 27 = .ok (.iload_n 2, 1) := by decide +kernel
theorem dM_likeness_28 : decode (zby mM_likeness) 28 = .ok (.iadd, 1) := by decide +kernel
theorem dM_likeness_29 : decode (zby mM_likeness) 29 = .ok (.aload_n 0, 1) := by decide +kernel
theorem dM_likeness_30 : decode (zby mM_likeness) 30 = .ok (.getfield 205, 3) := by decide +kernel
theorem dM_likeness_33 : decode (zby mM_likeness) 33 = .ok (.if_icmp .ge 36, 3) := by decide +kernel
theorem dM_likeness_36 : decode (zby mM_likeness) 36 = .ok (.aload_n 0, 1) := by decide +kernel
theorem dM_likeness_37 : decode (zby mM_likeness) 37 = .ok (.getfield 29, 3) := by decide +kernel
theorem dM_likeness_40 : decode (zby mM_likeness) 40 = .ok (.aload_n 0, 1) := by decide +kernel
theorem dM_likeness_41 : decode (zby mM_likeness) 41 = .ok (.getfield 202, 3) := by decide +kernel
theorem dM_likeness_44 : decode (zby mM_likeness) 44 = .ok (.iload_n 2, 1) := by decide +kernel
theorem dM_likeness_45 : decode (zby mM_likeness) 45 = .ok (.iadd, 1) := by decide +kernel
theorem dM_likeness_46 : decode (zby mM_likeness) 46 = .ok (.iaload, 1) := by decide +kernel
theorem dM_likeness_47 : decode (zby mM_likeness) 47 = .ok (.aload_n 0, 1) := by decide +kernel
theorem dM_likeness_48 : decode (zby mM_likeness) 48 = .ok (.getfield 35, 3) := by decide +kernel
theorem dM_likeness_51 : decode (zby mM_likeness) 51 = .ok (.aload_n 0, 1) := by decide +kernel
theorem dM_likeness_52 : decode (zby mM_likeness) 52 = .ok (.getfield 39, 3) := by decide +kernel
theorem dM_likeness_55 : decode (zby mM_likeness) 55 = .ok (.iload_n 1, 1) := by decide +kernel
theorem dM_likeness_56 : decode (zby mM_likeness) 56 = .ok (.iaload, 1) := by decide +kernel
theorem dM_likeness_57 : decode (zby mM_likeness) 57 = .ok (.iload_n 2, 1) := by decide +kernel
theorem dM_likeness_58 : decode (zby mM_likeness) 58 = .ok (.iadd, 1) := by decide +kernel
theorem dM_likeness_59 : decode (zby mM_likeness) 59 = .ok (.caload, 1) := by decide +kernel
theorem dM_likeness_60 : decode (zby mM_likeness) 60 = .ok (.if_icmp .ne 9, 3) := by decide +kernel
theorem dM_likeness_63 : decode (zby mM_likeness) 63 = .ok (.iinc 2 1, 3) := by decide +kernel
theorem dM_likeness_66 : decode (zby mM_likeness) 66 = .ok (.goto (-48), 3) := by decide +kernel
theorem dM_likeness_69 : decode (zby mM_likeness) 69 = .ok (.iload_n 2, 1) := by decide +kernel
theorem dM_likeness_70 : decode (zby mM_likeness) 70 = .ok (.ireturn, 1) := by decide +kernel
theorem dM_lineChar_0 : decode (zby mM_lineChar) 0 = .ok (.aload_n 0, 1) := by decide +kernel
theorem dM_lineChar_1 : decode (zby mM_lineChar) 1 = .ok (.iconst 0, 1) := by decide +kernel
theorem dM_lineChar_2 : decode (zby mM_lineChar) 2 = .ok (.putfield 45, 3) := by decide +kernel
theorem dM_lineChar_5 : decode (zby mM_lineChar) 5 = .ok (.iload_n 1, 1) := by decide +kernel
theorem dM_lineChar_6 : decode (zby mM_lineChar) 6 = .ok (.i2l, 1) := by decide +kernel
theorem dM_lineChar_7 : decode (zby mM_lineChar) 7 = .ok (.lconst 0, 1) := by decide +kernel
theorem dM_lineChar_8 : decode (zby mM_lineChar) 8 = .ok (.aload_n 0, 1) := by decide +kernel
theorem dM_lineChar_9 : decode (zby mM_lineChar) 9 = .ok (.getfield 180, 3) := by decide +kernel
theorem dM_lineChar_12 : decode (zby mM_lineChar) 12 = .ok (.iconst 1, 1) := by decide +kernel
theorem dM_lineChar_13 : decode (zby mM_lineChar) 13 = .ok (.isub, 1) := by decide +kernel
theorem dM_lineChar_14 : decode (zby mM_lineChar) 14 = .ok (.i2l, 1) := by decide +kernel
theorem dM_lineChar_15 : decode (zby mM_lineChar) 15 = .ok (.invokestatic 55, 3) := by decide +kernel
theorem dM_lineChar_18 : decode (zby mM_lineChar) 18 = .ok (.ifCond .eq 13, 3) := by decide +kernel
theorem dM_lineChar_21 : decode (zby mM_lineChar) 21 = .ok (.aload_n 0, 1) := by decide +kernel
theorem dM_lineChar_22 : decode (zby mM_lineChar) 22 = .ok (.getfield 32, 3) := by decide +kernel
theorem dM_lineChar_25 : decode (zby mM_lineChar) 25 = .ok (.iload_n 1, 1) := by decide +kernel
theorem dM_lineChar_26 : decode (zby mM_lineChar) 26 = .ok (.iaload, 1) := by decide +kernel
theorem dM_lineChar_27 : decode (zby mM_lineChar) 27 = .ok (.i2c, 1) := by decide +kernel
theorem dM_lineChar_28 : decode (zby mM_lineChar) 28 = .ok (.goto 9, 3) := by decide +kernel
theorem dM_lineChar_31 : decode (zby mM_lineChar) 31 = .ok (.aload_n 0, 1) := by decide +kernel
theorem dM_lineChar_32 : decode (zby mM_lineChar) 32 = .ok (.iconst 1, 1) := by decide +kernel
theorem dM_lineChar_33 : decode (zby mM_lineChar) 33 = .ok (.invokevirtual 90, 3) := by decide +kernel
theorem dM_lineChar_36 : decode (zby mM_lineChar) 36 = .ok (.i2c, 1) := by decide +kernel
theorem dM_lineChar_37 : decode (zby mM_lineChar) 37 = .ok (.ireturn, 1) := by decide +kernel
theorem dM_many_0 : decode (zby mM_many) 0 = .ok (.iconst 0, 1) := by decide +kernel
theorem dM_many_1 : decode (zby mM_many) 1 = .ok (.istore 4, 2) := by decide +kernel
theorem dM_many_3 : decode (zby mM_many) 3 = .ok (.iconst 0, 1) := by decide +kernel
theorem dM_many_4 : decode (zby mM_many) 4 = .ok (.istore 5, 2) := by decide +kernel
theorem dM_many_6 : decode (zby mM_many) 6 = .ok (.iload 5, 2) := by decide +kernel
theorem dM_many_8 : decode (zby mM_many) 8 = .ok (.aload_n 0, 1) := by decide +kernel
theorem dM_many_9 : decode (zby mM_many) 9 = .ok (.getfield 9, 3) := by decide +kernel
theorem dM_many_12 : decode (zby mM_many) 12 = .ok (.iload_n 1, 1) := by decide +kernel
theorem dM_many_13 : decode (zby mM_many) 13 = .ok (.invokestatic 51, 3) := by decide +kernel
theorem dM_many_16 : decode (zby mM_many) 16 = .ok (.iconst 5, 1) := by decide +kernel
theorem dM_many_17 : decode (zby mM_many) 17 = .ok (.iadd, 1) := by decide +kernel
theorem dM_many_18 : decode (zby mM_many) 18 = .ok (.iaload, 1) := by decide +kernel
theorem dM_many_19 : decode (zby mM_many) 19 = .ok (.if_icmp .ge 34, 3) := by decide +kernel
theorem dM_many_22 : decode (zby mM_many) 22 = .ok (.iload 4, 2) := by decide +kernel
theorem dM_many_24 : decode (zby mM_many) 24 = .ok (.aload_n 0, 1) := by decide +kernel
theorem dM_many_25 : decode (zby mM_many) 25 = .ok (.iload_n 1, 1) := by decide +kernel
theorem dM_many_26 : decode (zby mM_many) 26 = .ok (.iload 5, 2) := by decide +kernel
theorem dM_many_28 : decode (zby mM_many) 28 = .ok (.invokevirtual 62, 3) := by decide +kernel
theorem dM_many_31 : decode (zby mM_many) 31 = .ok (.iload_n 2, 1) := by decide +kernel
theorem dM_many_32 : decode (zby mM_many) 32 = .ok (.iload_n 3, 1) := by decide +kernel
theorem dM_many_33 : decode (zby mM_many) 33 = .ok (.invokestatic 66, 3) := by decide +kernel
theorem dM_many_36 : decode (zby mM_many) 36 = .ok (.ifCond .eq 7, 3) := by decide +kernel
theorem dM_many_39 : decode (zby mM_many) 39 = .ok (.iconst 1, 1) := by decide +kernel
theorem dM_many_40 : decode (zby mM_many) 40 = .ok (.goto 4, 3) := by decide +kernel
theorem dM_many_43 : decode (zby mM_many) 43 = .ok (.iconst 0, 1) := by decide +kernel
theorem dM_many_44 : decode (zby mM_many) 44 = .ok (.iadd, 1) := by decide +kernel
theorem dM_many_45 : decode (zby mM_many) 45 = .ok (.istore 4, 2) := by decide +kernel
theorem dM_many_47 : decode (zby mM_many) 47 = .ok (.iinc 5 1, 3) := by decide +kernel
theorem dM_many_50 : decode (zby mM_many) 50 = .ok (.goto (-44), 3) := by decide +kernel
theorem dM_many_53 : decode (zby mM_many) 53 = .ok (.iload 4, 2) := by decide +kernel
theorem dM_many_55 : decode (zby mM_many) 55 = .ok (.ireturn, 1) := by decide +kernel
theorem dM_matches_0 : decode (zby mM_matches) 0 = .ok (.aload_n 0, 1) := by decide +kernel
theorem dM_matches_1 : decode (zby mM_matches) 1 = .ok (.iconst 0, 1) := by decide +kernel
theorem dM_matches_2 : decode (zby mM_matches) 2 = .ok (.putfield 45, 3) := by decide +kernel
theorem dM_matches_5 : decode (zby mM_matches) 5 = .ok (.aload_n 0, 1) := by decide +kernel
theorem dM_matches_6 : decode (zby mM_matches) 6 = .ok (.iload_n 1, 1) := by decide +kernel
theorem dM_matches_7 : decode (zby mM_matches) 7 = .ok (.invokevirtual 102, 3) := by decide +kernel
theorem dM_matches_10 : decode (zby mM_matches) 10 = .ok (.iconst (-1), 1) := by decide +kernel
theorem dM_matches_11 : decode (zby mM_matches) 11 = .ok (.if_icmp .ne 12, 3) := by decide +kernel
theorem dM_matches_14 : decode (zby mM_matches) 14 = .ok (.aload_n 0, 1) := by decide +kernel
theorem dM_matches_15 : decode (zby mM_matches) 15 = .ok (.iconst 1, 1) := by decide +kernel
theorem dM_matches_16 : decode (zby mM_matches) 16 = .ok (.invokevirtual 90, 3) := by decide +kernel
theorem dM_matches_19 : decode (zby mM_matches) 19 = .ok (.pop, 1) := by decide +kernel
theorem dM_matches_20 : decode (zby mM_matches) 20 = .ok (.goto 18, 3) := by decide +kernel
theorem dM_matches_23 : decode (zby mM_matches) 23 = .ok (.iload_n 2, 1) := by decide +kernel
theorem dM_matches_24 : decode (zby mM_matches) 24 = .ok (.iload_n 3, 1) := by decide +kernel
theorem dM_matches_25 : decode (zby mM_matches) 25 = .ok (.iconst 3, 1) := by decide +kernel
theorem dM_matches_26 : decode (zby mM_matches) 26 = .ok (.invokestatic 143, 3) := by decide +kernel
theorem dM_matches_29 : decode (zby mM_matches) 29 = .ok (.ifCond .ne 9, 3) := by decide +kernel
theorem dM_matches_32 : decode (zby mM_matches) 32 = .ok (.aload_n 0, 1) := by decide +kernel
theorem dM_matches_33 : decode (zby mM_matches) 33 = .ok (.iconst 2, 1) := by decide +kernel
theorem dM_matches_34 : decode (zby mM_matches) 34 = .ok (.invokevirtual 90, 3) := by decide +kernel
theorem dM_matches_37 : decode (zby mM_matches) 37 = .ok (.pop, 1) := by decide +kernel
theorem dM_matches_38 : decode (zby mM_matches) 38 = .ok (.aload_n 0, 1) := by decide +kernel
theorem dM_matches_39 : decode (zby mM_matches) 39 = .ok (.getfield 45, 3) := by decide +kernel
theorem dM_matches_42 : decode (zby mM_matches) 42 = .ok (.ifCond .ne 21, 3) := by decide +kernel
theorem dM_matches_45 : decode (zby mM_matches) 45 = .ok (.aload_n 0, 1) := by decide +kernel
theorem dM_matches_46 : decode (zby mM_matches) 46 = .ok (.aload_n 0, 1) := by decide +kernel
theorem dM_matches_47 : decode (zby mM_matches) 47 = .ok (.iload_n 1, 1) := by decide +kernel
theorem dM_matches_48 : decode (zby mM_matches) 48 = .ok (.invokevirtual 102, 3) := by decide +kernel
theorem dM_matches_51 : decode (zby mM_matches) 51 = .ok (.iload_n 2, 1) := by decide +kernel
theorem dM_matches_52 : decode (zby mM_matches) 52 = .ok (.iload_n 3, 1) := by decide +kernel
theorem dM_matches_53 : decode (zby mM_matches) 53 = .ok (.invokevirtual 70, 3) := by decide +kernel
theorem dM_matches_56 : decode (zby mM_matches) 56 = .ok (.ifCond .le 7, 3) := by decide +kernel
theorem dM_matches_59 : decode (zby mM_matches) 59 = .ok (.iconst 1, 1) := by decide +kernel
theorem dM_matches_60 : decode (zby mM_matches) 60 = .ok (.goto 4, 3) := by decide +kernel
theorem dM_matches_63 : decode (zby mM_matches) 63 = .ok (.iconst 0, 1) := by decide +kernel
theorem dM_matches_64 : decode (zby mM_matches) 64 = .ok (.ireturn, 1) := by decide +kernel
theorem dM_meanCodes_0 : decode (zby mM_meanCodes) 0 = .ok (.aload_n 0, 1) := by decide +kernel
theorem dM_meanCodes_1 : decode (zby mM_meanCodes) 1 = .ok (.iconst 0, 1) := by decide +kernel
theorem dM_meanCodes_2 : decode (zby mM_meanCodes) 2 = .ok (.putfield 45, 3) := by decide +kernel
theorem dM_meanCodes_5 : decode (zby mM_meanCodes) 5 = .ok (.aload_n 0, 1) := by decide +kernel
theorem dM_meanCodes_6 : decode (zby mM_meanCodes) 6 = .ok (.getfield 9, 3) := by decide +kernel
theorem dM_meanCodes_9 : decode (zby mM_meanCodes) 9 = .ok (.iconst 0, 1) := by decide +kernel
theorem dM_meanCodes_10 : decode (zby mM_meanCodes) 10 = .ok (.iaload, 1) := by decide +kernel
theorem dM_meanCodes_11 : decode (zby mM_meanCodes) 11 = .ok (.ifCond .ne 11, 3) := by decide +kernel
theorem dM_meanCodes_14 : decode (zby mM_meanCodes) 14 = .ok (.aload_n 0, 1) := by decide +kernel
theorem dM_meanCodes_15 : decode (zby mM_meanCodes) 15 = .ok (.iconst 1, 1) := by decide +kernel
theorem dM_meanCodes_16 : decode (zby mM_meanCodes) 16 = .ok (.invokevirtual 90, 3) := by decide +kernel
theorem dM_meanCodes_19 : decode (zby mM_meanCodes) 19 = .ok (.pop, 1) := by decide +kernel
theorem dM_meanCodes_20 : decode (zby mM_meanCodes) 20 = .ok (.dconst 0, 1) := by decide +kernel
theorem dM_meanCodes_21 : decode (zby mM_meanCodes) 21 = .ok (.dreturn, 1) := by decide +kernel
theorem dM_meanCodes_22 : decode (zby mM_meanCodes) 22 = .ok (.iconst 0, 1) := by decide +kernel
theorem dM_meanCodes_23 : decode (zby mM_meanCodes) 23 = .ok (.istore_n 1, 1) := by decide +kernel
theorem dM_meanCodes_24 : decode (zby mM_meanCodes) 24 = .ok (.iconst 0, 1) := by decide +kernel
theorem dM_meanCodes_25 : decode (zby mM_meanCodes) 25 = .ok (.istore_n 2, 1) := by decide +kernel
theorem dM_meanCodes_26 : decode (zby mM_meanCodes) 26 = .ok (.iload_n 2, 1) := by decide +kernel
theorem dM_meanCodes_27 : decode (zby mM_meanCodes) 27 = .ok (.aload_n 0, 1) := by decide +kernel
theorem dM_meanCodes_28 : decode (zby mM_meanCodes) 28 = .ok (.getfield 9, 3) := by decide +kernel
theorem dM_meanCodes_31 : decode (zby mM_meanCodes) 31 = .ok (.iconst 0, 1) := by decide +kernel
theorem dM_meanCodes_32 : decode (zby mM_meanCodes) 32 = .ok (.iaload, 1) := by decide +kernel
theorem dM_meanCodes_33 : decode (zby mM_meanCodes) 33 = .ok (.if_icmp .ge 23, 3) := by decide +kernel
theorem dM_meanCodes_36 : decode (zby mM_meanCodes) 36 = .ok (.iload_n 1, 1) := by decide +kernel
theorem dM_meanCodes_37 : decode (zby mM_meanCodes) 37 = .ok (.aload_n 0, 1) := by decide +kernel
theorem dM_meanCodes_38 : decode (zby mM_meanCodes) 38 = .ok (.getfield 9, 3) := by decide +kernel
theorem dM_meanCodes_41 : decode (zby mM_meanCodes) 41 = .ok (.iload_n 2, 1) := by decide +kernel
theorem dM_meanCodes_42 : decode (zby mM_meanCodes) 42 = .ok (.invokestatic 51, 3) := by decide +kernel
theorem dM_meanCodes_45 : decode (zby mM_meanCodes) 45 = .ok (.iconst 5, 1) := by decide +kernel
theorem dM_meanCodes_46 : decode (zby mM_meanCodes) 46 = .ok (.iadd, 1) := by decide +kernel
theorem dM_meanCodes_47 : decode (zby mM_meanCodes) 47 = .ok (.iaload, 1) := by decide +kernel
theorem dM_meanCodes_48 : decode (zby mM_meanCodes) 48 = .ok (.iadd, 1) := by decide +kernel
theorem dM_meanCodes_49 : decode (zby mM_meanCodes) 49 = .ok (.istore_n 1, 1) := by decide +kernel
theorem dM_meanCodes_50 : decode (zby mM_meanCodes) 50 = .ok (.iinc 2 1, 3) := by decide +kernel
theorem dM_meanCodes_53 : decode (zby mM_meanCodes) 53 = .ok (.goto (-27), 3) := by decide +kernel
theorem dM_meanCodes_56 : decode (zby mM_meanCodes) 56 = .ok (.iload_n 1, 1) := by decide +kernel
theorem dM_meanCodes_57 : decode (zby mM_meanCodes) 57 = .ok (.i2d, 1) := by decide +kernel
theorem dM_meanCodes_58 : decode (zby mM_meanCodes) 58 = .ok (.aload_n 0, 1) := by decide +kernel
theorem dM_meanCodes_59 : decode (zby mM_meanCodes) 59 = .ok (.getfield 9, 3) := by decide +kernel
theorem dM_meanCodes_62 : decode (zby mM_meanCodes) 62 = .ok (.iconst 0, 1) := by decide +kernel
theorem dM_meanCodes_63 : decode (zby mM_meanCodes) 63 = .ok (.iaload, 1) := by decide +kernel
theorem dM_meanCodes_64 : decode (zby mM_meanCodes) 64 = .ok (.i2d, 1) := by decide +kernel
theorem dM_meanCodes_65 : decode (zby mM_meanCodes) 65 = .ok (.ddiv, 1) := by decide +kernel
theorem dM_meanCodes_66 : decode (zby mM_meanCodes) 66 = .ok (.dreturn, 1) := by decide +kernel
theorem dM_merge_0 : decode (zby mM_merge) 0 = .ok (.aload_n 0, 1) := by decide +kernel
theorem dM_merge_1 : decode (zby mM_merge) 1 = .ok (.invokevirtual 93, 3) := by decide +kernel
theorem dM_merge_4 : decode (zby mM_merge) 4 = .ok (.aload_n 0, 1) := by decide +kernel
theorem dM_merge_5 : decode (zby mM_merge) 5 = .ok (.aload_n 0, 1) := by decide +kernel
theorem dM_merge_6 : decode (zby mM_merge) 6 = .ok (.iload_n 1, 1) := by decide +kernel
theorem dM_merge_7 : decode (zby mM_merge) 7 = .ok (.iload_n 2, 1) := by decide +kernel
theorem dM_merge_8 : decode (zby mM_merge) 8 = .ok (.invokevirtual 133, 3) := by decide +kernel
theorem dM_merge_11 : decode (zby mM_merge) 11 = .ok (.invokevirtual 99, 3) := by decide +kernel
theorem dM_merge_14 : decode (zby mM_merge) 14 = .ok (.ireturn, 1) := by decide +kernel
theorem dM_mergeIt_0 : decode (zby mM_mergeIt) 0 = .ok (.aload_n 0, 1) := by decide +kernel
theorem dM_mergeIt_1 : decode (zby mM_mergeIt) 1 = .ok (.iload_n 1, 1) := by decide +kernel
theorem dM_mergeIt_2 : decode (zby mM_mergeIt) 2 = .ok (.invokevirtual 102, 3) := by decide +kernel
theorem dM_mergeIt_5 : decode (zby mM_mergeIt) 5 = .ok (.istore_n 3, 1) := by decide +kernel
theorem dM_mergeIt_6 : decode (zby mM_mergeIt) 6 = .ok (.aload_n 0, 1) := by decide +kernel
theorem dM_mergeIt_7 : decode (zby mM_mergeIt) 7 = .ok (.iload_n 2, 1) := by decide +kernel
theorem dM_mergeIt_8 : decode (zby mM_mergeIt) 8 = .ok (.invokevirtual 102, 3) := by decide +kernel
theorem dM_mergeIt_11 : decode (zby mM_mergeIt) 11 = .ok (.istore 4, 2) := by decide +kernel
theorem dM_mergeIt_13 : decode (zby mM_mergeIt) 13 = .ok (.iload_n 3, 1) := by decide +kernel
theorem dM_mergeIt_14 : decode (zby mM_mergeIt) 14 = .ok (.iconst (-1), 1) := by decide +kernel
theorem dM_mergeIt_15 : decode (zby mM_mergeIt) 15 = .ok (.if_icmp .eq 9, 3) := by decide +kernel
theorem dM_mergeIt_18 : decode (zby mM_mergeIt) 18 = .ok (.iload 4, 2) := by decide +kernel
theorem dM_mergeIt_20 : decode (zby mM_mergeIt) 20 = .ok (.iconst (-1), 1) := by decide +kernel
theorem dM_mergeIt_21 : decode (zby mM_mergeIt) 21 = .ok (.if_icmp .ne 9, 3) := by decide +kernel
theorem dM_mergeIt_24 : decode (zby mM_mergeIt) 24 = .ok (.aload_n 0, 1) := by decide +kernel
theorem dM_mergeIt_25 : decode (zby mM_mergeIt) 25 = .ok (.iconst 1, 1) := by decide +kernel
theorem dM_mergeIt_26 : decode (zby mM_mergeIt) 26 = .ok (.invokevirtual 90, 3) := by decide +kernel
theorem dM_mergeIt_29 : decode (zby mM_mergeIt) 29 = .ok (.ireturn, 1) := by decide +kernel
theorem dM_mergeIt_30 : decode (zby mM_mergeIt) 30 = .ok (.iload_n 3, 1) := by decide +kernel
theorem dM_mergeIt_31 : decode (zby mM_mergeIt) 31 = .ok (.iload 4, 2) := by decide +kernel
theorem dM_mergeIt_33 : decode (zby mM_mergeIt) 33 = .ok (.if_icmp .ne 9, 3) := by decide +kernel
theorem dM_mergeIt_36 : decode (zby mM_mergeIt) 36 = .ok (.aload_n 0, 1) := by decide +kernel
theorem dM_mergeIt_37 : decode (zby mM_mergeIt) 37 = .ok (.iconst 2, 1) := by decide +kernel
theorem dM_mergeIt_38 : decode (zby mM_mergeIt) 38 = .ok (.invokevirtual 90, 3) := by decide +kernel
theorem dM_mergeIt_41 : decode (zby mM_mergeIt) 41 = .ok (.ireturn, 1) := by decide +kernel
theorem dM_mergeIt_42 : decode (zby mM_mergeIt) 42 = .ok (.iload_n 3, 1) := by decide +kernel
theorem dM_mergeIt_43 : decode (zby mM_mergeIt) 43 = .ok (.invokestatic 51, 3) := by decide +kernel
theorem dM_mergeIt_46 : decode (zby mM_mergeIt) 46 = .ok (.istore 5, 2) := by decide +kernel
theorem dM_mergeIt_48 : decode (zby mM_mergeIt) 48 = .ok (.iload 4, 2) := by decide +kernel
theorem dM_mergeIt_50 : decode (zby mM_mergeIt) 50 = .ok (.invokestatic 51, 3) := by decide +kernel
theorem dM_mergeIt_53 : decode (zby mM_mergeIt) 53 = .ok (.istore 6, 2) := by decide +kernel
theorem dM_mergeIt_55 : decode (zby mM_mergeIt) 55 = .ok (.aload_n 0, 1) := by decide +kernel
theorem dM_mergeIt_56 : decode (zby mM_mergeIt) 56 = .ok (.getfield 9, 3) := by decide +kernel
theorem dM_mergeIt_59 : decode (zby mM_mergeIt) 59 = .ok (.iload 5, 2) := by decide +kernel
theorem dM_mergeIt_61 : decode (zby mM_mergeIt) 61 = .ok (.iconst 5, 1) := by decide +kernel
theorem dM_mergeIt_62 : decode (zby mM_mergeIt) 62 = .ok (.iadd, 1) := by decide +kernel
theorem dM_mergeIt_63 : decode (zby mM_mergeIt) 63 = .ok (.iaload, 1) := by decide +kernel
theorem dM_mergeIt_64 : decode (zby mM_mergeIt) 64 = .ok (.aload_n 0, 1) := by decide +kernel
theorem dM_mergeIt_65 : decode (zby mM_mergeIt) 65 = .ok (.getfield 9, 3) := by decide +kernel
theorem dM_mergeIt_68 : decode (zby mM_mergeIt) 68 = .ok (.iload 6, 2) := by decide +kernel
theorem dM_mergeIt_70 : decode (zby mM_mergeIt) 70 = .ok (.iconst 5, 1) := by decide +kernel
theorem dM_mergeIt_71 : decode (zby mM_mergeIt) 71 = .ok (.iadd, 1) := by decide +kernel
theorem dM_mergeIt_72 : decode (zby mM_mergeIt) 72 = .ok (.iaload, 1) := by decide +kernel
theorem dM_mergeIt_73 : decode (zby mM_mergeIt) 73 = .ok (.iadd, 1) := by decide +kernel
theorem dM_mergeIt_74 : decode (zby mM_mergeIt) 74 = .ok (.aload_n 0, 1) := by decide +kernel
theorem dM_mergeIt_75 : decode (zby mM_mergeIt) 75 = .ok (.iload_n 3, 1) := by decide +kernel
theorem dM_mergeIt_76 : decode (zby mM_mergeIt) 76 = .ok (.iload 4, 2) := by decide +kernel
theorem dM_mergeIt_78 : decode (zby mM_mergeIt) 78 = .ok (.invokevirtual 127, 3) := by decide +kernel
theorem dM_mergeIt_81 : decode (zby mM_mergeIt) 81 = .ok (.isub, 1) := by decide +kernel
theorem dM_mergeIt_82 : decode (zby mM_mergeIt) 82 = .ok (.bipush 6, 2) := by decide +kernel
theorem dM_mergeIt_84 : decode (zby mM_mergeIt) 84 = .ok (.if_icmp .le 9, 3) := by decide +kernel
theorem dM_mergeIt_87 : decode (zby mM_mergeIt) 87 = .ok (.aload_n 0, 1) := by decide +kernel
theorem dM_mergeIt_88 : decode (zby mM_mergeIt) 88 = .ok (.iconst 3, 1) := by decide +kernel
theorem dM_mergeIt_89 : decode (zby mM_mergeIt) 89 = .ok (.invokevirtual 90, 3) := by decide +kernel
theorem dM_mergeIt_92 : decode (zby mM_mergeIt) 92 = .ok (.ireturn, 1) := by decide +kernel
theorem dM_mergeIt_93 : decode (zby mM_mergeIt) 93 = .ok (.iconst 0, 1) := by decide +kernel
theorem dM_mergeIt_94 : decode (zby mM_mergeIt) 94 = .ok (.istore 7, 2) := by decide +kernel
theorem dM_mergeIt_96 : decode (zby mM_mergeIt) 96 = .ok (.iload 7, 2) := by decide +kernel
theorem dM_mergeIt_98 : decode (zby mM_mergeIt) 98 = .ok (.aload_n 0, 1) := by decide +kernel
theorem dM_mergeIt_99 : decode (zby mM_mergeIt) 99 = .ok (.getfield 9, 3) := by decide +kernel
theorem dM_mergeIt_102 : decode (zby mM_mergeIt) 102 = .ok (.iload 5, 2) := by decide +kernel
theorem dM_mergeIt_104 : decode (zby mM_mergeIt) 104 = .ok (.iconst 5, 1) := by decide +kernel
theorem dM_mergeIt_105 : decode (zby mM_mergeIt) 105 = .ok (.iadd, 1) := by decide +kernel
theorem dM_mergeIt_106 : decode (zby mM_mergeIt) 106 = .ok (.iaload, 1) := by decide +kernel
theorem dM_mergeIt_107 : decode (zby mM_mergeIt) 107 = .ok (.if_icmp .ge 39, 3) := by decide +kernel
theorem dM_mergeIt_110 : decode (zby mM_mergeIt) 110 = .ok (.aload_n 0, 1) := by decide +kernel
theorem dM_mergeIt_111 : decode (zby mM_mergeIt) 111 = .ok (.iload 4, 2) := by decide +kernel
theorem dM_mergeIt_113 : decode (zby mM_mergeIt) 113 = .ok (.iconst 3, 1) := by decide +kernel
theorem dM_mergeIt_114 : decode (zby mM_mergeIt) 114 = .ok (.aload_n 0, 1) := by decide +kernel
theorem dM_mergeIt_115 : decode (zby mM_mergeIt) 115 = .ok (.iload_n 3, 1) := by decide +kernel
theorem dM_mergeIt_116 : decode (zby mM_mergeIt) 116 = .ok (.iload 7, 2) := by decide +kernel
theorem dM_mergeIt_118 : decode (zby mM_mergeIt) 118 = .ok (.invokevirtual 62, 3) := by decide +kernel
theorem dM_mergeIt_121 : decode (zby mM_mergeIt) 121 = .ok (.invokevirtual 70, 3) := by decide +kernel
theorem dM_mergeIt_124 : decode (zby mM_mergeIt) 124 = .ok (.ifCond .ne 16, 3) := by decide +kernel
theorem dM_mergeIt_127 : decode (zby mM_mergeIt) 127 = .ok (.aload_n 0, 1) := by decide +kernel
theorem dM_mergeIt_128 : decode (zby mM_mergeIt) 128 = .ok (.iload 4, 2) := by decide +kernel
theorem dM_mergeIt_130 : decode (zby mM_mergeIt) 130 = .ok (.aload_n 0, 1) := by decide +kernel
theorem dM_mergeIt_131 : decode (zby mM_mergeIt) 131 = .ok (.iload_n 3, 1) := by decide +kernel
theorem dM_mergeIt_132 : decode (zby mM_mergeIt) 132 = .ok (.iload 7, 2) := by decide +kernel
theorem dM_mergeIt_134 : decode (zby mM_mergeIt) 134 = .ok (.invokevirtual 62, 3) := by decide +kernel
theorem dM_mergeIt_137 : decode (zby mM_mergeIt) 137 = .ok (.invokevirtual 107, 3) := by decide +kernel
theorem dM_mergeIt_140 : decode (zby mM_mergeIt) 140 = .ok (.iinc 7 1, 3) := by decide +kernel
theorem dM_mergeIt_143 : decode (zby mM_mergeIt) 143 = .ok (.goto (-47), 3) := by decide +kernel
theorem dM_mergeIt_146 : decode (zby mM_mergeIt) 146 = .ok (.aload_n 0, 1) := by decide +kernel
theorem dM_mergeIt_147 : decode (zby mM_mergeIt) 147 = .ok (.getfield 9, 3) := by decide +kernel
theorem dM_mergeIt_150 : decode (zby mM_mergeIt) 150 = .ok (.iload 6, 2) := by decide +kernel
theorem dM_mergeIt_152 : decode (zby mM_mergeIt) 152 = .ok (.iconst 1, 1) := by decide +kernel
theorem dM_mergeIt_153 : decode (zby mM_mergeIt) 153 = .ok (.iadd, 1) := by decide +kernel
theorem dM_mergeIt_154 : decode (zby mM_mergeIt) 154 = .ok (.aload_n 0, 1) := by decide +kernel
theorem dM_mergeIt_155 : decode (zby mM_mergeIt) 155 = .ok (.getfield 9, 3) := by decide +kernel
theorem dM_mergeIt_158 : decode (zby mM_mergeIt) 158 = .ok (.iload 5, 2) := by decide +kernel
theorem dM_mergeIt_160 : decode (zby mM_mergeIt) 160 = .ok (.iconst 1, 1) := by decide +kernel
theorem dM_mergeIt_161 : decode (zby mM_mergeIt) 161 = .ok (.iadd, 1) := by decide +kernel
theorem dM_mergeIt_162 : decode (zby mM_mergeIt) 162 = .ok (.iaload, 1) := by decide +kernel
theorem dM_mergeIt_163 : decode (zby mM_mergeIt) 163 = .ok (.aload_n 0, 1) := by decide +kernel
theorem dM_mergeIt_164 : decode (zby mM_mergeIt) 164 = .ok (.getfield 9, 3) := by decide +kernel
theorem dM_mergeIt_167 : decode (zby mM_mergeIt) 167 = .ok (.iload 6, 2) := by decide +kernel
theorem dM_mergeIt_169 : decode (zby mM_mergeIt) 169 = .ok (.iconst 1, 1) := by decide +kernel
theorem dM_mergeIt_170 : decode (zby mM_mergeIt) 170 = .ok (.iadd, 1) := by decide +kernel
theorem dM_mergeIt_171 : decode (zby mM_mergeIt) 171 = .ok (.iaload, 1) := by decide +kernel
theorem dM_mergeIt_172 : decode (zby mM_mergeIt) 172 = .ok (.invokestatic 130, 3) := by decide +kernel
theorem dM_mergeIt_175 : decode (zby mM_mergeIt) 175 = .ok (.iastore, 1) := by decide +kernel
theorem dM_mergeIt_176 : decode (zby mM_mergeIt) 176 = .ok (.aload_n 0, 1) := by decide +kernel
theorem dM_mergeIt_177 : decode (zby mM_mergeIt) 177 = .ok (.getfield 9, 3) := by decide +kernel
theorem dM_mergeIt_180 : decode (zby mM_mergeIt) 180 = .ok (.iload 6, 2) := by decide +kernel
theorem dM_mergeIt_182 : decode (zby mM_mergeIt) 182 = .ok (.iconst 2, 1) := by decide +kernel
theorem dM_mergeIt_183 : decode (zby mM_mergeIt) 183 = .ok (.iadd, 1) := by decide +kernel
theorem dM_mergeIt_184 : decode (zby mM_mergeIt) 184 = .ok (.aload_n 0, 1) := by decide +kernel
theorem dM_mergeIt_185 : decode (zby mM_mergeIt) 185 = .ok (.getfield 9, 3) := by decide +kernel
theorem dM_mergeIt_188 : decode (zby mM_mergeIt) 188 = .ok (.iload 5, 2) := by decide +kernel
theorem dM_mergeIt_190 : decode (zby mM_mergeIt) 190 = .ok (.iconst 2, 1) := by decide +kernel
theorem dM_mergeIt_191 : decode (zby mM_mergeIt) 191 = .ok (.iadd, 1) := by decide +kernel
theorem dM_mergeIt_192 : decode (zby mM_mergeIt) 192 = .ok (.iaload, 1) := by decide +kernel
theorem dM_mergeIt_193 : decode (zby mM_mergeIt) 193 = .ok (.aload_n 0, 1) := by decide +kernel
theorem dM_mergeIt_194 : decode (zby mM_mergeIt) 194 = .ok (.getfield 9, 3) := by decide +kernel
theorem dM_mergeIt_197 : decode (zby mM_mergeIt) 197 = .ok (.iload 6, 2) := by decide +kernel
theorem dM_mergeIt_199 : decode (zby mM_mergeIt) 199 = .ok (.iconst 2, 1) := by decide +kernel
theorem dM_mergeIt_200 : decode (zby mM_mergeIt) 200 = .ok (.iadd, 1) := by decide +kernel
theorem dM_mergeIt_201 : decode (zby mM_mergeIt) 201 = .ok (.iaload, 1) := by decide +kernel
theorem dM_mergeIt_202 : decode (zby mM_mergeIt) 202 = .ok (.invokestatic 80, 3) := by decide +kernel
theorem dM_mergeIt_205 : decode (zby mM_mergeIt) 205 = .ok (.iastore, 1) := by decide +kernel
theorem dM_mergeIt_206 : decode (zby mM_mergeIt) 206 = .ok (.aload_n 0, 1) := by decide +kernel
theorem dM_mergeIt_207 : decode (zby mM_mergeIt) 207 = .ok (.getfield 9, 3) := by decide +kernel
theorem dM_mergeIt_210 : decode (zby mM_mergeIt) 210 = .ok (.iload 6, 2) := by decide +kernel
theorem dM_mergeIt_212 : decode (zby mM_mergeIt) 212 = .ok (.iconst 3, 1) := by decide +kernel
theorem dM_mergeIt_213 : decode (zby mM_mergeIt) 213 = .ok (.iadd, 1) := by decide +kernel
theorem dM_mergeIt_214 : decode (zby mM_mergeIt) 214 = .ok (.dup2, 1) := by decide +kernel
theorem dM_mergeIt_215 : decode (zby mM_mergeIt) 215 = .ok (.iaload, 1) := by decide +kernel
theorem dM_mergeIt_216 : decode (zby mM_mergeIt) 216 = .ok (.aload_n 0, 1) := by decide +kernel
theorem dM_mergeIt_217 : decode (zby mM_mergeIt) 217 = .ok (.getfield 9, 3) := by decide +kernel
theorem dM_mergeIt_220 : decode (zby mM_mergeIt) 220 = .ok (.iload 5, 2) := by decide +kernel
theorem dM_mergeIt_222 : decode (zby mM_mergeIt) 222 = .ok (.iconst 3, 1) := by decide +kernel
theorem dM_mergeIt_223 : decode (zby mM_mergeIt) 223 = .ok (.iadd, 1) := by decide +kernel
theorem dM_mergeIt_224 : decode (zby mM_mergeIt) 224 = .ok (.iaload, 1) := by decide +kernel
theorem dM_mergeIt_225 : decode (zby mM_mergeIt) 225 = .ok (.iadd, 1) := by decide +kernel
theorem dM_mergeIt_226 : decode (zby mM_mergeIt) 226 = .ok (.iastore, 1) := by decide +kernel
theorem dM_mergeIt_227 : decode (zby mM_mergeIt) 227 = .ok (.aload_n 0, 1) := by decide +kernel
theorem dM_mergeIt_228 : decode (zby mM_mergeIt) 228 = .ok (.getfield 9, 3) := by decide +kernel
theorem dM_mergeIt_231 : decode (zby mM_mergeIt) 231 = .ok (.iload 6, 2) := by decide +kernel
theorem dM_mergeIt_233 : decode (zby mM_mergeIt) 233 = .ok (.iconst 5, 1) := by decide +kernel
theorem dM_mergeIt_234 : decode (zby mM_mergeIt) 234 = .ok (.iadd, 1) := by decide +kernel
theorem dM_mergeIt_235 : decode (zby mM_mergeIt) 235 = .ok (.iaload, 1) := by decide +kernel
theorem dM_mergeIt_236 : decode (zby mM_mergeIt) 236 = .ok (.istore 7, 2) := by decide +kernel
theorem dM_mergeIt_238 : decode (zby mM_mergeIt) 238 = .ok (.aload_n 0, 1) := by decide +kernel
theorem dM_mergeIt_239 : decode (zby mM_mergeIt) 239 = .ok (.iload_n 3, 1) := by decide +kernel
theorem dM_mergeIt_240 : decode (zby mM_mergeIt) 240 = .ok (.invokevirtual 117, 3) := by decide +kernel
theorem dM_mergeIt_243 : decode (zby mM_mergeIt) 243 = .ok (.aload_n 0, 1) := by decide +kernel
theorem dM_mergeIt_244 : decode (zby mM_mergeIt) 244 = .ok (.getfield 9, 3) := by decide +kernel
theorem dM_mergeIt_247 : decode (zby mM_mergeIt) 247 = .ok (.iconst 4, 1) := by decide +kernel
theorem dM_mergeIt_248 : decode (zby mM_mergeIt) 248 = .ok (.dup2, 1) := by decide +kernel
theorem dM_mergeIt_249 : decode (zby mM_mergeIt) 249 = .ok (.iaload, 1) := by decide +kernel
theorem dM_mergeIt_250 : decode (zby mM_mergeIt) 250 = .ok (.iconst 1, 1) := by decide +kernel
theorem dM_mergeIt_251 : decode (zby mM_mergeIt) 251 = .ok (.iadd, 1) := by decide +kernel
theorem dM_mergeIt_252 : decode (zby mM_mergeIt) 252 = .ok (.iastore, 1) := by decide +kernel
theorem dM_mergeIt_253 : decode (zby mM_mergeIt) 253 = .ok (.iload 7, 2) := by decide +kernel
theorem dM_mergeIt_255 : decode (zby mM_mergeIt) 255 = .ok (.ireturn, 1) := by decide +kernel
theorem dM_mergedTotal_0 : decode (zby mM_mergedTotal) 0 = .ok (.aload_n 0, 1) := by decide +kernel
theorem dM_mergedTotal_1 : decode (zby mM_mergedTotal) 1 = .ok (.iconst 4, 1) := by decide +kernel
theorem dM_mergedTotal_2 : decode (zby mM_mergedTotal) 2 = .ok (.invokevirtual 154, 3) := by decide +kernel
theorem dM_mergedTotal_5 : decode (zby mM_mergedTotal) 5 = .ok (.ireturn, 1) := by decide +kernel
theorem dM_mostSimilar_0 : decode (zby mM_mostSimilar) 0 = .ok (.aload_n 0, 1) := by decide +kernel
theorem dM_mostSimilar_1 : decode (zby mM_mostSimilar) 1 = .ok (.iconst 0, 1) := by decide +kernel
theorem dM_mostSimilar_2 : decode (zby mM_mostSimilar) 2 = .ok (.putfield 45, 3) := by decide +kernel
theorem dM_mostSimilar_5 : decode (zby mM_mostSimilar) 5 = .ok (.aload_n 0, 1) := by decide +kernel
theorem dM_mostSimilar_6 : decode (zby mM_mostSimilar) 6 = .ok (.iload_n 1, 1) := by decide +kernel
theorem dM_mostSimilar_7 : decode (zby mM_mostSimilar) 7 = .ok (.invokevirtual 102, 3) := by decide +kernel
theorem dM_mostSimilar_10 : decode (zby mM_mostSimilar) 10 = .ok (.istore_n 2, 1) := by decide +kernel
theorem dM_mostSimilar_11 : decode (zby mM_mostSimilar) 11 = .ok (.iload_n 2, 1) := by decide +kernel
theorem dM_mostSimilar_12 : decode (zby mM_mostSimilar) 12 = .ok (.iconst (-1), 1) := by decide +kernel
theorem dM_mostSimilar_13 : decode (zby mM_mostSimilar) 13 = .ok (.if_icmp .eq 13, 3) := by decide +kernel
theorem dM_mostSimilar_16 : decode (zby mM_mostSimilar) 16 = .ok (.aload_n 0, 1) := by decide +kernel
theorem dM_mostSimilar_17 : decode (zby mM_mostSimilar) 17 = .ok (.getfield 9, 3) := by decide +kernel
theorem dM_mostSimilar_20 : decode (zby mM_mostSimilar) 20 = .ok (.iconst 0, 1) := by decide +kernel
theorem dM_mostSimilar_21 : decode (zby mM_mostSimilar) 21 = .ok (.iaload, 1) := by decide +kernel
theorem dM_mostSimilar_22 : decode (zby mM_mostSimilar) 22 = .ok (.iconst 1, 1) := by decide +kernel
theorem dM_mostSimilar_23 : decode (zby mM_mostSimilar) 23 = .ok (.if_icmp .ne 9, 3) := by decide +kernel
theorem dM_mostSimilar_26 : decode (zby mM_mostSimilar) 26 = .ok (.aload_n 0, 1) := by decide +kernel
theorem dM_mostSimilar_27 : decode (zby mM_mostSimilar) 27 = .ok (.iconst 1, 1) := by decide +kernel
theorem dM_mostSimilar_28 : decode (zby mM_mostSimilar) 28 = .ok (.invokevirtual 90, 3) := by decide +kernel
theorem dM_mostSimilar_31 : decode (zby mM_mostSimilar) 31 = .ok (.ireturn, 1) := by decide +kernel
theorem dM_mostSimilar_32 : decode (zby mM_mostSimilar) 32 = .ok (.iconst (-1), 1) := by decide +kernel
theorem dM_mostSimilar_33 : decode (zby mM_mostSimilar) 33 = .ok (.istore_n 3, 1) := by decide +kernel
theorem dM_mostSimilar_34 : decode (zby mM_mostSimilar) 34 = .ok (.iconst 0, 1) := by decide +kernel
theorem dM_mostSimilar_35 : decode (zby mM_mostSimilar) 35 = .ok (.istore 4, 2) := by decide +kernel
theorem dM_mostSimilar_37 : decode (zby mM_mostSimilar) 37 = .ok (.iload 4, 2) := by decide +kernel
theorem dM_mostSimilar_39 : decode (zby mM_mostSimilar) 39 = .ok (.aload_n 0, 1) := by decide +kernel
theorem dM_mostSimilar_40 : decode (zby mM_mostSimilar) 40 = .ok (.getfield 9, 3) := by decide +kernel
theorem dM_mostSimilar_43 : decode (zby mM_mostSimilar) 43 = .ok (.iconst 0, 1) := by decide +kernel
theorem dM_mostSimilar_44 : decode (zby mM_mostSimilar) 44 = .ok (.iaload, 1) := by decide +kernel
theorem dM_mostSimilar_45 : decode (zby mM_mostSimilar) 45 = .ok (.if_icmp .ge 55, 3) := by decide +kernel
theorem dM_mostSimilar_48 : decode (zby mM_mostSimilar) 48 = .ok (.iload 4, 2) := by decide +kernel
theorem dM_mostSimilar_50 : decode (zby mM_mostSimilar) 50 = .ok (.iload_n 2, 1) := by decide +kernel
theorem dM_mostSimilar_51 : decode (zby mM_mostSimilar) 51 = .ok (.if_icmp .eq 28, 3) := by decide +kernel
theorem dM_mostSimilar_54 : decode (zby mM_mostSimilar) 54 = .ok (.iload_n 3, 1) := by decide +kernel
theorem dM_mostSimilar_55 : decode (zby mM_mostSimilar) 55 = .ok (.iconst (-1), 1) := by decide +kernel
theorem dM_mostSimilar_56 : decode (zby mM_mostSimilar) 56 = .ok (.if_icmp .eq 19, 3) := by decide +kernel
theorem dM_mostSimilar_59 : decode (zby mM_mostSimilar) 59 = .ok (.aload_n 0, 1) := by decide +kernel
theorem dM_mostSimilar_60 : decode (zby mM_mostSimilar) 60 = .ok (.iload_n 2, 1) := by decide +kernel
theorem dM_mostSimilar_61 : decode (zby mM_mostSimilar) 61 = .ok (.iload 4, 2) := by decide +kernel
theorem dM_mostSimilar_63 : decode (zby mM_mostSimilar) 63 = .ok (.invokevirtual 127, 3) := by decide +kernel
theorem dM_mostSimilar_66 : decode (zby mM_mostSimilar) 66 = .ok (.aload_n 0, 1) := by decide +kernel
theorem dM_mostSimilar_67 : decode (zby mM_mostSimilar) 67 = .ok (.iload_n 2, 1) := by decide +kernel
theorem dM_mostSimilar_68 : decode (zby mM_mostSimilar) 68 = .ok (.iload_n 3, 1) := by decide +kernel
theorem dM_mostSimilar_69 : decode (zby mM_mostSimilar) 69 = .ok (.invokevirtual 127, 3) := by decide +kernel
theorem dM_mostSimilar_72 : decode (zby mM_mostSimilar) 72 = .ok (.if_icmp .le 7, 3) := by decide +kernel
theorem dM_mostSimilar_75 : decode (zby mM_mostSimilar) 75 = .ok (.iconst 1, 1) := by decide +kernel
theorem dM_mostSimilar_76 : decode (zby mM_mostSimilar) 76 = .ok (.goto 4, 3) := by decide +kernel
theorem dM_mostSimilar_79 : decode (zby mM_mostSimilar) 79 = .ok (.iconst 0, 1) := by decide +kernel
theorem dM_mostSimilar_80 : decode (zby mM_mostSimilar) 80 = .ok (.istore 5, 2) := by decide +kernel
theorem dM_mostSimilar_82 : decode (zby mM_mostSimilar) 82 = .ok (.iload 5, 2) := by decide +kernel
theorem dM_mostSimilar_84 : decode (zby mM_mostSimilar) 84 = .ok (.ifCond .eq 8, 3) := by decide +kernel
theorem dM_mostSimilar_87 : decode (zby mM_mostSimilar) 87 = .ok (.iload 4, 2) := by decide +kernel
theorem dM_mostSimilar_89 : decode (zby mM_mostSimilar) 89 = .ok (.goto 4, 3) := by decide +kernel
theorem dM_mostSimilar_92 : decode (zby mM_mostSimilar) 92 = .ok (.iload_n 3, 1) := by decide +kernel
theorem dM_mostSimilar_93 : decode (zby mM_mostSimilar) 93 = .ok (.istore_n 3, 1) := by decide +kernel
theorem dM_mostSimilar_94 : decode (zby mM_mostSimilar) 94 = .ok (.iinc 4 1, 3) := by decide +kernel
theorem dM_mostSimilar_97 : decode (zby mM_mostSimilar) 97 = .ok (.goto (-60), 3) := by decide +kernel
theorem dM_mostSimilar_100 : decode (zby mM_mostSimilar) 100 = .ok (.aload_n 0, 1) := by decide +kernel
theorem dM_mostSimilar_101 : decode (zby mM_mostSimilar) 101 = .ok (.getfield 9, 3) := by decide +kernel
theorem dM_mostSimilar_104 : decode (zby mM_mostSimilar) 104 = .ok (.iload_n 3, 1) := by decide +kernel
theorem dM_mostSimilar_105 : decode (zby mM_mostSimilar) 105 = .ok (.invokestatic 51, 3) := by decide +kernel
theorem dM_mostSimilar_108 : decode (zby mM_mostSimilar) 108 = .ok (.iaload, 1) := by decide +kernel
theorem dM_mostSimilar_109 : decode (zby mM_mostSimilar) 109 = .ok (.ireturn, 1) := by decide +kernel
theorem dM_nextDigits_0 : decode (zby mM_nextDigits) 0 = .ok (.aload_n 0, 1) := by decide +kernel
theorem dM_nextDigits_1 : decode (zby mM_nextDigits) 1 = .ok (.iconst 0, 1) := by decide +kernel
theorem dM_nextDigits_2 : decode (zby mM_nextDigits) 2 = .ok (.putfield 45, 3) := by decide +kernel
theorem dM_nextDigits_5 : decode (zby mM_nextDigits) 5 = .ok (.iload_n 1, 1) := by decide +kernel
theorem dM_nextDigits_6 : decode (zby mM_nextDigits) 6 = .ok (.iload_n 2, 1) := by decide +kernel
theorem dM_nextDigits_7 : decode (zby mM_nextDigits) 7 = .ok (.iconst 2, 1) := by decide +kernel
theorem dM_nextDigits_8 : decode (zby mM_nextDigits) 8 = .ok (.invokestatic 143, 3) := by decide +kernel
theorem dM_nextDigits_11 : decode (zby mM_nextDigits) 11 = .ok (.ifCond .ne 9, 3) := by decide +kernel
theorem dM_nextDigits_14 : decode (zby mM_nextDigits) 14 = .ok (.aload_n 0, 1) := by decide +kernel
theorem dM_nextDigits_15 : decode (zby mM_nextDigits) 15 = .ok (.iconst 1, 1) := by decide +kernel
theorem dM_nextDigits_16 : decode (zby mM_nextDigits) 16 = .ok (.invokevirtual 90, 3) := by decide +kernel
theorem dM_nextDigits_19 : decode (zby mM_nextDigits) 19 = .ok (.ireturn, 1) := by decide +kernel
theorem dM_nextDigits_20 : decode (zby mM_nextDigits) 20 = .ok (.iconst 0, 1) := by decide +kernel
theorem dM_nextDigits_21 : decode (zby mM_nextDigits) 21 = .ok (.istore_n 3, 1) := by decide +kernel
theorem dM_nextDigits_22 : decode (zby mM_nextDigits) 22 = .ok (.iconst 0, 1) := by decide +kernel
theorem dM_nextDigits_23 : decode (zby mM_nextDigits) 23 = .ok (.istore 4, 2) := by decide +kernel
theorem dM_nextDigits_25 : decode (zby mM_nextDigits) 25 = .ok (.iload 4, 2) := by decide +kernel
theorem dM_nextDigits_27 : decode (zby mM_nextDigits) 27 = .ok (.bipush 10, 2) := by decide +kernel
theorem dM_nextDigits_29 : decode (zby mM_nextDigits) 29 = .ok (.if_icmp .ge 34, 3) := by decide +kernel
theorem dM_nextDigits_32 : decode (zby mM_nextDigits) 32 = .ok (.iload_n 3, 1) := by decide +kernel
theorem dM_nextDigits_33 : decode (zby mM_nextDigits) 33 = .ok (.aload_n 0, 1) := by decide +kernel
theorem dM_nextDigits_34 : decode (zby mM_nextDigits) 34 = .ok (.iload_n 1, 1) := by decide +kernel
theorem dM_nextDigits_35 : decode (zby mM_nextDigits) 35 = .ok (.iconst 1, 1) := by decide +kernel
theorem dM_nextDigits_36 : decode (zby mM_nextDigits) 36 = .ok (.iadd, 1) := by decide +kernel
theorem dM_nextDigits_37 : decode (zby mM_nextDigits) 37 = .ok (.bipush 10, 2) := by decide +kernel
theorem dM_nextDigits_39 : decode (zby mM_nextDigits) 39 = .ok (.iload_n 2, 1) := by decide +kernel
theorem dM_nextDigits_40 : decode (zby mM_nextDigits) 40 = .ok (.imul, 1) := by decide +kernel
theorem dM_nextDigits_41 : decode (zby mM_nextDigits) 41 = .ok (.iload 4, 2) := by decide +kernel
theorem dM_nextDigits_43 : decode (zby mM_nextDigits) 43 = .ok (.iadd, 1) := by decide +kernel
theorem dM_nextDigits_44 : decode (zby mM_nextDigits) 44 = .ok (.invokevirtual 77, 3) := by decide +kernel
theorem dM_nextDigits_47 : decode (zby mM_nextDigits) 47 = .ok (.ifCond .le 7, 3) := by decide +kernel
theorem dM_nextDigits_50 : decode (zby mM_nextDigits) 50 = .ok (.iconst 1, 1) := by decide +kernel
theorem dM_nextDigits_51 : decode (zby mM_nextDigits) 51 = .ok (.goto 4, 3) := by decide +kernel
theorem dM_nextDigits_54 : decode (zby mM_nextDigits) 54 = .ok (.iconst 0, 1) := by decide +kernel
theorem dM_nextDigits_55 : decode (zby mM_nextDigits) 55 = .ok (.iadd, 1) := by decide +kernel
theorem dM_nextDigits_56 : decode (zby mM_nextDigits) 56 = .ok (.istore_n 3, 1) := by decide +kernel
theorem dM_nextDigits_57 : decode (zby mM_nextDigits) 57 = .ok (.iinc 4 1, 3) := by decide +kernel
theorem dM_nextDigits_60 : decode (zby mM_nextDigits) 60 = .ok (.goto (-35), 3) := by decide +kernel
theorem dM_nextDigits_63 : decode (zby mM_nextDigits) 63 = .ok (.iload_n 3, 1) := by decide +kernel
theorem dM_nextDigits_64 : decode (zby mM_nextDigits) 64 = .ok (.ireturn, 1) := by decide +kernel
theorem dM_number_0 : decode (zby mM_number) 0 = .ok (.aload_n 0, 1) := by decide +kernel
theorem dM_number_1 : decode (zby mM_number) 1 = .ok (.invokevirtual 219, 3) := by decide +kernel
theorem dM_number_4 : decode (zby mM_number) 4 = .ok (.istore_n 1, 1) := by decide +kernel
theorem dM_number_5 : decode (zby mM_number) 5 = .ok (.aload_n 0, 1) := by decide +kernel
theorem dM_number_6 : decode (zby mM_number) 6 = .ok (.iconst 1, 1) := by decide +kernel
theorem dM_number_7 : decode (zby mM_number) 7 = .ok (.putfield 222, 3) := by decide +kernel
theorem dM_number_10 : decode (zby mM_number) 10 = .ok (.aload_n 0, 1) := by decide +kernel
theorem dM_number_11 : decode (zby mM_number) 11 = .ok (.getfield 222, 3) := by decide +kernel
theorem dM_number_14 : decode (zby mM_number) 14 = .ok (.iconst 3, 1) := by decide +kernel
theorem dM_number_15 : decode (zby mM_number) 15 = .ok (.if_icmp .ge 50, 3) := by decide +kernel
theorem dM_number_18 : decode (zby mM_number) 18 = .ok (.aload_n 0, 1) := by decide +kernel
theorem dM_number_19 : decode (zby mM_number) 19 = .ok (.getfield 208, 3) := by decide +kernel
theorem dM_number_22 : decode (zby mM_number) 22 = .ok (.ifCond .ne 43, 3) := by decide +kernel
theorem dM_number_25 : decode (zby mM_number) 25 = .ok (.aload_n 0, 1) := by decide +kernel
theorem dM_number_26 : decode (zby mM_number) 26 = .ok (.invokevirtual 212, 3) := by decide +kernel
theorem dM_number_29 : decode (zby mM_number) 29 = .ok (.i2l, 1) := by decide +kernel
theorem dM_number_30 : decode (zby mM_number) 30 = .ok (.ldc2_w 215, 3) := by decide +kernel
theorem dM_number_33 : decode (zby mM_number) 33 = .ok (.ldc2_w 217, 3) := by decide +kernel
theorem dM_number_36 : decode (zby mM_number) 36 = .ok (.invokestatic 55, 3) := by decide +kernel
theorem dM_number_39 : decode (zby mM_number) 39 = .ok (.ifCond .eq 26, 3) := by decide +kernel
theorem dM_number_42 : decode (zby mM_number) 42 = .ok (.bipush 10, 2) := by decide +kernel
theorem dM_number_44 : decode (zby mM_number) 44 = .ok (.iload_n 1, 1) := by decide +kernel
theorem dM_number_45 : decode (zby mM_number) 45 = .ok (.imul, 1) := by decide +kernel
theorem dM_number_46 : decode (zby mM_number) 46 = .ok (.aload_n 0, 1) := by decide +kernel
theorem dM_number_47 : decode (zby mM_number) 47 = .ok (.invokevirtual 219, 3) := by decide +kernel
theorem dM_number_50 : decode (zby mM_number) 50 = .ok (.iadd, 1) := by decide +kernel
theorem dM_number_51 : decode (zby mM_number) 51 = .ok (.istore_n 1, 1) := by decide +kernel
theorem dM_number_52 : decode (zby mM_number) 52 = .ok (.aload_n 0, 1) := by decide +kernel
theorem dM_number_53 : decode (zby mM_number) 53 = .ok (.dup, 1) := by decide +kernel
theorem dM_number_54 : decode (zby mM_number) 54 = .ok (.getfield 222, 3) := by decide +kernel
theorem dM_number_57 : decode (zby mM_number) 57 = .ok (.iconst 1, 1) := by decide +kernel
theorem dM_number_58 : decode (zby mM_number) 58 = .ok (.iadd, 1) := by decide +kernel
theorem dM_number_59 : decode (zby mM_number) 59 = .ok (.putfield 222, 3) := by decide +kernel
theorem dM_number_62 : decode (zby mM_number) 62 = .ok (.goto (-52), 3) := by decide +kernel
theorem dM_number_65 : decode (zby mM_number) 65 = .ok (.iload_n 1, 1) := by decide +kernel
theorem dM_number_66 : decode (zby mM_number) 66 = .ok (.ireturn, 1) := by decide +kernel
theorem dM_numberBehind_0 : decode (zby mM_numberBehind) 0 = .ok (.aload_n 0, 1) := by decide +kernel
theorem dM_numberBehind_1 : decode (zby mM_numberBehind) 1 = .ok (.bipush 32, 2) := by decide +kernel
theorem dM_numberBehind_3 : decode (zby mM_numberBehind) 3 = .ok (.invokevirtual 225, 3) := by decide +kernel
theorem dM_numberBehind_6 : decode (zby mM_numberBehind) 6 = .ok (.aload_n 0, 1) := by decide +kernel
theorem dM_numberBehind_7 : decode (zby mM_numberBehind) 7 = .ok (.invokevirtual 228, 3) := by decide +kernel
theorem dM_numberBehind_10 : decode (zby mM_numberBehind) 10 = .ok (.ireturn, 1) := by decide +kernel
theorem dM_ofEntry_0 : decode (zby mM_ofEntry) 0 = .ok (.aload_n 0, 1) := by decide +kernel
theorem dM_ofEntry_1 : decode (zby mM_ofEntry) 1 = .ok (.iconst 0, 1) := by decide +kernel
theorem dM_ofEntry_2 : decode (zby mM_ofEntry) 2 = .ok (.putfield 45, 3) := by decide +kernel
theorem dM_ofEntry_5 : decode (zby mM_ofEntry) 5 = .ok (.aload_n 0, 1) := by decide +kernel
theorem dM_ofEntry_6 : decode (zby mM_ofEntry) 6 = .ok (.iload_n 1, 1) := by decide +kernel
theorem dM_ofEntry_7 : decode (zby mM_ofEntry) 7 = .ok (.invokevirtual 102, 3) := by decide +kernel
theorem dM_ofEntry_10 : decode (zby mM_ofEntry) 10 = .ok (.iconst (-1), 1) := by decide +kernel
theorem dM_ofEntry_11 : decode (zby mM_ofEntry) 11 = .ok (.if_icmp .ne 11, 3) := by decide +kernel
theorem dM_ofEntry_14 : decode (zby mM_ofEntry) 14 = .ok (.aload_n 0, 1) := by decide +kernel
theorem dM_ofEntry_15 : decode (zby mM_ofEntry) 15 = .ok (.iconst 1, 1) := by decide +kernel
theorem dM_ofEntry_16 : decode (zby mM_ofEntry) 16 = .ok (.invokevirtual 90, 3) := by decide +kernel
theorem dM_ofEntry_19 : decode (zby mM_ofEntry) 19 = .ok (.goto 18, 3) := by decide +kernel
theorem dM_ofEntry_22 : decode (zby mM_ofEntry) 22 = .ok (.aload_n 0, 1) := by decide +kernel
theorem dM_ofEntry_23 : decode (zby mM_ofEntry) 23 = .ok (.getfield 9, 3) := by decide +kernel
theorem dM_ofEntry_26 : decode (zby mM_ofEntry) 26 = .ok (.aload_n 0, 1) := by decide +kernel
theorem dM_ofEntry_27 : decode (zby mM_ofEntry) 27 = .ok (.iload_n 1, 1) := by decide +kernel
theorem dM_ofEntry_28 : decode (zby mM_ofEntry) 28 = .ok (.invokevirtual 102, 3) := by decide +kernel
theorem dM_ofEntry_31 : decode (zby mM_ofEntry) 31 = .ok (.invokestatic 51, 3) := by decide +kernel
theorem dM_ofEntry_34 : decode (zby mM_ofEntry) 34 = .ok (.iload_n 2, 1) := by decide +kernel
theorem dM_ofEntry_35 : decode (zby mM_ofEntry) 35 = .ok (.iadd, 1) := by decide +kernel
theorem dM_ofEntry_36 : decode (zby mM_ofEntry) 36 = .ok (.iaload, 1) := by decide +kernel
theorem dM_ofEntry_37 : decode (zby mM_ofEntry) 37 = .ok (.ireturn, 1) := by decide +kernel
theorem dM_pass_0 : decode (zby mM_pass) 0 = .ok (.aload_n 0, 1) := by decide +kernel
theorem dM_pass_1 : decode (zby mM_pass) 1 = .ok (.invokevirtual 93, 3) := by decide +kernel
theorem dM_pass_4 : decode (zby mM_pass) 4 = .ok (.aload_n 0, 1) := by decide +kernel
theorem dM_pass_5 : decode (zby mM_pass) 5 = .ok (.aload_n 0, 1) := by decide +kernel
theorem dM_pass_6 : decode (zby mM_pass) 6 = .ok (.iload_n 1, 1) := by decide +kernel
theorem dM_pass_7 : decode (zby mM_pass) 7 = .ok (.invokevirtual 151, 3) := by decide +kernel
theorem dM_pass_10 : decode (zby mM_pass) 10 = .ok (.invokevirtual 99, 3) := by decide +kernel
theorem dM_pass_13 : decode (zby mM_pass) 13 = .ok (.ireturn, 1) := by decide +kernel
theorem dM_passIt_0 : decode (zby mM_passIt) 0 = .ok (.iload_n 1, 1) := by decide +kernel
theorem dM_passIt_1 : decode (zby mM_passIt) 1 = .ok (.i2l, 1) := by decide +kernel
theorem dM_passIt_2 : decode (zby mM_passIt) 2 = .ok (.lconst 1, 1) := by decide +kernel
theorem dM_passIt_3 : decode (zby mM_passIt) 3 = .ok (.ldc2_w 149, 3) := by decide +kernel
theorem dM_passIt_6 : decode (zby mM_passIt) 6 = .ok (.invokestatic 55, 3) := by decide +kernel
theorem dM_passIt_9 : decode (zby mM_passIt) 9 = .ok (.ifCond .ne 9, 3) := by decide +kernel
theorem dM_passIt_12 : decode (zby mM_passIt) 12 = .ok (.aload_n 0, 1) := by decide +kernel
theorem dM_passIt_13 : decode (zby mM_passIt) 13 = .ok (.iconst 1, 1) := by decide +kernel
theorem dM_passIt_14 : decode (zby mM_passIt) 14 = .ok (.invokevirtual 90, 3) := by decide +kernel
theorem dM_passIt_17 : decode (zby mM_passIt) 17 = .ok (.ireturn, 1) := by decide +kernel
theorem dM_passIt_18 : decode (zby mM_passIt) 18 = .ok (.aload_n 0, 1) := by decide +kernel
theorem dM_passIt_19 : decode (zby mM_passIt) 19 = .ok (.getfield 9, 3) := by decide +kernel
theorem dM_passIt_22 : decode (zby mM_passIt) 22 = .ok (.iconst 5, 1) := by decide +kernel
theorem dM_passIt_23 : decode (zby mM_passIt) 23 = .ok (.iaload, 1) := by decide +kernel
theorem dM_passIt_24 : decode (zby mM_passIt) 24 = .ok (.istore_n 2, 1) := by decide +kernel
theorem dM_passIt_25 : decode (zby mM_passIt) 25 = .ok (.iconst 0, 1) := by decide +kernel
theorem dM_passIt_26 : decode (zby mM_passIt) 26 = .ok (.istore_n 3, 1) := by decide +kernel
theorem dM_passIt_27 : decode (zby mM_passIt) 27 = .ok (.iload_n 3, 1) := by decide +kernel
theorem dM_passIt_28 : decode (zby mM_passIt) 28 = .ok (.iload_n 1, 1) := by decide +kernel
theorem dM_passIt_29 : decode (zby mM_passIt) 29 = .ok (.if_icmp .ge 105, 3) := by decide +kernel
theorem dM_passIt_32 : decode (zby mM_passIt) 32 = .ok (.iconst 0, 1) := by decide +kernel
theorem dM_passIt_33 : decode (zby mM_passIt) 33 = .ok (.istore 4, 2) := by decide +kernel
theorem dM_passIt_35 : decode (zby mM_passIt) 35 = .ok (.iload 4, 2) := by decide +kernel
theorem dM_passIt_37 : decode (zby mM_passIt) 37 = .ok (.aload_n 0, 1) := by decide +kernel
theorem dM_passIt_38 : decode (zby mM_passIt) 38 = .ok (.getfield 9, 3) := by decide +kernel
theorem dM_passIt_41 : decode (zby mM_passIt) 41 = .ok (.iconst 0, 1) := by decide +kernel
theorem dM_passIt_42 : decode (zby mM_passIt) 42 = .ok (.iaload, 1) := by decide +kernel
theorem dM_passIt_43 : decode (zby mM_passIt) 43 = .ok (.if_icmp .ge 25, 3) := by decide +kernel
theorem dM_passIt_46 : decode (zby mM_passIt) 46 = .ok (.aload_n 0, 1) := by decide +kernel
theorem dM_passIt_47 : decode (zby mM_passIt) 47 = .ok (.getfield 9, 3) := by decide +kernel
theorem dM_passIt_50 : decode (zby mM_passIt) 50 = .ok (.iload 4, 2) := by decide +kernel
theorem dM_passIt_52 : decode (zby mM_passIt) 52 = .ok (.invokestatic 51, 3) := by decide +kernel
theorem dM_passIt_55 : decode (zby mM_passIt) 55 = .ok (.iconst 2, 1) := by decide +kernel
theorem dM_passIt_56 : decode (zby mM_passIt) 56 = .ok (.iadd, 1) := by decide +kernel
theorem dM_passIt_57 : decode (zby mM_passIt) 57 = .ok (.dup2, 1) := by decide +kernel
theorem dM_passIt_58 : decode (zby mM_passIt) 58 = .ok (.iaload, 1) := by decide +kernel
theorem dM_passIt_59 : decode (zby mM_passIt) 59 = .ok (.iconst 1, 1) := by decide +kernel
theorem dM_passIt_60 : decode (zby mM_passIt) 60 = .ok (.iadd, 1) := by decide +kernel
theorem dM_passIt_61 : decode (zby mM_passIt) 61 = .ok (.iastore, 1) := by decide +kernel
theorem dM_passIt_62 : decode (zby mM_passIt) 62 = .ok (.iinc 4 1, 3) := by decide +kernel
theorem dM_passIt_65 : decode (zby mM_passIt) 65 = .ok (.goto (-30), 3) := by decide +kernel
theorem dM_passIt_68 : decode (zby mM_passIt) 68 = .ok (.iconst 0, 1) := by decide +kernel
theorem dM_passIt_69 : decode (zby mM_passIt) 69 = .ok (.istore 4, 2) := by decide +kernel
theorem dM_passIt_71 : decode (zby mM_passIt) 71 = .ok (.iload 4, 2) := by decide +kernel
theorem dM_passIt_73 : decode (zby mM_passIt) 73 = .ok (.aload_n 0, 1) := by decide +kernel
theorem dM_passIt_74 : decode (zby mM_passIt) 74 = .ok (.getfield 9, 3) := by decide +kernel
theorem dM_passIt_77 : decode (zby mM_passIt) 77 = .ok (.iconst 0, 1) := by decide +kernel
theorem dM_passIt_78 : decode (zby mM_passIt) 78 = .ok (.iaload, 1) := by decide +kernel
theorem dM_passIt_79 : decode (zby mM_passIt) 79 = .ok (.if_icmp .ge 49, 3) := by decide +kernel
theorem dM_passIt_82 : decode (zby mM_passIt) 82 = .ok (.aload_n 0, 1) := by decide +kernel
theorem dM_passIt_83 : decode (zby mM_passIt) 83 = .ok (.getfield 9, 3) := by decide +kernel
theorem dM_passIt_86 : decode (zby mM_passIt) 86 = .ok (.iload 4, 2) := by decide +kernel
theorem dM_passIt_88 : decode (zby mM_passIt) 88 = .ok (.invokestatic 51, 3) := by decide +kernel
theorem dM_passIt_91 : decode (zby mM_passIt) 91 = .ok (.iconst 2, 1) := by decide +kernel
theorem dM_passIt_92 : decode (zby mM_passIt) 92 = .ok (.iadd, 1) := by decide +kernel
theorem dM_passIt_93 : decode (zby mM_passIt) 93 = .ok (.iaload, 1) := by decide +kernel
theorem dM_passIt_94 : decode (zby mM_passIt) 94 = .ok (.aload_n 0, 1) := by decide +kernel
theorem dM_passIt_95 : decode (zby mM_passIt) 95 = .ok (.iload 4, 2) := by decide +kernel
theorem dM_passIt_97 : decode (zby mM_passIt) 97 = .ok (.invokevirtual 85, 3) := by decide +kernel
theorem dM_passIt_100 : decode (zby mM_passIt) 100 = .ok (.if_icmp .le 22, 3) := by decide +kernel
theorem dM_passIt_103 : decode (zby mM_passIt) 103 = .ok (.aload_n 0, 1) := by decide +kernel
theorem dM_passIt_104 : decode (zby mM_passIt) 104 = .ok (.iload 4, 2) := by decide +kernel
theorem dM_passIt_106 : decode (zby mM_passIt) 106 = .ok (.invokevirtual 117, 3) := by decide +kernel
theorem dM_passIt_109 : decode (zby mM_passIt) 109 = .ok (.aload_n 0, 1) := by decide +kernel
theorem dM_passIt_110 : decode (zby mM_passIt) 110 = .ok (.getfield 9, 3) := by decide +kernel
theorem dM_passIt_113 : decode (zby mM_passIt) 113 = .ok (.iconst 5, 1) := by decide +kernel
theorem dM_passIt_114 : decode (zby mM_passIt) 114 = .ok (.dup2, 1) := by decide +kernel
theorem dM_passIt_115 : decode (zby mM_passIt) 115 = .ok (.iaload, 1) := by decide +kernel
theorem dM_passIt_116 : decode (zby mM_passIt) 116 = .ok (.iconst 1, 1) := by decide +kernel
theorem dM_passIt_117 : decode (zby mM_passIt) 117 = .ok (.iadd, 1) := by decide +kernel
theorem dM_passIt_118 : decode (zby mM_passIt) 118 = .ok (.iastore, 1) := by decide +kernel
theorem dM_passIt_119 : decode (zby mM_passIt) 119 = .ok (.goto (-48), 3) := by decide +kernel
theorem dM_passIt_122 : decode (zby mM_passIt) 122 = .ok (.iinc 4 1, 3) := by decide +kernel
theorem dM_passIt_125 : decode (zby mM_passIt) 125 = .ok (.goto (-54), 3) := by decide +kernel
theorem dM_passIt_128 : decode (zby mM_passIt) 128 = .ok (.iinc 3 1, 3) := by decide +kernel
theorem dM_passIt_131 : decode (zby mM_passIt) 131 = .ok (.goto (-104), 3) := by decide +kernel
theorem dM_passIt_134 : decode (zby mM_passIt) 134 = .ok (.aload_n 0, 1) := by decide +kernel
theorem dM_passIt_135 : decode (zby mM_passIt) 135 = .ok (.getfield 9, 3) := by decide +kernel
theorem dM_passIt_138 : decode (zby mM_passIt) 138 = .ok (.iconst 5, 1) := by decide +kernel
theorem dM_passIt_139 : decode (zby mM_passIt) 139 = .ok (.iaload, 1) := by decide +kernel
theorem dM_passIt_140 : decode (zby mM_passIt) 140 = .ok (.iload_n 2, 1) := by decide +kernel
theorem dM_passIt_141 : decode (zby mM_passIt) 141 = .ok (.isub, 1) := by decide +kernel
theorem dM_passIt_142 : decode (zby mM_passIt) 142 = .ok (.ireturn, 1) := by decide +kernel
theorem dM_power_0 : decode (zby mM_power) 0 = .ok (.iconst 1, 1) := by decide +kernel
theorem dM_power_1 : decode (zby mM_power) 1 = .ok (.istore_n 1, 1) := by decide +kernel
theorem dM_power_2 : decode (zby mM_power) 2 = .ok (.iconst 0, 1) := by decide +kernel
theorem dM_power_3 : decode (zby mM_power) 3 = .ok (.istore_n 2, 1) := by decide +kernel
theorem dM_power_4 : decode (zby mM_power) 4 = .ok (.iload_n 2, 1) := by decide +kernel
theorem dM_power_5 : decode (zby mM_power) 5 = .ok (.iload_n 0, 1) := by decide +kernel
theorem dM_power_6 : decode (zby mM_power) 6 = .ok (.if_icmp .ge 14, 3) := by decide +kernel
theorem dM_power_9 : decode (zby mM_power) 9 = .ok (.iload_n 1, 1) := by decide +kernel
theorem dM_power_10 : decode (zby mM_power) 10 = .ok (.bipush 10, 2) := by decide +kernel
theorem dM_power_12 : decode (zby mM_power) 12 = .ok (.imul, 1) := by decide +kernel
theorem dM_power_13 : decode (zby mM_power) 13 = .ok (.istore_n 1, 1) := by decide +kernel
theorem dM_power_14 : decode (zby mM_power) 14 = .ok (.iinc 2 1, 3) := by decide +kernel
theorem dM_power_17 : decode (zby mM_power) 17 = .ok (.goto (-13), 3) := by decide +kernel
theorem dM_power_20 : decode (zby mM_power) 20 = .ok (.iload_n 1, 1) := by decide +kernel
theorem dM_power_21 : decode (zby mM_power) 21 = .ok (.ireturn, 1) := by decide +kernel
theorem dM_puts_0 : decode (zby mM_puts) 0 = .ok (.iload_n 1, 1) := by decide +kernel
theorem dM_puts_1 : decode (zby mM_puts) 1 = .ok (.invokestatic 51, 3) := by decide +kernel
theorem dM_puts_4 : decode (zby mM_puts) 4 = .ok (.istore_n 3, 1) := by decide +kernel
theorem dM_puts_5 : decode (zby mM_puts) 5 = .ok (.aload_n 0, 1) := by decide +kernel
theorem dM_puts_6 : decode (zby mM_puts) 6 = .ok (.getfield 9, 3) := by decide +kernel
theorem dM_puts_9 : decode (zby mM_puts) 9 = .ok (.iload_n 3, 1) := by decide +kernel
theorem dM_puts_10 : decode (zby mM_puts) 10 = .ok (.iconst 5, 1) := by decide +kernel
theorem dM_puts_11 : decode (zby mM_puts) 11 = .ok (.iadd, 1) := by decide +kernel
theorem dM_puts_12 : decode (zby mM_puts) 12 = .ok (.iaload, 1) := by decide +kernel
theorem dM_puts_13 : decode (zby mM_puts) 13 = .ok (.istore 4, 2) := by decide +kernel
theorem dM_puts_15 : decode (zby mM_puts) 15 = .ok (.iload 4, 2) := by decide +kernel
theorem dM_puts_17 : decode (zby mM_puts) 17 = .ok (.ifCond .le 48, 3) := by decide +kernel
theorem dM_puts_20 : decode (zby mM_puts) 20 = .ok (.aload_n 0, 1) := by decide +kernel
theorem dM_puts_21 : decode (zby mM_puts) 21 = .ok (.iload_n 1, 1) := by decide +kernel
theorem dM_puts_22 : decode (zby mM_puts) 22 = .ok (.iload 4, 2) := by decide +kernel
theorem dM_puts_24 : decode (zby mM_puts) 24 = .ok (.iconst 1, 1) := by decide +kernel
theorem dM_puts_25 : decode (zby mM_puts) 25 = .ok (.isub, 1) := by decide +kernel
theorem dM_puts_26 : decode (zby mM_puts) 26 = .ok (.invokevirtual 62, 3) := by decide +kernel
theorem dM_puts_29 : decode (zby mM_puts) 29 = .ok (.iload_n 2, 1) := by decide +kernel
theorem dM_puts_30 : decode (zby mM_puts) 30 = .ok (.if_icmp .le 35, 3) := by decide +kernel
theorem dM_puts_33 : decode (zby mM_puts) 33 = .ok (.aload_n 0, 1) := by decide +kernel
theorem dM_puts_34 : decode (zby mM_puts) 34 = .ok (.getfield 9, 3) := by decide +kernel
theorem dM_puts_37 : decode (zby mM_puts) 37 = .ok (.iload_n 3, 1) := by decide +kernel
theorem dM_puts_38 : decode (zby mM_puts) 38 = .ok (.bipush 6, 2) := by decide +kernel
theorem dM_puts_40 : decode (zby mM_puts) 40 = .ok (.iadd, 1) := by decide +kernel
theorem dM_puts_41 : decode (zby mM_puts) 41 = .ok (.iload 4, 2) := by decide +kernel
theorem dM_puts_43 : decode (zby mM_puts) 43 = .ok (.iadd, 1) := by decide +kernel
theorem dM_puts_44 : decode (zby mM_puts) 44 = .ok (.aload_n 0, 1) := by decide +kernel
theorem dM_puts_45 : decode (zby mM_puts) 45 = .ok (.getfield 9, 3) := by decide +kernel
theorem dM_puts_48 : decode (zby mM_puts) 48 = .ok (.iload_n 3, 1) := by decide +kernel
theorem dM_puts_49 : decode (zby mM_puts) 49 = .ok (.bipush 6, 2) := by decide +kernel
theorem dM_puts_51 : decode (zby mM_puts) 51 = .ok (.iadd, 1) := by decide +kernel
theorem dM_puts_52 : decode (zby mM_puts) 52 = .ok (.iload 4, 2) := by decide +kernel
theorem dM_puts_54 : decode (zby mM_puts) 54 = .ok (.iadd, 1) := by decide +kernel
theorem dM_puts_55 : decode (zby mM_puts) 55 = .ok (.iconst 1, 1) := by decide +kernel
theorem dM_puts_56 : decode (zby mM_puts) 56 = .ok (.isub, 1) := by decide +kernel
theorem dM_puts_57 : decode (zby mM_puts) 57 = .ok (.iaload, 1) := by decide +kernel
theorem dM_puts_58 : decode (zby mM_puts) 58 = .ok (.iastore, 1) := by decide +kernel
theorem dM_puts_59 : decode (zby mM_puts) 59 = .ok (.iinc 4 (-1), 3) := by decide +kernel
theorem dM_puts_62 : decode (zby mM_puts) 62 = .ok (.goto (-47), 3) := by decide +kernel
theorem dM_puts_65 : decode (zby mM_puts) 65 = .ok (.aload_n 0, 1) := by decide +kernel
theorem dM_puts_66 : decode (zby mM_puts) 66 = .ok (.getfield 9, 3) := by decide +kernel
theorem dM_puts_69 : decode (zby mM_puts) 69 = .ok (.iload_n 3, 1) := by decide +kernel
theorem dM_puts_70 : decode (zby mM_puts) 70 = .ok (.bipush 6, 2) := by decide +kernel
theorem dM_puts_72 : decode (zby mM_puts) 72 = .ok (.iadd, 1) := by decide +kernel
theorem dM_puts_73 : decode (zby mM_puts) 73 = .ok (.iload 4, 2) := by decide +kernel
theorem dM_puts_75 : decode (zby mM_puts) 75 = .ok (.iadd, 1) := by decide +kernel
theorem dM_puts_76 : decode (zby mM_puts) 76 = .ok (.iload_n 2, 1) := by decide +kernel
theorem dM_puts_77 : decode (zby mM_puts) 77 = .ok (.iastore, 1) := by decide +kernel
theorem dM_puts_78 : decode (zby mM_puts) 78 = .ok (.aload_n 0, 1) := by decide +kernel
theorem dM_puts_79 : decode (zby mM_puts) 79 = .ok (.getfield 9, 3) := by decide +kernel
theorem dM_puts_82 : decode (zby mM_puts) 82 = .ok (.iload_n 3, 1) := by decide +kernel
theorem dM_puts_83 : decode (zby mM_puts) 83 = .ok (.iconst 5, 1) := by decide +kernel
theorem dM_puts_84 : decode (zby mM_puts) 84 = .ok (.iadd, 1) := by decide +kernel
theorem dM_puts_85 : decode (zby mM_puts) 85 = .ok (.dup2, 1) := by decide +kernel
theorem dM_puts_86 : decode (zby mM_puts) 86 = .ok (.iaload, 1) := by decide +kernel
theorem dM_puts_87 : decode (zby mM_puts) 87 = .ok (.iconst 1, 1) := by decide +kernel
theorem dM_puts_88 : decode (zby mM_puts) 88 = .ok (.iadd, 1) := by decide +kernel
theorem dM_puts_89 : decode (zby mM_puts) 89 = .ok (.iastore, 1) := by decide +kernel
theorem dM_puts_90 : decode (zby mM_puts) 90 = .ok (.return_, 1) := by decide +kernel
theorem dM_readArguments_0 : decode (zby mM_readArguments) 0 = .ok (.iload_n 1, 1) := by decide +kernel
theorem dM_readArguments_1 : decode (zby mM_readArguments) 1 = .ok (.tableswitch 162 0 9 #[55, 68, 68, 93, 93, 68, 162, 55, 106, 93], 55) := by decide +kernel
theorem dM_readArguments_56 : decode (zby mM_readArguments) 56 = .ok (.aload_n 0, 1) := by decide +kernel
theorem dM_readArguments_57 : decode (zby mM_readArguments) 57 = .ok (.getfield 42, 3) := by decide +kernel
theorem dM_readArguments_60 : decode (zby mM_readArguments) 60 = .ok (.iload_n 2, 1) := by decide +kernel
theorem dM_readArguments_61 : decode (zby mM_readArguments) 61 = .ok (.aload_n 0, 1) := by decide +kernel
theorem dM_readArguments_62 : decode (zby mM_readArguments) 62 = .ok (.invokevirtual 219, 3) := by decide +kernel
theorem dM_readArguments_65 : decode (zby mM_readArguments) 65 = .ok (.iastore, 1) := by decide +kernel
theorem dM_readArguments_66 : decode (zby mM_readArguments) 66 = .ok (.goto 97, 3) := by decide +kernel
theorem dM_readArguments_69 : decode (zby mM_readArguments) 69 = .ok (.aload_n 0, 1) := by decide +kernel
theorem dM_readArguments_70 : decode (zby mM_readArguments) 70 = .ok (.getfield 42, 3) := by decide +kernel
theorem dM_readArguments_73 : decode (zby mM_readArguments) 73 = .ok (.iload_n 2, 1) := by decide +kernel
theorem dM_readArguments_74 : decode (zby mM_readArguments) 74 = .ok (.aload_n 0, 1) := by decide +kernel
theorem dM_readArguments_75 : decode (zby mM_readArguments) 75 = .ok (.invokevirtual 228, 3) := by decide +kernel
theorem dM_readArguments_78 : decode (zby mM_readArguments) 78 = .ok (.iastore, 1) := by decide +kernel
theorem dM_readArguments_79 : decode (zby mM_readArguments) 79 = .ok (.aload_n 0, 1) := by decide +kernel
theorem dM_readArguments_80 : decode (zby mM_readArguments) 80 = .ok (.getfield 42, 3) := by decide +kernel
theorem dM_readArguments_83 : decode (zby mM_readArguments) 83 = .ok (.iload_n 2, 1) := by decide +kernel
theorem dM_readArguments_84 : decode (zby mM_readArguments) 84 = .ok (.iconst 1, 1) := by decide +kernel
theorem dM_readArguments_85 : decode (zby mM_readArguments) 85 = .ok (.iadd, 1) := by decide +kernel
theorem dM_readArguments_86 : decode (zby mM_readArguments) 86 = .ok (.aload_n 0, 1) := by decide +kernel
theorem dM_readArguments_87 : decode (zby mM_readArguments) 87 = .ok (.invokevirtual 231, 3) := by decide +kernel
theorem dM_readArguments_90 : decode (zby mM_readArguments) 90 = .ok (.iastore, 1) := by decide +kernel
theorem dM_readArguments_91 : decode (zby mM_readArguments) 91 = .ok (.goto 72, 3) := by decide +kernel
theorem dM_readArguments_94 : decode (zby mM_readArguments) 94 = .ok (.aload_n 0, 1) := by decide +kernel
theorem dM_readArguments_95 : decode (zby mM_readArguments) 95 = .ok (.getfield 42, 3) := by decide +kernel
theorem dM_readArguments_98 : decode (zby mM_readArguments) 98 = .ok (.iload_n 2, 1) := by decide +kernel
theorem dM_readArguments_99 : decode (zby mM_readArguments) 99 = .ok (.aload_n 0, 1) := by decide +kernel
theorem dM_readArguments_100 : decode (zby mM_readArguments) 100 = .ok (.invokevirtual 228, 3) := by decide +kernel
theorem dM_readArguments_103 : decode (zby mM_readArguments) 103 = .ok (.iastore, 1) := by decide +kernel
theorem dM_readArguments_104 : decode (zby mM_readArguments) 104 = .ok (.goto 59, 3) := by decide +kernel
theorem dM_readArguments_107 : decode (zby mM_readArguments) 107 = .ok (.aload_n 0, 1) := by decide +kernel
theorem dM_readArguments_108 : decode (zby mM_readArguments) 108 = .ok (.invokevirtual 212, 3) := by decide +kernel
theorem dM_readArguments_111 : decode (zby mM_readArguments) 111 = .ok (.bipush 32, 2) := by decide +kernel
theorem dM_readArguments_113 : decode (zby mM_readArguments) 113 = .ok (.if_icmp .eq 7, 3) := by decide +kernel
theorem dM_readArguments_116 : decode (zby mM_readArguments) 116 = .ok (.iconst 1, 1) := by decide +kernel
theorem dM_readArguments_117 : decode (zby mM_readArguments) 117 = .ok (.goto 4, 3) := by decide +kernel
theorem dM_readArguments_120 : decode (zby mM_readArguments) 120 = .ok (.iconst 0, 1) := by decide +kernel
theorem dM_readArguments_121 : decode (zby mM_readArguments) 121 = .ok (.istore_n 3, 1) := by decide +kernel
theorem dM_readArguments_122 : decode (zby mM_readArguments) 122 = .ok (.aload_n 0, 1) := by decide +kernel
theorem dM_readArguments_123 : decode (zby mM_readArguments) 123 = .ok (.getfield 42, 3) := by decide +kernel
theorem dM_readArguments_126 : decode (zby mM_readArguments) 126 = .ok (.iload_n 2, 1) := by decide +kernel
theorem dM_readArguments_127 : decode (zby mM_readArguments) 127 = .ok (.iconst 1, 1) := by decide +kernel
theorem dM_readArguments_128 : decode (zby mM_readArguments) 128 = .ok (.iadd, 1) := by decide +kernel
theorem dM_readArguments_129 : decode (zby mM_readArguments) 129 = .ok (.iload_n 3, 1) := by decide +kernel
theorem dM_readArguments_130 : decode (zby mM_readArguments) 130 = .ok (.ifCond .eq 7, 3) := by decide +kernel
theorem dM_readArguments_133 : decode (zby mM_readArguments) 133 = .ok (.iconst 0, 1) := by decide +kernel
theorem dM_readArguments_134 : decode (zby mM_readArguments) 134 = .ok (.goto 7, 3) := by decide +kernel
theorem dM_readArguments_137 : decode (zby mM_readArguments) 137 = .ok (.aload_n 0, 1) := by decide +kernel
theorem dM_readArguments_138 : decode (zby mM_readArguments) 138 = .ok (.invokevirtual 231, 3) := by decide +kernel
theorem dM_readArguments_141 : decode (zby mM_readArguments) 141 = .ok (.iastore, 1) := by decide +kernel
theorem dM_readArguments_142 : decode (zby mM_readArguments) 142 = .ok (.aload_n 0, 1) := by decide +kernel
theorem dM_readArguments_143 : decode (zby mM_readArguments) 143 = .ok (.getfield 42, 3) := by decide +kernel
theorem dM_readArguments_146 : decode (zby mM_readArguments) 146 = .ok (.iload_n 2, 1) := by decide +kernel
theorem dM_readArguments_147 : decode (zby mM_readArguments) 147 = .ok (.iload_n 3, 1) := by decide +kernel
theorem dM_readArguments_148 : decode (zby mM_readArguments) 148 = .ok (.ifCond .eq 7, 3) := by decide +kernel
theorem dM_readArguments_151 : decode (zby mM_readArguments) 151 = .ok (.iconst 0, 1) := by decide +kernel
theorem dM_readArguments_152 : decode (zby mM_readArguments) 152 = .ok (.goto 7, 3) := by decide +kernel
theorem dM_readArguments_155 : decode (zby mM_readArguments) 155 = .ok (.aload_n 0, 1) := by decide +kernel
theorem dM_readArguments_156 : decode (zby mM_readArguments) 156 = .ok (.getfield 222, 3) := by decide +kernel
theorem dM_readArguments_159 : decode (zby mM_readArguments) 159 = .ok (.iastore, 1) := by decide +kernel
theorem dM_readArguments_160 : decode (zby mM_readArguments) 160 = .ok (.goto 3, 3) := by decide +kernel
theorem dM_readArguments_163 : decode (zby mM_readArguments) 163 = .ok (.return_, 1) := by decide +kernel
theorem dM_readCommand_0 : decode (zby mM_readCommand) 0 = .ok (.iconst 3, 1) := by decide +kernel
theorem dM_readCommand_1 : decode (zby mM_readCommand) 1 = .ok (.aload_n 0, 1) := by decide +kernel
theorem dM_readCommand_2 : decode (zby mM_readCommand) 2 = .ok (.getfield 234, 3) := by decide +kernel
theorem dM_readCommand_5 : decode (zby mM_readCommand) 5 = .ok (.imul, 1) := by decide +kernel
theorem dM_readCommand_6 : decode (zby mM_readCommand) 6 = .ok (.istore_n 1, 1) := by decide +kernel
theorem dM_readCommand_7 : decode (zby mM_readCommand) 7 = .ok (.iconst 0, 1) := by decide +kernel
theorem dM_readCommand_8 : decode (zby mM_readCommand) 8 = .ok (.istore_n 2, 1) := by decide +kernel
theorem dM_readCommand_9 : decode (zby mM_readCommand) 9 = .ok (.iconst 1, 1) := by decide +kernel
theorem dM_readCommand_10 : decode (zby mM_readCommand) 10 = .ok (.istore_n 3, 1) := by decide +kernel
theorem dM_readCommand_11 : decode (zby mM_readCommand) 11 = .ok (.iload_n 3, 1) := by decide +kernel
theorem dM_readCommand_12 : decode (zby mM_readCommand) 12 = .ok (.bipush 10, 2) := by decide +kernel
theorem dM_readCommand_14 : decode (zby mM_readCommand) 14 = .ok (.if_icmp .ge 28, 3) := by decide +kernel
theorem dM_readCommand_17 : decode (zby mM_readCommand) 17 = .ok (.aload_n 0, 1) := by decide +kernel
theorem dM_readCommand_18 : decode (zby mM_readCommand) 18 = .ok (.iload_n 3, 1) := by decide +kernel
theorem dM_readCommand_19 : decode (zby mM_readCommand) 19 = .ok (.invokevirtual 237, 3) := by decide +kernel
theorem dM_readCommand_22 : decode (zby mM_readCommand) 22 = .ok (.aload_n 0, 1) := by decide +kernel
theorem dM_readCommand_23 : decode (zby mM_readCommand) 23 = .ok (.iload_n 2, 1) := by decide +kernel
theorem dM_readCommand_24 : decode (zby mM_readCommand) 24 = .ok (.invokevirtual 237, 3) := by decide +kernel
theorem dM_readCommand_27 : decode (zby mM_readCommand) 27 = .ok (.if_icmp .le 7, 3) := by decide +kernel
theorem dM_readCommand_30 : decode (zby mM_readCommand) 30 = .ok (.iload_n 3, 1) := by decide +kernel
theorem dM_readCommand_31 : decode (zby mM_readCommand) 31 = .ok (.goto 4, 3) := by decide +kernel
theorem dM_readCommand_34 : decode (zby mM_readCommand) 34 = .ok (.iload_n 2, 1) := by decide +kernel
theorem dM_readCommand_35 : decode (zby mM_readCommand) 35 = .ok (.istore_n 2, 1) := by decide +kernel
theorem dM_readCommand_36 : decode (zby mM_readCommand) 36 = .ok (.iinc 3 1, 3) := by decide +kernel
theorem dM_readCommand_39 : decode (zby mM_readCommand) 39 = .ok (.goto (-28), 3) := by decide +kernel
theorem dM_readCommand_42 : decode (zby mM_readCommand) 42 = .ok (.aload_n 0, 1) := by decide +kernel
theorem dM_readCommand_43 : decode (zby mM_readCommand) 43 = .ok (.iload_n 2, 1) := by decide +kernel
theorem dM_readCommand_44 : decode (zby mM_readCommand) 44 = .ok (.invokevirtual 237, 3) := by decide +kernel
theorem dM_readCommand_47 : decode (zby mM_readCommand) 47 = .ok (.istore_n 3, 1) := by decide +kernel
theorem dM_readCommand_48 : decode (zby mM_readCommand) 48 = .ok (.aload_n 0, 1) := by decide +kernel
theorem dM_readCommand_49 : decode (zby mM_readCommand) 49 = .ok (.dup, 1) := by decide +kernel
theorem dM_readCommand_50 : decode (zby mM_readCommand) 50 = .ok (.getfield 202, 3) := by decide +kernel
theorem dM_readCommand_53 : decode (zby mM_readCommand) 53 = .ok (.iload_n 3, 1) := by decide +kernel
theorem dM_readCommand_54 : decode (zby mM_readCommand) 54 = .ok (.iadd, 1) := by decide +kernel
theorem dM_readCommand_55 : decode (zby mM_readCommand) 55 = .ok (.putfield 202, 3) := by decide +kernel
theorem dM_readCommand_58 : decode (zby mM_readCommand) 58 = .ok (.aload_n 0, 1) := by decide +kernel
theorem dM_readCommand_59 : decode (zby mM_readCommand) 59 = .ok (.iload_n 3, 1) := by decide +kernel
theorem dM_readCommand_60 : decode (zby mM_readCommand) 60 = .ok (.aload_n 0, 1) := by decide +kernel
theorem dM_readCommand_61 : decode (zby mM_readCommand) 61 = .ok (.getfield 39, 3) := by decide +kernel
theorem dM_readCommand_64 : decode (zby mM_readCommand) 64 = .ok (.iload_n 2, 1) := by decide +kernel
theorem dM_readCommand_65 : decode (zby mM_readCommand) 65 = .ok (.iconst 1, 1) := by decide +kernel
theorem dM_readCommand_66 : decode (zby mM_readCommand) 66 = .ok (.iadd, 1) := by decide +kernel
theorem dM_readCommand_67 : decode (zby mM_readCommand) 67 = .ok (.iaload, 1) := by decide +kernel
theorem dM_readCommand_68 : decode (zby mM_readCommand) 68 = .ok (.aload_n 0, 1) := by decide +kernel
theorem dM_readCommand_69 : decode (zby mM_readCommand) 69 = .ok (.getfield 39, 3) := by decide +kernel
theorem dM_readCommand_72 : decode (zby mM_readCommand) 72 = .ok (.iload_n 2, 1) := by decide +kernel
theorem dM_readCommand_73 : decode (zby mM_readCommand) 73 = .ok (.iaload, 1) := by decide +kernel
theorem dM_readCommand_74 : decode (zby mM_readCommand) 74 = .ok (.isub, 1) := by decide +kernel
theorem dM_readCommand_75 : decode (zby mM_readCommand) 75 = .ok (.if_icmp .ge 7, 3) := by decide +kernel
theorem dM_readCommand_78 : decode (zby mM_readCommand) 78 = .ok (.iconst 1, 1) := by decide +kernel
theorem dM_readCommand_79 : decode (zby mM_readCommand) 79 = .ok (.goto 4, 3) := by decide +kernel
theorem dM_readCommand_82 : decode (zby mM_readCommand) 82 = .ok (.iconst 0, 1) := by decide +kernel
theorem dM_readCommand_83 : decode (zby mM_readCommand) 83 = .ok (.putfield 208, 3) := by decide +kernel
theorem dM_readCommand_86 : decode (zby mM_readCommand) 86 = .ok (.aload_n 0, 1) := by decide +kernel
theorem dM_readCommand_87 : decode (zby mM_readCommand) 87 = .ok (.getfield 208, 3) := by decide +kernel
theorem dM_readCommand_90 : decode (zby mM_readCommand) 90 = .ok (.ifCond .ne 28, 3) := by decide +kernel
theorem dM_readCommand_93 : decode (zby mM_readCommand) 93 = .ok (.aload_n 0, 1) := by decide +kernel
theorem dM_readCommand_94 : decode (zby mM_readCommand) 94 = .ok (.getfield 42, 3) := by decide +kernel
theorem dM_readCommand_97 : decode (zby mM_readCommand) 97 = .ok (.iload_n 1, 1) := by decide +kernel
theorem dM_readCommand_98 : decode (zby mM_readCommand) 98 = .ok (.iload_n 2, 1) := by decide +kernel
theorem dM_readCommand_99 : decode (zby mM_readCommand) 99 = .ok (.iastore, 1) := by decide +kernel
theorem dM_readCommand_100 : decode (zby mM_readCommand) 100 = .ok (.aload_n 0, 1) := by decide +kernel
theorem dM_readCommand_101 : decode (zby mM_readCommand) 101 = .ok (.dup, 1) := by decide +kernel
theorem dM_readCommand_102 : decode (zby mM_readCommand) 102 = .ok (.getfield 234, 3) := by decide +kernel
theorem dM_readCommand_105 : decode (zby mM_readCommand) 105 = .ok (.iconst 1, 1) := by decide +kernel
theorem dM_readCommand_106 : decode (zby mM_readCommand) 106 = .ok (.iadd, 1) := by decide +kernel
theorem dM_readCommand_107 : decode (zby mM_readCommand) 107 = .ok (.putfield 234, 3) := by decide +kernel
theorem dM_readCommand_110 : decode (zby mM_readCommand) 110 = .ok (.aload_n 0, 1) := by decide +kernel
theorem dM_readCommand_111 : decode (zby mM_readCommand) 111 = .ok (.iload_n 2, 1) := by decide +kernel
theorem dM_readCommand_112 : decode (zby mM_readCommand) 112 = .ok (.iload_n 1, 1) := by decide +kernel
theorem dM_readCommand_113 : decode (zby mM_readCommand) 113 = .ok (.iconst 1, 1) := by decide +kernel
theorem dM_readCommand_114 : decode (zby mM_readCommand) 114 = .ok (.iadd, 1) := by decide +kernel
theorem dM_readCommand_115 : decode (zby mM_readCommand) 115 = .ok (.invokevirtual 240, 3) := by decide +kernel
theorem dM_readCommand_118 : decode (zby mM_readCommand) 118 = .ok (.return_, 1) := by decide +kernel
theorem dM_removeCode_0 : decode (zby mM_removeCode) 0 = .ok (.aload_n 0, 1) := by decide +kernel
theorem dM_removeCode_1 : decode (zby mM_removeCode) 1 = .ok (.invokevirtual 93, 3) := by decide +kernel
theorem dM_removeCode_4 : decode (zby mM_removeCode) 4 = .ok (.aload_n 0, 1) := by decide +kernel
theorem dM_removeCode_5 : decode (zby mM_removeCode) 5 = .ok (.aload_n 0, 1) := by decide +kernel
theorem dM_removeCode_6 : decode (zby mM_removeCode) 6 = .ok (.iload_n 1, 1) := by decide +kernel
theorem dM_removeCode_7 : decode (zby mM_removeCode) 7 = .ok (.iload_n 2, 1) := by decide +kernel
theorem dM_removeCode_8 : decode (zby mM_removeCode) 8 = .ok (.invokevirtual 114, 3) := by decide +kernel
theorem dM_removeCode_11 : decode (zby mM_removeCode) 11 = .ok (.invokevirtual 99, 3) := by decide +kernel
theorem dM_removeCode_14 : decode (zby mM_removeCode) 14 = .ok (.ireturn, 1) := by decide +kernel
theorem dM_removeEntry_0 : decode (zby mM_removeEntry) 0 = .ok (.aload_n 0, 1) := by decide +kernel
theorem dM_removeEntry_1 : decode (zby mM_removeEntry) 1 = .ok (.invokevirtual 93, 3) := by decide +kernel
theorem dM_removeEntry_4 : decode (zby mM_removeEntry) 4 = .ok (.aload_n 0, 1) := by decide +kernel
theorem dM_removeEntry_5 : decode (zby mM_removeEntry) 5 = .ok (.aload_n 0, 1) := by decide +kernel
theorem dM_removeEntry_6 : decode (zby mM_removeEntry) 6 = .ok (.iload_n 1, 1) := by decide +kernel
theorem dM_removeEntry_7 : decode (zby mM_removeEntry) 7 = .ok (.invokevirtual 121, 3) := by decide +kernel
theorem dM_removeEntry_10 : decode (zby mM_removeEntry) 10 = .ok (.invokevirtual 99, 3) := by decide +kernel
theorem dM_removeEntry_13 : decode (zby mM_removeEntry) 13 = .ok (.ireturn, 1) := by decide +kernel
theorem dM_removedTotal_0 : decode (zby mM_removedTotal) 0 = .ok (.aload_n 0, 1) := by decide +kernel
theorem dM_removedTotal_1 : decode (zby mM_removedTotal) 1 = .ok (.iconst 3, 1) := by decide +kernel
theorem dM_removedTotal_2 : decode (zby mM_removedTotal) 2 = .ok (.invokevirtual 154, 3) := by decide +kernel
theorem dM_removedTotal_5 : decode (zby mM_removedTotal) 5 = .ok (.ireturn, 1) := by decide +kernel
theorem dM_restore_0 : decode (zby mM_restore) 0 = .ok (.aload_n 0, 1) := by decide +kernel
theorem dM_restore_1 : decode (zby mM_restore) 1 = .ok (.iconst 0, 1) := by decide +kernel
theorem dM_restore_2 : decode (zby mM_restore) 2 = .ok (.putfield 45, 3) := by decide +kernel
theorem dM_restore_5 : decode (zby mM_restore) 5 = .ok (.aload_n 0, 1) := by decide +kernel
theorem dM_restore_6 : decode (zby mM_restore) 6 = .ok (.getfield 249, 3) := by decide +kernel
theorem dM_restore_9 : decode (zby mM_restore) 9 = .ok (.ifCond .ne 9, 3) := by decide +kernel
theorem dM_restore_12 : decode (zby mM_restore) 12 = .ok (.aload_n 0, 1) := by decide +kernel
theorem dM_restore_13 : decode (zby mM_restore) 13 = .ok (.iconst 1, 1) := by decide +kernel
theorem dM_restore_14 : decode (zby mM_restore) 14 = .ok (.invokevirtual 90, 3) := by decide +kernel
theorem dM_restore_17 : decode (zby mM_restore) 17 = .ok (.ireturn, 1) := by decide +kernel
theorem dM_restore_18 : decode (zby mM_restore) 18 = .ok (.iconst 0, 1) := by decide +kernel
theorem dM_restore_19 : decode (zby mM_restore) 19 = .ok (.istore_n 1, 1) := by decide +kernel
theorem dM_restore_20 : decode (zby mM_restore) 20 = .ok (.iload_n 1, 1) := by decide +kernel
theorem dM_restore_21 : decode (zby mM_restore) 21 = .ok (.sipush 246, 3) := by decide +kernel
theorem dM_restore_24 : decode (zby mM_restore) 24 = .ok (.if_icmp .ge 21, 3) := by decide +kernel
theorem dM_restore_27 : decode (zby mM_restore) 27 = .ok (.aload_n 0, 1) := by decide +kernel
theorem dM_restore_28 : decode (zby mM_restore) 28 = .ok (.getfield 9, 3) := by decide +kernel
theorem dM_restore_31 : decode (zby mM_restore) 31 = .ok (.iload_n 1, 1) := by decide +kernel
theorem dM_restore_32 : decode (zby mM_restore) 32 = .ok (.aload_n 0, 1) := by decide +kernel
theorem dM_restore_33 : decode (zby mM_restore) 33 = .ok (.getfield 16, 3) := by decide +kernel
theorem dM_restore_36 : decode (zby mM_restore) 36 = .ok (.iload_n 1, 1) := by decide +kernel
theorem dM_restore_37 : decode (zby mM_restore) 37 = .ok (.iaload, 1) := by decide +kernel
theorem dM_restore_38 : decode (zby mM_restore) 38 = .ok (.iastore, 1) := by decide +kernel
theorem dM_restore_39 : decode (zby mM_restore) 39 = .ok (.iinc 1 1, 3) := by decide +kernel
theorem dM_restore_42 : decode (zby mM_restore) 42 = .ok (.goto (-22), 3) := by decide +kernel
theorem dM_restore_45 : decode (zby mM_restore) 45 = .ok (.aload_n 0, 1) := by decide +kernel
theorem dM_restore_46 : decode (zby mM_restore) 46 = .ok (.iconst 0, 1) := by decide +kernel
theorem dM_restore_47 : decode (zby mM_restore) 47 = .ok (.putfield 48, 3) := by decide +kernel
theorem dM_restore_50 : decode (zby mM_restore) 50 = .ok (.aload_n 0, 1) := by decide +kernel
theorem dM_restore_51 : decode (zby mM_restore) 51 = .ok (.getfield 9, 3) := by decide +kernel
theorem dM_restore_54 : decode (zby mM_restore) 54 = .ok (.iconst 0, 1) := by decide +kernel
theorem dM_restore_55 : decode (zby mM_restore) 55 = .ok (.iaload, 1) := by decide +kernel
theorem dM_restore_56 : decode (zby mM_restore) 56 = .ok (.ireturn, 1) := by decide +kernel
theorem dM_result_0 : decode (zby mM_result) 0 = .ok (.iconst 0, 1) := by decide +kernel
theorem dM_result_1 : decode (zby mM_result) 1 = .ok (.istore 4, 2) := by decide +kernel
theorem dM_result_3 : decode (zby mM_result) 3 = .ok (.iload 4, 2) := by decide +kernel
theorem dM_result_5 : decode (zby mM_result) 5 = .ok (.aload_n 0, 1) := by decide +kernel
theorem dM_result_6 : decode (zby mM_result) 6 = .ok (.getfield 9, 3) := by decide +kernel
theorem dM_result_9 : decode (zby mM_result) 9 = .ok (.iconst 0, 1) := by decide +kernel
theorem dM_result_10 : decode (zby mM_result) 10 = .ok (.iaload, 1) := by decide +kernel
theorem dM_result_11 : decode (zby mM_result) 11 = .ok (.if_icmp .ge 121, 3) := by decide +kernel
theorem dM_result_14 : decode (zby mM_result) 14 = .ok (.iconst 0, 1) := by decide +kernel
theorem dM_result_15 : decode (zby mM_result) 15 = .ok (.istore 5, 2) := by decide +kernel
theorem dM_result_17 : decode (zby mM_result) 17 = .ok (.iconst 0, 1) := by decide +kernel
theorem dM_result_18 : decode (zby mM_result) 18 = .ok (.istore 6, 2) := by decide +kernel
theorem dM_result_20 : decode (zby mM_result) 20 = .ok (.iload 6, 2) := by decide +kernel
theorem dM_result_22 : decode (zby mM_result) 22 = .ok (.aload_n 0, 1) := by decide +kernel
theorem dM_result_23 : decode (zby mM_result) 23 = .ok (.getfield 9, 3) := by decide +kernel
theorem dM_result_26 : decode (zby mM_result) 26 = .ok (.iconst 0, 1) := by decide +kernel
theorem dM_result_27 : decode (zby mM_result) 27 = .ok (.iaload, 1) := by decide +kernel
theorem dM_result_28 : decode (zby mM_result) 28 = .ok (.if_icmp .ge 78, 3) := by decide +kernel
theorem dM_result_31 : decode (zby mM_result) 31 = .ok (.aload_n 0, 1) := by decide +kernel
theorem dM_result_32 : decode (zby mM_result) 32 = .ok (.iload 6, 2) := by decide +kernel
theorem dM_result_34 : decode (zby mM_result) 34 = .ok (.iload_n 1, 1) := by decide +kernel
theorem dM_result_35 : decode (zby mM_result) 35 = .ok (.iload_n 2, 1) := by decide +kernel
theorem dM_result_36 : decode (zby mM_result) 36 = .ok (.invokevirtual 74, 3) := by decide +kernel
theorem dM_result_39 : decode (zby mM_result) 39 = .ok (.aload_n 0, 1) := by decide +kernel
theorem dM_result_40 : decode (zby mM_result) 40 = .ok (.iload 4, 2) := by decide +kernel
theorem dM_result_42 : decode (zby mM_result) 42 = .ok (.iload_n 1, 1) := by decide +kernel
theorem dM_result_43 : decode (zby mM_result) 43 = .ok (.iload_n 2, 1) := by decide +kernel
theorem dM_result_44 : decode (zby mM_result) 44 = .ok (.invokevirtual 74, 3) := by decide +kernel
theorem dM_result_47 : decode (zby mM_result) 47 = .ok (.isub, 1) := by decide +kernel
theorem dM_result_48 : decode (zby mM_result) 48 = .ok (.istore 7, 2) := by decide +kernel
theorem dM_result_50 : decode (zby mM_result) 50 = .ok (.aload_n 0, 1) := by decide +kernel
theorem dM_result_51 : decode (zby mM_result) 51 = .ok (.iload 6, 2) := by decide +kernel
theorem dM_result_53 : decode (zby mM_result) 53 = .ok (.iload_n 1, 1) := by decide +kernel
theorem dM_result_54 : decode (zby mM_result) 54 = .ok (.iload_n 2, 1) := by decide +kernel
theorem dM_result_55 : decode (zby mM_result) 55 = .ok (.invokevirtual 70, 3) := by decide +kernel
theorem dM_result_58 : decode (zby mM_result) 58 = .ok (.ifCond .le 24, 3) := by decide +kernel
theorem dM_result_61 : decode (zby mM_result) 61 = .ok (.iload 7, 2) := by decide +kernel
theorem dM_result_63 : decode (zby mM_result) 63 = .ok (.ifCond .gt 15, 3) := by decide +kernel
theorem dM_result_66 : decode (zby mM_result) 66 = .ok (.iload 7, 2) := by decide +kernel
theorem dM_result_68 : decode (zby mM_result) 68 = .ok (.ifCond .ne 14, 3) := by decide +kernel
theorem dM_result_71 : decode (zby mM_result) 71 = .ok (.iload 6, 2) := by decide +kernel
theorem dM_result_73 : decode (zby mM_result) 73 = .ok (.iload 4, 2) := by decide +kernel
theorem dM_result_75 : decode (zby mM_result) 75 = .ok (.if_icmp .ge 7, 3) := by decide +kernel
theorem dM_result_78 : decode (zby mM_result) 78 = .ok (.iconst 1, 1) := by decide +kernel
theorem dM_result_79 : decode (zby mM_result) 79 = .ok (.goto 4, 3) := by decide +kernel
theorem dM_result_82 : decode (zby mM_result) 82 = .ok (.iconst 0, 1) := by decide +kernel
theorem dM_result_83 : decode (zby mM_result) 83 = .ok (.istore 8, 2) := by decide +kernel
theorem dM_result_85 : decode (zby mM_result) 85 = .ok (.iload 5, 2) := by decide +kernel
theorem dM_result_87 : decode (zby mM_result) 87 = .ok (.iload 8, 2) := by decide +kernel
theorem dM_result_89 : decode (zby mM_result) 89 = .ok (.ifCond .eq 7, 3) := by decide +kernel
theorem dM_result_92 : decode (zby mM_result) 92 = .ok (.iconst 1, 1) := by decide +kernel
theorem dM_result_93 : decode (zby mM_result) 93 = .ok (.goto 4, 3) := by decide +kernel
theorem dM_result_96 : decode (zby mM_result) 96 = .ok (.iconst 0, 1) := by decide +kernel
theorem dM_result_97 : decode (zby mM_result) 97 = .ok (.iadd, 1) := by decide +kernel
theorem dM_result_98 : decode (zby mM_result) 98 = .ok (.istore 5, 2) := by decide +kernel
theorem dM_result_100 : decode (zby mM_result) 100 = .ok (.iinc 6 1, 3) := by decide +kernel
theorem dM_result_103 : decode (zby mM_result) 103 = .ok (.goto (-83), 3) := by decide +kernel
theorem dM_result_106 : decode (zby mM_result) 106 = .ok (.iload 5, 2) := by decide +kernel
theorem dM_result_108 : decode (zby mM_result) 108 = .ok (.iload_n 3, 1) := by decide +kernel
theorem dM_result_109 : decode (zby mM_result) 109 = .ok (.if_icmp .ne 17, 3) := by decide +kernel
theorem dM_result_112 : decode (zby mM_result) 112 = .ok (.aload_n 0, 1) := by decide +kernel
theorem dM_result_113 : decode (zby mM_result) 113 = .ok (.iload 4, 2) := by decide +kernel
theorem dM_result_115 : decode (zby mM_result) 115 = .ok (.iload_n 1, 1) := by decide +kernel
theorem dM_result_116 : decode (zby mM_result) 116 = .ok (.iload_n 2, 1) := by decide +kernel
theorem dM_result_117 : decode (zby mM_result) 117 = .ok (.invokevirtual 70, 3) := by decide +kernel
theorem dM_result_120 : decode (zby mM_result) 120 = .ok (.ifCond .le 6, 3) := by decide +kernel
theorem dM_result_123 : decode (zby mM_result) 123 = .ok (.iload 4, 2) := by decide +kernel
theorem dM_result_125 : decode (zby mM_result) 125 = .ok (.ireturn, 1) := by decide +kernel
theorem dM_result_126 : decode (zby mM_result) 126 = .ok (.iinc 4 1, 3) := by decide +kernel
theorem dM_result_129 : decode (zby mM_result) 129 = .ok (.goto (-126), 3) := by decide +kernel
theorem dM_result_132 : decode (zby mM_result) 132 = .ok (.iconst (-1), 1) := by decide +kernel
theorem dM_result_133 : decode (zby mM_result) 133 = .ok (.ireturn, 1) := by decide +kernel
theorem dM_resultAt_0 : decode (zby mM_resultAt) 0 = .ok (.aload_n 0, 1) := by decide +kernel
theorem dM_resultAt_1 : decode (zby mM_resultAt) 1 = .ok (.iconst 0, 1) := by decide +kernel
theorem dM_resultAt_2 : decode (zby mM_resultAt) 2 = .ok (.putfield 45, 3) := by decide +kernel
theorem dM_resultAt_5 : decode (zby mM_resultAt) 5 = .ok (.iload_n 1, 1) := by decide +kernel
theorem dM_resultAt_6 : decode (zby mM_resultAt) 6 = .ok (.iload_n 2, 1) := by decide +kernel
theorem dM_resultAt_7 : decode (zby mM_resultAt) 7 = .ok (.iconst 3, 1) := by decide +kernel
theorem dM_resultAt_8 : decode (zby mM_resultAt) 8 = .ok (.invokestatic 143, 3) := by decide +kernel
theorem dM_resultAt_11 : decode (zby mM_resultAt) 11 = .ok (.ifCond .ne 9, 3) := by decide +kernel
theorem dM_resultAt_14 : decode (zby mM_resultAt) 14 = .ok (.aload_n 0, 1) := by decide +kernel
theorem dM_resultAt_15 : decode (zby mM_resultAt) 15 = .ok (.iconst 1, 1) := by decide +kernel
theorem dM_resultAt_16 : decode (zby mM_resultAt) 16 = .ok (.invokevirtual 90, 3) := by decide +kernel
theorem dM_resultAt_19 : decode (zby mM_resultAt) 19 = .ok (.ireturn, 1) := by decide +kernel
theorem dM_resultAt_20 : decode (zby mM_resultAt) 20 = .ok (.aload_n 0, 1) := by decide +kernel
theorem dM_resultAt_21 : decode (zby mM_resultAt) 21 = .ok (.iload_n 1, 1) := by decide +kernel
theorem dM_resultAt_22 : decode (zby mM_resultAt) 22 = .ok (.iload_n 2, 1) := by decide +kernel
theorem dM_resultAt_23 : decode (zby mM_resultAt) 23 = .ok (.iload_n 3, 1) := by decide +kernel
theorem dM_resultAt_24 : decode (zby mM_resultAt) 24 = .ok (.invokevirtual 163, 3) := by decide +kernel
theorem dM_resultAt_27 : decode (zby mM_resultAt) 27 = .ok (.istore 4, 2) := by decide +kernel
theorem dM_resultAt_29 : decode (zby mM_resultAt) 29 = .ok (.iload 4, 2) := by decide +kernel
theorem dM_resultAt_31 : decode (zby mM_resultAt) 31 = .ok (.iconst (-1), 1) := by decide +kernel
theorem dM_resultAt_32 : decode (zby mM_resultAt) 32 = .ok (.if_icmp .ne 11, 3) := by decide +kernel
theorem dM_resultAt_35 : decode (zby mM_resultAt) 35 = .ok (.aload_n 0, 1) := by decide +kernel
theorem dM_resultAt_36 : decode (zby mM_resultAt) 36 = .ok (.iconst 2, 1) := by decide +kernel
theorem dM_resultAt_37 : decode (zby mM_resultAt) 37 = .ok (.invokevirtual 90, 3) := by decide +kernel
theorem dM_resultAt_40 : decode (zby mM_resultAt) 40 = .ok (.goto 13, 3) := by decide +kernel
theorem dM_resultAt_43 : decode (zby mM_resultAt) 43 = .ok (.aload_n 0, 1) := by decide +kernel
theorem dM_resultAt_44 : decode (zby mM_resultAt) 44 = .ok (.getfield 9, 3) := by decide +kernel
theorem dM_resultAt_47 : decode (zby mM_resultAt) 47 = .ok (.iload 4, 2) := by decide +kernel
theorem dM_resultAt_49 : decode (zby mM_resultAt) 49 = .ok (.invokestatic 51, 3) := by decide +kernel
theorem dM_resultAt_52 : decode (zby mM_resultAt) 52 = .ok (.iaload, 1) := by decide +kernel
theorem dM_resultAt_53 : decode (zby mM_resultAt) 53 = .ok (.ireturn, 1) := by decide +kernel
theorem dM_resultCount_0 : decode (zby mM_resultCount) 0 = .ok (.aload_n 0, 1) := by decide +kernel
theorem dM_resultCount_1 : decode (zby mM_resultCount) 1 = .ok (.iconst 0, 1) := by decide +kernel
theorem dM_resultCount_2 : decode (zby mM_resultCount) 2 = .ok (.putfield 45, 3) := by decide +kernel
theorem dM_resultCount_5 : decode (zby mM_resultCount) 5 = .ok (.iload_n 1, 1) := by decide +kernel
theorem dM_resultCount_6 : decode (zby mM_resultCount) 6 = .ok (.iload_n 2, 1) := by decide +kernel
theorem dM_resultCount_7 : decode (zby mM_resultCount) 7 = .ok (.iconst 3, 1) := by decide +kernel
theorem dM_resultCount_8 : decode (zby mM_resultCount) 8 = .ok (.invokestatic 143, 3) := by decide +kernel
theorem dM_resultCount_11 : decode (zby mM_resultCount) 11 = .ok (.ifCond .eq 12, 3) := by decide +kernel
theorem dM_resultCount_14 : decode (zby mM_resultCount) 14 = .ok (.aload_n 0, 1) := by decide +kernel
theorem dM_resultCount_15 : decode (zby mM_resultCount) 15 = .ok (.iload_n 1, 1) := by decide +kernel
theorem dM_resultCount_16 : decode (zby mM_resultCount) 16 = .ok (.iload_n 2, 1) := by decide +kernel
theorem dM_resultCount_17 : decode (zby mM_resultCount) 17 = .ok (.invokevirtual 77, 3) := by decide +kernel
theorem dM_resultCount_20 : decode (zby mM_resultCount) 20 = .ok (.goto 8, 3) := by decide +kernel
theorem dM_resultCount_23 : decode (zby mM_resultCount) 23 = .ok (.aload_n 0, 1) := by decide +kernel
theorem dM_resultCount_24 : decode (zby mM_resultCount) 24 = .ok (.iconst 1, 1) := by decide +kernel
theorem dM_resultCount_25 : decode (zby mM_resultCount) 25 = .ok (.invokevirtual 90, 3) := by decide +kernel
theorem dM_resultCount_28 : decode (zby mM_resultCount) 28 = .ok (.ireturn, 1) := by decide +kernel
theorem dM_resultCountByScan_0 : decode (zby mM_resultCountByScan) 0 = .ok (.aload_n 0, 1) := by decide +kernel
theorem dM_resultCountByScan_1 : decode (zby mM_resultCountByScan) 1 = .ok (.iload_n 1, 1) := by decide +kernel
theorem dM_resultCountByScan_2 : decode (zby mM_resultCountByScan) 2 = .ok (.iload_n 2, 1) := by decide +kernel
theorem dM_resultCountByScan_3 : decode (zby mM_resultCountByScan) 3 = .ok (.invokevirtual 160, 3) := by decide +kernel
theorem dM_resultCountByScan_6 : decode (zby mM_resultCountByScan) 6 = .ok (.ireturn, 1) := by decide +kernel
theorem dM_results_0 : decode (zby mM_results) 0 = .ok (.iconst 0, 1) := by decide +kernel
theorem dM_results_1 : decode (zby mM_results) 1 = .ok (.istore_n 3, 1) := by decide +kernel
theorem dM_results_2 : decode (zby mM_results) 2 = .ok (.iconst 0, 1) := by decide +kernel
theorem dM_results_3 : decode (zby mM_results) 3 = .ok (.istore 4, 2) := by decide +kernel
theorem dM_results_5 : decode (zby mM_results) 5 = .ok (.iload 4, 2) := by decide +kernel
theorem dM_results_7 : decode (zby mM_results) 7 = .ok (.aload_n 0, 1) := by decide +kernel
theorem dM_results_8 : decode (zby mM_results) 8 = .ok (.getfield 9, 3) := by decide +kernel
theorem dM_results_11 : decode (zby mM_results) 11 = .ok (.iconst 0, 1) := by decide +kernel
theorem dM_results_12 : decode (zby mM_results) 12 = .ok (.iaload, 1) := by decide +kernel
theorem dM_results_13 : decode (zby mM_results) 13 = .ok (.if_icmp .ge 28, 3) := by decide +kernel
theorem dM_results_16 : decode (zby mM_results) 16 = .ok (.iload_n 3, 1) := by decide +kernel
theorem dM_results_17 : decode (zby mM_results) 17 = .ok (.aload_n 0, 1) := by decide +kernel
theorem dM_results_18 : decode (zby mM_results) 18 = .ok (.iload 4, 2) := by decide +kernel
theorem dM_results_20 : decode (zby mM_results) 20 = .ok (.iload_n 1, 1) := by decide +kernel
theorem dM_results_21 : decode (zby mM_results) 21 = .ok (.iload_n 2, 1) := by decide +kernel
theorem dM_results_22 : decode (zby mM_results) 22 = .ok (.invokevirtual 70, 3) := by decide +kernel
theorem dM_results_25 : decode (zby mM_results) 25 = .ok (.ifCond .le 7, 3) := by decide +kernel
theorem dM_results_28 : decode (zby mM_results) 28 = .ok (.iconst 1, 1) := by decide +kernel
theorem dM_results_29 : decode (zby mM_results) 29 = .ok (.goto 4, 3) := by decide +kernel
theorem dM_results_32 : decode (zby mM_results) 32 = .ok (.iconst 0, 1) := by decide +kernel
theorem dM_results_33 : decode (zby mM_results) 33 = .ok (.iadd, 1) := by decide +kernel
theorem dM_results_34 : decode (zby mM_results) 34 = .ok (.istore_n 3, 1) := by decide +kernel
theorem dM_results_35 : decode (zby mM_results) 35 = .ok (.iinc 4 1, 3) := by decide +kernel
theorem dM_results_38 : decode (zby mM_results) 38 = .ok (.goto (-33), 3) := by decide +kernel
theorem dM_results_41 : decode (zby mM_results) 41 = .ok (.iload_n 3, 1) := by decide +kernel
theorem dM_results_42 : decode (zby mM_results) 42 = .ok (.ireturn, 1) := by decide +kernel
theorem dM_run_0 : decode (zby mM_run) 0 = .ok (.aload_n 0, 1) := by decide +kernel
theorem dM_run_1 : decode (zby mM_run) 1 = .ok (.invokevirtual 93, 3) := by decide +kernel
theorem dM_run_4 : decode (zby mM_run) 4 = .ok (.aload_n 0, 1) := by decide +kernel
theorem dM_run_5 : decode (zby mM_run) 5 = .ok (.aload_n 0, 1) := by decide +kernel
theorem dM_run_6 : decode (zby mM_run) 6 = .ok (.getfield 199, 3) := by decide +kernel
theorem dM_run_9 : decode (zby mM_run) 9 = .ok (.putfield 205, 3) := by decide +kernel
theorem dM_run_12 : decode (zby mM_run) 12 = .ok (.aload_n 0, 1) := by decide +kernel
theorem dM_run_13 : decode (zby mM_run) 13 = .ok (.iconst 0, 1) := by decide +kernel
theorem dM_run_14 : decode (zby mM_run) 14 = .ok (.putfield 199, 3) := by decide +kernel
theorem dM_run_17 : decode (zby mM_run) 17 = .ok (.aload_n 0, 1) := by decide +kernel
theorem dM_run_18 : decode (zby mM_run) 18 = .ok (.iconst 0, 1) := by decide +kernel
theorem dM_run_19 : decode (zby mM_run) 19 = .ok (.putfield 202, 3) := by decide +kernel
theorem dM_run_22 : decode (zby mM_run) 22 = .ok (.aload_n 0, 1) := by decide +kernel
theorem dM_run_23 : decode (zby mM_run) 23 = .ok (.iconst 0, 1) := by decide +kernel
theorem dM_run_24 : decode (zby mM_run) 24 = .ok (.putfield 234, 3) := by decide +kernel
theorem dM_run_27 : decode (zby mM_run) 27 = .ok (.aload_n 0, 1) := by decide +kernel
theorem dM_run_28 : decode (zby mM_run) 28 = .ok (.iconst 0, 1) := by decide +kernel
theorem dM_run_29 : decode (zby mM_run) 29 = .ok (.putfield 208, 3) := by decide +kernel
theorem dM_run_32 : decode (zby mM_run) 32 = .ok (.iconst 1, 1) := by decide +kernel
theorem dM_run_33 : decode (zby mM_run) 33 = .ok (.istore_n 1, 1) := by decide +kernel
theorem dM_run_34 : decode (zby mM_run) 34 = .ok (.iload_n 1, 1) := by decide +kernel
theorem dM_run_35 : decode (zby mM_run) 35 = .ok (.ifCond .eq 57, 3) := by decide +kernel
theorem dM_run_38 : decode (zby mM_run) 38 = .ok (.aload_n 0, 1) := by decide +kernel
theorem dM_run_39 : decode (zby mM_run) 39 = .ok (.invokevirtual 243, 3) := by decide +kernel
theorem dM_run_42 : decode (zby mM_run) 42 = .ok (.aload_n 0, 1) := by decide +kernel
theorem dM_run_43 : decode (zby mM_run) 43 = .ok (.getfield 208, 3) := by decide +kernel
theorem dM_run_46 : decode (zby mM_run) 46 = .ok (.ifCond .ne 18, 3) := by decide +kernel
theorem dM_run_49 : decode (zby mM_run) 49 = .ok (.aload_n 0, 1) := by decide +kernel
theorem dM_run_50 : decode (zby mM_run) 50 = .ok (.getfield 202, 3) := by decide +kernel
theorem dM_run_53 : decode (zby mM_run) 53 = .ok (.aload_n 0, 1) := by decide +kernel
theorem dM_run_54 : decode (zby mM_run) 54 = .ok (.getfield 205, 3) := by decide +kernel
theorem dM_run_57 : decode (zby mM_run) 57 = .ok (.if_icmp .ge 7, 3) := by decide +kernel
theorem dM_run_60 : decode (zby mM_run) 60 = .ok (.iconst 1, 1) := by decide +kernel
theorem dM_run_61 : decode (zby mM_run) 61 = .ok (.goto 4, 3) := by decide +kernel
theorem dM_run_64 : decode (zby mM_run) 64 = .ok (.iconst 0, 1) := by decide +kernel
theorem dM_run_65 : decode (zby mM_run) 65 = .ok (.istore_n 1, 1) := by decide +kernel
theorem dM_run_66 : decode (zby mM_run) 66 = .ok (.iload_n 1, 1) := by decide +kernel
theorem dM_run_67 : decode (zby mM_run) 67 = .ok (.ifCond .eq (-33), 3) := by decide +kernel
theorem dM_run_70 : decode (zby mM_run) 70 = .ok (.aload_n 0, 1) := by decide +kernel
theorem dM_run_71 : decode (zby mM_run) 71 = .ok (.bipush 59, 2) := by decide +kernel
theorem dM_run_73 : decode (zby mM_run) 73 = .ok (.invokevirtual 225, 3) := by decide +kernel
theorem dM_run_76 : decode (zby mM_run) 76 = .ok (.aload_n 0, 1) := by decide +kernel
theorem dM_run_77 : decode (zby mM_run) 77 = .ok (.getfield 208, 3) := by decide +kernel
theorem dM_run_80 : decode (zby mM_run) 80 = .ok (.ifCond .ne 7, 3) := by decide +kernel
theorem dM_run_83 : decode (zby mM_run) 83 = .ok (.iconst 1, 1) := by decide +kernel
theorem dM_run_84 : decode (zby mM_run) 84 = .ok (.goto 4, 3) := by decide +kernel
theorem dM_run_87 : decode (zby mM_run) 87 = .ok (.iconst 0, 1) := by decide +kernel
theorem dM_run_88 : decode (zby mM_run) 88 = .ok (.istore_n 1, 1) := by decide +kernel
theorem dM_run_89 : decode (zby mM_run) 89 = .ok (.goto (-55), 3) := by decide +kernel
theorem dM_run_92 : decode (zby mM_run) 92 = .ok (.aload_n 0, 1) := by decide +kernel
theorem dM_run_93 : decode (zby mM_run) 93 = .ok (.getfield 208, 3) := by decide +kernel
theorem dM_run_96 : decode (zby mM_run) 96 = .ok (.ifCond .eq 17, 3) := by decide +kernel
theorem dM_run_99 : decode (zby mM_run) 99 = .ok (.aload_n 0, 1) := by decide +kernel
theorem dM_run_100 : decode (zby mM_run) 100 = .ok (.aload_n 0, 1) := by decide +kernel
theorem dM_run_101 : decode (zby mM_run) 101 = .ok (.getfield 202, 3) := by decide +kernel
theorem dM_run_104 : decode (zby mM_run) 104 = .ok (.putfield 22, 3) := by decide +kernel
theorem dM_run_107 : decode (zby mM_run) 107 = .ok (.aload_n 0, 1) := by decide +kernel
theorem dM_run_108 : decode (zby mM_run) 108 = .ok (.iconst 1, 1) := by decide +kernel
theorem dM_run_109 : decode (zby mM_run) 109 = .ok (.invokevirtual 90, 3) := by decide +kernel
theorem dM_run_112 : decode (zby mM_run) 112 = .ok (.ireturn, 1) := by decide +kernel
theorem dM_run_113 : decode (zby mM_run) 113 = .ok (.iconst 0, 1) := by decide +kernel
theorem dM_run_114 : decode (zby mM_run) 114 = .ok (.istore_n 2, 1) := by decide +kernel
theorem dM_run_115 : decode (zby mM_run) 115 = .ok (.iload_n 2, 1) := by decide +kernel
theorem dM_run_116 : decode (zby mM_run) 116 = .ok (.aload_n 0, 1) := by decide +kernel
theorem dM_run_117 : decode (zby mM_run) 117 = .ok (.getfield 234, 3) := by decide +kernel
theorem dM_run_120 : decode (zby mM_run) 120 = .ok (.if_icmp .ge 61, 3) := by decide +kernel
theorem dM_run_123 : decode (zby mM_run) 123 = .ok (.aload_n 0, 1) := by decide +kernel
theorem dM_run_124 : decode (zby mM_run) 124 = .ok (.iconst 3, 1) := by decide +kernel
theorem dM_run_125 : decode (zby mM_run) 125 = .ok (.iload_n 2, 1) := by decide +kernel
theorem dM_run_126 : decode (zby mM_run) 126 = .ok (.imul, 1) := by decide +kernel
theorem dM_run_127 : decode (zby mM_run) 127 = .ok (.invokevirtual 246, 3) := by decide +kernel
theorem dM_run_130 : decode (zby mM_run) 130 = .ok (.aload_n 0, 1) := by decide +kernel
theorem dM_run_131 : decode (zby mM_run) 131 = .ok (.getfield 45, 3) := by decide +kernel
theorem dM_run_134 : decode (zby mM_run) 134 = .ok (.ifCond .le 41, 3) := by decide +kernel
theorem dM_run_137 : decode (zby mM_run) 137 = .ok (.iconst 0, 1) := by decide +kernel
theorem dM_run_138 : decode (zby mM_run) 138 = .ok (.istore_n 3, 1) := by decide +kernel
theorem dM_run_139 : decode (zby mM_run) 139 = .ok (.iload_n 3, 1) := by decide +kernel
theorem dM_run_140 : decode (zby mM_run) 140 = .ok (.sipush 246, 3) := by decide +kernel
theorem dM_run_143 : decode (zby mM_run) 143 = .ok (.if_icmp .ge 21, 3) := by decide +kernel
theorem dM_run_146 : decode (zby mM_run) 146 = .ok (.aload_n 0, 1) := by decide +kernel
theorem dM_run_147 : decode (zby mM_run) 147 = .ok (.getfield 9, 3) := by decide +kernel
theorem dM_run_150 : decode (zby mM_run) 150 = .ok (.iload_n 3, 1) := by decide +kernel
theorem dM_run_151 : decode (zby mM_run) 151 = .ok (.aload_n 0, 1) := by decide +kernel
theorem dM_run_152 : decode (zby mM_run) 152 = .ok (.getfield 13, 3) := by decide +kernel
theorem dM_run_155 : decode (zby mM_run) 155 = .ok (.iload_n 3, 1) := by decide +kernel
theorem dM_run_156 : decode (zby mM_run) 156 = .ok (.iaload, 1) := by decide +kernel
theorem dM_run_157 : decode (zby mM_run) 157 = .ok (.iastore, 1) := by decide +kernel
theorem dM_run_158 : decode (zby mM_run) 158 = .ok (.iinc 3 1, 3) := by decide +kernel
theorem dM_run_161 : decode (zby mM_run) 161 = .ok (.goto (-22), 3) := by decide +kernel
theorem dM_run_164 : decode (zby mM_run) 164 = .ok (.aload_n 0, 1) := by decide +kernel
theorem dM_run_165 : decode (zby mM_run) 165 = .ok (.iload_n 2, 1) := by decide +kernel
theorem dM_run_166 : decode (zby mM_run) 166 = .ok (.putfield 26, 3) := by decide +kernel
theorem dM_run_169 : decode (zby mM_run) 169 = .ok (.aload_n 0, 1) := by decide +kernel
theorem dM_run_170 : decode (zby mM_run) 170 = .ok (.iconst 2, 1) := by decide +kernel
theorem dM_run_171 : decode (zby mM_run) 171 = .ok (.invokevirtual 90, 3) := by decide +kernel
theorem dM_run_174 : decode (zby mM_run) 174 = .ok (.ireturn, 1) := by decide +kernel
theorem dM_run_175 : decode (zby mM_run) 175 = .ok (.iinc 2 1, 3) := by decide +kernel
theorem dM_run_178 : decode (zby mM_run) 178 = .ok (.goto (-63), 3) := by decide +kernel
theorem dM_run_181 : decode (zby mM_run) 181 = .ok (.aload_n 0, 1) := by decide +kernel
theorem dM_run_182 : decode (zby mM_run) 182 = .ok (.aload_n 0, 1) := by decide +kernel
theorem dM_run_183 : decode (zby mM_run) 183 = .ok (.getfield 234, 3) := by decide +kernel
theorem dM_run_186 : decode (zby mM_run) 186 = .ok (.invokevirtual 99, 3) := by decide +kernel
theorem dM_run_189 : decode (zby mM_run) 189 = .ok (.ireturn, 1) := by decide +kernel
theorem dM_save_0 : decode (zby mM_save) 0 = .ok (.aload_n 0, 1) := by decide +kernel
theorem dM_save_1 : decode (zby mM_save) 1 = .ok (.iconst 0, 1) := by decide +kernel
theorem dM_save_2 : decode (zby mM_save) 2 = .ok (.putfield 45, 3) := by decide +kernel
theorem dM_save_5 : decode (zby mM_save) 5 = .ok (.iconst 0, 1) := by decide +kernel
theorem dM_save_6 : decode (zby mM_save) 6 = .ok (.istore_n 1, 1) := by decide +kernel
theorem dM_save_7 : decode (zby mM_save) 7 = .ok (.iload_n 1, 1) := by decide +kernel
theorem dM_save_8 : decode (zby mM_save) 8 = .ok (.sipush 246, 3) := by decide +kernel
theorem dM_save_11 : decode (zby mM_save) 11 = .ok (.if_icmp .ge 21, 3) := by decide +kernel
theorem dM_save_14 : decode (zby mM_save) 14 = .ok (.aload_n 0, 1) := by decide +kernel
theorem dM_save_15 : decode (zby mM_save) 15 = .ok (.getfield 16, 3) := by decide +kernel
theorem dM_save_18 : decode (zby mM_save) 18 = .ok (.iload_n 1, 1) := by decide +kernel
theorem dM_save_19 : decode (zby mM_save) 19 = .ok (.aload_n 0, 1) := by decide +kernel
theorem dM_save_20 : decode (zby mM_save) 20 = .ok (.getfield 9, 3) := by decide +kernel
theorem dM_save_23 : decode (zby mM_save) 23 = .ok (.iload_n 1, 1) := by decide +kernel
theorem dM_save_24 : decode (zby mM_save) 24 = .ok (.iaload, 1) := by decide +kernel
theorem dM_save_25 : decode (zby mM_save) 25 = .ok (.iastore, 1) := by decide +kernel
theorem dM_save_26 : decode (zby mM_save) 26 = .ok (.iinc 1 1, 3) := by decide +kernel
theorem dM_save_29 : decode (zby mM_save) 29 = .ok (.goto (-22), 3) := by decide +kernel
theorem dM_save_32 : decode (zby mM_save) 32 = .ok (.aload_n 0, 1) := by decide +kernel
theorem dM_save_33 : decode (zby mM_save) 33 = .ok (.iconst 1, 1) := by decide +kernel
theorem dM_save_34 : decode (zby mM_save) 34 = .ok (.putfield 249, 3) := by decide +kernel
theorem dM_save_37 : decode (zby mM_save) 37 = .ok (.aload_n 0, 1) := by decide +kernel
theorem dM_save_38 : decode (zby mM_save) 38 = .ok (.getfield 9, 3) := by decide +kernel
theorem dM_save_41 : decode (zby mM_save) 41 = .ok (.iconst 0, 1) := by decide +kernel
theorem dM_save_42 : decode (zby mM_save) 42 = .ok (.iaload, 1) := by decide +kernel
theorem dM_save_43 : decode (zby mM_save) 43 = .ok (.ireturn, 1) := by decide +kernel
theorem dM_score_0 : decode (zby mM_score) 0 = .ok (.iload_n 1, 1) := by decide +kernel
theorem dM_score_1 : decode (zby mM_score) 1 = .ok (.invokestatic 51, 3) := by decide +kernel
theorem dM_score_4 : decode (zby mM_score) 4 = .ok (.istore 4, 2) := by decide +kernel
theorem dM_score_6 : decode (zby mM_score) 6 = .ok (.bipush 10, 2) := by decide +kernel
theorem dM_score_8 : decode (zby mM_score) 8 = .ok (.aload_n 0, 1) := by decide +kernel
theorem dM_score_9 : decode (zby mM_score) 9 = .ok (.getfield 9, 3) := by decide +kernel
theorem dM_score_12 : decode (zby mM_score) 12 = .ok (.iload 4, 2) := by decide +kernel
theorem dM_score_14 : decode (zby mM_score) 14 = .ok (.iconst 1, 1) := by decide +kernel
theorem dM_score_15 : decode (zby mM_score) 15 = .ok (.iadd, 1) := by decide +kernel
theorem dM_score_16 : decode (zby mM_score) 16 = .ok (.iaload, 1) := by decide +kernel
theorem dM_score_17 : decode (zby mM_score) 17 = .ok (.imul, 1) := by decide +kernel
theorem dM_score_18 : decode (zby mM_score) 18 = .ok (.iconst 5, 1) := by decide +kernel
theorem dM_score_19 : decode (zby mM_score) 19 = .ok (.aload_n 0, 1) := by decide +kernel
theorem dM_score_20 : decode (zby mM_score) 20 = .ok (.iload_n 1, 1) := by decide +kernel
theorem dM_score_21 : decode (zby mM_score) 21 = .ok (.iload_n 2, 1) := by decide +kernel
theorem dM_score_22 : decode (zby mM_score) 22 = .ok (.iload_n 3, 1) := by decide +kernel
theorem dM_score_23 : decode (zby mM_score) 23 = .ok (.invokevirtual 70, 3) := by decide +kernel
theorem dM_score_26 : decode (zby mM_score) 26 = .ok (.imul, 1) := by decide +kernel
theorem dM_score_27 : decode (zby mM_score) 27 = .ok (.iadd, 1) := by decide +kernel
theorem dM_score_28 : decode (zby mM_score) 28 = .ok (.aload_n 0, 1) := by decide +kernel
theorem dM_score_29 : decode (zby mM_score) 29 = .ok (.getfield 9, 3) := by decide +kernel
theorem dM_score_32 : decode (zby mM_score) 32 = .ok (.iload 4, 2) := by decide +kernel
theorem dM_score_34 : decode (zby mM_score) 34 = .ok (.iconst 2, 1) := by decide +kernel
theorem dM_score_35 : decode (zby mM_score) 35 = .ok (.iadd, 1) := by decide +kernel
theorem dM_score_36 : decode (zby mM_score) 36 = .ok (.iaload, 1) := by decide +kernel
theorem dM_score_37 : decode (zby mM_score) 37 = .ok (.isub, 1) := by decide +kernel
theorem dM_score_38 : decode (zby mM_score) 38 = .ok (.ireturn, 1) := by decide +kernel
theorem dM_scoreOf_0 : decode (zby mM_scoreOf) 0 = .ok (.aload_n 0, 1) := by decide +kernel
theorem dM_scoreOf_1 : decode (zby mM_scoreOf) 1 = .ok (.iconst 0, 1) := by decide +kernel
theorem dM_scoreOf_2 : decode (zby mM_scoreOf) 2 = .ok (.putfield 45, 3) := by decide +kernel
theorem dM_scoreOf_5 : decode (zby mM_scoreOf) 5 = .ok (.aload_n 0, 1) := by decide +kernel
theorem dM_scoreOf_6 : decode (zby mM_scoreOf) 6 = .ok (.iload_n 1, 1) := by decide +kernel
theorem dM_scoreOf_7 : decode (zby mM_scoreOf) 7 = .ok (.invokevirtual 102, 3) := by decide +kernel
theorem dM_scoreOf_10 : decode (zby mM_scoreOf) 10 = .ok (.iconst (-1), 1) := by decide +kernel
theorem dM_scoreOf_11 : decode (zby mM_scoreOf) 11 = .ok (.if_icmp .ne 9, 3) := by decide +kernel
theorem dM_scoreOf_14 : decode (zby mM_scoreOf) 14 = .ok (.aload_n 0, 1) := by decide +kernel
theorem dM_scoreOf_15 : decode (zby mM_scoreOf) 15 = .ok (.iconst 1, 1) := by decide +kernel
theorem dM_scoreOf_16 : decode (zby mM_scoreOf) 16 = .ok (.invokevirtual 90, 3) := by decide +kernel
theorem dM_scoreOf_19 : decode (zby mM_scoreOf) 19 = .ok (.ireturn, 1) := by decide +kernel
theorem dM_scoreOf_20 : decode (zby mM_scoreOf) 20 = .ok (.iload_n 2, 1) := by decide +kernel
theorem dM_scoreOf_21 : decode (zby mM_scoreOf) 21 = .ok (.iload_n 3, 1) := by decide +kernel
theorem dM_scoreOf_22 : decode (zby mM_scoreOf) 22 = .ok (.iconst 3, 1) := by decide +kernel
theorem dM_scoreOf_23 : decode (zby mM_scoreOf) 23 = .ok (.invokestatic 143, 3) := by decide +kernel
theorem dM_scoreOf_26 : decode (zby mM_scoreOf) 26 = .ok (.ifCond .eq 17, 3) := by decide +kernel
theorem dM_scoreOf_29 : decode (zby mM_scoreOf) 29 = .ok (.aload_n 0, 1) := by decide +kernel
theorem dM_scoreOf_30 : decode (zby mM_scoreOf) 30 = .ok (.aload_n 0, 1) := by decide +kernel
theorem dM_scoreOf_31 : decode (zby mM_scoreOf) 31 = .ok (.iload_n 1, 1) := by decide +kernel
theorem dM_scoreOf_32 : decode (zby mM_scoreOf) 32 = .ok (.invokevirtual 102, 3) := by decide +kernel
theorem dM_scoreOf_35 : decode (zby mM_scoreOf) 35 = .ok (.iload_n 2, 1) := by decide +kernel
theorem dM_scoreOf_36 : decode (zby mM_scoreOf) 36 = .ok (.iload_n 3, 1) := by decide +kernel
theorem dM_scoreOf_37 : decode (zby mM_scoreOf) 37 = .ok (.invokevirtual 74, 3) := by decide +kernel
theorem dM_scoreOf_40 : decode (zby mM_scoreOf) 40 = .ok (.goto 8, 3) := by decide +kernel
theorem dM_scoreOf_43 : decode (zby mM_scoreOf) 43 = .ok (.aload_n 0, 1) := by decide +kernel
theorem dM_scoreOf_44 : decode (zby mM_scoreOf) 44 = .ok (.iconst 2, 1) := by decide +kernel
theorem dM_scoreOf_45 : decode (zby mM_scoreOf) 45 = .ok (.invokevirtual 90, 3) := by decide +kernel
theorem dM_scoreOf_48 : decode (zby mM_scoreOf) 48 = .ok (.ireturn, 1) := by decide +kernel
theorem dM_search_0 : decode (zby mM_search) 0 = .ok (.aload_n 0, 1) := by decide +kernel
theorem dM_search_1 : decode (zby mM_search) 1 = .ok (.invokevirtual 93, 3) := by decide +kernel
theorem dM_search_4 : decode (zby mM_search) 4 = .ok (.aload_n 0, 1) := by decide +kernel
theorem dM_search_5 : decode (zby mM_search) 5 = .ok (.aload_n 0, 1) := by decide +kernel
theorem dM_search_6 : decode (zby mM_search) 6 = .ok (.iload_n 1, 1) := by decide +kernel
theorem dM_search_7 : decode (zby mM_search) 7 = .ok (.iload_n 2, 1) := by decide +kernel
theorem dM_search_8 : decode (zby mM_search) 8 = .ok (.invokevirtual 146, 3) := by decide +kernel
theorem dM_search_11 : decode (zby mM_search) 11 = .ok (.invokevirtual 99, 3) := by decide +kernel
theorem dM_search_14 : decode (zby mM_search) 14 = .ok (.ireturn, 1) := by decide +kernel
theorem dM_searchIt_0 : decode (zby mM_searchIt) 0 = .ok (.iload_n 1, 1) := by decide +kernel
theorem dM_searchIt_1 : decode (zby mM_searchIt) 1 = .ok (.iload_n 2, 1) := by decide +kernel
theorem dM_searchIt_2 : decode (zby mM_searchIt) 2 = .ok (.iconst 3, 1) := by decide +kernel
theorem dM_searchIt_3 : decode (zby mM_searchIt) 3 = .ok (.invokestatic 143, 3) := by decide +kernel
theorem dM_searchIt_6 : decode (zby mM_searchIt) 6 = .ok (.ifCond .ne 9, 3) := by decide +kernel
theorem dM_searchIt_9 : decode (zby mM_searchIt) 9 = .ok (.aload_n 0, 1) := by decide +kernel
theorem dM_searchIt_10 : decode (zby mM_searchIt) 10 = .ok (.iconst 1, 1) := by decide +kernel
theorem dM_searchIt_11 : decode (zby mM_searchIt) 11 = .ok (.invokevirtual 90, 3) := by decide +kernel
theorem dM_searchIt_14 : decode (zby mM_searchIt) 14 = .ok (.ireturn, 1) := by decide +kernel
theorem dM_searchIt_15 : decode (zby mM_searchIt) 15 = .ok (.iconst 0, 1) := by decide +kernel
theorem dM_searchIt_16 : decode (zby mM_searchIt) 16 = .ok (.istore_n 3, 1) := by decide +kernel
theorem dM_searchIt_17 : decode (zby mM_searchIt) 17 = .ok (.iconst 0, 1) := by decide +kernel
theorem dM_searchIt_18 : decode (zby mM_searchIt) 18 = .ok (.istore 4, 2) := by decide +kernel
theorem dM_searchIt_20 : decode (zby mM_searchIt) 20 = .ok (.iload 4, 2) := by decide +kernel
theorem dM_searchIt_22 : decode (zby mM_searchIt) 22 = .ok (.aload_n 0, 1) := by decide +kernel
theorem dM_searchIt_23 : decode (zby mM_searchIt) 23 = .ok (.getfield 9, 3) := by decide +kernel
theorem dM_searchIt_26 : decode (zby mM_searchIt) 26 = .ok (.iconst 0, 1) := by decide +kernel
theorem dM_searchIt_27 : decode (zby mM_searchIt) 27 = .ok (.iaload, 1) := by decide +kernel
theorem dM_searchIt_28 : decode (zby mM_searchIt) 28 = .ok (.if_icmp .ge 52, 3) := by decide +kernel
theorem dM_searchIt_31 : decode (zby mM_searchIt) 31 = .ok (.aload_n 0, 1) := by decide +kernel
theorem dM_searchIt_32 : decode (zby mM_searchIt) 32 = .ok (.iload 4, 2) := by decide +kernel
theorem dM_searchIt_34 : decode (zby mM_searchIt) 34 = .ok (.iload_n 1, 1) := by decide +kernel
theorem dM_searchIt_35 : decode (zby mM_searchIt) 35 = .ok (.iload_n 2, 1) := by decide +kernel
theorem dM_searchIt_36 : decode (zby mM_searchIt) 36 = .ok (.invokevirtual 70, 3) := by decide +kernel
theorem dM_searchIt_39 : decode (zby mM_searchIt) 39 = .ok (.ifCond .le 35, 3) := by decide +kernel
theorem dM_searchIt_42 : decode (zby mM_searchIt) 42 = .ok (.aload_n 0, 1) := by decide +kernel
theorem dM_searchIt_43 : decode (zby mM_searchIt) 43 = .ok (.getfield 9, 3) := by decide +kernel
theorem dM_searchIt_46 : decode (zby mM_searchIt) 46 = .ok (.iload 4, 2) := by decide +kernel
theorem dM_searchIt_48 : decode (zby mM_searchIt) 48 = .ok (.invokestatic 51, 3) := by decide +kernel
theorem dM_searchIt_51 : decode (zby mM_searchIt) 51 = .ok (.iconst 2, 1) := by decide +kernel
theorem dM_searchIt_52 : decode (zby mM_searchIt) 52 = .ok (.iadd, 1) := by decide +kernel
theorem dM_searchIt_53 : decode (zby mM_searchIt) 53 = .ok (.iconst 0, 1) := by decide +kernel
theorem dM_searchIt_54 : decode (zby mM_searchIt) 54 = .ok (.iastore, 1) := by decide +kernel
theorem dM_searchIt_55 : decode (zby mM_searchIt) 55 = .ok (.aload_n 0, 1) := by decide +kernel
theorem dM_searchIt_56 : decode (zby mM_searchIt) 56 = .ok (.getfield 9, 3) := by decide +kernel
theorem dM_searchIt_59 : decode (zby mM_searchIt) 59 = .ok (.iload 4, 2) := by decide +kernel
theorem dM_searchIt_61 : decode (zby mM_searchIt) 61 = .ok (.invokestatic 51, 3) := by decide +kernel
theorem dM_searchIt_64 : decode (zby mM_searchIt) 64 = .ok (.iconst 3, 1) := by decide +kernel
theorem dM_searchIt_65 : decode (zby mM_searchIt) 65 = .ok (.iadd, 1) := by decide +kernel
theorem dM_searchIt_66 : decode (zby mM_searchIt) 66 = .ok (.dup2, 1) := by decide +kernel
theorem dM_searchIt_67 : decode (zby mM_searchIt) 67 = .ok (.iaload, 1) := by decide +kernel
theorem dM_searchIt_68 : decode (zby mM_searchIt) 68 = .ok (.iconst 1, 1) := by decide +kernel
theorem dM_searchIt_69 : decode (zby mM_searchIt) 69 = .ok (.iadd, 1) := by decide +kernel
theorem dM_searchIt_70 : decode (zby mM_searchIt) 70 = .ok (.iastore, 1) := by decide +kernel
theorem dM_searchIt_71 : decode (zby mM_searchIt) 71 = .ok (.iinc 3 1, 3) := by decide +kernel
theorem dM_searchIt_74 : decode (zby mM_searchIt) 74 = .ok (.iinc 4 1, 3) := by decide +kernel
theorem dM_searchIt_77 : decode (zby mM_searchIt) 77 = .ok (.goto (-57), 3) := by decide +kernel
theorem dM_searchIt_80 : decode (zby mM_searchIt) 80 = .ok (.iload_n 3, 1) := by decide +kernel
theorem dM_searchIt_81 : decode (zby mM_searchIt) 81 = .ok (.ireturn, 1) := by decide +kernel
theorem dM_segmentCount_0 : decode (zby mM_segmentCount) 0 = .ok (.aload_n 0, 1) := by decide +kernel
theorem dM_segmentCount_1 : decode (zby mM_segmentCount) 1 = .ok (.iconst 2, 1) := by decide +kernel
theorem dM_segmentCount_2 : decode (zby mM_segmentCount) 2 = .ok (.invokevirtual 154, 3) := by decide +kernel
theorem dM_segmentCount_5 : decode (zby mM_segmentCount) 5 = .ok (.ireturn, 1) := by decide +kernel
theorem dM_segmentIt_0 : decode (zby mM_segmentIt) 0 = .ok (.aload_n 0, 1) := by decide +kernel
theorem dM_segmentIt_1 : decode (zby mM_segmentIt) 1 = .ok (.getfield 9, 3) := by decide +kernel
theorem dM_segmentIt_4 : decode (zby mM_segmentIt) 4 = .ok (.iconst 2, 1) := by decide +kernel
theorem dM_segmentIt_5 : decode (zby mM_segmentIt) 5 = .ok (.iaload, 1) := by decide +kernel
theorem dM_segmentIt_6 : decode (zby mM_segmentIt) 6 = .ok (.iconst 5, 1) := by decide +kernel
theorem dM_segmentIt_7 : decode (zby mM_segmentIt) 7 = .ok (.if_icmp .ne 9, 3) := by decide +kernel
theorem dM_segmentIt_10 : decode (zby mM_segmentIt) 10 = .ok (.aload_n 0, 1) := by decide +kernel
theorem dM_segmentIt_11 : decode (zby mM_segmentIt) 11 = .ok (.iconst 1, 1) := by decide +kernel
theorem dM_segmentIt_12 : decode (zby mM_segmentIt) 12 = .ok (.invokevirtual 90, 3) := by decide +kernel
theorem dM_segmentIt_15 : decode (zby mM_segmentIt) 15 = .ok (.ireturn, 1) := by decide +kernel
theorem dM_segmentIt_16 : decode (zby mM_segmentIt) 16 = .ok (.aload_n 0, 1) := by decide +kernel
theorem dM_segmentIt_17 : decode (zby mM_segmentIt) 17 = .ok (.getfield 9, 3) := by decide +kernel
theorem dM_segmentIt_20 : decode (zby mM_segmentIt) 20 = .ok (.iconst 2, 1) := by decide +kernel
theorem dM_segmentIt_21 : decode (zby mM_segmentIt) 21 = .ok (.dup2, 1) := by decide +kernel
theorem dM_segmentIt_22 : decode (zby mM_segmentIt) 22 = .ok (.iaload, 1) := by decide +kernel
theorem dM_segmentIt_23 : decode (zby mM_segmentIt) 23 = .ok (.iconst 1, 1) := by decide +kernel
theorem dM_segmentIt_24 : decode (zby mM_segmentIt) 24 = .ok (.iadd, 1) := by decide +kernel
theorem dM_segmentIt_25 : decode (zby mM_segmentIt) 25 = .ok (.iastore, 1) := by decide +kernel
theorem dM_segmentIt_26 : decode (zby mM_segmentIt) 26 = .ok (.aload_n 0, 1) := by decide +kernel
theorem dM_segmentIt_27 : decode (zby mM_segmentIt) 27 = .ok (.getfield 9, 3) := by decide +kernel
theorem dM_segmentIt_30 : decode (zby mM_segmentIt) 30 = .ok (.iconst 2, 1) := by decide +kernel
theorem dM_segmentIt_31 : decode (zby mM_segmentIt) 31 = .ok (.iaload, 1) := by decide +kernel
theorem dM_segmentIt_32 : decode (zby mM_segmentIt) 32 = .ok (.iconst 1, 1) := by decide +kernel
theorem dM_segmentIt_33 : decode (zby mM_segmentIt) 33 = .ok (.isub, 1) := by decide +kernel
theorem dM_segmentIt_34 : decode (zby mM_segmentIt) 34 = .ok (.ireturn, 1) := by decide +kernel
theorem dM_segmentOf_0 : decode (zby mM_segmentOf) 0 = .ok (.aload_n 0, 1) := by decide +kernel
theorem dM_segmentOf_1 : decode (zby mM_segmentOf) 1 = .ok (.iload_n 1, 1) := by decide +kernel
theorem dM_segmentOf_2 : decode (zby mM_segmentOf) 2 = .ok (.iconst 4, 1) := by decide +kernel
theorem dM_segmentOf_3 : decode (zby mM_segmentOf) 3 = .ok (.invokevirtual 157, 3) := by decide +kernel
theorem dM_segmentOf_6 : decode (zby mM_segmentOf) 6 = .ok (.ireturn, 1) := by decide +kernel
theorem dM_sharedCodes_0 : decode (zby mM_sharedCodes) 0 = .ok (.aload_n 0, 1) := by decide +kernel
theorem dM_sharedCodes_1 : decode (zby mM_sharedCodes) 1 = .ok (.iconst 0, 1) := by decide +kernel
theorem dM_sharedCodes_2 : decode (zby mM_sharedCodes) 2 = .ok (.putfield 45, 3) := by decide +kernel
theorem dM_sharedCodes_5 : decode (zby mM_sharedCodes) 5 = .ok (.aload_n 0, 1) := by decide +kernel
theorem dM_sharedCodes_6 : decode (zby mM_sharedCodes) 6 = .ok (.iload_n 1, 1) := by decide +kernel
theorem dM_sharedCodes_7 : decode (zby mM_sharedCodes) 7 = .ok (.invokevirtual 102, 3) := by decide +kernel
theorem dM_sharedCodes_10 : decode (zby mM_sharedCodes) 10 = .ok (.iconst (-1), 1) := by decide +kernel
theorem dM_sharedCodes_11 : decode (zby mM_sharedCodes) 11 = .ok (.if_icmp .eq 12, 3) := by decide +kernel
theorem dM_sharedCodes_14 : decode (zby mM_sharedCodes) 14 = .ok (.aload_n 0, 1) := by decide +kernel
theorem dM_sharedCodes_15 : decode (zby mM_sharedCodes) 15 = .ok (.iload_n 2, 1) := by decide +kernel
theorem dM_sharedCodes_16 : decode (zby mM_sharedCodes) 16 = .ok (.invokevirtual 102, 3) := by decide +kernel
theorem dM_sharedCodes_19 : decode (zby mM_sharedCodes) 19 = .ok (.iconst (-1), 1) := by decide +kernel
theorem dM_sharedCodes_20 : decode (zby mM_sharedCodes) 20 = .ok (.if_icmp .ne 11, 3) := by decide +kernel
theorem dM_sharedCodes_23 : decode (zby mM_sharedCodes) 23 = .ok (.aload_n 0, 1) := by decide +kernel
theorem dM_sharedCodes_24 : decode (zby mM_sharedCodes) 24 = .ok (.iconst 1, 1) := by decide +kernel
theorem dM_sharedCodes_25 : decode (zby mM_sharedCodes) 25 = .ok (.invokevirtual 90, 3) := by decide +kernel
theorem dM_sharedCodes_28 : decode (zby mM_sharedCodes) 28 = .ok (.goto 17, 3) := by decide +kernel
theorem dM_sharedCodes_31 : decode (zby mM_sharedCodes) 31 = .ok (.aload_n 0, 1) := by decide +kernel
theorem dM_sharedCodes_32 : decode (zby mM_sharedCodes) 32 = .ok (.aload_n 0, 1) := by decide +kernel
theorem dM_sharedCodes_33 : decode (zby mM_sharedCodes) 33 = .ok (.iload_n 1, 1) := by decide +kernel
theorem dM_sharedCodes_34 : decode (zby mM_sharedCodes) 34 = .ok (.invokevirtual 102, 3) := by decide +kernel
theorem dM_sharedCodes_37 : decode (zby mM_sharedCodes) 37 = .ok (.aload_n 0, 1) := by decide +kernel
theorem dM_sharedCodes_38 : decode (zby mM_sharedCodes) 38 = .ok (.iload_n 2, 1) := by decide +kernel
theorem dM_sharedCodes_39 : decode (zby mM_sharedCodes) 39 = .ok (.invokevirtual 102, 3) := by decide +kernel
theorem dM_sharedCodes_42 : decode (zby mM_sharedCodes) 42 = .ok (.invokevirtual 127, 3) := by decide +kernel
theorem dM_sharedCodes_45 : decode (zby mM_sharedCodes) 45 = .ok (.ireturn, 1) := by decide +kernel
theorem dM_sharedDigits_0 : decode (zby mM_sharedDigits) 0 = .ok (.aload_n 0, 1) := by decide +kernel
theorem dM_sharedDigits_1 : decode (zby mM_sharedDigits) 1 = .ok (.iconst 0, 1) := by decide +kernel
theorem dM_sharedDigits_2 : decode (zby mM_sharedDigits) 2 = .ok (.putfield 45, 3) := by decide +kernel
theorem dM_sharedDigits_5 : decode (zby mM_sharedDigits) 5 = .ok (.iload_n 1, 1) := by decide +kernel
theorem dM_sharedDigits_6 : decode (zby mM_sharedDigits) 6 = .ok (.i2l, 1) := by decide +kernel
theorem dM_sharedDigits_7 : decode (zby mM_sharedDigits) 7 = .ok (.lconst 0, 1) := by decide +kernel
theorem dM_sharedDigits_8 : decode (zby mM_sharedDigits) 8 = .ok (.ldc2_w 105, 3) := by decide +kernel
theorem dM_sharedDigits_11 : decode (zby mM_sharedDigits) 11 = .ok (.invokestatic 55, 3) := by decide +kernel
theorem dM_sharedDigits_14 : decode (zby mM_sharedDigits) 14 = .ok (.ifCond .ne 9, 3) := by decide +kernel
theorem dM_sharedDigits_17 : decode (zby mM_sharedDigits) 17 = .ok (.aload_n 0, 1) := by decide +kernel
theorem dM_sharedDigits_18 : decode (zby mM_sharedDigits) 18 = .ok (.iconst 1, 1) := by decide +kernel
theorem dM_sharedDigits_19 : decode (zby mM_sharedDigits) 19 = .ok (.invokevirtual 90, 3) := by decide +kernel
theorem dM_sharedDigits_22 : decode (zby mM_sharedDigits) 22 = .ok (.ireturn, 1) := by decide +kernel
theorem dM_sharedDigits_23 : decode (zby mM_sharedDigits) 23 = .ok (.iconst 3, 1) := by decide +kernel
theorem dM_sharedDigits_24 : decode (zby mM_sharedDigits) 24 = .ok (.istore_n 2, 1) := by decide +kernel
theorem dM_sharedDigits_25 : decode (zby mM_sharedDigits) 25 = .ok (.iload_n 2, 1) := by decide +kernel
theorem dM_sharedDigits_26 : decode (zby mM_sharedDigits) 26 = .ok (.ifCond .le 25, 3) := by decide +kernel
theorem dM_sharedDigits_29 : decode (zby mM_sharedDigits) 29 = .ok (.aload_n 0, 1) := by decide +kernel
theorem dM_sharedDigits_30 : decode (zby mM_sharedDigits) 30 = .ok (.iload_n 2, 1) := by decide +kernel
theorem dM_sharedDigits_31 : decode (zby mM_sharedDigits) 31 = .ok (.iload_n 1, 1) := by decide +kernel
theorem dM_sharedDigits_32 : decode (zby mM_sharedDigits) 32 = .ok (.iconst 3, 1) := by decide +kernel
theorem dM_sharedDigits_33 : decode (zby mM_sharedDigits) 33 = .ok (.iload_n 2, 1) := by decide +kernel
theorem dM_sharedDigits_34 : decode (zby mM_sharedDigits) 34 = .ok (.isub, 1) := by decide +kernel
theorem dM_sharedDigits_35 : decode (zby mM_sharedDigits) 35 = .ok (.invokestatic 59, 3) := by decide +kernel
theorem dM_sharedDigits_38 : decode (zby mM_sharedDigits) 38 = .ok (.idiv, 1) := by decide +kernel
theorem dM_sharedDigits_39 : decode (zby mM_sharedDigits) 39 = .ok (.invokevirtual 77, 3) := by decide +kernel
theorem dM_sharedDigits_42 : decode (zby mM_sharedDigits) 42 = .ok (.ifCond .ne 9, 3) := by decide +kernel
theorem dM_sharedDigits_45 : decode (zby mM_sharedDigits) 45 = .ok (.iinc 2 (-1), 3) := by decide +kernel
theorem dM_sharedDigits_48 : decode (zby mM_sharedDigits) 48 = .ok (.goto (-23), 3) := by decide +kernel
theorem dM_sharedDigits_51 : decode (zby mM_sharedDigits) 51 = .ok (.iload_n 2, 1) := by decide +kernel
theorem dM_sharedDigits_52 : decode (zby mM_sharedDigits) 52 = .ok (.ireturn, 1) := by decide +kernel
theorem dM_sharedDigitsByScan_0 : decode (zby mM_sharedDigitsByScan) 0 = .ok (.aload_n 0, 1) := by decide +kernel
theorem dM_sharedDigitsByScan_1 : decode (zby mM_sharedDigitsByScan) 1 = .ok (.iload_n 1, 1) := by decide +kernel
theorem dM_sharedDigitsByScan_2 : decode (zby mM_sharedDigitsByScan) 2 = .ok (.invokevirtual 169, 3) := by decide +kernel
theorem dM_sharedDigitsByScan_5 : decode (zby mM_sharedDigitsByScan) 5 = .ok (.ireturn, 1) := by decide +kernel
theorem dM_sign_0 : decode (zby mM_sign) 0 = .ok (.aload_n 0, 1) := by decide +kernel
theorem dM_sign_1 : decode (zby mM_sign) 1 = .ok (.getfield 32, 3) := by decide +kernel
theorem dM_sign_4 : decode (zby mM_sign) 4 = .ok (.aload_n 0, 1) := by decide +kernel
theorem dM_sign_5 : decode (zby mM_sign) 5 = .ok (.getfield 180, 3) := by decide +kernel
theorem dM_sign_8 : decode (zby mM_sign) 8 = .ok (.iload_n 1, 1) := by decide +kernel
theorem dM_sign_9 : decode (zby mM_sign) 9 = .ok (.iastore, 1) := by decide +kernel
theorem dM_sign_10 : decode (zby mM_sign) 10 = .ok (.aload_n 0, 1) := by decide +kernel
theorem dM_sign_11 : decode (zby mM_sign) 11 = .ok (.dup, 1) := by decide +kernel
theorem dM_sign_12 : decode (zby mM_sign) 12 = .ok (.getfield 180, 3) := by decide +kernel
theorem dM_sign_15 : decode (zby mM_sign) 15 = .ok (.iconst 1, 1) := by decide +kernel
theorem dM_sign_16 : decode (zby mM_sign) 16 = .ok (.iadd, 1) := by decide +kernel
theorem dM_sign_17 : decode (zby mM_sign) 17 = .ok (.putfield 180, 3) := by decide +kernel
theorem dM_sign_20 : decode (zby mM_sign) 20 = .ok (.return_, 1) := by decide +kernel
theorem dM_startSegment_0 : decode (zby mM_startSegment) 0 = .ok (.aload_n 0, 1) := by decide +kernel
theorem dM_startSegment_1 : decode (zby mM_startSegment) 1 = .ok (.invokevirtual 93, 3) := by decide +kernel
theorem dM_startSegment_4 : decode (zby mM_startSegment) 4 = .ok (.aload_n 0, 1) := by decide +kernel
theorem dM_startSegment_5 : decode (zby mM_startSegment) 5 = .ok (.aload_n 0, 1) := by decide +kernel
theorem dM_startSegment_6 : decode (zby mM_startSegment) 6 = .ok (.invokevirtual 136, 3) := by decide +kernel
theorem dM_startSegment_9 : decode (zby mM_startSegment) 9 = .ok (.invokevirtual 99, 3) := by decide +kernel
theorem dM_startSegment_12 : decode (zby mM_startSegment) 12 = .ok (.ireturn, 1) := by decide +kernel
theorem dM_starts_0 : decode (zby mM_starts) 0 = .ok (.aload_n 0, 1) := by decide +kernel
theorem dM_starts_1 : decode (zby mM_starts) 1 = .ok (.iconst 0, 1) := by decide +kernel
theorem dM_starts_2 : decode (zby mM_starts) 2 = .ok (.putfield 45, 3) := by decide +kernel
theorem dM_starts_5 : decode (zby mM_starts) 5 = .ok (.iconst 0, 1) := by decide +kernel
theorem dM_starts_6 : decode (zby mM_starts) 6 = .ok (.istore_n 1, 1) := by decide +kernel
theorem dM_starts_7 : decode (zby mM_starts) 7 = .ok (.iload_n 1, 1) := by decide +kernel
theorem dM_starts_8 : decode (zby mM_starts) 8 = .ok (.sipush 246, 3) := by decide +kernel
theorem dM_starts_11 : decode (zby mM_starts) 11 = .ok (.if_icmp .ge 21, 3) := by decide +kernel
theorem dM_starts_14 : decode (zby mM_starts) 14 = .ok (.aload_n 0, 1) := by decide +kernel
theorem dM_starts_15 : decode (zby mM_starts) 15 = .ok (.getfield 13, 3) := by decide +kernel
theorem dM_starts_18 : decode (zby mM_starts) 18 = .ok (.iload_n 1, 1) := by decide +kernel
theorem dM_starts_19 : decode (zby mM_starts) 19 = .ok (.aload_n 0, 1) := by decide +kernel
theorem dM_starts_20 : decode (zby mM_starts) 20 = .ok (.getfield 9, 3) := by decide +kernel
theorem dM_starts_23 : decode (zby mM_starts) 23 = .ok (.iload_n 1, 1) := by decide +kernel
theorem dM_starts_24 : decode (zby mM_starts) 24 = .ok (.iaload, 1) := by decide +kernel
theorem dM_starts_25 : decode (zby mM_starts) 25 = .ok (.iastore, 1) := by decide +kernel
theorem dM_starts_26 : decode (zby mM_starts) 26 = .ok (.iinc 1 1, 3) := by decide +kernel
theorem dM_starts_29 : decode (zby mM_starts) 29 = .ok (.goto (-22), 3) := by decide +kernel
theorem dM_starts_32 : decode (zby mM_starts) 32 = .ok (.return_, 1) := by decide +kernel
theorem dM_throwing_0 : decode (zby mM_throwing) 0 = .ok (.aload_n 0, 1) := by decide +kernel
theorem dM_throwing_1 : decode (zby mM_throwing) 1 = .ok (.iload_n 1, 1) := by decide +kernel
theorem dM_throwing_2 : decode (zby mM_throwing) 2 = .ok (.putfield 45, 3) := by decide +kernel
theorem dM_throwing_5 : decode (zby mM_throwing) 5 = .ok (.iconst (-1), 1) := by decide +kernel
theorem dM_throwing_6 : decode (zby mM_throwing) 6 = .ok (.ireturn, 1) := by decide +kernel
theorem dM_thrown_0 : decode (zby mM_thrown) 0 = .ok (.aload_n 0, 1) := by decide +kernel
theorem dM_thrown_1 : decode (zby mM_thrown) 1 = .ok (.getfield 45, 3) := by decide +kernel
theorem dM_thrown_4 : decode (zby mM_thrown) 4 = .ok (.ireturn, 1) := by decide +kernel
theorem dM_total_0 : decode (zby mM_total) 0 = .ok (.aload_n 0, 1) := by decide +kernel
theorem dM_total_1 : decode (zby mM_total) 1 = .ok (.iconst 0, 1) := by decide +kernel
theorem dM_total_2 : decode (zby mM_total) 2 = .ok (.putfield 45, 3) := by decide +kernel
theorem dM_total_5 : decode (zby mM_total) 5 = .ok (.aload_n 0, 1) := by decide +kernel
theorem dM_total_6 : decode (zby mM_total) 6 = .ok (.getfield 9, 3) := by decide +kernel
theorem dM_total_9 : decode (zby mM_total) 9 = .ok (.iload_n 1, 1) := by decide +kernel
theorem dM_total_10 : decode (zby mM_total) 10 = .ok (.iaload, 1) := by decide +kernel
theorem dM_total_11 : decode (zby mM_total) 11 = .ok (.ireturn, 1) := by decide +kernel
theorem dM_touch_0 : decode (zby mM_touch) 0 = .ok (.aload_n 0, 1) := by decide +kernel
theorem dM_touch_1 : decode (zby mM_touch) 1 = .ok (.invokevirtual 93, 3) := by decide +kernel
theorem dM_touch_4 : decode (zby mM_touch) 4 = .ok (.aload_n 0, 1) := by decide +kernel
theorem dM_touch_5 : decode (zby mM_touch) 5 = .ok (.aload_n 0, 1) := by decide +kernel
theorem dM_touch_6 : decode (zby mM_touch) 6 = .ok (.iload_n 1, 1) := by decide +kernel
theorem dM_touch_7 : decode (zby mM_touch) 7 = .ok (.invokevirtual 124, 3) := by decide +kernel
theorem dM_touch_10 : decode (zby mM_touch) 10 = .ok (.invokevirtual 99, 3) := by decide +kernel
theorem dM_touch_13 : decode (zby mM_touch) 13 = .ok (.ireturn, 1) := by decide +kernel
theorem dM_touchIt_0 : decode (zby mM_touchIt) 0 = .ok (.aload_n 0, 1) := by decide +kernel
theorem dM_touchIt_1 : decode (zby mM_touchIt) 1 = .ok (.iload_n 1, 1) := by decide +kernel
theorem dM_touchIt_2 : decode (zby mM_touchIt) 2 = .ok (.invokevirtual 102, 3) := by decide +kernel
theorem dM_touchIt_5 : decode (zby mM_touchIt) 5 = .ok (.istore_n 2, 1) := by decide +kernel
theorem dM_touchIt_6 : decode (zby mM_touchIt) 6 = .ok (.iload_n 2, 1) := by decide +kernel
theorem dM_touchIt_7 : decode (zby mM_touchIt) 7 = .ok (.iconst (-1), 1) := by decide +kernel
theorem dM_touchIt_8 : decode (zby mM_touchIt) 8 = .ok (.if_icmp .ne 9, 3) := by decide +kernel
theorem dM_touchIt_11 : decode (zby mM_touchIt) 11 = .ok (.aload_n 0, 1) := by decide +kernel
theorem dM_touchIt_12 : decode (zby mM_touchIt) 12 = .ok (.iconst 1, 1) := by decide +kernel
theorem dM_touchIt_13 : decode (zby mM_touchIt) 13 = .ok (.invokevirtual 90, 3) := by decide +kernel
theorem dM_touchIt_16 : decode (zby mM_touchIt) 16 = .ok (.ireturn, 1) := by decide +kernel
theorem dM_touchIt_17 : decode (zby mM_touchIt) 17 = .ok (.aload_n 0, 1) := by decide +kernel
theorem dM_touchIt_18 : decode (zby mM_touchIt) 18 = .ok (.getfield 9, 3) := by decide +kernel
theorem dM_touchIt_21 : decode (zby mM_touchIt) 21 = .ok (.iload_n 2, 1) := by decide +kernel
theorem dM_touchIt_22 : decode (zby mM_touchIt) 22 = .ok (.invokestatic 51, 3) := by decide +kernel
theorem dM_touchIt_25 : decode (zby mM_touchIt) 25 = .ok (.iconst 2, 1) := by decide +kernel
theorem dM_touchIt_26 : decode (zby mM_touchIt) 26 = .ok (.iadd, 1) := by decide +kernel
theorem dM_touchIt_27 : decode (zby mM_touchIt) 27 = .ok (.iaload, 1) := by decide +kernel
theorem dM_touchIt_28 : decode (zby mM_touchIt) 28 = .ok (.istore_n 3, 1) := by decide +kernel
theorem dM_touchIt_29 : decode (zby mM_touchIt) 29 = .ok (.aload_n 0, 1) := by decide +kernel
theorem dM_touchIt_30 : decode (zby mM_touchIt) 30 = .ok (.getfield 9, 3) := by decide +kernel
theorem dM_touchIt_33 : decode (zby mM_touchIt) 33 = .ok (.iload_n 2, 1) := by decide +kernel
theorem dM_touchIt_34 : decode (zby mM_touchIt) 34 = .ok (.invokestatic 51, 3) := by decide +kernel
theorem dM_touchIt_37 : decode (zby mM_touchIt) 37 = .ok (.iconst 2, 1) := by decide +kernel
theorem dM_touchIt_38 : decode (zby mM_touchIt) 38 = .ok (.iadd, 1) := by decide +kernel
theorem dM_touchIt_39 : decode (zby mM_touchIt) 39 = .ok (.iconst 0, 1) := by decide +kernel
theorem dM_touchIt_40 : decode (zby mM_touchIt) 40 = .ok (.iastore, 1) := by decide +kernel
theorem dM_touchIt_41 : decode (zby mM_touchIt) 41 = .ok (.iload_n 3, 1) := by decide +kernel
theorem dM_touchIt_42 : decode (zby mM_touchIt) 42 = .ok (.ireturn, 1) := by decide +kernel
theorem dM_uncodeIt_0 : decode (zby mM_uncodeIt) 0 = .ok (.aload_n 0, 1) := by decide +kernel
theorem dM_uncodeIt_1 : decode (zby mM_uncodeIt) 1 = .ok (.iload_n 1, 1) := by decide +kernel
theorem dM_uncodeIt_2 : decode (zby mM_uncodeIt) 2 = .ok (.invokevirtual 102, 3) := by decide +kernel
theorem dM_uncodeIt_5 : decode (zby mM_uncodeIt) 5 = .ok (.istore_n 3, 1) := by decide +kernel
theorem dM_uncodeIt_6 : decode (zby mM_uncodeIt) 6 = .ok (.iload_n 3, 1) := by decide +kernel
theorem dM_uncodeIt_7 : decode (zby mM_uncodeIt) 7 = .ok (.iconst (-1), 1) := by decide +kernel
theorem dM_uncodeIt_8 : decode (zby mM_uncodeIt) 8 = .ok (.if_icmp .ne 9, 3) := by decide +kernel
theorem dM_uncodeIt_11 : decode (zby mM_uncodeIt) 11 = .ok (.aload_n 0, 1) := by decide +kernel
theorem dM_uncodeIt_12 : decode (zby mM_uncodeIt) 12 = .ok (.iconst 1, 1) := by decide +kernel
theorem dM_uncodeIt_13 : decode (zby mM_uncodeIt) 13 = .ok (.invokevirtual 90, 3) := by decide +kernel
theorem dM_uncodeIt_16 : decode (zby mM_uncodeIt) 16 = .ok (.ireturn, 1) := by decide +kernel
theorem dM_uncodeIt_17 : decode (zby mM_uncodeIt) 17 = .ok (.iload_n 2, 1) := by decide +kernel
theorem dM_uncodeIt_18 : decode (zby mM_uncodeIt) 18 = .ok (.i2l, 1) := by decide +kernel
theorem dM_uncodeIt_19 : decode (zby mM_uncodeIt) 19 = .ok (.lconst 0, 1) := by decide +kernel
theorem dM_uncodeIt_20 : decode (zby mM_uncodeIt) 20 = .ok (.ldc2_w 105, 3) := by decide +kernel
theorem dM_uncodeIt_23 : decode (zby mM_uncodeIt) 23 = .ok (.invokestatic 55, 3) := by decide +kernel
theorem dM_uncodeIt_26 : decode (zby mM_uncodeIt) 26 = .ok (.ifCond .ne 9, 3) := by decide +kernel
theorem dM_uncodeIt_29 : decode (zby mM_uncodeIt) 29 = .ok (.aload_n 0, 1) := by decide +kernel
theorem dM_uncodeIt_30 : decode (zby mM_uncodeIt) 30 = .ok (.iconst 2, 1) := by decide +kernel
theorem dM_uncodeIt_31 : decode (zby mM_uncodeIt) 31 = .ok (.invokevirtual 90, 3) := by decide +kernel
theorem dM_uncodeIt_34 : decode (zby mM_uncodeIt) 34 = .ok (.ireturn, 1) := by decide +kernel
theorem dM_uncodeIt_35 : decode (zby mM_uncodeIt) 35 = .ok (.aload_n 0, 1) := by decide +kernel
theorem dM_uncodeIt_36 : decode (zby mM_uncodeIt) 36 = .ok (.iload_n 3, 1) := by decide +kernel
theorem dM_uncodeIt_37 : decode (zby mM_uncodeIt) 37 = .ok (.iconst 3, 1) := by decide +kernel
theorem dM_uncodeIt_38 : decode (zby mM_uncodeIt) 38 = .ok (.iload_n 2, 1) := by decide +kernel
theorem dM_uncodeIt_39 : decode (zby mM_uncodeIt) 39 = .ok (.invokevirtual 70, 3) := by decide +kernel
theorem dM_uncodeIt_42 : decode (zby mM_uncodeIt) 42 = .ok (.ifCond .ne 9, 3) := by decide +kernel
theorem dM_uncodeIt_45 : decode (zby mM_uncodeIt) 45 = .ok (.aload_n 0, 1) := by decide +kernel
theorem dM_uncodeIt_46 : decode (zby mM_uncodeIt) 46 = .ok (.iconst 3, 1) := by decide +kernel
theorem dM_uncodeIt_47 : decode (zby mM_uncodeIt) 47 = .ok (.invokevirtual 90, 3) := by decide +kernel
theorem dM_uncodeIt_50 : decode (zby mM_uncodeIt) 50 = .ok (.ireturn, 1) := by decide +kernel
theorem dM_uncodeIt_51 : decode (zby mM_uncodeIt) 51 = .ok (.iload_n 3, 1) := by decide +kernel
theorem dM_uncodeIt_52 : decode (zby mM_uncodeIt) 52 = .ok (.invokestatic 51, 3) := by decide +kernel
theorem dM_uncodeIt_55 : decode (zby mM_uncodeIt) 55 = .ok (.istore 4, 2) := by decide +kernel
theorem dM_uncodeIt_57 : decode (zby mM_uncodeIt) 57 = .ok (.iconst 0, 1) := by decide +kernel
theorem dM_uncodeIt_58 : decode (zby mM_uncodeIt) 58 = .ok (.istore 5, 2) := by decide +kernel
theorem dM_uncodeIt_60 : decode (zby mM_uncodeIt) 60 = .ok (.aload_n 0, 1) := by decide +kernel
theorem dM_uncodeIt_61 : decode (zby mM_uncodeIt) 61 = .ok (.iload_n 3, 1) := by decide +kernel
theorem dM_uncodeIt_62 : decode (zby mM_uncodeIt) 62 = .ok (.iload 5, 2) := by decide +kernel
theorem dM_uncodeIt_64 : decode (zby mM_uncodeIt) 64 = .ok (.invokevirtual 62, 3) := by decide +kernel
theorem dM_uncodeIt_67 : decode (zby mM_uncodeIt) 67 = .ok (.iload_n 2, 1) := by decide +kernel
theorem dM_uncodeIt_68 : decode (zby mM_uncodeIt) 68 = .ok (.if_icmp .eq 9, 3) := by decide +kernel
theorem dM_uncodeIt_71 : decode (zby mM_uncodeIt) 71 = .ok (.iinc 5 1, 3) := by decide +kernel
theorem dM_uncodeIt_74 : decode (zby mM_uncodeIt) 74 = .ok (.goto (-14), 3) := by decide +kernel
theorem dM_uncodeIt_77 : decode (zby mM_uncodeIt) 77 = .ok (.iload 5, 2) := by decide +kernel
theorem dM_uncodeIt_79 : decode (zby mM_uncodeIt) 79 = .ok (.istore 6, 2) := by decide +kernel
theorem dM_uncodeIt_81 : decode (zby mM_uncodeIt) 81 = .ok (.iload 6, 2) := by decide +kernel
theorem dM_uncodeIt_83 : decode (zby mM_uncodeIt) 83 = .ok (.iconst 5, 1) := by decide +kernel
theorem dM_uncodeIt_84 : decode (zby mM_uncodeIt) 84 = .ok (.if_icmp .ge 37, 3) := by decide +kernel
theorem dM_uncodeIt_87 : decode (zby mM_uncodeIt) 87 = .ok (.aload_n 0, 1) := by decide +kernel
theorem dM_uncodeIt_88 : decode (zby mM_uncodeIt) 88 = .ok (.getfield 9, 3) := by decide +kernel
theorem dM_uncodeIt_91 : decode (zby mM_uncodeIt) 91 = .ok (.iload 4, 2) := by decide +kernel
theorem dM_uncodeIt_93 : decode (zby mM_uncodeIt) 93 = .ok (.bipush 6, 2) := by decide +kernel
theorem dM_uncodeIt_95 : decode (zby mM_uncodeIt) 95 = .ok (.iadd, 1) := by decide +kernel
theorem dM_uncodeIt_96 : decode (zby mM_uncodeIt) 96 = .ok (.iload 6, 2) := by decide +kernel
theorem dM_uncodeIt_98 : decode (zby mM_uncodeIt) 98 = .ok (.iadd, 1) := by decide +kernel
theorem dM_uncodeIt_99 : decode (zby mM_uncodeIt) 99 = .ok (.aload_n 0, 1) := by decide +kernel
theorem dM_uncodeIt_100 : decode (zby mM_uncodeIt) 100 = .ok (.getfield 9, 3) := by decide +kernel
theorem dM_uncodeIt_103 : decode (zby mM_uncodeIt) 103 = .ok (.iload 4, 2) := by decide +kernel
theorem dM_uncodeIt_105 : decode (zby mM_uncodeIt) 105 = .ok (.bipush 6, 2) := by decide +kernel
theorem dM_uncodeIt_107 : decode (zby mM_uncodeIt) 107 = .ok (.iadd, 1) := by decide +kernel
theorem dM_uncodeIt_108 : decode (zby mM_uncodeIt) 108 = .ok (.iload 6, 2) := by decide +kernel
theorem dM_uncodeIt_110 : decode (zby mM_uncodeIt) 110 = .ok (.iadd, 1) := by decide +kernel
theorem dM_uncodeIt_111 : decode (zby mM_uncodeIt) 111 = .ok (.iconst 1, 1) := by decide +kernel
theorem dM_uncodeIt_112 : decode (zby mM_uncodeIt) 112 = .ok (.iadd, 1) := by decide +kernel
theorem dM_uncodeIt_113 : decode (zby mM_uncodeIt) 113 = .ok (.iaload, 1) := by decide +kernel
theorem dM_uncodeIt_114 : decode (zby mM_uncodeIt) 114 = .ok (.iastore, 1) := by decide +kernel
theorem dM_uncodeIt_115 : decode (zby mM_uncodeIt) 115 = .ok (.iinc 6 1, 3) := by decide +kernel
theorem dM_uncodeIt_118 : decode (zby mM_uncodeIt) 118 = .ok (.goto (-37), 3) := by decide +kernel
theorem dM_uncodeIt_121 : decode (zby mM_uncodeIt) 121 = .ok (.aload_n 0, 1) := by decide +kernel
theorem dM_uncodeIt_122 : decode (zby mM_uncodeIt) 122 = .ok (.getfield 9, 3) := by decide +kernel
theorem dM_uncodeIt_125 : decode (zby mM_uncodeIt) 125 = .ok (.iload 4, 2) := by decide +kernel
theorem dM_uncodeIt_127 : decode (zby mM_uncodeIt) 127 = .ok (.bipush 6, 2) := by decide +kernel
theorem dM_uncodeIt_129 : decode (zby mM_uncodeIt) 129 = .ok (.iadd, 1) := by decide +kernel
theorem dM_uncodeIt_130 : decode (zby mM_uncodeIt) 130 = .ok (.bipush 6, 2) := by decide +kernel
theorem dM_uncodeIt_132 : decode (zby mM_uncodeIt) 132 = .ok (.iadd, 1) := by decide +kernel
theorem dM_uncodeIt_133 : decode (zby mM_uncodeIt) 133 = .ok (.iconst 1, 1) := by decide +kernel
theorem dM_uncodeIt_134 : decode (zby mM_uncodeIt) 134 = .ok (.isub, 1) := by decide +kernel
theorem dM_uncodeIt_135 : decode (zby mM_uncodeIt) 135 = .ok (.iconst 0, 1) := by decide +kernel
theorem dM_uncodeIt_136 : decode (zby mM_uncodeIt) 136 = .ok (.iastore, 1) := by decide +kernel
theorem dM_uncodeIt_137 : decode (zby mM_uncodeIt) 137 = .ok (.aload_n 0, 1) := by decide +kernel
theorem dM_uncodeIt_138 : decode (zby mM_uncodeIt) 138 = .ok (.getfield 9, 3) := by decide +kernel
theorem dM_uncodeIt_141 : decode (zby mM_uncodeIt) 141 = .ok (.iload 4, 2) := by decide +kernel
theorem dM_uncodeIt_143 : decode (zby mM_uncodeIt) 143 = .ok (.iconst 5, 1) := by decide +kernel
theorem dM_uncodeIt_144 : decode (zby mM_uncodeIt) 144 = .ok (.iadd, 1) := by decide +kernel
theorem dM_uncodeIt_145 : decode (zby mM_uncodeIt) 145 = .ok (.dup2, 1) := by decide +kernel
theorem dM_uncodeIt_146 : decode (zby mM_uncodeIt) 146 = .ok (.iaload, 1) := by decide +kernel
theorem dM_uncodeIt_147 : decode (zby mM_uncodeIt) 147 = .ok (.iconst 1, 1) := by decide +kernel
theorem dM_uncodeIt_148 : decode (zby mM_uncodeIt) 148 = .ok (.isub, 1) := by decide +kernel
theorem dM_uncodeIt_149 : decode (zby mM_uncodeIt) 149 = .ok (.iastore, 1) := by decide +kernel
theorem dM_uncodeIt_150 : decode (zby mM_uncodeIt) 150 = .ok (.aload_n 0, 1) := by decide +kernel
theorem dM_uncodeIt_151 : decode (zby mM_uncodeIt) 151 = .ok (.getfield 9, 3) := by decide +kernel
theorem dM_uncodeIt_154 : decode (zby mM_uncodeIt) 154 = .ok (.iload 4, 2) := by decide +kernel
theorem dM_uncodeIt_156 : decode (zby mM_uncodeIt) 156 = .ok (.iconst 5, 1) := by decide +kernel
theorem dM_uncodeIt_157 : decode (zby mM_uncodeIt) 157 = .ok (.iadd, 1) := by decide +kernel
theorem dM_uncodeIt_158 : decode (zby mM_uncodeIt) 158 = .ok (.iaload, 1) := by decide +kernel
theorem dM_uncodeIt_159 : decode (zby mM_uncodeIt) 159 = .ok (.ireturn, 1) := by decide +kernel
theorem dM_undo_0 : decode (zby mM_undo) 0 = .ok (.aload_n 0, 1) := by decide +kernel
theorem dM_undo_1 : decode (zby mM_undo) 1 = .ok (.iconst 0, 1) := by decide +kernel
theorem dM_undo_2 : decode (zby mM_undo) 2 = .ok (.putfield 45, 3) := by decide +kernel
theorem dM_undo_5 : decode (zby mM_undo) 5 = .ok (.aload_n 0, 1) := by decide +kernel
theorem dM_undo_6 : decode (zby mM_undo) 6 = .ok (.getfield 48, 3) := by decide +kernel
theorem dM_undo_9 : decode (zby mM_undo) 9 = .ok (.ifCond .ne 9, 3) := by decide +kernel
theorem dM_undo_12 : decode (zby mM_undo) 12 = .ok (.aload_n 0, 1) := by decide +kernel
theorem dM_undo_13 : decode (zby mM_undo) 13 = .ok (.iconst 1, 1) := by decide +kernel
theorem dM_undo_14 : decode (zby mM_undo) 14 = .ok (.invokevirtual 90, 3) := by decide +kernel
theorem dM_undo_17 : decode (zby mM_undo) 17 = .ok (.ireturn, 1) := by decide +kernel
theorem dM_undo_18 : decode (zby mM_undo) 18 = .ok (.aload_n 0, 1) := by decide +kernel
theorem dM_undo_19 : decode (zby mM_undo) 19 = .ok (.dup, 1) := by decide +kernel
theorem dM_undo_20 : decode (zby mM_undo) 20 = .ok (.getfield 48, 3) := by decide +kernel
theorem dM_undo_23 : decode (zby mM_undo) 23 = .ok (.iconst 1, 1) := by decide +kernel
theorem dM_undo_24 : decode (zby mM_undo) 24 = .ok (.isub, 1) := by decide +kernel
theorem dM_undo_25 : decode (zby mM_undo) 25 = .ok (.putfield 48, 3) := by decide +kernel
theorem dM_undo_28 : decode (zby mM_undo) 28 = .ok (.iconst 0, 1) := by decide +kernel
theorem dM_undo_29 : decode (zby mM_undo) 29 = .ok (.istore_n 1, 1) := by decide +kernel
theorem dM_undo_30 : decode (zby mM_undo) 30 = .ok (.iload_n 1, 1) := by decide +kernel
theorem dM_undo_31 : decode (zby mM_undo) 31 = .ok (.sipush 246, 3) := by decide +kernel
theorem dM_undo_34 : decode (zby mM_undo) 34 = .ok (.if_icmp .ge 30, 3) := by decide +kernel
theorem dM_undo_37 : decode (zby mM_undo) 37 = .ok (.aload_n 0, 1) := by decide +kernel
theorem dM_undo_38 : decode (zby mM_undo) 38 = .ok (.getfield 9, 3) := by decide +kernel
theorem dM_undo_41 : decode (zby mM_undo) 41 = .ok (.iload_n 1, 1) := by decide +kernel
theorem dM_undo_42 : decode (zby mM_undo) 42 = .ok (.aload_n 0, 1) := by decide +kernel
theorem dM_undo_43 : decode (zby mM_undo) 43 = .ok (.getfield 19, 3) := by decide +kernel
theorem dM_undo_46 : decode (zby mM_undo) 46 = .ok (.sipush 246, 3) := by decide +kernel
theorem dM_undo_49 : decode (zby mM_undo) 49 = .ok (.aload_n 0, 1) := by decide +kernel
theorem dM_undo_50 : decode (zby mM_undo) 50 = .ok (.getfield 48, 3) := by decide +kernel
theorem dM_undo_53 : decode (zby mM_undo) 53 = .ok (.imul, 1) := by decide +kernel
theorem dM_undo_54 : decode (zby mM_undo) 54 = .ok (.iload_n 1, 1) := by decide +kernel
theorem dM_undo_55 : decode (zby mM_undo) 55 = .ok (.iadd, 1) := by decide +kernel
theorem dM_undo_56 : decode (zby mM_undo) 56 = .ok (.iaload, 1) := by decide +kernel
theorem dM_undo_57 : decode (zby mM_undo) 57 = .ok (.iastore, 1) := by decide +kernel
theorem dM_undo_58 : decode (zby mM_undo) 58 = .ok (.iinc 1 1, 3) := by decide +kernel
theorem dM_undo_61 : decode (zby mM_undo) 61 = .ok (.goto (-31), 3) := by decide +kernel
theorem dM_undo_64 : decode (zby mM_undo) 64 = .ok (.aload_n 0, 1) := by decide +kernel
theorem dM_undo_65 : decode (zby mM_undo) 65 = .ok (.getfield 48, 3) := by decide +kernel
theorem dM_undo_68 : decode (zby mM_undo) 68 = .ok (.ireturn, 1) := by decide +kernel
theorem dM_undoableCount_0 : decode (zby mM_undoableCount) 0 = .ok (.aload_n 0, 1) := by decide +kernel
theorem dM_undoableCount_1 : decode (zby mM_undoableCount) 1 = .ok (.iconst 0, 1) := by decide +kernel
theorem dM_undoableCount_2 : decode (zby mM_undoableCount) 2 = .ok (.putfield 45, 3) := by decide +kernel
theorem dM_undoableCount_5 : decode (zby mM_undoableCount) 5 = .ok (.aload_n 0, 1) := by decide +kernel
theorem dM_undoableCount_6 : decode (zby mM_undoableCount) 6 = .ok (.getfield 48, 3) := by decide +kernel
theorem dM_undoableCount_9 : decode (zby mM_undoableCount) 9 = .ok (.ireturn, 1) := by decide +kernel
theorem dM_weightOf_0 : decode (zby mM_weightOf) 0 = .ok (.aload_n 0, 1) := by decide +kernel
theorem dM_weightOf_1 : decode (zby mM_weightOf) 1 = .ok (.iload_n 1, 1) := by decide +kernel
theorem dM_weightOf_2 : decode (zby mM_weightOf) 2 = .ok (.iconst 1, 1) := by decide +kernel
theorem dM_weightOf_3 : decode (zby mM_weightOf) 3 = .ok (.invokevirtual 157, 3) := by decide +kernel
theorem dM_weightOf_6 : decode (zby mM_weightOf) 6 = .ok (.ireturn, 1) := by decide +kernel
theorem dM_writes_0 : decode (zby mM_writes) 0 = .ok (.aload_n 0, 1) := by decide +kernel
theorem dM_writes_1 : decode (zby mM_writes) 1 = .ok (.iload_n 1, 1) := by decide +kernel
theorem dM_writes_2 : decode (zby mM_writes) 2 = .ok (.invokevirtual 183, 3) := by decide +kernel
theorem dM_writes_5 : decode (zby mM_writes) 5 = .ok (.aload_n 0, 1) := by decide +kernel
theorem dM_writes_6 : decode (zby mM_writes) 6 = .ok (.iload_n 2, 1) := by decide +kernel
theorem dM_writes_7 : decode (zby mM_writes) 7 = .ok (.invokevirtual 189, 3) := by decide +kernel
theorem dM_writes_10 : decode (zby mM_writes) 10 = .ok (.return_, 1) := by decide +kernel
theorem dM_writesNumber_0 : decode (zby mM_writesNumber) 0 = .ok (.iload_n 1, 1) := by decide +kernel
theorem dM_writesNumber_1 : decode (zby mM_writesNumber) 1 = .ok (.ifCond .ge 9, 3) := by decide +kernel
theorem dM_writesNumber_4 : decode (zby mM_writesNumber) 4 = .ok (.aload_n 0, 1) := by decide +kernel
theorem dM_writesNumber_5 : decode (zby mM_writesNumber) 5 = .ok (.bipush 45, 2) := by decide +kernel
theorem dM_writesNumber_7 : decode (zby mM_writesNumber) 7 = .ok (.invokevirtual 183, 3) := by decide +kernel
theorem dM_writesNumber_10 : decode (zby mM_writesNumber) 10 = .ok (.iload_n 1, 1) := by decide +kernel
theorem dM_writesNumber_11 : decode (zby mM_writesNumber) 11 = .ok (.invokestatic 186, 3) := by decide +kernel
theorem dM_writesNumber_14 : decode (zby mM_writesNumber) 14 = .ok (.istore_n 2, 1) := by decide +kernel
theorem dM_writesNumber_15 : decode (zby mM_writesNumber) 15 = .ok (.iconst 1, 1) := by decide +kernel
theorem dM_writesNumber_16 : decode (zby mM_writesNumber) 16 = .ok (.istore_n 3, 1) := by decide +kernel
theorem dM_writesNumber_17 : decode (zby mM_writesNumber) 17 = .ok (.iload_n 2, 1) := by decide +kernel
theorem dM_writesNumber_18 : decode (zby mM_writesNumber) 18 = .ok (.iload_n 3, 1) := by decide +kernel
theorem dM_writesNumber_19 : decode (zby mM_writesNumber) 19 = .ok (.idiv, 1) := by decide +kernel
theorem dM_writesNumber_20 : decode (zby mM_writesNumber) 20 = .ok (.bipush 9, 2) := by decide +kernel
theorem dM_writesNumber_22 : decode (zby mM_writesNumber) 22 = .ok (.if_icmp .le 11, 3) := by decide +kernel
theorem dM_writesNumber_25 : decode (zby mM_writesNumber) 25 = .ok (.iload_n 3, 1) := by decide +kernel
theorem dM_writesNumber_26 : decode (zby mM_writesNumber) 26 = .ok (.bipush 10, 2) := by decide +kernel
theorem dM_writesNumber_28 : decode (zby mM_writesNumber) 28 = .ok (.imul, 1) := by decide +kernel
theorem dM_writesNumber_29 : decode (zby mM_writesNumber) 29 = .ok (.istore_n 3, 1) := by decide +kernel
theorem dM_writesNumber_30 : decode (zby mM_writesNumber) 30 = .ok (.goto (-13), 3) := by decide +kernel
theorem dM_writesNumber_33 : decode (zby mM_writesNumber) 33 = .ok (.iload_n 3, 1) := by decide +kernel
theorem dM_writesNumber_34 : decode (zby mM_writesNumber) 34 = .ok (.ifCond .le 24, 3) := by decide +kernel
theorem dM_writesNumber_37 : decode (zby mM_writesNumber) 37 = .ok (.aload_n 0, 1) := by decide +kernel
theorem dM_writesNumber_38 : decode (zby mM_writesNumber) 38 = .ok (.bipush 48, 2) := by decide +kernel
theorem dM_writesNumber_40 : decode (zby mM_writesNumber) 40 = .ok (.iload_n 2, 1) := by decide +kernel
theorem dM_writesNumber_41 : decode (zby mM_writesNumber) 41 = .ok (.iload_n 3, 1) := by decide +kernel
theorem dM_writesNumber_42 : decode (zby mM_writesNumber) 42 = .ok (.idiv, 1) := by decide +kernel
theorem dM_writesNumber_43 : decode (zby mM_writesNumber) 43 = .ok (.bipush 10, 2) := by decide +kernel
theorem dM_writesNumber_45 : decode (zby mM_writesNumber) 45 = .ok (.irem, 1) := by decide +kernel
theorem dM_writesNumber_46 : decode (zby mM_writesNumber) 46 = .ok (.iadd, 1) := by decide +kernel
theorem dM_writesNumber_47 : decode (zby mM_writesNumber) 47 = .ok (.invokevirtual 183, 3) := by decide +kernel
theorem dM_writesNumber_50 : decode (zby mM_writesNumber) 50 = .ok (.iload_n 3, 1) := by decide +kernel
theorem dM_writesNumber_51 : decode (zby mM_writesNumber) 51 = .ok (.bipush 10, 2) := by decide +kernel
theorem dM_writesNumber_53 : decode (zby mM_writesNumber) 53 = .ok (.idiv, 1) := by decide +kernel
theorem dM_writesNumber_54 : decode (zby mM_writesNumber) 54 = .ok (.istore_n 3, 1) := by decide +kernel
theorem dM_writesNumber_55 : decode (zby mM_writesNumber) 55 = .ok (.goto (-22), 3) := by decide +kernel
theorem dM_writesNumber_58 : decode (zby mM_writesNumber) 58 = .ok (.return_, 1) := by decide +kernel
