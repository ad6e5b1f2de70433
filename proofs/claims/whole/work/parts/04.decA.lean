/-! decode rows, by program -/
theorem dA_fill_0 : decode (zby mA_fill) 0 = .ok (.iconst 0, 1) := by decide +kernel
theorem dA_fill_1 : decode (zby mA_fill) 1 = .ok (.istore_n 2, 1) := by decide +kernel
theorem dA_fill_2 : decode (zby mA_fill) 2 = .ok (.aload_n 0, 1) := by decide +kernel
theorem dA_fill_3 : decode (zby mA_fill) 3 = .ok (.arraylength, 1) := by decide +kernel
theorem dA_fill_4 : decode (zby mA_fill) 4 = .ok (.istore_n 3, 1) := by decide +kernel
theorem dA_fill_5 : decode (zby mA_fill) 5 = .ok (.iload_n 2, 1) := by decide +kernel
theorem dA_fill_6 : decode (zby mA_fill) 6 = .ok (.iload_n 3, 1) := by decide +kernel
theorem dA_fill_7 : decode (zby mA_fill) 7 = .ok (.if_icmp .ge 13, 3) := by decide +kernel
theorem dA_fill_10 : decode (zby mA_fill) 10 = .ok (.aload_n 0, 1) := by decide +kernel
theorem dA_fill_11 : decode (zby mA_fill) 11 = .ok (.iload_n 2, 1) := by decide +kernel
theorem dA_fill_12 : decode (zby mA_fill) 12 = .ok (.iload_n 1, 1) := by decide +kernel
theorem dA_fill_13 : decode (zby mA_fill) 13 = .ok (.iastore, 1) := by decide +kernel
theorem dA_fill_14 : decode (zby mA_fill) 14 = .ok (.iinc 2 1, 3) := by decide +kernel
theorem dA_fill_17 : decode (zby mA_fill) 17 = .ok (.goto (-12), 3) := by decide +kernel
theorem dA_fill_20 : decode (zby mA_fill) 20 = .ok (.return_, 1) := by decide +kernel
theorem dC_copyFrom_0 : decode (zby mC_copyFrom) 0 = .ok (.iconst 0, 1) := by decide +kernel
theorem dC_copyFrom_1 : decode (zby mC_copyFrom) 1 = .ok (.istore_n 2, 1) := by decide +kernel
theorem dC_copyFrom_2 : decode (zby mC_copyFrom) 2 = .ok (.iload_n 2, 1) := by decide +kernel
theorem dC_copyFrom_3 : decode (zby mC_copyFrom) 3 = .ok (.aload_n 1, 1) := by decide +kernel
theorem dC_copyFrom_4 : decode (zby mC_copyFrom) 4 = .ok (.getfield 17, 3) := by decide +kernel
theorem dC_copyFrom_7 : decode (zby mC_copyFrom) 7 = .ok (.if_icmp .ge 24, 3) := by decide +kernel
theorem dC_copyFrom_10 : decode (zby mC_copyFrom) 10 = .ok (.aload_n 0, 1) := by decide +kernel
theorem dC_copyFrom_11 : decode (zby mC_copyFrom) 11 = .ok (.getfield 11, 3) := by decide +kernel
theorem dC_copyFrom_14 : decode (zby mC_copyFrom) 14 = .ok (.iload_n 2, 1) := by decide +kernel
theorem dC_copyFrom_15 : decode (zby mC_copyFrom) 15 = .ok (.aaload, 1) := by decide +kernel
theorem dC_copyFrom_16 : decode (zby mC_copyFrom) 16 = .ok (.aload_n 1, 1) := by decide +kernel
theorem dC_copyFrom_17 : decode (zby mC_copyFrom) 17 = .ok (.getfield 11, 3) := by decide +kernel
theorem dC_copyFrom_20 : decode (zby mC_copyFrom) 20 = .ok (.iload_n 2, 1) := by decide +kernel
theorem dC_copyFrom_21 : decode (zby mC_copyFrom) 21 = .ok (.aaload, 1) := by decide +kernel
theorem dC_copyFrom_22 : decode (zby mC_copyFrom) 22 = .ok (.invokevirtual 40, 3) := by decide +kernel
theorem dC_copyFrom_25 : decode (zby mC_copyFrom) 25 = .ok (.iinc 2 1, 3) := by decide +kernel
theorem dC_copyFrom_28 : decode (zby mC_copyFrom) 28 = .ok (.goto (-26), 3) := by decide +kernel
theorem dC_copyFrom_31 : decode (zby mC_copyFrom) 31 = .ok (.aload_n 0, 1) := by decide +kernel
theorem dC_copyFrom_32 : decode (zby mC_copyFrom) 32 = .ok (.aload_n 1, 1) := by decide +kernel
theorem dC_copyFrom_33 : decode (zby mC_copyFrom) 33 = .ok (.getfield 17, 3) := by decide +kernel
theorem dC_copyFrom_36 : decode (zby mC_copyFrom) 36 = .ok (.putfield 17, 3) := by decide +kernel
theorem dC_copyFrom_39 : decode (zby mC_copyFrom) 39 = .ok (.aload_n 0, 1) := by decide +kernel
theorem dC_copyFrom_40 : decode (zby mC_copyFrom) 40 = .ok (.aload_n 1, 1) := by decide +kernel
theorem dC_copyFrom_41 : decode (zby mC_copyFrom) 41 = .ok (.getfield 21, 3) := by decide +kernel
theorem dC_copyFrom_44 : decode (zby mC_copyFrom) 44 = .ok (.putfield 21, 3) := by decide +kernel
theorem dC_copyFrom_47 : decode (zby mC_copyFrom) 47 = .ok (.aload_n 0, 1) := by decide +kernel
theorem dC_copyFrom_48 : decode (zby mC_copyFrom) 48 = .ok (.aload_n 1, 1) := by decide +kernel
theorem dC_copyFrom_49 : decode (zby mC_copyFrom) 49 = .ok (.getfield 24, 3) := by decide +kernel
theorem dC_copyFrom_52 : decode (zby mC_copyFrom) 52 = .ok (.putfield 24, 3) := by decide +kernel
theorem dC_copyFrom_55 : decode (zby mC_copyFrom) 55 = .ok (.aload_n 0, 1) := by decide +kernel
theorem dC_copyFrom_56 : decode (zby mC_copyFrom) 56 = .ok (.aload_n 1, 1) := by decide +kernel
theorem dC_copyFrom_57 : decode (zby mC_copyFrom) 57 = .ok (.getfield 27, 3) := by decide +kernel
theorem dC_copyFrom_60 : decode (zby mC_copyFrom) 60 = .ok (.putfield 27, 3) := by decide +kernel
theorem dC_copyFrom_63 : decode (zby mC_copyFrom) 63 = .ok (.aload_n 0, 1) := by decide +kernel
theorem dC_copyFrom_64 : decode (zby mC_copyFrom) 64 = .ok (.aload_n 1, 1) := by decide +kernel
theorem dC_copyFrom_65 : decode (zby mC_copyFrom) 65 = .ok (.getfield 30, 3) := by decide +kernel
theorem dC_copyFrom_68 : decode (zby mC_copyFrom) 68 = .ok (.putfield 30, 3) := by decide +kernel
theorem dC_copyFrom_71 : decode (zby mC_copyFrom) 71 = .ok (.aload_n 0, 1) := by decide +kernel
theorem dC_copyFrom_72 : decode (zby mC_copyFrom) 72 = .ok (.aload_n 1, 1) := by decide +kernel
theorem dC_copyFrom_73 : decode (zby mC_copyFrom) 73 = .ok (.getfield 33, 3) := by decide +kernel
theorem dC_copyFrom_76 : decode (zby mC_copyFrom) 76 = .ok (.putfield 33, 3) := by decide +kernel
theorem dC_copyFrom_79 : decode (zby mC_copyFrom) 79 = .ok (.aload_n 0, 1) := by decide +kernel
theorem dC_copyFrom_80 : decode (zby mC_copyFrom) 80 = .ok (.aload_n 1, 1) := by decide +kernel
theorem dC_copyFrom_81 : decode (zby mC_copyFrom) 81 = .ok (.getfield 36, 3) := by decide +kernel
theorem dC_copyFrom_84 : decode (zby mC_copyFrom) 84 = .ok (.putfield 36, 3) := by decide +kernel
theorem dC_copyFrom_87 : decode (zby mC_copyFrom) 87 = .ok (.return_, 1) := by decide +kernel
theorem dC_discard_0 : decode (zby mC_discard) 0 = .ok (.iconst 0, 1) := by decide +kernel
theorem dC_discard_1 : decode (zby mC_discard) 1 = .ok (.istore_n 2, 1) := by decide +kernel
theorem dC_discard_2 : decode (zby mC_discard) 2 = .ok (.iconst 0, 1) := by decide +kernel
theorem dC_discard_3 : decode (zby mC_discard) 3 = .ok (.istore_n 3, 1) := by decide +kernel
theorem dC_discard_4 : decode (zby mC_discard) 4 = .ok (.iload_n 3, 1) := by decide +kernel
theorem dC_discard_5 : decode (zby mC_discard) 5 = .ok (.aload_n 0, 1) := by decide +kernel
theorem dC_discard_6 : decode (zby mC_discard) 6 = .ok (.getfield 17, 3) := by decide +kernel
theorem dC_discard_9 : decode (zby mC_discard) 9 = .ok (.if_icmp .ge 40, 3) := by decide +kernel
theorem dC_discard_12 : decode (zby mC_discard) 12 = .ok (.aload_n 0, 1) := by decide +kernel
theorem dC_discard_13 : decode (zby mC_discard) 13 = .ok (.getfield 11, 3) := by decide +kernel
theorem dC_discard_16 : decode (zby mC_discard) 16 = .ok (.iload_n 3, 1) := by decide +kernel
theorem dC_discard_17 : decode (zby mC_discard) 17 = .ok (.aaload, 1) := by decide +kernel
theorem dC_discard_18 : decode (zby mC_discard) 18 = .ok (.getfield 44, 3) := by decide +kernel
theorem dC_discard_21 : decode (zby mC_discard) 21 = .ok (.aload_n 1, 1) := by decide +kernel
theorem dC_discard_22 : decode (zby mC_discard) 22 = .ok (.getfield 44, 3) := by decide +kernel
theorem dC_discard_25 : decode (zby mC_discard) 25 = .ok (.if_icmp .eq 18, 3) := by decide +kernel
theorem dC_discard_28 : decode (zby mC_discard) 28 = .ok (.aload_n 0, 1) := by decide +kernel
theorem dC_discard_29 : decode (zby mC_discard) 29 = .ok (.getfield 11, 3) := by decide +kernel
theorem dC_discard_32 : decode (zby mC_discard) 32 = .ok (.iload_n 2, 1) := by decide +kernel
theorem dC_discard_33 : decode (zby mC_discard) 33 = .ok (.aload_n 0, 1) := by decide +kernel
theorem dC_discard_34 : decode (zby mC_discard) 34 = .ok (.getfield 11, 3) := by decide +kernel
theorem dC_discard_37 : decode (zby mC_discard) 37 = .ok (.iload_n 3, 1) := by decide +kernel
theorem dC_discard_38 : decode (zby mC_discard) 38 = .ok (.aaload, 1) := by decide +kernel
theorem dC_discard_39 : decode (zby mC_discard) 39 = .ok (.aastore, 1) := by decide +kernel
theorem dC_discard_40 : decode (zby mC_discard) 40 = .ok (.iinc 2 1, 3) := by decide +kernel
theorem dC_discard_43 : decode (zby mC_discard) 43 = .ok (.iinc 3 1, 3) := by decide +kernel
theorem dC_discard_46 : decode (zby mC_discard) 46 = .ok (.goto (-42), 3) := by decide +kernel
theorem dC_discard_49 : decode (zby mC_discard) 49 = .ok (.iload_n 2, 1) := by decide +kernel
theorem dC_discard_50 : decode (zby mC_discard) 50 = .ok (.aload_n 0, 1) := by decide +kernel
theorem dC_discard_51 : decode (zby mC_discard) 51 = .ok (.getfield 17, 3) := by decide +kernel
theorem dC_discard_54 : decode (zby mC_discard) 54 = .ok (.if_icmp .ge 15, 3) := by decide +kernel
theorem dC_discard_57 : decode (zby mC_discard) 57 = .ok (.aload_n 0, 1) := by decide +kernel
theorem dC_discard_58 : decode (zby mC_discard) 58 = .ok (.getfield 11, 3) := by decide +kernel
theorem dC_discard_61 : decode (zby mC_discard) 61 = .ok (.iload_n 2, 1) := by decide +kernel
theorem dC_discard_62 : decode (zby mC_discard) 62 = .ok (.aload_n 1, 1) := by decide +kernel
theorem dC_discard_63 : decode (zby mC_discard) 63 = .ok (.aastore, 1) := by decide +kernel
theorem dC_discard_64 : decode (zby mC_discard) 64 = .ok (.aload_n 0, 1) := by decide +kernel
theorem dC_discard_65 : decode (zby mC_discard) 65 = .ok (.iload_n 2, 1) := by decide +kernel
theorem dC_discard_66 : decode (zby mC_discard) 66 = .ok (.putfield 17, 3) := by decide +kernel
theorem dC_discard_69 : decode (zby mC_discard) 69 = .ok (.return_, 1) := by decide +kernel
theorem dC_find_0 : decode (zby mC_find) 0 = .ok (.iconst 0, 1) := by decide +kernel
theorem dC_find_1 : decode (zby mC_find) 1 = .ok (.istore_n 2, 1) := by decide +kernel
theorem dC_find_2 : decode (zby mC_find) 2 = .ok (.iload_n 2, 1) := by decide +kernel
theorem dC_find_3 : decode (zby mC_find) 3 = .ok (.aload_n 0, 1) := by decide +kernel
theorem dC_find_4 : decode (zby mC_find) 4 = .ok (.getfield 17, 3) := by decide +kernel
theorem dC_find_7 : decode (zby mC_find) 7 = .ok (.if_icmp .ge 29, 3) := by decide +kernel
theorem dC_find_10 : decode (zby mC_find) 10 = .ok (.aload_n 0, 1) := by decide +kernel
theorem dC_find_11 : decode (zby mC_find) 11 = .ok (.getfield 11, 3) := by decide +kernel
theorem dC_find_14 : decode (zby mC_find) 14 = .ok (.iload_n 2, 1) := by decide +kernel
theorem dC_find_15 : decode (zby mC_find) 15 = .ok (.aaload, 1) := by decide +kernel
theorem dC_find_16 : decode (zby mC_find) 16 = .ok (.getfield 44, 3) := by decide +kernel
theorem dC_find_19 : decode (zby mC_find) 19 = .ok (.iload_n 1, 1) := by decide +kernel
theorem dC_find_20 : decode (zby mC_find) 20 = .ok (.if_icmp .ne 10, 3) := by decide +kernel
theorem dC_find_23 : decode (zby mC_find) 23 = .ok (.aload_n 0, 1) := by decide +kernel
theorem dC_find_24 : decode (zby mC_find) 24 = .ok (.getfield 11, 3) := by decide +kernel
theorem dC_find_27 : decode (zby mC_find) 27 = .ok (.iload_n 2, 1) := by decide +kernel
theorem dC_find_28 : decode (zby mC_find) 28 = .ok (.aaload, 1) := by decide +kernel
theorem dC_find_29 : decode (zby mC_find) 29 = .ok (.areturn, 1) := by decide +kernel
theorem dC_find_30 : decode (zby mC_find) 30 = .ok (.iinc 2 1, 3) := by decide +kernel
theorem dC_find_33 : decode (zby mC_find) 33 = .ok (.goto (-31), 3) := by decide +kernel
theorem dC_find_36 : decode (zby mC_find) 36 = .ok (.aconst_null, 1) := by decide +kernel
theorem dC_find_37 : decode (zby mC_find) 37 = .ok (.areturn, 1) := by decide +kernel
theorem dC_freshen_0 : decode (zby mC_freshen) 0 = .ok (.aload_n 0, 1) := by decide +kernel
theorem dC_freshen_1 : decode (zby mC_freshen) 1 = .ok (.iload_n 1, 1) := by decide +kernel
theorem dC_freshen_2 : decode (zby mC_freshen) 2 = .ok (.invokevirtual 84, 3) := by decide +kernel
theorem dC_freshen_5 : decode (zby mC_freshen) 5 = .ok (.astore_n 2, 1) := by decide +kernel
theorem dC_freshen_6 : decode (zby mC_freshen) 6 = .ok (.aload_n 2, 1) := by decide +kernel
theorem dC_freshen_7 : decode (zby mC_freshen) 7 = .ok (.ifnonnull 5, 3) := by decide +kernel
theorem dC_freshen_10 : decode (zby mC_freshen) 10 = .ok (.iconst (-1), 1) := by decide +kernel
theorem dC_freshen_11 : decode (zby mC_freshen) 11 = .ok (.ireturn, 1) := by decide +kernel
theorem dC_freshen_12 : decode (zby mC_freshen) 12 = .ok (.aload_n 2, 1) := by decide +kernel
theorem dC_freshen_13 : decode (zby mC_freshen) 13 = .ok (.getfield 108, 3) := by decide +kernel
theorem dC_freshen_16 : decode (zby mC_freshen) 16 = .ok (.istore_n 3, 1) := by decide +kernel
theorem dC_freshen_17 : decode (zby mC_freshen) 17 = .ok (.aload_n 2, 1) := by decide +kernel
theorem dC_freshen_18 : decode (zby mC_freshen) 18 = .ok (.iconst 0, 1) := by decide +kernel
theorem dC_freshen_19 : decode (zby mC_freshen) 19 = .ok (.putfield 108, 3) := by decide +kernel
theorem dC_freshen_22 : decode (zby mC_freshen) 22 = .ok (.iload_n 3, 1) := by decide +kernel
theorem dC_freshen_23 : decode (zby mC_freshen) 23 = .ok (.ireturn, 1) := by decide +kernel
theorem dC_hitAll_0 : decode (zby mC_hitAll) 0 = .ok (.iload_n 1, 1) := by decide +kernel
theorem dC_hitAll_1 : decode (zby mC_hitAll) 1 = .ok (.iload_n 2, 1) := by decide +kernel
theorem dC_hitAll_2 : decode (zby mC_hitAll) 2 = .ok (.invokestatic 121, 3) := by decide +kernel
theorem dC_hitAll_5 : decode (zby mC_hitAll) 5 = .ok (.ifCond .ne 6, 3) := by decide +kernel
theorem dC_hitAll_8 : decode (zby mC_hitAll) 8 = .ok (.bipush (-2), 2) := by decide +kernel
theorem dC_hitAll_10 : decode (zby mC_hitAll) 10 = .ok (.ireturn, 1) := by decide +kernel
theorem dC_hitAll_11 : decode (zby mC_hitAll) 11 = .ok (.iconst 0, 1) := by decide +kernel
theorem dC_hitAll_12 : decode (zby mC_hitAll) 12 = .ok (.istore_n 3, 1) := by decide +kernel
theorem dC_hitAll_13 : decode (zby mC_hitAll) 13 = .ok (.iconst 0, 1) := by decide +kernel
theorem dC_hitAll_14 : decode (zby mC_hitAll) 14 = .ok (.istore 4, 2) := by decide +kernel
theorem dC_hitAll_16 : decode (zby mC_hitAll) 16 = .ok (.iload 4, 2) := by decide +kernel
theorem dC_hitAll_18 : decode (zby mC_hitAll) 18 = .ok (.aload_n 0, 1) := by decide +kernel
theorem dC_hitAll_19 : decode (zby mC_hitAll) 19 = .ok (.getfield 17, 3) := by decide +kernel
theorem dC_hitAll_22 : decode (zby mC_hitAll) 22 = .ok (.if_icmp .ge 48, 3) := by decide +kernel
theorem dC_hitAll_25 : decode (zby mC_hitAll) 25 = .ok (.aload_n 0, 1) := by decide +kernel
theorem dC_hitAll_26 : decode (zby mC_hitAll) 26 = .ok (.getfield 11, 3) := by decide +kernel
theorem dC_hitAll_29 : decode (zby mC_hitAll) 29 = .ok (.iload 4, 2) := by decide +kernel
theorem dC_hitAll_31 : decode (zby mC_hitAll) 31 = .ok (.aaload, 1) := by decide +kernel
theorem dC_hitAll_32 : decode (zby mC_hitAll) 32 = .ok (.astore 5, 2) := by decide +kernel
theorem dC_hitAll_34 : decode (zby mC_hitAll) 34 = .ok (.aload 5, 2) := by decide +kernel
theorem dC_hitAll_36 : decode (zby mC_hitAll) 36 = .ok (.iload_n 1, 1) := by decide +kernel
theorem dC_hitAll_37 : decode (zby mC_hitAll) 37 = .ok (.iload_n 2, 1) := by decide +kernel
theorem dC_hitAll_38 : decode (zby mC_hitAll) 38 = .ok (.invokevirtual 125, 3) := by decide +kernel
theorem dC_hitAll_41 : decode (zby mC_hitAll) 41 = .ok (.ifCond .le 23, 3) := by decide +kernel
theorem dC_hitAll_44 : decode (zby mC_hitAll) 44 = .ok (.aload 5, 2) := by decide +kernel
theorem dC_hitAll_46 : decode (zby mC_hitAll) 46 = .ok (.iconst 0, 1) := by decide +kernel
theorem dC_hitAll_47 : decode (zby mC_hitAll) 47 = .ok (.putfield 108, 3) := by decide +kernel
theorem dC_hitAll_50 : decode (zby mC_hitAll) 50 = .ok (.aload 5, 2) := by decide +kernel
theorem dC_hitAll_52 : decode (zby mC_hitAll) 52 = .ok (.dup, 1) := by decide +kernel
theorem dC_hitAll_53 : decode (zby mC_hitAll) 53 = .ok (.getfield 128, 3) := by decide +kernel
theorem dC_hitAll_56 : decode (zby mC_hitAll) 56 = .ok (.iconst 1, 1) := by decide +kernel
theorem dC_hitAll_57 : decode (zby mC_hitAll) 57 = .ok (.iadd, 1) := by decide +kernel
theorem dC_hitAll_58 : decode (zby mC_hitAll) 58 = .ok (.putfield 128, 3) := by decide +kernel
theorem dC_hitAll_61 : decode (zby mC_hitAll) 61 = .ok (.iinc 3 1, 3) := by decide +kernel
theorem dC_hitAll_64 : decode (zby mC_hitAll) 64 = .ok (.iinc 4 1, 3) := by decide +kernel
theorem dC_hitAll_67 : decode (zby mC_hitAll) 67 = .ok (.goto (-51), 3) := by decide +kernel
theorem dC_hitAll_70 : decode (zby mC_hitAll) 70 = .ok (.iload_n 3, 1) := by decide +kernel
theorem dC_hitAll_71 : decode (zby mC_hitAll) 71 = .ok (.ireturn, 1) := by decide +kernel
theorem dC_init_0 : decode (zby mC_init) 0 = .ok (.aload_n 0, 1) := by decide +kernel
theorem dC_init_1 : decode (zby mC_init) 1 = .ok (.invokespecial 3, 3) := by decide +kernel
theorem dC_init_4 : decode (zby mC_init) 4 = .ok (.aload_n 0, 1) := by decide +kernel
theorem dC_init_5 : decode (zby mC_init) 5 = .ok (.bipush 20, 2) := by decide +kernel
theorem dC_init_7 : decode (zby mC_init) 7 = .ok (.anewarray 9, 3) := by decide +kernel
theorem dC_init_10 : decode (zby mC_init) 10 = .ok (.putfield 11, 3) := by decide +kernel
theorem dC_init_13 : decode (zby mC_init) 13 = .ok (.aload_n 0, 1) := by decide +kernel
theorem dC_init_14 : decode (zby mC_init) 14 = .ok (.iconst 0, 1) := by decide +kernel
theorem dC_init_15 : decode (zby mC_init) 15 = .ok (.putfield 17, 3) := by decide +kernel
theorem dC_init_18 : decode (zby mC_init) 18 = .ok (.aload_n 0, 1) := by decide +kernel
theorem dC_init_19 : decode (zby mC_init) 19 = .ok (.iconst 0, 1) := by decide +kernel
theorem dC_init_20 : decode (zby mC_init) 20 = .ok (.putfield 21, 3) := by decide +kernel
theorem dC_init_23 : decode (zby mC_init) 23 = .ok (.aload_n 0, 1) := by decide +kernel
theorem dC_init_24 : decode (zby mC_init) 24 = .ok (.iconst 1, 1) := by decide +kernel
theorem dC_init_25 : decode (zby mC_init) 25 = .ok (.putfield 24, 3) := by decide +kernel
theorem dC_init_28 : decode (zby mC_init) 28 = .ok (.aload_n 0, 1) := by decide +kernel
theorem dC_init_29 : decode (zby mC_init) 29 = .ok (.iconst 0, 1) := by decide +kernel
theorem dC_init_30 : decode (zby mC_init) 30 = .ok (.putfield 27, 3) := by decide +kernel
theorem dC_init_33 : decode (zby mC_init) 33 = .ok (.aload_n 0, 1) := by decide +kernel
theorem dC_init_34 : decode (zby mC_init) 34 = .ok (.iconst 0, 1) := by decide +kernel
theorem dC_init_35 : decode (zby mC_init) 35 = .ok (.putfield 30, 3) := by decide +kernel
theorem dC_init_38 : decode (zby mC_init) 38 = .ok (.aload_n 0, 1) := by decide +kernel
theorem dC_init_39 : decode (zby mC_init) 39 = .ok (.iconst 0, 1) := by decide +kernel
theorem dC_init_40 : decode (zby mC_init) 40 = .ok (.putfield 33, 3) := by decide +kernel
theorem dC_init_43 : decode (zby mC_init) 43 = .ok (.aload_n 0, 1) := by decide +kernel
theorem dC_init_44 : decode (zby mC_init) 44 = .ok (.iconst 0, 1) := by decide +kernel
theorem dC_init_45 : decode (zby mC_init) 45 = .ok (.putfield 36, 3) := by decide +kernel
theorem dC_init_48 : decode (zby mC_init) 48 = .ok (.iconst 0, 1) := by decide +kernel
theorem dC_init_49 : decode (zby mC_init) 49 = .ok (.istore_n 1, 1) := by decide +kernel
theorem dC_init_50 : decode (zby mC_init) 50 = .ok (.iload_n 1, 1) := by decide +kernel
theorem dC_init_51 : decode (zby mC_init) 51 = .ok (.bipush 20, 2) := by decide +kernel
theorem dC_init_53 : decode (zby mC_init) 53 = .ok (.if_icmp .ge 22, 3) := by decide +kernel
theorem dC_init_56 : decode (zby mC_init) 56 = .ok (.aload_n 0, 1) := by decide +kernel
theorem dC_init_57 : decode (zby mC_init) 57 = .ok (.getfield 11, 3) := by decide +kernel
theorem dC_init_60 : decode (zby mC_init) 60 = .ok (.iload_n 1, 1) := by decide +kernel
theorem dC_init_61 : decode (zby mC_init) 61 = .ok (.new 9, 3) := by decide +kernel
theorem dC_init_64 : decode (zby mC_init) 64 = .ok (.dup, 1) := by decide +kernel
theorem dC_init_65 : decode (zby mC_init) 65 = .ok (.invokespecial 39, 3) := by decide +kernel
theorem dC_init_68 : decode (zby mC_init) 68 = .ok (.aastore, 1) := by decide +kernel
theorem dC_init_69 : decode (zby mC_init) 69 = .ok (.iinc 1 1, 3) := by decide +kernel
theorem dC_init_72 : decode (zby mC_init) 72 = .ok (.goto (-22), 3) := by decide +kernel
theorem dC_init_75 : decode (zby mC_init) 75 = .ok (.return_, 1) := by decide +kernel
theorem dC_joinWithNext_0 : decode (zby mC_joinWithNext) 0 = .ok (.iload_n 1, 1) := by decide +kernel
theorem dC_joinWithNext_1 : decode (zby mC_joinWithNext) 1 = .ok (.ifCond .lt 11, 3) := by decide +kernel
theorem dC_joinWithNext_4 : decode (zby mC_joinWithNext) 4 = .ok (.iload_n 1, 1) := by decide +kernel
theorem dC_joinWithNext_5 : decode (zby mC_joinWithNext) 5 = .ok (.aload_n 0, 1) := by decide +kernel
theorem dC_joinWithNext_6 : decode (zby mC_joinWithNext) 6 = .ok (.getfield 24, 3) := by decide +kernel
theorem dC_joinWithNext_9 : decode (zby mC_joinWithNext) 9 = .ok (.if_icmp .lt 6, 3) := by decide +kernel
theorem dC_joinWithNext_12 : decode (zby mC_joinWithNext) 12 = .ok (.bipush (-4), 2) := by decide +kernel
theorem dC_joinWithNext_14 : decode (zby mC_joinWithNext) 14 = .ok (.ireturn, 1) := by decide +kernel
theorem dC_joinWithNext_15 : decode (zby mC_joinWithNext) 15 = .ok (.iload_n 1, 1) := by decide +kernel
theorem dC_joinWithNext_16 : decode (zby mC_joinWithNext) 16 = .ok (.aload_n 0, 1) := by decide +kernel
theorem dC_joinWithNext_17 : decode (zby mC_joinWithNext) 17 = .ok (.getfield 24, 3) := by decide +kernel
theorem dC_joinWithNext_20 : decode (zby mC_joinWithNext) 20 = .ok (.iconst 1, 1) := by decide +kernel
theorem dC_joinWithNext_21 : decode (zby mC_joinWithNext) 21 = .ok (.isub, 1) := by decide +kernel
theorem dC_joinWithNext_22 : decode (zby mC_joinWithNext) 22 = .ok (.if_icmp .ne 6, 3) := by decide +kernel
theorem dC_joinWithNext_25 : decode (zby mC_joinWithNext) 25 = .ok (.bipush (-3), 2) := by decide +kernel
theorem dC_joinWithNext_27 : decode (zby mC_joinWithNext) 27 = .ok (.ireturn, 1) := by decide +kernel
theorem dC_joinWithNext_28 : decode (zby mC_joinWithNext) 28 = .ok (.iconst 0, 1) := by decide +kernel
theorem dC_joinWithNext_29 : decode (zby mC_joinWithNext) 29 = .ok (.istore_n 2, 1) := by decide +kernel
theorem dC_joinWithNext_30 : decode (zby mC_joinWithNext) 30 = .ok (.iload_n 2, 1) := by decide +kernel
theorem dC_joinWithNext_31 : decode (zby mC_joinWithNext) 31 = .ok (.aload_n 0, 1) := by decide +kernel
theorem dC_joinWithNext_32 : decode (zby mC_joinWithNext) 32 = .ok (.getfield 17, 3) := by decide +kernel
theorem dC_joinWithNext_35 : decode (zby mC_joinWithNext) 35 = .ok (.if_icmp .ge 37, 3) := by decide +kernel
theorem dC_joinWithNext_38 : decode (zby mC_joinWithNext) 38 = .ok (.aload_n 0, 1) := by decide +kernel
theorem dC_joinWithNext_39 : decode (zby mC_joinWithNext) 39 = .ok (.getfield 11, 3) := by decide +kernel
theorem dC_joinWithNext_42 : decode (zby mC_joinWithNext) 42 = .ok (.iload_n 2, 1) := by decide +kernel
theorem dC_joinWithNext_43 : decode (zby mC_joinWithNext) 43 = .ok (.aaload, 1) := by decide +kernel
theorem dC_joinWithNext_44 : decode (zby mC_joinWithNext) 44 = .ok (.getfield 118, 3) := by decide +kernel
theorem dC_joinWithNext_47 : decode (zby mC_joinWithNext) 47 = .ok (.iload_n 1, 1) := by decide +kernel
theorem dC_joinWithNext_48 : decode (zby mC_joinWithNext) 48 = .ok (.if_icmp .le 18, 3) := by decide +kernel
theorem dC_joinWithNext_51 : decode (zby mC_joinWithNext) 51 = .ok (.aload_n 0, 1) := by decide +kernel
theorem dC_joinWithNext_52 : decode (zby mC_joinWithNext) 52 = .ok (.getfield 11, 3) := by decide +kernel
theorem dC_joinWithNext_55 : decode (zby mC_joinWithNext) 55 = .ok (.iload_n 2, 1) := by decide +kernel
theorem dC_joinWithNext_56 : decode (zby mC_joinWithNext) 56 = .ok (.aaload, 1) := by decide +kernel
theorem dC_joinWithNext_57 : decode (zby mC_joinWithNext) 57 = .ok (.dup, 1) := by decide +kernel
theorem dC_joinWithNext_58 : decode (zby mC_joinWithNext) 58 = .ok (.getfield 118, 3) := by decide +kernel
theorem dC_joinWithNext_61 : decode (zby mC_joinWithNext) 61 = .ok (.iconst 1, 1) := by decide +kernel
theorem dC_joinWithNext_62 : decode (zby mC_joinWithNext) 62 = .ok (.isub, 1) := by decide +kernel
theorem dC_joinWithNext_63 : decode (zby mC_joinWithNext) 63 = .ok (.putfield 118, 3) := by decide +kernel
theorem dC_joinWithNext_66 : decode (zby mC_joinWithNext) 66 = .ok (.iinc 2 1, 3) := by decide +kernel
theorem dC_joinWithNext_69 : decode (zby mC_joinWithNext) 69 = .ok (.goto (-39), 3) := by decide +kernel
theorem dC_joinWithNext_72 : decode (zby mC_joinWithNext) 72 = .ok (.aload_n 0, 1) := by decide +kernel
theorem dC_joinWithNext_73 : decode (zby mC_joinWithNext) 73 = .ok (.dup, 1) := by decide +kernel
theorem dC_joinWithNext_74 : decode (zby mC_joinWithNext) 74 = .ok (.getfield 24, 3) := by decide +kernel
theorem dC_joinWithNext_77 : decode (zby mC_joinWithNext) 77 = .ok (.iconst 1, 1) := by decide +kernel
theorem dC_joinWithNext_78 : decode (zby mC_joinWithNext) 78 = .ok (.isub, 1) := by decide +kernel
theorem dC_joinWithNext_79 : decode (zby mC_joinWithNext) 79 = .ok (.putfield 24, 3) := by decide +kernel
theorem dC_joinWithNext_82 : decode (zby mC_joinWithNext) 82 = .ok (.aload_n 0, 1) := by decide +kernel
theorem dC_joinWithNext_83 : decode (zby mC_joinWithNext) 83 = .ok (.getfield 24, 3) := by decide +kernel
theorem dC_joinWithNext_86 : decode (zby mC_joinWithNext) 86 = .ok (.ireturn, 1) := by decide +kernel
theorem dC_mergeInto_0 : decode (zby mC_mergeInto) 0 = .ok (.aload_n 0, 1) := by decide +kernel
theorem dC_mergeInto_1 : decode (zby mC_mergeInto) 1 = .ok (.iload_n 1, 1) := by decide +kernel
theorem dC_mergeInto_2 : decode (zby mC_mergeInto) 2 = .ok (.invokevirtual 84, 3) := by decide +kernel
theorem dC_mergeInto_5 : decode (zby mC_mergeInto) 5 = .ok (.astore_n 3, 1) := by decide +kernel
theorem dC_mergeInto_6 : decode (zby mC_mergeInto) 6 = .ok (.aload_n 0, 1) := by decide +kernel
theorem dC_mergeInto_7 : decode (zby mC_mergeInto) 7 = .ok (.iload_n 2, 1) := by decide +kernel
theorem dC_mergeInto_8 : decode (zby mC_mergeInto) 8 = .ok (.invokevirtual 84, 3) := by decide +kernel
theorem dC_mergeInto_11 : decode (zby mC_mergeInto) 11 = .ok (.astore 4, 2) := by decide +kernel
theorem dC_mergeInto_13 : decode (zby mC_mergeInto) 13 = .ok (.aload_n 3, 1) := by decide +kernel
theorem dC_mergeInto_14 : decode (zby mC_mergeInto) 14 = .ok (.ifnull 8, 3) := by decide +kernel
theorem dC_mergeInto_17 : decode (zby mC_mergeInto) 17 = .ok (.aload 4, 2) := by decide +kernel
theorem dC_mergeInto_19 : decode (zby mC_mergeInto) 19 = .ok (.ifnonnull 5, 3) := by decide +kernel
theorem dC_mergeInto_22 : decode (zby mC_mergeInto) 22 = .ok (.iconst (-1), 1) := by decide +kernel
theorem dC_mergeInto_23 : decode (zby mC_mergeInto) 23 = .ok (.ireturn, 1) := by decide +kernel
theorem dC_mergeInto_24 : decode (zby mC_mergeInto) 24 = .ok (.iload_n 1, 1) := by decide +kernel
theorem dC_mergeInto_25 : decode (zby mC_mergeInto) 25 = .ok (.iload_n 2, 1) := by decide +kernel
theorem dC_mergeInto_26 : decode (zby mC_mergeInto) 26 = .ok (.if_icmp .ne 6, 3) := by decide +kernel
theorem dC_mergeInto_29 : decode (zby mC_mergeInto) 29 = .ok (.bipush (-2), 2) := by decide +kernel
theorem dC_mergeInto_31 : decode (zby mC_mergeInto) 31 = .ok (.ireturn, 1) := by decide +kernel
theorem dC_mergeInto_32 : decode (zby mC_mergeInto) 32 = .ok (.aload_n 3, 1) := by decide +kernel
theorem dC_mergeInto_33 : decode (zby mC_mergeInto) 33 = .ok (.getfield 95, 3) := by decide +kernel
theorem dC_mergeInto_36 : decode (zby mC_mergeInto) 36 = .ok (.aload 4, 2) := by decide +kernel
theorem dC_mergeInto_38 : decode (zby mC_mergeInto) 38 = .ok (.getfield 95, 3) := by decide +kernel
theorem dC_mergeInto_41 : decode (zby mC_mergeInto) 41 = .ok (.iadd, 1) := by decide +kernel
theorem dC_mergeInto_42 : decode (zby mC_mergeInto) 42 = .ok (.aload_n 3, 1) := by decide +kernel
theorem dC_mergeInto_43 : decode (zby mC_mergeInto) 43 = .ok (.aload 4, 2) := by decide +kernel
theorem dC_mergeInto_45 : decode (zby mC_mergeInto) 45 = .ok (.invokevirtual 111, 3) := by decide +kernel
theorem dC_mergeInto_48 : decode (zby mC_mergeInto) 48 = .ok (.isub, 1) := by decide +kernel
theorem dC_mergeInto_49 : decode (zby mC_mergeInto) 49 = .ok (.bipush 6, 2) := by decide +kernel
theorem dC_mergeInto_51 : decode (zby mC_mergeInto) 51 = .ok (.if_icmp .le 6, 3) := by decide +kernel
theorem dC_mergeInto_54 : decode (zby mC_mergeInto) 54 = .ok (.bipush (-3), 2) := by decide +kernel
theorem dC_mergeInto_56 : decode (zby mC_mergeInto) 56 = .ok (.ireturn, 1) := by decide +kernel
theorem dC_mergeInto_57 : decode (zby mC_mergeInto) 57 = .ok (.aload 4, 2) := by decide +kernel
theorem dC_mergeInto_59 : decode (zby mC_mergeInto) 59 = .ok (.aload_n 3, 1) := by decide +kernel
theorem dC_mergeInto_60 : decode (zby mC_mergeInto) 60 = .ok (.invokevirtual 115, 3) := by decide +kernel
theorem dC_mergeInto_63 : decode (zby mC_mergeInto) 63 = .ok (.aload_n 0, 1) := by decide +kernel
theorem dC_mergeInto_64 : decode (zby mC_mergeInto) 64 = .ok (.aload_n 3, 1) := by decide +kernel
theorem dC_mergeInto_65 : decode (zby mC_mergeInto) 65 = .ok (.invokevirtual 105, 3) := by decide +kernel
theorem dC_mergeInto_68 : decode (zby mC_mergeInto) 68 = .ok (.aload_n 0, 1) := by decide +kernel
theorem dC_mergeInto_69 : decode (zby mC_mergeInto) 69 = .ok (.dup, 1) := by decide +kernel
theorem dC_mergeInto_70 : decode (zby mC_mergeInto) 70 = .ok (.getfield 33, 3) := by decide +kernel
theorem dC_mergeInto_73 : decode (zby mC_mergeInto) 73 = .ok (.iconst 1, 1) := by decide +kernel
theorem dC_mergeInto_74 : decode (zby mC_mergeInto) 74 = .ok (.iadd, 1) := by decide +kernel
theorem dC_mergeInto_75 : decode (zby mC_mergeInto) 75 = .ok (.putfield 33, 3) := by decide +kernel
theorem dC_mergeInto_78 : decode (zby mC_mergeInto) 78 = .ok (.aload 4, 2) := by decide +kernel
theorem dC_mergeInto_80 : decode (zby mC_mergeInto) 80 = .ok (.getfield 95, 3) := by decide +kernel
theorem dC_mergeInto_83 : decode (zby mC_mergeInto) 83 = .ok (.ireturn, 1) := by decide +kernel
theorem dC_openSegment_0 : decode (zby mC_openSegment) 0 = .ok (.aload_n 0, 1) := by decide +kernel
theorem dC_openSegment_1 : decode (zby mC_openSegment) 1 = .ok (.getfield 24, 3) := by decide +kernel
theorem dC_openSegment_4 : decode (zby mC_openSegment) 4 = .ok (.iconst 5, 1) := by decide +kernel
theorem dC_openSegment_5 : decode (zby mC_openSegment) 5 = .ok (.if_icmp .lt 6, 3) := by decide +kernel
theorem dC_openSegment_8 : decode (zby mC_openSegment) 8 = .ok (.bipush (-3), 2) := by decide +kernel
theorem dC_openSegment_10 : decode (zby mC_openSegment) 10 = .ok (.ireturn, 1) := by decide +kernel
theorem dC_openSegment_11 : decode (zby mC_openSegment) 11 = .ok (.aload_n 0, 1) := by decide +kernel
theorem dC_openSegment_12 : decode (zby mC_openSegment) 12 = .ok (.dup, 1) := by decide +kernel
theorem dC_openSegment_13 : decode (zby mC_openSegment) 13 = .ok (.getfield 24, 3) := by decide +kernel
theorem dC_openSegment_16 : decode (zby mC_openSegment) 16 = .ok (.iconst 1, 1) := by decide +kernel
theorem dC_openSegment_17 : decode (zby mC_openSegment) 17 = .ok (.iadd, 1) := by decide +kernel
theorem dC_openSegment_18 : decode (zby mC_openSegment) 18 = .ok (.putfield 24, 3) := by decide +kernel
theorem dC_openSegment_21 : decode (zby mC_openSegment) 21 = .ok (.aload_n 0, 1) := by decide +kernel
theorem dC_openSegment_22 : decode (zby mC_openSegment) 22 = .ok (.getfield 24, 3) := by decide +kernel
theorem dC_openSegment_25 : decode (zby mC_openSegment) 25 = .ok (.iconst 1, 1) := by decide +kernel
theorem dC_openSegment_26 : decode (zby mC_openSegment) 26 = .ok (.isub, 1) := by decide +kernel
theorem dC_openSegment_27 : decode (zby mC_openSegment) 27 = .ok (.ireturn, 1) := by decide +kernel
theorem dC_passDay_0 : decode (zby mC_passDay) 0 = .ok (.iconst 0, 1) := by decide +kernel
theorem dC_passDay_1 : decode (zby mC_passDay) 1 = .ok (.istore_n 1, 1) := by decide +kernel
theorem dC_passDay_2 : decode (zby mC_passDay) 2 = .ok (.aload_n 0, 1) := by decide +kernel
theorem dC_passDay_3 : decode (zby mC_passDay) 3 = .ok (.getfield 17, 3) := by decide +kernel
theorem dC_passDay_6 : decode (zby mC_passDay) 6 = .ok (.iconst 1, 1) := by decide +kernel
theorem dC_passDay_7 : decode (zby mC_passDay) 7 = .ok (.isub, 1) := by decide +kernel
theorem dC_passDay_8 : decode (zby mC_passDay) 8 = .ok (.istore_n 2, 1) := by decide +kernel
theorem dC_passDay_9 : decode (zby mC_passDay) 9 = .ok (.iload_n 2, 1) := by decide +kernel
theorem dC_passDay_10 : decode (zby mC_passDay) 10 = .ok (.ifCond .lt 41, 3) := by decide +kernel
theorem dC_passDay_13 : decode (zby mC_passDay) 13 = .ok (.aload_n 0, 1) := by decide +kernel
theorem dC_passDay_14 : decode (zby mC_passDay) 14 = .ok (.getfield 11, 3) := by decide +kernel
theorem dC_passDay_17 : decode (zby mC_passDay) 17 = .ok (.iload_n 2, 1) := by decide +kernel
theorem dC_passDay_18 : decode (zby mC_passDay) 18 = .ok (.aaload, 1) := by decide +kernel
theorem dC_passDay_19 : decode (zby mC_passDay) 19 = .ok (.astore_n 3, 1) := by decide +kernel
theorem dC_passDay_20 : decode (zby mC_passDay) 20 = .ok (.aload_n 3, 1) := by decide +kernel
theorem dC_passDay_21 : decode (zby mC_passDay) 21 = .ok (.dup, 1) := by decide +kernel
theorem dC_passDay_22 : decode (zby mC_passDay) 22 = .ok (.getfield 108, 3) := by decide +kernel
theorem dC_passDay_25 : decode (zby mC_passDay) 25 = .ok (.iconst 1, 1) := by decide +kernel
theorem dC_passDay_26 : decode (zby mC_passDay) 26 = .ok (.iadd, 1) := by decide +kernel
theorem dC_passDay_27 : decode (zby mC_passDay) 27 = .ok (.putfield 108, 3) := by decide +kernel
theorem dC_passDay_30 : decode (zby mC_passDay) 30 = .ok (.aload_n 3, 1) := by decide +kernel
theorem dC_passDay_31 : decode (zby mC_passDay) 31 = .ok (.invokevirtual 134, 3) := by decide +kernel
theorem dC_passDay_34 : decode (zby mC_passDay) 34 = .ok (.ifCond .eq 11, 3) := by decide +kernel
theorem dC_passDay_37 : decode (zby mC_passDay) 37 = .ok (.aload_n 0, 1) := by decide +kernel
theorem dC_passDay_38 : decode (zby mC_passDay) 38 = .ok (.aload_n 3, 1) := by decide +kernel
theorem dC_passDay_39 : decode (zby mC_passDay) 39 = .ok (.invokevirtual 105, 3) := by decide +kernel
theorem dC_passDay_42 : decode (zby mC_passDay) 42 = .ok (.iinc 1 1, 3) := by decide +kernel
theorem dC_passDay_45 : decode (zby mC_passDay) 45 = .ok (.iinc 2 (-1), 3) := by decide +kernel
theorem dC_passDay_48 : decode (zby mC_passDay) 48 = .ok (.goto (-39), 3) := by decide +kernel
theorem dC_passDay_51 : decode (zby mC_passDay) 51 = .ok (.iload_n 1, 1) := by decide +kernel
theorem dC_passDay_52 : decode (zby mC_passDay) 52 = .ok (.ireturn, 1) := by decide +kernel
theorem dC_passDays_0 : decode (zby mC_passDays) 0 = .ok (.iload_n 1, 1) := by decide +kernel
theorem dC_passDays_1 : decode (zby mC_passDays) 1 = .ok (.iconst 1, 1) := by decide +kernel
theorem dC_passDays_2 : decode (zby mC_passDays) 2 = .ok (.if_icmp .lt 9, 3) := by decide +kernel
theorem dC_passDays_5 : decode (zby mC_passDays) 5 = .ok (.iload_n 1, 1) := by decide +kernel
theorem dC_passDays_6 : decode (zby mC_passDays) 6 = .ok (.bipush 60, 2) := by decide +kernel
theorem dC_passDays_8 : decode (zby mC_passDays) 8 = .ok (.if_icmp .le 6, 3) := by decide +kernel
theorem dC_passDays_11 : decode (zby mC_passDays) 11 = .ok (.bipush (-2), 2) := by decide +kernel
theorem dC_passDays_13 : decode (zby mC_passDays) 13 = .ok (.ireturn, 1) := by decide +kernel
theorem dC_passDays_14 : decode (zby mC_passDays) 14 = .ok (.iconst 0, 1) := by decide +kernel
theorem dC_passDays_15 : decode (zby mC_passDays) 15 = .ok (.istore_n 2, 1) := by decide +kernel
theorem dC_passDays_16 : decode (zby mC_passDays) 16 = .ok (.iconst 0, 1) := by decide +kernel
theorem dC_passDays_17 : decode (zby mC_passDays) 17 = .ok (.istore_n 3, 1) := by decide +kernel
theorem dC_passDays_18 : decode (zby mC_passDays) 18 = .ok (.iload_n 3, 1) := by decide +kernel
theorem dC_passDays_19 : decode (zby mC_passDays) 19 = .ok (.iload_n 1, 1) := by decide +kernel
theorem dC_passDays_20 : decode (zby mC_passDays) 20 = .ok (.if_icmp .ge 16, 3) := by decide +kernel
theorem dC_passDays_23 : decode (zby mC_passDays) 23 = .ok (.iload_n 2, 1) := by decide +kernel
theorem dC_passDays_24 : decode (zby mC_passDays) 24 = .ok (.aload_n 0, 1) := by decide +kernel
theorem dC_passDays_25 : decode (zby mC_passDays) 25 = .ok (.invokevirtual 131, 3) := by decide +kernel
theorem dC_passDays_28 : decode (zby mC_passDays) 28 = .ok (.iadd, 1) := by decide +kernel
theorem dC_passDays_29 : decode (zby mC_passDays) 29 = .ok (.istore_n 2, 1) := by decide +kernel
theorem dC_passDays_30 : decode (zby mC_passDays) 30 = .ok (.iinc 3 1, 3) := by decide +kernel
theorem dC_passDays_33 : decode (zby mC_passDays) 33 = .ok (.goto (-15), 3) := by decide +kernel
theorem dC_passDays_36 : decode (zby mC_passDays) 36 = .ok (.aload_n 0, 1) := by decide +kernel
theorem dC_passDays_37 : decode (zby mC_passDays) 37 = .ok (.dup, 1) := by decide +kernel
theorem dC_passDays_38 : decode (zby mC_passDays) 38 = .ok (.getfield 36, 3) := by decide +kernel
theorem dC_passDays_41 : decode (zby mC_passDays) 41 = .ok (.iload_n 2, 1) := by decide +kernel
theorem dC_passDays_42 : decode (zby mC_passDays) 42 = .ok (.iadd, 1) := by decide +kernel
theorem dC_passDays_43 : decode (zby mC_passDays) 43 = .ok (.putfield 36, 3) := by decide +kernel
theorem dC_passDays_46 : decode (zby mC_passDays) 46 = .ok (.iload_n 2, 1) := by decide +kernel
theorem dC_passDays_47 : decode (zby mC_passDays) 47 = .ok (.ireturn, 1) := by decide +kernel
theorem dC_perform_0 : decode (zby mC_perform) 0 = .ok (.iload_n 1, 1) := by decide +kernel
theorem dC_perform_1 : decode (zby mC_perform) 1 = .ok (.tableswitch 108 0 8 #[51, 57, 64, 71, 77, 83, 90, 95, 101], 51) := by decide +kernel
theorem dC_perform_52 : decode (zby mC_perform) 52 = .ok (.aload_n 0, 1) := by decide +kernel
theorem dC_perform_53 : decode (zby mC_perform) 53 = .ok (.iload_n 2, 1) := by decide +kernel
theorem dC_perform_54 : decode (zby mC_perform) 54 = .ok (.invokevirtual 47, 3) := by decide +kernel
theorem dC_perform_57 : decode (zby mC_perform) 57 = .ok (.ireturn, 1) := by decide +kernel
theorem dC_perform_58 : decode (zby mC_perform) 58 = .ok (.aload_n 0, 1) := by decide +kernel
theorem dC_perform_59 : decode (zby mC_perform) 59 = .ok (.iload_n 2, 1) := by decide +kernel
theorem dC_perform_60 : decode (zby mC_perform) 60 = .ok (.iload_n 3, 1) := by decide +kernel
theorem dC_perform_61 : decode (zby mC_perform) 61 = .ok (.invokevirtual 51, 3) := by decide +kernel
theorem dC_perform_64 : decode (zby mC_perform) 64 = .ok (.ireturn, 1) := by decide +kernel
theorem dC_perform_65 : decode (zby mC_perform) 65 = .ok (.aload_n 0, 1) := by decide +kernel
theorem dC_perform_66 : decode (zby mC_perform) 66 = .ok (.iload_n 2, 1) := by decide +kernel
theorem dC_perform_67 : decode (zby mC_perform) 67 = .ok (.iload_n 3, 1) := by decide +kernel
theorem dC_perform_68 : decode (zby mC_perform) 68 = .ok (.invokevirtual 55, 3) := by decide +kernel
theorem dC_perform_71 : decode (zby mC_perform) 71 = .ok (.ireturn, 1) := by decide +kernel
theorem dC_perform_72 : decode (zby mC_perform) 72 = .ok (.aload_n 0, 1) := by decide +kernel
theorem dC_perform_73 : decode (zby mC_perform) 73 = .ok (.iload_n 2, 1) := by decide +kernel
theorem dC_perform_74 : decode (zby mC_perform) 74 = .ok (.invokevirtual 58, 3) := by decide +kernel
theorem dC_perform_77 : decode (zby mC_perform) 77 = .ok (.ireturn, 1) := by decide +kernel
theorem dC_perform_78 : decode (zby mC_perform) 78 = .ok (.aload_n 0, 1) := by decide +kernel
theorem dC_perform_79 : decode (zby mC_perform) 79 = .ok (.iload_n 2, 1) := by decide +kernel
theorem dC_perform_80 : decode (zby mC_perform) 80 = .ok (.invokevirtual 61, 3) := by decide +kernel
theorem dC_perform_83 : decode (zby mC_perform) 83 = .ok (.ireturn, 1) := by decide +kernel
theorem dC_perform_84 : decode (zby mC_perform) 84 = .ok (.aload_n 0, 1) := by decide +kernel
theorem dC_perform_85 : decode (zby mC_perform) 85 = .ok (.iload_n 2, 1) := by decide +kernel
theorem dC_perform_86 : decode (zby mC_perform) 86 = .ok (.iload_n 3, 1) := by decide +kernel
theorem dC_perform_87 : decode (zby mC_perform) 87 = .ok (.invokevirtual 64, 3) := by decide +kernel
theorem dC_perform_90 : decode (zby mC_perform) 90 = .ok (.ireturn, 1) := by decide +kernel
theorem dC_perform_91 : decode (zby mC_perform) 91 = .ok (.aload_n 0, 1) := by decide +kernel
theorem dC_perform_92 : decode (zby mC_perform) 92 = .ok (.invokevirtual 67, 3) := by decide +kernel
theorem dC_perform_95 : decode (zby mC_perform) 95 = .ok (.ireturn, 1) := by decide +kernel
theorem dC_perform_96 : decode (zby mC_perform) 96 = .ok (.aload_n 0, 1) := by decide +kernel
theorem dC_perform_97 : decode (zby mC_perform) 97 = .ok (.iload_n 2, 1) := by decide +kernel
theorem dC_perform_98 : decode (zby mC_perform) 98 = .ok (.invokevirtual 71, 3) := by decide +kernel
theorem dC_perform_101 : decode (zby mC_perform) 101 = .ok (.ireturn, 1) := by decide +kernel
theorem dC_perform_102 : decode (zby mC_perform) 102 = .ok (.aload_n 0, 1) := by decide +kernel
theorem dC_perform_103 : decode (zby mC_perform) 103 = .ok (.iload_n 2, 1) := by decide +kernel
theorem dC_perform_104 : decode (zby mC_perform) 104 = .ok (.iload_n 3, 1) := by decide +kernel
theorem dC_perform_105 : decode (zby mC_perform) 105 = .ok (.invokevirtual 74, 3) := by decide +kernel
theorem dC_perform_108 : decode (zby mC_perform) 108 = .ok (.ireturn, 1) := by decide +kernel
theorem dC_perform_109 : decode (zby mC_perform) 109 = .ok (.aload_n 0, 1) := by decide +kernel
theorem dC_perform_110 : decode (zby mC_perform) 110 = .ok (.iload_n 2, 1) := by decide +kernel
theorem dC_perform_111 : decode (zby mC_perform) 111 = .ok (.invokevirtual 77, 3) := by decide +kernel
theorem dC_perform_114 : decode (zby mC_perform) 114 = .ok (.ireturn, 1) := by decide +kernel
theorem dC_putCode_0 : decode (zby mC_putCode) 0 = .ok (.aload_n 0, 1) := by decide +kernel
theorem dC_putCode_1 : decode (zby mC_putCode) 1 = .ok (.iload_n 1, 1) := by decide +kernel
theorem dC_putCode_2 : decode (zby mC_putCode) 2 = .ok (.invokevirtual 84, 3) := by decide +kernel
theorem dC_putCode_5 : decode (zby mC_putCode) 5 = .ok (.astore_n 3, 1) := by decide +kernel
theorem dC_putCode_6 : decode (zby mC_putCode) 6 = .ok (.aload_n 3, 1) := by decide +kernel
theorem dC_putCode_7 : decode (zby mC_putCode) 7 = .ok (.ifnonnull 5, 3) := by decide +kernel
theorem dC_putCode_10 : decode (zby mC_putCode) 10 = .ok (.iconst (-1), 1) := by decide +kernel
theorem dC_putCode_11 : decode (zby mC_putCode) 11 = .ok (.ireturn, 1) := by decide +kernel
theorem dC_putCode_12 : decode (zby mC_putCode) 12 = .ok (.iload_n 2, 1) := by decide +kernel
theorem dC_putCode_13 : decode (zby mC_putCode) 13 = .ok (.invokestatic 88, 3) := by decide +kernel
theorem dC_putCode_16 : decode (zby mC_putCode) 16 = .ok (.ifCond .ne 6, 3) := by decide +kernel
theorem dC_putCode_19 : decode (zby mC_putCode) 19 = .ok (.bipush (-2), 2) := by decide +kernel
theorem dC_putCode_21 : decode (zby mC_putCode) 21 = .ok (.ireturn, 1) := by decide +kernel
theorem dC_putCode_22 : decode (zby mC_putCode) 22 = .ok (.aload_n 3, 1) := by decide +kernel
theorem dC_putCode_23 : decode (zby mC_putCode) 23 = .ok (.iload_n 2, 1) := by decide +kernel
theorem dC_putCode_24 : decode (zby mC_putCode) 24 = .ok (.invokevirtual 92, 3) := by decide +kernel
theorem dC_putCode_27 : decode (zby mC_putCode) 27 = .ok (.ifCond .ne 12, 3) := by decide +kernel
theorem dC_putCode_30 : decode (zby mC_putCode) 30 = .ok (.aload_n 3, 1) := by decide +kernel
theorem dC_putCode_31 : decode (zby mC_putCode) 31 = .ok (.getfield 95, 3) := by decide +kernel
theorem dC_putCode_34 : decode (zby mC_putCode) 34 = .ok (.bipush 6, 2) := by decide +kernel
theorem dC_putCode_36 : decode (zby mC_putCode) 36 = .ok (.if_icmp .lt 6, 3) := by decide +kernel
theorem dC_putCode_39 : decode (zby mC_putCode) 39 = .ok (.bipush (-3), 2) := by decide +kernel
theorem dC_putCode_41 : decode (zby mC_putCode) 41 = .ok (.ireturn, 1) := by decide +kernel
theorem dC_putCode_42 : decode (zby mC_putCode) 42 = .ok (.aload_n 3, 1) := by decide +kernel
theorem dC_putCode_43 : decode (zby mC_putCode) 43 = .ok (.iload_n 2, 1) := by decide +kernel
theorem dC_putCode_44 : decode (zby mC_putCode) 44 = .ok (.invokevirtual 98, 3) := by decide +kernel
theorem dC_putCode_47 : decode (zby mC_putCode) 47 = .ok (.aload_n 3, 1) := by decide +kernel
theorem dC_putCode_48 : decode (zby mC_putCode) 48 = .ok (.getfield 95, 3) := by decide +kernel
theorem dC_putCode_51 : decode (zby mC_putCode) 51 = .ok (.ireturn, 1) := by decide +kernel
theorem dC_putEntry_0 : decode (zby mC_putEntry) 0 = .ok (.iload_n 1, 1) := by decide +kernel
theorem dC_putEntry_1 : decode (zby mC_putEntry) 1 = .ok (.iconst 1, 1) := by decide +kernel
theorem dC_putEntry_2 : decode (zby mC_putEntry) 2 = .ok (.if_icmp .lt 9, 3) := by decide +kernel
theorem dC_putEntry_5 : decode (zby mC_putEntry) 5 = .ok (.iload_n 1, 1) := by decide +kernel
theorem dC_putEntry_6 : decode (zby mC_putEntry) 6 = .ok (.bipush 9, 2) := by decide +kernel
theorem dC_putEntry_8 : decode (zby mC_putEntry) 8 = .ok (.if_icmp .le 6, 3) := by decide +kernel
theorem dC_putEntry_11 : decode (zby mC_putEntry) 11 = .ok (.bipush (-2), 2) := by decide +kernel
theorem dC_putEntry_13 : decode (zby mC_putEntry) 13 = .ok (.ireturn, 1) := by decide +kernel
theorem dC_putEntry_14 : decode (zby mC_putEntry) 14 = .ok (.aload_n 0, 1) := by decide +kernel
theorem dC_putEntry_15 : decode (zby mC_putEntry) 15 = .ok (.getfield 17, 3) := by decide +kernel
theorem dC_putEntry_18 : decode (zby mC_putEntry) 18 = .ok (.bipush 20, 2) := by decide +kernel
theorem dC_putEntry_20 : decode (zby mC_putEntry) 20 = .ok (.if_icmp .lt 6, 3) := by decide +kernel
theorem dC_putEntry_23 : decode (zby mC_putEntry) 23 = .ok (.bipush (-3), 2) := by decide +kernel
theorem dC_putEntry_25 : decode (zby mC_putEntry) 25 = .ok (.ireturn, 1) := by decide +kernel
theorem dC_putEntry_26 : decode (zby mC_putEntry) 26 = .ok (.aload_n 0, 1) := by decide +kernel
theorem dC_putEntry_27 : decode (zby mC_putEntry) 27 = .ok (.getfield 21, 3) := by decide +kernel
theorem dC_putEntry_30 : decode (zby mC_putEntry) 30 = .ok (.istore_n 2, 1) := by decide +kernel
theorem dC_putEntry_31 : decode (zby mC_putEntry) 31 = .ok (.aload_n 0, 1) := by decide +kernel
theorem dC_putEntry_32 : decode (zby mC_putEntry) 32 = .ok (.getfield 11, 3) := by decide +kernel
theorem dC_putEntry_35 : decode (zby mC_putEntry) 35 = .ok (.aload_n 0, 1) := by decide +kernel
theorem dC_putEntry_36 : decode (zby mC_putEntry) 36 = .ok (.getfield 17, 3) := by decide +kernel
theorem dC_putEntry_39 : decode (zby mC_putEntry) 39 = .ok (.aaload, 1) := by decide +kernel
theorem dC_putEntry_40 : decode (zby mC_putEntry) 40 = .ok (.iload_n 2, 1) := by decide +kernel
theorem dC_putEntry_41 : decode (zby mC_putEntry) 41 = .ok (.iload_n 1, 1) := by decide +kernel
theorem dC_putEntry_42 : decode (zby mC_putEntry) 42 = .ok (.aload_n 0, 1) := by decide +kernel
theorem dC_putEntry_43 : decode (zby mC_putEntry) 43 = .ok (.getfield 24, 3) := by decide +kernel
theorem dC_putEntry_46 : decode (zby mC_putEntry) 46 = .ok (.iconst 1, 1) := by decide +kernel
theorem dC_putEntry_47 : decode (zby mC_putEntry) 47 = .ok (.isub, 1) := by decide +kernel
theorem dC_putEntry_48 : decode (zby mC_putEntry) 48 = .ok (.invokevirtual 80, 3) := by decide +kernel
theorem dC_putEntry_51 : decode (zby mC_putEntry) 51 = .ok (.aload_n 0, 1) := by decide +kernel
theorem dC_putEntry_52 : decode (zby mC_putEntry) 52 = .ok (.dup, 1) := by decide +kernel
theorem dC_putEntry_53 : decode (zby mC_putEntry) 53 = .ok (.getfield 17, 3) := by decide +kernel
theorem dC_putEntry_56 : decode (zby mC_putEntry) 56 = .ok (.iconst 1, 1) := by decide +kernel
theorem dC_putEntry_57 : decode (zby mC_putEntry) 57 = .ok (.iadd, 1) := by decide +kernel
theorem dC_putEntry_58 : decode (zby mC_putEntry) 58 = .ok (.putfield 17, 3) := by decide +kernel
theorem dC_putEntry_61 : decode (zby mC_putEntry) 61 = .ok (.aload_n 0, 1) := by decide +kernel
theorem dC_putEntry_62 : decode (zby mC_putEntry) 62 = .ok (.dup, 1) := by decide +kernel
theorem dC_putEntry_63 : decode (zby mC_putEntry) 63 = .ok (.getfield 21, 3) := by decide +kernel
theorem dC_putEntry_66 : decode (zby mC_putEntry) 66 = .ok (.iconst 1, 1) := by decide +kernel
theorem dC_putEntry_67 : decode (zby mC_putEntry) 67 = .ok (.iadd, 1) := by decide +kernel
theorem dC_putEntry_68 : decode (zby mC_putEntry) 68 = .ok (.putfield 21, 3) := by decide +kernel
theorem dC_putEntry_71 : decode (zby mC_putEntry) 71 = .ok (.aload_n 0, 1) := by decide +kernel
theorem dC_putEntry_72 : decode (zby mC_putEntry) 72 = .ok (.dup, 1) := by decide +kernel
theorem dC_putEntry_73 : decode (zby mC_putEntry) 73 = .ok (.getfield 27, 3) := by decide +kernel
theorem dC_putEntry_76 : decode (zby mC_putEntry) 76 = .ok (.iconst 1, 1) := by decide +kernel
theorem dC_putEntry_77 : decode (zby mC_putEntry) 77 = .ok (.iadd, 1) := by decide +kernel
theorem dC_putEntry_78 : decode (zby mC_putEntry) 78 = .ok (.putfield 27, 3) := by decide +kernel
theorem dC_putEntry_81 : decode (zby mC_putEntry) 81 = .ok (.iload_n 2, 1) := by decide +kernel
theorem dC_putEntry_82 : decode (zby mC_putEntry) 82 = .ok (.ireturn, 1) := by decide +kernel
theorem dC_takeCode_0 : decode (zby mC_takeCode) 0 = .ok (.aload_n 0, 1) := by decide +kernel
theorem dC_takeCode_1 : decode (zby mC_takeCode) 1 = .ok (.iload_n 1, 1) := by decide +kernel
theorem dC_takeCode_2 : decode (zby mC_takeCode) 2 = .ok (.invokevirtual 84, 3) := by decide +kernel
theorem dC_takeCode_5 : decode (zby mC_takeCode) 5 = .ok (.astore_n 3, 1) := by decide +kernel
theorem dC_takeCode_6 : decode (zby mC_takeCode) 6 = .ok (.aload_n 3, 1) := by decide +kernel
theorem dC_takeCode_7 : decode (zby mC_takeCode) 7 = .ok (.ifnonnull 5, 3) := by decide +kernel
theorem dC_takeCode_10 : decode (zby mC_takeCode) 10 = .ok (.iconst (-1), 1) := by decide +kernel
theorem dC_takeCode_11 : decode (zby mC_takeCode) 11 = .ok (.ireturn, 1) := by decide +kernel
theorem dC_takeCode_12 : decode (zby mC_takeCode) 12 = .ok (.iload_n 2, 1) := by decide +kernel
theorem dC_takeCode_13 : decode (zby mC_takeCode) 13 = .ok (.invokestatic 88, 3) := by decide +kernel
theorem dC_takeCode_16 : decode (zby mC_takeCode) 16 = .ok (.ifCond .ne 6, 3) := by decide +kernel
theorem dC_takeCode_19 : decode (zby mC_takeCode) 19 = .ok (.bipush (-2), 2) := by decide +kernel
theorem dC_takeCode_21 : decode (zby mC_takeCode) 21 = .ok (.ireturn, 1) := by decide +kernel
theorem dC_takeCode_22 : decode (zby mC_takeCode) 22 = .ok (.aload_n 3, 1) := by decide +kernel
theorem dC_takeCode_23 : decode (zby mC_takeCode) 23 = .ok (.iload_n 2, 1) := by decide +kernel
theorem dC_takeCode_24 : decode (zby mC_takeCode) 24 = .ok (.invokevirtual 92, 3) := by decide +kernel
theorem dC_takeCode_27 : decode (zby mC_takeCode) 27 = .ok (.ifCond .ne 6, 3) := by decide +kernel
theorem dC_takeCode_30 : decode (zby mC_takeCode) 30 = .ok (.bipush (-3), 2) := by decide +kernel
theorem dC_takeCode_32 : decode (zby mC_takeCode) 32 = .ok (.ireturn, 1) := by decide +kernel
theorem dC_takeCode_33 : decode (zby mC_takeCode) 33 = .ok (.aload_n 3, 1) := by decide +kernel
theorem dC_takeCode_34 : decode (zby mC_takeCode) 34 = .ok (.iload_n 2, 1) := by decide +kernel
theorem dC_takeCode_35 : decode (zby mC_takeCode) 35 = .ok (.invokevirtual 102, 3) := by decide +kernel
theorem dC_takeCode_38 : decode (zby mC_takeCode) 38 = .ok (.aload_n 3, 1) := by decide +kernel
theorem dC_takeCode_39 : decode (zby mC_takeCode) 39 = .ok (.getfield 95, 3) := by decide +kernel
theorem dC_takeCode_42 : decode (zby mC_takeCode) 42 = .ok (.ireturn, 1) := by decide +kernel
theorem dC_takeEntry_0 : decode (zby mC_takeEntry) 0 = .ok (.aload_n 0, 1) := by decide +kernel
theorem dC_takeEntry_1 : decode (zby mC_takeEntry) 1 = .ok (.iload_n 1, 1) := by decide +kernel
theorem dC_takeEntry_2 : decode (zby mC_takeEntry) 2 = .ok (.invokevirtual 84, 3) := by decide +kernel
theorem dC_takeEntry_5 : decode (zby mC_takeEntry) 5 = .ok (.astore_n 2, 1) := by decide +kernel
theorem dC_takeEntry_6 : decode (zby mC_takeEntry) 6 = .ok (.aload_n 2, 1) := by decide +kernel
theorem dC_takeEntry_7 : decode (zby mC_takeEntry) 7 = .ok (.ifnonnull 5, 3) := by decide +kernel
theorem dC_takeEntry_10 : decode (zby mC_takeEntry) 10 = .ok (.iconst (-1), 1) := by decide +kernel
theorem dC_takeEntry_11 : decode (zby mC_takeEntry) 11 = .ok (.ireturn, 1) := by decide +kernel
theorem dC_takeEntry_12 : decode (zby mC_takeEntry) 12 = .ok (.aload_n 0, 1) := by decide +kernel
theorem dC_takeEntry_13 : decode (zby mC_takeEntry) 13 = .ok (.aload_n 2, 1) := by decide +kernel
theorem dC_takeEntry_14 : decode (zby mC_takeEntry) 14 = .ok (.invokevirtual 105, 3) := by decide +kernel
theorem dC_takeEntry_17 : decode (zby mC_takeEntry) 17 = .ok (.aload_n 0, 1) := by decide +kernel
theorem dC_takeEntry_18 : decode (zby mC_takeEntry) 18 = .ok (.dup, 1) := by decide +kernel
theorem dC_takeEntry_19 : decode (zby mC_takeEntry) 19 = .ok (.getfield 30, 3) := by decide +kernel
theorem dC_takeEntry_22 : decode (zby mC_takeEntry) 22 = .ok (.iconst 1, 1) := by decide +kernel
theorem dC_takeEntry_23 : decode (zby mC_takeEntry) 23 = .ok (.iadd, 1) := by decide +kernel
theorem dC_takeEntry_24 : decode (zby mC_takeEntry) 24 = .ok (.putfield 30, 3) := by decide +kernel
theorem dC_takeEntry_27 : decode (zby mC_takeEntry) 27 = .ok (.aload_n 0, 1) := by decide +kernel
theorem dC_takeEntry_28 : decode (zby mC_takeEntry) 28 = .ok (.getfield 17, 3) := by decide +kernel
theorem dC_takeEntry_31 : decode (zby mC_takeEntry) 31 = .ok (.ireturn, 1) := by decide +kernel
theorem dE_absorb_0 : decode (zby mE_absorb) 0 = .ok (.iconst 0, 1) := by decide +kernel
theorem dE_absorb_1 : decode (zby mE_absorb) 1 = .ok (.istore_n 2, 1) := by decide +kernel
theorem dE_absorb_2 : decode (zby mE_absorb) 2 = .ok (.iload_n 2, 1) := by decide +kernel
theorem dE_absorb_3 : decode (zby mE_absorb) 3 = .ok (.aload_n 1, 1) := by decide +kernel
theorem dE_absorb_4 : decode (zby mE_absorb) 4 = .ok (.getfield 31, 3) := by decide +kernel
theorem dE_absorb_7 : decode (zby mE_absorb) 7 = .ok (.if_icmp .ge 32, 3) := by decide +kernel
theorem dE_absorb_10 : decode (zby mE_absorb) 10 = .ok (.aload_n 0, 1) := by decide +kernel
theorem dE_absorb_11 : decode (zby mE_absorb) 11 = .ok (.aload_n 1, 1) := by decide +kernel
theorem dE_absorb_12 : decode (zby mE_absorb) 12 = .ok (.getfield 9, 3) := by decide +kernel
theorem dE_absorb_15 : decode (zby mE_absorb) 15 = .ok (.iload_n 2, 1) := by decide +kernel
theorem dE_absorb_16 : decode (zby mE_absorb) 16 = .ok (.iaload, 1) := by decide +kernel
theorem dE_absorb_17 : decode (zby mE_absorb) 17 = .ok (.invokevirtual 52, 3) := by decide +kernel
theorem dE_absorb_20 : decode (zby mE_absorb) 20 = .ok (.ifCond .ne 13, 3) := by decide +kernel
theorem dE_absorb_23 : decode (zby mE_absorb) 23 = .ok (.aload_n 0, 1) := by decide +kernel
theorem dE_absorb_24 : decode (zby mE_absorb) 24 = .ok (.aload_n 1, 1) := by decide +kernel
theorem dE_absorb_25 : decode (zby mE_absorb) 25 = .ok (.getfield 9, 3) := by decide +kernel
theorem dE_absorb_28 : decode (zby mE_absorb) 28 = .ok (.iload_n 2, 1) := by decide +kernel
theorem dE_absorb_29 : decode (zby mE_absorb) 29 = .ok (.iaload, 1) := by decide +kernel
theorem dE_absorb_30 : decode (zby mE_absorb) 30 = .ok (.invokevirtual 56, 3) := by decide +kernel
theorem dE_absorb_33 : decode (zby mE_absorb) 33 = .ok (.iinc 2 1, 3) := by decide +kernel
theorem dE_absorb_36 : decode (zby mE_absorb) 36 = .ok (.goto (-34), 3) := by decide +kernel
theorem dE_absorb_39 : decode (zby mE_absorb) 39 = .ok (.aload_n 0, 1) := by decide +kernel
theorem dE_absorb_40 : decode (zby mE_absorb) 40 = .ok (.aload_n 0, 1) := by decide +kernel
theorem dE_absorb_41 : decode (zby mE_absorb) 41 = .ok (.getfield 19, 3) := by decide +kernel
theorem dE_absorb_44 : decode (zby mE_absorb) 44 = .ok (.aload_n 1, 1) := by decide +kernel
theorem dE_absorb_45 : decode (zby mE_absorb) 45 = .ok (.getfield 19, 3) := by decide +kernel
theorem dE_absorb_48 : decode (zby mE_absorb) 48 = .ok (.invokestatic 60, 3) := by decide +kernel
theorem dE_absorb_51 : decode (zby mE_absorb) 51 = .ok (.putfield 19, 3) := by decide +kernel
theorem dE_absorb_54 : decode (zby mE_absorb) 54 = .ok (.aload_n 0, 1) := by decide +kernel
theorem dE_absorb_55 : decode (zby mE_absorb) 55 = .ok (.aload_n 0, 1) := by decide +kernel
theorem dE_absorb_56 : decode (zby mE_absorb) 56 = .ok (.getfield 22, 3) := by decide +kernel
theorem dE_absorb_59 : decode (zby mE_absorb) 59 = .ok (.aload_n 1, 1) := by decide +kernel
theorem dE_absorb_60 : decode (zby mE_absorb) 60 = .ok (.getfield 22, 3) := by decide +kernel
theorem dE_absorb_63 : decode (zby mE_absorb) 63 = .ok (.invokestatic 65, 3) := by decide +kernel
theorem dE_absorb_66 : decode (zby mE_absorb) 66 = .ok (.putfield 22, 3) := by decide +kernel
theorem dE_absorb_69 : decode (zby mE_absorb) 69 = .ok (.aload_n 0, 1) := by decide +kernel
theorem dE_absorb_70 : decode (zby mE_absorb) 70 = .ok (.dup, 1) := by decide +kernel
theorem dE_absorb_71 : decode (zby mE_absorb) 71 = .ok (.getfield 25, 3) := by decide +kernel
theorem dE_absorb_74 : decode (zby mE_absorb) 74 = .ok (.aload_n 1, 1) := by decide +kernel
theorem dE_absorb_75 : decode (zby mE_absorb) 75 = .ok (.getfield 25, 3) := by decide +kernel
theorem dE_absorb_78 : decode (zby mE_absorb) 78 = .ok (.iadd, 1) := by decide +kernel
theorem dE_absorb_79 : decode (zby mE_absorb) 79 = .ok (.putfield 25, 3) := by decide +kernel
theorem dE_absorb_82 : decode (zby mE_absorb) 82 = .ok (.return_, 1) := by decide +kernel
theorem dE_begin_0 : decode (zby mE_begin) 0 = .ok (.aload_n 0, 1) := by decide +kernel
theorem dE_begin_1 : decode (zby mE_begin) 1 = .ok (.iload_n 1, 1) := by decide +kernel
theorem dE_begin_2 : decode (zby mE_begin) 2 = .ok (.putfield 15, 3) := by decide +kernel
theorem dE_begin_5 : decode (zby mE_begin) 5 = .ok (.aload_n 0, 1) := by decide +kernel
theorem dE_begin_6 : decode (zby mE_begin) 6 = .ok (.iload_n 2, 1) := by decide +kernel
theorem dE_begin_7 : decode (zby mE_begin) 7 = .ok (.putfield 19, 3) := by decide +kernel
theorem dE_begin_10 : decode (zby mE_begin) 10 = .ok (.aload_n 0, 1) := by decide +kernel
theorem dE_begin_11 : decode (zby mE_begin) 11 = .ok (.iconst 0, 1) := by decide +kernel
theorem dE_begin_12 : decode (zby mE_begin) 12 = .ok (.putfield 22, 3) := by decide +kernel
theorem dE_begin_15 : decode (zby mE_begin) 15 = .ok (.aload_n 0, 1) := by decide +kernel
theorem dE_begin_16 : decode (zby mE_begin) 16 = .ok (.iconst 0, 1) := by decide +kernel
theorem dE_begin_17 : decode (zby mE_begin) 17 = .ok (.putfield 25, 3) := by decide +kernel
theorem dE_begin_20 : decode (zby mE_begin) 20 = .ok (.aload_n 0, 1) := by decide +kernel
theorem dE_begin_21 : decode (zby mE_begin) 21 = .ok (.iload_n 3, 1) := by decide +kernel
theorem dE_begin_22 : decode (zby mE_begin) 22 = .ok (.putfield 28, 3) := by decide +kernel
theorem dE_begin_25 : decode (zby mE_begin) 25 = .ok (.aload_n 0, 1) := by decide +kernel
theorem dE_begin_26 : decode (zby mE_begin) 26 = .ok (.iconst 0, 1) := by decide +kernel
theorem dE_begin_27 : decode (zby mE_begin) 27 = .ok (.putfield 31, 3) := by decide +kernel
theorem dE_begin_30 : decode (zby mE_begin) 30 = .ok (.return_, 1) := by decide +kernel
theorem dE_copyFrom_0 : decode (zby mE_copyFrom) 0 = .ok (.aload_n 0, 1) := by decide +kernel
theorem dE_copyFrom_1 : decode (zby mE_copyFrom) 1 = .ok (.aload_n 1, 1) := by decide +kernel
theorem dE_copyFrom_2 : decode (zby mE_copyFrom) 2 = .ok (.getfield 15, 3) := by decide +kernel
theorem dE_copyFrom_5 : decode (zby mE_copyFrom) 5 = .ok (.putfield 15, 3) := by decide +kernel
theorem dE_copyFrom_8 : decode (zby mE_copyFrom) 8 = .ok (.aload_n 0, 1) := by decide +kernel
theorem dE_copyFrom_9 : decode (zby mE_copyFrom) 9 = .ok (.aload_n 1, 1) := by decide +kernel
theorem dE_copyFrom_10 : decode (zby mE_copyFrom) 10 = .ok (.getfield 19, 3) := by decide +kernel
theorem dE_copyFrom_13 : decode (zby mE_copyFrom) 13 = .ok (.putfield 19, 3) := by decide +kernel
theorem dE_copyFrom_16 : decode (zby mE_copyFrom) 16 = .ok (.aload_n 0, 1) := by decide +kernel
theorem dE_copyFrom_17 : decode (zby mE_copyFrom) 17 = .ok (.aload_n 1, 1) := by decide +kernel
theorem dE_copyFrom_18 : decode (zby mE_copyFrom) 18 = .ok (.getfield 22, 3) := by decide +kernel
theorem dE_copyFrom_21 : decode (zby mE_copyFrom) 21 = .ok (.putfield 22, 3) := by decide +kernel
theorem dE_copyFrom_24 : decode (zby mE_copyFrom) 24 = .ok (.aload_n 0, 1) := by decide +kernel
theorem dE_copyFrom_25 : decode (zby mE_copyFrom) 25 = .ok (.aload_n 1, 1) := by decide +kernel
theorem dE_copyFrom_26 : decode (zby mE_copyFrom) 26 = .ok (.getfield 25, 3) := by decide +kernel
theorem dE_copyFrom_29 : decode (zby mE_copyFrom) 29 = .ok (.putfield 25, 3) := by decide +kernel
theorem dE_copyFrom_32 : decode (zby mE_copyFrom) 32 = .ok (.aload_n 0, 1) := by decide +kernel
theorem dE_copyFrom_33 : decode (zby mE_copyFrom) 33 = .ok (.aload_n 1, 1) := by decide +kernel
theorem dE_copyFrom_34 : decode (zby mE_copyFrom) 34 = .ok (.getfield 28, 3) := by decide +kernel
theorem dE_copyFrom_37 : decode (zby mE_copyFrom) 37 = .ok (.putfield 28, 3) := by decide +kernel
theorem dE_copyFrom_40 : decode (zby mE_copyFrom) 40 = .ok (.aload_n 0, 1) := by decide +kernel
theorem dE_copyFrom_41 : decode (zby mE_copyFrom) 41 = .ok (.aload_n 1, 1) := by decide +kernel
theorem dE_copyFrom_42 : decode (zby mE_copyFrom) 42 = .ok (.getfield 31, 3) := by decide +kernel
theorem dE_copyFrom_45 : decode (zby mE_copyFrom) 45 = .ok (.putfield 31, 3) := by decide +kernel
theorem dE_copyFrom_48 : decode (zby mE_copyFrom) 48 = .ok (.aload_n 1, 1) := by decide +kernel
theorem dE_copyFrom_49 : decode (zby mE_copyFrom) 49 = .ok (.getfield 9, 3) := by decide +kernel
theorem dE_copyFrom_52 : decode (zby mE_copyFrom) 52 = .ok (.iconst 0, 1) := by decide +kernel
theorem dE_copyFrom_53 : decode (zby mE_copyFrom) 53 = .ok (.aload_n 0, 1) := by decide +kernel
theorem dE_copyFrom_54 : decode (zby mE_copyFrom) 54 = .ok (.getfield 9, 3) := by decide +kernel
theorem dE_copyFrom_57 : decode (zby mE_copyFrom) 57 = .ok (.iconst 0, 1) := by decide +kernel
theorem dE_copyFrom_58 : decode (zby mE_copyFrom) 58 = .ok (.bipush 6, 2) := by decide +kernel
theorem dE_copyFrom_60 : decode (zby mE_copyFrom) 60 = .ok (.invokestatic 34, 3) := by decide +kernel
theorem dE_copyFrom_63 : decode (zby mE_copyFrom) 63 = .ok (.return_, 1) := by decide +kernel
theorem dE_countShared_0 : decode (zby mE_countShared) 0 = .ok (.iconst 0, 1) := by decide +kernel
theorem dE_countShared_1 : decode (zby mE_countShared) 1 = .ok (.istore_n 2, 1) := by decide +kernel
theorem dE_countShared_2 : decode (zby mE_countShared) 2 = .ok (.iconst 0, 1) := by decide +kernel
theorem dE_countShared_3 : decode (zby mE_countShared) 3 = .ok (.istore_n 3, 1) := by decide +kernel
theorem dE_countShared_4 : decode (zby mE_countShared) 4 = .ok (.iload_n 3, 1) := by decide +kernel
theorem dE_countShared_5 : decode (zby mE_countShared) 5 = .ok (.aload_n 0, 1) := by decide +kernel
theorem dE_countShared_6 : decode (zby mE_countShared) 6 = .ok (.getfield 31, 3) := by decide +kernel
theorem dE_countShared_9 : decode (zby mE_countShared) 9 = .ok (.if_icmp .ge 25, 3) := by decide +kernel
theorem dE_countShared_12 : decode (zby mE_countShared) 12 = .ok (.aload_n 1, 1) := by decide +kernel
theorem dE_countShared_13 : decode (zby mE_countShared) 13 = .ok (.aload_n 0, 1) := by decide +kernel
theorem dE_countShared_14 : decode (zby mE_countShared) 14 = .ok (.getfield 9, 3) := by decide +kernel
theorem dE_countShared_17 : decode (zby mE_countShared) 17 = .ok (.iload_n 3, 1) := by decide +kernel
theorem dE_countShared_18 : decode (zby mE_countShared) 18 = .ok (.iaload, 1) := by decide +kernel
theorem dE_countShared_19 : decode (zby mE_countShared) 19 = .ok (.invokevirtual 52, 3) := by decide +kernel
theorem dE_countShared_22 : decode (zby mE_countShared) 22 = .ok (.ifCond .eq 6, 3) := by decide +kernel
theorem dE_countShared_25 : decode (zby mE_countShared) 25 = .ok (.iinc 2 1, 3) := by decide +kernel
theorem dE_countShared_28 : decode (zby mE_countShared) 28 = .ok (.iinc 3 1, 3) := by decide +kernel
theorem dE_countShared_31 : decode (zby mE_countShared) 31 = .ok (.goto (-27), 3) := by decide +kernel
theorem dE_countShared_34 : decode (zby mE_countShared) 34 = .ok (.iload_n 2, 1) := by decide +kernel
theorem dE_countShared_35 : decode (zby mE_countShared) 35 = .ok (.ireturn, 1) := by decide +kernel
theorem dE_countWith_0 : decode (zby mE_countWith) 0 = .ok (.iconst 0, 1) := by decide +kernel
theorem dE_countWith_1 : decode (zby mE_countWith) 1 = .ok (.istore_n 3, 1) := by decide +kernel
theorem dE_countWith_2 : decode (zby mE_countWith) 2 = .ok (.iconst 0, 1) := by decide +kernel
theorem dE_countWith_3 : decode (zby mE_countWith) 3 = .ok (.istore 4, 2) := by decide +kernel
theorem dE_countWith_5 : decode (zby mE_countWith) 5 = .ok (.iload 4, 2) := by decide +kernel
theorem dE_countWith_7 : decode (zby mE_countWith) 7 = .ok (.aload_n 0, 1) := by decide +kernel
theorem dE_countWith_8 : decode (zby mE_countWith) 8 = .ok (.getfield 31, 3) := by decide +kernel
theorem dE_countWith_11 : decode (zby mE_countWith) 11 = .ok (.if_icmp .ge 27, 3) := by decide +kernel
theorem dE_countWith_14 : decode (zby mE_countWith) 14 = .ok (.aload_n 0, 1) := by decide +kernel
theorem dE_countWith_15 : decode (zby mE_countWith) 15 = .ok (.getfield 9, 3) := by decide +kernel
theorem dE_countWith_18 : decode (zby mE_countWith) 18 = .ok (.iload 4, 2) := by decide +kernel
theorem dE_countWith_20 : decode (zby mE_countWith) 20 = .ok (.iaload, 1) := by decide +kernel
theorem dE_countWith_21 : decode (zby mE_countWith) 21 = .ok (.iload_n 1, 1) := by decide +kernel
theorem dE_countWith_22 : decode (zby mE_countWith) 22 = .ok (.iload_n 2, 1) := by decide +kernel
theorem dE_countWith_23 : decode (zby mE_countWith) 23 = .ok (.invokestatic 48, 3) := by decide +kernel
theorem dE_countWith_26 : decode (zby mE_countWith) 26 = .ok (.ifCond .eq 6, 3) := by decide +kernel
theorem dE_countWith_29 : decode (zby mE_countWith) 29 = .ok (.iinc 3 1, 3) := by decide +kernel
theorem dE_countWith_32 : decode (zby mE_countWith) 32 = .ok (.iinc 4 1, 3) := by decide +kernel
theorem dE_countWith_35 : decode (zby mE_countWith) 35 = .ok (.goto (-30), 3) := by decide +kernel
theorem dE_countWith_38 : decode (zby mE_countWith) 38 = .ok (.iload_n 3, 1) := by decide +kernel
theorem dE_countWith_39 : decode (zby mE_countWith) 39 = .ok (.ireturn, 1) := by decide +kernel
theorem dE_daysLeft_0 : decode (zby mE_daysLeft) 0 = .ok (.aload_n 0, 1) := by decide +kernel
theorem dE_daysLeft_1 : decode (zby mE_daysLeft) 1 = .ok (.invokevirtual 40, 3) := by decide +kernel
theorem dE_daysLeft_4 : decode (zby mE_daysLeft) 4 = .ok (.aload_n 0, 1) := by decide +kernel
theorem dE_daysLeft_5 : decode (zby mE_daysLeft) 5 = .ok (.getfield 22, 3) := by decide +kernel
theorem dE_daysLeft_8 : decode (zby mE_daysLeft) 8 = .ok (.isub, 1) := by decide +kernel
theorem dE_daysLeft_9 : decode (zby mE_daysLeft) 9 = .ok (.iconst 1, 1) := by decide +kernel
theorem dE_daysLeft_10 : decode (zby mE_daysLeft) 10 = .ok (.iadd, 1) := by decide +kernel
theorem dE_daysLeft_11 : decode (zby mE_daysLeft) 11 = .ok (.ireturn, 1) := by decide +kernel
theorem dE_delete_0 : decode (zby mE_delete) 0 = .ok (.iconst 0, 1) := by decide +kernel
theorem dE_delete_1 : decode (zby mE_delete) 1 = .ok (.istore_n 2, 1) := by decide +kernel
theorem dE_delete_2 : decode (zby mE_delete) 2 = .ok (.iconst 0, 1) := by decide +kernel
theorem dE_delete_3 : decode (zby mE_delete) 3 = .ok (.istore_n 3, 1) := by decide +kernel
theorem dE_delete_4 : decode (zby mE_delete) 4 = .ok (.iload_n 3, 1) := by decide +kernel
theorem dE_delete_5 : decode (zby mE_delete) 5 = .ok (.aload_n 0, 1) := by decide +kernel
theorem dE_delete_6 : decode (zby mE_delete) 6 = .ok (.getfield 31, 3) := by decide +kernel
theorem dE_delete_9 : decode (zby mE_delete) 9 = .ok (.if_icmp .ge 34, 3) := by decide +kernel
theorem dE_delete_12 : decode (zby mE_delete) 12 = .ok (.aload_n 0, 1) := by decide +kernel
theorem dE_delete_13 : decode (zby mE_delete) 13 = .ok (.getfield 9, 3) := by decide +kernel
theorem dE_delete_16 : decode (zby mE_delete) 16 = .ok (.iload_n 3, 1) := by decide +kernel
theorem dE_delete_17 : decode (zby mE_delete) 17 = .ok (.iaload, 1) := by decide +kernel
theorem dE_delete_18 : decode (zby mE_delete) 18 = .ok (.iload_n 1, 1) := by decide +kernel
theorem dE_delete_19 : decode (zby mE_delete) 19 = .ok (.if_icmp .eq 18, 3) := by decide +kernel
theorem dE_delete_22 : decode (zby mE_delete) 22 = .ok (.aload_n 0, 1) := by decide +kernel
theorem dE_delete_23 : decode (zby mE_delete) 23 = .ok (.getfield 9, 3) := by decide +kernel
theorem dE_delete_26 : decode (zby mE_delete) 26 = .ok (.iload_n 2, 1) := by decide +kernel
theorem dE_delete_27 : decode (zby mE_delete) 27 = .ok (.aload_n 0, 1) := by decide +kernel
theorem dE_delete_28 : decode (zby mE_delete) 28 = .ok (.getfield 9, 3) := by decide +kernel
theorem dE_delete_31 : decode (zby mE_delete) 31 = .ok (.iload_n 3, 1) := by decide +kernel
theorem dE_delete_32 : decode (zby mE_delete) 32 = .ok (.iaload, 1) := by decide +kernel
theorem dE_delete_33 : decode (zby mE_delete) 33 = .ok (.iastore, 1) := by decide +kernel
theorem dE_delete_34 : decode (zby mE_delete) 34 = .ok (.iinc 2 1, 3) := by decide +kernel
theorem dE_delete_37 : decode (zby mE_delete) 37 = .ok (.iinc 3 1, 3) := by decide +kernel
theorem dE_delete_40 : decode (zby mE_delete) 40 = .ok (.goto (-36), 3) := by decide +kernel
theorem dE_delete_43 : decode (zby mE_delete) 43 = .ok (.aload_n 0, 1) := by decide +kernel
theorem dE_delete_44 : decode (zby mE_delete) 44 = .ok (.iload_n 2, 1) := by decide +kernel
theorem dE_delete_45 : decode (zby mE_delete) 45 = .ok (.putfield 31, 3) := by decide +kernel
theorem dE_delete_48 : decode (zby mE_delete) 48 = .ok (.return_, 1) := by decide +kernel
theorem dE_hasFaded_0 : decode (zby mE_hasFaded) 0 = .ok (.aload_n 0, 1) := by decide +kernel
theorem dE_hasFaded_1 : decode (zby mE_hasFaded) 1 = .ok (.getfield 22, 3) := by decide +kernel
theorem dE_hasFaded_4 : decode (zby mE_hasFaded) 4 = .ok (.aload_n 0, 1) := by decide +kernel
theorem dE_hasFaded_5 : decode (zby mE_hasFaded) 5 = .ok (.invokevirtual 40, 3) := by decide +kernel
theorem dE_hasFaded_8 : decode (zby mE_hasFaded) 8 = .ok (.if_icmp .le 7, 3) := by decide +kernel
theorem dE_hasFaded_11 : decode (zby mE_hasFaded) 11 = .ok (.iconst 1, 1) := by decide +kernel
theorem dE_hasFaded_12 : decode (zby mE_hasFaded) 12 = .ok (.goto 4, 3) := by decide +kernel
theorem dE_hasFaded_15 : decode (zby mE_hasFaded) 15 = .ok (.iconst 0, 1) := by decide +kernel
theorem dE_hasFaded_16 : decode (zby mE_hasFaded) 16 = .ok (.ireturn, 1) := by decide +kernel
theorem dE_holds_0 : decode (zby mE_holds) 0 = .ok (.iconst 0, 1) := by decide +kernel
theorem dE_holds_1 : decode (zby mE_holds) 1 = .ok (.istore_n 2, 1) := by decide +kernel
theorem dE_holds_2 : decode (zby mE_holds) 2 = .ok (.iload_n 2, 1) := by decide +kernel
theorem dE_holds_3 : decode (zby mE_holds) 3 = .ok (.aload_n 0, 1) := by decide +kernel
theorem dE_holds_4 : decode (zby mE_holds) 4 = .ok (.getfield 31, 3) := by decide +kernel
theorem dE_holds_7 : decode (zby mE_holds) 7 = .ok (.if_icmp .ge 21, 3) := by decide +kernel
theorem dE_holds_10 : decode (zby mE_holds) 10 = .ok (.aload_n 0, 1) := by decide +kernel
theorem dE_holds_11 : decode (zby mE_holds) 11 = .ok (.getfield 9, 3) := by decide +kernel
theorem dE_holds_14 : decode (zby mE_holds) 14 = .ok (.iload_n 2, 1) := by decide +kernel
theorem dE_holds_15 : decode (zby mE_holds) 15 = .ok (.iaload, 1) := by decide +kernel
theorem dE_holds_16 : decode (zby mE_holds) 16 = .ok (.iload_n 1, 1) := by decide +kernel
theorem dE_holds_17 : decode (zby mE_holds) 17 = .ok (.if_icmp .ne 5, 3) := by decide +kernel
theorem dE_holds_20 : decode (zby mE_holds) 20 = .ok (.iconst 1, 1) := by decide +kernel
theorem dE_holds_21 : decode (zby mE_holds) 21 = .ok (.ireturn, 1) := by decide +kernel
theorem dE_holds_22 : decode (zby mE_holds) 22 = .ok (.iinc 2 1, 3) := by decide +kernel
theorem dE_holds_25 : decode (zby mE_holds) 25 = .ok (.goto (-23), 3) := by decide +kernel
theorem dE_holds_28 : decode (zby mE_holds) 28 = .ok (.iconst 0, 1) := by decide +kernel
theorem dE_holds_29 : decode (zby mE_holds) 29 = .ok (.ireturn, 1) := by decide +kernel
theorem dE_init_0 : decode (zby mE_init) 0 = .ok (.aload_n 0, 1) := by decide +kernel
theorem dE_init_1 : decode (zby mE_init) 1 = .ok (.invokespecial 3, 3) := by decide +kernel
theorem dE_init_4 : decode (zby mE_init) 4 = .ok (.aload_n 0, 1) := by decide +kernel
theorem dE_init_5 : decode (zby mE_init) 5 = .ok (.bipush 6, 2) := by decide +kernel
theorem dE_init_7 : decode (zby mE_init) 7 = .ok (.newarray .int, 2) := by decide +kernel
theorem dE_init_9 : decode (zby mE_init) 9 = .ok (.putfield 9, 3) := by decide +kernel
theorem dE_init_12 : decode (zby mE_init) 12 = .ok (.return_, 1) := by decide +kernel
theorem dE_insert_0 : decode (zby mE_insert) 0 = .ok (.aload_n 0, 1) := by decide +kernel
theorem dE_insert_1 : decode (zby mE_insert) 1 = .ok (.getfield 31, 3) := by decide +kernel
theorem dE_insert_4 : decode (zby mE_insert) 4 = .ok (.bipush 6, 2) := by decide +kernel
theorem dE_insert_6 : decode (zby mE_insert) 6 = .ok (.if_icmp .lt 4, 3) := by decide +kernel
theorem dE_insert_9 : decode (zby mE_insert) 9 = .ok (.return_, 1) := by decide +kernel
theorem dE_insert_10 : decode (zby mE_insert) 10 = .ok (.aload_n 0, 1) := by decide +kernel
theorem dE_insert_11 : decode (zby mE_insert) 11 = .ok (.getfield 31, 3) := by decide +kernel
theorem dE_insert_14 : decode (zby mE_insert) 14 = .ok (.istore_n 2, 1) := by decide +kernel
theorem dE_insert_15 : decode (zby mE_insert) 15 = .ok (.iload_n 2, 1) := by decide +kernel
theorem dE_insert_16 : decode (zby mE_insert) 16 = .ok (.ifCond .le 35, 3) := by decide +kernel
theorem dE_insert_19 : decode (zby mE_insert) 19 = .ok (.aload_n 0, 1) := by decide +kernel
theorem dE_insert_20 : decode (zby mE_insert) 20 = .ok (.getfield 9, 3) := by decide +kernel
theorem dE_insert_23 : decode (zby mE_insert) 23 = .ok (.iload_n 2, 1) := by decide +kernel
theorem dE_insert_24 : decode (zby mE_insert) 24 = .ok (.iconst 1, 1) := by decide +kernel
theorem dE_insert_25 : decode (zby mE_insert) 25 = .ok (.isub, 1) := by decide +kernel
theorem dE_insert_26 : decode (zby mE_insert) 26 = .ok (.iaload, 1) := by decide +kernel
theorem dE_insert_27 : decode (zby mE_insert) 27 = .ok (.iload_n 1, 1) := by decide +kernel
theorem dE_insert_28 : decode (zby mE_insert) 28 = .ok (.if_icmp .le 23, 3) := by decide +kernel
theorem dE_insert_31 : decode (zby mE_insert) 31 = .ok (.aload_n 0, 1) := by decide +kernel
theorem dE_insert_32 : decode (zby mE_insert) 32 = .ok (.getfield 9, 3) := by decide +kernel
theorem dE_insert_35 : decode (zby mE_insert) 35 = .ok (.iload_n 2, 1) := by decide +kernel
theorem dE_insert_36 : decode (zby mE_insert) 36 = .ok (.aload_n 0, 1) := by decide +kernel
theorem dE_insert_37 : decode (zby mE_insert) 37 = .ok (.getfield 9, 3) := by decide +kernel
theorem dE_insert_40 : decode (zby mE_insert) 40 = .ok (.iload_n 2, 1) := by decide +kernel
theorem dE_insert_41 : decode (zby mE_insert) 41 = .ok (.iconst 1, 1) := by decide +kernel
theorem dE_insert_42 : decode (zby mE_insert) 42 = .ok (.isub, 1) := by decide +kernel
theorem dE_insert_43 : decode (zby mE_insert) 43 = .ok (.iaload, 1) := by decide +kernel
theorem dE_insert_44 : decode (zby mE_insert) 44 = .ok (.iastore, 1) := by decide +kernel
theorem dE_insert_45 : decode (zby mE_insert) 45 = .ok (.iinc 2 (-1), 3) := by decide +kernel
theorem dE_insert_48 : decode (zby mE_insert) 48 = .ok (.goto (-33), 3) := by decide +kernel
theorem dE_insert_51 : decode (zby mE_insert) 51 = .ok (.aload_n 0, 1) := by decide +kernel
theorem dE_insert_52 : decode (zby mE_insert) 52 = .ok (.getfield 9, 3) := by decide +kernel
theorem dE_insert_55 : decode (zby mE_insert) 55 = .ok (.iload_n 2, 1) := by decide +kernel
theorem dE_insert_56 : decode (zby mE_insert) 56 = .ok (.iload_n 1, 1) := by decide +kernel
theorem dE_insert_57 : decode (zby mE_insert) 57 = .ok (.iastore, 1) := by decide +kernel
theorem dE_insert_58 : decode (zby mE_insert) 58 = .ok (.aload_n 0, 1) := by decide +kernel
theorem dE_insert_59 : decode (zby mE_insert) 59 = .ok (.dup, 1) := by decide +kernel
theorem dE_insert_60 : decode (zby mE_insert) 60 = .ok (.getfield 31, 3) := by decide +kernel
theorem dE_insert_63 : decode (zby mE_insert) 63 = .ok (.iconst 1, 1) := by decide +kernel
theorem dE_insert_64 : decode (zby mE_insert) 64 = .ok (.iadd, 1) := by decide +kernel
theorem dE_insert_65 : decode (zby mE_insert) 65 = .ok (.putfield 31, 3) := by decide +kernel
theorem dE_insert_68 : decode (zby mE_insert) 68 = .ok (.return_, 1) := by decide +kernel
theorem dE_lifetime_0 : decode (zby mE_lifetime) 0 = .ok (.bipush 10, 2) := by decide +kernel
theorem dE_lifetime_2 : decode (zby mE_lifetime) 2 = .ok (.aload_n 0, 1) := by decide +kernel
theorem dE_lifetime_3 : decode (zby mE_lifetime) 3 = .ok (.getfield 19, 3) := by decide +kernel
theorem dE_lifetime_6 : decode (zby mE_lifetime) 6 = .ok (.imul, 1) := by decide +kernel
theorem dE_lifetime_7 : decode (zby mE_lifetime) 7 = .ok (.iconst 5, 1) := by decide +kernel
theorem dE_lifetime_8 : decode (zby mE_lifetime) 8 = .ok (.aload_n 0, 1) := by decide +kernel
theorem dE_lifetime_9 : decode (zby mE_lifetime) 9 = .ok (.getfield 25, 3) := by decide +kernel
theorem dE_lifetime_12 : decode (zby mE_lifetime) 12 = .ok (.imul, 1) := by decide +kernel
theorem dE_lifetime_13 : decode (zby mE_lifetime) 13 = .ok (.iadd, 1) := by decide +kernel
theorem dE_lifetime_14 : decode (zby mE_lifetime) 14 = .ok (.istore_n 1, 1) := by decide +kernel
theorem dE_lifetime_15 : decode (zby mE_lifetime) 15 = .ok (.iload_n 1, 1) := by decide +kernel
theorem dE_lifetime_16 : decode (zby mE_lifetime) 16 = .ok (.sipush 150, 3) := by decide +kernel
theorem dE_lifetime_19 : decode (zby mE_lifetime) 19 = .ok (.if_icmp .ge 7, 3) := by decide +kernel
theorem dE_lifetime_22 : decode (zby mE_lifetime) 22 = .ok (.iload_n 1, 1) := by decide +kernel
theorem dE_lifetime_23 : decode (zby mE_lifetime) 23 = .ok (.goto 6, 3) := by decide +kernel
theorem dE_lifetime_26 : decode (zby mE_lifetime) 26 = .ok (.sipush 150, 3) := by decide +kernel
theorem dE_lifetime_29 : decode (zby mE_lifetime) 29 = .ok (.ireturn, 1) := by decide +kernel
theorem dE_lowestAbove_0 : decode (zby mE_lowestAbove) 0 = .ok (.iconst 0, 1) := by decide +kernel
theorem dE_lowestAbove_1 : decode (zby mE_lowestAbove) 1 = .ok (.istore_n 2, 1) := by decide +kernel
theorem dE_lowestAbove_2 : decode (zby mE_lowestAbove) 2 = .ok (.iload_n 2, 1) := by decide +kernel
theorem dE_lowestAbove_3 : decode (zby mE_lowestAbove) 3 = .ok (.aload_n 0, 1) := by decide +kernel
theorem dE_lowestAbove_4 : decode (zby mE_lowestAbove) 4 = .ok (.getfield 31, 3) := by decide +kernel
theorem dE_lowestAbove_7 : decode (zby mE_lowestAbove) 7 = .ok (.if_icmp .ge 26, 3) := by decide +kernel
theorem dE_lowestAbove_10 : decode (zby mE_lowestAbove) 10 = .ok (.aload_n 0, 1) := by decide +kernel
theorem dE_lowestAbove_11 : decode (zby mE_lowestAbove) 11 = .ok (.getfield 9, 3) := by decide +kernel
theorem dE_lowestAbove_14 : decode (zby mE_lowestAbove) 14 = .ok (.iload_n 2, 1) := by decide +kernel
theorem dE_lowestAbove_15 : decode (zby mE_lowestAbove) 15 = .ok (.iaload, 1) := by decide +kernel
theorem dE_lowestAbove_16 : decode (zby mE_lowestAbove) 16 = .ok (.iload_n 1, 1) := by decide +kernel
theorem dE_lowestAbove_17 : decode (zby mE_lowestAbove) 17 = .ok (.if_icmp .le 10, 3) := by decide +kernel
theorem dE_lowestAbove_20 : decode (zby mE_lowestAbove) 20 = .ok (.aload_n 0, 1) := by decide +kernel
theorem dE_lowestAbove_21 : decode (zby mE_lowestAbove) 21 = .ok (.getfield 9, 3) := by decide +kernel
theorem dE_lowestAbove_24 : decode (zby mE_lowestAbove) 24 = .ok (.iload_n 2, 1) := by decide +kernel
theorem dE_lowestAbove_25 : decode (zby mE_lowestAbove) 25 = .ok (.iaload, 1) := by decide +kernel
theorem dE_lowestAbove_26 : decode (zby mE_lowestAbove) 26 = .ok (.ireturn, 1) := by decide +kernel
theorem dE_lowestAbove_27 : decode (zby mE_lowestAbove) 27 = .ok (.iinc 2 1, 3) := by decide +kernel
theorem dE_lowestAbove_30 : decode (zby mE_lowestAbove) 30 = .ok (.goto (-28), 3) := by decide +kernel
theorem dE_lowestAbove_33 : decode (zby mE_lowestAbove) 33 = .ok (.sipush 1000, 3) := by decide +kernel
theorem dE_lowestAbove_36 : decode (zby mE_lowestAbove) 36 = .ok (.ireturn, 1) := by decide +kernel
theorem dE_score_0 : decode (zby mE_score) 0 = .ok (.bipush 10, 2) := by decide +kernel
theorem dE_score_2 : decode (zby mE_score) 2 = .ok (.aload_n 0, 1) := by decide +kernel
theorem dE_score_3 : decode (zby mE_score) 3 = .ok (.getfield 19, 3) := by decide +kernel
theorem dE_score_6 : decode (zby mE_score) 6 = .ok (.imul, 1) := by decide +kernel
theorem dE_score_7 : decode (zby mE_score) 7 = .ok (.iconst 5, 1) := by decide +kernel
theorem dE_score_8 : decode (zby mE_score) 8 = .ok (.aload_n 0, 1) := by decide +kernel
theorem dE_score_9 : decode (zby mE_score) 9 = .ok (.iload_n 1, 1) := by decide +kernel
theorem dE_score_10 : decode (zby mE_score) 10 = .ok (.iload_n 2, 1) := by decide +kernel
theorem dE_score_11 : decode (zby mE_score) 11 = .ok (.invokevirtual 44, 3) := by decide +kernel
theorem dE_score_14 : decode (zby mE_score) 14 = .ok (.imul, 1) := by decide +kernel
theorem dE_score_15 : decode (zby mE_score) 15 = .ok (.iadd, 1) := by decide +kernel
theorem dE_score_16 : decode (zby mE_score) 16 = .ok (.aload_n 0, 1) := by decide +kernel
theorem dE_score_17 : decode (zby mE_score) 17 = .ok (.getfield 22, 3) := by decide +kernel
theorem dE_score_20 : decode (zby mE_score) 20 = .ok (.isub, 1) := by decide +kernel
theorem dE_score_21 : decode (zby mE_score) 21 = .ok (.ireturn, 1) := by decide +kernel
theorem dH_forget_0 : decode (zby mH_forget) 0 = .ok (.aload_n 0, 1) := by decide +kernel
theorem dH_forget_1 : decode (zby mH_forget) 1 = .ok (.iconst 0, 1) := by decide +kernel
theorem dH_forget_2 : decode (zby mH_forget) 2 = .ok (.putfield 21, 3) := by decide +kernel
theorem dH_forget_5 : decode (zby mH_forget) 5 = .ok (.return_, 1) := by decide +kernel
theorem dH_init_0 : decode (zby mH_init) 0 = .ok (.aload_n 0, 1) := by decide +kernel
theorem dH_init_1 : decode (zby mH_init) 1 = .ok (.invokespecial 3, 3) := by decide +kernel
theorem dH_init_4 : decode (zby mH_init) 4 = .ok (.aload_n 0, 1) := by decide +kernel
theorem dH_init_5 : decode (zby mH_init) 5 = .ok (.bipush 9, 2) := by decide +kernel
theorem dH_init_7 : decode (zby mH_init) 7 = .ok (.anewarray 11, 3) := by decide +kernel
theorem dH_init_10 : decode (zby mH_init) 10 = .ok (.putfield 13, 3) := by decide +kernel
theorem dH_init_13 : decode (zby mH_init) 13 = .ok (.aload_n 0, 1) := by decide +kernel
theorem dH_init_14 : decode (zby mH_init) 14 = .ok (.iconst 0, 1) := by decide +kernel
theorem dH_init_15 : decode (zby mH_init) 15 = .ok (.putfield 17, 3) := by decide +kernel
theorem dH_init_18 : decode (zby mH_init) 18 = .ok (.aload_n 0, 1) := by decide +kernel
theorem dH_init_19 : decode (zby mH_init) 19 = .ok (.iconst 0, 1) := by decide +kernel
theorem dH_init_20 : decode (zby mH_init) 20 = .ok (.putfield 21, 3) := by decide +kernel
theorem dH_init_23 : decode (zby mH_init) 23 = .ok (.iconst 0, 1) := by decide +kernel
theorem dH_init_24 : decode (zby mH_init) 24 = .ok (.istore_n 1, 1) := by decide +kernel
theorem dH_init_25 : decode (zby mH_init) 25 = .ok (.iload_n 1, 1) := by decide +kernel
theorem dH_init_26 : decode (zby mH_init) 26 = .ok (.bipush 9, 2) := by decide +kernel
theorem dH_init_28 : decode (zby mH_init) 28 = .ok (.if_icmp .ge 22, 3) := by decide +kernel
theorem dH_init_31 : decode (zby mH_init) 31 = .ok (.aload_n 0, 1) := by decide +kernel
theorem dH_init_32 : decode (zby mH_init) 32 = .ok (.getfield 13, 3) := by decide +kernel
theorem dH_init_35 : decode (zby mH_init) 35 = .ok (.iload_n 1, 1) := by decide +kernel
theorem dH_init_36 : decode (zby mH_init) 36 = .ok (.new 11, 3) := by decide +kernel
theorem dH_init_39 : decode (zby mH_init) 39 = .ok (.dup, 1) := by decide +kernel
theorem dH_init_40 : decode (zby mH_init) 40 = .ok (.invokespecial 24, 3) := by decide +kernel
theorem dH_init_43 : decode (zby mH_init) 43 = .ok (.aastore, 1) := by decide +kernel
theorem dH_init_44 : decode (zby mH_init) 44 = .ok (.iinc 1 1, 3) := by decide +kernel
theorem dH_init_47 : decode (zby mH_init) 47 = .ok (.goto (-22), 3) := by decide +kernel
theorem dH_init_50 : decode (zby mH_init) 50 = .ok (.return_, 1) := by decide +kernel
theorem dH_keepMark_0 : decode (zby mH_keepMark) 0 = .ok (.aload_n 0, 1) := by decide +kernel
theorem dH_keepMark_1 : decode (zby mH_keepMark) 1 = .ok (.aload_n 0, 1) := by decide +kernel
theorem dH_keepMark_2 : decode (zby mH_keepMark) 2 = .ok (.getfield 17, 3) := by decide +kernel
theorem dH_keepMark_5 : decode (zby mH_keepMark) 5 = .ok (.iconst 1, 1) := by decide +kernel
theorem dH_keepMark_6 : decode (zby mH_keepMark) 6 = .ok (.iadd, 1) := by decide +kernel
theorem dH_keepMark_7 : decode (zby mH_keepMark) 7 = .ok (.bipush 9, 2) := by decide +kernel
theorem dH_keepMark_9 : decode (zby mH_keepMark) 9 = .ok (.irem, 1) := by decide +kernel
theorem dH_keepMark_10 : decode (zby mH_keepMark) 10 = .ok (.putfield 17, 3) := by decide +kernel
theorem dH_keepMark_13 : decode (zby mH_keepMark) 13 = .ok (.aload_n 0, 1) := by decide +kernel
theorem dH_keepMark_14 : decode (zby mH_keepMark) 14 = .ok (.bipush 8, 2) := by decide +kernel
theorem dH_keepMark_16 : decode (zby mH_keepMark) 16 = .ok (.aload_n 0, 1) := by decide +kernel
theorem dH_keepMark_17 : decode (zby mH_keepMark) 17 = .ok (.getfield 21, 3) := by decide +kernel
theorem dH_keepMark_20 : decode (zby mH_keepMark) 20 = .ok (.iconst 1, 1) := by decide +kernel
theorem dH_keepMark_21 : decode (zby mH_keepMark) 21 = .ok (.iadd, 1) := by decide +kernel
theorem dH_keepMark_22 : decode (zby mH_keepMark) 22 = .ok (.invokestatic 29, 3) := by decide +kernel
theorem dH_keepMark_25 : decode (zby mH_keepMark) 25 = .ok (.putfield 21, 3) := by decide +kernel
theorem dH_keepMark_28 : decode (zby mH_keepMark) 28 = .ok (.return_, 1) := by decide +kernel
theorem dH_mark_0 : decode (zby mH_mark) 0 = .ok (.aload_n 0, 1) := by decide +kernel
theorem dH_mark_1 : decode (zby mH_mark) 1 = .ok (.getfield 13, 3) := by decide +kernel
theorem dH_mark_4 : decode (zby mH_mark) 4 = .ok (.aload_n 0, 1) := by decide +kernel
theorem dH_mark_5 : decode (zby mH_mark) 5 = .ok (.getfield 17, 3) := by decide +kernel
theorem dH_mark_8 : decode (zby mH_mark) 8 = .ok (.aaload, 1) := by decide +kernel
theorem dH_mark_9 : decode (zby mH_mark) 9 = .ok (.aload_n 1, 1) := by decide +kernel
theorem dH_mark_10 : decode (zby mH_mark) 10 = .ok (.invokevirtual 25, 3) := by decide +kernel
theorem dH_mark_13 : decode (zby mH_mark) 13 = .ok (.return_, 1) := by decide +kernel
theorem dH_returnToMark_0 : decode (zby mH_returnToMark) 0 = .ok (.aload_n 1, 1) := by decide +kernel
theorem dH_returnToMark_1 : decode (zby mH_returnToMark) 1 = .ok (.aload_n 0, 1) := by decide +kernel
theorem dH_returnToMark_2 : decode (zby mH_returnToMark) 2 = .ok (.getfield 13, 3) := by decide +kernel
theorem dH_returnToMark_5 : decode (zby mH_returnToMark) 5 = .ok (.aload_n 0, 1) := by decide +kernel
theorem dH_returnToMark_6 : decode (zby mH_returnToMark) 6 = .ok (.getfield 17, 3) := by decide +kernel
theorem dH_returnToMark_9 : decode (zby mH_returnToMark) 9 = .ok (.aaload, 1) := by decide +kernel
theorem dH_returnToMark_10 : decode (zby mH_returnToMark) 10 = .ok (.invokevirtual 25, 3) := by decide +kernel
theorem dH_returnToMark_13 : decode (zby mH_returnToMark) 13 = .ok (.return_, 1) := by decide +kernel
theorem dH_takeBack_0 : decode (zby mH_takeBack) 0 = .ok (.aload_n 0, 1) := by decide +kernel
theorem dH_takeBack_1 : decode (zby mH_takeBack) 1 = .ok (.aload_n 0, 1) := by decide +kernel
theorem dH_takeBack_2 : decode (zby mH_takeBack) 2 = .ok (.getfield 17, 3) := by decide +kernel
theorem dH_takeBack_5 : decode (zby mH_takeBack) 5 = .ok (.bipush 9, 2) := by decide +kernel
theorem dH_takeBack_7 : decode (zby mH_takeBack) 7 = .ok (.iadd, 1) := by decide +kernel
theorem dH_takeBack_8 : decode (zby mH_takeBack) 8 = .ok (.iconst 1, 1) := by decide +kernel
theorem dH_takeBack_9 : decode (zby mH_takeBack) 9 = .ok (.isub, 1) := by decide +kernel
theorem dH_takeBack_10 : decode (zby mH_takeBack) 10 = .ok (.bipush 9, 2) := by decide +kernel
theorem dH_takeBack_12 : decode (zby mH_takeBack) 12 = .ok (.irem, 1) := by decide +kernel
theorem dH_takeBack_13 : decode (zby mH_takeBack) 13 = .ok (.putfield 17, 3) := by decide +kernel
theorem dH_takeBack_16 : decode (zby mH_takeBack) 16 = .ok (.aload_n 0, 1) := by decide +kernel
theorem dH_takeBack_17 : decode (zby mH_takeBack) 17 = .ok (.dup, 1) := by decide +kernel
theorem dH_takeBack_18 : decode (zby mH_takeBack) 18 = .ok (.getfield 21, 3) := by decide +kernel
theorem dH_takeBack_21 : decode (zby mH_takeBack) 21 = .ok (.iconst 1, 1) := by decide +kernel
theorem dH_takeBack_22 : decode (zby mH_takeBack) 22 = .ok (.isub, 1) := by decide +kernel
theorem dH_takeBack_23 : decode (zby mH_takeBack) 23 = .ok (.putfield 21, 3) := by decide +kernel
theorem dH_takeBack_26 : decode (zby mH_takeBack) 26 = .ok (.aload_n 1, 1) := by decide +kernel
theorem dH_takeBack_27 : decode (zby mH_takeBack) 27 = .ok (.aload_n 0, 1) := by decide +kernel
theorem dH_takeBack_28 : decode (zby mH_takeBack) 28 = .ok (.getfield 13, 3) := by decide +kernel
theorem dH_takeBack_31 : decode (zby mH_takeBack) 31 = .ok (.aload_n 0, 1) := by decide +kernel
theorem dH_takeBack_32 : decode (zby mH_takeBack) 32 = .ok (.getfield 17, 3) := by decide +kernel
theorem dH_takeBack_35 : decode (zby mH_takeBack) 35 = .ok (.aaload, 1) := by decide +kernel
theorem dH_takeBack_36 : decode (zby mH_takeBack) 36 = .ok (.invokevirtual 25, 3) := by decide +kernel
theorem dH_takeBack_39 : decode (zby mH_takeBack) 39 = .ok (.return_, 1) := by decide +kernel
theorem dK_checkIndex_0 : decode (zby mK_checkIndex) 0 = .ok (.iload_n 0, 1) := by decide +kernel
theorem dK_checkIndex_1 : decode (zby mK_checkIndex) 1 = .ok (.ifCond .lt 8, 3) := by decide +kernel
theorem dK_checkIndex_4 : decode (zby mK_checkIndex) 4 = .ok (.iload_n 0, 1) := by decide +kernel
theorem dK_checkIndex_5 : decode (zby mK_checkIndex) 5 = .ok (.iload_n 1, 1) := by decide +kernel
theorem dK_checkIndex_6 : decode (zby mK_checkIndex) 6 = .ok (.if_icmp .lt 10, 3) := by decide +kernel
theorem dK_checkIndex_9 : decode (zby mK_checkIndex) 9 = .ok (.aload_n 2, 1) := by decide +kernel
theorem dK_checkIndex_10 : decode (zby mK_checkIndex) 10 = .ok (.iload_n 0, 1) := by decide +kernel
theorem dK_checkIndex_11 : decode (zby mK_checkIndex) 11 = .ok (.iload_n 1, 1) := by decide +kernel
theorem dK_checkIndex_12 : decode (zby mK_checkIndex) 12 = .ok (.invokestatic 95, 3) := by decide +kernel
theorem dK_checkIndex_15 : decode (zby mK_checkIndex) 15 = .ok (.athrow, 1) := by decide +kernel
theorem dK_checkIndex_16 : decode (zby mK_checkIndex) 16 = .ok (.iload_n 0, 1) := by decide +kernel
theorem dK_checkIndex_17 : decode (zby mK_checkIndex) 17 = .ok (.ireturn, 1) := by decide +kernel
theorem dL_clear_0 : decode (zby mL_clear) 0 = .ok (.aload_n 0, 1) := by decide +kernel
theorem dL_clear_1 : decode (zby mL_clear) 1 = .ok (.iconst 0, 1) := by decide +kernel
theorem dL_clear_2 : decode (zby mL_clear) 2 = .ok (.putfield 18, 3) := by decide +kernel
theorem dL_clear_5 : decode (zby mL_clear) 5 = .ok (.return_, 1) := by decide +kernel
theorem dL_digitOf_0 : decode (zby mL_digitOf) 0 = .ok (.bipush 48, 2) := by decide +kernel
theorem dL_digitOf_2 : decode (zby mL_digitOf) 2 = .ok (.iload_n 0, 1) := by decide +kernel
theorem dL_digitOf_3 : decode (zby mL_digitOf) 3 = .ok (.bipush 10, 2) := by decide +kernel
theorem dL_digitOf_5 : decode (zby mL_digitOf) 5 = .ok (.irem, 1) := by decide +kernel
theorem dL_digitOf_6 : decode (zby mL_digitOf) 6 = .ok (.invokestatic 38, 3) := by decide +kernel
theorem dL_digitOf_9 : decode (zby mL_digitOf) 9 = .ok (.iadd, 1) := by decide +kernel
theorem dL_digitOf_10 : decode (zby mL_digitOf) 10 = .ok (.i2c, 1) := by decide +kernel
theorem dL_digitOf_11 : decode (zby mL_digitOf) 11 = .ok (.ireturn, 1) := by decide +kernel
theorem dL_init_0 : decode (zby mL_init) 0 = .ok (.aload_n 0, 1) := by decide +kernel
theorem dL_init_1 : decode (zby mL_init) 1 = .ok (.invokespecial 3, 3) := by decide +kernel
theorem dL_init_4 : decode (zby mL_init) 4 = .ok (.aload_n 0, 1) := by decide +kernel
theorem dL_init_5 : decode (zby mL_init) 5 = .ok (.sipush 480, 3) := by decide +kernel
theorem dL_init_8 : decode (zby mL_init) 8 = .ok (.newarray .char, 2) := by decide +kernel
theorem dL_init_10 : decode (zby mL_init) 10 = .ok (.putfield 9, 3) := by decide +kernel
theorem dL_init_13 : decode (zby mL_init) 13 = .ok (.aload_n 0, 1) := by decide +kernel
theorem dL_init_14 : decode (zby mL_init) 14 = .ok (.bipush 10, 2) := by decide +kernel
theorem dL_init_16 : decode (zby mL_init) 16 = .ok (.newarray .char, 2) := by decide +kernel
theorem dL_init_18 : decode (zby mL_init) 18 = .ok (.putfield 15, 3) := by decide +kernel
theorem dL_init_21 : decode (zby mL_init) 21 = .ok (.aload_n 0, 1) := by decide +kernel
theorem dL_init_22 : decode (zby mL_init) 22 = .ok (.iconst 0, 1) := by decide +kernel
theorem dL_init_23 : decode (zby mL_init) 23 = .ok (.putfield 18, 3) := by decide +kernel
theorem dL_init_26 : decode (zby mL_init) 26 = .ok (.return_, 1) := by decide +kernel
theorem dL_put_0 : decode (zby mL_put) 0 = .ok (.aload_n 0, 1) := by decide +kernel
theorem dL_put_1 : decode (zby mL_put) 1 = .ok (.getfield 18, 3) := by decide +kernel
theorem dL_put_4 : decode (zby mL_put) 4 = .ok (.sipush 480, 3) := by decide +kernel
theorem dL_put_7 : decode (zby mL_put) 7 = .ok (.if_icmp .ge 23, 3) := by decide +kernel
theorem dL_put_10 : decode (zby mL_put) 10 = .ok (.aload_n 0, 1) := by decide +kernel
theorem dL_put_11 : decode (zby mL_put) 11 = .ok (.getfield 9, 3) := by decide +kernel
theorem dL_put_14 : decode (zby mL_put) 14 = .ok (.aload_n 0, 1) := by decide +kernel
theorem dL_put_15 : decode (zby mL_put) 15 = .ok (.getfield 18, 3) := by decide +kernel
theorem dL_put_18 : decode (zby mL_put) 18 = .ok (.iload_n 1, 1) := by decide +kernel
theorem dL_put_19 : decode (zby mL_put) 19 = .ok (.castore, 1) := by decide +kernel
theorem dL_put_20 : decode (zby mL_put) 20 = .ok (.aload_n 0, 1) := by decide +kernel
theorem dL_put_21 : decode (zby mL_put) 21 = .ok (.dup, 1) := by decide +kernel
theorem dL_put_22 : decode (zby mL_put) 22 = .ok (.getfield 18, 3) := by decide +kernel
theorem dL_put_25 : decode (zby mL_put) 25 = .ok (.iconst 1, 1) := by decide +kernel
theorem dL_put_26 : decode (zby mL_put) 26 = .ok (.iadd, 1) := by decide +kernel
theorem dL_put_27 : decode (zby mL_put) 27 = .ok (.putfield 18, 3) := by decide +kernel
theorem dL_put_30 : decode (zby mL_put) 30 = .ok (.return_, 1) := by decide +kernel
theorem dL_putCode_0 : decode (zby mL_putCode) 0 = .ok (.iconst 2, 1) := by decide +kernel
theorem dL_putCode_1 : decode (zby mL_putCode) 1 = .ok (.istore_n 2, 1) := by decide +kernel
theorem dL_putCode_2 : decode (zby mL_putCode) 2 = .ok (.iload_n 2, 1) := by decide +kernel
theorem dL_putCode_3 : decode (zby mL_putCode) 3 = .ok (.ifCond .lt 21, 3) := by decide +kernel
theorem dL_putCode_6 : decode (zby mL_putCode) 6 = .ok (.aload_n 0, 1) := by decide +kernel
theorem dL_putCode_7 : decode (zby mL_putCode) 7 = .ok (.iload_n 1, 1) := by decide +kernel
theorem dL_putCode_8 : decode (zby mL_putCode) 8 = .ok (.iload_n 2, 1) := by decide +kernel
theorem dL_putCode_9 : decode (zby mL_putCode) 9 = .ok (.invokestatic 34, 3) := by decide +kernel
theorem dL_putCode_12 : decode (zby mL_putCode) 12 = .ok (.invokestatic 30, 3) := by decide +kernel
theorem dL_putCode_15 : decode (zby mL_putCode) 15 = .ok (.invokevirtual 22, 3) := by decide +kernel
theorem dL_putCode_18 : decode (zby mL_putCode) 18 = .ok (.iinc 2 (-1), 3) := by decide +kernel
theorem dL_putCode_21 : decode (zby mL_putCode) 21 = .ok (.goto (-19), 3) := by decide +kernel
theorem dL_putCode_24 : decode (zby mL_putCode) 24 = .ok (.return_, 1) := by decide +kernel
theorem dL_putField_0 : decode (zby mL_putField) 0 = .ok (.aload_n 0, 1) := by decide +kernel
theorem dL_putField_1 : decode (zby mL_putField) 1 = .ok (.iload_n 1, 1) := by decide +kernel
theorem dL_putField_2 : decode (zby mL_putField) 2 = .ok (.invokevirtual 22, 3) := by decide +kernel
theorem dL_putField_5 : decode (zby mL_putField) 5 = .ok (.aload_n 0, 1) := by decide +kernel
theorem dL_putField_6 : decode (zby mL_putField) 6 = .ok (.iload_n 2, 1) := by decide +kernel
theorem dL_putField_7 : decode (zby mL_putField) 7 = .ok (.invokevirtual 26, 3) := by decide +kernel
theorem dL_putField_10 : decode (zby mL_putField) 10 = .ok (.return_, 1) := by decide +kernel
theorem dL_putNumber_0 : decode (zby mL_putNumber) 0 = .ok (.iload_n 1, 1) := by decide +kernel
theorem dL_putNumber_1 : decode (zby mL_putNumber) 1 = .ok (.ifCond .ge 9, 3) := by decide +kernel
theorem dL_putNumber_4 : decode (zby mL_putNumber) 4 = .ok (.aload_n 0, 1) := by decide +kernel
theorem dL_putNumber_5 : decode (zby mL_putNumber) 5 = .ok (.bipush 45, 2) := by decide +kernel
theorem dL_putNumber_7 : decode (zby mL_putNumber) 7 = .ok (.invokevirtual 22, 3) := by decide +kernel
theorem dL_putNumber_10 : decode (zby mL_putNumber) 10 = .ok (.iload_n 1, 1) := by decide +kernel
theorem dL_putNumber_11 : decode (zby mL_putNumber) 11 = .ok (.istore_n 2, 1) := by decide +kernel
theorem dL_putNumber_12 : decode (zby mL_putNumber) 12 = .ok (.iconst 0, 1) := by decide +kernel
theorem dL_putNumber_13 : decode (zby mL_putNumber) 13 = .ok (.istore_n 3, 1) := by decide +kernel
theorem dL_putNumber_14 : decode (zby mL_putNumber) 14 = .ok (.aload_n 0, 1) := by decide +kernel
theorem dL_putNumber_15 : decode (zby mL_putNumber) 15 = .ok (.getfield 15, 3) := by decide +kernel
theorem dL_putNumber_18 : decode (zby mL_putNumber) 18 = .ok (.iload_n 3, 1) := by decide +kernel
theorem dL_putNumber_19 : decode (zby mL_putNumber) 19 = .ok (.iload_n 2, 1) := by decide +kernel
theorem dL_putNumber_20 : decode (zby mL_putNumber) 20 = .ok (.invokestatic 30, 3) := by decide +kernel
theorem dL_putNumber_23 : decode (zby mL_putNumber) 23 = .ok (.castore, 1) := by decide +kernel
theorem dL_putNumber_24 : decode (zby mL_putNumber) 24 = .ok (.iload_n 2, 1) := by decide +kernel
theorem dL_putNumber_25 : decode (zby mL_putNumber) 25 = .ok (.bipush 10, 2) := by decide +kernel
theorem dL_putNumber_27 : decode (zby mL_putNumber) 27 = .ok (.idiv, 1) := by decide +kernel
theorem dL_putNumber_28 : decode (zby mL_putNumber) 28 = .ok (.istore_n 2, 1) := by decide +kernel
theorem dL_putNumber_29 : decode (zby mL_putNumber) 29 = .ok (.iinc 3 1, 3) := by decide +kernel
theorem dL_putNumber_32 : decode (zby mL_putNumber) 32 = .ok (.iload_n 2, 1) := by decide +kernel
theorem dL_putNumber_33 : decode (zby mL_putNumber) 33 = .ok (.ifCond .eq 9, 3) := by decide +kernel
theorem dL_putNumber_36 : decode (zby mL_putNumber) 36 = .ok (.iload_n 3, 1) := by decide +kernel
theorem dL_putNumber_37 : decode (zby mL_putNumber) 37 = .ok (.bipush 10, 2) := by decide +kernel
theorem dL_putNumber_39 : decode (zby mL_putNumber) 39 = .ok (.if_icmp .lt (-25), 3) := by decide +kernel
theorem dL_putNumber_42 : decode (zby mL_putNumber) 42 = .ok (.iload_n 3, 1) := by decide +kernel
theorem dL_putNumber_43 : decode (zby mL_putNumber) 43 = .ok (.iconst 1, 1) := by decide +kernel
theorem dL_putNumber_44 : decode (zby mL_putNumber) 44 = .ok (.isub, 1) := by decide +kernel
theorem dL_putNumber_45 : decode (zby mL_putNumber) 45 = .ok (.istore 4, 2) := by decide +kernel
theorem dL_putNumber_47 : decode (zby mL_putNumber) 47 = .ok (.iload 4, 2) := by decide +kernel
theorem dL_putNumber_49 : decode (zby mL_putNumber) 49 = .ok (.ifCond .lt 20, 3) := by decide +kernel
theorem dL_putNumber_52 : decode (zby mL_putNumber) 52 = .ok (.aload_n 0, 1) := by decide +kernel
theorem dL_putNumber_53 : decode (zby mL_putNumber) 53 = .ok (.aload_n 0, 1) := by decide +kernel
theorem dL_putNumber_54 : decode (zby mL_putNumber) 54 = .ok (.getfield 15, 3) := by decide +kernel
theorem dL_putNumber_57 : decode (zby mL_putNumber) 57 = .ok (.iload 4, 2) := by decide +kernel
theorem dL_putNumber_59 : decode (zby mL_putNumber) 59 = .ok (.caload, 1) := by decide +kernel
theorem dL_putNumber_60 : decode (zby mL_putNumber) 60 = .ok (.invokevirtual 22, 3) := by decide +kernel
theorem dL_putNumber_63 : decode (zby mL_putNumber) 63 = .ok (.iinc 4 (-1), 3) := by decide +kernel
theorem dL_putNumber_66 : decode (zby mL_putNumber) 66 = .ok (.goto (-19), 3) := by decide +kernel
theorem dL_putNumber_69 : decode (zby mL_putNumber) 69 = .ok (.return_, 1) := by decide +kernel
theorem dN_abs_0 : decode (zby mN_abs) 0 = .ok (.iload_n 0, 1) := by decide +kernel
theorem dN_abs_1 : decode (zby mN_abs) 1 = .ok (.ifCond .ge 8, 3) := by decide +kernel
theorem dN_abs_4 : decode (zby mN_abs) 4 = .ok (.iload_n 0, 1) := by decide +kernel
theorem dN_abs_5 : decode (zby mN_abs) 5 = .ok (.ineg, 1) := by decide +kernel
theorem dN_abs_6 : decode (zby mN_abs) 6 = .ok (.goto 4, 3) := by decide +kernel
theorem dN_abs_9 : decode (zby mN_abs) 9 = .ok (.iload_n 0, 1) := by decide +kernel
theorem dN_abs_10 : decode (zby mN_abs) 10 = .ok (.ireturn, 1) := by decide +kernel
theorem dN_max_0 : decode (zby mN_max) 0 = .ok (.iload_n 0, 1) := by decide +kernel
theorem dN_max_1 : decode (zby mN_max) 1 = .ok (.iload_n 1, 1) := by decide +kernel
theorem dN_max_2 : decode (zby mN_max) 2 = .ok (.if_icmp .lt 7, 3) := by decide +kernel
theorem dN_max_5 : decode (zby mN_max) 5 = .ok (.iload_n 0, 1) := by decide +kernel
theorem dN_max_6 : decode (zby mN_max) 6 = .ok (.goto 4, 3) := by decide +kernel
theorem dN_max_9 : decode (zby mN_max) 9 = .ok (.iload_n 1, 1) := by decide +kernel
theorem dN_max_10 : decode (zby mN_max) 10 = .ok (.ireturn, 1) := by decide +kernel
theorem dN_min_0 : decode (zby mN_min) 0 = .ok (.iload_n 0, 1) := by decide +kernel
theorem dN_min_1 : decode (zby mN_min) 1 = .ok (.iload_n 1, 1) := by decide +kernel
theorem dN_min_2 : decode (zby mN_min) 2 = .ok (.if_icmp .gt 7, 3) := by decide +kernel
theorem dN_min_5 : decode (zby mN_min) 5 = .ok (.iload_n 0, 1) := by decide +kernel
theorem dN_min_6 : decode (zby mN_min) 6 = .ok (.goto 4, 3) := by decide +kernel
theorem dN_min_9 : decode (zby mN_min) 9 = .ok (.iload_n 1, 1) := by decide +kernel
theorem dN_min_10 : decode (zby mN_min) 10 = .ok (.ireturn, 1) := by decide +kernel
theorem dP_add_0 : decode (zby mP_add) 0 = .ok (.aload_n 0, 1) := by decide +kernel
theorem dP_add_1 : decode (zby mP_add) 1 = .ok (.getfield 15, 3) := by decide +kernel
theorem dP_add_4 : decode (zby mP_add) 4 = .ok (.bipush 60, 2) := by decide +kernel
theorem dP_add_6 : decode (zby mP_add) 6 = .ok (.if_icmp .ge 23, 3) := by decide +kernel
theorem dP_add_9 : decode (zby mP_add) 9 = .ok (.aload_n 0, 1) := by decide +kernel
theorem dP_add_10 : decode (zby mP_add) 10 = .ok (.getfield 9, 3) := by decide +kernel
theorem dP_add_13 : decode (zby mP_add) 13 = .ok (.aload_n 0, 1) := by decide +kernel
theorem dP_add_14 : decode (zby mP_add) 14 = .ok (.getfield 15, 3) := by decide +kernel
theorem dP_add_17 : decode (zby mP_add) 17 = .ok (.iload_n 1, 1) := by decide +kernel
theorem dP_add_18 : decode (zby mP_add) 18 = .ok (.castore, 1) := by decide +kernel
theorem dP_add_19 : decode (zby mP_add) 19 = .ok (.aload_n 0, 1) := by decide +kernel
theorem dP_add_20 : decode (zby mP_add) 20 = .ok (.dup, 1) := by decide +kernel
theorem dP_add_21 : decode (zby mP_add) 21 = .ok (.getfield 15, 3) := by decide +kernel
theorem dP_add_24 : decode (zby mP_add) 24 = .ok (.iconst 1, 1) := by decide +kernel
theorem dP_add_25 : decode (zby mP_add) 25 = .ok (.iadd, 1) := by decide +kernel
theorem dP_add_26 : decode (zby mP_add) 26 = .ok (.putfield 15, 3) := by decide +kernel
theorem dP_add_29 : decode (zby mP_add) 29 = .ok (.aload_n 0, 1) := by decide +kernel
theorem dP_add_30 : decode (zby mP_add) 30 = .ok (.getfield 15, 3) := by decide +kernel
theorem dP_add_33 : decode (zby mP_add) 33 = .ok (.ireturn, 1) := by decide +kernel
theorem dP_clear_0 : decode (zby mP_clear) 0 = .ok (.aload_n 0, 1) := by decide +kernel
theorem dP_clear_1 : decode (zby mP_clear) 1 = .ok (.iconst 0, 1) := by decide +kernel
theorem dP_clear_2 : decode (zby mP_clear) 2 = .ok (.putfield 15, 3) := by decide +kernel
theorem dP_clear_5 : decode (zby mP_clear) 5 = .ok (.return_, 1) := by decide +kernel
theorem dP_digitStands_0 : decode (zby mP_digitStands) 0 = .ok (.aload_n 0, 1) := by decide +kernel
theorem dP_digitStands_1 : decode (zby mP_digitStands) 1 = .ok (.getfield 19, 3) := by decide +kernel
theorem dP_digitStands_4 : decode (zby mP_digitStands) 4 = .ok (.aload_n 0, 1) := by decide +kernel
theorem dP_digitStands_5 : decode (zby mP_digitStands) 5 = .ok (.getfield 15, 3) := by decide +kernel
theorem dP_digitStands_8 : decode (zby mP_digitStands) 8 = .ok (.if_icmp .ge 35, 3) := by decide +kernel
theorem dP_digitStands_11 : decode (zby mP_digitStands) 11 = .ok (.aload_n 0, 1) := by decide +kernel
theorem dP_digitStands_12 : decode (zby mP_digitStands) 12 = .ok (.getfield 9, 3) := by decide +kernel
theorem dP_digitStands_15 : decode (zby mP_digitStands) 15 = .ok (.aload_n 0, 1) := by decide +kernel
theorem dP_digitStands_16 : decode (zby mP_digitStands) 16 = .ok (.getfield 19, 3) := by decide +kernel
theorem dP_digitStands_19 : decode (zby mP_digitStands) 19 = .ok (.caload, 1) := by decide +kernel
theorem dP_digitStands_20 : decode (zby mP_digitStands) 20 = .ok (.bipush 48, 2) := by decide +kernel
theorem dP_digitStands_22 : decode (zby mP_digitStands) 22 = .ok (.if_icmp .lt 21, 3) := by decide +kernel
theorem dP_digitStands_25 : decode (zby mP_digitStands) 25 = .ok (.aload_n 0, 1) := by decide +kernel
theorem dP_digitStands_26 : decode (zby mP_digitStands) 26 = .ok (.getfield 9, 3) := by decide +kernel
theorem dP_digitStands_29 : decode (zby mP_digitStands) 29 = .ok (.aload_n 0, 1) := by decide +kernel
theorem dP_digitStands_30 : decode (zby mP_digitStands) 30 = .ok (.getfield 19, 3) := by decide +kernel
theorem dP_digitStands_33 : decode (zby mP_digitStands) 33 = .ok (.caload, 1) := by decide +kernel
theorem dP_digitStands_34 : decode (zby mP_digitStands) 34 = .ok (.bipush 57, 2) := by decide +kernel
theorem dP_digitStands_36 : decode (zby mP_digitStands) 36 = .ok (.if_icmp .gt 7, 3) := by decide +kernel
theorem dP_digitStands_39 : decode (zby mP_digitStands) 39 = .ok (.iconst 1, 1) := by decide +kernel
theorem dP_digitStands_40 : decode (zby mP_digitStands) 40 = .ok (.goto 4, 3) := by decide +kernel
theorem dP_digitStands_43 : decode (zby mP_digitStands) 43 = .ok (.iconst 0, 1) := by decide +kernel
theorem dP_digitStands_44 : decode (zby mP_digitStands) 44 = .ok (.ireturn, 1) := by decide +kernel
theorem dP_init_0 : decode (zby mP_init) 0 = .ok (.aload_n 0, 1) := by decide +kernel
theorem dP_init_1 : decode (zby mP_init) 1 = .ok (.invokespecial 3, 3) := by decide +kernel
theorem dP_init_4 : decode (zby mP_init) 4 = .ok (.aload_n 0, 1) := by decide +kernel
theorem dP_init_5 : decode (zby mP_init) 5 = .ok (.bipush 60, 2) := by decide +kernel
theorem dP_init_7 : decode (zby mP_init) 7 = .ok (.newarray .char, 2) := by decide +kernel
theorem dP_init_9 : decode (zby mP_init) 9 = .ok (.putfield 9, 3) := by decide +kernel
theorem dP_init_12 : decode (zby mP_init) 12 = .ok (.aload_n 0, 1) := by decide +kernel
theorem dP_init_13 : decode (zby mP_init) 13 = .ok (.iconst 0, 1) := by decide +kernel
theorem dP_init_14 : decode (zby mP_init) 14 = .ok (.putfield 15, 3) := by decide +kernel
theorem dP_init_17 : decode (zby mP_init) 17 = .ok (.aload_n 0, 1) := by decide +kernel
theorem dP_init_18 : decode (zby mP_init) 18 = .ok (.iconst 0, 1) := by decide +kernel
theorem dP_init_19 : decode (zby mP_init) 19 = .ok (.putfield 19, 3) := by decide +kernel
theorem dP_init_22 : decode (zby mP_init) 22 = .ok (.aload_n 0, 1) := by decide +kernel
theorem dP_init_23 : decode (zby mP_init) 23 = .ok (.iconst 0, 1) := by decide +kernel
theorem dP_init_24 : decode (zby mP_init) 24 = .ok (.putfield 22, 3) := by decide +kernel
theorem dP_init_27 : decode (zby mP_init) 27 = .ok (.aload_n 0, 1) := by decide +kernel
theorem dP_init_28 : decode (zby mP_init) 28 = .ok (.iconst 0, 1) := by decide +kernel
theorem dP_init_29 : decode (zby mP_init) 29 = .ok (.putfield 25, 3) := by decide +kernel
theorem dP_init_32 : decode (zby mP_init) 32 = .ok (.aload_n 0, 1) := by decide +kernel
theorem dP_init_33 : decode (zby mP_init) 33 = .ok (.bipush 15, 2) := by decide +kernel
theorem dP_init_35 : decode (zby mP_init) 35 = .ok (.newarray .int, 2) := by decide +kernel
theorem dP_init_37 : decode (zby mP_init) 37 = .ok (.putfield 28, 3) := by decide +kernel
theorem dP_init_40 : decode (zby mP_init) 40 = .ok (.aload_n 0, 1) := by decide +kernel
theorem dP_init_41 : decode (zby mP_init) 41 = .ok (.bipush 15, 2) := by decide +kernel
theorem dP_init_43 : decode (zby mP_init) 43 = .ok (.newarray .int, 2) := by decide +kernel
theorem dP_init_45 : decode (zby mP_init) 45 = .ok (.putfield 32, 3) := by decide +kernel
theorem dP_init_48 : decode (zby mP_init) 48 = .ok (.aload_n 0, 1) := by decide +kernel
theorem dP_init_49 : decode (zby mP_init) 49 = .ok (.bipush 15, 2) := by decide +kernel
theorem dP_init_51 : decode (zby mP_init) 51 = .ok (.newarray .int, 2) := by decide +kernel
theorem dP_init_53 : decode (zby mP_init) 53 = .ok (.putfield 35, 3) := by decide +kernel
theorem dP_init_56 : decode (zby mP_init) 56 = .ok (.aload_n 0, 1) := by decide +kernel
theorem dP_init_57 : decode (zby mP_init) 57 = .ok (.iconst 0, 1) := by decide +kernel
theorem dP_init_58 : decode (zby mP_init) 58 = .ok (.putfield 38, 3) := by decide +kernel
theorem dP_init_61 : decode (zby mP_init) 61 = .ok (.return_, 1) := by decide +kernel
theorem dP_matchedLetters_0 : decode (zby mP_matchedLetters) 0 = .ok (.iconst 0, 1) := by decide +kernel
theorem dP_matchedLetters_1 : decode (zby mP_matchedLetters) 1 = .ok (.istore_n 2, 1) := by decide +kernel
theorem dP_matchedLetters_2 : decode (zby mP_matchedLetters) 2 = .ok (.iload_n 2, 1) := by decide +kernel
theorem dP_matchedLetters_3 : decode (zby mP_matchedLetters) 3 = .ok (.aload_n 1, 1) := by decide +kernel
theorem dP_matchedLetters_4 : decode (zby mP_matchedLetters) 4 = .ok (.invokevirtual 65, 3) := by decide +kernel
theorem dP_matchedLetters_7 : decode (zby mP_matchedLetters) 7 = .ok (.if_icmp .ge 41, 3) := by decide +kernel
theorem dP_matchedLetters_10 : decode (zby mP_matchedLetters) 10 = .ok (.aload_n 0, 1) := by decide +kernel
theorem dP_matchedLetters_11 : decode (zby mP_matchedLetters) 11 = .ok (.getfield 19, 3) := by decide +kernel
theorem dP_matchedLetters_14 : decode (zby mP_matchedLetters) 14 = .ok (.iload_n 2, 1) := by decide +kernel
theorem dP_matchedLetters_15 : decode (zby mP_matchedLetters) 15 = .ok (.iadd, 1) := by decide +kernel
theorem dP_matchedLetters_16 : decode (zby mP_matchedLetters) 16 = .ok (.aload_n 0, 1) := by decide +kernel
theorem dP_matchedLetters_17 : decode (zby mP_matchedLetters) 17 = .ok (.getfield 15, 3) := by decide +kernel
theorem dP_matchedLetters_20 : decode (zby mP_matchedLetters) 20 = .ok (.if_icmp .ge 28, 3) := by decide +kernel
theorem dP_matchedLetters_23 : decode (zby mP_matchedLetters) 23 = .ok (.aload_n 1, 1) := by decide +kernel
theorem dP_matchedLetters_24 : decode (zby mP_matchedLetters) 24 = .ok (.iload_n 2, 1) := by decide +kernel
theorem dP_matchedLetters_25 : decode (zby mP_matchedLetters) 25 = .ok (.invokevirtual 75, 3) := by decide +kernel
theorem dP_matchedLetters_28 : decode (zby mP_matchedLetters) 28 = .ok (.aload_n 0, 1) := by decide +kernel
theorem dP_matchedLetters_29 : decode (zby mP_matchedLetters) 29 = .ok (.getfield 9, 3) := by decide +kernel
theorem dP_matchedLetters_32 : decode (zby mP_matchedLetters) 32 = .ok (.aload_n 0, 1) := by decide +kernel
theorem dP_matchedLetters_33 : decode (zby mP_matchedLetters) 33 = .ok (.getfield 19, 3) := by decide +kernel
theorem dP_matchedLetters_36 : decode (zby mP_matchedLetters) 36 = .ok (.iload_n 2, 1) := by decide +kernel
theorem dP_matchedLetters_37 : decode (zby mP_matchedLetters) 37 = .ok (.iadd, 1) := by decide +kernel
theorem dP_matchedLetters_38 : decode (zby mP_matchedLetters) 38 = .ok (.caload, 1) := by decide +kernel
theorem dP_matchedLetters_39 : decode (zby mP_matchedLetters) 39 = .ok (.if_icmp .ne 9, 3) := by decide +kernel
theorem dP_matchedLetters_42 : decode (zby mP_matchedLetters) 42 = .ok (.iinc 2 1, 3) := by decide +kernel
theorem dP_matchedLetters_45 : decode (zby mP_matchedLetters) 45 = .ok (.goto (-43), 3) := by decide +kernel
theorem dP_matchedLetters_48 : decode (zby mP_matchedLetters) 48 = .ok (.iload_n 2, 1) := by decide +kernel
theorem dP_matchedLetters_49 : decode (zby mP_matchedLetters) 49 = .ok (.ireturn, 1) := by decide +kernel
theorem dP_read_0 : decode (zby mP_read) 0 = .ok (.aload_n 0, 1) := by decide +kernel
theorem dP_read_1 : decode (zby mP_read) 1 = .ok (.iconst 0, 1) := by decide +kernel
theorem dP_read_2 : decode (zby mP_read) 2 = .ok (.putfield 19, 3) := by decide +kernel
theorem dP_read_5 : decode (zby mP_read) 5 = .ok (.aload_n 0, 1) := by decide +kernel
theorem dP_read_6 : decode (zby mP_read) 6 = .ok (.iconst 0, 1) := by decide +kernel
theorem dP_read_7 : decode (zby mP_read) 7 = .ok (.putfield 38, 3) := by decide +kernel
theorem dP_read_10 : decode (zby mP_read) 10 = .ok (.aload_n 0, 1) := by decide +kernel
theorem dP_read_11 : decode (zby mP_read) 11 = .ok (.getfield 38, 3) := by decide +kernel
theorem dP_read_14 : decode (zby mP_read) 14 = .ok (.bipush 15, 2) := by decide +kernel
theorem dP_read_16 : decode (zby mP_read) 16 = .ok (.if_icmp .ge 65, 3) := by decide +kernel
theorem dP_read_19 : decode (zby mP_read) 19 = .ok (.aload_n 0, 1) := by decide +kernel
theorem dP_read_20 : decode (zby mP_read) 20 = .ok (.invokevirtual 41, 3) := by decide +kernel
theorem dP_read_23 : decode (zby mP_read) 23 = .ok (.ifCond .ne 8, 3) := by decide +kernel
theorem dP_read_26 : decode (zby mP_read) 26 = .ok (.aload_n 0, 1) := by decide +kernel
theorem dP_read_27 : decode (zby mP_read) 27 = .ok (.getfield 19, 3) := by decide +kernel
theorem dP_read_30 : decode (zby mP_read) 30 = .ok (.ireturn, 1) := by decide +kernel
theorem dP_read_31 : decode (zby mP_read) 31 = .ok (.aload_n 0, 1) := by decide +kernel
theorem dP_read_32 : decode (zby mP_read) 32 = .ok (.dup, 1) := by decide +kernel
theorem dP_read_33 : decode (zby mP_read) 33 = .ok (.getfield 38, 3) := by decide +kernel
theorem dP_read_36 : decode (zby mP_read) 36 = .ok (.iconst 1, 1) := by decide +kernel
theorem dP_read_37 : decode (zby mP_read) 37 = .ok (.iadd, 1) := by decide +kernel
theorem dP_read_38 : decode (zby mP_read) 38 = .ok (.putfield 38, 3) := by decide +kernel
theorem dP_read_41 : decode (zby mP_read) 41 = .ok (.aload_n 0, 1) := by decide +kernel
theorem dP_read_42 : decode (zby mP_read) 42 = .ok (.getfield 19, 3) := by decide +kernel
theorem dP_read_45 : decode (zby mP_read) 45 = .ok (.aload_n 0, 1) := by decide +kernel
theorem dP_read_46 : decode (zby mP_read) 46 = .ok (.getfield 15, 3) := by decide +kernel
theorem dP_read_49 : decode (zby mP_read) 49 = .ok (.if_icmp .lt 5, 3) := by decide +kernel
theorem dP_read_52 : decode (zby mP_read) 52 = .ok (.iconst (-1), 1) := by decide +kernel
theorem dP_read_53 : decode (zby mP_read) 53 = .ok (.ireturn, 1) := by decide +kernel
theorem dP_read_54 : decode (zby mP_read) 54 = .ok (.aload_n 0, 1) := by decide +kernel
theorem dP_read_55 : decode (zby mP_read) 55 = .ok (.bipush 59, 2) := by decide +kernel
theorem dP_read_57 : decode (zby mP_read) 57 = .ok (.invokevirtual 45, 3) := by decide +kernel
theorem dP_read_60 : decode (zby mP_read) 60 = .ok (.ifCond .ne 8, 3) := by decide +kernel
theorem dP_read_63 : decode (zby mP_read) 63 = .ok (.aload_n 0, 1) := by decide +kernel
theorem dP_read_64 : decode (zby mP_read) 64 = .ok (.getfield 19, 3) := by decide +kernel
theorem dP_read_67 : decode (zby mP_read) 67 = .ok (.ireturn, 1) := by decide +kernel
theorem dP_read_68 : decode (zby mP_read) 68 = .ok (.aload_n 0, 1) := by decide +kernel
theorem dP_read_69 : decode (zby mP_read) 69 = .ok (.dup, 1) := by decide +kernel
theorem dP_read_70 : decode (zby mP_read) 70 = .ok (.getfield 19, 3) := by decide +kernel
theorem dP_read_73 : decode (zby mP_read) 73 = .ok (.iconst 1, 1) := by decide +kernel
theorem dP_read_74 : decode (zby mP_read) 74 = .ok (.iadd, 1) := by decide +kernel
theorem dP_read_75 : decode (zby mP_read) 75 = .ok (.putfield 19, 3) := by decide +kernel
theorem dP_read_78 : decode (zby mP_read) 78 = .ok (.goto (-68), 3) := by decide +kernel
theorem dP_read_81 : decode (zby mP_read) 81 = .ok (.aload_n 0, 1) := by decide +kernel
theorem dP_read_82 : decode (zby mP_read) 82 = .ok (.getfield 19, 3) := by decide +kernel
theorem dP_read_85 : decode (zby mP_read) 85 = .ok (.ireturn, 1) := by decide +kernel
theorem dP_readArguments_0 : decode (zby mP_readArguments) 0 = .ok (.iload_n 1, 1) := by decide +kernel
theorem dP_readArguments_1 : decode (zby mP_readArguments) 1 = .ok (.tableswitch 102 0 8 #[53, 59, 59, 102, 102, 59, 51, 53, 80], 51) := by decide +kernel
theorem dP_readArguments_52 : decode (zby mP_readArguments) 52 = .ok (.iconst 1, 1) := by decide +kernel
theorem dP_readArguments_53 : decode (zby mP_readArguments) 53 = .ok (.ireturn, 1) := by decide +kernel
theorem dP_readArguments_54 : decode (zby mP_readArguments) 54 = .ok (.aload_n 0, 1) := by decide +kernel
theorem dP_readArguments_55 : decode (zby mP_readArguments) 55 = .ok (.iconst 1, 1) := by decide +kernel
theorem dP_readArguments_56 : decode (zby mP_readArguments) 56 = .ok (.invokevirtual 99, 3) := by decide +kernel
theorem dP_readArguments_59 : decode (zby mP_readArguments) 59 = .ok (.ireturn, 1) := by decide +kernel
theorem dP_readArguments_60 : decode (zby mP_readArguments) 60 = .ok (.aload_n 0, 1) := by decide +kernel
theorem dP_readArguments_61 : decode (zby mP_readArguments) 61 = .ok (.iconst 3, 1) := by decide +kernel
theorem dP_readArguments_62 : decode (zby mP_readArguments) 62 = .ok (.invokevirtual 99, 3) := by decide +kernel
theorem dP_readArguments_65 : decode (zby mP_readArguments) 65 = .ok (.ifCond .eq 14, 3) := by decide +kernel
theorem dP_readArguments_68 : decode (zby mP_readArguments) 68 = .ok (.aload_n 0, 1) := by decide +kernel
theorem dP_readArguments_69 : decode (zby mP_readArguments) 69 = .ok (.invokevirtual 102, 3) := by decide +kernel
theorem dP_readArguments_72 : decode (zby mP_readArguments) 72 = .ok (.ifCond .eq 7, 3) := by decide +kernel
theorem dP_readArguments_75 : decode (zby mP_readArguments) 75 = .ok (.iconst 1, 1) := by decide +kernel
theorem dP_readArguments_76 : decode (zby mP_readArguments) 76 = .ok (.goto 4, 3) := by decide +kernel
theorem dP_readArguments_79 : decode (zby mP_readArguments) 79 = .ok (.iconst 0, 1) := by decide +kernel
theorem dP_readArguments_80 : decode (zby mP_readArguments) 80 = .ok (.ireturn, 1) := by decide +kernel
theorem dP_readArguments_81 : decode (zby mP_readArguments) 81 = .ok (.aload_n 0, 1) := by decide +kernel
theorem dP_readArguments_82 : decode (zby mP_readArguments) 82 = .ok (.bipush 32, 2) := by decide +kernel
theorem dP_readArguments_84 : decode (zby mP_readArguments) 84 = .ok (.invokevirtual 45, 3) := by decide +kernel
theorem dP_readArguments_87 : decode (zby mP_readArguments) 87 = .ok (.ifCond .eq 10, 3) := by decide +kernel
theorem dP_readArguments_90 : decode (zby mP_readArguments) 90 = .ok (.aload_n 0, 1) := by decide +kernel
theorem dP_readArguments_91 : decode (zby mP_readArguments) 91 = .ok (.invokevirtual 105, 3) := by decide +kernel
theorem dP_readArguments_94 : decode (zby mP_readArguments) 94 = .ok (.ifCond .eq 7, 3) := by decide +kernel
theorem dP_readArguments_97 : decode (zby mP_readArguments) 97 = .ok (.iconst 1, 1) := by decide +kernel
theorem dP_readArguments_98 : decode (zby mP_readArguments) 98 = .ok (.goto 4, 3) := by decide +kernel
theorem dP_readArguments_101 : decode (zby mP_readArguments) 101 = .ok (.iconst 0, 1) := by decide +kernel
theorem dP_readArguments_102 : decode (zby mP_readArguments) 102 = .ok (.ireturn, 1) := by decide +kernel
theorem dP_readArguments_103 : decode (zby mP_readArguments) 103 = .ok (.aload_n 0, 1) := by decide +kernel
theorem dP_readArguments_104 : decode (zby mP_readArguments) 104 = .ok (.iconst 3, 1) := by decide +kernel
theorem dP_readArguments_105 : decode (zby mP_readArguments) 105 = .ok (.invokevirtual 99, 3) := by decide +kernel
theorem dP_readArguments_108 : decode (zby mP_readArguments) 108 = .ok (.ireturn, 1) := by decide +kernel
theorem dP_readCommand_0 : decode (zby mP_readCommand) 0 = .ok (.aload_n 0, 1) := by decide +kernel
theorem dP_readCommand_1 : decode (zby mP_readCommand) 1 = .ok (.invokevirtual 49, 3) := by decide +kernel
theorem dP_readCommand_4 : decode (zby mP_readCommand) 4 = .ok (.istore_n 1, 1) := by decide +kernel
theorem dP_readCommand_5 : decode (zby mP_readCommand) 5 = .ok (.iload_n 1, 1) := by decide +kernel
theorem dP_readCommand_6 : decode (zby mP_readCommand) 6 = .ok (.iconst (-1), 1) := by decide +kernel
theorem dP_readCommand_7 : decode (zby mP_readCommand) 7 = .ok (.if_icmp .ne 5, 3) := by decide +kernel
theorem dP_readCommand_10 : decode (zby mP_readCommand) 10 = .ok (.iconst 0, 1) := by decide +kernel
theorem dP_readCommand_11 : decode (zby mP_readCommand) 11 = .ok (.ireturn, 1) := by decide +kernel
theorem dP_readCommand_12 : decode (zby mP_readCommand) 12 = .ok (.aload_n 0, 1) := by decide +kernel
theorem dP_readCommand_13 : decode (zby mP_readCommand) 13 = .ok (.getfield 28, 3) := by decide +kernel
theorem dP_readCommand_16 : decode (zby mP_readCommand) 16 = .ok (.aload_n 0, 1) := by decide +kernel
theorem dP_readCommand_17 : decode (zby mP_readCommand) 17 = .ok (.getfield 38, 3) := by decide +kernel
theorem dP_readCommand_20 : decode (zby mP_readCommand) 20 = .ok (.iload_n 1, 1) := by decide +kernel
theorem dP_readCommand_21 : decode (zby mP_readCommand) 21 = .ok (.iastore, 1) := by decide +kernel
theorem dP_readCommand_22 : decode (zby mP_readCommand) 22 = .ok (.aload_n 0, 1) := by decide +kernel
theorem dP_readCommand_23 : decode (zby mP_readCommand) 23 = .ok (.getfield 32, 3) := by decide +kernel
theorem dP_readCommand_26 : decode (zby mP_readCommand) 26 = .ok (.aload_n 0, 1) := by decide +kernel
theorem dP_readCommand_27 : decode (zby mP_readCommand) 27 = .ok (.getfield 38, 3) := by decide +kernel
theorem dP_readCommand_30 : decode (zby mP_readCommand) 30 = .ok (.iconst 0, 1) := by decide +kernel
theorem dP_readCommand_31 : decode (zby mP_readCommand) 31 = .ok (.iastore, 1) := by decide +kernel
theorem dP_readCommand_32 : decode (zby mP_readCommand) 32 = .ok (.aload_n 0, 1) := by decide +kernel
theorem dP_readCommand_33 : decode (zby mP_readCommand) 33 = .ok (.getfield 35, 3) := by decide +kernel
theorem dP_readCommand_36 : decode (zby mP_readCommand) 36 = .ok (.aload_n 0, 1) := by decide +kernel
theorem dP_readCommand_37 : decode (zby mP_readCommand) 37 = .ok (.getfield 38, 3) := by decide +kernel
theorem dP_readCommand_40 : decode (zby mP_readCommand) 40 = .ok (.iconst 0, 1) := by decide +kernel
theorem dP_readCommand_41 : decode (zby mP_readCommand) 41 = .ok (.iastore, 1) := by decide +kernel
theorem dP_readCommand_42 : decode (zby mP_readCommand) 42 = .ok (.aload_n 0, 1) := by decide +kernel
theorem dP_readCommand_43 : decode (zby mP_readCommand) 43 = .ok (.iload_n 1, 1) := by decide +kernel
theorem dP_readCommand_44 : decode (zby mP_readCommand) 44 = .ok (.invokevirtual 53, 3) := by decide +kernel
theorem dP_readCommand_47 : decode (zby mP_readCommand) 47 = .ok (.ireturn, 1) := by decide +kernel
theorem dP_readFirst_0 : decode (zby mP_readFirst) 0 = .ok (.aload_n 0, 1) := by decide +kernel
theorem dP_readFirst_1 : decode (zby mP_readFirst) 1 = .ok (.iload_n 1, 1) := by decide +kernel
theorem dP_readFirst_2 : decode (zby mP_readFirst) 2 = .ok (.invokevirtual 108, 3) := by decide +kernel
theorem dP_readFirst_5 : decode (zby mP_readFirst) 5 = .ok (.ifCond .ne 5, 3) := by decide +kernel
theorem dP_readFirst_8 : decode (zby mP_readFirst) 8 = .ok (.iconst 0, 1) := by decide +kernel
theorem dP_readFirst_9 : decode (zby mP_readFirst) 9 = .ok (.ireturn, 1) := by decide +kernel
theorem dP_readFirst_10 : decode (zby mP_readFirst) 10 = .ok (.aload_n 0, 1) := by decide +kernel
theorem dP_readFirst_11 : decode (zby mP_readFirst) 11 = .ok (.getfield 32, 3) := by decide +kernel
theorem dP_readFirst_14 : decode (zby mP_readFirst) 14 = .ok (.aload_n 0, 1) := by decide +kernel
theorem dP_readFirst_15 : decode (zby mP_readFirst) 15 = .ok (.getfield 38, 3) := by decide +kernel
theorem dP_readFirst_18 : decode (zby mP_readFirst) 18 = .ok (.aload_n 0, 1) := by decide +kernel
theorem dP_readFirst_19 : decode (zby mP_readFirst) 19 = .ok (.getfield 22, 3) := by decide +kernel
theorem dP_readFirst_22 : decode (zby mP_readFirst) 22 = .ok (.iastore, 1) := by decide +kernel
theorem dP_readFirst_23 : decode (zby mP_readFirst) 23 = .ok (.iconst 1, 1) := by decide +kernel
theorem dP_readFirst_24 : decode (zby mP_readFirst) 24 = .ok (.ireturn, 1) := by decide +kernel
theorem dP_readNumber_0 : decode (zby mP_readNumber) 0 = .ok (.aload_n 0, 1) := by decide +kernel
theorem dP_readNumber_1 : decode (zby mP_readNumber) 1 = .ok (.iconst 0, 1) := by decide +kernel
theorem dP_readNumber_2 : decode (zby mP_readNumber) 2 = .ok (.putfield 22, 3) := by decide +kernel
theorem dP_readNumber_5 : decode (zby mP_readNumber) 5 = .ok (.aload_n 0, 1) := by decide +kernel
theorem dP_readNumber_6 : decode (zby mP_readNumber) 6 = .ok (.iconst 0, 1) := by decide +kernel
theorem dP_readNumber_7 : decode (zby mP_readNumber) 7 = .ok (.putfield 25, 3) := by decide +kernel
theorem dP_readNumber_10 : decode (zby mP_readNumber) 10 = .ok (.aload_n 0, 1) := by decide +kernel
theorem dP_readNumber_11 : decode (zby mP_readNumber) 11 = .ok (.bipush 32, 2) := by decide +kernel
theorem dP_readNumber_13 : decode (zby mP_readNumber) 13 = .ok (.invokevirtual 45, 3) := by decide +kernel
theorem dP_readNumber_16 : decode (zby mP_readNumber) 16 = .ok (.ifCond .ne 5, 3) := by decide +kernel
theorem dP_readNumber_19 : decode (zby mP_readNumber) 19 = .ok (.iconst 0, 1) := by decide +kernel
theorem dP_readNumber_20 : decode (zby mP_readNumber) 20 = .ok (.ireturn, 1) := by decide +kernel
theorem dP_readNumber_21 : decode (zby mP_readNumber) 21 = .ok (.aload_n 0, 1) := by decide +kernel
theorem dP_readNumber_22 : decode (zby mP_readNumber) 22 = .ok (.dup, 1) := by decide +kernel
theorem dP_readNumber_23 : decode (zby mP_readNumber) 23 = .ok (.getfield 19, 3) := by decide +kernel
theorem dP_readNumber_26 : decode (zby mP_readNumber) 26 = .ok (.iconst 1, 1) := by decide +kernel
theorem dP_readNumber_27 : decode (zby mP_readNumber) 27 = .ok (.iadd, 1) := by decide +kernel
theorem dP_readNumber_28 : decode (zby mP_readNumber) 28 = .ok (.putfield 19, 3) := by decide +kernel
theorem dP_readNumber_31 : decode (zby mP_readNumber) 31 = .ok (.aload_n 0, 1) := by decide +kernel
theorem dP_readNumber_32 : decode (zby mP_readNumber) 32 = .ok (.getfield 25, 3) := by decide +kernel
theorem dP_readNumber_35 : decode (zby mP_readNumber) 35 = .ok (.iload_n 1, 1) := by decide +kernel
theorem dP_readNumber_36 : decode (zby mP_readNumber) 36 = .ok (.if_icmp .ge 57, 3) := by decide +kernel
theorem dP_readNumber_39 : decode (zby mP_readNumber) 39 = .ok (.aload_n 0, 1) := by decide +kernel
theorem dP_readNumber_40 : decode (zby mP_readNumber) 40 = .ok (.invokevirtual 111, 3) := by decide +kernel
theorem dP_readNumber_43 : decode (zby mP_readNumber) 43 = .ok (.ifCond .eq 50, 3) := by decide +kernel
theorem dP_readNumber_46 : decode (zby mP_readNumber) 46 = .ok (.aload_n 0, 1) := by decide +kernel
theorem dP_readNumber_47 : decode (zby mP_readNumber) 47 = .ok (.bipush 10, 2) := by decide +kernel
theorem dP_readNumber_49 : decode (zby mP_readNumber) 49 = .ok (.aload_n 0, 1) := by decide +kernel
theorem dP_readNumber_50 : decode (zby mP_readNumber) 50 = .ok (.getfield 22, 3) := by decide +kernel
theorem dP_readNumber_53 : decode (zby mP_readNumber) 53 = .ok (.imul, 1) := by decide +kernel
theorem dP_readNumber_54 : decode (zby mP_readNumber) 54 = .ok (.aload_n 0, 1) := by decide +kernel
theorem dP_readNumber_55 : decode (zby mP_readNumber) 55 = .ok (.getfield 9, 3) := by decide +kernel
theorem dP_readNumber_58 : decode (zby mP_readNumber) 58 = .ok (.aload_n 0, 1) := by decide +kernel
theorem dP_readNumber_59 : decode (zby mP_readNumber) 59 = .ok (.getfield 19, 3) := by decide +kernel
theorem dP_readNumber_62 : decode (zby mP_readNumber) 62 = .ok (.caload, 1) := by decide +kernel
theorem dP_readNumber_63 : decode (zby mP_readNumber) 63 = .ok (.bipush 48, 2) := by decide +kernel
theorem dP_readNumber_65 : decode (zby mP_readNumber) 65 = .ok (.isub, 1) := by decide +kernel
theorem dP_readNumber_66 : decode (zby mP_readNumber) 66 = .ok (.iadd, 1) := by decide +kernel
theorem dP_readNumber_67 : decode (zby mP_readNumber) 67 = .ok (.putfield 22, 3) := by decide +kernel
theorem dP_readNumber_70 : decode (zby mP_readNumber) 70 = .ok (.aload_n 0, 1) := by decide +kernel
theorem dP_readNumber_71 : decode (zby mP_readNumber) 71 = .ok (.dup, 1) := by decide +kernel
theorem dP_readNumber_72 : decode (zby mP_readNumber) 72 = .ok (.getfield 25, 3) := by decide +kernel
theorem dP_readNumber_75 : decode (zby mP_readNumber) 75 = .ok (.iconst 1, 1) := by decide +kernel
theorem dP_readNumber_76 : decode (zby mP_readNumber) 76 = .ok (.iadd, 1) := by decide +kernel
theorem dP_readNumber_77 : decode (zby mP_readNumber) 77 = .ok (.putfield 25, 3) := by decide +kernel
theorem dP_readNumber_80 : decode (zby mP_readNumber) 80 = .ok (.aload_n 0, 1) := by decide +kernel
theorem dP_readNumber_81 : decode (zby mP_readNumber) 81 = .ok (.dup, 1) := by decide +kernel
theorem dP_readNumber_82 : decode (zby mP_readNumber) 82 = .ok (.getfield 19, 3) := by decide +kernel
theorem dP_readNumber_85 : decode (zby mP_readNumber) 85 = .ok (.iconst 1, 1) := by decide +kernel
theorem dP_readNumber_86 : decode (zby mP_readNumber) 86 = .ok (.iadd, 1) := by decide +kernel
theorem dP_readNumber_87 : decode (zby mP_readNumber) 87 = .ok (.putfield 19, 3) := by decide +kernel
theorem dP_readNumber_90 : decode (zby mP_readNumber) 90 = .ok (.goto (-59), 3) := by decide +kernel
theorem dP_readNumber_93 : decode (zby mP_readNumber) 93 = .ok (.aload_n 0, 1) := by decide +kernel
theorem dP_readNumber_94 : decode (zby mP_readNumber) 94 = .ok (.getfield 25, 3) := by decide +kernel
theorem dP_readNumber_97 : decode (zby mP_readNumber) 97 = .ok (.ifCond .le 7, 3) := by decide +kernel
theorem dP_readNumber_100 : decode (zby mP_readNumber) 100 = .ok (.iconst 1, 1) := by decide +kernel
theorem dP_readNumber_101 : decode (zby mP_readNumber) 101 = .ok (.goto 4, 3) := by decide +kernel
theorem dP_readNumber_104 : decode (zby mP_readNumber) 104 = .ok (.iconst 0, 1) := by decide +kernel
theorem dP_readNumber_105 : decode (zby mP_readNumber) 105 = .ok (.ireturn, 1) := by decide +kernel
theorem dP_readPrefix_0 : decode (zby mP_readPrefix) 0 = .ok (.aload_n 0, 1) := by decide +kernel
theorem dP_readPrefix_1 : decode (zby mP_readPrefix) 1 = .ok (.iconst 3, 1) := by decide +kernel
theorem dP_readPrefix_2 : decode (zby mP_readPrefix) 2 = .ok (.invokevirtual 108, 3) := by decide +kernel
theorem dP_readPrefix_5 : decode (zby mP_readPrefix) 5 = .ok (.ifCond .ne 5, 3) := by decide +kernel
theorem dP_readPrefix_8 : decode (zby mP_readPrefix) 8 = .ok (.iconst 0, 1) := by decide +kernel
theorem dP_readPrefix_9 : decode (zby mP_readPrefix) 9 = .ok (.ireturn, 1) := by decide +kernel
theorem dP_readPrefix_10 : decode (zby mP_readPrefix) 10 = .ok (.aload_n 0, 1) := by decide +kernel
theorem dP_readPrefix_11 : decode (zby mP_readPrefix) 11 = .ok (.getfield 32, 3) := by decide +kernel
theorem dP_readPrefix_14 : decode (zby mP_readPrefix) 14 = .ok (.aload_n 0, 1) := by decide +kernel
theorem dP_readPrefix_15 : decode (zby mP_readPrefix) 15 = .ok (.getfield 38, 3) := by decide +kernel
theorem dP_readPrefix_18 : decode (zby mP_readPrefix) 18 = .ok (.aload_n 0, 1) := by decide +kernel
theorem dP_readPrefix_19 : decode (zby mP_readPrefix) 19 = .ok (.getfield 25, 3) := by decide +kernel
theorem dP_readPrefix_22 : decode (zby mP_readPrefix) 22 = .ok (.iastore, 1) := by decide +kernel
theorem dP_readPrefix_23 : decode (zby mP_readPrefix) 23 = .ok (.aload_n 0, 1) := by decide +kernel
theorem dP_readPrefix_24 : decode (zby mP_readPrefix) 24 = .ok (.getfield 35, 3) := by decide +kernel
theorem dP_readPrefix_27 : decode (zby mP_readPrefix) 27 = .ok (.aload_n 0, 1) := by decide +kernel
theorem dP_readPrefix_28 : decode (zby mP_readPrefix) 28 = .ok (.getfield 38, 3) := by decide +kernel
theorem dP_readPrefix_31 : decode (zby mP_readPrefix) 31 = .ok (.aload_n 0, 1) := by decide +kernel
theorem dP_readPrefix_32 : decode (zby mP_readPrefix) 32 = .ok (.getfield 22, 3) := by decide +kernel
theorem dP_readPrefix_35 : decode (zby mP_readPrefix) 35 = .ok (.iastore, 1) := by decide +kernel
theorem dP_readPrefix_36 : decode (zby mP_readPrefix) 36 = .ok (.iconst 1, 1) := by decide +kernel
theorem dP_readPrefix_37 : decode (zby mP_readPrefix) 37 = .ok (.ireturn, 1) := by decide +kernel
theorem dP_readSecond_0 : decode (zby mP_readSecond) 0 = .ok (.aload_n 0, 1) := by decide +kernel
theorem dP_readSecond_1 : decode (zby mP_readSecond) 1 = .ok (.iconst 3, 1) := by decide +kernel
theorem dP_readSecond_2 : decode (zby mP_readSecond) 2 = .ok (.invokevirtual 108, 3) := by decide +kernel
theorem dP_readSecond_5 : decode (zby mP_readSecond) 5 = .ok (.ifCond .ne 5, 3) := by decide +kernel
theorem dP_readSecond_8 : decode (zby mP_readSecond) 8 = .ok (.iconst 0, 1) := by decide +kernel
theorem dP_readSecond_9 : decode (zby mP_readSecond) 9 = .ok (.ireturn, 1) := by decide +kernel
theorem dP_readSecond_10 : decode (zby mP_readSecond) 10 = .ok (.aload_n 0, 1) := by decide +kernel
theorem dP_readSecond_11 : decode (zby mP_readSecond) 11 = .ok (.getfield 35, 3) := by decide +kernel
theorem dP_readSecond_14 : decode (zby mP_readSecond) 14 = .ok (.aload_n 0, 1) := by decide +kernel
theorem dP_readSecond_15 : decode (zby mP_readSecond) 15 = .ok (.getfield 38, 3) := by decide +kernel
theorem dP_readSecond_18 : decode (zby mP_readSecond) 18 = .ok (.aload_n 0, 1) := by decide +kernel
theorem dP_readSecond_19 : decode (zby mP_readSecond) 19 = .ok (.getfield 22, 3) := by decide +kernel
theorem dP_readSecond_22 : decode (zby mP_readSecond) 22 = .ok (.iastore, 1) := by decide +kernel
theorem dP_readSecond_23 : decode (zby mP_readSecond) 23 = .ok (.iconst 1, 1) := by decide +kernel
theorem dP_readSecond_24 : decode (zby mP_readSecond) 24 = .ok (.ireturn, 1) := by decide +kernel
theorem dP_readWord_0 : decode (zby mP_readWord) 0 = .ok (.iconst 0, 1) := by decide +kernel
theorem dP_readWord_1 : decode (zby mP_readWord) 1 = .ok (.istore_n 1, 1) := by decide +kernel
theorem dP_readWord_2 : decode (zby mP_readWord) 2 = .ok (.iconst 0, 1) := by decide +kernel
theorem dP_readWord_3 : decode (zby mP_readWord) 3 = .ok (.istore_n 2, 1) := by decide +kernel
theorem dP_readWord_4 : decode (zby mP_readWord) 4 = .ok (.iload_n 2, 1) := by decide +kernel
theorem dP_readWord_5 : decode (zby mP_readWord) 5 = .ok (.bipush 10, 2) := by decide +kernel
theorem dP_readWord_7 : decode (zby mP_readWord) 7 = .ok (.if_icmp .ge 50, 3) := by decide +kernel
theorem dP_readWord_10 : decode (zby mP_readWord) 10 = .ok (.iload_n 2, 1) := by decide +kernel
theorem dP_readWord_11 : decode (zby mP_readWord) 11 = .ok (.invokestatic 57, 3) := by decide +kernel
theorem dP_readWord_14 : decode (zby mP_readWord) 14 = .ok (.astore_n 3, 1) := by decide +kernel
theorem dP_readWord_15 : decode (zby mP_readWord) 15 = .ok (.aload_n 0, 1) := by decide +kernel
theorem dP_readWord_16 : decode (zby mP_readWord) 16 = .ok (.aload_n 3, 1) := by decide +kernel
theorem dP_readWord_17 : decode (zby mP_readWord) 17 = .ok (.invokevirtual 61, 3) := by decide +kernel
theorem dP_readWord_20 : decode (zby mP_readWord) 20 = .ok (.istore 4, 2) := by decide +kernel
theorem dP_readWord_22 : decode (zby mP_readWord) 22 = .ok (.iload 4, 2) := by decide +kernel
theorem dP_readWord_24 : decode (zby mP_readWord) 24 = .ok (.aload_n 3, 1) := by decide +kernel
theorem dP_readWord_25 : decode (zby mP_readWord) 25 = .ok (.invokevirtual 65, 3) := by decide +kernel
theorem dP_readWord_28 : decode (zby mP_readWord) 28 = .ok (.if_icmp .ne 16, 3) := by decide +kernel
theorem dP_readWord_31 : decode (zby mP_readWord) 31 = .ok (.aload_n 0, 1) := by decide +kernel
theorem dP_readWord_32 : decode (zby mP_readWord) 32 = .ok (.dup, 1) := by decide +kernel
theorem dP_readWord_33 : decode (zby mP_readWord) 33 = .ok (.getfield 19, 3) := by decide +kernel
theorem dP_readWord_36 : decode (zby mP_readWord) 36 = .ok (.iload 4, 2) := by decide +kernel
theorem dP_readWord_38 : decode (zby mP_readWord) 38 = .ok (.iadd, 1) := by decide +kernel
theorem dP_readWord_39 : decode (zby mP_readWord) 39 = .ok (.putfield 19, 3) := by decide +kernel
theorem dP_readWord_42 : decode (zby mP_readWord) 42 = .ok (.iload_n 2, 1) := by decide +kernel
theorem dP_readWord_43 : decode (zby mP_readWord) 43 = .ok (.ireturn, 1) := by decide +kernel
theorem dP_readWord_44 : decode (zby mP_readWord) 44 = .ok (.iload_n 1, 1) := by decide +kernel
theorem dP_readWord_45 : decode (zby mP_readWord) 45 = .ok (.iload 4, 2) := by decide +kernel
theorem dP_readWord_47 : decode (zby mP_readWord) 47 = .ok (.invokestatic 69, 3) := by decide +kernel
theorem dP_readWord_50 : decode (zby mP_readWord) 50 = .ok (.istore_n 1, 1) := by decide +kernel
theorem dP_readWord_51 : decode (zby mP_readWord) 51 = .ok (.iinc 2 1, 3) := by decide +kernel
theorem dP_readWord_54 : decode (zby mP_readWord) 54 = .ok (.goto (-50), 3) := by decide +kernel
theorem dP_readWord_57 : decode (zby mP_readWord) 57 = .ok (.aload_n 0, 1) := by decide +kernel
theorem dP_readWord_58 : decode (zby mP_readWord) 58 = .ok (.dup, 1) := by decide +kernel
theorem dP_readWord_59 : decode (zby mP_readWord) 59 = .ok (.getfield 19, 3) := by decide +kernel
theorem dP_readWord_62 : decode (zby mP_readWord) 62 = .ok (.iload_n 1, 1) := by decide +kernel
theorem dP_readWord_63 : decode (zby mP_readWord) 63 = .ok (.iadd, 1) := by decide +kernel
theorem dP_readWord_64 : decode (zby mP_readWord) 64 = .ok (.putfield 19, 3) := by decide +kernel
theorem dP_readWord_67 : decode (zby mP_readWord) 67 = .ok (.iconst (-1), 1) := by decide +kernel
theorem dP_readWord_68 : decode (zby mP_readWord) 68 = .ok (.ireturn, 1) := by decide +kernel
theorem dP_stands_0 : decode (zby mP_stands) 0 = .ok (.aload_n 0, 1) := by decide +kernel
theorem dP_stands_1 : decode (zby mP_stands) 1 = .ok (.getfield 19, 3) := by decide +kernel
theorem dP_stands_4 : decode (zby mP_stands) 4 = .ok (.aload_n 0, 1) := by decide +kernel
theorem dP_stands_5 : decode (zby mP_stands) 5 = .ok (.getfield 15, 3) := by decide +kernel
theorem dP_stands_8 : decode (zby mP_stands) 8 = .ok (.if_icmp .ge 20, 3) := by decide +kernel
theorem dP_stands_11 : decode (zby mP_stands) 11 = .ok (.aload_n 0, 1) := by decide +kernel
theorem dP_stands_12 : decode (zby mP_stands) 12 = .ok (.getfield 9, 3) := by decide +kernel
theorem dP_stands_15 : decode (zby mP_stands) 15 = .ok (.aload_n 0, 1) := by decide +kernel
theorem dP_stands_16 : decode (zby mP_stands) 16 = .ok (.getfield 19, 3) := by decide +kernel
theorem dP_stands_19 : decode (zby mP_stands) 19 = .ok (.caload, 1) := by decide +kernel
theorem dP_stands_20 : decode (zby mP_stands) 20 = .ok (.iload_n 1, 1) := by decide +kernel
theorem dP_stands_21 : decode (zby mP_stands) 21 = .ok (.if_icmp .ne 7, 3) := by decide +kernel
theorem dP_stands_24 : decode (zby mP_stands) 24 = .ok (.iconst 1, 1) := by decide +kernel
theorem dP_stands_25 : decode (zby mP_stands) 25 = .ok (.goto 4, 3) := by decide +kernel
theorem dP_stands_28 : decode (zby mP_stands) 28 = .ok (.iconst 0, 1) := by decide +kernel
theorem dP_stands_29 : decode (zby mP_stands) 29 = .ok (.ireturn, 1) := by decide +kernel
theorem dP_wordOf_0 : decode (zby mP_wordOf) 0 = .ok (.iload_n 0, 1) := by decide +kernel
theorem dP_wordOf_1 : decode (zby mP_wordOf) 1 = .ok (.tableswitch 78 0 8 #[51, 54, 57, 60, 63, 66, 69, 72, 75], 51) := by decide +kernel
theorem dP_wordOf_52 : decode (zby mP_wordOf) 52 = .ok (.ldc 79, 2) := by decide +kernel
theorem dP_wordOf_54 : decode (zby mP_wordOf) 54 = .ok (.areturn, 1) := by decide +kernel
theorem dP_wordOf_55 : decode (zby mP_wordOf) 55 = .ok (.ldc 81, 2) := by decide +kernel
theorem dP_wordOf_57 : decode (zby mP_wordOf) 57 = .ok (.areturn, 1) := by decide +kernel
theorem dP_wordOf_58 : decode (zby mP_wordOf) 58 = .ok (.ldc 83, 2) := by decide +kernel
theorem dP_wordOf_60 : decode (zby mP_wordOf) 60 = .ok (.areturn, 1) := by decide +kernel
theorem dP_wordOf_61 : decode (zby mP_wordOf) 61 = .ok (.ldc 85, 2) := by decide +kernel
theorem dP_wordOf_63 : decode (zby mP_wordOf) 63 = .ok (.areturn, 1) := by decide +kernel
theorem dP_wordOf_64 : decode (zby mP_wordOf) 64 = .ok (.ldc 87, 2) := by decide +kernel
theorem dP_wordOf_66 : decode (zby mP_wordOf) 66 = .ok (.areturn, 1) := by decide +kernel
theorem dP_wordOf_67 : decode (zby mP_wordOf) 67 = .ok (.ldc 89, 2) := by decide +kernel
theorem dP_wordOf_69 : decode (zby mP_wordOf) 69 = .ok (.areturn, 1) := by decide +kernel
theorem dP_wordOf_70 : decode (zby mP_wordOf) 70 = .ok (.ldc 91, 2) := by decide +kernel
theorem dP_wordOf_72 : decode (zby mP_wordOf) 72 = .ok (.areturn, 1) := by decide +kernel
theorem dP_wordOf_73 : decode (zby mP_wordOf) 73 = .ok (.ldc 93, 2) := by decide +kernel
theorem dP_wordOf_75 : decode (zby mP_wordOf) 75 = .ok (.areturn, 1) := by decide +kernel
theorem dP_wordOf_76 : decode (zby mP_wordOf) 76 = .ok (.ldc 95, 2) := by decide +kernel
theorem dP_wordOf_78 : decode (zby mP_wordOf) 78 = .ok (.areturn, 1) := by decide +kernel
theorem dP_wordOf_79 : decode (zby mP_wordOf) 79 = .ok (.ldc 97, 2) := by decide +kernel
theorem dP_wordOf_81 : decode (zby mP_wordOf) 81 = .ok (.areturn, 1) := by decide +kernel
theorem dQ_charAt_0 : decode (zby mQ_charAt) 0 = .ok (.iload_n 1, 1) := by decide +kernel
theorem dQ_charAt_1 : decode (zby mQ_charAt) 1 = .ok (.aload_n 0, 1) := by decide +kernel
theorem dQ_charAt_2 : decode (zby mQ_charAt) 2 = .ok (.arraylength, 1) := by decide +kernel
theorem dQ_charAt_3 : decode (zby mQ_charAt) 3 = .ok (.invokestatic 9, 3) := by decide +kernel
theorem dQ_charAt_6 : decode (zby mQ_charAt) 6 = .ok (.aload_n 0, 1) := by decide +kernel
theorem dQ_charAt_7 : decode (zby mQ_charAt) 7 = .ok (.iload_n 1, 1) := by decide +kernel
theorem dQ_charAt_8 : decode (zby mQ_charAt) 8 = .ok (.baload, 1) := by decide +kernel
theorem dQ_charAt_9 : decode (zby mQ_charAt) 9 = .ok (.sipush 255, 3) := by decide +kernel
theorem dQ_charAt_12 : decode (zby mQ_charAt) 12 = .ok (.iand, 1) := by decide +kernel
theorem dQ_charAt_13 : decode (zby mQ_charAt) 13 = .ok (.i2c, 1) := by decide +kernel
theorem dQ_charAt_14 : decode (zby mQ_charAt) 14 = .ok (.ireturn, 1) := by decide +kernel
theorem dR_init_0 : decode (zby mR_init) 0 = .ok (.aload_n 0, 1) := by decide +kernel
theorem dR_init_1 : decode (zby mR_init) 1 = .ok (.invokespecial 3, 3) := by decide +kernel
theorem dR_init_4 : decode (zby mR_init) 4 = .ok (.aload_n 0, 1) := by decide +kernel
theorem dR_init_5 : decode (zby mR_init) 5 = .ok (.bipush 20, 2) := by decide +kernel
theorem dR_init_7 : decode (zby mR_init) 7 = .ok (.newarray .int, 2) := by decide +kernel
theorem dR_init_9 : decode (zby mR_init) 9 = .ok (.putfield 9, 3) := by decide +kernel
theorem dR_init_12 : decode (zby mR_init) 12 = .ok (.aload_n 0, 1) := by decide +kernel
theorem dR_init_13 : decode (zby mR_init) 13 = .ok (.bipush 20, 2) := by decide +kernel
theorem dR_init_15 : decode (zby mR_init) 15 = .ok (.newarray .int, 2) := by decide +kernel
theorem dR_init_17 : decode (zby mR_init) 17 = .ok (.putfield 15, 3) := by decide +kernel
theorem dR_init_20 : decode (zby mR_init) 20 = .ok (.aload_n 0, 1) := by decide +kernel
theorem dR_init_21 : decode (zby mR_init) 21 = .ok (.iconst 0, 1) := by decide +kernel
theorem dR_init_22 : decode (zby mR_init) 22 = .ok (.putfield 18, 3) := by decide +kernel
theorem dR_init_25 : decode (zby mR_init) 25 = .ok (.return_, 1) := by decide +kernel
theorem dR_order_0 : decode (zby mR_order) 0 = .ok (.aload_n 0, 1) := by decide +kernel
theorem dR_order_1 : decode (zby mR_order) 1 = .ok (.iconst 0, 1) := by decide +kernel
theorem dR_order_2 : decode (zby mR_order) 2 = .ok (.putfield 18, 3) := by decide +kernel
theorem dR_order_5 : decode (zby mR_order) 5 = .ok (.iconst 0, 1) := by decide +kernel
theorem dR_order_6 : decode (zby mR_order) 6 = .ok (.istore 4, 2) := by decide +kernel
theorem dR_order_8 : decode (zby mR_order) 8 = .ok (.iload 4, 2) := by decide +kernel
theorem dR_order_10 : decode (zby mR_order) 10 = .ok (.aload_n 1, 1) := by decide +kernel
theorem dR_order_11 : decode (zby mR_order) 11 = .ok (.getfield 22, 3) := by decide +kernel
theorem dR_order_14 : decode (zby mR_order) 14 = .ok (.if_icmp .ge 44, 3) := by decide +kernel
theorem dR_order_17 : decode (zby mR_order) 17 = .ok (.aload_n 1, 1) := by decide +kernel
theorem dR_order_18 : decode (zby mR_order) 18 = .ok (.getfield 27, 3) := by decide +kernel
theorem dR_order_21 : decode (zby mR_order) 21 = .ok (.iload 4, 2) := by decide +kernel
theorem dR_order_23 : decode (zby mR_order) 23 = .ok (.aaload, 1) := by decide +kernel
theorem dR_order_24 : decode (zby mR_order) 24 = .ok (.astore 5, 2) := by decide +kernel
theorem dR_order_26 : decode (zby mR_order) 26 = .ok (.aload 5, 2) := by decide +kernel
theorem dR_order_28 : decode (zby mR_order) 28 = .ok (.iload_n 2, 1) := by decide +kernel
theorem dR_order_29 : decode (zby mR_order) 29 = .ok (.iload_n 3, 1) := by decide +kernel
theorem dR_order_30 : decode (zby mR_order) 30 = .ok (.invokevirtual 31, 3) := by decide +kernel
theorem dR_order_33 : decode (zby mR_order) 33 = .ok (.ifCond .le 19, 3) := by decide +kernel
theorem dR_order_36 : decode (zby mR_order) 36 = .ok (.aload_n 0, 1) := by decide +kernel
theorem dR_order_37 : decode (zby mR_order) 37 = .ok (.aload 5, 2) := by decide +kernel
theorem dR_order_39 : decode (zby mR_order) 39 = .ok (.getfield 37, 3) := by decide +kernel
theorem dR_order_42 : decode (zby mR_order) 42 = .ok (.aload 5, 2) := by decide +kernel
theorem dR_order_44 : decode (zby mR_order) 44 = .ok (.iload_n 2, 1) := by decide +kernel
theorem dR_order_45 : decode (zby mR_order) 45 = .ok (.iload_n 3, 1) := by decide +kernel
theorem dR_order_46 : decode (zby mR_order) 46 = .ok (.invokevirtual 40, 3) := by decide +kernel
theorem dR_order_49 : decode (zby mR_order) 49 = .ok (.invokevirtual 43, 3) := by decide +kernel
theorem dR_order_52 : decode (zby mR_order) 52 = .ok (.iinc 4 1, 3) := by decide +kernel
theorem dR_order_55 : decode (zby mR_order) 55 = .ok (.goto (-47), 3) := by decide +kernel
theorem dR_order_58 : decode (zby mR_order) 58 = .ok (.return_, 1) := by decide +kernel
theorem dR_place_0 : decode (zby mR_place) 0 = .ok (.aload_n 0, 1) := by decide +kernel
theorem dR_place_1 : decode (zby mR_place) 1 = .ok (.getfield 18, 3) := by decide +kernel
theorem dR_place_4 : decode (zby mR_place) 4 = .ok (.bipush 20, 2) := by decide +kernel
theorem dR_place_6 : decode (zby mR_place) 6 = .ok (.if_icmp .lt 4, 3) := by decide +kernel
theorem dR_place_9 : decode (zby mR_place) 9 = .ok (.return_, 1) := by decide +kernel
theorem dR_place_10 : decode (zby mR_place) 10 = .ok (.aload_n 0, 1) := by decide +kernel
theorem dR_place_11 : decode (zby mR_place) 11 = .ok (.getfield 18, 3) := by decide +kernel
theorem dR_place_14 : decode (zby mR_place) 14 = .ok (.istore_n 3, 1) := by decide +kernel
theorem dR_place_15 : decode (zby mR_place) 15 = .ok (.iload_n 3, 1) := by decide +kernel
theorem dR_place_16 : decode (zby mR_place) 16 = .ok (.ifCond .le 49, 3) := by decide +kernel
theorem dR_place_19 : decode (zby mR_place) 19 = .ok (.aload_n 0, 1) := by decide +kernel
theorem dR_place_20 : decode (zby mR_place) 20 = .ok (.getfield 15, 3) := by decide +kernel
theorem dR_place_23 : decode (zby mR_place) 23 = .ok (.iload_n 3, 1) := by decide +kernel
theorem dR_place_24 : decode (zby mR_place) 24 = .ok (.iconst 1, 1) := by decide +kernel
theorem dR_place_25 : decode (zby mR_place) 25 = .ok (.isub, 1) := by decide +kernel
theorem dR_place_26 : decode (zby mR_place) 26 = .ok (.iaload, 1) := by decide +kernel
theorem dR_place_27 : decode (zby mR_place) 27 = .ok (.iload_n 2, 1) := by decide +kernel
theorem dR_place_28 : decode (zby mR_place) 28 = .ok (.if_icmp .ge 37, 3) := by decide +kernel
theorem dR_place_31 : decode (zby mR_place) 31 = .ok (.aload_n 0, 1) := by decide +kernel
theorem dR_place_32 : decode (zby mR_place) 32 = .ok (.getfield 9, 3) := by decide +kernel
theorem dR_place_35 : decode (zby mR_place) 35 = .ok (.iload_n 3, 1) := by decide +kernel
theorem dR_place_36 : decode (zby mR_place) 36 = .ok (.aload_n 0, 1) := by decide +kernel
theorem dR_place_37 : decode (zby mR_place) 37 = .ok (.getfield 9, 3) := by decide +kernel
theorem dR_place_40 : decode (zby mR_place) 40 = .ok (.iload_n 3, 1) := by decide +kernel
theorem dR_place_41 : decode (zby mR_place) 41 = .ok (.iconst 1, 1) := by decide +kernel
theorem dR_place_42 : decode (zby mR_place) 42 = .ok (.isub, 1) := by decide +kernel
theorem dR_place_43 : decode (zby mR_place) 43 = .ok (.iaload, 1) := by decide +kernel
theorem dR_place_44 : decode (zby mR_place) 44 = .ok (.iastore, 1) := by decide +kernel
theorem dR_place_45 : decode (zby mR_place) 45 = .ok (.aload_n 0, 1) := by decide +kernel
theorem dR_place_46 : decode (zby mR_place) 46 = .ok (.getfield 15, 3) := by decide +kernel
theorem dR_place_49 : decode (zby mR_place) 49 = .ok (.iload_n 3, 1) := by decide +kernel
theorem dR_place_50 : decode (zby mR_place) 50 = .ok (.aload_n 0, 1) := by decide +kernel
theorem dR_place_51 : decode (zby mR_place) 51 = .ok (.getfield 15, 3) := by decide +kernel
theorem dR_place_54 : decode (zby mR_place) 54 = .ok (.iload_n 3, 1) := by decide +kernel
theorem dR_place_55 : decode (zby mR_place) 55 = .ok (.iconst 1, 1) := by decide +kernel
theorem dR_place_56 : decode (zby mR_place) 56 = .ok (.isub, 1) := by decide +kernel
theorem dR_place_57 : decode (zby mR_place) 57 = .ok (.iaload, 1) := by decide +kernel
theorem dR_place_58 : decode (zby mR_place) 58 = .ok (.iastore, 1) := by decide +kernel
theorem dR_place_59 : decode (zby mR_place) 59 = .ok (.iinc 3 (-1), 3) := by decide +kernel
theorem dR_place_62 : decode (zby mR_place) 62 = .ok (.goto (-47), 3) := by decide +kernel
theorem dR_place_65 : decode (zby mR_place) 65 = .ok (.aload_n 0, 1) := by decide +kernel
theorem dR_place_66 : decode (zby mR_place) 66 = .ok (.getfield 9, 3) := by decide +kernel
theorem dR_place_69 : decode (zby mR_place) 69 = .ok (.iload_n 3, 1) := by decide +kernel
theorem dR_place_70 : decode (zby mR_place) 70 = .ok (.iload_n 1, 1) := by decide +kernel
theorem dR_place_71 : decode (zby mR_place) 71 = .ok (.iastore, 1) := by decide +kernel
theorem dR_place_72 : decode (zby mR_place) 72 = .ok (.aload_n 0, 1) := by decide +kernel
theorem dR_place_73 : decode (zby mR_place) 73 = .ok (.getfield 15, 3) := by decide +kernel
theorem dR_place_76 : decode (zby mR_place) 76 = .ok (.iload_n 3, 1) := by decide +kernel
theorem dR_place_77 : decode (zby mR_place) 77 = .ok (.iload_n 2, 1) := by decide +kernel
theorem dR_place_78 : decode (zby mR_place) 78 = .ok (.iastore, 1) := by decide +kernel
theorem dR_place_79 : decode (zby mR_place) 79 = .ok (.aload_n 0, 1) := by decide +kernel
theorem dR_place_80 : decode (zby mR_place) 80 = .ok (.dup, 1) := by decide +kernel
theorem dR_place_81 : decode (zby mR_place) 81 = .ok (.getfield 18, 3) := by decide +kernel
theorem dR_place_84 : decode (zby mR_place) 84 = .ok (.iconst 1, 1) := by decide +kernel
theorem dR_place_85 : decode (zby mR_place) 85 = .ok (.iadd, 1) := by decide +kernel
theorem dR_place_86 : decode (zby mR_place) 86 = .ok (.putfield 18, 3) := by decide +kernel
theorem dR_place_89 : decode (zby mR_place) 89 = .ok (.return_, 1) := by decide +kernel
theorem dS_charAt_0 : decode (zby mS_charAt) 0 = .ok (.aload_n 0, 1) := by decide +kernel
theorem dS_charAt_1 : decode (zby mS_charAt) 1 = .ok (.invokevirtual 492, 3) := by decide +kernel
theorem dS_charAt_4 : decode (zby mS_charAt) 4 = .ok (.ifCond .eq 12, 3) := by decide +kernel
theorem dS_charAt_7 : decode (zby mS_charAt) 7 = .ok (.aload_n 0, 1) := by decide +kernel
theorem dS_charAt_8 : decode (zby mS_charAt) 8 = .ok (.getfield 9, 3) := by decide +kernel
theorem dS_charAt_11 : decode (zby mS_charAt) 11 = .ok (.iload_n 1, 1) := by decide +kernel
theorem dS_charAt_12 : decode (zby mS_charAt) 12 = .ok (.invokestatic 495, 3) := by decide +kernel
theorem dS_charAt_15 : decode (zby mS_charAt) 15 = .ok (.ireturn, 1) := by decide +kernel
theorem dS_charAt_16 : decode (zby mS_charAt) 16 = .ok (.aload_n 0, 1) := by decide +kernel
theorem dS_charAt_17 : decode (zby mS_charAt) 17 = .ok (.getfield 9, 3) := by decide +kernel
theorem dS_charAt_20 : decode (zby mS_charAt) 20 = .ok (.iload_n 1, 1) := by decide +kernel
theorem dS_charAt_21 : decode (zby mS_charAt) 21 = .ok (.invokestatic 498, 3) := by decide +kernel
theorem dS_charAt_24 : decode (zby mS_charAt) 24 = .ok (.ireturn, 1) := by decide +kernel
theorem dS_checkIndex_0 : decode (zby mS_checkIndex) 0 = .ok (.iload_n 0, 1) := by decide +kernel
theorem dS_checkIndex_1 : decode (zby mS_checkIndex) 1 = .ok (.iload_n 1, 1) := by decide +kernel
theorem dS_checkIndex_2 : decode (zby mS_checkIndex) 2 = .ok (.getstatic 1053, 3) := by decide +kernel
theorem dS_checkIndex_5 : decode (zby mS_checkIndex) 5 = .ok (.invokestatic 1059, 3) := by decide +kernel
theorem dS_checkIndex_8 : decode (zby mS_checkIndex) 8 = .ok (.pop, 1) := by decide +kernel
theorem dS_checkIndex_9 : decode (zby mS_checkIndex) 9 = .ok (.return_, 1) := by decide +kernel
theorem dS_coder_0 : decode (zby mS_coder) 0 = .ok (.getstatic 38, 3) := by decide +kernel
theorem dS_coder_3 : decode (zby mS_coder) 3 = .ok (.ifCond .eq 10, 3) := by decide +kernel
theorem dS_coder_6 : decode (zby mS_coder) 6 = .ok (.aload_n 0, 1) := by decide +kernel
theorem dS_coder_7 : decode (zby mS_coder) 7 = .ok (.getfield 15, 3) := by decide +kernel
theorem dS_coder_10 : decode (zby mS_coder) 10 = .ok (.goto 4, 3) := by decide +kernel
theorem dS_coder_13 : decode (zby mS_coder) 13 = .ok (.iconst 1, 1) := by decide +kernel
theorem dS_coder_14 : decode (zby mS_coder) 14 = .ok (.ireturn, 1) := by decide +kernel
theorem dS_isLatin1_0 : decode (zby mS_isLatin1) 0 = .ok (.getstatic 38, 3) := by decide +kernel
theorem dS_isLatin1_3 : decode (zby mS_isLatin1) 3 = .ok (.ifCond .eq 14, 3) := by decide +kernel
theorem dS_isLatin1_6 : decode (zby mS_isLatin1) 6 = .ok (.aload_n 0, 1) := by decide +kernel
theorem dS_isLatin1_7 : decode (zby mS_isLatin1) 7 = .ok (.getfield 15, 3) := by decide +kernel
theorem dS_isLatin1_10 : decode (zby mS_isLatin1) 10 = .ok (.ifCond .ne 7, 3) := by decide +kernel
theorem dS_isLatin1_13 : decode (zby mS_isLatin1) 13 = .ok (.iconst 1, 1) := by decide +kernel
theorem dS_isLatin1_14 : decode (zby mS_isLatin1) 14 = .ok (.goto 4, 3) := by decide +kernel
theorem dS_isLatin1_17 : decode (zby mS_isLatin1) 17 = .ok (.iconst 0, 1) := by decide +kernel
theorem dS_isLatin1_18 : decode (zby mS_isLatin1) 18 = .ok (.ireturn, 1) := by decide +kernel
theorem dS_length_0 : decode (zby mS_length) 0 = .ok (.aload_n 0, 1) := by decide +kernel
theorem dS_length_1 : decode (zby mS_length) 1 = .ok (.getfield 9, 3) := by decide +kernel
theorem dS_length_4 : decode (zby mS_length) 4 = .ok (.arraylength, 1) := by decide +kernel
theorem dS_length_5 : decode (zby mS_length) 5 = .ok (.aload_n 0, 1) := by decide +kernel
theorem dS_length_6 : decode (zby mS_length) 6 = .ok (.invokevirtual 335, 3) := by decide +kernel
theorem dS_length_9 : decode (zby mS_length) 9 = .ok (.ishr, 1) := by decide +kernel
theorem dS_length_10 : decode (zby mS_length) 10 = .ok (.ireturn, 1) := by decide +kernel
theorem dT_branchesAt_0 : decode (zby mT_branchesAt) 0 = .ok (.iconst 0, 1) := by decide +kernel
theorem dT_branchesAt_1 : decode (zby mT_branchesAt) 1 = .ok (.istore_n 2, 1) := by decide +kernel
theorem dT_branchesAt_2 : decode (zby mT_branchesAt) 2 = .ok (.iconst 0, 1) := by decide +kernel
theorem dT_branchesAt_3 : decode (zby mT_branchesAt) 3 = .ok (.istore_n 3, 1) := by decide +kernel
theorem dT_branchesAt_4 : decode (zby mT_branchesAt) 4 = .ok (.iload_n 3, 1) := by decide +kernel
theorem dT_branchesAt_5 : decode (zby mT_branchesAt) 5 = .ok (.bipush 10, 2) := by decide +kernel
theorem dT_branchesAt_7 : decode (zby mT_branchesAt) 7 = .ok (.if_icmp .ge 24, 3) := by decide +kernel
theorem dT_branchesAt_10 : decode (zby mT_branchesAt) 10 = .ok (.aload_n 0, 1) := by decide +kernel
theorem dT_branchesAt_11 : decode (zby mT_branchesAt) 11 = .ok (.iload_n 1, 1) := by decide +kernel
theorem dT_branchesAt_12 : decode (zby mT_branchesAt) 12 = .ok (.iload_n 3, 1) := by decide +kernel
theorem dT_branchesAt_13 : decode (zby mT_branchesAt) 13 = .ok (.invokestatic 22, 3) := by decide +kernel
theorem dT_branchesAt_16 : decode (zby mT_branchesAt) 16 = .ok (.invokevirtual 25, 3) := by decide +kernel
theorem dT_branchesAt_19 : decode (zby mT_branchesAt) 19 = .ok (.ifCond .le 6, 3) := by decide +kernel
theorem dT_branchesAt_22 : decode (zby mT_branchesAt) 22 = .ok (.iinc 2 1, 3) := by decide +kernel
theorem dT_branchesAt_25 : decode (zby mT_branchesAt) 25 = .ok (.iinc 3 1, 3) := by decide +kernel
theorem dT_branchesAt_28 : decode (zby mT_branchesAt) 28 = .ok (.goto (-24), 3) := by decide +kernel
theorem dT_branchesAt_31 : decode (zby mT_branchesAt) 31 = .ok (.iload_n 2, 1) := by decide +kernel
theorem dT_branchesAt_32 : decode (zby mT_branchesAt) 32 = .ok (.ireturn, 1) := by decide +kernel
theorem dT_build_0 : decode (zby mT_build) 0 = .ok (.aload_n 0, 1) := by decide +kernel
theorem dT_build_1 : decode (zby mT_build) 1 = .ok (.getfield 11, 3) := by decide +kernel
theorem dT_build_4 : decode (zby mT_build) 4 = .ok (.iconst 0, 1) := by decide +kernel
theorem dT_build_5 : decode (zby mT_build) 5 = .ok (.invokestatic 29, 3) := by decide +kernel
theorem dT_build_8 : decode (zby mT_build) 8 = .ok (.aload_n 0, 1) := by decide +kernel
theorem dT_build_9 : decode (zby mT_build) 9 = .ok (.getfield 15, 3) := by decide +kernel
theorem dT_build_12 : decode (zby mT_build) 12 = .ok (.iconst 0, 1) := by decide +kernel
theorem dT_build_13 : decode (zby mT_build) 13 = .ok (.invokestatic 29, 3) := by decide +kernel
theorem dT_build_16 : decode (zby mT_build) 16 = .ok (.iconst 0, 1) := by decide +kernel
theorem dT_build_17 : decode (zby mT_build) 17 = .ok (.istore_n 2, 1) := by decide +kernel
theorem dT_build_18 : decode (zby mT_build) 18 = .ok (.iload_n 2, 1) := by decide +kernel
theorem dT_build_19 : decode (zby mT_build) 19 = .ok (.aload_n 1, 1) := by decide +kernel
theorem dT_build_20 : decode (zby mT_build) 20 = .ok (.getfield 35, 3) := by decide +kernel
theorem dT_build_23 : decode (zby mT_build) 23 = .ok (.if_icmp .ge 77, 3) := by decide +kernel
theorem dT_build_26 : decode (zby mT_build) 26 = .ok (.aload_n 1, 1) := by decide +kernel
theorem dT_build_27 : decode (zby mT_build) 27 = .ok (.getfield 41, 3) := by decide +kernel
theorem dT_build_30 : decode (zby mT_build) 30 = .ok (.iload_n 2, 1) := by decide +kernel
theorem dT_build_31 : decode (zby mT_build) 31 = .ok (.aaload, 1) := by decide +kernel
theorem dT_build_32 : decode (zby mT_build) 32 = .ok (.astore_n 3, 1) := by decide +kernel
theorem dT_build_33 : decode (zby mT_build) 33 = .ok (.iconst 0, 1) := by decide +kernel
theorem dT_build_34 : decode (zby mT_build) 34 = .ok (.istore 4, 2) := by decide +kernel
theorem dT_build_36 : decode (zby mT_build) 36 = .ok (.iload 4, 2) := by decide +kernel
theorem dT_build_38 : decode (zby mT_build) 38 = .ok (.aload_n 3, 1) := by decide +kernel
theorem dT_build_39 : decode (zby mT_build) 39 = .ok (.getfield 45, 3) := by decide +kernel
theorem dT_build_42 : decode (zby mT_build) 42 = .ok (.if_icmp .ge 52, 3) := by decide +kernel
theorem dT_build_45 : decode (zby mT_build) 45 = .ok (.iload 4, 2) := by decide +kernel
theorem dT_build_47 : decode (zby mT_build) 47 = .ok (.ifCond .ne 7, 3) := by decide +kernel
theorem dT_build_50 : decode (zby mT_build) 50 = .ok (.iconst (-1), 1) := by decide +kernel
theorem dT_build_51 : decode (zby mT_build) 51 = .ok (.goto 22, 3) := by decide +kernel
theorem dT_build_54 : decode (zby mT_build) 54 = .ok (.aload_n 3, 1) := by decide +kernel
theorem dT_build_55 : decode (zby mT_build) 55 = .ok (.getfield 50, 3) := by decide +kernel
theorem dT_build_58 : decode (zby mT_build) 58 = .ok (.iload 4, 2) := by decide +kernel
theorem dT_build_60 : decode (zby mT_build) 60 = .ok (.iconst 1, 1) := by decide +kernel
theorem dT_build_61 : decode (zby mT_build) 61 = .ok (.isub, 1) := by decide +kernel
theorem dT_build_62 : decode (zby mT_build) 62 = .ok (.iaload, 1) := by decide +kernel
theorem dT_build_63 : decode (zby mT_build) 63 = .ok (.aload_n 3, 1) := by decide +kernel
theorem dT_build_64 : decode (zby mT_build) 64 = .ok (.getfield 50, 3) := by decide +kernel
theorem dT_build_67 : decode (zby mT_build) 67 = .ok (.iload 4, 2) := by decide +kernel
theorem dT_build_69 : decode (zby mT_build) 69 = .ok (.iaload, 1) := by decide +kernel
theorem dT_build_70 : decode (zby mT_build) 70 = .ok (.invokestatic 53, 3) := by decide +kernel
theorem dT_build_73 : decode (zby mT_build) 73 = .ok (.istore 5, 2) := by decide +kernel
theorem dT_build_75 : decode (zby mT_build) 75 = .ok (.aload_n 0, 1) := by decide +kernel
theorem dT_build_76 : decode (zby mT_build) 76 = .ok (.aload_n 3, 1) := by decide +kernel
theorem dT_build_77 : decode (zby mT_build) 77 = .ok (.getfield 50, 3) := by decide +kernel
theorem dT_build_80 : decode (zby mT_build) 80 = .ok (.iload 4, 2) := by decide +kernel
theorem dT_build_82 : decode (zby mT_build) 82 = .ok (.iaload, 1) := by decide +kernel
theorem dT_build_83 : decode (zby mT_build) 83 = .ok (.iload 5, 2) := by decide +kernel
theorem dT_build_85 : decode (zby mT_build) 85 = .ok (.invokevirtual 56, 3) := by decide +kernel
theorem dT_build_88 : decode (zby mT_build) 88 = .ok (.iinc 4 1, 3) := by decide +kernel
theorem dT_build_91 : decode (zby mT_build) 91 = .ok (.goto (-55), 3) := by decide +kernel
theorem dT_build_94 : decode (zby mT_build) 94 = .ok (.iinc 2 1, 3) := by decide +kernel
theorem dT_build_97 : decode (zby mT_build) 97 = .ok (.goto (-79), 3) := by decide +kernel
theorem dT_build_100 : decode (zby mT_build) 100 = .ok (.return_, 1) := by decide +kernel
theorem dT_child_0 : decode (zby mT_child) 0 = .ok (.bipush 10, 2) := by decide +kernel
theorem dT_child_2 : decode (zby mT_child) 2 = .ok (.iload_n 0, 1) := by decide +kernel
theorem dT_child_3 : decode (zby mT_child) 3 = .ok (.imul, 1) := by decide +kernel
theorem dT_child_4 : decode (zby mT_child) 4 = .ok (.iload_n 1, 1) := by decide +kernel
theorem dT_child_5 : decode (zby mT_child) 5 = .ok (.iadd, 1) := by decide +kernel
theorem dT_child_6 : decode (zby mT_child) 6 = .ok (.iconst 1, 1) := by decide +kernel
theorem dT_child_7 : decode (zby mT_child) 7 = .ok (.iadd, 1) := by decide +kernel
theorem dT_child_8 : decode (zby mT_child) 8 = .ok (.ireturn, 1) := by decide +kernel
theorem dT_codesAt_0 : decode (zby mT_codesAt) 0 = .ok (.iload_n 1, 1) := by decide +kernel
theorem dT_codesAt_1 : decode (zby mT_codesAt) 1 = .ok (.ifCond .lt 19, 3) := by decide +kernel
theorem dT_codesAt_4 : decode (zby mT_codesAt) 4 = .ok (.iload_n 1, 1) := by decide +kernel
theorem dT_codesAt_5 : decode (zby mT_codesAt) 5 = .ok (.sipush 1111, 3) := by decide +kernel
theorem dT_codesAt_8 : decode (zby mT_codesAt) 8 = .ok (.if_icmp .ge 12, 3) := by decide +kernel
theorem dT_codesAt_11 : decode (zby mT_codesAt) 11 = .ok (.aload_n 0, 1) := by decide +kernel
theorem dT_codesAt_12 : decode (zby mT_codesAt) 12 = .ok (.getfield 15, 3) := by decide +kernel
theorem dT_codesAt_15 : decode (zby mT_codesAt) 15 = .ok (.iload_n 1, 1) := by decide +kernel
theorem dT_codesAt_16 : decode (zby mT_codesAt) 16 = .ok (.iaload, 1) := by decide +kernel
theorem dT_codesAt_17 : decode (zby mT_codesAt) 17 = .ok (.goto 4, 3) := by decide +kernel
theorem dT_codesAt_20 : decode (zby mT_codesAt) 20 = .ok (.iconst 0, 1) := by decide +kernel
theorem dT_codesAt_21 : decode (zby mT_codesAt) 21 = .ok (.ireturn, 1) := by decide +kernel
theorem dT_commonestLeaf_0 : decode (zby mT_commonestLeaf) 0 = .ok (.iconst (-1), 1) := by decide +kernel
theorem dT_commonestLeaf_1 : decode (zby mT_commonestLeaf) 1 = .ok (.istore_n 1, 1) := by decide +kernel
theorem dT_commonestLeaf_2 : decode (zby mT_commonestLeaf) 2 = .ok (.iconst 0, 1) := by decide +kernel
theorem dT_commonestLeaf_3 : decode (zby mT_commonestLeaf) 3 = .ok (.istore_n 2, 1) := by decide +kernel
theorem dT_commonestLeaf_4 : decode (zby mT_commonestLeaf) 4 = .ok (.iconst 0, 1) := by decide +kernel
theorem dT_commonestLeaf_5 : decode (zby mT_commonestLeaf) 5 = .ok (.istore_n 3, 1) := by decide +kernel
theorem dT_commonestLeaf_6 : decode (zby mT_commonestLeaf) 6 = .ok (.iload_n 3, 1) := by decide +kernel
theorem dT_commonestLeaf_7 : decode (zby mT_commonestLeaf) 7 = .ok (.sipush 1000, 3) := by decide +kernel
theorem dT_commonestLeaf_10 : decode (zby mT_commonestLeaf) 10 = .ok (.if_icmp .ge 34, 3) := by decide +kernel
theorem dT_commonestLeaf_13 : decode (zby mT_commonestLeaf) 13 = .ok (.aload_n 0, 1) := by decide +kernel
theorem dT_commonestLeaf_14 : decode (zby mT_commonestLeaf) 14 = .ok (.getfield 11, 3) := by decide +kernel
theorem dT_commonestLeaf_17 : decode (zby mT_commonestLeaf) 17 = .ok (.bipush 111, 2) := by decide +kernel
theorem dT_commonestLeaf_19 : decode (zby mT_commonestLeaf) 19 = .ok (.iload_n 3, 1) := by decide +kernel
theorem dT_commonestLeaf_20 : decode (zby mT_commonestLeaf) 20 = .ok (.iadd, 1) := by decide +kernel
theorem dT_commonestLeaf_21 : decode (zby mT_commonestLeaf) 21 = .ok (.iaload, 1) := by decide +kernel
theorem dT_commonestLeaf_22 : decode (zby mT_commonestLeaf) 22 = .ok (.iload_n 2, 1) := by decide +kernel
theorem dT_commonestLeaf_23 : decode (zby mT_commonestLeaf) 23 = .ok (.if_icmp .le 15, 3) := by decide +kernel
theorem dT_commonestLeaf_26 : decode (zby mT_commonestLeaf) 26 = .ok (.aload_n 0, 1) := by decide +kernel
theorem dT_commonestLeaf_27 : decode (zby mT_commonestLeaf) 27 = .ok (.getfield 11, 3) := by decide +kernel
theorem dT_commonestLeaf_30 : decode (zby mT_commonestLeaf) 30 = .ok (.bipush 111, 2) := by decide +kernel
theorem dT_commonestLeaf_32 : decode (zby mT_commonestLeaf) 32 = .ok (.iload_n 3, 1) := by decide +kernel
theorem dT_commonestLeaf_33 : decode (zby mT_commonestLeaf) 33 = .ok (.iadd, 1) := by decide +kernel
theorem dT_commonestLeaf_34 : decode (zby mT_commonestLeaf) 34 = .ok (.iaload, 1) := by decide +kernel
theorem dT_commonestLeaf_35 : decode (zby mT_commonestLeaf) 35 = .ok (.istore_n 2, 1) := by decide +kernel
theorem dT_commonestLeaf_36 : decode (zby mT_commonestLeaf) 36 = .ok (.iload_n 3, 1) := by decide +kernel
theorem dT_commonestLeaf_37 : decode (zby mT_commonestLeaf) 37 = .ok (.istore_n 1, 1) := by decide +kernel
theorem dT_commonestLeaf_38 : decode (zby mT_commonestLeaf) 38 = .ok (.iinc 3 1, 3) := by decide +kernel
theorem dT_commonestLeaf_41 : decode (zby mT_commonestLeaf) 41 = .ok (.goto (-35), 3) := by decide +kernel
theorem dT_commonestLeaf_44 : decode (zby mT_commonestLeaf) 44 = .ok (.iload_n 1, 1) := by decide +kernel
theorem dT_commonestLeaf_45 : decode (zby mT_commonestLeaf) 45 = .ok (.ireturn, 1) := by decide +kernel
theorem dT_countCode_0 : decode (zby mT_countCode) 0 = .ok (.aload_n 0, 1) := by decide +kernel
theorem dT_countCode_1 : decode (zby mT_countCode) 1 = .ok (.bipush 111, 2) := by decide +kernel
theorem dT_countCode_3 : decode (zby mT_countCode) 3 = .ok (.iload_n 1, 1) := by decide +kernel
theorem dT_countCode_4 : decode (zby mT_countCode) 4 = .ok (.iadd, 1) := by decide +kernel
theorem dT_countCode_5 : decode (zby mT_countCode) 5 = .ok (.invokevirtual 60, 3) := by decide +kernel
theorem dT_countCode_8 : decode (zby mT_countCode) 8 = .ok (.ifCond .ne 7, 3) := by decide +kernel
theorem dT_countCode_11 : decode (zby mT_countCode) 11 = .ok (.iconst 1, 1) := by decide +kernel
theorem dT_countCode_12 : decode (zby mT_countCode) 12 = .ok (.goto 4, 3) := by decide +kernel
theorem dT_countCode_15 : decode (zby mT_countCode) 15 = .ok (.iconst 0, 1) := by decide +kernel
theorem dT_countCode_16 : decode (zby mT_countCode) 16 = .ok (.istore_n 3, 1) := by decide +kernel
theorem dT_countCode_17 : decode (zby mT_countCode) 17 = .ok (.iconst 0, 1) := by decide +kernel
theorem dT_countCode_18 : decode (zby mT_countCode) 18 = .ok (.istore 4, 2) := by decide +kernel
theorem dT_countCode_20 : decode (zby mT_countCode) 20 = .ok (.iconst 0, 1) := by decide +kernel
theorem dT_countCode_21 : decode (zby mT_countCode) 21 = .ok (.istore 5, 2) := by decide +kernel
theorem dT_countCode_23 : decode (zby mT_countCode) 23 = .ok (.iload 5, 2) := by decide +kernel
theorem dT_countCode_25 : decode (zby mT_countCode) 25 = .ok (.iconst 3, 1) := by decide +kernel
theorem dT_countCode_26 : decode (zby mT_countCode) 26 = .ok (.if_icmp .gt 62, 3) := by decide +kernel
theorem dT_countCode_29 : decode (zby mT_countCode) 29 = .ok (.iload 4, 2) := by decide +kernel
theorem dT_countCode_31 : decode (zby mT_countCode) 31 = .ok (.sipush 1111, 3) := by decide +kernel
theorem dT_countCode_34 : decode (zby mT_countCode) 34 = .ok (.if_icmp .ge 54, 3) := by decide +kernel
theorem dT_countCode_37 : decode (zby mT_countCode) 37 = .ok (.iload 5, 2) := by decide +kernel
theorem dT_countCode_39 : decode (zby mT_countCode) 39 = .ok (.iload_n 2, 1) := by decide +kernel
theorem dT_countCode_40 : decode (zby mT_countCode) 40 = .ok (.if_icmp .le 14, 3) := by decide +kernel
theorem dT_countCode_43 : decode (zby mT_countCode) 43 = .ok (.aload_n 0, 1) := by decide +kernel
theorem dT_countCode_44 : decode (zby mT_countCode) 44 = .ok (.getfield 11, 3) := by decide +kernel
theorem dT_countCode_47 : decode (zby mT_countCode) 47 = .ok (.iload 4, 2) := by decide +kernel
theorem dT_countCode_49 : decode (zby mT_countCode) 49 = .ok (.dup2, 1) := by decide +kernel
theorem dT_countCode_50 : decode (zby mT_countCode) 50 = .ok (.iaload, 1) := by decide +kernel
theorem dT_countCode_51 : decode (zby mT_countCode) 51 = .ok (.iconst 1, 1) := by decide +kernel
theorem dT_countCode_52 : decode (zby mT_countCode) 52 = .ok (.iadd, 1) := by decide +kernel
theorem dT_countCode_53 : decode (zby mT_countCode) 53 = .ok (.iastore, 1) := by decide +kernel
theorem dT_countCode_54 : decode (zby mT_countCode) 54 = .ok (.iload_n 3, 1) := by decide +kernel
theorem dT_countCode_55 : decode (zby mT_countCode) 55 = .ok (.ifCond .eq 14, 3) := by decide +kernel
theorem dT_countCode_58 : decode (zby mT_countCode) 58 = .ok (.aload_n 0, 1) := by decide +kernel
theorem dT_countCode_59 : decode (zby mT_countCode) 59 = .ok (.getfield 15, 3) := by decide +kernel
theorem dT_countCode_62 : decode (zby mT_countCode) 62 = .ok (.iload 4, 2) := by decide +kernel
theorem dT_countCode_64 : decode (zby mT_countCode) 64 = .ok (.dup2, 1) := by decide +kernel
theorem dT_countCode_65 : decode (zby mT_countCode) 65 = .ok (.iaload, 1) := by decide +kernel
theorem dT_countCode_66 : decode (zby mT_countCode) 66 = .ok (.iconst 1, 1) := by decide +kernel
theorem dT_countCode_67 : decode (zby mT_countCode) 67 = .ok (.iadd, 1) := by decide +kernel
theorem dT_countCode_68 : decode (zby mT_countCode) 68 = .ok (.iastore, 1) := by decide +kernel
theorem dT_countCode_69 : decode (zby mT_countCode) 69 = .ok (.iload 4, 2) := by decide +kernel
theorem dT_countCode_71 : decode (zby mT_countCode) 71 = .ok (.iload_n 1, 1) := by decide +kernel
theorem dT_countCode_72 : decode (zby mT_countCode) 72 = .ok (.iload 5, 2) := by decide +kernel
theorem dT_countCode_74 : decode (zby mT_countCode) 74 = .ok (.invokestatic 18, 3) := by decide +kernel
theorem dT_countCode_77 : decode (zby mT_countCode) 77 = .ok (.invokestatic 22, 3) := by decide +kernel
theorem dT_countCode_80 : decode (zby mT_countCode) 80 = .ok (.istore 4, 2) := by decide +kernel
theorem dT_countCode_82 : decode (zby mT_countCode) 82 = .ok (.iinc 5 1, 3) := by decide +kernel
theorem dT_countCode_85 : decode (zby mT_countCode) 85 = .ok (.goto (-62), 3) := by decide +kernel
theorem dT_countCode_88 : decode (zby mT_countCode) 88 = .ok (.return_, 1) := by decide +kernel
theorem dT_depthReachedBy_0 : decode (zby mT_depthReachedBy) 0 = .ok (.iconst 0, 1) := by decide +kernel
theorem dT_depthReachedBy_1 : decode (zby mT_depthReachedBy) 1 = .ok (.istore_n 2, 1) := by decide +kernel
theorem dT_depthReachedBy_2 : decode (zby mT_depthReachedBy) 2 = .ok (.iconst 0, 1) := by decide +kernel
theorem dT_depthReachedBy_3 : decode (zby mT_depthReachedBy) 3 = .ok (.istore_n 3, 1) := by decide +kernel
theorem dT_depthReachedBy_4 : decode (zby mT_depthReachedBy) 4 = .ok (.iload_n 2, 1) := by decide +kernel
theorem dT_depthReachedBy_5 : decode (zby mT_depthReachedBy) 5 = .ok (.iconst 3, 1) := by decide +kernel
theorem dT_depthReachedBy_6 : decode (zby mT_depthReachedBy) 6 = .ok (.if_icmp .ge 29, 3) := by decide +kernel
theorem dT_depthReachedBy_9 : decode (zby mT_depthReachedBy) 9 = .ok (.iload_n 3, 1) := by decide +kernel
theorem dT_depthReachedBy_10 : decode (zby mT_depthReachedBy) 10 = .ok (.iload_n 1, 1) := by decide +kernel
theorem dT_depthReachedBy_11 : decode (zby mT_depthReachedBy) 11 = .ok (.iload_n 2, 1) := by decide +kernel
theorem dT_depthReachedBy_12 : decode (zby mT_depthReachedBy) 12 = .ok (.invokestatic 18, 3) := by decide +kernel
theorem dT_depthReachedBy_15 : decode (zby mT_depthReachedBy) 15 = .ok (.invokestatic 22, 3) := by decide +kernel
theorem dT_depthReachedBy_18 : decode (zby mT_depthReachedBy) 18 = .ok (.istore_n 3, 1) := by decide +kernel
theorem dT_depthReachedBy_19 : decode (zby mT_depthReachedBy) 19 = .ok (.aload_n 0, 1) := by decide +kernel
theorem dT_depthReachedBy_20 : decode (zby mT_depthReachedBy) 20 = .ok (.iload_n 3, 1) := by decide +kernel
theorem dT_depthReachedBy_21 : decode (zby mT_depthReachedBy) 21 = .ok (.invokevirtual 25, 3) := by decide +kernel
theorem dT_depthReachedBy_24 : decode (zby mT_depthReachedBy) 24 = .ok (.ifCond .ne 5, 3) := by decide +kernel
theorem dT_depthReachedBy_27 : decode (zby mT_depthReachedBy) 27 = .ok (.iload_n 2, 1) := by decide +kernel
theorem dT_depthReachedBy_28 : decode (zby mT_depthReachedBy) 28 = .ok (.ireturn, 1) := by decide +kernel
theorem dT_depthReachedBy_29 : decode (zby mT_depthReachedBy) 29 = .ok (.iinc 2 1, 3) := by decide +kernel
theorem dT_depthReachedBy_32 : decode (zby mT_depthReachedBy) 32 = .ok (.goto (-28), 3) := by decide +kernel
theorem dT_depthReachedBy_35 : decode (zby mT_depthReachedBy) 35 = .ok (.iload_n 2, 1) := by decide +kernel
theorem dT_depthReachedBy_36 : decode (zby mT_depthReachedBy) 36 = .ok (.ireturn, 1) := by decide +kernel
theorem dT_digitAt_0 : decode (zby mT_digitAt) 0 = .ok (.iload_n 1, 1) := by decide +kernel
theorem dT_digitAt_1 : decode (zby mT_digitAt) 1 = .ok (.lookupswitch 43 #[(0, 27), (1, 35)], 27) := by decide +kernel
theorem dT_digitAt_28 : decode (zby mT_digitAt) 28 = .ok (.iload_n 0, 1) := by decide +kernel
theorem dT_digitAt_29 : decode (zby mT_digitAt) 29 = .ok (.bipush 100, 2) := by decide +kernel
theorem dT_digitAt_31 : decode (zby mT_digitAt) 31 = .ok (.idiv, 1) := by decide +kernel
theorem dT_digitAt_32 : decode (zby mT_digitAt) 32 = .ok (.bipush 10, 2) := by decide +kernel
theorem dT_digitAt_34 : decode (zby mT_digitAt) 34 = .ok (.irem, 1) := by decide +kernel
theorem dT_digitAt_35 : decode (zby mT_digitAt) 35 = .ok (.ireturn, 1) := by decide +kernel
theorem dT_digitAt_36 : decode (zby mT_digitAt) 36 = .ok (.iload_n 0, 1) := by decide +kernel
theorem dT_digitAt_37 : decode (zby mT_digitAt) 37 = .ok (.bipush 10, 2) := by decide +kernel
theorem dT_digitAt_39 : decode (zby mT_digitAt) 39 = .ok (.idiv, 1) := by decide +kernel
theorem dT_digitAt_40 : decode (zby mT_digitAt) 40 = .ok (.bipush 10, 2) := by decide +kernel
theorem dT_digitAt_42 : decode (zby mT_digitAt) 42 = .ok (.irem, 1) := by decide +kernel
theorem dT_digitAt_43 : decode (zby mT_digitAt) 43 = .ok (.ireturn, 1) := by decide +kernel
theorem dT_digitAt_44 : decode (zby mT_digitAt) 44 = .ok (.iload_n 0, 1) := by decide +kernel
theorem dT_digitAt_45 : decode (zby mT_digitAt) 45 = .ok (.bipush 10, 2) := by decide +kernel
theorem dT_digitAt_47 : decode (zby mT_digitAt) 47 = .ok (.irem, 1) := by decide +kernel
theorem dT_digitAt_48 : decode (zby mT_digitAt) 48 = .ok (.ireturn, 1) := by decide +kernel
theorem dT_entriesAt_0 : decode (zby mT_entriesAt) 0 = .ok (.iload_n 1, 1) := by decide +kernel
theorem dT_entriesAt_1 : decode (zby mT_entriesAt) 1 = .ok (.ifCond .lt 19, 3) := by decide +kernel
theorem dT_entriesAt_4 : decode (zby mT_entriesAt) 4 = .ok (.iload_n 1, 1) := by decide +kernel
theorem dT_entriesAt_5 : decode (zby mT_entriesAt) 5 = .ok (.sipush 1111, 3) := by decide +kernel
theorem dT_entriesAt_8 : decode (zby mT_entriesAt) 8 = .ok (.if_icmp .ge 12, 3) := by decide +kernel
theorem dT_entriesAt_11 : decode (zby mT_entriesAt) 11 = .ok (.aload_n 0, 1) := by decide +kernel
theorem dT_entriesAt_12 : decode (zby mT_entriesAt) 12 = .ok (.getfield 11, 3) := by decide +kernel
theorem dT_entriesAt_15 : decode (zby mT_entriesAt) 15 = .ok (.iload_n 1, 1) := by decide +kernel
theorem dT_entriesAt_16 : decode (zby mT_entriesAt) 16 = .ok (.iaload, 1) := by decide +kernel
theorem dT_entriesAt_17 : decode (zby mT_entriesAt) 17 = .ok (.goto 4, 3) := by decide +kernel
theorem dT_entriesAt_20 : decode (zby mT_entriesAt) 20 = .ok (.iconst 0, 1) := by decide +kernel
theorem dT_entriesAt_21 : decode (zby mT_entriesAt) 21 = .ok (.ireturn, 1) := by decide +kernel
theorem dT_init_0 : decode (zby mT_init) 0 = .ok (.aload_n 0, 1) := by decide +kernel
theorem dT_init_1 : decode (zby mT_init) 1 = .ok (.invokespecial 5, 3) := by decide +kernel
theorem dT_init_4 : decode (zby mT_init) 4 = .ok (.aload_n 0, 1) := by decide +kernel
theorem dT_init_5 : decode (zby mT_init) 5 = .ok (.sipush 1111, 3) := by decide +kernel
theorem dT_init_8 : decode (zby mT_init) 8 = .ok (.newarray .int, 2) := by decide +kernel
theorem dT_init_10 : decode (zby mT_init) 10 = .ok (.putfield 11, 3) := by decide +kernel
theorem dT_init_13 : decode (zby mT_init) 13 = .ok (.aload_n 0, 1) := by decide +kernel
theorem dT_init_14 : decode (zby mT_init) 14 = .ok (.sipush 1111, 3) := by decide +kernel
theorem dT_init_17 : decode (zby mT_init) 17 = .ok (.newarray .int, 2) := by decide +kernel
theorem dT_init_19 : decode (zby mT_init) 19 = .ok (.putfield 15, 3) := by decide +kernel
theorem dT_init_22 : decode (zby mT_init) 22 = .ok (.return_, 1) := by decide +kernel
theorem dT_nodeOf_0 : decode (zby mT_nodeOf) 0 = .ok (.iconst 0, 1) := by decide +kernel
theorem dT_nodeOf_1 : decode (zby mT_nodeOf) 1 = .ok (.istore_n 2, 1) := by decide +kernel
theorem dT_nodeOf_2 : decode (zby mT_nodeOf) 2 = .ok (.iconst 3, 1) := by decide +kernel
theorem dT_nodeOf_3 : decode (zby mT_nodeOf) 3 = .ok (.iload_n 0, 1) := by decide +kernel
theorem dT_nodeOf_4 : decode (zby mT_nodeOf) 4 = .ok (.isub, 1) := by decide +kernel
theorem dT_nodeOf_5 : decode (zby mT_nodeOf) 5 = .ok (.istore_n 3, 1) := by decide +kernel
theorem dT_nodeOf_6 : decode (zby mT_nodeOf) 6 = .ok (.iload_n 3, 1) := by decide +kernel
theorem dT_nodeOf_7 : decode (zby mT_nodeOf) 7 = .ok (.iconst 3, 1) := by decide +kernel
theorem dT_nodeOf_8 : decode (zby mT_nodeOf) 8 = .ok (.if_icmp .ge 19, 3) := by decide +kernel
theorem dT_nodeOf_11 : decode (zby mT_nodeOf) 11 = .ok (.iload_n 2, 1) := by decide +kernel
theorem dT_nodeOf_12 : decode (zby mT_nodeOf) 12 = .ok (.iload_n 1, 1) := by decide +kernel
theorem dT_nodeOf_13 : decode (zby mT_nodeOf) 13 = .ok (.iload_n 3, 1) := by decide +kernel
theorem dT_nodeOf_14 : decode (zby mT_nodeOf) 14 = .ok (.invokestatic 18, 3) := by decide +kernel
theorem dT_nodeOf_17 : decode (zby mT_nodeOf) 17 = .ok (.invokestatic 22, 3) := by decide +kernel
theorem dT_nodeOf_20 : decode (zby mT_nodeOf) 20 = .ok (.istore_n 2, 1) := by decide +kernel
theorem dT_nodeOf_21 : decode (zby mT_nodeOf) 21 = .ok (.iinc 3 1, 3) := by decide +kernel
theorem dT_nodeOf_24 : decode (zby mT_nodeOf) 24 = .ok (.goto (-18), 3) := by decide +kernel
theorem dT_nodeOf_27 : decode (zby mT_nodeOf) 27 = .ok (.iload_n 2, 1) := by decide +kernel
theorem dT_nodeOf_28 : decode (zby mT_nodeOf) 28 = .ok (.ireturn, 1) := by decide +kernel
