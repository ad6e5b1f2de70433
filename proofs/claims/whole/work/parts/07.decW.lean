/-! decode rows, by program -/
theorem dW_addCode_0 : decode (zby mW_addCode) 0 = .ok (.aload_n 3, 1) := by decide +kernel
theorem dW_addCode_1 : decode (zby mW_addCode) 1 = .ok (.iconst 0, 1) := by decide +kernel
theorem dW_addCode_2 : decode (zby mW_addCode) 2 = .ok (.aload_n 0, 1) := by decide +kernel
theorem dW_addCode_3 : decode (zby mW_addCode) 3 = .ok (.iload_n 1, 1) := by decide +kernel
theorem dW_addCode_4 : decode (zby mW_addCode) 4 = .ok (.iload_n 2, 1) := by decide +kernel
theorem dW_addCode_5 : decode (zby mW_addCode) 5 = .ok (.invokevirtual 17, 3) := by decide +kernel
theorem dW_addCode_8 : decode (zby mW_addCode) 8 = .ok (.i2l, 1) := by decide +kernel
theorem dW_addCode_9 : decode (zby mW_addCode) 9 = .ok (.lastore, 1) := by decide +kernel
theorem dW_addCode_10 : decode (zby mW_addCode) 10 = .ok (.goto 15, 3) := by decide +kernel
theorem dW_addCode_13 : decode (zby mW_addCode) 13 = .ok (.astore 4, 2) := by decide +kernel
theorem dW_addCode_15 : decode (zby mW_addCode) 15 = .ok (.iconst 1, 1) := by decide +kernel
theorem dW_addCode_16 : decode (zby mW_addCode) 16 = .ok (.ireturn, 1) := by decide +kernel
theorem dW_addCode_17 : decode (zby mW_addCode) 17 = .ok (.astore 4, 2) := by decide +kernel
theorem dW_addCode_19 : decode (zby mW_addCode) 19 = .ok (.iconst 2, 1) := by decide +kernel
theorem dW_addCode_20 : decode (zby mW_addCode) 20 = .ok (.ireturn, 1) := by decide +kernel
theorem dW_addCode_21 : decode (zby mW_addCode) 21 = .ok (.astore 4, 2) := by decide +kernel
theorem dW_addCode_23 : decode (zby mW_addCode) 23 = .ok (.iconst 3, 1) := by decide +kernel
theorem dW_addCode_24 : decode (zby mW_addCode) 24 = .ok (.ireturn, 1) := by decide +kernel
theorem dW_addCode_25 : decode (zby mW_addCode) 25 = .ok (.iconst 0, 1) := by decide +kernel
theorem dW_addCode_26 : decode (zby mW_addCode) 26 = .ok (.ireturn, 1) := by decide +kernel
theorem dW_addEntry_0 : decode (zby mW_addEntry) 0 = .ok (.aload_n 2, 1) := by decide +kernel
theorem dW_addEntry_1 : decode (zby mW_addEntry) 1 = .ok (.iconst 0, 1) := by decide +kernel
theorem dW_addEntry_2 : decode (zby mW_addEntry) 2 = .ok (.aload_n 0, 1) := by decide +kernel
theorem dW_addEntry_3 : decode (zby mW_addEntry) 3 = .ok (.iload_n 1, 1) := by decide +kernel
theorem dW_addEntry_4 : decode (zby mW_addEntry) 4 = .ok (.invokevirtual 7, 3) := by decide +kernel
theorem dW_addEntry_7 : decode (zby mW_addEntry) 7 = .ok (.i2l, 1) := by decide +kernel
theorem dW_addEntry_8 : decode (zby mW_addEntry) 8 = .ok (.lastore, 1) := by decide +kernel
theorem dW_addEntry_9 : decode (zby mW_addEntry) 9 = .ok (.goto 9, 3) := by decide +kernel
theorem dW_addEntry_12 : decode (zby mW_addEntry) 12 = .ok (.astore_n 3, 1) := by decide +kernel
theorem dW_addEntry_13 : decode (zby mW_addEntry) 13 = .ok (.iconst 1, 1) := by decide +kernel
theorem dW_addEntry_14 : decode (zby mW_addEntry) 14 = .ok (.ireturn, 1) := by decide +kernel
theorem dW_addEntry_15 : decode (zby mW_addEntry) 15 = .ok (.astore_n 3, 1) := by decide +kernel
theorem dW_addEntry_16 : decode (zby mW_addEntry) 16 = .ok (.iconst 2, 1) := by decide +kernel
theorem dW_addEntry_17 : decode (zby mW_addEntry) 17 = .ok (.ireturn, 1) := by decide +kernel
theorem dW_addEntry_18 : decode (zby mW_addEntry) 18 = .ok (.iconst 0, 1) := by decide +kernel
theorem dW_addEntry_19 : decode (zby mW_addEntry) 19 = .ok (.ireturn, 1) := by decide +kernel
theorem dW_ageOf_0 : decode (zby mW_ageOf) 0 = .ok (.aload_n 2, 1) := by decide +kernel
theorem dW_ageOf_1 : decode (zby mW_ageOf) 1 = .ok (.iconst 0, 1) := by decide +kernel
theorem dW_ageOf_2 : decode (zby mW_ageOf) 2 = .ok (.aload_n 0, 1) := by decide +kernel
theorem dW_ageOf_3 : decode (zby mW_ageOf) 3 = .ok (.iload_n 1, 1) := by decide +kernel
theorem dW_ageOf_4 : decode (zby mW_ageOf) 4 = .ok (.invokevirtual 56, 3) := by decide +kernel
theorem dW_ageOf_7 : decode (zby mW_ageOf) 7 = .ok (.i2l, 1) := by decide +kernel
theorem dW_ageOf_8 : decode (zby mW_ageOf) 8 = .ok (.lastore, 1) := by decide +kernel
theorem dW_ageOf_9 : decode (zby mW_ageOf) 9 = .ok (.goto 6, 3) := by decide +kernel
theorem dW_ageOf_12 : decode (zby mW_ageOf) 12 = .ok (.astore_n 3, 1) := by decide +kernel
theorem dW_ageOf_13 : decode (zby mW_ageOf) 13 = .ok (.iconst 1, 1) := by decide +kernel
theorem dW_ageOf_14 : decode (zby mW_ageOf) 14 = .ok (.ireturn, 1) := by decide +kernel
theorem dW_ageOf_15 : decode (zby mW_ageOf) 15 = .ok (.iconst 0, 1) := by decide +kernel
theorem dW_ageOf_16 : decode (zby mW_ageOf) 16 = .ok (.ireturn, 1) := by decide +kernel
theorem dW_append_0 : decode (zby mW_append) 0 = .ok (.aload_n 2, 1) := by decide +kernel
theorem dW_append_1 : decode (zby mW_append) 1 = .ok (.iconst 0, 1) := by decide +kernel
theorem dW_append_2 : decode (zby mW_append) 2 = .ok (.aload_n 0, 1) := by decide +kernel
theorem dW_append_3 : decode (zby mW_append) 3 = .ok (.iload_n 1, 1) := by decide +kernel
theorem dW_append_4 : decode (zby mW_append) 4 = .ok (.invokevirtual 154, 3) := by decide +kernel
theorem dW_append_7 : decode (zby mW_append) 7 = .ok (.i2l, 1) := by decide +kernel
theorem dW_append_8 : decode (zby mW_append) 8 = .ok (.lastore, 1) := by decide +kernel
theorem dW_append_9 : decode (zby mW_append) 9 = .ok (.goto 9, 3) := by decide +kernel
theorem dW_append_12 : decode (zby mW_append) 12 = .ok (.astore_n 3, 1) := by decide +kernel
theorem dW_append_13 : decode (zby mW_append) 13 = .ok (.iconst 1, 1) := by decide +kernel
theorem dW_append_14 : decode (zby mW_append) 14 = .ok (.ireturn, 1) := by decide +kernel
theorem dW_append_15 : decode (zby mW_append) 15 = .ok (.astore_n 3, 1) := by decide +kernel
theorem dW_append_16 : decode (zby mW_append) 16 = .ok (.iconst 2, 1) := by decide +kernel
theorem dW_append_17 : decode (zby mW_append) 17 = .ok (.ireturn, 1) := by decide +kernel
theorem dW_append_18 : decode (zby mW_append) 18 = .ok (.iconst 0, 1) := by decide +kernel
theorem dW_append_19 : decode (zby mW_append) 19 = .ok (.ireturn, 1) := by decide +kernel
theorem dW_codeAfter_0 : decode (zby mW_codeAfter) 0 = .ok (.aload_n 2, 1) := by decide +kernel
theorem dW_codeAfter_1 : decode (zby mW_codeAfter) 1 = .ok (.iconst 0, 1) := by decide +kernel
theorem dW_codeAfter_2 : decode (zby mW_codeAfter) 2 = .ok (.aload_n 0, 1) := by decide +kernel
theorem dW_codeAfter_3 : decode (zby mW_codeAfter) 3 = .ok (.iload_n 1, 1) := by decide +kernel
theorem dW_codeAfter_4 : decode (zby mW_codeAfter) 4 = .ok (.invokevirtual 113, 3) := by decide +kernel
theorem dW_codeAfter_7 : decode (zby mW_codeAfter) 7 = .ok (.i2l, 1) := by decide +kernel
theorem dW_codeAfter_8 : decode (zby mW_codeAfter) 8 = .ok (.lastore, 1) := by decide +kernel
theorem dW_codeAfter_9 : decode (zby mW_codeAfter) 9 = .ok (.goto 9, 3) := by decide +kernel
theorem dW_codeAfter_12 : decode (zby mW_codeAfter) 12 = .ok (.astore_n 3, 1) := by decide +kernel
theorem dW_codeAfter_13 : decode (zby mW_codeAfter) 13 = .ok (.iconst 1, 1) := by decide +kernel
theorem dW_codeAfter_14 : decode (zby mW_codeAfter) 14 = .ok (.ireturn, 1) := by decide +kernel
theorem dW_codeAfter_15 : decode (zby mW_codeAfter) 15 = .ok (.astore_n 3, 1) := by decide +kernel
theorem dW_codeAfter_16 : decode (zby mW_codeAfter) 16 = .ok (.iconst 2, 1) := by decide +kernel
theorem dW_codeAfter_17 : decode (zby mW_codeAfter) 17 = .ok (.ireturn, 1) := by decide +kernel
theorem dW_codeAfter_18 : decode (zby mW_codeAfter) 18 = .ok (.iconst 0, 1) := by decide +kernel
theorem dW_codeAfter_19 : decode (zby mW_codeAfter) 19 = .ok (.ireturn, 1) := by decide +kernel
theorem dW_codeAt_0 : decode (zby mW_codeAt) 0 = .ok (.aload_n 3, 1) := by decide +kernel
theorem dW_codeAt_1 : decode (zby mW_codeAt) 1 = .ok (.iconst 0, 1) := by decide +kernel
theorem dW_codeAt_2 : decode (zby mW_codeAt) 2 = .ok (.aload_n 0, 1) := by decide +kernel
theorem dW_codeAt_3 : decode (zby mW_codeAt) 3 = .ok (.iload_n 1, 1) := by decide +kernel
theorem dW_codeAt_4 : decode (zby mW_codeAt) 4 = .ok (.iload_n 2, 1) := by decide +kernel
theorem dW_codeAt_5 : decode (zby mW_codeAt) 5 = .ok (.invokevirtual 71, 3) := by decide +kernel
theorem dW_codeAt_8 : decode (zby mW_codeAt) 8 = .ok (.i2l, 1) := by decide +kernel
theorem dW_codeAt_9 : decode (zby mW_codeAt) 9 = .ok (.lastore, 1) := by decide +kernel
theorem dW_codeAt_10 : decode (zby mW_codeAt) 10 = .ok (.goto 11, 3) := by decide +kernel
theorem dW_codeAt_13 : decode (zby mW_codeAt) 13 = .ok (.astore 4, 2) := by decide +kernel
theorem dW_codeAt_15 : decode (zby mW_codeAt) 15 = .ok (.iconst 1, 1) := by decide +kernel
theorem dW_codeAt_16 : decode (zby mW_codeAt) 16 = .ok (.ireturn, 1) := by decide +kernel
theorem dW_codeAt_17 : decode (zby mW_codeAt) 17 = .ok (.astore 4, 2) := by decide +kernel
theorem dW_codeAt_19 : decode (zby mW_codeAt) 19 = .ok (.iconst 2, 1) := by decide +kernel
theorem dW_codeAt_20 : decode (zby mW_codeAt) 20 = .ok (.ireturn, 1) := by decide +kernel
theorem dW_codeAt_21 : decode (zby mW_codeAt) 21 = .ok (.iconst 0, 1) := by decide +kernel
theorem dW_codeAt_22 : decode (zby mW_codeAt) 22 = .ok (.ireturn, 1) := by decide +kernel
theorem dW_codeCount_0 : decode (zby mW_codeCount) 0 = .ok (.aload_n 2, 1) := by decide +kernel
theorem dW_codeCount_1 : decode (zby mW_codeCount) 1 = .ok (.iconst 0, 1) := by decide +kernel
theorem dW_codeCount_2 : decode (zby mW_codeCount) 2 = .ok (.aload_n 0, 1) := by decide +kernel
theorem dW_codeCount_3 : decode (zby mW_codeCount) 3 = .ok (.iload_n 1, 1) := by decide +kernel
theorem dW_codeCount_4 : decode (zby mW_codeCount) 4 = .ok (.invokevirtual 68, 3) := by decide +kernel
theorem dW_codeCount_7 : decode (zby mW_codeCount) 7 = .ok (.i2l, 1) := by decide +kernel
theorem dW_codeCount_8 : decode (zby mW_codeCount) 8 = .ok (.lastore, 1) := by decide +kernel
theorem dW_codeCount_9 : decode (zby mW_codeCount) 9 = .ok (.goto 6, 3) := by decide +kernel
theorem dW_codeCount_12 : decode (zby mW_codeCount) 12 = .ok (.astore_n 3, 1) := by decide +kernel
theorem dW_codeCount_13 : decode (zby mW_codeCount) 13 = .ok (.iconst 1, 1) := by decide +kernel
theorem dW_codeCount_14 : decode (zby mW_codeCount) 14 = .ok (.ireturn, 1) := by decide +kernel
theorem dW_codeCount_15 : decode (zby mW_codeCount) 15 = .ok (.iconst 0, 1) := by decide +kernel
theorem dW_codeCount_16 : decode (zby mW_codeCount) 16 = .ok (.ireturn, 1) := by decide +kernel
theorem dW_codesWith_0 : decode (zby mW_codesWith) 0 = .ok (.aload_n 3, 1) := by decide +kernel
theorem dW_codesWith_1 : decode (zby mW_codesWith) 1 = .ok (.iconst 0, 1) := by decide +kernel
theorem dW_codesWith_2 : decode (zby mW_codesWith) 2 = .ok (.aload_n 0, 1) := by decide +kernel
theorem dW_codesWith_3 : decode (zby mW_codesWith) 3 = .ok (.iload_n 1, 1) := by decide +kernel
theorem dW_codesWith_4 : decode (zby mW_codesWith) 4 = .ok (.iload_n 2, 1) := by decide +kernel
theorem dW_codesWith_5 : decode (zby mW_codesWith) 5 = .ok (.invokevirtual 98, 3) := by decide +kernel
theorem dW_codesWith_8 : decode (zby mW_codesWith) 8 = .ok (.i2l, 1) := by decide +kernel
theorem dW_codesWith_9 : decode (zby mW_codesWith) 9 = .ok (.lastore, 1) := by decide +kernel
theorem dW_codesWith_10 : decode (zby mW_codesWith) 10 = .ok (.goto 7, 3) := by decide +kernel
theorem dW_codesWith_13 : decode (zby mW_codesWith) 13 = .ok (.astore 4, 2) := by decide +kernel
theorem dW_codesWith_15 : decode (zby mW_codesWith) 15 = .ok (.iconst 1, 1) := by decide +kernel
theorem dW_codesWith_16 : decode (zby mW_codesWith) 16 = .ok (.ireturn, 1) := by decide +kernel
theorem dW_codesWith_17 : decode (zby mW_codesWith) 17 = .ok (.iconst 0, 1) := by decide +kernel
theorem dW_codesWith_18 : decode (zby mW_codesWith) 18 = .ok (.ireturn, 1) := by decide +kernel
theorem dW_commonestCode_0 : decode (zby mW_commonestCode) 0 = .ok (.aload_n 1, 1) := by decide +kernel
theorem dW_commonestCode_1 : decode (zby mW_commonestCode) 1 = .ok (.iconst 0, 1) := by decide +kernel
theorem dW_commonestCode_2 : decode (zby mW_commonestCode) 2 = .ok (.aload_n 0, 1) := by decide +kernel
theorem dW_commonestCode_3 : decode (zby mW_commonestCode) 3 = .ok (.invokevirtual 116, 3) := by decide +kernel
theorem dW_commonestCode_6 : decode (zby mW_commonestCode) 6 = .ok (.i2l, 1) := by decide +kernel
theorem dW_commonestCode_7 : decode (zby mW_commonestCode) 7 = .ok (.lastore, 1) := by decide +kernel
theorem dW_commonestCode_8 : decode (zby mW_commonestCode) 8 = .ok (.goto 6, 3) := by decide +kernel
theorem dW_commonestCode_11 : decode (zby mW_commonestCode) 11 = .ok (.astore_n 2, 1) := by decide +kernel
theorem dW_commonestCode_12 : decode (zby mW_commonestCode) 12 = .ok (.iconst 1, 1) := by decide +kernel
theorem dW_commonestCode_13 : decode (zby mW_commonestCode) 13 = .ok (.ireturn, 1) := by decide +kernel
theorem dW_commonestCode_14 : decode (zby mW_commonestCode) 14 = .ok (.iconst 0, 1) := by decide +kernel
theorem dW_commonestCode_15 : decode (zby mW_commonestCode) 15 = .ok (.ireturn, 1) := by decide +kernel
theorem dW_daysUntilFaded_0 : decode (zby mW_daysUntilFaded) 0 = .ok (.aload_n 2, 1) := by decide +kernel
theorem dW_daysUntilFaded_1 : decode (zby mW_daysUntilFaded) 1 = .ok (.iconst 0, 1) := by decide +kernel
theorem dW_daysUntilFaded_2 : decode (zby mW_daysUntilFaded) 2 = .ok (.aload_n 0, 1) := by decide +kernel
theorem dW_daysUntilFaded_3 : decode (zby mW_daysUntilFaded) 3 = .ok (.iload_n 1, 1) := by decide +kernel
theorem dW_daysUntilFaded_4 : decode (zby mW_daysUntilFaded) 4 = .ok (.invokevirtual 125, 3) := by decide +kernel
theorem dW_daysUntilFaded_7 : decode (zby mW_daysUntilFaded) 7 = .ok (.i2l, 1) := by decide +kernel
theorem dW_daysUntilFaded_8 : decode (zby mW_daysUntilFaded) 8 = .ok (.lastore, 1) := by decide +kernel
theorem dW_daysUntilFaded_9 : decode (zby mW_daysUntilFaded) 9 = .ok (.goto 6, 3) := by decide +kernel
theorem dW_daysUntilFaded_12 : decode (zby mW_daysUntilFaded) 12 = .ok (.astore_n 3, 1) := by decide +kernel
theorem dW_daysUntilFaded_13 : decode (zby mW_daysUntilFaded) 13 = .ok (.iconst 1, 1) := by decide +kernel
theorem dW_daysUntilFaded_14 : decode (zby mW_daysUntilFaded) 14 = .ok (.ireturn, 1) := by decide +kernel
theorem dW_daysUntilFaded_15 : decode (zby mW_daysUntilFaded) 15 = .ok (.iconst 0, 1) := by decide +kernel
theorem dW_daysUntilFaded_16 : decode (zby mW_daysUntilFaded) 16 = .ok (.ireturn, 1) := by decide +kernel
theorem dW_daysUntilFadedByDays_0 : decode (zby mW_daysUntilFadedByDays) 0 = .ok (.aload_n 2, 1) := by decide +kernel
theorem dW_daysUntilFadedByDays_1 : decode (zby mW_daysUntilFadedByDays) 1 = .ok (.iconst 0, 1) := by decide +kernel
theorem dW_daysUntilFadedByDays_2 : decode (zby mW_daysUntilFadedByDays) 2 = .ok (.aload_n 0, 1) := by decide +kernel
theorem dW_daysUntilFadedByDays_3 : decode (zby mW_daysUntilFadedByDays) 3 = .ok (.iload_n 1, 1) := by decide +kernel
theorem dW_daysUntilFadedByDays_4 : decode (zby mW_daysUntilFadedByDays) 4 = .ok (.invokevirtual 128, 3) := by decide +kernel
theorem dW_daysUntilFadedByDays_7 : decode (zby mW_daysUntilFadedByDays) 7 = .ok (.i2l, 1) := by decide +kernel
theorem dW_daysUntilFadedByDays_8 : decode (zby mW_daysUntilFadedByDays) 8 = .ok (.lastore, 1) := by decide +kernel
theorem dW_daysUntilFadedByDays_9 : decode (zby mW_daysUntilFadedByDays) 9 = .ok (.goto 6, 3) := by decide +kernel
theorem dW_daysUntilFadedByDays_12 : decode (zby mW_daysUntilFadedByDays) 12 = .ok (.astore_n 3, 1) := by decide +kernel
theorem dW_daysUntilFadedByDays_13 : decode (zby mW_daysUntilFadedByDays) 13 = .ok (.iconst 1, 1) := by decide +kernel
theorem dW_daysUntilFadedByDays_14 : decode (zby mW_daysUntilFadedByDays) 14 = .ok (.ireturn, 1) := by decide +kernel
theorem dW_daysUntilFadedByDays_15 : decode (zby mW_daysUntilFadedByDays) 15 = .ok (.iconst 0, 1) := by decide +kernel
theorem dW_daysUntilFadedByDays_16 : decode (zby mW_daysUntilFadedByDays) 16 = .ok (.ireturn, 1) := by decide +kernel
theorem dW_entriesIn_0 : decode (zby mW_entriesIn) 0 = .ok (.aload_n 2, 1) := by decide +kernel
theorem dW_entriesIn_1 : decode (zby mW_entriesIn) 1 = .ok (.iconst 0, 1) := by decide +kernel
theorem dW_entriesIn_2 : decode (zby mW_entriesIn) 2 = .ok (.aload_n 0, 1) := by decide +kernel
theorem dW_entriesIn_3 : decode (zby mW_entriesIn) 3 = .ok (.iload_n 1, 1) := by decide +kernel
theorem dW_entriesIn_4 : decode (zby mW_entriesIn) 4 = .ok (.invokevirtual 82, 3) := by decide +kernel
theorem dW_entriesIn_7 : decode (zby mW_entriesIn) 7 = .ok (.i2l, 1) := by decide +kernel
theorem dW_entriesIn_8 : decode (zby mW_entriesIn) 8 = .ok (.lastore, 1) := by decide +kernel
theorem dW_entriesIn_9 : decode (zby mW_entriesIn) 9 = .ok (.goto 6, 3) := by decide +kernel
theorem dW_entriesIn_12 : decode (zby mW_entriesIn) 12 = .ok (.astore_n 3, 1) := by decide +kernel
theorem dW_entriesIn_13 : decode (zby mW_entriesIn) 13 = .ok (.iconst 1, 1) := by decide +kernel
theorem dW_entriesIn_14 : decode (zby mW_entriesIn) 14 = .ok (.ireturn, 1) := by decide +kernel
theorem dW_entriesIn_15 : decode (zby mW_entriesIn) 15 = .ok (.iconst 0, 1) := by decide +kernel
theorem dW_entriesIn_16 : decode (zby mW_entriesIn) 16 = .ok (.ireturn, 1) := by decide +kernel
theorem dW_entriesWith_0 : decode (zby mW_entriesWith) 0 = .ok (.aload_n 2, 1) := by decide +kernel
theorem dW_entriesWith_1 : decode (zby mW_entriesWith) 1 = .ok (.iconst 0, 1) := by decide +kernel
theorem dW_entriesWith_2 : decode (zby mW_entriesWith) 2 = .ok (.aload_n 0, 1) := by decide +kernel
theorem dW_entriesWith_3 : decode (zby mW_entriesWith) 3 = .ok (.iload_n 1, 1) := by decide +kernel
theorem dW_entriesWith_4 : decode (zby mW_entriesWith) 4 = .ok (.invokevirtual 110, 3) := by decide +kernel
theorem dW_entriesWith_7 : decode (zby mW_entriesWith) 7 = .ok (.i2l, 1) := by decide +kernel
theorem dW_entriesWith_8 : decode (zby mW_entriesWith) 8 = .ok (.lastore, 1) := by decide +kernel
theorem dW_entriesWith_9 : decode (zby mW_entriesWith) 9 = .ok (.goto 6, 3) := by decide +kernel
theorem dW_entriesWith_12 : decode (zby mW_entriesWith) 12 = .ok (.astore_n 3, 1) := by decide +kernel
theorem dW_entriesWith_13 : decode (zby mW_entriesWith) 13 = .ok (.iconst 1, 1) := by decide +kernel
theorem dW_entriesWith_14 : decode (zby mW_entriesWith) 14 = .ok (.ireturn, 1) := by decide +kernel
theorem dW_entriesWith_15 : decode (zby mW_entriesWith) 15 = .ok (.iconst 0, 1) := by decide +kernel
theorem dW_entriesWith_16 : decode (zby mW_entriesWith) 16 = .ok (.ireturn, 1) := by decide +kernel
theorem dW_errorPosition_0 : decode (zby mW_errorPosition) 0 = .ok (.aload_n 1, 1) := by decide +kernel
theorem dW_errorPosition_1 : decode (zby mW_errorPosition) 1 = .ok (.iconst 0, 1) := by decide +kernel
theorem dW_errorPosition_2 : decode (zby mW_errorPosition) 2 = .ok (.aload_n 0, 1) := by decide +kernel
theorem dW_errorPosition_3 : decode (zby mW_errorPosition) 3 = .ok (.invokevirtual 161, 3) := by decide +kernel
theorem dW_errorPosition_6 : decode (zby mW_errorPosition) 6 = .ok (.i2l, 1) := by decide +kernel
theorem dW_errorPosition_7 : decode (zby mW_errorPosition) 7 = .ok (.lastore, 1) := by decide +kernel
theorem dW_errorPosition_8 : decode (zby mW_errorPosition) 8 = .ok (.goto 6, 3) := by decide +kernel
theorem dW_errorPosition_11 : decode (zby mW_errorPosition) 11 = .ok (.astore_n 2, 1) := by decide +kernel
theorem dW_errorPosition_12 : decode (zby mW_errorPosition) 12 = .ok (.iconst 1, 1) := by decide +kernel
theorem dW_errorPosition_13 : decode (zby mW_errorPosition) 13 = .ok (.ireturn, 1) := by decide +kernel
theorem dW_errorPosition_14 : decode (zby mW_errorPosition) 14 = .ok (.iconst 0, 1) := by decide +kernel
theorem dW_errorPosition_15 : decode (zby mW_errorPosition) 15 = .ok (.ireturn, 1) := by decide +kernel
theorem dW_fadedShare_0 : decode (zby mW_fadedShare) 0 = .ok (.aload_n 1, 1) := by decide +kernel
theorem dW_fadedShare_1 : decode (zby mW_fadedShare) 1 = .ok (.iconst 0, 1) := by decide +kernel
theorem dW_fadedShare_2 : decode (zby mW_fadedShare) 2 = .ok (.aload_n 0, 1) := by decide +kernel
theorem dW_fadedShare_3 : decode (zby mW_fadedShare) 3 = .ok (.invokevirtual 140, 3) := by decide +kernel
theorem dW_fadedShare_6 : decode (zby mW_fadedShare) 6 = .ok (.f2d, 1) := by decide +kernel
theorem dW_fadedShare_7 : decode (zby mW_fadedShare) 7 = .ok (.dastore, 1) := by decide +kernel
theorem dW_fadedShare_8 : decode (zby mW_fadedShare) 8 = .ok (.goto 6, 3) := by decide +kernel
theorem dW_fadedShare_11 : decode (zby mW_fadedShare) 11 = .ok (.astore_n 2, 1) := by decide +kernel
theorem dW_fadedShare_12 : decode (zby mW_fadedShare) 12 = .ok (.iconst 1, 1) := by decide +kernel
theorem dW_fadedShare_13 : decode (zby mW_fadedShare) 13 = .ok (.ireturn, 1) := by decide +kernel
theorem dW_fadedShare_14 : decode (zby mW_fadedShare) 14 = .ok (.iconst 0, 1) := by decide +kernel
theorem dW_fadedShare_15 : decode (zby mW_fadedShare) 15 = .ok (.ireturn, 1) := by decide +kernel
theorem dW_fadingWithin_0 : decode (zby mW_fadingWithin) 0 = .ok (.aload_n 2, 1) := by decide +kernel
theorem dW_fadingWithin_1 : decode (zby mW_fadingWithin) 1 = .ok (.iconst 0, 1) := by decide +kernel
theorem dW_fadingWithin_2 : decode (zby mW_fadingWithin) 2 = .ok (.aload_n 0, 1) := by decide +kernel
theorem dW_fadingWithin_3 : decode (zby mW_fadingWithin) 3 = .ok (.iload_n 1, 1) := by decide +kernel
theorem dW_fadingWithin_4 : decode (zby mW_fadingWithin) 4 = .ok (.invokevirtual 131, 3) := by decide +kernel
theorem dW_fadingWithin_7 : decode (zby mW_fadingWithin) 7 = .ok (.i2l, 1) := by decide +kernel
theorem dW_fadingWithin_8 : decode (zby mW_fadingWithin) 8 = .ok (.lastore, 1) := by decide +kernel
theorem dW_fadingWithin_9 : decode (zby mW_fadingWithin) 9 = .ok (.goto 6, 3) := by decide +kernel
theorem dW_fadingWithin_12 : decode (zby mW_fadingWithin) 12 = .ok (.astore_n 3, 1) := by decide +kernel
theorem dW_fadingWithin_13 : decode (zby mW_fadingWithin) 13 = .ok (.iconst 1, 1) := by decide +kernel
theorem dW_fadingWithin_14 : decode (zby mW_fadingWithin) 14 = .ok (.ireturn, 1) := by decide +kernel
theorem dW_fadingWithin_15 : decode (zby mW_fadingWithin) 15 = .ok (.iconst 0, 1) := by decide +kernel
theorem dW_fadingWithin_16 : decode (zby mW_fadingWithin) 16 = .ok (.ireturn, 1) := by decide +kernel
theorem dW_failedCommand_0 : decode (zby mW_failedCommand) 0 = .ok (.aload_n 1, 1) := by decide +kernel
theorem dW_failedCommand_1 : decode (zby mW_failedCommand) 1 = .ok (.iconst 0, 1) := by decide +kernel
theorem dW_failedCommand_2 : decode (zby mW_failedCommand) 2 = .ok (.aload_n 0, 1) := by decide +kernel
theorem dW_failedCommand_3 : decode (zby mW_failedCommand) 3 = .ok (.invokevirtual 164, 3) := by decide +kernel
theorem dW_failedCommand_6 : decode (zby mW_failedCommand) 6 = .ok (.i2l, 1) := by decide +kernel
theorem dW_failedCommand_7 : decode (zby mW_failedCommand) 7 = .ok (.lastore, 1) := by decide +kernel
theorem dW_failedCommand_8 : decode (zby mW_failedCommand) 8 = .ok (.goto 6, 3) := by decide +kernel
theorem dW_failedCommand_11 : decode (zby mW_failedCommand) 11 = .ok (.astore_n 2, 1) := by decide +kernel
theorem dW_failedCommand_12 : decode (zby mW_failedCommand) 12 = .ok (.iconst 1, 1) := by decide +kernel
theorem dW_failedCommand_13 : decode (zby mW_failedCommand) 13 = .ok (.ireturn, 1) := by decide +kernel
theorem dW_failedCommand_14 : decode (zby mW_failedCommand) 14 = .ok (.iconst 0, 1) := by decide +kernel
theorem dW_failedCommand_15 : decode (zby mW_failedCommand) 15 = .ok (.ireturn, 1) := by decide +kernel
theorem dW_formatEntry_0 : decode (zby mW_formatEntry) 0 = .ok (.aload_n 2, 1) := by decide +kernel
theorem dW_formatEntry_1 : decode (zby mW_formatEntry) 1 = .ok (.iconst 0, 1) := by decide +kernel
theorem dW_formatEntry_2 : decode (zby mW_formatEntry) 2 = .ok (.aload_n 0, 1) := by decide +kernel
theorem dW_formatEntry_3 : decode (zby mW_formatEntry) 3 = .ok (.iload_n 1, 1) := by decide +kernel
theorem dW_formatEntry_4 : decode (zby mW_formatEntry) 4 = .ok (.invokevirtual 144, 3) := by decide +kernel
theorem dW_formatEntry_7 : decode (zby mW_formatEntry) 7 = .ok (.i2l, 1) := by decide +kernel
theorem dW_formatEntry_8 : decode (zby mW_formatEntry) 8 = .ok (.lastore, 1) := by decide +kernel
theorem dW_formatEntry_9 : decode (zby mW_formatEntry) 9 = .ok (.goto 6, 3) := by decide +kernel
theorem dW_formatEntry_12 : decode (zby mW_formatEntry) 12 = .ok (.astore_n 3, 1) := by decide +kernel
theorem dW_formatEntry_13 : decode (zby mW_formatEntry) 13 = .ok (.iconst 1, 1) := by decide +kernel
theorem dW_formatEntry_14 : decode (zby mW_formatEntry) 14 = .ok (.ireturn, 1) := by decide +kernel
theorem dW_formatEntry_15 : decode (zby mW_formatEntry) 15 = .ok (.iconst 0, 1) := by decide +kernel
theorem dW_formatEntry_16 : decode (zby mW_formatEntry) 16 = .ok (.ireturn, 1) := by decide +kernel
theorem dW_formatResults_0 : decode (zby mW_formatResults) 0 = .ok (.aload_n 3, 1) := by decide +kernel
theorem dW_formatResults_1 : decode (zby mW_formatResults) 1 = .ok (.iconst 0, 1) := by decide +kernel
theorem dW_formatResults_2 : decode (zby mW_formatResults) 2 = .ok (.aload_n 0, 1) := by decide +kernel
theorem dW_formatResults_3 : decode (zby mW_formatResults) 3 = .ok (.iload_n 1, 1) := by decide +kernel
theorem dW_formatResults_4 : decode (zby mW_formatResults) 4 = .ok (.iload_n 2, 1) := by decide +kernel
theorem dW_formatResults_5 : decode (zby mW_formatResults) 5 = .ok (.invokevirtual 147, 3) := by decide +kernel
theorem dW_formatResults_8 : decode (zby mW_formatResults) 8 = .ok (.i2l, 1) := by decide +kernel
theorem dW_formatResults_9 : decode (zby mW_formatResults) 9 = .ok (.lastore, 1) := by decide +kernel
theorem dW_formatResults_10 : decode (zby mW_formatResults) 10 = .ok (.goto 7, 3) := by decide +kernel
theorem dW_formatResults_13 : decode (zby mW_formatResults) 13 = .ok (.astore 4, 2) := by decide +kernel
theorem dW_formatResults_15 : decode (zby mW_formatResults) 15 = .ok (.iconst 1, 1) := by decide +kernel
theorem dW_formatResults_16 : decode (zby mW_formatResults) 16 = .ok (.ireturn, 1) := by decide +kernel
theorem dW_formatResults_17 : decode (zby mW_formatResults) 17 = .ok (.iconst 0, 1) := by decide +kernel
theorem dW_formatResults_18 : decode (zby mW_formatResults) 18 = .ok (.ireturn, 1) := by decide +kernel
theorem dW_hasCode_0 : decode (zby mW_hasCode) 0 = .ok (.aload_n 3, 1) := by decide +kernel
theorem dW_hasCode_1 : decode (zby mW_hasCode) 1 = .ok (.iconst 0, 1) := by decide +kernel
theorem dW_hasCode_2 : decode (zby mW_hasCode) 2 = .ok (.aload_n 0, 1) := by decide +kernel
theorem dW_hasCode_3 : decode (zby mW_hasCode) 3 = .ok (.iload_n 1, 1) := by decide +kernel
theorem dW_hasCode_4 : decode (zby mW_hasCode) 4 = .ok (.iload_n 2, 1) := by decide +kernel
theorem dW_hasCode_5 : decode (zby mW_hasCode) 5 = .ok (.invokevirtual 74, 3) := by decide +kernel
theorem dW_hasCode_8 : decode (zby mW_hasCode) 8 = .ok (.ifCond .eq 7, 3) := by decide +kernel
theorem dW_hasCode_11 : decode (zby mW_hasCode) 11 = .ok (.lconst 1, 1) := by decide +kernel
theorem dW_hasCode_12 : decode (zby mW_hasCode) 12 = .ok (.goto 4, 3) := by decide +kernel
theorem dW_hasCode_15 : decode (zby mW_hasCode) 15 = .ok (.lconst 0, 1) := by decide +kernel
theorem dW_hasCode_16 : decode (zby mW_hasCode) 16 = .ok (.lastore, 1) := by decide +kernel
theorem dW_hasCode_17 : decode (zby mW_hasCode) 17 = .ok (.goto 11, 3) := by decide +kernel
theorem dW_hasCode_20 : decode (zby mW_hasCode) 20 = .ok (.astore 4, 2) := by decide +kernel
theorem dW_hasCode_22 : decode (zby mW_hasCode) 22 = .ok (.iconst 1, 1) := by decide +kernel
theorem dW_hasCode_23 : decode (zby mW_hasCode) 23 = .ok (.ireturn, 1) := by decide +kernel
theorem dW_hasCode_24 : decode (zby mW_hasCode) 24 = .ok (.astore 4, 2) := by decide +kernel
theorem dW_hasCode_26 : decode (zby mW_hasCode) 26 = .ok (.iconst 2, 1) := by decide +kernel
theorem dW_hasCode_27 : decode (zby mW_hasCode) 27 = .ok (.ireturn, 1) := by decide +kernel
theorem dW_hasCode_28 : decode (zby mW_hasCode) 28 = .ok (.iconst 0, 1) := by decide +kernel
theorem dW_hasCode_29 : decode (zby mW_hasCode) 29 = .ok (.ireturn, 1) := by decide +kernel
theorem dW_hitsOf_0 : decode (zby mW_hitsOf) 0 = .ok (.aload_n 2, 1) := by decide +kernel
theorem dW_hitsOf_1 : decode (zby mW_hitsOf) 1 = .ok (.iconst 0, 1) := by decide +kernel
theorem dW_hitsOf_2 : decode (zby mW_hitsOf) 2 = .ok (.aload_n 0, 1) := by decide +kernel
theorem dW_hitsOf_3 : decode (zby mW_hitsOf) 3 = .ok (.iload_n 1, 1) := by decide +kernel
theorem dW_hitsOf_4 : decode (zby mW_hitsOf) 4 = .ok (.invokevirtual 59, 3) := by decide +kernel
theorem dW_hitsOf_7 : decode (zby mW_hitsOf) 7 = .ok (.i2l, 1) := by decide +kernel
theorem dW_hitsOf_8 : decode (zby mW_hitsOf) 8 = .ok (.lastore, 1) := by decide +kernel
theorem dW_hitsOf_9 : decode (zby mW_hitsOf) 9 = .ok (.goto 6, 3) := by decide +kernel
theorem dW_hitsOf_12 : decode (zby mW_hitsOf) 12 = .ok (.astore_n 3, 1) := by decide +kernel
theorem dW_hitsOf_13 : decode (zby mW_hitsOf) 13 = .ok (.iconst 1, 1) := by decide +kernel
theorem dW_hitsOf_14 : decode (zby mW_hitsOf) 14 = .ok (.ireturn, 1) := by decide +kernel
theorem dW_hitsOf_15 : decode (zby mW_hitsOf) 15 = .ok (.iconst 0, 1) := by decide +kernel
theorem dW_hitsOf_16 : decode (zby mW_hitsOf) 16 = .ok (.ireturn, 1) := by decide +kernel
theorem dW_idAt_0 : decode (zby mW_idAt) 0 = .ok (.aload_n 2, 1) := by decide +kernel
theorem dW_idAt_1 : decode (zby mW_idAt) 1 = .ok (.iconst 0, 1) := by decide +kernel
theorem dW_idAt_2 : decode (zby mW_idAt) 2 = .ok (.aload_n 0, 1) := by decide +kernel
theorem dW_idAt_3 : decode (zby mW_idAt) 3 = .ok (.iload_n 1, 1) := by decide +kernel
theorem dW_idAt_4 : decode (zby mW_idAt) 4 = .ok (.invokevirtual 50, 3) := by decide +kernel
theorem dW_idAt_7 : decode (zby mW_idAt) 7 = .ok (.i2l, 1) := by decide +kernel
theorem dW_idAt_8 : decode (zby mW_idAt) 8 = .ok (.lastore, 1) := by decide +kernel
theorem dW_idAt_9 : decode (zby mW_idAt) 9 = .ok (.goto 6, 3) := by decide +kernel
theorem dW_idAt_12 : decode (zby mW_idAt) 12 = .ok (.astore_n 3, 1) := by decide +kernel
theorem dW_idAt_13 : decode (zby mW_idAt) 13 = .ok (.iconst 1, 1) := by decide +kernel
theorem dW_idAt_14 : decode (zby mW_idAt) 14 = .ok (.ireturn, 1) := by decide +kernel
theorem dW_idAt_15 : decode (zby mW_idAt) 15 = .ok (.iconst 0, 1) := by decide +kernel
theorem dW_idAt_16 : decode (zby mW_idAt) 16 = .ok (.ireturn, 1) := by decide +kernel
theorem dW_joinSegments_0 : decode (zby mW_joinSegments) 0 = .ok (.aload_n 2, 1) := by decide +kernel
theorem dW_joinSegments_1 : decode (zby mW_joinSegments) 1 = .ok (.iconst 0, 1) := by decide +kernel
theorem dW_joinSegments_2 : decode (zby mW_joinSegments) 2 = .ok (.aload_n 0, 1) := by decide +kernel
theorem dW_joinSegments_3 : decode (zby mW_joinSegments) 3 = .ok (.iload_n 1, 1) := by decide +kernel
theorem dW_joinSegments_4 : decode (zby mW_joinSegments) 4 = .ok (.invokevirtual 39, 3) := by decide +kernel
theorem dW_joinSegments_7 : decode (zby mW_joinSegments) 7 = .ok (.i2l, 1) := by decide +kernel
theorem dW_joinSegments_8 : decode (zby mW_joinSegments) 8 = .ok (.lastore, 1) := by decide +kernel
theorem dW_joinSegments_9 : decode (zby mW_joinSegments) 9 = .ok (.goto 9, 3) := by decide +kernel
theorem dW_joinSegments_12 : decode (zby mW_joinSegments) 12 = .ok (.astore_n 3, 1) := by decide +kernel
theorem dW_joinSegments_13 : decode (zby mW_joinSegments) 13 = .ok (.iconst 1, 1) := by decide +kernel
theorem dW_joinSegments_14 : decode (zby mW_joinSegments) 14 = .ok (.ireturn, 1) := by decide +kernel
theorem dW_joinSegments_15 : decode (zby mW_joinSegments) 15 = .ok (.astore_n 3, 1) := by decide +kernel
theorem dW_joinSegments_16 : decode (zby mW_joinSegments) 16 = .ok (.iconst 2, 1) := by decide +kernel
theorem dW_joinSegments_17 : decode (zby mW_joinSegments) 17 = .ok (.ireturn, 1) := by decide +kernel
theorem dW_joinSegments_18 : decode (zby mW_joinSegments) 18 = .ok (.iconst 0, 1) := by decide +kernel
theorem dW_joinSegments_19 : decode (zby mW_joinSegments) 19 = .ok (.ireturn, 1) := by decide +kernel
theorem dW_lifetimeOf_0 : decode (zby mW_lifetimeOf) 0 = .ok (.aload_n 2, 1) := by decide +kernel
theorem dW_lifetimeOf_1 : decode (zby mW_lifetimeOf) 1 = .ok (.iconst 0, 1) := by decide +kernel
theorem dW_lifetimeOf_2 : decode (zby mW_lifetimeOf) 2 = .ok (.aload_n 0, 1) := by decide +kernel
theorem dW_lifetimeOf_3 : decode (zby mW_lifetimeOf) 3 = .ok (.iload_n 1, 1) := by decide +kernel
theorem dW_lifetimeOf_4 : decode (zby mW_lifetimeOf) 4 = .ok (.invokevirtual 62, 3) := by decide +kernel
theorem dW_lifetimeOf_7 : decode (zby mW_lifetimeOf) 7 = .ok (.i2l, 1) := by decide +kernel
theorem dW_lifetimeOf_8 : decode (zby mW_lifetimeOf) 8 = .ok (.lastore, 1) := by decide +kernel
theorem dW_lifetimeOf_9 : decode (zby mW_lifetimeOf) 9 = .ok (.goto 6, 3) := by decide +kernel
theorem dW_lifetimeOf_12 : decode (zby mW_lifetimeOf) 12 = .ok (.astore_n 3, 1) := by decide +kernel
theorem dW_lifetimeOf_13 : decode (zby mW_lifetimeOf) 13 = .ok (.iconst 1, 1) := by decide +kernel
theorem dW_lifetimeOf_14 : decode (zby mW_lifetimeOf) 14 = .ok (.ireturn, 1) := by decide +kernel
theorem dW_lifetimeOf_15 : decode (zby mW_lifetimeOf) 15 = .ok (.iconst 0, 1) := by decide +kernel
theorem dW_lifetimeOf_16 : decode (zby mW_lifetimeOf) 16 = .ok (.ireturn, 1) := by decide +kernel
theorem dW_lineChar_0 : decode (zby mW_lineChar) 0 = .ok (.aload_n 2, 1) := by decide +kernel
theorem dW_lineChar_1 : decode (zby mW_lineChar) 1 = .ok (.iconst 0, 1) := by decide +kernel
theorem dW_lineChar_2 : decode (zby mW_lineChar) 2 = .ok (.aload_n 0, 1) := by decide +kernel
theorem dW_lineChar_3 : decode (zby mW_lineChar) 3 = .ok (.iload_n 1, 1) := by decide +kernel
theorem dW_lineChar_4 : decode (zby mW_lineChar) 4 = .ok (.invokevirtual 150, 3) := by decide +kernel
theorem dW_lineChar_7 : decode (zby mW_lineChar) 7 = .ok (.i2l, 1) := by decide +kernel
theorem dW_lineChar_8 : decode (zby mW_lineChar) 8 = .ok (.lastore, 1) := by decide +kernel
theorem dW_lineChar_9 : decode (zby mW_lineChar) 9 = .ok (.goto 6, 3) := by decide +kernel
theorem dW_lineChar_12 : decode (zby mW_lineChar) 12 = .ok (.astore_n 3, 1) := by decide +kernel
theorem dW_lineChar_13 : decode (zby mW_lineChar) 13 = .ok (.iconst 1, 1) := by decide +kernel
theorem dW_lineChar_14 : decode (zby mW_lineChar) 14 = .ok (.ireturn, 1) := by decide +kernel
theorem dW_lineChar_15 : decode (zby mW_lineChar) 15 = .ok (.iconst 0, 1) := by decide +kernel
theorem dW_lineChar_16 : decode (zby mW_lineChar) 16 = .ok (.ireturn, 1) := by decide +kernel
theorem dW_matches_0 : decode (zby mW_matches) 0 = .ok (.aload 4, 2) := by decide +kernel
theorem dW_matches_2 : decode (zby mW_matches) 2 = .ok (.iconst 0, 1) := by decide +kernel
theorem dW_matches_3 : decode (zby mW_matches) 3 = .ok (.aload_n 0, 1) := by decide +kernel
theorem dW_matches_4 : decode (zby mW_matches) 4 = .ok (.iload_n 1, 1) := by decide +kernel
theorem dW_matches_5 : decode (zby mW_matches) 5 = .ok (.iload_n 2, 1) := by decide +kernel
theorem dW_matches_6 : decode (zby mW_matches) 6 = .ok (.iload_n 3, 1) := by decide +kernel
theorem dW_matches_7 : decode (zby mW_matches) 7 = .ok (.invokevirtual 78, 3) := by decide +kernel
theorem dW_matches_10 : decode (zby mW_matches) 10 = .ok (.ifCond .eq 7, 3) := by decide +kernel
theorem dW_matches_13 : decode (zby mW_matches) 13 = .ok (.lconst 1, 1) := by decide +kernel
theorem dW_matches_14 : decode (zby mW_matches) 14 = .ok (.goto 4, 3) := by decide +kernel
theorem dW_matches_17 : decode (zby mW_matches) 17 = .ok (.lconst 0, 1) := by decide +kernel
theorem dW_matches_18 : decode (zby mW_matches) 18 = .ok (.lastore, 1) := by decide +kernel
theorem dW_matches_19 : decode (zby mW_matches) 19 = .ok (.goto 11, 3) := by decide +kernel
theorem dW_matches_22 : decode (zby mW_matches) 22 = .ok (.astore 5, 2) := by decide +kernel
theorem dW_matches_24 : decode (zby mW_matches) 24 = .ok (.iconst 1, 1) := by decide +kernel
theorem dW_matches_25 : decode (zby mW_matches) 25 = .ok (.ireturn, 1) := by decide +kernel
theorem dW_matches_26 : decode (zby mW_matches) 26 = .ok (.astore 5, 2) := by decide +kernel
theorem dW_matches_28 : decode (zby mW_matches) 28 = .ok (.iconst 2, 1) := by decide +kernel
theorem dW_matches_29 : decode (zby mW_matches) 29 = .ok (.ireturn, 1) := by decide +kernel
theorem dW_matches_30 : decode (zby mW_matches) 30 = .ok (.iconst 0, 1) := by decide +kernel
theorem dW_matches_31 : decode (zby mW_matches) 31 = .ok (.ireturn, 1) := by decide +kernel
theorem dW_meanCodes_0 : decode (zby mW_meanCodes) 0 = .ok (.aload_n 1, 1) := by decide +kernel
theorem dW_meanCodes_1 : decode (zby mW_meanCodes) 1 = .ok (.iconst 0, 1) := by decide +kernel
theorem dW_meanCodes_2 : decode (zby mW_meanCodes) 2 = .ok (.aload_n 0, 1) := by decide +kernel
theorem dW_meanCodes_3 : decode (zby mW_meanCodes) 3 = .ok (.invokevirtual 134, 3) := by decide +kernel
theorem dW_meanCodes_6 : decode (zby mW_meanCodes) 6 = .ok (.dastore, 1) := by decide +kernel
theorem dW_meanCodes_7 : decode (zby mW_meanCodes) 7 = .ok (.goto 6, 3) := by decide +kernel
theorem dW_meanCodes_10 : decode (zby mW_meanCodes) 10 = .ok (.astore_n 2, 1) := by decide +kernel
theorem dW_meanCodes_11 : decode (zby mW_meanCodes) 11 = .ok (.iconst 1, 1) := by decide +kernel
theorem dW_meanCodes_12 : decode (zby mW_meanCodes) 12 = .ok (.ireturn, 1) := by decide +kernel
theorem dW_meanCodes_13 : decode (zby mW_meanCodes) 13 = .ok (.iconst 0, 1) := by decide +kernel
theorem dW_meanCodes_14 : decode (zby mW_meanCodes) 14 = .ok (.ireturn, 1) := by decide +kernel
theorem dW_merge_0 : decode (zby mW_merge) 0 = .ok (.aload_n 3, 1) := by decide +kernel
theorem dW_merge_1 : decode (zby mW_merge) 1 = .ok (.iconst 0, 1) := by decide +kernel
theorem dW_merge_2 : decode (zby mW_merge) 2 = .ok (.aload_n 0, 1) := by decide +kernel
theorem dW_merge_3 : decode (zby mW_merge) 3 = .ok (.iload_n 1, 1) := by decide +kernel
theorem dW_merge_4 : decode (zby mW_merge) 4 = .ok (.iload_n 2, 1) := by decide +kernel
theorem dW_merge_5 : decode (zby mW_merge) 5 = .ok (.invokevirtual 32, 3) := by decide +kernel
theorem dW_merge_8 : decode (zby mW_merge) 8 = .ok (.i2l, 1) := by decide +kernel
theorem dW_merge_9 : decode (zby mW_merge) 9 = .ok (.lastore, 1) := by decide +kernel
theorem dW_merge_10 : decode (zby mW_merge) 10 = .ok (.goto 15, 3) := by decide +kernel
theorem dW_merge_13 : decode (zby mW_merge) 13 = .ok (.astore 4, 2) := by decide +kernel
theorem dW_merge_15 : decode (zby mW_merge) 15 = .ok (.iconst 1, 1) := by decide +kernel
theorem dW_merge_16 : decode (zby mW_merge) 16 = .ok (.ireturn, 1) := by decide +kernel
theorem dW_merge_17 : decode (zby mW_merge) 17 = .ok (.astore 4, 2) := by decide +kernel
theorem dW_merge_19 : decode (zby mW_merge) 19 = .ok (.iconst 2, 1) := by decide +kernel
theorem dW_merge_20 : decode (zby mW_merge) 20 = .ok (.ireturn, 1) := by decide +kernel
theorem dW_merge_21 : decode (zby mW_merge) 21 = .ok (.astore 4, 2) := by decide +kernel
theorem dW_merge_23 : decode (zby mW_merge) 23 = .ok (.iconst 3, 1) := by decide +kernel
theorem dW_merge_24 : decode (zby mW_merge) 24 = .ok (.ireturn, 1) := by decide +kernel
theorem dW_merge_25 : decode (zby mW_merge) 25 = .ok (.iconst 0, 1) := by decide +kernel
theorem dW_merge_26 : decode (zby mW_merge) 26 = .ok (.ireturn, 1) := by decide +kernel
theorem dW_mostSimilar_0 : decode (zby mW_mostSimilar) 0 = .ok (.aload_n 2, 1) := by decide +kernel
theorem dW_mostSimilar_1 : decode (zby mW_mostSimilar) 1 = .ok (.iconst 0, 1) := by decide +kernel
theorem dW_mostSimilar_2 : decode (zby mW_mostSimilar) 2 = .ok (.aload_n 0, 1) := by decide +kernel
theorem dW_mostSimilar_3 : decode (zby mW_mostSimilar) 3 = .ok (.iload_n 1, 1) := by decide +kernel
theorem dW_mostSimilar_4 : decode (zby mW_mostSimilar) 4 = .ok (.invokevirtual 122, 3) := by decide +kernel
theorem dW_mostSimilar_7 : decode (zby mW_mostSimilar) 7 = .ok (.i2l, 1) := by decide +kernel
theorem dW_mostSimilar_8 : decode (zby mW_mostSimilar) 8 = .ok (.lastore, 1) := by decide +kernel
theorem dW_mostSimilar_9 : decode (zby mW_mostSimilar) 9 = .ok (.goto 6, 3) := by decide +kernel
theorem dW_mostSimilar_12 : decode (zby mW_mostSimilar) 12 = .ok (.astore_n 3, 1) := by decide +kernel
theorem dW_mostSimilar_13 : decode (zby mW_mostSimilar) 13 = .ok (.iconst 1, 1) := by decide +kernel
theorem dW_mostSimilar_14 : decode (zby mW_mostSimilar) 14 = .ok (.ireturn, 1) := by decide +kernel
theorem dW_mostSimilar_15 : decode (zby mW_mostSimilar) 15 = .ok (.iconst 0, 1) := by decide +kernel
theorem dW_mostSimilar_16 : decode (zby mW_mostSimilar) 16 = .ok (.ireturn, 1) := by decide +kernel
theorem dW_nextDigits_0 : decode (zby mW_nextDigits) 0 = .ok (.aload_n 3, 1) := by decide +kernel
theorem dW_nextDigits_1 : decode (zby mW_nextDigits) 1 = .ok (.iconst 0, 1) := by decide +kernel
theorem dW_nextDigits_2 : decode (zby mW_nextDigits) 2 = .ok (.aload_n 0, 1) := by decide +kernel
theorem dW_nextDigits_3 : decode (zby mW_nextDigits) 3 = .ok (.iload_n 1, 1) := by decide +kernel
theorem dW_nextDigits_4 : decode (zby mW_nextDigits) 4 = .ok (.iload_n 2, 1) := by decide +kernel
theorem dW_nextDigits_5 : decode (zby mW_nextDigits) 5 = .ok (.invokevirtual 101, 3) := by decide +kernel
theorem dW_nextDigits_8 : decode (zby mW_nextDigits) 8 = .ok (.i2l, 1) := by decide +kernel
theorem dW_nextDigits_9 : decode (zby mW_nextDigits) 9 = .ok (.lastore, 1) := by decide +kernel
theorem dW_nextDigits_10 : decode (zby mW_nextDigits) 10 = .ok (.goto 7, 3) := by decide +kernel
theorem dW_nextDigits_13 : decode (zby mW_nextDigits) 13 = .ok (.astore 4, 2) := by decide +kernel
theorem dW_nextDigits_15 : decode (zby mW_nextDigits) 15 = .ok (.iconst 1, 1) := by decide +kernel
theorem dW_nextDigits_16 : decode (zby mW_nextDigits) 16 = .ok (.ireturn, 1) := by decide +kernel
theorem dW_nextDigits_17 : decode (zby mW_nextDigits) 17 = .ok (.iconst 0, 1) := by decide +kernel
theorem dW_nextDigits_18 : decode (zby mW_nextDigits) 18 = .ok (.ireturn, 1) := by decide +kernel
theorem dW_pass_0 : decode (zby mW_pass) 0 = .ok (.aload_n 2, 1) := by decide +kernel
theorem dW_pass_1 : decode (zby mW_pass) 1 = .ok (.iconst 0, 1) := by decide +kernel
theorem dW_pass_2 : decode (zby mW_pass) 2 = .ok (.aload_n 0, 1) := by decide +kernel
theorem dW_pass_3 : decode (zby mW_pass) 3 = .ok (.iload_n 1, 1) := by decide +kernel
theorem dW_pass_4 : decode (zby mW_pass) 4 = .ok (.invokevirtual 47, 3) := by decide +kernel
theorem dW_pass_7 : decode (zby mW_pass) 7 = .ok (.i2l, 1) := by decide +kernel
theorem dW_pass_8 : decode (zby mW_pass) 8 = .ok (.lastore, 1) := by decide +kernel
theorem dW_pass_9 : decode (zby mW_pass) 9 = .ok (.goto 6, 3) := by decide +kernel
theorem dW_pass_12 : decode (zby mW_pass) 12 = .ok (.astore_n 3, 1) := by decide +kernel
theorem dW_pass_13 : decode (zby mW_pass) 13 = .ok (.iconst 1, 1) := by decide +kernel
theorem dW_pass_14 : decode (zby mW_pass) 14 = .ok (.ireturn, 1) := by decide +kernel
theorem dW_pass_15 : decode (zby mW_pass) 15 = .ok (.iconst 0, 1) := by decide +kernel
theorem dW_pass_16 : decode (zby mW_pass) 16 = .ok (.ireturn, 1) := by decide +kernel
theorem dW_removeCode_0 : decode (zby mW_removeCode) 0 = .ok (.aload_n 3, 1) := by decide +kernel
theorem dW_removeCode_1 : decode (zby mW_removeCode) 1 = .ok (.iconst 0, 1) := by decide +kernel
theorem dW_removeCode_2 : decode (zby mW_removeCode) 2 = .ok (.aload_n 0, 1) := by decide +kernel
theorem dW_removeCode_3 : decode (zby mW_removeCode) 3 = .ok (.iload_n 1, 1) := by decide +kernel
theorem dW_removeCode_4 : decode (zby mW_removeCode) 4 = .ok (.iload_n 2, 1) := by decide +kernel
theorem dW_removeCode_5 : decode (zby mW_removeCode) 5 = .ok (.invokevirtual 23, 3) := by decide +kernel
theorem dW_removeCode_8 : decode (zby mW_removeCode) 8 = .ok (.i2l, 1) := by decide +kernel
theorem dW_removeCode_9 : decode (zby mW_removeCode) 9 = .ok (.lastore, 1) := by decide +kernel
theorem dW_removeCode_10 : decode (zby mW_removeCode) 10 = .ok (.goto 15, 3) := by decide +kernel
theorem dW_removeCode_13 : decode (zby mW_removeCode) 13 = .ok (.astore 4, 2) := by decide +kernel
theorem dW_removeCode_15 : decode (zby mW_removeCode) 15 = .ok (.iconst 1, 1) := by decide +kernel
theorem dW_removeCode_16 : decode (zby mW_removeCode) 16 = .ok (.ireturn, 1) := by decide +kernel
theorem dW_removeCode_17 : decode (zby mW_removeCode) 17 = .ok (.astore 4, 2) := by decide +kernel
theorem dW_removeCode_19 : decode (zby mW_removeCode) 19 = .ok (.iconst 2, 1) := by decide +kernel
theorem dW_removeCode_20 : decode (zby mW_removeCode) 20 = .ok (.ireturn, 1) := by decide +kernel
theorem dW_removeCode_21 : decode (zby mW_removeCode) 21 = .ok (.astore 4, 2) := by decide +kernel
theorem dW_removeCode_23 : decode (zby mW_removeCode) 23 = .ok (.iconst 3, 1) := by decide +kernel
theorem dW_removeCode_24 : decode (zby mW_removeCode) 24 = .ok (.ireturn, 1) := by decide +kernel
theorem dW_removeCode_25 : decode (zby mW_removeCode) 25 = .ok (.iconst 0, 1) := by decide +kernel
theorem dW_removeCode_26 : decode (zby mW_removeCode) 26 = .ok (.ireturn, 1) := by decide +kernel
theorem dW_removeEntry_0 : decode (zby mW_removeEntry) 0 = .ok (.aload_n 2, 1) := by decide +kernel
theorem dW_removeEntry_1 : decode (zby mW_removeEntry) 1 = .ok (.iconst 0, 1) := by decide +kernel
theorem dW_removeEntry_2 : decode (zby mW_removeEntry) 2 = .ok (.aload_n 0, 1) := by decide +kernel
theorem dW_removeEntry_3 : decode (zby mW_removeEntry) 3 = .ok (.iload_n 1, 1) := by decide +kernel
theorem dW_removeEntry_4 : decode (zby mW_removeEntry) 4 = .ok (.invokevirtual 26, 3) := by decide +kernel
theorem dW_removeEntry_7 : decode (zby mW_removeEntry) 7 = .ok (.i2l, 1) := by decide +kernel
theorem dW_removeEntry_8 : decode (zby mW_removeEntry) 8 = .ok (.lastore, 1) := by decide +kernel
theorem dW_removeEntry_9 : decode (zby mW_removeEntry) 9 = .ok (.goto 6, 3) := by decide +kernel
theorem dW_removeEntry_12 : decode (zby mW_removeEntry) 12 = .ok (.astore_n 3, 1) := by decide +kernel
theorem dW_removeEntry_13 : decode (zby mW_removeEntry) 13 = .ok (.iconst 1, 1) := by decide +kernel
theorem dW_removeEntry_14 : decode (zby mW_removeEntry) 14 = .ok (.ireturn, 1) := by decide +kernel
theorem dW_removeEntry_15 : decode (zby mW_removeEntry) 15 = .ok (.iconst 0, 1) := by decide +kernel
theorem dW_removeEntry_16 : decode (zby mW_removeEntry) 16 = .ok (.ireturn, 1) := by decide +kernel
theorem dW_restore_0 : decode (zby mW_restore) 0 = .ok (.aload_n 1, 1) := by decide +kernel
theorem dW_restore_1 : decode (zby mW_restore) 1 = .ok (.iconst 0, 1) := by decide +kernel
theorem dW_restore_2 : decode (zby mW_restore) 2 = .ok (.aload_n 0, 1) := by decide +kernel
theorem dW_restore_3 : decode (zby mW_restore) 3 = .ok (.invokevirtual 170, 3) := by decide +kernel
theorem dW_restore_6 : decode (zby mW_restore) 6 = .ok (.i2l, 1) := by decide +kernel
theorem dW_restore_7 : decode (zby mW_restore) 7 = .ok (.lastore, 1) := by decide +kernel
theorem dW_restore_8 : decode (zby mW_restore) 8 = .ok (.goto 6, 3) := by decide +kernel
theorem dW_restore_11 : decode (zby mW_restore) 11 = .ok (.astore_n 2, 1) := by decide +kernel
theorem dW_restore_12 : decode (zby mW_restore) 12 = .ok (.iconst 1, 1) := by decide +kernel
theorem dW_restore_13 : decode (zby mW_restore) 13 = .ok (.ireturn, 1) := by decide +kernel
theorem dW_restore_14 : decode (zby mW_restore) 14 = .ok (.iconst 0, 1) := by decide +kernel
theorem dW_restore_15 : decode (zby mW_restore) 15 = .ok (.ireturn, 1) := by decide +kernel
theorem dW_resultAt_0 : decode (zby mW_resultAt) 0 = .ok (.aload 4, 2) := by decide +kernel
theorem dW_resultAt_2 : decode (zby mW_resultAt) 2 = .ok (.iconst 0, 1) := by decide +kernel
theorem dW_resultAt_3 : decode (zby mW_resultAt) 3 = .ok (.aload_n 0, 1) := by decide +kernel
theorem dW_resultAt_4 : decode (zby mW_resultAt) 4 = .ok (.iload_n 1, 1) := by decide +kernel
theorem dW_resultAt_5 : decode (zby mW_resultAt) 5 = .ok (.iload_n 2, 1) := by decide +kernel
theorem dW_resultAt_6 : decode (zby mW_resultAt) 6 = .ok (.iload_n 3, 1) := by decide +kernel
theorem dW_resultAt_7 : decode (zby mW_resultAt) 7 = .ok (.invokevirtual 91, 3) := by decide +kernel
theorem dW_resultAt_10 : decode (zby mW_resultAt) 10 = .ok (.i2l, 1) := by decide +kernel
theorem dW_resultAt_11 : decode (zby mW_resultAt) 11 = .ok (.lastore, 1) := by decide +kernel
theorem dW_resultAt_12 : decode (zby mW_resultAt) 12 = .ok (.goto 11, 3) := by decide +kernel
theorem dW_resultAt_15 : decode (zby mW_resultAt) 15 = .ok (.astore 5, 2) := by decide +kernel
theorem dW_resultAt_17 : decode (zby mW_resultAt) 17 = .ok (.iconst 1, 1) := by decide +kernel
theorem dW_resultAt_18 : decode (zby mW_resultAt) 18 = .ok (.ireturn, 1) := by decide +kernel
theorem dW_resultAt_19 : decode (zby mW_resultAt) 19 = .ok (.astore 5, 2) := by decide +kernel
theorem dW_resultAt_21 : decode (zby mW_resultAt) 21 = .ok (.iconst 2, 1) := by decide +kernel
theorem dW_resultAt_22 : decode (zby mW_resultAt) 22 = .ok (.ireturn, 1) := by decide +kernel
theorem dW_resultAt_23 : decode (zby mW_resultAt) 23 = .ok (.iconst 0, 1) := by decide +kernel
theorem dW_resultAt_24 : decode (zby mW_resultAt) 24 = .ok (.ireturn, 1) := by decide +kernel
theorem dW_resultCount_0 : decode (zby mW_resultCount) 0 = .ok (.aload_n 3, 1) := by decide +kernel
theorem dW_resultCount_1 : decode (zby mW_resultCount) 1 = .ok (.iconst 0, 1) := by decide +kernel
theorem dW_resultCount_2 : decode (zby mW_resultCount) 2 = .ok (.aload_n 0, 1) := by decide +kernel
theorem dW_resultCount_3 : decode (zby mW_resultCount) 3 = .ok (.iload_n 1, 1) := by decide +kernel
theorem dW_resultCount_4 : decode (zby mW_resultCount) 4 = .ok (.iload_n 2, 1) := by decide +kernel
theorem dW_resultCount_5 : decode (zby mW_resultCount) 5 = .ok (.invokevirtual 85, 3) := by decide +kernel
theorem dW_resultCount_8 : decode (zby mW_resultCount) 8 = .ok (.i2l, 1) := by decide +kernel
theorem dW_resultCount_9 : decode (zby mW_resultCount) 9 = .ok (.lastore, 1) := by decide +kernel
theorem dW_resultCount_10 : decode (zby mW_resultCount) 10 = .ok (.goto 7, 3) := by decide +kernel
theorem dW_resultCount_13 : decode (zby mW_resultCount) 13 = .ok (.astore 4, 2) := by decide +kernel
theorem dW_resultCount_15 : decode (zby mW_resultCount) 15 = .ok (.iconst 1, 1) := by decide +kernel
theorem dW_resultCount_16 : decode (zby mW_resultCount) 16 = .ok (.ireturn, 1) := by decide +kernel
theorem dW_resultCount_17 : decode (zby mW_resultCount) 17 = .ok (.iconst 0, 1) := by decide +kernel
theorem dW_resultCount_18 : decode (zby mW_resultCount) 18 = .ok (.ireturn, 1) := by decide +kernel
theorem dW_resultCountByScan_0 : decode (zby mW_resultCountByScan) 0 = .ok (.aload_n 3, 1) := by decide +kernel
theorem dW_resultCountByScan_1 : decode (zby mW_resultCountByScan) 1 = .ok (.iconst 0, 1) := by decide +kernel
theorem dW_resultCountByScan_2 : decode (zby mW_resultCountByScan) 2 = .ok (.aload_n 0, 1) := by decide +kernel
theorem dW_resultCountByScan_3 : decode (zby mW_resultCountByScan) 3 = .ok (.iload_n 1, 1) := by decide +kernel
theorem dW_resultCountByScan_4 : decode (zby mW_resultCountByScan) 4 = .ok (.iload_n 2, 1) := by decide +kernel
theorem dW_resultCountByScan_5 : decode (zby mW_resultCountByScan) 5 = .ok (.invokevirtual 88, 3) := by decide +kernel
theorem dW_resultCountByScan_8 : decode (zby mW_resultCountByScan) 8 = .ok (.i2l, 1) := by decide +kernel
theorem dW_resultCountByScan_9 : decode (zby mW_resultCountByScan) 9 = .ok (.lastore, 1) := by decide +kernel
theorem dW_resultCountByScan_10 : decode (zby mW_resultCountByScan) 10 = .ok (.goto 7, 3) := by decide +kernel
theorem dW_resultCountByScan_13 : decode (zby mW_resultCountByScan) 13 = .ok (.astore 4, 2) := by decide +kernel
theorem dW_resultCountByScan_15 : decode (zby mW_resultCountByScan) 15 = .ok (.iconst 1, 1) := by decide +kernel
theorem dW_resultCountByScan_16 : decode (zby mW_resultCountByScan) 16 = .ok (.ireturn, 1) := by decide +kernel
theorem dW_resultCountByScan_17 : decode (zby mW_resultCountByScan) 17 = .ok (.iconst 0, 1) := by decide +kernel
theorem dW_resultCountByScan_18 : decode (zby mW_resultCountByScan) 18 = .ok (.ireturn, 1) := by decide +kernel
theorem dW_run_0 : decode (zby mW_run) 0 = .ok (.aload_n 1, 1) := by decide +kernel
theorem dW_run_1 : decode (zby mW_run) 1 = .ok (.iconst 0, 1) := by decide +kernel
theorem dW_run_2 : decode (zby mW_run) 2 = .ok (.aload_n 0, 1) := by decide +kernel
theorem dW_run_3 : decode (zby mW_run) 3 = .ok (.invokevirtual 158, 3) := by decide +kernel
theorem dW_run_6 : decode (zby mW_run) 6 = .ok (.i2l, 1) := by decide +kernel
theorem dW_run_7 : decode (zby mW_run) 7 = .ok (.lastore, 1) := by decide +kernel
theorem dW_run_8 : decode (zby mW_run) 8 = .ok (.goto 9, 3) := by decide +kernel
theorem dW_run_11 : decode (zby mW_run) 11 = .ok (.astore_n 2, 1) := by decide +kernel
theorem dW_run_12 : decode (zby mW_run) 12 = .ok (.iconst 1, 1) := by decide +kernel
theorem dW_run_13 : decode (zby mW_run) 13 = .ok (.ireturn, 1) := by decide +kernel
theorem dW_run_14 : decode (zby mW_run) 14 = .ok (.astore_n 2, 1) := by decide +kernel
theorem dW_run_15 : decode (zby mW_run) 15 = .ok (.iconst 2, 1) := by decide +kernel
theorem dW_run_16 : decode (zby mW_run) 16 = .ok (.ireturn, 1) := by decide +kernel
theorem dW_run_17 : decode (zby mW_run) 17 = .ok (.iconst 0, 1) := by decide +kernel
theorem dW_run_18 : decode (zby mW_run) 18 = .ok (.ireturn, 1) := by decide +kernel
theorem dW_scoreOf_0 : decode (zby mW_scoreOf) 0 = .ok (.aload 4, 2) := by decide +kernel
theorem dW_scoreOf_2 : decode (zby mW_scoreOf) 2 = .ok (.iconst 0, 1) := by decide +kernel
theorem dW_scoreOf_3 : decode (zby mW_scoreOf) 3 = .ok (.aload_n 0, 1) := by decide +kernel
theorem dW_scoreOf_4 : decode (zby mW_scoreOf) 4 = .ok (.iload_n 1, 1) := by decide +kernel
theorem dW_scoreOf_5 : decode (zby mW_scoreOf) 5 = .ok (.iload_n 2, 1) := by decide +kernel
theorem dW_scoreOf_6 : decode (zby mW_scoreOf) 6 = .ok (.iload_n 3, 1) := by decide +kernel
theorem dW_scoreOf_7 : decode (zby mW_scoreOf) 7 = .ok (.invokevirtual 95, 3) := by decide +kernel
theorem dW_scoreOf_10 : decode (zby mW_scoreOf) 10 = .ok (.i2l, 1) := by decide +kernel
theorem dW_scoreOf_11 : decode (zby mW_scoreOf) 11 = .ok (.lastore, 1) := by decide +kernel
theorem dW_scoreOf_12 : decode (zby mW_scoreOf) 12 = .ok (.goto 11, 3) := by decide +kernel
theorem dW_scoreOf_15 : decode (zby mW_scoreOf) 15 = .ok (.astore 5, 2) := by decide +kernel
theorem dW_scoreOf_17 : decode (zby mW_scoreOf) 17 = .ok (.iconst 1, 1) := by decide +kernel
theorem dW_scoreOf_18 : decode (zby mW_scoreOf) 18 = .ok (.ireturn, 1) := by decide +kernel
theorem dW_scoreOf_19 : decode (zby mW_scoreOf) 19 = .ok (.astore 5, 2) := by decide +kernel
theorem dW_scoreOf_21 : decode (zby mW_scoreOf) 21 = .ok (.iconst 2, 1) := by decide +kernel
theorem dW_scoreOf_22 : decode (zby mW_scoreOf) 22 = .ok (.ireturn, 1) := by decide +kernel
theorem dW_scoreOf_23 : decode (zby mW_scoreOf) 23 = .ok (.iconst 0, 1) := by decide +kernel
theorem dW_scoreOf_24 : decode (zby mW_scoreOf) 24 = .ok (.ireturn, 1) := by decide +kernel
theorem dW_search_0 : decode (zby mW_search) 0 = .ok (.aload_n 3, 1) := by decide +kernel
theorem dW_search_1 : decode (zby mW_search) 1 = .ok (.iconst 0, 1) := by decide +kernel
theorem dW_search_2 : decode (zby mW_search) 2 = .ok (.aload_n 0, 1) := by decide +kernel
theorem dW_search_3 : decode (zby mW_search) 3 = .ok (.iload_n 1, 1) := by decide +kernel
theorem dW_search_4 : decode (zby mW_search) 4 = .ok (.iload_n 2, 1) := by decide +kernel
theorem dW_search_5 : decode (zby mW_search) 5 = .ok (.invokevirtual 44, 3) := by decide +kernel
theorem dW_search_8 : decode (zby mW_search) 8 = .ok (.i2l, 1) := by decide +kernel
theorem dW_search_9 : decode (zby mW_search) 9 = .ok (.lastore, 1) := by decide +kernel
theorem dW_search_10 : decode (zby mW_search) 10 = .ok (.goto 7, 3) := by decide +kernel
theorem dW_search_13 : decode (zby mW_search) 13 = .ok (.astore 4, 2) := by decide +kernel
theorem dW_search_15 : decode (zby mW_search) 15 = .ok (.iconst 1, 1) := by decide +kernel
theorem dW_search_16 : decode (zby mW_search) 16 = .ok (.ireturn, 1) := by decide +kernel
theorem dW_search_17 : decode (zby mW_search) 17 = .ok (.iconst 0, 1) := by decide +kernel
theorem dW_search_18 : decode (zby mW_search) 18 = .ok (.ireturn, 1) := by decide +kernel
theorem dW_segmentOf_0 : decode (zby mW_segmentOf) 0 = .ok (.aload_n 2, 1) := by decide +kernel
theorem dW_segmentOf_1 : decode (zby mW_segmentOf) 1 = .ok (.iconst 0, 1) := by decide +kernel
theorem dW_segmentOf_2 : decode (zby mW_segmentOf) 2 = .ok (.aload_n 0, 1) := by decide +kernel
theorem dW_segmentOf_3 : decode (zby mW_segmentOf) 3 = .ok (.iload_n 1, 1) := by decide +kernel
theorem dW_segmentOf_4 : decode (zby mW_segmentOf) 4 = .ok (.invokevirtual 65, 3) := by decide +kernel
theorem dW_segmentOf_7 : decode (zby mW_segmentOf) 7 = .ok (.i2l, 1) := by decide +kernel
theorem dW_segmentOf_8 : decode (zby mW_segmentOf) 8 = .ok (.lastore, 1) := by decide +kernel
theorem dW_segmentOf_9 : decode (zby mW_segmentOf) 9 = .ok (.goto 6, 3) := by decide +kernel
theorem dW_segmentOf_12 : decode (zby mW_segmentOf) 12 = .ok (.astore_n 3, 1) := by decide +kernel
theorem dW_segmentOf_13 : decode (zby mW_segmentOf) 13 = .ok (.iconst 1, 1) := by decide +kernel
theorem dW_segmentOf_14 : decode (zby mW_segmentOf) 14 = .ok (.ireturn, 1) := by decide +kernel
theorem dW_segmentOf_15 : decode (zby mW_segmentOf) 15 = .ok (.iconst 0, 1) := by decide +kernel
theorem dW_segmentOf_16 : decode (zby mW_segmentOf) 16 = .ok (.ireturn, 1) := by decide +kernel
theorem dW_sharedCodes_0 : decode (zby mW_sharedCodes) 0 = .ok (.aload_n 3, 1) := by decide +kernel
theorem dW_sharedCodes_1 : decode (zby mW_sharedCodes) 1 = .ok (.iconst 0, 1) := by decide +kernel
theorem dW_sharedCodes_2 : decode (zby mW_sharedCodes) 2 = .ok (.aload_n 0, 1) := by decide +kernel
theorem dW_sharedCodes_3 : decode (zby mW_sharedCodes) 3 = .ok (.iload_n 1, 1) := by decide +kernel
theorem dW_sharedCodes_4 : decode (zby mW_sharedCodes) 4 = .ok (.iload_n 2, 1) := by decide +kernel
theorem dW_sharedCodes_5 : decode (zby mW_sharedCodes) 5 = .ok (.invokevirtual 119, 3) := by decide +kernel
theorem dW_sharedCodes_8 : decode (zby mW_sharedCodes) 8 = .ok (.i2l, 1) := by decide +kernel
theorem dW_sharedCodes_9 : decode (zby mW_sharedCodes) 9 = .ok (.lastore, 1) := by decide +kernel
theorem dW_sharedCodes_10 : decode (zby mW_sharedCodes) 10 = .ok (.goto 7, 3) := by decide +kernel
theorem dW_sharedCodes_13 : decode (zby mW_sharedCodes) 13 = .ok (.astore 4, 2) := by decide +kernel
theorem dW_sharedCodes_15 : decode (zby mW_sharedCodes) 15 = .ok (.iconst 1, 1) := by decide +kernel
theorem dW_sharedCodes_16 : decode (zby mW_sharedCodes) 16 = .ok (.ireturn, 1) := by decide +kernel
theorem dW_sharedCodes_17 : decode (zby mW_sharedCodes) 17 = .ok (.iconst 0, 1) := by decide +kernel
theorem dW_sharedCodes_18 : decode (zby mW_sharedCodes) 18 = .ok (.ireturn, 1) := by decide +kernel
theorem dW_sharedDigits_0 : decode (zby mW_sharedDigits) 0 = .ok (.aload_n 2, 1) := by decide +kernel
theorem dW_sharedDigits_1 : decode (zby mW_sharedDigits) 1 = .ok (.iconst 0, 1) := by decide +kernel
theorem dW_sharedDigits_2 : decode (zby mW_sharedDigits) 2 = .ok (.aload_n 0, 1) := by decide +kernel
theorem dW_sharedDigits_3 : decode (zby mW_sharedDigits) 3 = .ok (.iload_n 1, 1) := by decide +kernel
theorem dW_sharedDigits_4 : decode (zby mW_sharedDigits) 4 = .ok (.invokevirtual 104, 3) := by decide +kernel
theorem dW_sharedDigits_7 : decode (zby mW_sharedDigits) 7 = .ok (.i2l, 1) := by decide +kernel
theorem dW_sharedDigits_8 : decode (zby mW_sharedDigits) 8 = .ok (.lastore, 1) := by decide +kernel
theorem dW_sharedDigits_9 : decode (zby mW_sharedDigits) 9 = .ok (.goto 6, 3) := by decide +kernel
theorem dW_sharedDigits_12 : decode (zby mW_sharedDigits) 12 = .ok (.astore_n 3, 1) := by decide +kernel
theorem dW_sharedDigits_13 : decode (zby mW_sharedDigits) 13 = .ok (.iconst 1, 1) := by decide +kernel
theorem dW_sharedDigits_14 : decode (zby mW_sharedDigits) 14 = .ok (.ireturn, 1) := by decide +kernel
theorem dW_sharedDigits_15 : decode (zby mW_sharedDigits) 15 = .ok (.iconst 0, 1) := by decide +kernel
theorem dW_sharedDigits_16 : decode (zby mW_sharedDigits) 16 = .ok (.ireturn, 1) := by decide +kernel
theorem dW_sharedDigitsByScan_0 : decode (zby mW_sharedDigitsByScan) 0 = .ok (.aload_n 2, 1) := by decide +kernel
theorem dW_sharedDigitsByScan_1 : decode (zby mW_sharedDigitsByScan) 1 = .ok (.iconst 0, 1) := by decide +kernel
theorem dW_sharedDigitsByScan_2 : decode (zby mW_sharedDigitsByScan) 2 = .ok (.aload_n 0, 1) := by decide +kernel
theorem dW_sharedDigitsByScan_3 : decode (zby mW_sharedDigitsByScan) 3 = .ok (.iload_n 1, 1) := by decide +kernel
theorem dW_sharedDigitsByScan_4 : decode (zby mW_sharedDigitsByScan) 4 = .ok (.invokevirtual 107, 3) := by decide +kernel
theorem dW_sharedDigitsByScan_7 : decode (zby mW_sharedDigitsByScan) 7 = .ok (.i2l, 1) := by decide +kernel
theorem dW_sharedDigitsByScan_8 : decode (zby mW_sharedDigitsByScan) 8 = .ok (.lastore, 1) := by decide +kernel
theorem dW_sharedDigitsByScan_9 : decode (zby mW_sharedDigitsByScan) 9 = .ok (.goto 6, 3) := by decide +kernel
theorem dW_sharedDigitsByScan_12 : decode (zby mW_sharedDigitsByScan) 12 = .ok (.astore_n 3, 1) := by decide +kernel
theorem dW_sharedDigitsByScan_13 : decode (zby mW_sharedDigitsByScan) 13 = .ok (.iconst 1, 1) := by decide +kernel
theorem dW_sharedDigitsByScan_14 : decode (zby mW_sharedDigitsByScan) 14 = .ok (.ireturn, 1) := by decide +kernel
theorem dW_sharedDigitsByScan_15 : decode (zby mW_sharedDigitsByScan) 15 = .ok (.iconst 0, 1) := by decide +kernel
theorem dW_sharedDigitsByScan_16 : decode (zby mW_sharedDigitsByScan) 16 = .ok (.ireturn, 1) := by decide +kernel
theorem dW_startSegment_0 : decode (zby mW_startSegment) 0 = .ok (.aload_n 1, 1) := by decide +kernel
theorem dW_startSegment_1 : decode (zby mW_startSegment) 1 = .ok (.iconst 0, 1) := by decide +kernel
theorem dW_startSegment_2 : decode (zby mW_startSegment) 2 = .ok (.aload_n 0, 1) := by decide +kernel
theorem dW_startSegment_3 : decode (zby mW_startSegment) 3 = .ok (.invokevirtual 35, 3) := by decide +kernel
theorem dW_startSegment_6 : decode (zby mW_startSegment) 6 = .ok (.i2l, 1) := by decide +kernel
theorem dW_startSegment_7 : decode (zby mW_startSegment) 7 = .ok (.lastore, 1) := by decide +kernel
theorem dW_startSegment_8 : decode (zby mW_startSegment) 8 = .ok (.goto 6, 3) := by decide +kernel
theorem dW_startSegment_11 : decode (zby mW_startSegment) 11 = .ok (.astore_n 2, 1) := by decide +kernel
theorem dW_startSegment_12 : decode (zby mW_startSegment) 12 = .ok (.iconst 1, 1) := by decide +kernel
theorem dW_startSegment_13 : decode (zby mW_startSegment) 13 = .ok (.ireturn, 1) := by decide +kernel
theorem dW_startSegment_14 : decode (zby mW_startSegment) 14 = .ok (.iconst 0, 1) := by decide +kernel
theorem dW_startSegment_15 : decode (zby mW_startSegment) 15 = .ok (.ireturn, 1) := by decide +kernel
theorem dW_touch_0 : decode (zby mW_touch) 0 = .ok (.aload_n 2, 1) := by decide +kernel
theorem dW_touch_1 : decode (zby mW_touch) 1 = .ok (.iconst 0, 1) := by decide +kernel
theorem dW_touch_2 : decode (zby mW_touch) 2 = .ok (.aload_n 0, 1) := by decide +kernel
theorem dW_touch_3 : decode (zby mW_touch) 3 = .ok (.iload_n 1, 1) := by decide +kernel
theorem dW_touch_4 : decode (zby mW_touch) 4 = .ok (.invokevirtual 29, 3) := by decide +kernel
theorem dW_touch_7 : decode (zby mW_touch) 7 = .ok (.i2l, 1) := by decide +kernel
theorem dW_touch_8 : decode (zby mW_touch) 8 = .ok (.lastore, 1) := by decide +kernel
theorem dW_touch_9 : decode (zby mW_touch) 9 = .ok (.goto 6, 3) := by decide +kernel
theorem dW_touch_12 : decode (zby mW_touch) 12 = .ok (.astore_n 3, 1) := by decide +kernel
theorem dW_touch_13 : decode (zby mW_touch) 13 = .ok (.iconst 1, 1) := by decide +kernel
theorem dW_touch_14 : decode (zby mW_touch) 14 = .ok (.ireturn, 1) := by decide +kernel
theorem dW_touch_15 : decode (zby mW_touch) 15 = .ok (.iconst 0, 1) := by decide +kernel
theorem dW_touch_16 : decode (zby mW_touch) 16 = .ok (.ireturn, 1) := by decide +kernel
theorem dW_undo_0 : decode (zby mW_undo) 0 = .ok (.aload_n 1, 1) := by decide +kernel
theorem dW_undo_1 : decode (zby mW_undo) 1 = .ok (.iconst 0, 1) := by decide +kernel
theorem dW_undo_2 : decode (zby mW_undo) 2 = .ok (.aload_n 0, 1) := by decide +kernel
theorem dW_undo_3 : decode (zby mW_undo) 3 = .ok (.invokevirtual 167, 3) := by decide +kernel
theorem dW_undo_6 : decode (zby mW_undo) 6 = .ok (.i2l, 1) := by decide +kernel
theorem dW_undo_7 : decode (zby mW_undo) 7 = .ok (.lastore, 1) := by decide +kernel
theorem dW_undo_8 : decode (zby mW_undo) 8 = .ok (.goto 6, 3) := by decide +kernel
theorem dW_undo_11 : decode (zby mW_undo) 11 = .ok (.astore_n 2, 1) := by decide +kernel
theorem dW_undo_12 : decode (zby mW_undo) 12 = .ok (.iconst 1, 1) := by decide +kernel
theorem dW_undo_13 : decode (zby mW_undo) 13 = .ok (.ireturn, 1) := by decide +kernel
theorem dW_undo_14 : decode (zby mW_undo) 14 = .ok (.iconst 0, 1) := by decide +kernel
theorem dW_undo_15 : decode (zby mW_undo) 15 = .ok (.ireturn, 1) := by decide +kernel
theorem dW_weightOf_0 : decode (zby mW_weightOf) 0 = .ok (.aload_n 2, 1) := by decide +kernel
theorem dW_weightOf_1 : decode (zby mW_weightOf) 1 = .ok (.iconst 0, 1) := by decide +kernel
theorem dW_weightOf_2 : decode (zby mW_weightOf) 2 = .ok (.aload_n 0, 1) := by decide +kernel
theorem dW_weightOf_3 : decode (zby mW_weightOf) 3 = .ok (.iload_n 1, 1) := by decide +kernel
theorem dW_weightOf_4 : decode (zby mW_weightOf) 4 = .ok (.invokevirtual 53, 3) := by decide +kernel
theorem dW_weightOf_7 : decode (zby mW_weightOf) 7 = .ok (.i2l, 1) := by decide +kernel
theorem dW_weightOf_8 : decode (zby mW_weightOf) 8 = .ok (.lastore, 1) := by decide +kernel
theorem dW_weightOf_9 : decode (zby mW_weightOf) 9 = .ok (.goto 6, 3) := by decide +kernel
theorem dW_weightOf_12 : decode (zby mW_weightOf) 12 = .ok (.astore_n 3, 1) := by decide +kernel
theorem dW_weightOf_13 : decode (zby mW_weightOf) 13 = .ok (.iconst 1, 1) := by decide +kernel
theorem dW_weightOf_14 : decode (zby mW_weightOf) 14 = .ok (.ireturn, 1) := by decide +kernel
theorem dW_weightOf_15 : decode (zby mW_weightOf) 15 = .ok (.iconst 0, 1) := by decide +kernel
theorem dW_weightOf_16 : decode (zby mW_weightOf) 16 = .ok (.ireturn, 1) := by decide +kernel
