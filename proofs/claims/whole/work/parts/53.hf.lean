theorem dL_setChance_0 : decode cL_setChance 0 = .ok (.aload_n 2, 1) := by decide +kernel
theorem dL_setChance_1 : decode cL_setChance 1 = .ok (.iconst 0, 1) := by decide +kernel
theorem dL_setChance_2 : decode cL_setChance 2 = .ok (.aload_n 0, 1) := by decide +kernel
theorem dL_setChance_3 : decode cL_setChance 3 = .ok (.iload_n 1, 1) := by decide +kernel
theorem dL_setChance_4 : decode cL_setChance 4 = .ok (.invokevirtual 7, 3) := by decide +kernel
theorem dL_setChance_7 : decode cL_setChance 7 = .ok (.i2l, 1) := by decide +kernel
theorem dL_setChance_8 : decode cL_setChance 8 = .ok (.lastore, 1) := by decide +kernel
theorem dL_setChance_9 : decode cL_setChance 9 = .ok (.goto 6, 3) := by decide +kernel
theorem dL_setChance_12 : decode cL_setChance 12 = .ok (.astore_n 3, 1) := by decide +kernel
theorem dL_setChance_13 : decode cL_setChance 13 = .ok (.iconst 1, 1) := by decide +kernel
theorem dL_setChance_14 : decode cL_setChance 14 = .ok (.ireturn, 1) := by decide +kernel
theorem dL_setChance_15 : decode cL_setChance 15 = .ok (.iconst 0, 1) := by decide +kernel
theorem dL_setChance_16 : decode cL_setChance 16 = .ok (.ireturn, 1) := by decide +kernel
theorem dL_addStratum_0 : decode cL_addStratum 0 = .ok (.aload_n 1, 1) := by decide +kernel
theorem dL_addStratum_1 : decode cL_addStratum 1 = .ok (.iconst 0, 1) := by decide +kernel
theorem dL_addStratum_2 : decode cL_addStratum 2 = .ok (.aload_n 0, 1) := by decide +kernel
theorem dL_addStratum_3 : decode cL_addStratum 3 = .ok (.invokevirtual 15, 3) := by decide +kernel
theorem dL_addStratum_6 : decode cL_addStratum 6 = .ok (.i2l, 1) := by decide +kernel
theorem dL_addStratum_7 : decode cL_addStratum 7 = .ok (.lastore, 1) := by decide +kernel
theorem dL_addStratum_8 : decode cL_addStratum 8 = .ok (.goto 6, 3) := by decide +kernel
theorem dL_addStratum_11 : decode cL_addStratum 11 = .ok (.astore_n 2, 1) := by decide +kernel
theorem dL_addStratum_12 : decode cL_addStratum 12 = .ok (.iconst 1, 1) := by decide +kernel
theorem dL_addStratum_13 : decode cL_addStratum 13 = .ok (.ireturn, 1) := by decide +kernel
theorem dL_addStratum_14 : decode cL_addStratum 14 = .ok (.iconst 0, 1) := by decide +kernel
theorem dL_addStratum_15 : decode cL_addStratum 15 = .ok (.ireturn, 1) := by decide +kernel
theorem dL_addHouse_0 : decode cL_addHouse 0 = .ok (.aload 4, 2) := by decide +kernel
theorem dL_addHouse_2 : decode cL_addHouse 2 = .ok (.iconst 0, 1) := by decide +kernel
theorem dL_addHouse_3 : decode cL_addHouse 3 = .ok (.aload_n 0, 1) := by decide +kernel
theorem dL_addHouse_4 : decode cL_addHouse 4 = .ok (.iload_n 1, 1) := by decide +kernel
theorem dL_addHouse_5 : decode cL_addHouse 5 = .ok (.iload_n 2, 1) := by decide +kernel
theorem dL_addHouse_6 : decode cL_addHouse 6 = .ok (.iload_n 3, 1) := by decide +kernel
theorem dL_addHouse_7 : decode cL_addHouse 7 = .ok (.invokevirtual 21, 3) := by decide +kernel
theorem dL_addHouse_10 : decode cL_addHouse 10 = .ok (.i2l, 1) := by decide +kernel
theorem dL_addHouse_11 : decode cL_addHouse 11 = .ok (.lastore, 1) := by decide +kernel
theorem dL_addHouse_12 : decode cL_addHouse 12 = .ok (.goto 15, 3) := by decide +kernel
theorem dL_addHouse_15 : decode cL_addHouse 15 = .ok (.astore 5, 2) := by decide +kernel
theorem dL_addHouse_17 : decode cL_addHouse 17 = .ok (.iconst 1, 1) := by decide +kernel
theorem dL_addHouse_18 : decode cL_addHouse 18 = .ok (.ireturn, 1) := by decide +kernel
theorem dL_addHouse_19 : decode cL_addHouse 19 = .ok (.astore 5, 2) := by decide +kernel
theorem dL_addHouse_21 : decode cL_addHouse 21 = .ok (.iconst 2, 1) := by decide +kernel
theorem dL_addHouse_22 : decode cL_addHouse 22 = .ok (.ireturn, 1) := by decide +kernel
theorem dL_addHouse_23 : decode cL_addHouse 23 = .ok (.astore 5, 2) := by decide +kernel
theorem dL_addHouse_25 : decode cL_addHouse 25 = .ok (.iconst 3, 1) := by decide +kernel
theorem dL_addHouse_26 : decode cL_addHouse 26 = .ok (.ireturn, 1) := by decide +kernel
theorem dL_addHouse_27 : decode cL_addHouse 27 = .ok (.iconst 0, 1) := by decide +kernel
theorem dL_addHouse_28 : decode cL_addHouse 28 = .ok (.ireturn, 1) := by decide +kernel
theorem dL_addInterviewer_0 : decode cL_addInterviewer 0 = .ok (.aload 4, 2) := by decide +kernel
theorem dL_addInterviewer_2 : decode cL_addInterviewer 2 = .ok (.iconst 0, 1) := by decide +kernel
theorem dL_addInterviewer_3 : decode cL_addInterviewer 3 = .ok (.aload_n 0, 1) := by decide +kernel
theorem dL_addInterviewer_4 : decode cL_addInterviewer 4 = .ok (.iload_n 1, 1) := by decide +kernel
theorem dL_addInterviewer_5 : decode cL_addInterviewer 5 = .ok (.iload_n 2, 1) := by decide +kernel
theorem dL_addInterviewer_6 : decode cL_addInterviewer 6 = .ok (.iload_n 3, 1) := by decide +kernel
theorem dL_addInterviewer_7 : decode cL_addInterviewer 7 = .ok (.invokevirtual 27, 3) := by decide +kernel
theorem dL_addInterviewer_10 : decode cL_addInterviewer 10 = .ok (.i2l, 1) := by decide +kernel
theorem dL_addInterviewer_11 : decode cL_addInterviewer 11 = .ok (.lastore, 1) := by decide +kernel
theorem dL_addInterviewer_12 : decode cL_addInterviewer 12 = .ok (.goto 11, 3) := by decide +kernel
theorem dL_addInterviewer_15 : decode cL_addInterviewer 15 = .ok (.astore 5, 2) := by decide +kernel
theorem dL_addInterviewer_17 : decode cL_addInterviewer 17 = .ok (.iconst 1, 1) := by decide +kernel
theorem dL_addInterviewer_18 : decode cL_addInterviewer 18 = .ok (.ireturn, 1) := by decide +kernel
theorem dL_addInterviewer_19 : decode cL_addInterviewer 19 = .ok (.astore 5, 2) := by decide +kernel
theorem dL_addInterviewer_21 : decode cL_addInterviewer 21 = .ok (.iconst 2, 1) := by decide +kernel
theorem dL_addInterviewer_22 : decode cL_addInterviewer 22 = .ok (.ireturn, 1) := by decide +kernel
theorem dL_addInterviewer_23 : decode cL_addInterviewer 23 = .ok (.iconst 0, 1) := by decide +kernel
theorem dL_addInterviewer_24 : decode cL_addInterviewer 24 = .ok (.ireturn, 1) := by decide +kernel
theorem dL_draw_0 : decode cL_draw 0 = .ok (.aload_n 3, 1) := by decide +kernel
theorem dL_draw_1 : decode cL_draw 1 = .ok (.iconst 0, 1) := by decide +kernel
theorem dL_draw_2 : decode cL_draw 2 = .ok (.aload_n 0, 1) := by decide +kernel
theorem dL_draw_3 : decode cL_draw 3 = .ok (.iload_n 1, 1) := by decide +kernel
theorem dL_draw_4 : decode cL_draw 4 = .ok (.iload_n 2, 1) := by decide +kernel
theorem dL_draw_5 : decode cL_draw 5 = .ok (.invokevirtual 30, 3) := by decide +kernel
theorem dL_draw_8 : decode cL_draw 8 = .ok (.i2l, 1) := by decide +kernel
theorem dL_draw_9 : decode cL_draw 9 = .ok (.lastore, 1) := by decide +kernel
theorem dL_draw_10 : decode cL_draw 10 = .ok (.goto 15, 3) := by decide +kernel
theorem dL_draw_13 : decode cL_draw 13 = .ok (.astore 4, 2) := by decide +kernel
theorem dL_draw_15 : decode cL_draw 15 = .ok (.iconst 1, 1) := by decide +kernel
theorem dL_draw_16 : decode cL_draw 16 = .ok (.ireturn, 1) := by decide +kernel
theorem dL_draw_17 : decode cL_draw 17 = .ok (.astore 4, 2) := by decide +kernel
theorem dL_draw_19 : decode cL_draw 19 = .ok (.iconst 2, 1) := by decide +kernel
theorem dL_draw_20 : decode cL_draw 20 = .ok (.ireturn, 1) := by decide +kernel
theorem dL_draw_21 : decode cL_draw 21 = .ok (.astore 4, 2) := by decide +kernel
theorem dL_draw_23 : decode cL_draw 23 = .ok (.iconst 3, 1) := by decide +kernel
theorem dL_draw_24 : decode cL_draw 24 = .ok (.ireturn, 1) := by decide +kernel
theorem dL_draw_25 : decode cL_draw 25 = .ok (.iconst 0, 1) := by decide +kernel
theorem dL_draw_26 : decode cL_draw 26 = .ok (.ireturn, 1) := by decide +kernel
theorem dL_roundSize_0 : decode cL_roundSize 0 = .ok (.aload_n 2, 1) := by decide +kernel
theorem dL_roundSize_1 : decode cL_roundSize 1 = .ok (.iconst 0, 1) := by decide +kernel
theorem dL_roundSize_2 : decode cL_roundSize 2 = .ok (.aload_n 0, 1) := by decide +kernel
theorem dL_roundSize_3 : decode cL_roundSize 3 = .ok (.iload_n 1, 1) := by decide +kernel
theorem dL_roundSize_4 : decode cL_roundSize 4 = .ok (.invokevirtual 34, 3) := by decide +kernel
theorem dL_roundSize_7 : decode cL_roundSize 7 = .ok (.i2l, 1) := by decide +kernel
theorem dL_roundSize_8 : decode cL_roundSize 8 = .ok (.lastore, 1) := by decide +kernel
theorem dL_roundSize_9 : decode cL_roundSize 9 = .ok (.goto 6, 3) := by decide +kernel
theorem dL_roundSize_12 : decode cL_roundSize 12 = .ok (.astore_n 3, 1) := by decide +kernel
theorem dL_roundSize_13 : decode cL_roundSize 13 = .ok (.iconst 1, 1) := by decide +kernel
theorem dL_roundSize_14 : decode cL_roundSize 14 = .ok (.ireturn, 1) := by decide +kernel
theorem dL_roundSize_15 : decode cL_roundSize 15 = .ok (.iconst 0, 1) := by decide +kernel
theorem dL_roundSize_16 : decode cL_roundSize 16 = .ok (.ireturn, 1) := by decide +kernel
theorem dL_roundAt_0 : decode cL_roundAt 0 = .ok (.aload_n 3, 1) := by decide +kernel
theorem dL_roundAt_1 : decode cL_roundAt 1 = .ok (.iconst 0, 1) := by decide +kernel
theorem dL_roundAt_2 : decode cL_roundAt 2 = .ok (.aload_n 0, 1) := by decide +kernel
theorem dL_roundAt_3 : decode cL_roundAt 3 = .ok (.iload_n 1, 1) := by decide +kernel
theorem dL_roundAt_4 : decode cL_roundAt 4 = .ok (.iload_n 2, 1) := by decide +kernel
theorem dL_roundAt_5 : decode cL_roundAt 5 = .ok (.invokevirtual 37, 3) := by decide +kernel
theorem dL_roundAt_8 : decode cL_roundAt 8 = .ok (.i2l, 1) := by decide +kernel
theorem dL_roundAt_9 : decode cL_roundAt 9 = .ok (.lastore, 1) := by decide +kernel
theorem dL_roundAt_10 : decode cL_roundAt 10 = .ok (.goto 11, 3) := by decide +kernel
theorem dL_roundAt_13 : decode cL_roundAt 13 = .ok (.astore 4, 2) := by decide +kernel
theorem dL_roundAt_15 : decode cL_roundAt 15 = .ok (.iconst 1, 1) := by decide +kernel
theorem dL_roundAt_16 : decode cL_roundAt 16 = .ok (.ireturn, 1) := by decide +kernel
theorem dL_roundAt_17 : decode cL_roundAt 17 = .ok (.astore 4, 2) := by decide +kernel
theorem dL_roundAt_19 : decode cL_roundAt 19 = .ok (.iconst 2, 1) := by decide +kernel
theorem dL_roundAt_20 : decode cL_roundAt 20 = .ok (.ireturn, 1) := by decide +kernel
theorem dL_roundAt_21 : decode cL_roundAt 21 = .ok (.iconst 0, 1) := by decide +kernel
theorem dL_roundAt_22 : decode cL_roundAt 22 = .ok (.ireturn, 1) := by decide +kernel
theorem dL_roundMinutes_0 : decode cL_roundMinutes 0 = .ok (.aload_n 2, 1) := by decide +kernel
theorem dL_roundMinutes_1 : decode cL_roundMinutes 1 = .ok (.iconst 0, 1) := by decide +kernel
theorem dL_roundMinutes_2 : decode cL_roundMinutes 2 = .ok (.aload_n 0, 1) := by decide +kernel
theorem dL_roundMinutes_3 : decode cL_roundMinutes 3 = .ok (.iload_n 1, 1) := by decide +kernel
theorem dL_roundMinutes_4 : decode cL_roundMinutes 4 = .ok (.invokevirtual 42, 3) := by decide +kernel
theorem dL_roundMinutes_7 : decode cL_roundMinutes 7 = .ok (.i2l, 1) := by decide +kernel
theorem dL_roundMinutes_8 : decode cL_roundMinutes 8 = .ok (.lastore, 1) := by decide +kernel
theorem dL_roundMinutes_9 : decode cL_roundMinutes 9 = .ok (.goto 6, 3) := by decide +kernel
theorem dL_roundMinutes_12 : decode cL_roundMinutes 12 = .ok (.astore_n 3, 1) := by decide +kernel
theorem dL_roundMinutes_13 : decode cL_roundMinutes 13 = .ok (.iconst 1, 1) := by decide +kernel
theorem dL_roundMinutes_14 : decode cL_roundMinutes 14 = .ok (.ireturn, 1) := by decide +kernel
theorem dL_roundMinutes_15 : decode cL_roundMinutes 15 = .ok (.iconst 0, 1) := by decide +kernel
theorem dL_roundMinutes_16 : decode cL_roundMinutes 16 = .ok (.ireturn, 1) := by decide +kernel
theorem dL_visit_0 : decode cL_visit 0 = .ok (.aload 4, 2) := by decide +kernel
theorem dL_visit_2 : decode cL_visit 2 = .ok (.iconst 0, 1) := by decide +kernel
theorem dL_visit_3 : decode cL_visit 3 = .ok (.aload_n 0, 1) := by decide +kernel
theorem dL_visit_4 : decode cL_visit 4 = .ok (.iload_n 1, 1) := by decide +kernel
theorem dL_visit_5 : decode cL_visit 5 = .ok (.iload_n 2, 1) := by decide +kernel
theorem dL_visit_6 : decode cL_visit 6 = .ok (.iload_n 3, 1) := by decide +kernel
theorem dL_visit_7 : decode cL_visit 7 = .ok (.invokevirtual 45, 3) := by decide +kernel
theorem dL_visit_10 : decode cL_visit 10 = .ok (.i2l, 1) := by decide +kernel
theorem dL_visit_11 : decode cL_visit 11 = .ok (.lastore, 1) := by decide +kernel
theorem dL_visit_12 : decode cL_visit 12 = .ok (.goto 15, 3) := by decide +kernel
theorem dL_visit_15 : decode cL_visit 15 = .ok (.astore 5, 2) := by decide +kernel
theorem dL_visit_17 : decode cL_visit 17 = .ok (.iconst 1, 1) := by decide +kernel
theorem dL_visit_18 : decode cL_visit 18 = .ok (.ireturn, 1) := by decide +kernel
theorem dL_visit_19 : decode cL_visit 19 = .ok (.astore 5, 2) := by decide +kernel
theorem dL_visit_21 : decode cL_visit 21 = .ok (.iconst 2, 1) := by decide +kernel
theorem dL_visit_22 : decode cL_visit 22 = .ok (.ireturn, 1) := by decide +kernel
theorem dL_visit_23 : decode cL_visit 23 = .ok (.astore 5, 2) := by decide +kernel
theorem dL_visit_25 : decode cL_visit 25 = .ok (.iconst 3, 1) := by decide +kernel
theorem dL_visit_26 : decode cL_visit 26 = .ok (.ireturn, 1) := by decide +kernel
theorem dL_visit_27 : decode cL_visit 27 = .ok (.iconst 0, 1) := by decide +kernel
theorem dL_visit_28 : decode cL_visit 28 = .ok (.ireturn, 1) := by decide +kernel
theorem dL_check_0 : decode cL_check 0 = .ok (.aload_n 3, 1) := by decide +kernel
theorem dL_check_1 : decode cL_check 1 = .ok (.iconst 0, 1) := by decide +kernel
theorem dL_check_2 : decode cL_check 2 = .ok (.aload_n 0, 1) := by decide +kernel
theorem dL_check_3 : decode cL_check 3 = .ok (.iload_n 1, 1) := by decide +kernel
theorem dL_check_4 : decode cL_check 4 = .ok (.iload_n 2, 1) := by decide +kernel
theorem dL_check_5 : decode cL_check 5 = .ok (.invokevirtual 49, 3) := by decide +kernel
theorem dL_check_8 : decode cL_check 8 = .ok (.ifCond .eq 7, 3) := by decide +kernel
theorem dL_check_11 : decode cL_check 11 = .ok (.lconst 1, 1) := by decide +kernel
theorem dL_check_12 : decode cL_check 12 = .ok (.goto 4, 3) := by decide +kernel
theorem dL_check_15 : decode cL_check 15 = .ok (.lconst 0, 1) := by decide +kernel
theorem dL_check_16 : decode cL_check 16 = .ok (.lastore, 1) := by decide +kernel
theorem dL_check_17 : decode cL_check 17 = .ok (.goto 15, 3) := by decide +kernel
theorem dL_check_20 : decode cL_check 20 = .ok (.astore 4, 2) := by decide +kernel
theorem dL_check_22 : decode cL_check 22 = .ok (.iconst 1, 1) := by decide +kernel
theorem dL_check_23 : decode cL_check 23 = .ok (.ireturn, 1) := by decide +kernel
theorem dL_check_24 : decode cL_check 24 = .ok (.astore 4, 2) := by decide +kernel
theorem dL_check_26 : decode cL_check 26 = .ok (.iconst 2, 1) := by decide +kernel
theorem dL_check_27 : decode cL_check 27 = .ok (.ireturn, 1) := by decide +kernel
theorem dL_check_28 : decode cL_check 28 = .ok (.astore 4, 2) := by decide +kernel
theorem dL_check_30 : decode cL_check 30 = .ok (.iconst 3, 1) := by decide +kernel
theorem dL_check_31 : decode cL_check 31 = .ok (.ireturn, 1) := by decide +kernel
theorem dL_check_32 : decode cL_check 32 = .ok (.iconst 0, 1) := by decide +kernel
theorem dL_check_33 : decode cL_check 33 = .ok (.ireturn, 1) := by decide +kernel
theorem dL_endDay_0 : decode cL_endDay 0 = .ok (.aload_n 1, 1) := by decide +kernel
theorem dL_endDay_1 : decode cL_endDay 1 = .ok (.iconst 0, 1) := by decide +kernel
theorem dL_endDay_2 : decode cL_endDay 2 = .ok (.aload_n 0, 1) := by decide +kernel
theorem dL_endDay_3 : decode cL_endDay 3 = .ok (.invokevirtual 53, 3) := by decide +kernel
theorem dL_endDay_6 : decode cL_endDay 6 = .ok (.i2l, 1) := by decide +kernel
theorem dL_endDay_7 : decode cL_endDay 7 = .ok (.lastore, 1) := by decide +kernel
theorem dL_endDay_8 : decode cL_endDay 8 = .ok (.goto 6, 3) := by decide +kernel
theorem dL_endDay_11 : decode cL_endDay 11 = .ok (.astore_n 2, 1) := by decide +kernel
theorem dL_endDay_12 : decode cL_endDay 12 = .ok (.iconst 1, 1) := by decide +kernel
theorem dL_endDay_13 : decode cL_endDay 13 = .ok (.ireturn, 1) := by decide +kernel
theorem dL_endDay_14 : decode cL_endDay 14 = .ok (.iconst 0, 1) := by decide +kernel
theorem dL_endDay_15 : decode cL_endDay 15 = .ok (.ireturn, 1) := by decide +kernel
theorem dL_stateOf_0 : decode cL_stateOf 0 = .ok (.aload_n 2, 1) := by decide +kernel
theorem dL_stateOf_1 : decode cL_stateOf 1 = .ok (.iconst 0, 1) := by decide +kernel
theorem dL_stateOf_2 : decode cL_stateOf 2 = .ok (.aload_n 0, 1) := by decide +kernel
theorem dL_stateOf_3 : decode cL_stateOf 3 = .ok (.iload_n 1, 1) := by decide +kernel
theorem dL_stateOf_4 : decode cL_stateOf 4 = .ok (.invokevirtual 56, 3) := by decide +kernel
theorem dL_stateOf_7 : decode cL_stateOf 7 = .ok (.i2l, 1) := by decide +kernel
theorem dL_stateOf_8 : decode cL_stateOf 8 = .ok (.lastore, 1) := by decide +kernel
theorem dL_stateOf_9 : decode cL_stateOf 9 = .ok (.goto 6, 3) := by decide +kernel
theorem dL_stateOf_12 : decode cL_stateOf 12 = .ok (.astore_n 3, 1) := by decide +kernel
theorem dL_stateOf_13 : decode cL_stateOf 13 = .ok (.iconst 1, 1) := by decide +kernel
theorem dL_stateOf_14 : decode cL_stateOf 14 = .ok (.ireturn, 1) := by decide +kernel
theorem dL_stateOf_15 : decode cL_stateOf 15 = .ok (.iconst 0, 1) := by decide +kernel
theorem dL_stateOf_16 : decode cL_stateOf 16 = .ok (.ireturn, 1) := by decide +kernel
theorem dL_wantedFrom_0 : decode cL_wantedFrom 0 = .ok (.aload_n 2, 1) := by decide +kernel
theorem dL_wantedFrom_1 : decode cL_wantedFrom 1 = .ok (.iconst 0, 1) := by decide +kernel
theorem dL_wantedFrom_2 : decode cL_wantedFrom 2 = .ok (.aload_n 0, 1) := by decide +kernel
theorem dL_wantedFrom_3 : decode cL_wantedFrom 3 = .ok (.iload_n 1, 1) := by decide +kernel
theorem dL_wantedFrom_4 : decode cL_wantedFrom 4 = .ok (.invokevirtual 60, 3) := by decide +kernel
theorem dL_wantedFrom_7 : decode cL_wantedFrom 7 = .ok (.i2l, 1) := by decide +kernel
theorem dL_wantedFrom_8 : decode cL_wantedFrom 8 = .ok (.lastore, 1) := by decide +kernel
theorem dL_wantedFrom_9 : decode cL_wantedFrom 9 = .ok (.goto 9, 3) := by decide +kernel
theorem dL_wantedFrom_12 : decode cL_wantedFrom 12 = .ok (.astore_n 3, 1) := by decide +kernel
theorem dL_wantedFrom_13 : decode cL_wantedFrom 13 = .ok (.iconst 1, 1) := by decide +kernel
theorem dL_wantedFrom_14 : decode cL_wantedFrom 14 = .ok (.ireturn, 1) := by decide +kernel
theorem dL_wantedFrom_15 : decode cL_wantedFrom 15 = .ok (.astore_n 3, 1) := by decide +kernel
theorem dL_wantedFrom_16 : decode cL_wantedFrom 16 = .ok (.iconst 2, 1) := by decide +kernel
theorem dL_wantedFrom_17 : decode cL_wantedFrom 17 = .ok (.ireturn, 1) := by decide +kernel
theorem dL_wantedFrom_18 : decode cL_wantedFrom 18 = .ok (.iconst 0, 1) := by decide +kernel
theorem dL_wantedFrom_19 : decode cL_wantedFrom 19 = .ok (.ireturn, 1) := by decide +kernel
theorem dL_codeOf_0 : decode cL_codeOf 0 = .ok (.aload_n 2, 1) := by decide +kernel
theorem dL_codeOf_1 : decode cL_codeOf 1 = .ok (.iconst 0, 1) := by decide +kernel
theorem dL_codeOf_2 : decode cL_codeOf 2 = .ok (.aload_n 0, 1) := by decide +kernel
theorem dL_codeOf_3 : decode cL_codeOf 3 = .ok (.iload_n 1, 1) := by decide +kernel
theorem dL_codeOf_4 : decode cL_codeOf 4 = .ok (.invokevirtual 63, 3) := by decide +kernel
theorem dL_codeOf_7 : decode cL_codeOf 7 = .ok (.i2l, 1) := by decide +kernel
theorem dL_codeOf_8 : decode cL_codeOf 8 = .ok (.lastore, 1) := by decide +kernel
theorem dL_codeOf_9 : decode cL_codeOf 9 = .ok (.goto 6, 3) := by decide +kernel
theorem dL_codeOf_12 : decode cL_codeOf 12 = .ok (.astore_n 3, 1) := by decide +kernel
theorem dL_codeOf_13 : decode cL_codeOf 13 = .ok (.iconst 1, 1) := by decide +kernel
theorem dL_codeOf_14 : decode cL_codeOf 14 = .ok (.ireturn, 1) := by decide +kernel
theorem dL_codeOf_15 : decode cL_codeOf 15 = .ok (.iconst 0, 1) := by decide +kernel
theorem dL_codeOf_16 : decode cL_codeOf 16 = .ok (.ireturn, 1) := by decide +kernel
theorem dL_answerOf_0 : decode cL_answerOf 0 = .ok (.aload_n 2, 1) := by decide +kernel
theorem dL_answerOf_1 : decode cL_answerOf 1 = .ok (.iconst 0, 1) := by decide +kernel
theorem dL_answerOf_2 : decode cL_answerOf 2 = .ok (.aload_n 0, 1) := by decide +kernel
theorem dL_answerOf_3 : decode cL_answerOf 3 = .ok (.iload_n 1, 1) := by decide +kernel
theorem dL_answerOf_4 : decode cL_answerOf 4 = .ok (.invokevirtual 66, 3) := by decide +kernel
theorem dL_answerOf_7 : decode cL_answerOf 7 = .ok (.i2l, 1) := by decide +kernel
theorem dL_answerOf_8 : decode cL_answerOf 8 = .ok (.lastore, 1) := by decide +kernel
theorem dL_answerOf_9 : decode cL_answerOf 9 = .ok (.goto 9, 3) := by decide +kernel
theorem dL_answerOf_12 : decode cL_answerOf 12 = .ok (.astore_n 3, 1) := by decide +kernel
theorem dL_answerOf_13 : decode cL_answerOf 13 = .ok (.iconst 1, 1) := by decide +kernel
theorem dL_answerOf_14 : decode cL_answerOf 14 = .ok (.ireturn, 1) := by decide +kernel
theorem dL_answerOf_15 : decode cL_answerOf 15 = .ok (.astore_n 3, 1) := by decide +kernel
theorem dL_answerOf_16 : decode cL_answerOf 16 = .ok (.iconst 2, 1) := by decide +kernel
theorem dL_answerOf_17 : decode cL_answerOf 17 = .ok (.ireturn, 1) := by decide +kernel
theorem dL_answerOf_18 : decode cL_answerOf 18 = .ok (.iconst 0, 1) := by decide +kernel
theorem dL_answerOf_19 : decode cL_answerOf 19 = .ok (.ireturn, 1) := by decide +kernel
theorem dL_faults_0 : decode cL_faults 0 = .ok (.aload_n 2, 1) := by decide +kernel
theorem dL_faults_1 : decode cL_faults 1 = .ok (.iconst 0, 1) := by decide +kernel
theorem dL_faults_2 : decode cL_faults 2 = .ok (.aload_n 0, 1) := by decide +kernel
theorem dL_faults_3 : decode cL_faults 3 = .ok (.iload_n 1, 1) := by decide +kernel
theorem dL_faults_4 : decode cL_faults 4 = .ok (.invokevirtual 69, 3) := by decide +kernel
theorem dL_faults_7 : decode cL_faults 7 = .ok (.i2l, 1) := by decide +kernel
theorem dL_faults_8 : decode cL_faults 8 = .ok (.lastore, 1) := by decide +kernel
theorem dL_faults_9 : decode cL_faults 9 = .ok (.goto 6, 3) := by decide +kernel
theorem dL_faults_12 : decode cL_faults 12 = .ok (.astore_n 3, 1) := by decide +kernel
theorem dL_faults_13 : decode cL_faults 13 = .ok (.iconst 1, 1) := by decide +kernel
theorem dL_faults_14 : decode cL_faults 14 = .ok (.ireturn, 1) := by decide +kernel
theorem dL_faults_15 : decode cL_faults 15 = .ok (.iconst 0, 1) := by decide +kernel
theorem dL_faults_16 : decode cL_faults 16 = .ok (.ireturn, 1) := by decide +kernel
theorem dL_answersTo_0 : decode cL_answersTo 0 = .ok (.aload_n 2, 1) := by decide +kernel
theorem dL_answersTo_1 : decode cL_answersTo 1 = .ok (.iconst 0, 1) := by decide +kernel
theorem dL_answersTo_2 : decode cL_answersTo 2 = .ok (.aload_n 0, 1) := by decide +kernel
theorem dL_answersTo_3 : decode cL_answersTo 3 = .ok (.iload_n 1, 1) := by decide +kernel
theorem dL_answersTo_4 : decode cL_answersTo 4 = .ok (.invokevirtual 72, 3) := by decide +kernel
theorem dL_answersTo_7 : decode cL_answersTo 7 = .ok (.i2l, 1) := by decide +kernel
theorem dL_answersTo_8 : decode cL_answersTo 8 = .ok (.lastore, 1) := by decide +kernel
theorem dL_answersTo_9 : decode cL_answersTo 9 = .ok (.goto 6, 3) := by decide +kernel
theorem dL_answersTo_12 : decode cL_answersTo 12 = .ok (.astore_n 3, 1) := by decide +kernel
theorem dL_answersTo_13 : decode cL_answersTo 13 = .ok (.iconst 1, 1) := by decide +kernel
theorem dL_answersTo_14 : decode cL_answersTo 14 = .ok (.ireturn, 1) := by decide +kernel
theorem dL_answersTo_15 : decode cL_answersTo 15 = .ok (.iconst 0, 1) := by decide +kernel
theorem dL_answersTo_16 : decode cL_answersTo 16 = .ok (.ireturn, 1) := by decide +kernel
theorem dL_target_0 : decode cL_target 0 = .ok (.aload_n 2, 1) := by decide +kernel
theorem dL_target_1 : decode cL_target 1 = .ok (.iconst 0, 1) := by decide +kernel
theorem dL_target_2 : decode cL_target 2 = .ok (.aload_n 0, 1) := by decide +kernel
theorem dL_target_3 : decode cL_target 3 = .ok (.iload_n 1, 1) := by decide +kernel
theorem dL_target_4 : decode cL_target 4 = .ok (.invokevirtual 75, 3) := by decide +kernel
theorem dL_target_7 : decode cL_target 7 = .ok (.i2l, 1) := by decide +kernel
theorem dL_target_8 : decode cL_target 8 = .ok (.lastore, 1) := by decide +kernel
theorem dL_target_9 : decode cL_target 9 = .ok (.goto 6, 3) := by decide +kernel
theorem dL_target_12 : decode cL_target 12 = .ok (.astore_n 3, 1) := by decide +kernel
theorem dL_target_13 : decode cL_target 13 = .ok (.iconst 1, 1) := by decide +kernel
theorem dL_target_14 : decode cL_target 14 = .ok (.ireturn, 1) := by decide +kernel
theorem dL_target_15 : decode cL_target 15 = .ok (.iconst 0, 1) := by decide +kernel
theorem dL_target_16 : decode cL_target 16 = .ok (.ireturn, 1) := by decide +kernel
theorem dL_weight_0 : decode cL_weight 0 = .ok (.aload_n 2, 1) := by decide +kernel
theorem dL_weight_1 : decode cL_weight 1 = .ok (.iconst 0, 1) := by decide +kernel
theorem dL_weight_2 : decode cL_weight 2 = .ok (.aload_n 0, 1) := by decide +kernel
theorem dL_weight_3 : decode cL_weight 3 = .ok (.iload_n 1, 1) := by decide +kernel
theorem dL_weight_4 : decode cL_weight 4 = .ok (.invokevirtual 78, 3) := by decide +kernel
theorem dL_weight_7 : decode cL_weight 7 = .ok (.i2l, 1) := by decide +kernel
theorem dL_weight_8 : decode cL_weight 8 = .ok (.lastore, 1) := by decide +kernel
theorem dL_weight_9 : decode cL_weight 9 = .ok (.goto 9, 3) := by decide +kernel
theorem dL_weight_12 : decode cL_weight 12 = .ok (.astore_n 3, 1) := by decide +kernel
theorem dL_weight_13 : decode cL_weight 13 = .ok (.iconst 1, 1) := by decide +kernel
theorem dL_weight_14 : decode cL_weight 14 = .ok (.ireturn, 1) := by decide +kernel
theorem dL_weight_15 : decode cL_weight 15 = .ok (.astore_n 3, 1) := by decide +kernel
theorem dL_weight_16 : decode cL_weight 16 = .ok (.iconst 2, 1) := by decide +kernel
theorem dL_weight_17 : decode cL_weight 17 = .ok (.ireturn, 1) := by decide +kernel
theorem dL_weight_18 : decode cL_weight 18 = .ok (.iconst 0, 1) := by decide +kernel
theorem dL_weight_19 : decode cL_weight 19 = .ok (.ireturn, 1) := by decide +kernel
theorem dL_weightAnew_0 : decode cL_weightAnew 0 = .ok (.aload_n 2, 1) := by decide +kernel
theorem dL_weightAnew_1 : decode cL_weightAnew 1 = .ok (.iconst 0, 1) := by decide +kernel
theorem dL_weightAnew_2 : decode cL_weightAnew 2 = .ok (.aload_n 0, 1) := by decide +kernel
theorem dL_weightAnew_3 : decode cL_weightAnew 3 = .ok (.iload_n 1, 1) := by decide +kernel
theorem dL_weightAnew_4 : decode cL_weightAnew 4 = .ok (.invokevirtual 81, 3) := by decide +kernel
theorem dL_weightAnew_7 : decode cL_weightAnew 7 = .ok (.i2l, 1) := by decide +kernel
theorem dL_weightAnew_8 : decode cL_weightAnew 8 = .ok (.lastore, 1) := by decide +kernel
theorem dL_weightAnew_9 : decode cL_weightAnew 9 = .ok (.goto 9, 3) := by decide +kernel
theorem dL_weightAnew_12 : decode cL_weightAnew 12 = .ok (.astore_n 3, 1) := by decide +kernel
theorem dL_weightAnew_13 : decode cL_weightAnew 13 = .ok (.iconst 1, 1) := by decide +kernel
theorem dL_weightAnew_14 : decode cL_weightAnew 14 = .ok (.ireturn, 1) := by decide +kernel
theorem dL_weightAnew_15 : decode cL_weightAnew 15 = .ok (.astore_n 3, 1) := by decide +kernel
theorem dL_weightAnew_16 : decode cL_weightAnew 16 = .ok (.iconst 2, 1) := by decide +kernel
theorem dL_weightAnew_17 : decode cL_weightAnew 17 = .ok (.ireturn, 1) := by decide +kernel
theorem dL_weightAnew_18 : decode cL_weightAnew 18 = .ok (.iconst 0, 1) := by decide +kernel
theorem dL_weightAnew_19 : decode cL_weightAnew 19 = .ok (.ireturn, 1) := by decide +kernel
theorem dL_weightOfLanguage_0 : decode cL_weightOfLanguage 0 = .ok (.aload_n 2, 1) := by decide +kernel
theorem dL_weightOfLanguage_1 : decode cL_weightOfLanguage 1 = .ok (.iconst 0, 1) := by decide +kernel
theorem dL_weightOfLanguage_2 : decode cL_weightOfLanguage 2 = .ok (.aload_n 0, 1) := by decide +kernel
theorem dL_weightOfLanguage_3 : decode cL_weightOfLanguage 3 = .ok (.iload_n 1, 1) := by decide +kernel
theorem dL_weightOfLanguage_4 : decode cL_weightOfLanguage 4 = .ok (.invokevirtual 84, 3) := by decide +kernel
theorem dL_weightOfLanguage_7 : decode cL_weightOfLanguage 7 = .ok (.i2l, 1) := by decide +kernel
theorem dL_weightOfLanguage_8 : decode cL_weightOfLanguage 8 = .ok (.lastore, 1) := by decide +kernel
theorem dL_weightOfLanguage_9 : decode cL_weightOfLanguage 9 = .ok (.goto 6, 3) := by decide +kernel
theorem dL_weightOfLanguage_12 : decode cL_weightOfLanguage 12 = .ok (.astore_n 3, 1) := by decide +kernel
theorem dL_weightOfLanguage_13 : decode cL_weightOfLanguage 13 = .ok (.iconst 1, 1) := by decide +kernel
theorem dL_weightOfLanguage_14 : decode cL_weightOfLanguage 14 = .ok (.ireturn, 1) := by decide +kernel
theorem dL_weightOfLanguage_15 : decode cL_weightOfLanguage 15 = .ok (.iconst 0, 1) := by decide +kernel
theorem dL_weightOfLanguage_16 : decode cL_weightOfLanguage 16 = .ok (.ireturn, 1) := by decide +kernel
theorem dL_weightedMean_0 : decode cL_weightedMean 0 = .ok (.aload_n 1, 1) := by decide +kernel
theorem dL_weightedMean_1 : decode cL_weightedMean 1 = .ok (.iconst 0, 1) := by decide +kernel
theorem dL_weightedMean_2 : decode cL_weightedMean 2 = .ok (.aload_n 0, 1) := by decide +kernel
theorem dL_weightedMean_3 : decode cL_weightedMean 3 = .ok (.invokevirtual 87, 3) := by decide +kernel
theorem dL_weightedMean_6 : decode cL_weightedMean 6 = .ok (.dastore, 1) := by decide +kernel
theorem dL_weightedMean_7 : decode cL_weightedMean 7 = .ok (.goto 6, 3) := by decide +kernel
theorem dL_weightedMean_10 : decode cL_weightedMean 10 = .ok (.astore_n 2, 1) := by decide +kernel
theorem dL_weightedMean_11 : decode cL_weightedMean 11 = .ok (.iconst 1, 1) := by decide +kernel
theorem dL_weightedMean_12 : decode cL_weightedMean 12 = .ok (.ireturn, 1) := by decide +kernel
theorem dL_weightedMean_13 : decode cL_weightedMean 13 = .ok (.iconst 0, 1) := by decide +kernel
theorem dL_weightedMean_14 : decode cL_weightedMean 14 = .ok (.ireturn, 1) := by decide +kernel
theorem dL_rate_0 : decode cL_rate 0 = .ok (.aload_n 1, 1) := by decide +kernel
theorem dL_rate_1 : decode cL_rate 1 = .ok (.iconst 0, 1) := by decide +kernel
theorem dL_rate_2 : decode cL_rate 2 = .ok (.aload_n 0, 1) := by decide +kernel
theorem dL_rate_3 : decode cL_rate 3 = .ok (.invokevirtual 93, 3) := by decide +kernel
theorem dL_rate_6 : decode cL_rate 6 = .ok (.f2d, 1) := by decide +kernel
theorem dL_rate_7 : decode cL_rate 7 = .ok (.dastore, 1) := by decide +kernel
theorem dL_rate_8 : decode cL_rate 8 = .ok (.goto 6, 3) := by decide +kernel
theorem dL_rate_11 : decode cL_rate 11 = .ok (.astore_n 2, 1) := by decide +kernel
theorem dL_rate_12 : decode cL_rate 12 = .ok (.iconst 1, 1) := by decide +kernel
theorem dL_rate_13 : decode cL_rate 13 = .ok (.ireturn, 1) := by decide +kernel
theorem dL_rate_14 : decode cL_rate 14 = .ok (.iconst 0, 1) := by decide +kernel
theorem dL_rate_15 : decode cL_rate 15 = .ok (.ireturn, 1) := by decide +kernel
theorem kL_101 : CSW RL 101 yL_setChance cL_setChance 4 [(0, 9, 12, 13)] 3 := ⟨gW_mem 258 (by decide +kernel) (by decide +kernel), gW_mem 259 (by decide +kernel) (by decide +kernel), gW_mem 41 (by decide +kernel) (by decide +kernel), gW_mem 260 (by decide +kernel) (by decide +kernel), rfl, by decide, by decide, by decide +kernel⟩
theorem kL_110 : CSW RL 110 yL_addStratum cL_addStratum 3 [(0, 8, 11, 19)] 2 := ⟨gW_mem 338 (by decide +kernel) (by decide +kernel), gW_mem 339 (by decide +kernel) (by decide +kernel), gW_mem 41 (by decide +kernel) (by decide +kernel), gW_mem 340 (by decide +kernel) (by decide +kernel), rfl, by decide, by decide, by decide +kernel⟩
theorem kL_114 : CSW RL 114 yL_addHouse cL_addHouse 6 [(0, 12, 15, 25), (0, 12, 19, 13), (0, 12, 23, 19)] 5 := ⟨gW_mem 362 (by decide +kernel) (by decide +kernel), gW_mem 363 (by decide +kernel) (by decide +kernel), gW_mem 41 (by decide +kernel) (by decide +kernel), gW_mem 364 (by decide +kernel) (by decide +kernel), rfl, by decide, by decide, by decide +kernel⟩
theorem kL_118 : CSW RL 118 yL_addInterviewer cL_addInterviewer 6 [(0, 12, 15, 13), (0, 12, 19, 19)] 5 := ⟨gW_mem 468 (by decide +kernel) (by decide +kernel), gW_mem 469 (by decide +kernel) (by decide +kernel), gW_mem 41 (by decide +kernel) (by decide +kernel), gW_mem 470 (by decide +kernel) (by decide +kernel), rfl, by decide, by decide, by decide +kernel⟩
theorem kL_121 : CSW RL 121 yL_draw cL_draw 5 [(0, 10, 13, 25), (0, 10, 17, 13), (0, 10, 21, 19)] 4 := ⟨gW_mem 507 (by decide +kernel) (by decide +kernel), gW_mem 508 (by decide +kernel) (by decide +kernel), gW_mem 41 (by decide +kernel) (by decide +kernel), gW_mem 509 (by decide +kernel) (by decide +kernel), rfl, by decide, by decide, by decide +kernel⟩
theorem kL_129 : CSW RL 129 yL_roundSize cL_roundSize 4 [(0, 9, 12, 25)] 3 := ⟨gW_mem 536 (by decide +kernel) (by decide +kernel), gW_mem 537 (by decide +kernel) (by decide +kernel), gW_mem 41 (by decide +kernel) (by decide +kernel), gW_mem 538 (by decide +kernel) (by decide +kernel), rfl, by decide, by decide, by decide +kernel⟩
theorem kL_132 : CSW RL 132 yL_roundAt cL_roundAt 5 [(0, 10, 13, 25), (0, 10, 17, 40)] 4 := ⟨gW_mem 552 (by decide +kernel) (by decide +kernel), gW_mem 553 (by decide +kernel) (by decide +kernel), gW_mem 41 (by decide +kernel) (by decide +kernel), gW_mem 554 (by decide +kernel) (by decide +kernel), rfl, by decide, by decide, by decide +kernel⟩
theorem kL_135 : CSW RL 135 yL_roundMinutes cL_roundMinutes 4 [(0, 9, 12, 25)] 3 := ⟨gW_mem 576 (by decide +kernel) (by decide +kernel), gW_mem 577 (by decide +kernel) (by decide +kernel), gW_mem 41 (by decide +kernel) (by decide +kernel), gW_mem 578 (by decide +kernel) (by decide +kernel), rfl, by decide, by decide, by decide +kernel⟩
theorem kL_138 : CSW RL 138 yL_visit cL_visit 6 [(0, 12, 15, 25), (0, 12, 19, 13), (0, 12, 23, 19)] 5 := ⟨gW_mem 590 (by decide +kernel) (by decide +kernel), gW_mem 591 (by decide +kernel) (by decide +kernel), gW_mem 41 (by decide +kernel) (by decide +kernel), gW_mem 592 (by decide +kernel) (by decide +kernel), rfl, by decide, by decide, by decide +kernel⟩
theorem kL_142 : CSW RL 142 yL_check cL_check 5 [(0, 17, 20, 25), (0, 17, 24, 13), (0, 17, 28, 19)] 4 := ⟨gW_mem 643 (by decide +kernel) (by decide +kernel), gW_mem 644 (by decide +kernel) (by decide +kernel), gW_mem 41 (by decide +kernel) (by decide +kernel), gW_mem 645 (by decide +kernel) (by decide +kernel), rfl, by decide, by decide, by decide +kernel⟩
theorem kL_145 : CSW RL 145 yL_endDay cL_endDay 3 [(0, 8, 11, 19)] 2 := ⟨gW_mem 656 (by decide +kernel) (by decide +kernel), gW_mem 657 (by decide +kernel) (by decide +kernel), gW_mem 41 (by decide +kernel) (by decide +kernel), gW_mem 658 (by decide +kernel) (by decide +kernel), rfl, by decide, by decide, by decide +kernel⟩
theorem kL_148 : CSW RL 148 yL_stateOf cL_stateOf 4 [(0, 9, 12, 25)] 3 := ⟨gW_mem 717 (by decide +kernel) (by decide +kernel), gW_mem 718 (by decide +kernel) (by decide +kernel), gW_mem 41 (by decide +kernel) (by decide +kernel), gW_mem 719 (by decide +kernel) (by decide +kernel), rfl, by decide, by decide, by decide +kernel⟩
theorem kL_151 : CSW RL 151 yL_wantedFrom cL_wantedFrom 4 [(0, 9, 12, 25), (0, 9, 15, 19)] 3 := ⟨gW_mem 724 (by decide +kernel) (by decide +kernel), gW_mem 725 (by decide +kernel) (by decide +kernel), gW_mem 41 (by decide +kernel) (by decide +kernel), gW_mem 726 (by decide +kernel) (by decide +kernel), rfl, by decide, by decide, by decide +kernel⟩
theorem kL_154 : CSW RL 154 yL_codeOf cL_codeOf 4 [(0, 9, 12, 25)] 3 := ⟨gW_mem 732 (by decide +kernel) (by decide +kernel), gW_mem 733 (by decide +kernel) (by decide +kernel), gW_mem 41 (by decide +kernel) (by decide +kernel), gW_mem 734 (by decide +kernel) (by decide +kernel), rfl, by decide, by decide, by decide +kernel⟩
theorem kL_157 : CSW RL 157 yL_answerOf cL_answerOf 4 [(0, 9, 12, 25), (0, 9, 15, 40)] 3 := ⟨gW_mem 739 (by decide +kernel) (by decide +kernel), gW_mem 740 (by decide +kernel) (by decide +kernel), gW_mem 41 (by decide +kernel) (by decide +kernel), gW_mem 741 (by decide +kernel) (by decide +kernel), rfl, by decide, by decide, by decide +kernel⟩
theorem kL_160 : CSW RL 160 yL_faults cL_faults 4 [(0, 9, 12, 25)] 3 := ⟨gW_mem 751 (by decide +kernel) (by decide +kernel), gW_mem 752 (by decide +kernel) (by decide +kernel), gW_mem 41 (by decide +kernel) (by decide +kernel), gW_mem 753 (by decide +kernel) (by decide +kernel), rfl, by decide, by decide, by decide +kernel⟩
theorem kL_163 : CSW RL 163 yL_answersTo cL_answersTo 4 [(0, 9, 12, 25)] 3 := ⟨gW_mem 758 (by decide +kernel) (by decide +kernel), gW_mem 759 (by decide +kernel) (by decide +kernel), gW_mem 41 (by decide +kernel) (by decide +kernel), gW_mem 760 (by decide +kernel) (by decide +kernel), rfl, by decide, by decide, by decide +kernel⟩
theorem kL_166 : CSW RL 166 yL_target cL_target 4 [(0, 9, 12, 25)] 3 := ⟨gW_mem 765 (by decide +kernel) (by decide +kernel), gW_mem 766 (by decide +kernel) (by decide +kernel), gW_mem 41 (by decide +kernel) (by decide +kernel), gW_mem 767 (by decide +kernel) (by decide +kernel), rfl, by decide, by decide, by decide +kernel⟩
theorem kL_169 : CSW RL 169 yL_weight cL_weight 4 [(0, 9, 12, 25), (0, 9, 15, 40)] 3 := ⟨gW_mem 772 (by decide +kernel) (by decide +kernel), gW_mem 773 (by decide +kernel) (by decide +kernel), gW_mem 41 (by decide +kernel) (by decide +kernel), gW_mem 774 (by decide +kernel) (by decide +kernel), rfl, by decide, by decide, by decide +kernel⟩
theorem kL_172 : CSW RL 172 yL_weightAnew cL_weightAnew 4 [(0, 9, 12, 25), (0, 9, 15, 40)] 3 := ⟨gW_mem 779 (by decide +kernel) (by decide +kernel), gW_mem 780 (by decide +kernel) (by decide +kernel), gW_mem 41 (by decide +kernel) (by decide +kernel), gW_mem 781 (by decide +kernel) (by decide +kernel), rfl, by decide, by decide, by decide +kernel⟩
theorem kL_175 : CSW RL 175 yL_weightOfLanguage cL_weightOfLanguage 4 [(0, 9, 12, 13)] 3 := ⟨gW_mem 786 (by decide +kernel) (by decide +kernel), gW_mem 787 (by decide +kernel) (by decide +kernel), gW_mem 41 (by decide +kernel) (by decide +kernel), gW_mem 788 (by decide +kernel) (by decide +kernel), rfl, by decide, by decide, by decide +kernel⟩
theorem kL_183 : CSW RL 183 yL_weightedMean cL_weightedMean 3 [(0, 7, 10, 91)] 2 := ⟨gW_mem 794 (by decide +kernel) (by decide +kernel), gW_mem 795 (by decide +kernel) (by decide +kernel), gW_mem 41 (by decide +kernel) (by decide +kernel), gW_mem 796 (by decide +kernel) (by decide +kernel), rfl, by decide, by decide, by decide +kernel⟩
theorem kL_187 : CSW RL 187 yL_rate cL_rate 3 [(0, 8, 11, 91)] 2 := ⟨gW_mem 823 (by decide +kernel) (by decide +kernel), gW_mem 824 (by decide +kernel) (by decide +kernel), gW_mem 41 (by decide +kernel) (by decide +kernel), gW_mem 825 (by decide +kernel) (by decide +kernel), rfl, by decide, by decide, by decide +kernel⟩
theorem clL_13 : Cond.classLink RL 13 "java/lang/IllegalArgumentException" ∈ gW := gW_mem 261 (by decide +kernel) (by decide +kernel)
theorem clL_19 : Cond.classLink RL 19 "java/lang/IllegalStateException" ∈ gW := gW_mem 341 (by decide +kernel) (by decide +kernel)
theorem clL_25 : Cond.classLink RL 25 "java/lang/IndexOutOfBoundsException" ∈ gW := gW_mem 365 (by decide +kernel) (by decide +kernel)
theorem clL_40 : Cond.classLink RL 40 "java/util/NoSuchElementException" ∈ gW := gW_mem 555 (by decide +kernel) (by decide +kernel)
theorem clL_91 : Cond.classLink RL 91 "java/lang/ArithmeticException" ∈ gW := gW_mem 797 (by decide +kernel) (by decide +kernel)
theorem cst_iae : Cond.castable "java/lang/IllegalArgumentException" "java/lang/IllegalArgumentException" ∈ xW := List.mem_filter.mpr ⟨List.mem_of_getElem? (i := 269) (by decide +kernel), by decide +kernel⟩
theorem cst_ise : Cond.castable "java/lang/IllegalStateException" "java/lang/IllegalStateException" ∈ xW := List.mem_filter.mpr ⟨List.mem_of_getElem? (i := 348) (by decide +kernel), by decide +kernel⟩
theorem cst_ibe : Cond.castable "java/lang/IndexOutOfBoundsException" "java/lang/IndexOutOfBoundsException" ∈ xW := List.mem_filter.mpr ⟨List.mem_of_getElem? (i := 399) (by decide +kernel), by decide +kernel⟩
theorem cst_nse : Cond.castable "java/util/NoSuchElementException" "java/util/NoSuchElementException" ∈ xW := List.mem_filter.mpr ⟨List.mem_of_getElem? (i := 562) (by decide +kernel), by decide +kernel⟩
theorem cst_are : Cond.castable "java/lang/ArithmeticException" "java/lang/ArithmeticException" ∈ xW := List.mem_filter.mpr ⟨List.mem_of_getElem? (i := 809) (by decide +kernel), by decide +kernel⟩
abbrev lo (cA : Nat → ClassId) (o : Nat) (f : Nat → Int64) : Nat × va_E := (o, .inl (cA 4, 1, .inr (.inl f)))
abbrev ld (cA : Nat → ClassId) (o : Nat) (g : Nat → UInt64) : Nat × va_E := (o, .inl (cA 5, 1, .inr (.inr (.inr (.inl g)))))
theorem st_last {w : va_W} {x y : Nat × va_E} : (w ++ [x]).set w.length y = w ++ [y] := by
  rw [List.set_append_right _ _ (Nat.le_refl _), Nat.sub_self]
  rfl
theorem z0n : (0 : Int32).toNatClampNeg = 0 := rfl
theorem vi01 : vp_in 0 1 := by unfold vp_in; decide
