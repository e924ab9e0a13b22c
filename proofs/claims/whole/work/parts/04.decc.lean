theorem dX0_init_0 : decode cX0_init 0 = .ok (.aload_n 0, 1) := by decide +kernel
theorem dX0_init_1 : decode cX0_init 1 = .ok (.invokespecial 3, 3) := by decide +kernel
theorem dX0_init_4 : decode cX0_init 4 = .ok (.aload_n 0, 1) := by decide +kernel
theorem dX0_init_5 : decode cX0_init 5 = .ok (.bipush 24, 2) := by decide +kernel
theorem dX0_init_7 : decode cX0_init 7 = .ok (.newarray .int, 2) := by decide +kernel
theorem dX0_init_9 : decode cX0_init 9 = .ok (.putfield 9, 3) := by decide +kernel
theorem dX0_init_12 : decode cX0_init 12 = .ok (.aload_n 0, 1) := by decide +kernel
theorem dX0_init_13 : decode cX0_init 13 = .ok (.bipush 24, 2) := by decide +kernel
theorem dX0_init_15 : decode cX0_init 15 = .ok (.newarray .int, 2) := by decide +kernel
theorem dX0_init_17 : decode cX0_init 17 = .ok (.putfield 15, 3) := by decide +kernel
theorem dX0_init_20 : decode cX0_init 20 = .ok (.aload_n 0, 1) := by decide +kernel
theorem dX0_init_21 : decode cX0_init 21 = .ok (.iconst 4, 1) := by decide +kernel
theorem dX0_init_22 : decode cX0_init 22 = .ok (.newarray .int, 2) := by decide +kernel
theorem dX0_init_24 : decode cX0_init 24 = .ok (.putfield 18, 3) := by decide +kernel
theorem dX0_init_27 : decode cX0_init 27 = .ok (.aload_n 0, 1) := by decide +kernel
theorem dX0_init_28 : decode cX0_init 28 = .ok (.iconst 3, 1) := by decide +kernel
theorem dX0_init_29 : decode cX0_init 29 = .ok (.newarray .int, 2) := by decide +kernel
theorem dX0_init_31 : decode cX0_init 31 = .ok (.putfield 21, 3) := by decide +kernel
theorem dX0_init_34 : decode cX0_init 34 = .ok (.aload_n 0, 1) := by decide +kernel
theorem dX0_init_35 : decode cX0_init 35 = .ok (.iconst 0, 1) := by decide +kernel
theorem dX0_init_36 : decode cX0_init 36 = .ok (.putfield 24, 3) := by decide +kernel
theorem dX0_init_39 : decode cX0_init 39 = .ok (.aload_n 0, 1) := by decide +kernel
theorem dX0_init_40 : decode cX0_init 40 = .ok (.iconst 0, 1) := by decide +kernel
theorem dX0_init_41 : decode cX0_init 41 = .ok (.putfield 28, 3) := by decide +kernel
theorem dX0_init_44 : decode cX0_init 44 = .ok (.return_, 1) := by decide +kernel
theorem dX0_raiseTargets_0 : decode cX0_raiseTargets 0 = .ok (.iload_n 1, 1) := by decide +kernel
theorem dX0_raiseTargets_1 : decode cX0_raiseTargets 1 = .ok (.ifCond .lt 11, 3) := by decide +kernel
theorem dX0_raiseTargets_4 : decode cX0_raiseTargets 4 = .ok (.iload_n 1, 1) := by decide +kernel
theorem dX0_raiseTargets_5 : decode cX0_raiseTargets 5 = .ok (.aload_n 0, 1) := by decide +kernel
theorem dX0_raiseTargets_6 : decode cX0_raiseTargets 6 = .ok (.getfield 28, 3) := by decide +kernel
theorem dX0_raiseTargets_9 : decode cX0_raiseTargets 9 = .ok (.if_icmp .lt 4, 3) := by decide +kernel
theorem dX0_raiseTargets_12 : decode cX0_raiseTargets 12 = .ok (.return_, 1) := by decide +kernel
theorem dX0_raiseTargets_13 : decode cX0_raiseTargets 13 = .ok (.aload_n 0, 1) := by decide +kernel
theorem dX0_raiseTargets_14 : decode cX0_raiseTargets 14 = .ok (.getfield 18, 3) := by decide +kernel
theorem dX0_raiseTargets_17 : decode cX0_raiseTargets 17 = .ok (.aload_n 0, 1) := by decide +kernel
theorem dX0_raiseTargets_18 : decode cX0_raiseTargets 18 = .ok (.getfield 9, 3) := by decide +kernel
theorem dX0_raiseTargets_21 : decode cX0_raiseTargets 21 = .ok (.iload_n 1, 1) := by decide +kernel
theorem dX0_raiseTargets_22 : decode cX0_raiseTargets 22 = .ok (.iaload, 1) := by decide +kernel
theorem dX0_raiseTargets_23 : decode cX0_raiseTargets 23 = .ok (.dup2, 1) := by decide +kernel
theorem dX0_raiseTargets_24 : decode cX0_raiseTargets 24 = .ok (.iaload, 1) := by decide +kernel
theorem dX0_raiseTargets_25 : decode cX0_raiseTargets 25 = .ok (.sipush 1000, 3) := by decide +kernel
theorem dX0_raiseTargets_28 : decode cX0_raiseTargets 28 = .ok (.iadd, 1) := by decide +kernel
theorem dX0_raiseTargets_29 : decode cX0_raiseTargets 29 = .ok (.iastore, 1) := by decide +kernel
theorem dX0_raiseTargets_30 : decode cX0_raiseTargets 30 = .ok (.aload_n 0, 1) := by decide +kernel
theorem dX0_raiseTargets_31 : decode cX0_raiseTargets 31 = .ok (.getfield 21, 3) := by decide +kernel
theorem dX0_raiseTargets_34 : decode cX0_raiseTargets 34 = .ok (.aload_n 0, 1) := by decide +kernel
theorem dX0_raiseTargets_35 : decode cX0_raiseTargets 35 = .ok (.getfield 15, 3) := by decide +kernel
theorem dX0_raiseTargets_38 : decode cX0_raiseTargets 38 = .ok (.iload_n 1, 1) := by decide +kernel
theorem dX0_raiseTargets_39 : decode cX0_raiseTargets 39 = .ok (.iaload, 1) := by decide +kernel
theorem dX0_raiseTargets_40 : decode cX0_raiseTargets 40 = .ok (.dup2, 1) := by decide +kernel
theorem dX0_raiseTargets_41 : decode cX0_raiseTargets 41 = .ok (.iaload, 1) := by decide +kernel
theorem dX0_raiseTargets_42 : decode cX0_raiseTargets 42 = .ok (.sipush 1000, 3) := by decide +kernel
theorem dX0_raiseTargets_45 : decode cX0_raiseTargets 45 = .ok (.iadd, 1) := by decide +kernel
theorem dX0_raiseTargets_46 : decode cX0_raiseTargets 46 = .ok (.iastore, 1) := by decide +kernel
theorem dX0_raiseTargets_47 : decode cX0_raiseTargets 47 = .ok (.return_, 1) := by decide +kernel
theorem dX1_init_0 : decode cX1_init 0 = .ok (.aload_n 0, 1) := by decide +kernel
theorem dX1_init_1 : decode cX1_init 1 = .ok (.invokespecial 3, 3) := by decide +kernel
theorem dX1_init_4 : decode cX1_init 4 = .ok (.aload_n 0, 1) := by decide +kernel
theorem dX1_init_5 : decode cX1_init 5 = .ok (.sipush 512, 3) := by decide +kernel
theorem dX1_init_8 : decode cX1_init 8 = .ok (.newarray .int, 2) := by decide +kernel
theorem dX1_init_10 : decode cX1_init 10 = .ok (.putfield 9, 3) := by decide +kernel
theorem dX1_init_13 : decode cX1_init 13 = .ok (.aload_n 0, 1) := by decide +kernel
theorem dX1_init_14 : decode cX1_init 14 = .ok (.iconst 0, 1) := by decide +kernel
theorem dX1_init_15 : decode cX1_init 15 = .ok (.putfield 15, 3) := by decide +kernel
theorem dX1_init_18 : decode cX1_init 18 = .ok (.return_, 1) := by decide +kernel
theorem dX1_append_0 : decode cX1_append 0 = .ok (.aload_n 0, 1) := by decide +kernel
theorem dX1_append_1 : decode cX1_append 1 = .ok (.getfield 15, 3) := by decide +kernel
theorem dX1_append_4 : decode cX1_append 4 = .ok (.aload_n 0, 1) := by decide +kernel
theorem dX1_append_5 : decode cX1_append 5 = .ok (.getfield 9, 3) := by decide +kernel
theorem dX1_append_8 : decode cX1_append 8 = .ok (.arraylength, 1) := by decide +kernel
theorem dX1_append_9 : decode cX1_append 9 = .ok (.if_icmp .lt 4, 3) := by decide +kernel
theorem dX1_append_12 : decode cX1_append 12 = .ok (.return_, 1) := by decide +kernel
theorem dX1_append_13 : decode cX1_append 13 = .ok (.aload_n 0, 1) := by decide +kernel
theorem dX1_append_14 : decode cX1_append 14 = .ok (.getfield 9, 3) := by decide +kernel
theorem dX1_append_17 : decode cX1_append 17 = .ok (.aload_n 0, 1) := by decide +kernel
theorem dX1_append_18 : decode cX1_append 18 = .ok (.getfield 15, 3) := by decide +kernel
theorem dX1_append_21 : decode cX1_append 21 = .ok (.iload_n 1, 1) := by decide +kernel
theorem dX1_append_22 : decode cX1_append 22 = .ok (.bipush 16, 2) := by decide +kernel
theorem dX1_append_24 : decode cX1_append 24 = .ok (.ishl, 1) := by decide +kernel
theorem dX1_append_25 : decode cX1_append 25 = .ok (.iload_n 3, 1) := by decide +kernel
theorem dX1_append_26 : decode cX1_append 26 = .ok (.bipush 12, 2) := by decide +kernel
theorem dX1_append_28 : decode cX1_append 28 = .ok (.ishl, 1) := by decide +kernel
theorem dX1_append_29 : decode cX1_append 29 = .ok (.ior, 1) := by decide +kernel
theorem dX1_append_30 : decode cX1_append 30 = .ok (.iload_n 2, 1) := by decide +kernel
theorem dX1_append_31 : decode cX1_append 31 = .ok (.iconst 4, 1) := by decide +kernel
theorem dX1_append_32 : decode cX1_append 32 = .ok (.ishl, 1) := by decide +kernel
theorem dX1_append_33 : decode cX1_append 33 = .ok (.ior, 1) := by decide +kernel
theorem dX1_append_34 : decode cX1_append 34 = .ok (.iload 4, 2) := by decide +kernel
theorem dX1_append_36 : decode cX1_append 36 = .ok (.ior, 1) := by decide +kernel
theorem dX1_append_37 : decode cX1_append 37 = .ok (.iastore, 1) := by decide +kernel
theorem dX1_append_38 : decode cX1_append 38 = .ok (.aload_n 0, 1) := by decide +kernel
theorem dX1_append_39 : decode cX1_append 39 = .ok (.dup, 1) := by decide +kernel
theorem dX1_append_40 : decode cX1_append 40 = .ok (.getfield 15, 3) := by decide +kernel
theorem dX1_append_43 : decode cX1_append 43 = .ok (.iconst 1, 1) := by decide +kernel
theorem dX1_append_44 : decode cX1_append 44 = .ok (.iadd, 1) := by decide +kernel
theorem dX1_append_45 : decode cX1_append 45 = .ok (.putfield 15, 3) := by decide +kernel
theorem dX1_append_48 : decode cX1_append 48 = .ok (.return_, 1) := by decide +kernel
theorem dX1_retell_0 : decode cX1_retell 0 = .ok (.aload_n 1, 1) := by decide +kernel
theorem dX1_retell_1 : decode cX1_retell 1 = .ok (.invokevirtual 19, 3) := by decide +kernel
theorem dX1_retell_4 : decode cX1_retell 4 = .ok (.iconst 0, 1) := by decide +kernel
theorem dX1_retell_5 : decode cX1_retell 5 = .ok (.istore_n 2, 1) := by decide +kernel
theorem dX1_retell_6 : decode cX1_retell 6 = .ok (.iload_n 2, 1) := by decide +kernel
theorem dX1_retell_7 : decode cX1_retell 7 = .ok (.aload_n 0, 1) := by decide +kernel
theorem dX1_retell_8 : decode cX1_retell 8 = .ok (.getfield 15, 3) := by decide +kernel
theorem dX1_retell_11 : decode cX1_retell 11 = .ok (.if_icmp .ge 20, 3) := by decide +kernel
theorem dX1_retell_14 : decode cX1_retell 14 = .ok (.aload_n 0, 1) := by decide +kernel
theorem dX1_retell_15 : decode cX1_retell 15 = .ok (.aload_n 0, 1) := by decide +kernel
theorem dX1_retell_16 : decode cX1_retell 16 = .ok (.getfield 9, 3) := by decide +kernel
theorem dX1_retell_19 : decode cX1_retell 19 = .ok (.iload_n 2, 1) := by decide +kernel
theorem dX1_retell_20 : decode cX1_retell 20 = .ok (.iaload, 1) := by decide +kernel
theorem dX1_retell_21 : decode cX1_retell 21 = .ok (.aload_n 1, 1) := by decide +kernel
theorem dX1_retell_22 : decode cX1_retell 22 = .ok (.invokevirtual 24, 3) := by decide +kernel
theorem dX1_retell_25 : decode cX1_retell 25 = .ok (.iinc 2 1, 3) := by decide +kernel
theorem dX1_retell_28 : decode cX1_retell 28 = .ok (.goto (-22), 3) := by decide +kernel
theorem dX1_retell_31 : decode cX1_retell 31 = .ok (.return_, 1) := by decide +kernel
theorem dX1_retellOne_0 : decode cX1_retellOne 0 = .ok (.iload_n 1, 1) := by decide +kernel
theorem dX1_retellOne_1 : decode cX1_retellOne 1 = .ok (.bipush 16, 2) := by decide +kernel
theorem dX1_retellOne_3 : decode cX1_retellOne 3 = .ok (.ishr, 1) := by decide +kernel
theorem dX1_retellOne_4 : decode cX1_retellOne 4 = .ok (.istore_n 3, 1) := by decide +kernel
theorem dX1_retellOne_5 : decode cX1_retellOne 5 = .ok (.iload_n 1, 1) := by decide +kernel
theorem dX1_retellOne_6 : decode cX1_retellOne 6 = .ok (.bipush 12, 2) := by decide +kernel
theorem dX1_retellOne_8 : decode cX1_retellOne 8 = .ok (.ishr, 1) := by decide +kernel
theorem dX1_retellOne_9 : decode cX1_retellOne 9 = .ok (.iconst 3, 1) := by decide +kernel
theorem dX1_retellOne_10 : decode cX1_retellOne 10 = .ok (.iand, 1) := by decide +kernel
theorem dX1_retellOne_11 : decode cX1_retellOne 11 = .ok (.istore 4, 2) := by decide +kernel
theorem dX1_retellOne_13 : decode cX1_retellOne 13 = .ok (.iload_n 1, 1) := by decide +kernel
theorem dX1_retellOne_14 : decode cX1_retellOne 14 = .ok (.iconst 4, 1) := by decide +kernel
theorem dX1_retellOne_15 : decode cX1_retellOne 15 = .ok (.ishr, 1) := by decide +kernel
theorem dX1_retellOne_16 : decode cX1_retellOne 16 = .ok (.bipush 31, 2) := by decide +kernel
theorem dX1_retellOne_18 : decode cX1_retellOne 18 = .ok (.iand, 1) := by decide +kernel
theorem dX1_retellOne_19 : decode cX1_retellOne 19 = .ok (.istore 5, 2) := by decide +kernel
theorem dX1_retellOne_21 : decode cX1_retellOne 21 = .ok (.iload_n 1, 1) := by decide +kernel
theorem dX1_retellOne_22 : decode cX1_retellOne 22 = .ok (.bipush 15, 2) := by decide +kernel
theorem dX1_retellOne_24 : decode cX1_retellOne 24 = .ok (.iand, 1) := by decide +kernel
theorem dX1_retellOne_25 : decode cX1_retellOne 25 = .ok (.istore 6, 2) := by decide +kernel
theorem dX1_retellOne_27 : decode cX1_retellOne 27 = .ok (.iload 5, 2) := by decide +kernel
theorem dX1_retellOne_29 : decode cX1_retellOne 29 = .ok (.bipush 24, 2) := by decide +kernel
theorem dX1_retellOne_31 : decode cX1_retellOne 31 = .ok (.if_icmp .lt 4, 3) := by decide +kernel
theorem dX1_retellOne_34 : decode cX1_retellOne 34 = .ok (.return_, 1) := by decide +kernel
theorem dX1_retellOne_35 : decode cX1_retellOne 35 = .ok (.iload_n 3, 1) := by decide +kernel
theorem dX1_retellOne_36 : decode cX1_retellOne 36 = .ok (.bipush 97, 2) := by decide +kernel
theorem dX1_retellOne_38 : decode cX1_retellOne 38 = .ok (.if_icmp .ne 16, 3) := by decide +kernel
theorem dX1_retellOne_41 : decode cX1_retellOne 41 = .ok (.aload_n 2, 1) := by decide +kernel
theorem dX1_retellOne_42 : decode cX1_retellOne 42 = .ok (.iload 5, 2) := by decide +kernel
theorem dX1_retellOne_44 : decode cX1_retellOne 44 = .ok (.iload 4, 2) := by decide +kernel
theorem dX1_retellOne_46 : decode cX1_retellOne 46 = .ok (.iload 6, 2) := by decide +kernel
theorem dX1_retellOne_48 : decode cX1_retellOne 48 = .ok (.invokevirtual 28, 3) := by decide +kernel
theorem dX1_retellOne_51 : decode cX1_retellOne 51 = .ok (.goto 18, 3) := by decide +kernel
theorem dX1_retellOne_54 : decode cX1_retellOne 54 = .ok (.iload_n 3, 1) := by decide +kernel
theorem dX1_retellOne_55 : decode cX1_retellOne 55 = .ok (.bipush 99, 2) := by decide +kernel
theorem dX1_retellOne_57 : decode cX1_retellOne 57 = .ok (.if_icmp .ne 12, 3) := by decide +kernel
theorem dX1_retellOne_60 : decode cX1_retellOne 60 = .ok (.aload_n 2, 1) := by decide +kernel
theorem dX1_retellOne_61 : decode cX1_retellOne 61 = .ok (.iload 5, 2) := by decide +kernel
theorem dX1_retellOne_63 : decode cX1_retellOne 63 = .ok (.iload 6, 2) := by decide +kernel
theorem dX1_retellOne_65 : decode cX1_retellOne 65 = .ok (.invokevirtual 32, 3) := by decide +kernel
theorem dX1_retellOne_68 : decode cX1_retellOne 68 = .ok (.pop, 1) := by decide +kernel
theorem dX1_retellOne_69 : decode cX1_retellOne 69 = .ok (.return_, 1) := by decide +kernel
theorem dX2_init_0 : decode cX2_init 0 = .ok (.aload_n 0, 1) := by decide +kernel
theorem dX2_init_1 : decode cX2_init 1 = .ok (.invokespecial 3, 3) := by decide +kernel
theorem dX2_init_4 : decode cX2_init 4 = .ok (.aload_n 0, 1) := by decide +kernel
theorem dX2_init_5 : decode cX2_init 5 = .ok (.bipush 117, 2) := by decide +kernel
theorem dX2_init_7 : decode cX2_init 7 = .ok (.putfield 9, 3) := by decide +kernel
theorem dX2_init_10 : decode cX2_init 10 = .ok (.aload_n 0, 1) := by decide +kernel
theorem dX2_init_11 : decode cX2_init 11 = .ok (.iconst 0, 1) := by decide +kernel
theorem dX2_init_12 : decode cX2_init 12 = .ok (.putfield 15, 3) := by decide +kernel
theorem dX2_init_15 : decode cX2_init 15 = .ok (.aload_n 0, 1) := by decide +kernel
theorem dX2_init_16 : decode cX2_init 16 = .ok (.iconst 0, 1) := by decide +kernel
theorem dX2_init_17 : decode cX2_init 17 = .ok (.putfield 19, 3) := by decide +kernel
theorem dX2_init_20 : decode cX2_init 20 = .ok (.aload_n 0, 1) := by decide +kernel
theorem dX2_init_21 : decode cX2_init 21 = .ok (.iconst 0, 1) := by decide +kernel
theorem dX2_init_22 : decode cX2_init 22 = .ok (.putfield 22, 3) := by decide +kernel
theorem dX2_init_25 : decode cX2_init 25 = .ok (.aload_n 0, 1) := by decide +kernel
theorem dX2_init_26 : decode cX2_init 26 = .ok (.iconst 0, 1) := by decide +kernel
theorem dX2_init_27 : decode cX2_init 27 = .ok (.putfield 25, 3) := by decide +kernel
theorem dX2_init_30 : decode cX2_init 30 = .ok (.aload_n 0, 1) := by decide +kernel
theorem dX2_init_31 : decode cX2_init 31 = .ok (.iconst 0, 1) := by decide +kernel
theorem dX2_init_32 : decode cX2_init 32 = .ok (.putfield 28, 3) := by decide +kernel
theorem dX2_init_35 : decode cX2_init 35 = .ok (.aload_n 0, 1) := by decide +kernel
theorem dX2_init_36 : decode cX2_init 36 = .ok (.iconst (-1), 1) := by decide +kernel
theorem dX2_init_37 : decode cX2_init 37 = .ok (.putfield 31, 3) := by decide +kernel
theorem dX2_init_40 : decode cX2_init 40 = .ok (.aload_n 0, 1) := by decide +kernel
theorem dX2_init_41 : decode cX2_init 41 = .ok (.iconst 0, 1) := by decide +kernel
theorem dX2_init_42 : decode cX2_init 42 = .ok (.putfield 34, 3) := by decide +kernel
theorem dX2_init_45 : decode cX2_init 45 = .ok (.aload_n 0, 1) := by decide +kernel
theorem dX2_init_46 : decode cX2_init 46 = .ok (.iconst 0, 1) := by decide +kernel
theorem dX2_init_47 : decode cX2_init 47 = .ok (.putfield 38, 3) := by decide +kernel
theorem dX2_init_50 : decode cX2_init 50 = .ok (.aload_n 0, 1) := by decide +kernel
theorem dX2_init_51 : decode cX2_init 51 = .ok (.iconst 0, 1) := by decide +kernel
theorem dX2_init_52 : decode cX2_init 52 = .ok (.putfield 41, 3) := by decide +kernel
theorem dX2_init_55 : decode cX2_init 55 = .ok (.aload_n 0, 1) := by decide +kernel
theorem dX2_init_56 : decode cX2_init 56 = .ok (.iload_n 1, 1) := by decide +kernel
theorem dX2_init_57 : decode cX2_init 57 = .ok (.putfield 44, 3) := by decide +kernel
theorem dX2_init_60 : decode cX2_init 60 = .ok (.return_, 1) := by decide +kernel
theorem dX2_beginDay_0 : decode cX2_beginDay 0 = .ok (.aload_n 0, 1) := by decide +kernel
theorem dX2_beginDay_1 : decode cX2_beginDay 1 = .ok (.iconst (-1), 1) := by decide +kernel
theorem dX2_beginDay_2 : decode cX2_beginDay 2 = .ok (.putfield 31, 3) := by decide +kernel
theorem dX2_beginDay_5 : decode cX2_beginDay 5 = .ok (.aload_n 0, 1) := by decide +kernel
theorem dX2_beginDay_6 : decode cX2_beginDay 6 = .ok (.iconst 0, 1) := by decide +kernel
theorem dX2_beginDay_7 : decode cX2_beginDay 7 = .ok (.putfield 34, 3) := by decide +kernel
theorem dX2_beginDay_10 : decode cX2_beginDay 10 = .ok (.aload_n 0, 1) := by decide +kernel
theorem dX2_beginDay_11 : decode cX2_beginDay 11 = .ok (.iconst 0, 1) := by decide +kernel
theorem dX2_beginDay_12 : decode cX2_beginDay 12 = .ok (.putfield 38, 3) := by decide +kernel
theorem dX2_beginDay_15 : decode cX2_beginDay 15 = .ok (.return_, 1) := by decide +kernel
theorem dX2_wantFrom_0 : decode cX2_wantFrom 0 = .ok (.aload_n 0, 1) := by decide +kernel
theorem dX2_wantFrom_1 : decode cX2_wantFrom 1 = .ok (.bipush 119, 2) := by decide +kernel
theorem dX2_wantFrom_3 : decode cX2_wantFrom 3 = .ok (.putfield 9, 3) := by decide +kernel
theorem dX2_wantFrom_6 : decode cX2_wantFrom 6 = .ok (.aload_n 0, 1) := by decide +kernel
theorem dX2_wantFrom_7 : decode cX2_wantFrom 7 = .ok (.iload_n 1, 1) := by decide +kernel
theorem dX2_wantFrom_8 : decode cX2_wantFrom 8 = .ok (.putfield 15, 3) := by decide +kernel
theorem dX2_wantFrom_11 : decode cX2_wantFrom 11 = .ok (.return_, 1) := by decide +kernel
theorem dX2_lose_0 : decode cX2_lose 0 = .ok (.aload_n 0, 1) := by decide +kernel
theorem dX2_lose_1 : decode cX2_lose 1 = .ok (.iload_n 1, 1) := by decide +kernel
theorem dX2_lose_2 : decode cX2_lose 2 = .ok (.putfield 9, 3) := by decide +kernel
theorem dX2_lose_5 : decode cX2_lose 5 = .ok (.aload_n 0, 1) := by decide +kernel
theorem dX2_lose_6 : decode cX2_lose 6 = .ok (.iconst 1, 1) := by decide +kernel
theorem dX2_lose_7 : decode cX2_lose 7 = .ok (.putfield 38, 3) := by decide +kernel
theorem dX2_lose_10 : decode cX2_lose 10 = .ok (.return_, 1) := by decide +kernel
theorem dX2_meetNobody_0 : decode cX2_meetNobody 0 = .ok (.aload_n 0, 1) := by decide +kernel
theorem dX2_meetNobody_1 : decode cX2_meetNobody 1 = .ok (.dup, 1) := by decide +kernel
theorem dX2_meetNobody_2 : decode cX2_meetNobody 2 = .ok (.getfield 22, 3) := by decide +kernel
theorem dX2_meetNobody_5 : decode cX2_meetNobody 5 = .ok (.iconst 1, 1) := by decide +kernel
theorem dX2_meetNobody_6 : decode cX2_meetNobody 6 = .ok (.iadd, 1) := by decide +kernel
theorem dX2_meetNobody_7 : decode cX2_meetNobody 7 = .ok (.putfield 22, 3) := by decide +kernel
theorem dX2_meetNobody_10 : decode cX2_meetNobody 10 = .ok (.aload_n 0, 1) := by decide +kernel
theorem dX2_meetNobody_11 : decode cX2_meetNobody 11 = .ok (.getfield 22, 3) := by decide +kernel
theorem dX2_meetNobody_14 : decode cX2_meetNobody 14 = .ok (.iconst 3, 1) := by decide +kernel
theorem dX2_meetNobody_15 : decode cX2_meetNobody 15 = .ok (.if_icmp .lt 12, 3) := by decide +kernel
theorem dX2_meetNobody_18 : decode cX2_meetNobody 18 = .ok (.aload_n 0, 1) := by decide +kernel
theorem dX2_meetNobody_19 : decode cX2_meetNobody 19 = .ok (.bipush 103, 2) := by decide +kernel
theorem dX2_meetNobody_21 : decode cX2_meetNobody 21 = .ok (.invokevirtual 47, 3) := by decide +kernel
theorem dX2_meetNobody_24 : decode cX2_meetNobody 24 = .ok (.goto 13, 3) := by decide +kernel
theorem dX2_meetNobody_27 : decode cX2_meetNobody 27 = .ok (.aload_n 0, 1) := by decide +kernel
theorem dX2_meetNobody_28 : decode cX2_meetNobody 28 = .ok (.iload_n 1, 1) := by decide +kernel
theorem dX2_meetNobody_29 : decode cX2_meetNobody 29 = .ok (.aload_n 0, 1) := by decide +kernel
theorem dX2_meetNobody_30 : decode cX2_meetNobody 30 = .ok (.getfield 22, 3) := by decide +kernel
theorem dX2_meetNobody_33 : decode cX2_meetNobody 33 = .ok (.iadd, 1) := by decide +kernel
theorem dX2_meetNobody_34 : decode cX2_meetNobody 34 = .ok (.invokevirtual 51, 3) := by decide +kernel
theorem dX2_meetNobody_37 : decode cX2_meetNobody 37 = .ok (.return_, 1) := by decide +kernel
theorem dX2_refuse_0 : decode cX2_refuse 0 = .ok (.aload_n 0, 1) := by decide +kernel
theorem dX2_refuse_1 : decode cX2_refuse 1 = .ok (.dup, 1) := by decide +kernel
theorem dX2_refuse_2 : decode cX2_refuse 2 = .ok (.getfield 25, 3) := by decide +kernel
theorem dX2_refuse_5 : decode cX2_refuse 5 = .ok (.iconst 1, 1) := by decide +kernel
theorem dX2_refuse_6 : decode cX2_refuse 6 = .ok (.iadd, 1) := by decide +kernel
theorem dX2_refuse_7 : decode cX2_refuse 7 = .ok (.putfield 25, 3) := by decide +kernel
theorem dX2_refuse_10 : decode cX2_refuse 10 = .ok (.aload_n 0, 1) := by decide +kernel
theorem dX2_refuse_11 : decode cX2_refuse 11 = .ok (.dup, 1) := by decide +kernel
theorem dX2_refuse_12 : decode cX2_refuse 12 = .ok (.getfield 28, 3) := by decide +kernel
theorem dX2_refuse_15 : decode cX2_refuse 15 = .ok (.iconst 1, 1) := by decide +kernel
theorem dX2_refuse_16 : decode cX2_refuse 16 = .ok (.iload_n 1, 1) := by decide +kernel
theorem dX2_refuse_17 : decode cX2_refuse 17 = .ok (.ishl, 1) := by decide +kernel
theorem dX2_refuse_18 : decode cX2_refuse 18 = .ok (.ior, 1) := by decide +kernel
theorem dX2_refuse_19 : decode cX2_refuse 19 = .ok (.putfield 28, 3) := by decide +kernel
theorem dX2_refuse_22 : decode cX2_refuse 22 = .ok (.aload_n 0, 1) := by decide +kernel
theorem dX2_refuse_23 : decode cX2_refuse 23 = .ok (.getfield 25, 3) := by decide +kernel
theorem dX2_refuse_26 : decode cX2_refuse 26 = .ok (.iconst 2, 1) := by decide +kernel
theorem dX2_refuse_27 : decode cX2_refuse 27 = .ok (.if_icmp .lt 12, 3) := by decide +kernel
theorem dX2_refuse_30 : decode cX2_refuse 30 = .ok (.aload_n 0, 1) := by decide +kernel
theorem dX2_refuse_31 : decode cX2_refuse 31 = .ok (.bipush 114, 2) := by decide +kernel
theorem dX2_refuse_33 : decode cX2_refuse 33 = .ok (.invokevirtual 47, 3) := by decide +kernel
theorem dX2_refuse_36 : decode cX2_refuse 36 = .ok (.goto 10, 3) := by decide +kernel
theorem dX2_refuse_39 : decode cX2_refuse 39 = .ok (.aload_n 0, 1) := by decide +kernel
theorem dX2_refuse_40 : decode cX2_refuse 40 = .ok (.iload_n 2, 1) := by decide +kernel
theorem dX2_refuse_41 : decode cX2_refuse 41 = .ok (.iconst 3, 1) := by decide +kernel
theorem dX2_refuse_42 : decode cX2_refuse 42 = .ok (.iadd, 1) := by decide +kernel
theorem dX2_refuse_43 : decode cX2_refuse 43 = .ok (.invokevirtual 51, 3) := by decide +kernel
theorem dX2_refuse_46 : decode cX2_refuse 46 = .ok (.return_, 1) := by decide +kernel
theorem dX2_hasRefused_0 : decode cX2_hasRefused 0 = .ok (.aload_n 0, 1) := by decide +kernel
theorem dX2_hasRefused_1 : decode cX2_hasRefused 1 = .ok (.getfield 28, 3) := by decide +kernel
theorem dX2_hasRefused_4 : decode cX2_hasRefused 4 = .ok (.iload_n 1, 1) := by decide +kernel
theorem dX2_hasRefused_5 : decode cX2_hasRefused 5 = .ok (.ishr, 1) := by decide +kernel
theorem dX2_hasRefused_6 : decode cX2_hasRefused 6 = .ok (.iconst 1, 1) := by decide +kernel
theorem dX2_hasRefused_7 : decode cX2_hasRefused 7 = .ok (.iand, 1) := by decide +kernel
theorem dX2_hasRefused_8 : decode cX2_hasRefused 8 = .ok (.iconst 1, 1) := by decide +kernel
theorem dX2_hasRefused_9 : decode cX2_hasRefused 9 = .ok (.if_icmp .ne 7, 3) := by decide +kernel
theorem dX2_hasRefused_12 : decode cX2_hasRefused 12 = .ok (.iconst 1, 1) := by decide +kernel
theorem dX2_hasRefused_13 : decode cX2_hasRefused 13 = .ok (.goto 4, 3) := by decide +kernel
theorem dX2_hasRefused_16 : decode cX2_hasRefused 16 = .ok (.iconst 0, 1) := by decide +kernel
theorem dX2_hasRefused_17 : decode cX2_hasRefused 17 = .ok (.ireturn, 1) := by decide +kernel
theorem dX2_isFree_0 : decode cX2_isFree 0 = .ok (.aload_n 0, 1) := by decide +kernel
theorem dX2_isFree_1 : decode cX2_isFree 1 = .ok (.getfield 9, 3) := by decide +kernel
theorem dX2_isFree_4 : decode cX2_isFree 4 = .ok (.bipush 119, 2) := by decide +kernel
theorem dX2_isFree_6 : decode cX2_isFree 6 = .ok (.if_icmp .ne 23, 3) := by decide +kernel
theorem dX2_isFree_9 : decode cX2_isFree 9 = .ok (.aload_n 0, 1) := by decide +kernel
theorem dX2_isFree_10 : decode cX2_isFree 10 = .ok (.getfield 15, 3) := by decide +kernel
theorem dX2_isFree_13 : decode cX2_isFree 13 = .ok (.iload_n 1, 1) := by decide +kernel
theorem dX2_isFree_14 : decode cX2_isFree 14 = .ok (.if_icmp .gt 15, 3) := by decide +kernel
theorem dX2_isFree_17 : decode cX2_isFree 17 = .ok (.aload_n 0, 1) := by decide +kernel
theorem dX2_isFree_18 : decode cX2_isFree 18 = .ok (.getfield 31, 3) := by decide +kernel
theorem dX2_isFree_21 : decode cX2_isFree 21 = .ok (.iconst (-1), 1) := by decide +kernel
theorem dX2_isFree_22 : decode cX2_isFree 22 = .ok (.if_icmp .ne 7, 3) := by decide +kernel
theorem dX2_isFree_25 : decode cX2_isFree 25 = .ok (.iconst 1, 1) := by decide +kernel
theorem dX2_isFree_26 : decode cX2_isFree 26 = .ok (.goto 4, 3) := by decide +kernel
theorem dX2_isFree_29 : decode cX2_isFree 29 = .ok (.iconst 0, 1) := by decide +kernel
theorem dX2_isFree_30 : decode cX2_isFree 30 = .ok (.ireturn, 1) := by decide +kernel
theorem dX3_init_0 : decode cX3_init 0 = .ok (.aload_n 0, 1) := by decide +kernel
theorem dX3_init_1 : decode cX3_init 1 = .ok (.invokespecial 3, 3) := by decide +kernel
theorem dX3_init_4 : decode cX3_init 4 = .ok (.aload_n 0, 1) := by decide +kernel
theorem dX3_init_5 : decode cX3_init 5 = .ok (.bipush 24, 2) := by decide +kernel
theorem dX3_init_7 : decode cX3_init 7 = .ok (.newarray .int, 2) := by decide +kernel
theorem dX3_init_9 : decode cX3_init 9 = .ok (.putfield 9, 3) := by decide +kernel
theorem dX3_init_12 : decode cX3_init 12 = .ok (.aload_n 0, 1) := by decide +kernel
theorem dX3_init_13 : decode cX3_init 13 = .ok (.iconst 0, 1) := by decide +kernel
theorem dX3_init_14 : decode cX3_init 14 = .ok (.putfield 15, 3) := by decide +kernel
theorem dX3_init_17 : decode cX3_init 17 = .ok (.aload_n 0, 1) := by decide +kernel
theorem dX3_init_18 : decode cX3_init 18 = .ok (.iconst 0, 1) := by decide +kernel
theorem dX3_init_19 : decode cX3_init 19 = .ok (.putfield 19, 3) := by decide +kernel
theorem dX3_init_22 : decode cX3_init 22 = .ok (.aload_n 0, 1) := by decide +kernel
theorem dX3_init_23 : decode cX3_init 23 = .ok (.iload_n 1, 1) := by decide +kernel
theorem dX3_init_24 : decode cX3_init 24 = .ok (.putfield 22, 3) := by decide +kernel
theorem dX3_init_27 : decode cX3_init 27 = .ok (.aload_n 0, 1) := by decide +kernel
theorem dX3_init_28 : decode cX3_init 28 = .ok (.iload_n 2, 1) := by decide +kernel
theorem dX3_init_29 : decode cX3_init 29 = .ok (.putfield 25, 3) := by decide +kernel
theorem dX3_init_32 : decode cX3_init 32 = .ok (.aload_n 0, 1) := by decide +kernel
theorem dX3_init_33 : decode cX3_init 33 = .ok (.iload_n 3, 1) := by decide +kernel
theorem dX3_init_34 : decode cX3_init 34 = .ok (.putfield 28, 3) := by decide +kernel
theorem dX3_init_37 : decode cX3_init 37 = .ok (.aload_n 0, 1) := by decide +kernel
theorem dX3_init_38 : decode cX3_init 38 = .ok (.iload_n 1, 1) := by decide +kernel
theorem dX3_init_39 : decode cX3_init 39 = .ok (.putfield 31, 3) := by decide +kernel
theorem dX3_init_42 : decode cX3_init 42 = .ok (.return_, 1) := by decide +kernel
theorem dX3_beginRound_0 : decode cX3_beginRound 0 = .ok (.aload_n 0, 1) := by decide +kernel
theorem dX3_beginRound_1 : decode cX3_beginRound 1 = .ok (.iconst 0, 1) := by decide +kernel
theorem dX3_beginRound_2 : decode cX3_beginRound 2 = .ok (.putfield 15, 3) := by decide +kernel
theorem dX3_beginRound_5 : decode cX3_beginRound 5 = .ok (.aload_n 0, 1) := by decide +kernel
theorem dX3_beginRound_6 : decode cX3_beginRound 6 = .ok (.aload_n 0, 1) := by decide +kernel
theorem dX3_beginRound_7 : decode cX3_beginRound 7 = .ok (.getfield 22, 3) := by decide +kernel
theorem dX3_beginRound_10 : decode cX3_beginRound 10 = .ok (.putfield 31, 3) := by decide +kernel
theorem dX3_beginRound_13 : decode cX3_beginRound 13 = .ok (.aload_n 0, 1) := by decide +kernel
theorem dX3_beginRound_14 : decode cX3_beginRound 14 = .ok (.iconst 0, 1) := by decide +kernel
theorem dX3_beginRound_15 : decode cX3_beginRound 15 = .ok (.putfield 19, 3) := by decide +kernel
theorem dX3_beginRound_18 : decode cX3_beginRound 18 = .ok (.return_, 1) := by decide +kernel
theorem dX3_speaks_0 : decode cX3_speaks 0 = .ok (.aload_n 0, 1) := by decide +kernel
theorem dX3_speaks_1 : decode cX3_speaks 1 = .ok (.getfield 25, 3) := by decide +kernel
theorem dX3_speaks_4 : decode cX3_speaks 4 = .ok (.iload_n 1, 1) := by decide +kernel
theorem dX3_speaks_5 : decode cX3_speaks 5 = .ok (.ishr, 1) := by decide +kernel
theorem dX3_speaks_6 : decode cX3_speaks 6 = .ok (.iconst 1, 1) := by decide +kernel
theorem dX3_speaks_7 : decode cX3_speaks 7 = .ok (.iand, 1) := by decide +kernel
theorem dX3_speaks_8 : decode cX3_speaks 8 = .ok (.iconst 1, 1) := by decide +kernel
theorem dX3_speaks_9 : decode cX3_speaks 9 = .ok (.if_icmp .ne 7, 3) := by decide +kernel
theorem dX3_speaks_12 : decode cX3_speaks 12 = .ok (.iconst 1, 1) := by decide +kernel
theorem dX3_speaks_13 : decode cX3_speaks 13 = .ok (.goto 4, 3) := by decide +kernel
theorem dX3_speaks_16 : decode cX3_speaks 16 = .ok (.iconst 0, 1) := by decide +kernel
theorem dX3_speaks_17 : decode cX3_speaks 17 = .ok (.ireturn, 1) := by decide +kernel
theorem dX3_wayTo_0 : decode cX3_wayTo 0 = .ok (.iload_n 1, 1) := by decide +kernel
theorem dX3_wayTo_1 : decode cX3_wayTo 1 = .ok (.aload_n 0, 1) := by decide +kernel
theorem dX3_wayTo_2 : decode cX3_wayTo 2 = .ok (.getfield 31, 3) := by decide +kernel
theorem dX3_wayTo_5 : decode cX3_wayTo 5 = .ok (.isub, 1) := by decide +kernel
theorem dX3_wayTo_6 : decode cX3_wayTo 6 = .ok (.invokestatic 34, 3) := by decide +kernel
theorem dX3_wayTo_9 : decode cX3_wayTo 9 = .ok (.ireturn, 1) := by decide +kernel
theorem dX3_hasTimeFor_0 : decode cX3_hasTimeFor 0 = .ok (.aload_n 0, 1) := by decide +kernel
theorem dX3_hasTimeFor_1 : decode cX3_hasTimeFor 1 = .ok (.getfield 19, 3) := by decide +kernel
theorem dX3_hasTimeFor_4 : decode cX3_hasTimeFor 4 = .ok (.iload_n 1, 1) := by decide +kernel
theorem dX3_hasTimeFor_5 : decode cX3_hasTimeFor 5 = .ok (.aload_n 0, 1) := by decide +kernel
theorem dX3_hasTimeFor_6 : decode cX3_hasTimeFor 6 = .ok (.getfield 31, 3) := by decide +kernel
theorem dX3_hasTimeFor_9 : decode cX3_hasTimeFor 9 = .ok (.isub, 1) := by decide +kernel
theorem dX3_hasTimeFor_10 : decode cX3_hasTimeFor 10 = .ok (.invokestatic 34, 3) := by decide +kernel
theorem dX3_hasTimeFor_13 : decode cX3_hasTimeFor 13 = .ok (.iadd, 1) := by decide +kernel
theorem dX3_hasTimeFor_14 : decode cX3_hasTimeFor 14 = .ok (.bipush 30, 2) := by decide +kernel
theorem dX3_hasTimeFor_16 : decode cX3_hasTimeFor 16 = .ok (.iadd, 1) := by decide +kernel
theorem dX3_hasTimeFor_17 : decode cX3_hasTimeFor 17 = .ok (.iload_n 1, 1) := by decide +kernel
theorem dX3_hasTimeFor_18 : decode cX3_hasTimeFor 18 = .ok (.aload_n 0, 1) := by decide +kernel
theorem dX3_hasTimeFor_19 : decode cX3_hasTimeFor 19 = .ok (.getfield 22, 3) := by decide +kernel
theorem dX3_hasTimeFor_22 : decode cX3_hasTimeFor 22 = .ok (.isub, 1) := by decide +kernel
theorem dX3_hasTimeFor_23 : decode cX3_hasTimeFor 23 = .ok (.invokestatic 34, 3) := by decide +kernel
theorem dX3_hasTimeFor_26 : decode cX3_hasTimeFor 26 = .ok (.iadd, 1) := by decide +kernel
theorem dX3_hasTimeFor_27 : decode cX3_hasTimeFor 27 = .ok (.aload_n 0, 1) := by decide +kernel
theorem dX3_hasTimeFor_28 : decode cX3_hasTimeFor 28 = .ok (.getfield 28, 3) := by decide +kernel
theorem dX3_hasTimeFor_31 : decode cX3_hasTimeFor 31 = .ok (.if_icmp .gt 7, 3) := by decide +kernel
theorem dX3_hasTimeFor_34 : decode cX3_hasTimeFor 34 = .ok (.iconst 1, 1) := by decide +kernel
theorem dX3_hasTimeFor_35 : decode cX3_hasTimeFor 35 = .ok (.goto 4, 3) := by decide +kernel
theorem dX3_hasTimeFor_38 : decode cX3_hasTimeFor 38 = .ok (.iconst 0, 1) := by decide +kernel
theorem dX3_hasTimeFor_39 : decode cX3_hasTimeFor 39 = .ok (.ireturn, 1) := by decide +kernel
theorem dX3_addToRound_0 : decode cX3_addToRound 0 = .ok (.aload_n 0, 1) := by decide +kernel
theorem dX3_addToRound_1 : decode cX3_addToRound 1 = .ok (.getfield 15, 3) := by decide +kernel
theorem dX3_addToRound_4 : decode cX3_addToRound 4 = .ok (.aload_n 0, 1) := by decide +kernel
theorem dX3_addToRound_5 : decode cX3_addToRound 5 = .ok (.getfield 9, 3) := by decide +kernel
theorem dX3_addToRound_8 : decode cX3_addToRound 8 = .ok (.arraylength, 1) := by decide +kernel
theorem dX3_addToRound_9 : decode cX3_addToRound 9 = .ok (.if_icmp .lt 4, 3) := by decide +kernel
theorem dX3_addToRound_12 : decode cX3_addToRound 12 = .ok (.return_, 1) := by decide +kernel
theorem dX3_addToRound_13 : decode cX3_addToRound 13 = .ok (.aload_n 0, 1) := by decide +kernel
theorem dX3_addToRound_14 : decode cX3_addToRound 14 = .ok (.getfield 9, 3) := by decide +kernel
theorem dX3_addToRound_17 : decode cX3_addToRound 17 = .ok (.aload_n 0, 1) := by decide +kernel
theorem dX3_addToRound_18 : decode cX3_addToRound 18 = .ok (.getfield 15, 3) := by decide +kernel
theorem dX3_addToRound_21 : decode cX3_addToRound 21 = .ok (.iload_n 1, 1) := by decide +kernel
theorem dX3_addToRound_22 : decode cX3_addToRound 22 = .ok (.iastore, 1) := by decide +kernel
theorem dX3_addToRound_23 : decode cX3_addToRound 23 = .ok (.aload_n 0, 1) := by decide +kernel
theorem dX3_addToRound_24 : decode cX3_addToRound 24 = .ok (.dup, 1) := by decide +kernel
theorem dX3_addToRound_25 : decode cX3_addToRound 25 = .ok (.getfield 15, 3) := by decide +kernel
theorem dX3_addToRound_28 : decode cX3_addToRound 28 = .ok (.iconst 1, 1) := by decide +kernel
theorem dX3_addToRound_29 : decode cX3_addToRound 29 = .ok (.iadd, 1) := by decide +kernel
theorem dX3_addToRound_30 : decode cX3_addToRound 30 = .ok (.putfield 15, 3) := by decide +kernel
theorem dX3_addToRound_33 : decode cX3_addToRound 33 = .ok (.aload_n 0, 1) := by decide +kernel
theorem dX3_addToRound_34 : decode cX3_addToRound 34 = .ok (.dup, 1) := by decide +kernel
theorem dX3_addToRound_35 : decode cX3_addToRound 35 = .ok (.getfield 19, 3) := by decide +kernel
theorem dX3_addToRound_38 : decode cX3_addToRound 38 = .ok (.aload_n 0, 1) := by decide +kernel
theorem dX3_addToRound_39 : decode cX3_addToRound 39 = .ok (.iload_n 2, 1) := by decide +kernel
theorem dX3_addToRound_40 : decode cX3_addToRound 40 = .ok (.invokevirtual 40, 3) := by decide +kernel
theorem dX3_addToRound_43 : decode cX3_addToRound 43 = .ok (.bipush 30, 2) := by decide +kernel
theorem dX3_addToRound_45 : decode cX3_addToRound 45 = .ok (.iadd, 1) := by decide +kernel
theorem dX3_addToRound_46 : decode cX3_addToRound 46 = .ok (.iadd, 1) := by decide +kernel
theorem dX3_addToRound_47 : decode cX3_addToRound 47 = .ok (.putfield 19, 3) := by decide +kernel
theorem dX3_addToRound_50 : decode cX3_addToRound 50 = .ok (.aload_n 0, 1) := by decide +kernel
theorem dX3_addToRound_51 : decode cX3_addToRound 51 = .ok (.iload_n 2, 1) := by decide +kernel
theorem dX3_addToRound_52 : decode cX3_addToRound 52 = .ok (.putfield 31, 3) := by decide +kernel
theorem dX3_addToRound_55 : decode cX3_addToRound 55 = .ok (.return_, 1) := by decide +kernel
theorem dX3_minutesInAll_0 : decode cX3_minutesInAll 0 = .ok (.aload_n 0, 1) := by decide +kernel
theorem dX3_minutesInAll_1 : decode cX3_minutesInAll 1 = .ok (.getfield 19, 3) := by decide +kernel
theorem dX3_minutesInAll_4 : decode cX3_minutesInAll 4 = .ok (.aload_n 0, 1) := by decide +kernel
theorem dX3_minutesInAll_5 : decode cX3_minutesInAll 5 = .ok (.getfield 31, 3) := by decide +kernel
theorem dX3_minutesInAll_8 : decode cX3_minutesInAll 8 = .ok (.aload_n 0, 1) := by decide +kernel
theorem dX3_minutesInAll_9 : decode cX3_minutesInAll 9 = .ok (.getfield 22, 3) := by decide +kernel
theorem dX3_minutesInAll_12 : decode cX3_minutesInAll 12 = .ok (.isub, 1) := by decide +kernel
theorem dX3_minutesInAll_13 : decode cX3_minutesInAll 13 = .ok (.invokestatic 34, 3) := by decide +kernel
theorem dX3_minutesInAll_16 : decode cX3_minutesInAll 16 = .ok (.iadd, 1) := by decide +kernel
theorem dX3_minutesInAll_17 : decode cX3_minutesInAll 17 = .ok (.ireturn, 1) := by decide +kernel
theorem dX4_init_0 : decode cX4_init 0 = .ok (.aload_n 0, 1) := by decide +kernel
theorem dX4_init_1 : decode cX4_init 1 = .ok (.invokespecial 3, 3) := by decide +kernel
theorem dX4_init_4 : decode cX4_init 4 = .ok (.aload_n 0, 1) := by decide +kernel
theorem dX4_init_5 : decode cX4_init 5 = .ok (.bipush 24, 2) := by decide +kernel
theorem dX4_init_7 : decode cX4_init 7 = .ok (.newarray .boolean, 2) := by decide +kernel
theorem dX4_init_9 : decode cX4_init 9 = .ok (.putfield 9, 3) := by decide +kernel
theorem dX4_init_12 : decode cX4_init 12 = .ok (.aload_n 0, 1) := by decide +kernel
theorem dX4_init_13 : decode cX4_init 13 = .ok (.bipush 24, 2) := by decide +kernel
theorem dX4_init_15 : decode cX4_init 15 = .ok (.newarray .int, 2) := by decide +kernel
theorem dX4_init_17 : decode cX4_init 17 = .ok (.putfield 15, 3) := by decide +kernel
theorem dX4_init_20 : decode cX4_init 20 = .ok (.aload_n 0, 1) := by decide +kernel
theorem dX4_init_21 : decode cX4_init 21 = .ok (.bipush 24, 2) := by decide +kernel
theorem dX4_init_23 : decode cX4_init 23 = .ok (.newarray .int, 2) := by decide +kernel
theorem dX4_init_25 : decode cX4_init 25 = .ok (.putfield 19, 3) := by decide +kernel
theorem dX4_init_28 : decode cX4_init 28 = .ok (.aload_n 0, 1) := by decide +kernel
theorem dX4_init_29 : decode cX4_init 29 = .ok (.bipush 24, 2) := by decide +kernel
theorem dX4_init_31 : decode cX4_init 31 = .ok (.newarray .int, 2) := by decide +kernel
theorem dX4_init_33 : decode cX4_init 33 = .ok (.putfield 22, 3) := by decide +kernel
theorem dX4_init_36 : decode cX4_init 36 = .ok (.aload_n 0, 1) := by decide +kernel
theorem dX4_init_37 : decode cX4_init 37 = .ok (.iconst 4, 1) := by decide +kernel
theorem dX4_init_38 : decode cX4_init 38 = .ok (.newarray .int, 2) := by decide +kernel
theorem dX4_init_40 : decode cX4_init 40 = .ok (.putfield 25, 3) := by decide +kernel
theorem dX4_init_43 : decode cX4_init 43 = .ok (.return_, 1) := by decide +kernel
theorem dX4_clear_0 : decode cX4_clear 0 = .ok (.iconst 0, 1) := by decide +kernel
theorem dX4_clear_1 : decode cX4_clear 1 = .ok (.istore_n 1, 1) := by decide +kernel
theorem dX4_clear_2 : decode cX4_clear 2 = .ok (.iload_n 1, 1) := by decide +kernel
theorem dX4_clear_3 : decode cX4_clear 3 = .ok (.aload_n 0, 1) := by decide +kernel
theorem dX4_clear_4 : decode cX4_clear 4 = .ok (.getfield 9, 3) := by decide +kernel
theorem dX4_clear_7 : decode cX4_clear 7 = .ok (.arraylength, 1) := by decide +kernel
theorem dX4_clear_8 : decode cX4_clear 8 = .ok (.if_icmp .ge 16, 3) := by decide +kernel
theorem dX4_clear_11 : decode cX4_clear 11 = .ok (.aload_n 0, 1) := by decide +kernel
theorem dX4_clear_12 : decode cX4_clear 12 = .ok (.getfield 9, 3) := by decide +kernel
theorem dX4_clear_15 : decode cX4_clear 15 = .ok (.iload_n 1, 1) := by decide +kernel
theorem dX4_clear_16 : decode cX4_clear 16 = .ok (.iconst 0, 1) := by decide +kernel
theorem dX4_clear_17 : decode cX4_clear 17 = .ok (.bastore, 1) := by decide +kernel
theorem dX4_clear_18 : decode cX4_clear 18 = .ok (.iinc 1 1, 3) := by decide +kernel
theorem dX4_clear_21 : decode cX4_clear 21 = .ok (.goto (-19), 3) := by decide +kernel
theorem dX4_clear_24 : decode cX4_clear 24 = .ok (.iconst 0, 1) := by decide +kernel
theorem dX4_clear_25 : decode cX4_clear 25 = .ok (.istore_n 1, 1) := by decide +kernel
theorem dX4_clear_26 : decode cX4_clear 26 = .ok (.iload_n 1, 1) := by decide +kernel
theorem dX4_clear_27 : decode cX4_clear 27 = .ok (.aload_n 0, 1) := by decide +kernel
theorem dX4_clear_28 : decode cX4_clear 28 = .ok (.getfield 25, 3) := by decide +kernel
theorem dX4_clear_31 : decode cX4_clear 31 = .ok (.arraylength, 1) := by decide +kernel
theorem dX4_clear_32 : decode cX4_clear 32 = .ok (.if_icmp .ge 16, 3) := by decide +kernel
theorem dX4_clear_35 : decode cX4_clear 35 = .ok (.aload_n 0, 1) := by decide +kernel
theorem dX4_clear_36 : decode cX4_clear 36 = .ok (.getfield 25, 3) := by decide +kernel
theorem dX4_clear_39 : decode cX4_clear 39 = .ok (.iload_n 1, 1) := by decide +kernel
theorem dX4_clear_40 : decode cX4_clear 40 = .ok (.iconst 0, 1) := by decide +kernel
theorem dX4_clear_41 : decode cX4_clear 41 = .ok (.iastore, 1) := by decide +kernel
theorem dX4_clear_42 : decode cX4_clear 42 = .ok (.iinc 1 1, 3) := by decide +kernel
theorem dX4_clear_45 : decode cX4_clear 45 = .ok (.goto (-19), 3) := by decide +kernel
theorem dX4_clear_48 : decode cX4_clear 48 = .ok (.return_, 1) := by decide +kernel
theorem dX4_isBarred_0 : decode cX4_isBarred 0 = .ok (.aload_n 0, 1) := by decide +kernel
theorem dX4_isBarred_1 : decode cX4_isBarred 1 = .ok (.getfield 25, 3) := by decide +kernel
theorem dX4_isBarred_4 : decode cX4_isBarred 4 = .ok (.iload_n 1, 1) := by decide +kernel
theorem dX4_isBarred_5 : decode cX4_isBarred 5 = .ok (.iaload, 1) := by decide +kernel
theorem dX4_isBarred_6 : decode cX4_isBarred 6 = .ok (.iconst 2, 1) := by decide +kernel
theorem dX4_isBarred_7 : decode cX4_isBarred 7 = .ok (.if_icmp .lt 7, 3) := by decide +kernel
theorem dX4_isBarred_10 : decode cX4_isBarred 10 = .ok (.iconst 1, 1) := by decide +kernel
theorem dX4_isBarred_11 : decode cX4_isBarred 11 = .ok (.goto 4, 3) := by decide +kernel
theorem dX4_isBarred_14 : decode cX4_isBarred 14 = .ok (.iconst 0, 1) := by decide +kernel
theorem dX4_isBarred_15 : decode cX4_isBarred 15 = .ok (.ireturn, 1) := by decide +kernel
theorem dX4_take_0 : decode cX4_take 0 = .ok (.aload_n 0, 1) := by decide +kernel
theorem dX4_take_1 : decode cX4_take 1 = .ok (.getfield 9, 3) := by decide +kernel
theorem dX4_take_4 : decode cX4_take 4 = .ok (.iload_n 1, 1) := by decide +kernel
theorem dX4_take_5 : decode cX4_take 5 = .ok (.iconst 1, 1) := by decide +kernel
theorem dX4_take_6 : decode cX4_take 6 = .ok (.bastore, 1) := by decide +kernel
theorem dX4_take_7 : decode cX4_take 7 = .ok (.aload_n 0, 1) := by decide +kernel
theorem dX4_take_8 : decode cX4_take 8 = .ok (.getfield 15, 3) := by decide +kernel
theorem dX4_take_11 : decode cX4_take 11 = .ok (.iload_n 1, 1) := by decide +kernel
theorem dX4_take_12 : decode cX4_take 12 = .ok (.iload_n 3, 1) := by decide +kernel
theorem dX4_take_13 : decode cX4_take 13 = .ok (.iastore, 1) := by decide +kernel
theorem dX4_take_14 : decode cX4_take 14 = .ok (.aload_n 0, 1) := by decide +kernel
theorem dX4_take_15 : decode cX4_take 15 = .ok (.getfield 19, 3) := by decide +kernel
theorem dX4_take_18 : decode cX4_take 18 = .ok (.iload_n 1, 1) := by decide +kernel
theorem dX4_take_19 : decode cX4_take 19 = .ok (.iload_n 2, 1) := by decide +kernel
theorem dX4_take_20 : decode cX4_take 20 = .ok (.iastore, 1) := by decide +kernel
theorem dX4_take_21 : decode cX4_take 21 = .ok (.return_, 1) := by decide +kernel
theorem dX4_askAgain_0 : decode cX4_askAgain 0 = .ok (.aload_n 0, 1) := by decide +kernel
theorem dX4_askAgain_1 : decode cX4_askAgain 1 = .ok (.getfield 9, 3) := by decide +kernel
theorem dX4_askAgain_4 : decode cX4_askAgain 4 = .ok (.iload_n 1, 1) := by decide +kernel
theorem dX4_askAgain_5 : decode cX4_askAgain 5 = .ok (.baload, 1) := by decide +kernel
theorem dX4_askAgain_6 : decode cX4_askAgain 6 = .ok (.ifCond .eq 13, 3) := by decide +kernel
theorem dX4_askAgain_9 : decode cX4_askAgain 9 = .ok (.aload_n 0, 1) := by decide +kernel
theorem dX4_askAgain_10 : decode cX4_askAgain 10 = .ok (.getfield 15, 3) := by decide +kernel
theorem dX4_askAgain_13 : decode cX4_askAgain 13 = .ok (.iload_n 1, 1) := by decide +kernel
theorem dX4_askAgain_14 : decode cX4_askAgain 14 = .ok (.iaload, 1) := by decide +kernel
theorem dX4_askAgain_15 : decode cX4_askAgain 15 = .ok (.iload_n 2, 1) := by decide +kernel
theorem dX4_askAgain_16 : decode cX4_askAgain 16 = .ok (.if_icmp .ne 5, 3) := by decide +kernel
theorem dX4_askAgain_19 : decode cX4_askAgain 19 = .ok (.iconst 0, 1) := by decide +kernel
theorem dX4_askAgain_20 : decode cX4_askAgain 20 = .ok (.ireturn, 1) := by decide +kernel
theorem dX4_askAgain_21 : decode cX4_askAgain 21 = .ok (.aload_n 0, 1) := by decide +kernel
theorem dX4_askAgain_22 : decode cX4_askAgain 22 = .ok (.getfield 19, 3) := by decide +kernel
theorem dX4_askAgain_25 : decode cX4_askAgain 25 = .ok (.iload_n 1, 1) := by decide +kernel
theorem dX4_askAgain_26 : decode cX4_askAgain 26 = .ok (.iaload, 1) := by decide +kernel
theorem dX4_askAgain_27 : decode cX4_askAgain 27 = .ok (.istore_n 3, 1) := by decide +kernel
theorem dX4_askAgain_28 : decode cX4_askAgain 28 = .ok (.aload_n 0, 1) := by decide +kernel
theorem dX4_askAgain_29 : decode cX4_askAgain 29 = .ok (.getfield 25, 3) := by decide +kernel
theorem dX4_askAgain_32 : decode cX4_askAgain 32 = .ok (.iload_n 3, 1) := by decide +kernel
theorem dX4_askAgain_33 : decode cX4_askAgain 33 = .ok (.dup2, 1) := by decide +kernel
theorem dX4_askAgain_34 : decode cX4_askAgain 34 = .ok (.iaload, 1) := by decide +kernel
theorem dX4_askAgain_35 : decode cX4_askAgain 35 = .ok (.iconst 1, 1) := by decide +kernel
theorem dX4_askAgain_36 : decode cX4_askAgain 36 = .ok (.iadd, 1) := by decide +kernel
theorem dX4_askAgain_37 : decode cX4_askAgain 37 = .ok (.iastore, 1) := by decide +kernel
theorem dX4_askAgain_38 : decode cX4_askAgain 38 = .ok (.aload_n 0, 1) := by decide +kernel
theorem dX4_askAgain_39 : decode cX4_askAgain 39 = .ok (.iload_n 3, 1) := by decide +kernel
theorem dX4_askAgain_40 : decode cX4_askAgain 40 = .ok (.invokevirtual 28, 3) := by decide +kernel
theorem dX4_askAgain_43 : decode cX4_askAgain 43 = .ok (.ifCond .ne 5, 3) := by decide +kernel
theorem dX4_askAgain_46 : decode cX4_askAgain 46 = .ok (.iconst 0, 1) := by decide +kernel
theorem dX4_askAgain_47 : decode cX4_askAgain 47 = .ok (.ireturn, 1) := by decide +kernel
theorem dX4_askAgain_48 : decode cX4_askAgain 48 = .ok (.aload_n 0, 1) := by decide +kernel
theorem dX4_askAgain_49 : decode cX4_askAgain 49 = .ok (.iload_n 3, 1) := by decide +kernel
theorem dX4_askAgain_50 : decode cX4_askAgain 50 = .ok (.invokevirtual 32, 3) := by decide +kernel
theorem dX4_askAgain_53 : decode cX4_askAgain 53 = .ok (.iconst 1, 1) := by decide +kernel
theorem dX4_askAgain_54 : decode cX4_askAgain 54 = .ok (.ireturn, 1) := by decide +kernel
theorem dX4_dropAnswersTo_0 : decode cX4_dropAnswersTo 0 = .ok (.iconst 0, 1) := by decide +kernel
theorem dX4_dropAnswersTo_1 : decode cX4_dropAnswersTo 1 = .ok (.istore_n 2, 1) := by decide +kernel
theorem dX4_dropAnswersTo_2 : decode cX4_dropAnswersTo 2 = .ok (.iload_n 2, 1) := by decide +kernel
theorem dX4_dropAnswersTo_3 : decode cX4_dropAnswersTo 3 = .ok (.aload_n 0, 1) := by decide +kernel
theorem dX4_dropAnswersTo_4 : decode cX4_dropAnswersTo 4 = .ok (.getfield 9, 3) := by decide +kernel
theorem dX4_dropAnswersTo_7 : decode cX4_dropAnswersTo 7 = .ok (.arraylength, 1) := by decide +kernel
theorem dX4_dropAnswersTo_8 : decode cX4_dropAnswersTo 8 = .ok (.if_icmp .ge 26, 3) := by decide +kernel
theorem dX4_dropAnswersTo_11 : decode cX4_dropAnswersTo 11 = .ok (.aload_n 0, 1) := by decide +kernel
theorem dX4_dropAnswersTo_12 : decode cX4_dropAnswersTo 12 = .ok (.getfield 19, 3) := by decide +kernel
theorem dX4_dropAnswersTo_15 : decode cX4_dropAnswersTo 15 = .ok (.iload_n 2, 1) := by decide +kernel
theorem dX4_dropAnswersTo_16 : decode cX4_dropAnswersTo 16 = .ok (.iaload, 1) := by decide +kernel
theorem dX4_dropAnswersTo_17 : decode cX4_dropAnswersTo 17 = .ok (.iload_n 1, 1) := by decide +kernel
theorem dX4_dropAnswersTo_18 : decode cX4_dropAnswersTo 18 = .ok (.if_icmp .ne 10, 3) := by decide +kernel
theorem dX4_dropAnswersTo_21 : decode cX4_dropAnswersTo 21 = .ok (.aload_n 0, 1) := by decide +kernel
theorem dX4_dropAnswersTo_22 : decode cX4_dropAnswersTo 22 = .ok (.getfield 9, 3) := by decide +kernel
theorem dX4_dropAnswersTo_25 : decode cX4_dropAnswersTo 25 = .ok (.iload_n 2, 1) := by decide +kernel
theorem dX4_dropAnswersTo_26 : decode cX4_dropAnswersTo 26 = .ok (.iconst 0, 1) := by decide +kernel
theorem dX4_dropAnswersTo_27 : decode cX4_dropAnswersTo 27 = .ok (.bastore, 1) := by decide +kernel
theorem dX4_dropAnswersTo_28 : decode cX4_dropAnswersTo 28 = .ok (.iinc 2 1, 3) := by decide +kernel
theorem dX4_dropAnswersTo_31 : decode cX4_dropAnswersTo 31 = .ok (.goto (-29), 3) := by decide +kernel
theorem dX4_dropAnswersTo_34 : decode cX4_dropAnswersTo 34 = .ok (.return_, 1) := by decide +kernel
theorem dX4_fitTo_0 : decode cX4_fitTo 0 = .ok (.iconst 0, 1) := by decide +kernel
theorem dX4_fitTo_1 : decode cX4_fitTo 1 = .ok (.istore_n 2, 1) := by decide +kernel
theorem dX4_fitTo_2 : decode cX4_fitTo 2 = .ok (.iload_n 2, 1) := by decide +kernel
theorem dX4_fitTo_3 : decode cX4_fitTo 3 = .ok (.aload_n 0, 1) := by decide +kernel
theorem dX4_fitTo_4 : decode cX4_fitTo 4 = .ok (.getfield 22, 3) := by decide +kernel
theorem dX4_fitTo_7 : decode cX4_fitTo 7 = .ok (.arraylength, 1) := by decide +kernel
theorem dX4_fitTo_8 : decode cX4_fitTo 8 = .ok (.if_icmp .ge 31, 3) := by decide +kernel
theorem dX4_fitTo_11 : decode cX4_fitTo 11 = .ok (.aload_n 0, 1) := by decide +kernel
theorem dX4_fitTo_12 : decode cX4_fitTo 12 = .ok (.getfield 22, 3) := by decide +kernel
theorem dX4_fitTo_15 : decode cX4_fitTo 15 = .ok (.iload_n 2, 1) := by decide +kernel
theorem dX4_fitTo_16 : decode cX4_fitTo 16 = .ok (.aload_n 0, 1) := by decide +kernel
theorem dX4_fitTo_17 : decode cX4_fitTo 17 = .ok (.getfield 9, 3) := by decide +kernel
theorem dX4_fitTo_20 : decode cX4_fitTo 20 = .ok (.iload_n 2, 1) := by decide +kernel
theorem dX4_fitTo_21 : decode cX4_fitTo 21 = .ok (.baload, 1) := by decide +kernel
theorem dX4_fitTo_22 : decode cX4_fitTo 22 = .ok (.ifCond .eq 9, 3) := by decide +kernel
theorem dX4_fitTo_25 : decode cX4_fitTo 25 = .ok (.sipush 1000, 3) := by decide +kernel
theorem dX4_fitTo_28 : decode cX4_fitTo 28 = .ok (.goto 4, 3) := by decide +kernel
theorem dX4_fitTo_31 : decode cX4_fitTo 31 = .ok (.iconst 0, 1) := by decide +kernel
theorem dX4_fitTo_32 : decode cX4_fitTo 32 = .ok (.iastore, 1) := by decide +kernel
theorem dX4_fitTo_33 : decode cX4_fitTo 33 = .ok (.iinc 2 1, 3) := by decide +kernel
theorem dX4_fitTo_36 : decode cX4_fitTo 36 = .ok (.goto (-34), 3) := by decide +kernel
theorem dX4_fitTo_39 : decode cX4_fitTo 39 = .ok (.iconst 0, 1) := by decide +kernel
theorem dX4_fitTo_40 : decode cX4_fitTo 40 = .ok (.istore_n 2, 1) := by decide +kernel
theorem dX4_fitTo_41 : decode cX4_fitTo 41 = .ok (.iload_n 2, 1) := by decide +kernel
theorem dX4_fitTo_42 : decode cX4_fitTo 42 = .ok (.iconst 3, 1) := by decide +kernel
theorem dX4_fitTo_43 : decode cX4_fitTo 43 = .ok (.if_icmp .ge 41, 3) := by decide +kernel
theorem dX4_fitTo_46 : decode cX4_fitTo 46 = .ok (.aload_n 0, 1) := by decide +kernel
theorem dX4_fitTo_47 : decode cX4_fitTo 47 = .ok (.aload_n 1, 1) := by decide +kernel
theorem dX4_fitTo_48 : decode cX4_fitTo 48 = .ok (.getfield 36, 3) := by decide +kernel
theorem dX4_fitTo_51 : decode cX4_fitTo 51 = .ok (.aload_n 1, 1) := by decide +kernel
theorem dX4_fitTo_52 : decode cX4_fitTo 52 = .ok (.getfield 41, 3) := by decide +kernel
theorem dX4_fitTo_55 : decode cX4_fitTo 55 = .ok (.aload_n 1, 1) := by decide +kernel
theorem dX4_fitTo_56 : decode cX4_fitTo 56 = .ok (.getfield 44, 3) := by decide +kernel
theorem dX4_fitTo_59 : decode cX4_fitTo 59 = .ok (.invokevirtual 48, 3) := by decide +kernel
theorem dX4_fitTo_62 : decode cX4_fitTo 62 = .ok (.aload_n 0, 1) := by decide +kernel
theorem dX4_fitTo_63 : decode cX4_fitTo 63 = .ok (.aload_n 1, 1) := by decide +kernel
theorem dX4_fitTo_64 : decode cX4_fitTo 64 = .ok (.getfield 52, 3) := by decide +kernel
theorem dX4_fitTo_67 : decode cX4_fitTo 67 = .ok (.aload_n 1, 1) := by decide +kernel
theorem dX4_fitTo_68 : decode cX4_fitTo 68 = .ok (.getfield 55, 3) := by decide +kernel
theorem dX4_fitTo_71 : decode cX4_fitTo 71 = .ok (.aload_n 1, 1) := by decide +kernel
theorem dX4_fitTo_72 : decode cX4_fitTo 72 = .ok (.getfield 44, 3) := by decide +kernel
theorem dX4_fitTo_75 : decode cX4_fitTo 75 = .ok (.invokevirtual 48, 3) := by decide +kernel
theorem dX4_fitTo_78 : decode cX4_fitTo 78 = .ok (.iinc 2 1, 3) := by decide +kernel
theorem dX4_fitTo_81 : decode cX4_fitTo 81 = .ok (.goto (-40), 3) := by decide +kernel
theorem dX4_fitTo_84 : decode cX4_fitTo 84 = .ok (.aload_n 0, 1) := by decide +kernel
theorem dX4_fitTo_85 : decode cX4_fitTo 85 = .ok (.aload_n 1, 1) := by decide +kernel
theorem dX4_fitTo_86 : decode cX4_fitTo 86 = .ok (.getfield 36, 3) := by decide +kernel
theorem dX4_fitTo_89 : decode cX4_fitTo 89 = .ok (.aload_n 1, 1) := by decide +kernel
theorem dX4_fitTo_90 : decode cX4_fitTo 90 = .ok (.getfield 41, 3) := by decide +kernel
theorem dX4_fitTo_93 : decode cX4_fitTo 93 = .ok (.aload_n 1, 1) := by decide +kernel
theorem dX4_fitTo_94 : decode cX4_fitTo 94 = .ok (.getfield 44, 3) := by decide +kernel
theorem dX4_fitTo_97 : decode cX4_fitTo 97 = .ok (.invokevirtual 48, 3) := by decide +kernel
theorem dX4_fitTo_100 : decode cX4_fitTo 100 = .ok (.return_, 1) := by decide +kernel
theorem dX4_fitGroups_0 : decode cX4_fitGroups 0 = .ok (.iconst 0, 1) := by decide +kernel
theorem dX4_fitGroups_1 : decode cX4_fitGroups 1 = .ok (.istore 4, 2) := by decide +kernel
theorem dX4_fitGroups_3 : decode cX4_fitGroups 3 = .ok (.iload 4, 2) := by decide +kernel
theorem dX4_fitGroups_5 : decode cX4_fitGroups 5 = .ok (.aload_n 2, 1) := by decide +kernel
theorem dX4_fitGroups_6 : decode cX4_fitGroups 6 = .ok (.arraylength, 1) := by decide +kernel
theorem dX4_fitGroups_7 : decode cX4_fitGroups 7 = .ok (.if_icmp .ge 38, 3) := by decide +kernel
theorem dX4_fitGroups_10 : decode cX4_fitGroups 10 = .ok (.aload_n 0, 1) := by decide +kernel
theorem dX4_fitGroups_11 : decode cX4_fitGroups 11 = .ok (.aload_n 1, 1) := by decide +kernel
theorem dX4_fitGroups_12 : decode cX4_fitGroups 12 = .ok (.iload 4, 2) := by decide +kernel
theorem dX4_fitGroups_14 : decode cX4_fitGroups 14 = .ok (.iload_n 3, 1) := by decide +kernel
theorem dX4_fitGroups_15 : decode cX4_fitGroups 15 = .ok (.invokevirtual 58, 3) := by decide +kernel
theorem dX4_fitGroups_18 : decode cX4_fitGroups 18 = .ok (.istore 5, 2) := by decide +kernel
theorem dX4_fitGroups_20 : decode cX4_fitGroups 20 = .ok (.iload 5, 2) := by decide +kernel
theorem dX4_fitGroups_22 : decode cX4_fitGroups 22 = .ok (.ifCond .le 17, 3) := by decide +kernel
theorem dX4_fitGroups_25 : decode cX4_fitGroups 25 = .ok (.aload_n 0, 1) := by decide +kernel
theorem dX4_fitGroups_26 : decode cX4_fitGroups 26 = .ok (.aload_n 1, 1) := by decide +kernel
theorem dX4_fitGroups_27 : decode cX4_fitGroups 27 = .ok (.iload 4, 2) := by decide +kernel
theorem dX4_fitGroups_29 : decode cX4_fitGroups 29 = .ok (.aload_n 2, 1) := by decide +kernel
theorem dX4_fitGroups_30 : decode cX4_fitGroups 30 = .ok (.iload 4, 2) := by decide +kernel
theorem dX4_fitGroups_32 : decode cX4_fitGroups 32 = .ok (.iaload, 1) := by decide +kernel
theorem dX4_fitGroups_33 : decode cX4_fitGroups 33 = .ok (.iload_n 3, 1) := by decide +kernel
theorem dX4_fitGroups_34 : decode cX4_fitGroups 34 = .ok (.iload 5, 2) := by decide +kernel
theorem dX4_fitGroups_36 : decode cX4_fitGroups 36 = .ok (.invokevirtual 62, 3) := by decide +kernel
theorem dX4_fitGroups_39 : decode cX4_fitGroups 39 = .ok (.iinc 4 1, 3) := by decide +kernel
theorem dX4_fitGroups_42 : decode cX4_fitGroups 42 = .ok (.goto (-39), 3) := by decide +kernel
theorem dX4_fitGroups_45 : decode cX4_fitGroups 45 = .ok (.return_, 1) := by decide +kernel
theorem dX4_fitGroup_0 : decode cX4_fitGroup 0 = .ok (.aload_n 0, 1) := by decide +kernel
theorem dX4_fitGroup_1 : decode cX4_fitGroup 1 = .ok (.aload_n 1, 1) := by decide +kernel
theorem dX4_fitGroup_2 : decode cX4_fitGroup 2 = .ok (.iload_n 2, 1) := by decide +kernel
theorem dX4_fitGroup_3 : decode cX4_fitGroup 3 = .ok (.iload 4, 2) := by decide +kernel
theorem dX4_fitGroup_5 : decode cX4_fitGroup 5 = .ok (.invokevirtual 66, 3) := by decide +kernel
theorem dX4_fitGroup_8 : decode cX4_fitGroup 8 = .ok (.istore 6, 2) := by decide +kernel
theorem dX4_fitGroup_10 : decode cX4_fitGroup 10 = .ok (.iload 6, 2) := by decide +kernel
theorem dX4_fitGroup_12 : decode cX4_fitGroup 12 = .ok (.ifCond .gt 7, 3) := by decide +kernel
theorem dX4_fitGroup_15 : decode cX4_fitGroup 15 = .ok (.iconst 1, 1) := by decide +kernel
theorem dX4_fitGroup_16 : decode cX4_fitGroup 16 = .ok (.goto 4, 3) := by decide +kernel
theorem dX4_fitGroup_19 : decode cX4_fitGroup 19 = .ok (.iconst 0, 1) := by decide +kernel
theorem dX4_fitGroup_20 : decode cX4_fitGroup 20 = .ok (.istore 7, 2) := by decide +kernel
theorem dX4_fitGroup_22 : decode cX4_fitGroup 22 = .ok (.iload 7, 2) := by decide +kernel
theorem dX4_fitGroup_24 : decode cX4_fitGroup 24 = .ok (.ifCond .eq 8, 3) := by decide +kernel
theorem dX4_fitGroup_27 : decode cX4_fitGroup 27 = .ok (.iload 5, 2) := by decide +kernel
theorem dX4_fitGroup_29 : decode cX4_fitGroup 29 = .ok (.goto 5, 3) := by decide +kernel
theorem dX4_fitGroup_32 : decode cX4_fitGroup 32 = .ok (.iload 6, 2) := by decide +kernel
theorem dX4_fitGroup_34 : decode cX4_fitGroup 34 = .ok (.istore 8, 2) := by decide +kernel
theorem dX4_fitGroup_36 : decode cX4_fitGroup 36 = .ok (.iload 8, 2) := by decide +kernel
theorem dX4_fitGroup_38 : decode cX4_fitGroup 38 = .ok (.ifCond .gt 4, 3) := by decide +kernel
theorem dX4_fitGroup_41 : decode cX4_fitGroup 41 = .ok (.return_, 1) := by decide +kernel
theorem dX4_fitGroup_42 : decode cX4_fitGroup 42 = .ok (.iload_n 3, 1) := by decide +kernel
theorem dX4_fitGroup_43 : decode cX4_fitGroup 43 = .ok (.istore 9, 2) := by decide +kernel
theorem dX4_fitGroup_45 : decode cX4_fitGroup 45 = .ok (.iconst 0, 1) := by decide +kernel
theorem dX4_fitGroup_46 : decode cX4_fitGroup 46 = .ok (.istore 10, 2) := by decide +kernel
theorem dX4_fitGroup_48 : decode cX4_fitGroup 48 = .ok (.iload 10, 2) := by decide +kernel
theorem dX4_fitGroup_50 : decode cX4_fitGroup 50 = .ok (.iload 4, 2) := by decide +kernel
theorem dX4_fitGroup_52 : decode cX4_fitGroup 52 = .ok (.if_icmp .ge 60, 3) := by decide +kernel
theorem dX4_fitGroup_55 : decode cX4_fitGroup 55 = .ok (.aload_n 0, 1) := by decide +kernel
theorem dX4_fitGroup_56 : decode cX4_fitGroup 56 = .ok (.aload_n 1, 1) := by decide +kernel
theorem dX4_fitGroup_57 : decode cX4_fitGroup 57 = .ok (.iload_n 2, 1) := by decide +kernel
theorem dX4_fitGroup_58 : decode cX4_fitGroup 58 = .ok (.iload 10, 2) := by decide +kernel
theorem dX4_fitGroup_60 : decode cX4_fitGroup 60 = .ok (.invokevirtual 69, 3) := by decide +kernel
theorem dX4_fitGroup_63 : decode cX4_fitGroup 63 = .ok (.ifCond .eq 43, 3) := by decide +kernel
theorem dX4_fitGroup_66 : decode cX4_fitGroup 66 = .ok (.aload_n 0, 1) := by decide +kernel
theorem dX4_fitGroup_67 : decode cX4_fitGroup 67 = .ok (.getfield 22, 3) := by decide +kernel
theorem dX4_fitGroup_70 : decode cX4_fitGroup 70 = .ok (.iload 10, 2) := by decide +kernel
theorem dX4_fitGroup_72 : decode cX4_fitGroup 72 = .ok (.iload 7, 2) := by decide +kernel
theorem dX4_fitGroup_74 : decode cX4_fitGroup 74 = .ok (.ifCond .eq 7, 3) := by decide +kernel
theorem dX4_fitGroup_77 : decode cX4_fitGroup 77 = .ok (.iconst 1, 1) := by decide +kernel
theorem dX4_fitGroup_78 : decode cX4_fitGroup 78 = .ok (.goto 10, 3) := by decide +kernel
theorem dX4_fitGroup_81 : decode cX4_fitGroup 81 = .ok (.aload_n 0, 1) := by decide +kernel
theorem dX4_fitGroup_82 : decode cX4_fitGroup 82 = .ok (.getfield 22, 3) := by decide +kernel
theorem dX4_fitGroup_85 : decode cX4_fitGroup 85 = .ok (.iload 10, 2) := by decide +kernel
theorem dX4_fitGroup_87 : decode cX4_fitGroup 87 = .ok (.iaload, 1) := by decide +kernel
theorem dX4_fitGroup_88 : decode cX4_fitGroup 88 = .ok (.iload_n 3, 1) := by decide +kernel
theorem dX4_fitGroup_89 : decode cX4_fitGroup 89 = .ok (.imul, 1) := by decide +kernel
theorem dX4_fitGroup_90 : decode cX4_fitGroup 90 = .ok (.iload 8, 2) := by decide +kernel
theorem dX4_fitGroup_92 : decode cX4_fitGroup 92 = .ok (.idiv, 1) := by decide +kernel
theorem dX4_fitGroup_93 : decode cX4_fitGroup 93 = .ok (.iastore, 1) := by decide +kernel
theorem dX4_fitGroup_94 : decode cX4_fitGroup 94 = .ok (.iload 9, 2) := by decide +kernel
theorem dX4_fitGroup_96 : decode cX4_fitGroup 96 = .ok (.aload_n 0, 1) := by decide +kernel
theorem dX4_fitGroup_97 : decode cX4_fitGroup 97 = .ok (.getfield 22, 3) := by decide +kernel
theorem dX4_fitGroup_100 : decode cX4_fitGroup 100 = .ok (.iload 10, 2) := by decide +kernel
theorem dX4_fitGroup_102 : decode cX4_fitGroup 102 = .ok (.iaload, 1) := by decide +kernel
theorem dX4_fitGroup_103 : decode cX4_fitGroup 103 = .ok (.isub, 1) := by decide +kernel
theorem dX4_fitGroup_104 : decode cX4_fitGroup 104 = .ok (.istore 9, 2) := by decide +kernel
theorem dX4_fitGroup_106 : decode cX4_fitGroup 106 = .ok (.iinc 10 1, 3) := by decide +kernel
theorem dX4_fitGroup_109 : decode cX4_fitGroup 109 = .ok (.goto (-61), 3) := by decide +kernel
theorem dX4_fitGroup_112 : decode cX4_fitGroup 112 = .ok (.aload_n 0, 1) := by decide +kernel
theorem dX4_fitGroup_113 : decode cX4_fitGroup 113 = .ok (.aload_n 1, 1) := by decide +kernel
theorem dX4_fitGroup_114 : decode cX4_fitGroup 114 = .ok (.iload_n 2, 1) := by decide +kernel
theorem dX4_fitGroup_115 : decode cX4_fitGroup 115 = .ok (.iload 4, 2) := by decide +kernel
theorem dX4_fitGroup_117 : decode cX4_fitGroup 117 = .ok (.iload 9, 2) := by decide +kernel
theorem dX4_fitGroup_119 : decode cX4_fitGroup 119 = .ok (.invokevirtual 73, 3) := by decide +kernel
theorem dX4_fitGroup_122 : decode cX4_fitGroup 122 = .ok (.return_, 1) := by decide +kernel
theorem dX4_spreadMissing_0 : decode cX4_spreadMissing 0 = .ok (.iload 4, 2) := by decide +kernel
theorem dX4_spreadMissing_2 : decode cX4_spreadMissing 2 = .ok (.istore 5, 2) := by decide +kernel
theorem dX4_spreadMissing_4 : decode cX4_spreadMissing 4 = .ok (.iconst 0, 1) := by decide +kernel
theorem dX4_spreadMissing_5 : decode cX4_spreadMissing 5 = .ok (.istore 6, 2) := by decide +kernel
theorem dX4_spreadMissing_7 : decode cX4_spreadMissing 7 = .ok (.iload 6, 2) := by decide +kernel
theorem dX4_spreadMissing_9 : decode cX4_spreadMissing 9 = .ok (.iload_n 3, 1) := by decide +kernel
theorem dX4_spreadMissing_10 : decode cX4_spreadMissing 10 = .ok (.if_icmp .ge 39, 3) := by decide +kernel
theorem dX4_spreadMissing_13 : decode cX4_spreadMissing 13 = .ok (.iload 5, 2) := by decide +kernel
theorem dX4_spreadMissing_15 : decode cX4_spreadMissing 15 = .ok (.ifCond .le 34, 3) := by decide +kernel
theorem dX4_spreadMissing_18 : decode cX4_spreadMissing 18 = .ok (.aload_n 0, 1) := by decide +kernel
theorem dX4_spreadMissing_19 : decode cX4_spreadMissing 19 = .ok (.aload_n 1, 1) := by decide +kernel
theorem dX4_spreadMissing_20 : decode cX4_spreadMissing 20 = .ok (.iload_n 2, 1) := by decide +kernel
theorem dX4_spreadMissing_21 : decode cX4_spreadMissing 21 = .ok (.iload 6, 2) := by decide +kernel
theorem dX4_spreadMissing_23 : decode cX4_spreadMissing 23 = .ok (.invokevirtual 69, 3) := by decide +kernel
theorem dX4_spreadMissing_26 : decode cX4_spreadMissing 26 = .ok (.ifCond .eq 17, 3) := by decide +kernel
theorem dX4_spreadMissing_29 : decode cX4_spreadMissing 29 = .ok (.aload_n 0, 1) := by decide +kernel
theorem dX4_spreadMissing_30 : decode cX4_spreadMissing 30 = .ok (.getfield 22, 3) := by decide +kernel
theorem dX4_spreadMissing_33 : decode cX4_spreadMissing 33 = .ok (.iload 6, 2) := by decide +kernel
theorem dX4_spreadMissing_35 : decode cX4_spreadMissing 35 = .ok (.dup2, 1) := by decide +kernel
theorem dX4_spreadMissing_36 : decode cX4_spreadMissing 36 = .ok (.iaload, 1) := by decide +kernel
theorem dX4_spreadMissing_37 : decode cX4_spreadMissing 37 = .ok (.iconst 1, 1) := by decide +kernel
theorem dX4_spreadMissing_38 : decode cX4_spreadMissing 38 = .ok (.iadd, 1) := by decide +kernel
theorem dX4_spreadMissing_39 : decode cX4_spreadMissing 39 = .ok (.iastore, 1) := by decide +kernel
theorem dX4_spreadMissing_40 : decode cX4_spreadMissing 40 = .ok (.iinc 5 (-1), 3) := by decide +kernel
theorem dX4_spreadMissing_43 : decode cX4_spreadMissing 43 = .ok (.iinc 6 1, 3) := by decide +kernel
theorem dX4_spreadMissing_46 : decode cX4_spreadMissing 46 = .ok (.goto (-39), 3) := by decide +kernel
theorem dX4_spreadMissing_49 : decode cX4_spreadMissing 49 = .ok (.return_, 1) := by decide +kernel
theorem dX4_isInGroup_0 : decode cX4_isInGroup 0 = .ok (.aload_n 0, 1) := by decide +kernel
theorem dX4_isInGroup_1 : decode cX4_isInGroup 1 = .ok (.getfield 9, 3) := by decide +kernel
theorem dX4_isInGroup_4 : decode cX4_isInGroup 4 = .ok (.iload_n 3, 1) := by decide +kernel
theorem dX4_isInGroup_5 : decode cX4_isInGroup 5 = .ok (.baload, 1) := by decide +kernel
theorem dX4_isInGroup_6 : decode cX4_isInGroup 6 = .ok (.ifCond .eq 14, 3) := by decide +kernel
theorem dX4_isInGroup_9 : decode cX4_isInGroup 9 = .ok (.aload_n 1, 1) := by decide +kernel
theorem dX4_isInGroup_10 : decode cX4_isInGroup 10 = .ok (.iload_n 3, 1) := by decide +kernel
theorem dX4_isInGroup_11 : decode cX4_isInGroup 11 = .ok (.iaload, 1) := by decide +kernel
theorem dX4_isInGroup_12 : decode cX4_isInGroup 12 = .ok (.iload_n 2, 1) := by decide +kernel
theorem dX4_isInGroup_13 : decode cX4_isInGroup 13 = .ok (.if_icmp .ne 7, 3) := by decide +kernel
theorem dX4_isInGroup_16 : decode cX4_isInGroup 16 = .ok (.iconst 1, 1) := by decide +kernel
theorem dX4_isInGroup_17 : decode cX4_isInGroup 17 = .ok (.goto 4, 3) := by decide +kernel
theorem dX4_isInGroup_20 : decode cX4_isInGroup 20 = .ok (.iconst 0, 1) := by decide +kernel
theorem dX4_isInGroup_21 : decode cX4_isInGroup 21 = .ok (.ireturn, 1) := by decide +kernel
theorem dX4_membersOfGroup_0 : decode cX4_membersOfGroup 0 = .ok (.iconst 0, 1) := by decide +kernel
theorem dX4_membersOfGroup_1 : decode cX4_membersOfGroup 1 = .ok (.istore 4, 2) := by decide +kernel
theorem dX4_membersOfGroup_3 : decode cX4_membersOfGroup 3 = .ok (.iconst 0, 1) := by decide +kernel
theorem dX4_membersOfGroup_4 : decode cX4_membersOfGroup 4 = .ok (.istore 5, 2) := by decide +kernel
theorem dX4_membersOfGroup_6 : decode cX4_membersOfGroup 6 = .ok (.iload 5, 2) := by decide +kernel
theorem dX4_membersOfGroup_8 : decode cX4_membersOfGroup 8 = .ok (.iload_n 3, 1) := by decide +kernel
theorem dX4_membersOfGroup_9 : decode cX4_membersOfGroup 9 = .ok (.if_icmp .ge 23, 3) := by decide +kernel
theorem dX4_membersOfGroup_12 : decode cX4_membersOfGroup 12 = .ok (.aload_n 0, 1) := by decide +kernel
theorem dX4_membersOfGroup_13 : decode cX4_membersOfGroup 13 = .ok (.aload_n 1, 1) := by decide +kernel
theorem dX4_membersOfGroup_14 : decode cX4_membersOfGroup 14 = .ok (.iload_n 2, 1) := by decide +kernel
theorem dX4_membersOfGroup_15 : decode cX4_membersOfGroup 15 = .ok (.iload 5, 2) := by decide +kernel
theorem dX4_membersOfGroup_17 : decode cX4_membersOfGroup 17 = .ok (.invokevirtual 69, 3) := by decide +kernel
theorem dX4_membersOfGroup_20 : decode cX4_membersOfGroup 20 = .ok (.ifCond .eq 6, 3) := by decide +kernel
theorem dX4_membersOfGroup_23 : decode cX4_membersOfGroup 23 = .ok (.iinc 4 1, 3) := by decide +kernel
theorem dX4_membersOfGroup_26 : decode cX4_membersOfGroup 26 = .ok (.iinc 5 1, 3) := by decide +kernel
theorem dX4_membersOfGroup_29 : decode cX4_membersOfGroup 29 = .ok (.goto (-23), 3) := by decide +kernel
theorem dX4_membersOfGroup_32 : decode cX4_membersOfGroup 32 = .ok (.iload 4, 2) := by decide +kernel
theorem dX4_membersOfGroup_34 : decode cX4_membersOfGroup 34 = .ok (.ireturn, 1) := by decide +kernel
theorem dX4_sumOfGroup_0 : decode cX4_sumOfGroup 0 = .ok (.iconst 0, 1) := by decide +kernel
theorem dX4_sumOfGroup_1 : decode cX4_sumOfGroup 1 = .ok (.istore 4, 2) := by decide +kernel
theorem dX4_sumOfGroup_3 : decode cX4_sumOfGroup 3 = .ok (.iconst 0, 1) := by decide +kernel
theorem dX4_sumOfGroup_4 : decode cX4_sumOfGroup 4 = .ok (.istore 5, 2) := by decide +kernel
theorem dX4_sumOfGroup_6 : decode cX4_sumOfGroup 6 = .ok (.iload 5, 2) := by decide +kernel
theorem dX4_sumOfGroup_8 : decode cX4_sumOfGroup 8 = .ok (.iload_n 3, 1) := by decide +kernel
theorem dX4_sumOfGroup_9 : decode cX4_sumOfGroup 9 = .ok (.if_icmp .ge 32, 3) := by decide +kernel
theorem dX4_sumOfGroup_12 : decode cX4_sumOfGroup 12 = .ok (.aload_n 0, 1) := by decide +kernel
theorem dX4_sumOfGroup_13 : decode cX4_sumOfGroup 13 = .ok (.aload_n 1, 1) := by decide +kernel
theorem dX4_sumOfGroup_14 : decode cX4_sumOfGroup 14 = .ok (.iload_n 2, 1) := by decide +kernel
theorem dX4_sumOfGroup_15 : decode cX4_sumOfGroup 15 = .ok (.iload 5, 2) := by decide +kernel
theorem dX4_sumOfGroup_17 : decode cX4_sumOfGroup 17 = .ok (.invokevirtual 69, 3) := by decide +kernel
theorem dX4_sumOfGroup_20 : decode cX4_sumOfGroup 20 = .ok (.ifCond .eq 15, 3) := by decide +kernel
theorem dX4_sumOfGroup_23 : decode cX4_sumOfGroup 23 = .ok (.iload 4, 2) := by decide +kernel
theorem dX4_sumOfGroup_25 : decode cX4_sumOfGroup 25 = .ok (.aload_n 0, 1) := by decide +kernel
theorem dX4_sumOfGroup_26 : decode cX4_sumOfGroup 26 = .ok (.getfield 22, 3) := by decide +kernel
theorem dX4_sumOfGroup_29 : decode cX4_sumOfGroup 29 = .ok (.iload 5, 2) := by decide +kernel
theorem dX4_sumOfGroup_31 : decode cX4_sumOfGroup 31 = .ok (.iaload, 1) := by decide +kernel
theorem dX4_sumOfGroup_32 : decode cX4_sumOfGroup 32 = .ok (.iadd, 1) := by decide +kernel
theorem dX4_sumOfGroup_33 : decode cX4_sumOfGroup 33 = .ok (.istore 4, 2) := by decide +kernel
theorem dX4_sumOfGroup_35 : decode cX4_sumOfGroup 35 = .ok (.iinc 5 1, 3) := by decide +kernel
theorem dX4_sumOfGroup_38 : decode cX4_sumOfGroup 38 = .ok (.goto (-32), 3) := by decide +kernel
theorem dX4_sumOfGroup_41 : decode cX4_sumOfGroup 41 = .ok (.iload 4, 2) := by decide +kernel
theorem dX4_sumOfGroup_43 : decode cX4_sumOfGroup 43 = .ok (.ireturn, 1) := by decide +kernel
theorem dX4_meetsStratumTargets_0 : decode cX4_meetsStratumTargets 0 = .ok (.iconst 0, 1) := by decide +kernel
theorem dX4_meetsStratumTargets_1 : decode cX4_meetsStratumTargets 1 = .ok (.istore_n 2, 1) := by decide +kernel
theorem dX4_meetsStratumTargets_2 : decode cX4_meetsStratumTargets 2 = .ok (.iload_n 2, 1) := by decide +kernel
theorem dX4_meetsStratumTargets_3 : decode cX4_meetsStratumTargets 3 = .ok (.aload_n 1, 1) := by decide +kernel
theorem dX4_meetsStratumTargets_4 : decode cX4_meetsStratumTargets 4 = .ok (.getfield 77, 3) := by decide +kernel
theorem dX4_meetsStratumTargets_7 : decode cX4_meetsStratumTargets 7 = .ok (.if_icmp .ge 49, 3) := by decide +kernel
theorem dX4_meetsStratumTargets_10 : decode cX4_meetsStratumTargets 10 = .ok (.aload_n 0, 1) := by decide +kernel
theorem dX4_meetsStratumTargets_11 : decode cX4_meetsStratumTargets 11 = .ok (.aload_n 1, 1) := by decide +kernel
theorem dX4_meetsStratumTargets_12 : decode cX4_meetsStratumTargets 12 = .ok (.getfield 36, 3) := by decide +kernel
theorem dX4_meetsStratumTargets_15 : decode cX4_meetsStratumTargets 15 = .ok (.iload_n 2, 1) := by decide +kernel
theorem dX4_meetsStratumTargets_16 : decode cX4_meetsStratumTargets 16 = .ok (.aload_n 1, 1) := by decide +kernel
theorem dX4_meetsStratumTargets_17 : decode cX4_meetsStratumTargets 17 = .ok (.getfield 44, 3) := by decide +kernel
theorem dX4_meetsStratumTargets_20 : decode cX4_meetsStratumTargets 20 = .ok (.invokevirtual 58, 3) := by decide +kernel
theorem dX4_meetsStratumTargets_23 : decode cX4_meetsStratumTargets 23 = .ok (.ifCond .le 27, 3) := by decide +kernel
theorem dX4_meetsStratumTargets_26 : decode cX4_meetsStratumTargets 26 = .ok (.aload_n 0, 1) := by decide +kernel
theorem dX4_meetsStratumTargets_27 : decode cX4_meetsStratumTargets 27 = .ok (.aload_n 1, 1) := by decide +kernel
theorem dX4_meetsStratumTargets_28 : decode cX4_meetsStratumTargets 28 = .ok (.getfield 36, 3) := by decide +kernel
theorem dX4_meetsStratumTargets_31 : decode cX4_meetsStratumTargets 31 = .ok (.iload_n 2, 1) := by decide +kernel
theorem dX4_meetsStratumTargets_32 : decode cX4_meetsStratumTargets 32 = .ok (.aload_n 1, 1) := by decide +kernel
theorem dX4_meetsStratumTargets_33 : decode cX4_meetsStratumTargets 33 = .ok (.getfield 44, 3) := by decide +kernel
theorem dX4_meetsStratumTargets_36 : decode cX4_meetsStratumTargets 36 = .ok (.invokevirtual 66, 3) := by decide +kernel
theorem dX4_meetsStratumTargets_39 : decode cX4_meetsStratumTargets 39 = .ok (.aload_n 1, 1) := by decide +kernel
theorem dX4_meetsStratumTargets_40 : decode cX4_meetsStratumTargets 40 = .ok (.getfield 41, 3) := by decide +kernel
theorem dX4_meetsStratumTargets_43 : decode cX4_meetsStratumTargets 43 = .ok (.iload_n 2, 1) := by decide +kernel
theorem dX4_meetsStratumTargets_44 : decode cX4_meetsStratumTargets 44 = .ok (.iaload, 1) := by decide +kernel
theorem dX4_meetsStratumTargets_45 : decode cX4_meetsStratumTargets 45 = .ok (.if_icmp .eq 5, 3) := by decide +kernel
theorem dX4_meetsStratumTargets_48 : decode cX4_meetsStratumTargets 48 = .ok (.iconst 0, 1) := by decide +kernel
theorem dX4_meetsStratumTargets_49 : decode cX4_meetsStratumTargets 49 = .ok (.ireturn, 1) := by decide +kernel
theorem dX4_meetsStratumTargets_50 : decode cX4_meetsStratumTargets 50 = .ok (.iinc 2 1, 3) := by decide +kernel
theorem dX4_meetsStratumTargets_53 : decode cX4_meetsStratumTargets 53 = .ok (.goto (-51), 3) := by decide +kernel
theorem dX4_meetsStratumTargets_56 : decode cX4_meetsStratumTargets 56 = .ok (.iconst 1, 1) := by decide +kernel
theorem dX4_meetsStratumTargets_57 : decode cX4_meetsStratumTargets 57 = .ok (.ireturn, 1) := by decide +kernel
theorem dX4_hasWeightsOf_0 : decode cX4_hasWeightsOf 0 = .ok (.iconst 0, 1) := by decide +kernel
theorem dX4_hasWeightsOf_1 : decode cX4_hasWeightsOf 1 = .ok (.istore_n 3, 1) := by decide +kernel
theorem dX4_hasWeightsOf_2 : decode cX4_hasWeightsOf 2 = .ok (.iload_n 3, 1) := by decide +kernel
theorem dX4_hasWeightsOf_3 : decode cX4_hasWeightsOf 3 = .ok (.iload_n 2, 1) := by decide +kernel
theorem dX4_hasWeightsOf_4 : decode cX4_hasWeightsOf 4 = .ok (.if_icmp .ge 35, 3) := by decide +kernel
theorem dX4_hasWeightsOf_7 : decode cX4_hasWeightsOf 7 = .ok (.aload_n 0, 1) := by decide +kernel
theorem dX4_hasWeightsOf_8 : decode cX4_hasWeightsOf 8 = .ok (.getfield 9, 3) := by decide +kernel
theorem dX4_hasWeightsOf_11 : decode cX4_hasWeightsOf 11 = .ok (.iload_n 3, 1) := by decide +kernel
theorem dX4_hasWeightsOf_12 : decode cX4_hasWeightsOf 12 = .ok (.baload, 1) := by decide +kernel
theorem dX4_hasWeightsOf_13 : decode cX4_hasWeightsOf 13 = .ok (.ifCond .eq 20, 3) := by decide +kernel
theorem dX4_hasWeightsOf_16 : decode cX4_hasWeightsOf 16 = .ok (.aload_n 0, 1) := by decide +kernel
theorem dX4_hasWeightsOf_17 : decode cX4_hasWeightsOf 17 = .ok (.getfield 22, 3) := by decide +kernel
theorem dX4_hasWeightsOf_20 : decode cX4_hasWeightsOf 20 = .ok (.iload_n 3, 1) := by decide +kernel
theorem dX4_hasWeightsOf_21 : decode cX4_hasWeightsOf 21 = .ok (.iaload, 1) := by decide +kernel
theorem dX4_hasWeightsOf_22 : decode cX4_hasWeightsOf 22 = .ok (.aload_n 1, 1) := by decide +kernel
theorem dX4_hasWeightsOf_23 : decode cX4_hasWeightsOf 23 = .ok (.getfield 22, 3) := by decide +kernel
theorem dX4_hasWeightsOf_26 : decode cX4_hasWeightsOf 26 = .ok (.iload_n 3, 1) := by decide +kernel
theorem dX4_hasWeightsOf_27 : decode cX4_hasWeightsOf 27 = .ok (.iaload, 1) := by decide +kernel
theorem dX4_hasWeightsOf_28 : decode cX4_hasWeightsOf 28 = .ok (.if_icmp .eq 5, 3) := by decide +kernel
theorem dX4_hasWeightsOf_31 : decode cX4_hasWeightsOf 31 = .ok (.iconst 0, 1) := by decide +kernel
theorem dX4_hasWeightsOf_32 : decode cX4_hasWeightsOf 32 = .ok (.ireturn, 1) := by decide +kernel
theorem dX4_hasWeightsOf_33 : decode cX4_hasWeightsOf 33 = .ok (.iinc 3 1, 3) := by decide +kernel
theorem dX4_hasWeightsOf_36 : decode cX4_hasWeightsOf 36 = .ok (.goto (-34), 3) := by decide +kernel
theorem dX4_hasWeightsOf_39 : decode cX4_hasWeightsOf 39 = .ok (.iconst 1, 1) := by decide +kernel
theorem dX4_hasWeightsOf_40 : decode cX4_hasWeightsOf 40 = .ok (.ireturn, 1) := by decide +kernel
theorem dX5_init_0 : decode cX5_init 0 = .ok (.aload_n 0, 1) := by decide +kernel
theorem dX5_init_1 : decode cX5_init 1 = .ok (.invokespecial 1, 3) := by decide +kernel
theorem dX5_init_4 : decode cX5_init 4 = .ok (.aload_n 0, 1) := by decide +kernel
theorem dX5_init_5 : decode cX5_init 5 = .ok (.new 7, 3) := by decide +kernel
theorem dX5_init_8 : decode cX5_init 8 = .ok (.dup, 1) := by decide +kernel
theorem dX5_init_9 : decode cX5_init 9 = .ok (.invokespecial 9, 3) := by decide +kernel
theorem dX5_init_12 : decode cX5_init 12 = .ok (.putfield 10, 3) := by decide +kernel
theorem dX5_init_15 : decode cX5_init 15 = .ok (.aload_n 0, 1) := by decide +kernel
theorem dX5_init_16 : decode cX5_init 16 = .ok (.bipush 24, 2) := by decide +kernel
theorem dX5_init_18 : decode cX5_init 18 = .ok (.anewarray 16, 3) := by decide +kernel
theorem dX5_init_21 : decode cX5_init 21 = .ok (.putfield 18, 3) := by decide +kernel
theorem dX5_init_24 : decode cX5_init 24 = .ok (.aload_n 0, 1) := by decide +kernel
theorem dX5_init_25 : decode cX5_init 25 = .ok (.iconst 4, 1) := by decide +kernel
theorem dX5_init_26 : decode cX5_init 26 = .ok (.anewarray 22, 3) := by decide +kernel
theorem dX5_init_29 : decode cX5_init 29 = .ok (.putfield 24, 3) := by decide +kernel
theorem dX5_init_32 : decode cX5_init 32 = .ok (.aload_n 0, 1) := by decide +kernel
theorem dX5_init_33 : decode cX5_init 33 = .ok (.new 28, 3) := by decide +kernel
theorem dX5_init_36 : decode cX5_init 36 = .ok (.dup, 1) := by decide +kernel
theorem dX5_init_37 : decode cX5_init 37 = .ok (.invokespecial 30, 3) := by decide +kernel
theorem dX5_init_40 : decode cX5_init 40 = .ok (.putfield 31, 3) := by decide +kernel
theorem dX5_init_43 : decode cX5_init 43 = .ok (.aload_n 0, 1) := by decide +kernel
theorem dX5_init_44 : decode cX5_init 44 = .ok (.new 28, 3) := by decide +kernel
theorem dX5_init_47 : decode cX5_init 47 = .ok (.dup, 1) := by decide +kernel
theorem dX5_init_48 : decode cX5_init 48 = .ok (.invokespecial 30, 3) := by decide +kernel
theorem dX5_init_51 : decode cX5_init 51 = .ok (.putfield 35, 3) := by decide +kernel
theorem dX5_init_54 : decode cX5_init 54 = .ok (.aload_n 0, 1) := by decide +kernel
theorem dX5_init_55 : decode cX5_init 55 = .ok (.new 38, 3) := by decide +kernel
theorem dX5_init_58 : decode cX5_init 58 = .ok (.dup, 1) := by decide +kernel
theorem dX5_init_59 : decode cX5_init 59 = .ok (.invokespecial 40, 3) := by decide +kernel
theorem dX5_init_62 : decode cX5_init 62 = .ok (.putfield 41, 3) := by decide +kernel
theorem dX5_init_65 : decode cX5_init 65 = .ok (.aload_n 0, 1) := by decide +kernel
theorem dX5_init_66 : decode cX5_init 66 = .ok (.iconst 0, 1) := by decide +kernel
theorem dX5_init_67 : decode cX5_init 67 = .ok (.putfield 45, 3) := by decide +kernel
theorem dX5_init_70 : decode cX5_init 70 = .ok (.aload_n 0, 1) := by decide +kernel
theorem dX5_init_71 : decode cX5_init 71 = .ok (.iconst 1, 1) := by decide +kernel
theorem dX5_init_72 : decode cX5_init 72 = .ok (.putfield 49, 3) := by decide +kernel
theorem dX5_init_75 : decode cX5_init 75 = .ok (.aload_n 0, 1) := by decide +kernel
theorem dX5_init_76 : decode cX5_init 76 = .ok (.iconst 0, 1) := by decide +kernel
theorem dX5_init_77 : decode cX5_init 77 = .ok (.putfield 52, 3) := by decide +kernel
theorem dX5_init_80 : decode cX5_init 80 = .ok (.return_, 1) := by decide +kernel
theorem dX5_setChance_0 : decode cX5_setChance 0 = .ok (.iload_n 1, 1) := by decide +kernel
theorem dX5_setChance_1 : decode cX5_setChance 1 = .ok (.ifCond .lt 9, 3) := by decide +kernel
theorem dX5_setChance_4 : decode cX5_setChance 4 = .ok (.iload_n 1, 1) := by decide +kernel
theorem dX5_setChance_5 : decode cX5_setChance 5 = .ok (.ldc 55, 2) := by decide +kernel
theorem dX5_setChance_7 : decode cX5_setChance 7 = .ok (.if_icmp .lt 13, 3) := by decide +kernel
theorem dX5_setChance_10 : decode cX5_setChance 10 = .ok (.new 56, 3) := by decide +kernel
theorem dX5_setChance_13 : decode cX5_setChance 13 = .ok (.dup, 1) := by decide +kernel
theorem dX5_setChance_14 : decode cX5_setChance 14 = .ok (.ldc 58, 2) := by decide +kernel
theorem dX5_setChance_16 : decode cX5_setChance 16 = .ok (.invokespecial 60, 3) := by decide +kernel
theorem dX5_setChance_19 : decode cX5_setChance 19 = .ok (.athrow, 1) := by decide +kernel
theorem dX5_setChance_20 : decode cX5_setChance 20 = .ok (.aload_n 0, 1) := by decide +kernel
theorem dX5_setChance_21 : decode cX5_setChance 21 = .ok (.getfield 49, 3) := by decide +kernel
theorem dX5_setChance_24 : decode cX5_setChance 24 = .ok (.istore_n 2, 1) := by decide +kernel
theorem dX5_setChance_25 : decode cX5_setChance 25 = .ok (.aload_n 0, 1) := by decide +kernel
theorem dX5_setChance_26 : decode cX5_setChance 26 = .ok (.iload_n 1, 1) := by decide +kernel
theorem dX5_setChance_27 : decode cX5_setChance 27 = .ok (.putfield 49, 3) := by decide +kernel
theorem dX5_setChance_30 : decode cX5_setChance 30 = .ok (.iload_n 2, 1) := by decide +kernel
theorem dX5_setChance_31 : decode cX5_setChance 31 = .ok (.ireturn, 1) := by decide +kernel
theorem dX5_addStratum_0 : decode cX5_addStratum 0 = .ok (.aload_n 0, 1) := by decide +kernel
theorem dX5_addStratum_1 : decode cX5_addStratum 1 = .ok (.getfield 10, 3) := by decide +kernel
theorem dX5_addStratum_4 : decode cX5_addStratum 4 = .ok (.getfield 63, 3) := by decide +kernel
theorem dX5_addStratum_7 : decode cX5_addStratum 7 = .ok (.iconst 4, 1) := by decide +kernel
theorem dX5_addStratum_8 : decode cX5_addStratum 8 = .ok (.if_icmp .lt 13, 3) := by decide +kernel
theorem dX5_addStratum_11 : decode cX5_addStratum 11 = .ok (.new 66, 3) := by decide +kernel
theorem dX5_addStratum_14 : decode cX5_addStratum 14 = .ok (.dup, 1) := by decide +kernel
theorem dX5_addStratum_15 : decode cX5_addStratum 15 = .ok (.ldc 68, 2) := by decide +kernel
theorem dX5_addStratum_17 : decode cX5_addStratum 17 = .ok (.invokespecial 70, 3) := by decide +kernel
theorem dX5_addStratum_20 : decode cX5_addStratum 20 = .ok (.athrow, 1) := by decide +kernel
theorem dX5_addStratum_21 : decode cX5_addStratum 21 = .ok (.aload_n 0, 1) := by decide +kernel
theorem dX5_addStratum_22 : decode cX5_addStratum 22 = .ok (.getfield 10, 3) := by decide +kernel
theorem dX5_addStratum_25 : decode cX5_addStratum 25 = .ok (.getfield 63, 3) := by decide +kernel
theorem dX5_addStratum_28 : decode cX5_addStratum 28 = .ok (.istore_n 1, 1) := by decide +kernel
theorem dX5_addStratum_29 : decode cX5_addStratum 29 = .ok (.aload_n 0, 1) := by decide +kernel
theorem dX5_addStratum_30 : decode cX5_addStratum 30 = .ok (.getfield 10, 3) := by decide +kernel
theorem dX5_addStratum_33 : decode cX5_addStratum 33 = .ok (.dup, 1) := by decide +kernel
theorem dX5_addStratum_34 : decode cX5_addStratum 34 = .ok (.getfield 63, 3) := by decide +kernel
theorem dX5_addStratum_37 : decode cX5_addStratum 37 = .ok (.iconst 1, 1) := by decide +kernel
theorem dX5_addStratum_38 : decode cX5_addStratum 38 = .ok (.iadd, 1) := by decide +kernel
theorem dX5_addStratum_39 : decode cX5_addStratum 39 = .ok (.putfield 63, 3) := by decide +kernel
theorem dX5_addStratum_42 : decode cX5_addStratum 42 = .ok (.iload_n 1, 1) := by decide +kernel
theorem dX5_addStratum_43 : decode cX5_addStratum 43 = .ok (.ireturn, 1) := by decide +kernel
theorem dX5_addHouse_0 : decode cX5_addHouse 0 = .ok (.aload_n 0, 1) := by decide +kernel
theorem dX5_addHouse_1 : decode cX5_addHouse 1 = .ok (.iload_n 1, 1) := by decide +kernel
theorem dX5_addHouse_2 : decode cX5_addHouse 2 = .ok (.invokevirtual 71, 3) := by decide +kernel
theorem dX5_addHouse_5 : decode cX5_addHouse 5 = .ok (.aload_n 0, 1) := by decide +kernel
theorem dX5_addHouse_6 : decode cX5_addHouse 6 = .ok (.iload_n 2, 1) := by decide +kernel
theorem dX5_addHouse_7 : decode cX5_addHouse 7 = .ok (.invokevirtual 75, 3) := by decide +kernel
theorem dX5_addHouse_10 : decode cX5_addHouse 10 = .ok (.aload_n 0, 1) := by decide +kernel
theorem dX5_addHouse_11 : decode cX5_addHouse 11 = .ok (.iload_n 3, 1) := by decide +kernel
theorem dX5_addHouse_12 : decode cX5_addHouse 12 = .ok (.invokevirtual 78, 3) := by decide +kernel
theorem dX5_addHouse_15 : decode cX5_addHouse 15 = .ok (.aload_n 0, 1) := by decide +kernel
theorem dX5_addHouse_16 : decode cX5_addHouse 16 = .ok (.getfield 10, 3) := by decide +kernel
theorem dX5_addHouse_19 : decode cX5_addHouse 19 = .ok (.getfield 81, 3) := by decide +kernel
theorem dX5_addHouse_22 : decode cX5_addHouse 22 = .ok (.bipush 24, 2) := by decide +kernel
theorem dX5_addHouse_24 : decode cX5_addHouse 24 = .ok (.if_icmp .lt 13, 3) := by decide +kernel
theorem dX5_addHouse_27 : decode cX5_addHouse 27 = .ok (.new 66, 3) := by decide +kernel
theorem dX5_addHouse_30 : decode cX5_addHouse 30 = .ok (.dup, 1) := by decide +kernel
theorem dX5_addHouse_31 : decode cX5_addHouse 31 = .ok (.ldc 83, 2) := by decide +kernel
theorem dX5_addHouse_33 : decode cX5_addHouse 33 = .ok (.invokespecial 70, 3) := by decide +kernel
theorem dX5_addHouse_36 : decode cX5_addHouse 36 = .ok (.athrow, 1) := by decide +kernel
theorem dX5_addHouse_37 : decode cX5_addHouse 37 = .ok (.aload_n 0, 1) := by decide +kernel
theorem dX5_addHouse_38 : decode cX5_addHouse 38 = .ok (.getfield 10, 3) := by decide +kernel
theorem dX5_addHouse_41 : decode cX5_addHouse 41 = .ok (.getfield 81, 3) := by decide +kernel
theorem dX5_addHouse_44 : decode cX5_addHouse 44 = .ok (.istore 4, 2) := by decide +kernel
theorem dX5_addHouse_46 : decode cX5_addHouse 46 = .ok (.aload_n 0, 1) := by decide +kernel
theorem dX5_addHouse_47 : decode cX5_addHouse 47 = .ok (.getfield 18, 3) := by decide +kernel
theorem dX5_addHouse_50 : decode cX5_addHouse 50 = .ok (.iload 4, 2) := by decide +kernel
theorem dX5_addHouse_52 : decode cX5_addHouse 52 = .ok (.new 16, 3) := by decide +kernel
theorem dX5_addHouse_55 : decode cX5_addHouse 55 = .ok (.dup, 1) := by decide +kernel
theorem dX5_addHouse_56 : decode cX5_addHouse 56 = .ok (.iload_n 2, 1) := by decide +kernel
theorem dX5_addHouse_57 : decode cX5_addHouse 57 = .ok (.invokespecial 85, 3) := by decide +kernel
theorem dX5_addHouse_60 : decode cX5_addHouse 60 = .ok (.aastore, 1) := by decide +kernel
theorem dX5_addHouse_61 : decode cX5_addHouse 61 = .ok (.aload_n 0, 1) := by decide +kernel
theorem dX5_addHouse_62 : decode cX5_addHouse 62 = .ok (.getfield 10, 3) := by decide +kernel
theorem dX5_addHouse_65 : decode cX5_addHouse 65 = .ok (.getfield 87, 3) := by decide +kernel
theorem dX5_addHouse_68 : decode cX5_addHouse 68 = .ok (.iload 4, 2) := by decide +kernel
theorem dX5_addHouse_70 : decode cX5_addHouse 70 = .ok (.iload_n 1, 1) := by decide +kernel
theorem dX5_addHouse_71 : decode cX5_addHouse 71 = .ok (.iastore, 1) := by decide +kernel
theorem dX5_addHouse_72 : decode cX5_addHouse 72 = .ok (.aload_n 0, 1) := by decide +kernel
theorem dX5_addHouse_73 : decode cX5_addHouse 73 = .ok (.getfield 10, 3) := by decide +kernel
theorem dX5_addHouse_76 : decode cX5_addHouse 76 = .ok (.getfield 91, 3) := by decide +kernel
theorem dX5_addHouse_79 : decode cX5_addHouse 79 = .ok (.iload 4, 2) := by decide +kernel
theorem dX5_addHouse_81 : decode cX5_addHouse 81 = .ok (.iload_n 3, 1) := by decide +kernel
theorem dX5_addHouse_82 : decode cX5_addHouse 82 = .ok (.iastore, 1) := by decide +kernel
theorem dX5_addHouse_83 : decode cX5_addHouse 83 = .ok (.aload_n 0, 1) := by decide +kernel
theorem dX5_addHouse_84 : decode cX5_addHouse 84 = .ok (.getfield 10, 3) := by decide +kernel
theorem dX5_addHouse_87 : decode cX5_addHouse 87 = .ok (.dup, 1) := by decide +kernel
theorem dX5_addHouse_88 : decode cX5_addHouse 88 = .ok (.getfield 81, 3) := by decide +kernel
theorem dX5_addHouse_91 : decode cX5_addHouse 91 = .ok (.iconst 1, 1) := by decide +kernel
theorem dX5_addHouse_92 : decode cX5_addHouse 92 = .ok (.iadd, 1) := by decide +kernel
theorem dX5_addHouse_93 : decode cX5_addHouse 93 = .ok (.putfield 81, 3) := by decide +kernel
theorem dX5_addHouse_96 : decode cX5_addHouse 96 = .ok (.iload 4, 2) := by decide +kernel
theorem dX5_addHouse_98 : decode cX5_addHouse 98 = .ok (.ireturn, 1) := by decide +kernel
theorem dX5_addInterviewer_0 : decode cX5_addInterviewer 0 = .ok (.aload_n 0, 1) := by decide +kernel
theorem dX5_addInterviewer_1 : decode cX5_addInterviewer 1 = .ok (.iload_n 1, 1) := by decide +kernel
theorem dX5_addInterviewer_2 : decode cX5_addInterviewer 2 = .ok (.invokevirtual 75, 3) := by decide +kernel
theorem dX5_addInterviewer_5 : decode cX5_addInterviewer 5 = .ok (.iload_n 2, 1) := by decide +kernel
theorem dX5_addInterviewer_6 : decode cX5_addInterviewer 6 = .ok (.iconst 1, 1) := by decide +kernel
theorem dX5_addInterviewer_7 : decode cX5_addInterviewer 7 = .ok (.if_icmp .lt 9, 3) := by decide +kernel
theorem dX5_addInterviewer_10 : decode cX5_addInterviewer 10 = .ok (.iload_n 2, 1) := by decide +kernel
theorem dX5_addInterviewer_11 : decode cX5_addInterviewer 11 = .ok (.bipush 7, 2) := by decide +kernel
theorem dX5_addInterviewer_13 : decode cX5_addInterviewer 13 = .ok (.if_icmp .le 13, 3) := by decide +kernel
theorem dX5_addInterviewer_16 : decode cX5_addInterviewer 16 = .ok (.new 56, 3) := by decide +kernel
theorem dX5_addInterviewer_19 : decode cX5_addInterviewer 19 = .ok (.dup, 1) := by decide +kernel
theorem dX5_addInterviewer_20 : decode cX5_addInterviewer 20 = .ok (.ldc 94, 2) := by decide +kernel
theorem dX5_addInterviewer_22 : decode cX5_addInterviewer 22 = .ok (.invokespecial 60, 3) := by decide +kernel
theorem dX5_addInterviewer_25 : decode cX5_addInterviewer 25 = .ok (.athrow, 1) := by decide +kernel
theorem dX5_addInterviewer_26 : decode cX5_addInterviewer 26 = .ok (.iload_n 3, 1) := by decide +kernel
theorem dX5_addInterviewer_27 : decode cX5_addInterviewer 27 = .ok (.bipush 30, 2) := by decide +kernel
theorem dX5_addInterviewer_29 : decode cX5_addInterviewer 29 = .ok (.if_icmp .lt 10, 3) := by decide +kernel
theorem dX5_addInterviewer_32 : decode cX5_addInterviewer 32 = .ok (.iload_n 3, 1) := by decide +kernel
theorem dX5_addInterviewer_33 : decode cX5_addInterviewer 33 = .ok (.sipush 600, 3) := by decide +kernel
theorem dX5_addInterviewer_36 : decode cX5_addInterviewer 36 = .ok (.if_icmp .le 13, 3) := by decide +kernel
theorem dX5_addInterviewer_39 : decode cX5_addInterviewer 39 = .ok (.new 56, 3) := by decide +kernel
theorem dX5_addInterviewer_42 : decode cX5_addInterviewer 42 = .ok (.dup, 1) := by decide +kernel
theorem dX5_addInterviewer_43 : decode cX5_addInterviewer 43 = .ok (.ldc 96, 2) := by decide +kernel
theorem dX5_addInterviewer_45 : decode cX5_addInterviewer 45 = .ok (.invokespecial 60, 3) := by decide +kernel
theorem dX5_addInterviewer_48 : decode cX5_addInterviewer 48 = .ok (.athrow, 1) := by decide +kernel
theorem dX5_addInterviewer_49 : decode cX5_addInterviewer 49 = .ok (.aload_n 0, 1) := by decide +kernel
theorem dX5_addInterviewer_50 : decode cX5_addInterviewer 50 = .ok (.getfield 45, 3) := by decide +kernel
theorem dX5_addInterviewer_53 : decode cX5_addInterviewer 53 = .ok (.iconst 4, 1) := by decide +kernel
theorem dX5_addInterviewer_54 : decode cX5_addInterviewer 54 = .ok (.if_icmp .lt 13, 3) := by decide +kernel
theorem dX5_addInterviewer_57 : decode cX5_addInterviewer 57 = .ok (.new 66, 3) := by decide +kernel
theorem dX5_addInterviewer_60 : decode cX5_addInterviewer 60 = .ok (.dup, 1) := by decide +kernel
theorem dX5_addInterviewer_61 : decode cX5_addInterviewer 61 = .ok (.ldc 98, 2) := by decide +kernel
theorem dX5_addInterviewer_63 : decode cX5_addInterviewer 63 = .ok (.invokespecial 70, 3) := by decide +kernel
theorem dX5_addInterviewer_66 : decode cX5_addInterviewer 66 = .ok (.athrow, 1) := by decide +kernel
theorem dX5_addInterviewer_67 : decode cX5_addInterviewer 67 = .ok (.aload_n 0, 1) := by decide +kernel
theorem dX5_addInterviewer_68 : decode cX5_addInterviewer 68 = .ok (.getfield 45, 3) := by decide +kernel
theorem dX5_addInterviewer_71 : decode cX5_addInterviewer 71 = .ok (.istore 4, 2) := by decide +kernel
theorem dX5_addInterviewer_73 : decode cX5_addInterviewer 73 = .ok (.aload_n 0, 1) := by decide +kernel
theorem dX5_addInterviewer_74 : decode cX5_addInterviewer 74 = .ok (.getfield 24, 3) := by decide +kernel
theorem dX5_addInterviewer_77 : decode cX5_addInterviewer 77 = .ok (.iload 4, 2) := by decide +kernel
theorem dX5_addInterviewer_79 : decode cX5_addInterviewer 79 = .ok (.new 22, 3) := by decide +kernel
theorem dX5_addInterviewer_82 : decode cX5_addInterviewer 82 = .ok (.dup, 1) := by decide +kernel
theorem dX5_addInterviewer_83 : decode cX5_addInterviewer 83 = .ok (.iload_n 1, 1) := by decide +kernel
theorem dX5_addInterviewer_84 : decode cX5_addInterviewer 84 = .ok (.iload_n 2, 1) := by decide +kernel
theorem dX5_addInterviewer_85 : decode cX5_addInterviewer 85 = .ok (.iload_n 3, 1) := by decide +kernel
theorem dX5_addInterviewer_86 : decode cX5_addInterviewer 86 = .ok (.invokespecial 100, 3) := by decide +kernel
theorem dX5_addInterviewer_89 : decode cX5_addInterviewer 89 = .ok (.aastore, 1) := by decide +kernel
theorem dX5_addInterviewer_90 : decode cX5_addInterviewer 90 = .ok (.aload_n 0, 1) := by decide +kernel
theorem dX5_addInterviewer_91 : decode cX5_addInterviewer 91 = .ok (.dup, 1) := by decide +kernel
theorem dX5_addInterviewer_92 : decode cX5_addInterviewer 92 = .ok (.getfield 45, 3) := by decide +kernel
theorem dX5_addInterviewer_95 : decode cX5_addInterviewer 95 = .ok (.iconst 1, 1) := by decide +kernel
theorem dX5_addInterviewer_96 : decode cX5_addInterviewer 96 = .ok (.iadd, 1) := by decide +kernel
theorem dX5_addInterviewer_97 : decode cX5_addInterviewer 97 = .ok (.putfield 45, 3) := by decide +kernel
theorem dX5_addInterviewer_100 : decode cX5_addInterviewer 100 = .ok (.iload 4, 2) := by decide +kernel
theorem dX5_addInterviewer_102 : decode cX5_addInterviewer 102 = .ok (.ireturn, 1) := by decide +kernel
theorem dX5_draw_0 : decode cX5_draw 0 = .ok (.aload_n 0, 1) := by decide +kernel
theorem dX5_draw_1 : decode cX5_draw 1 = .ok (.iload_n 1, 1) := by decide +kernel
theorem dX5_draw_2 : decode cX5_draw 2 = .ok (.invokevirtual 71, 3) := by decide +kernel
theorem dX5_draw_5 : decode cX5_draw 5 = .ok (.iload_n 2, 1) := by decide +kernel
theorem dX5_draw_6 : decode cX5_draw 6 = .ok (.iconst 1, 1) := by decide +kernel
theorem dX5_draw_7 : decode cX5_draw 7 = .ok (.if_icmp .lt 9, 3) := by decide +kernel
theorem dX5_draw_10 : decode cX5_draw 10 = .ok (.iload_n 2, 1) := by decide +kernel
theorem dX5_draw_11 : decode cX5_draw 11 = .ok (.bipush 24, 2) := by decide +kernel
theorem dX5_draw_13 : decode cX5_draw 13 = .ok (.if_icmp .le 13, 3) := by decide +kernel
theorem dX5_draw_16 : decode cX5_draw 16 = .ok (.new 56, 3) := by decide +kernel
theorem dX5_draw_19 : decode cX5_draw 19 = .ok (.dup, 1) := by decide +kernel
theorem dX5_draw_20 : decode cX5_draw 20 = .ok (.ldc 103, 2) := by decide +kernel
theorem dX5_draw_22 : decode cX5_draw 22 = .ok (.invokespecial 60, 3) := by decide +kernel
theorem dX5_draw_25 : decode cX5_draw 25 = .ok (.athrow, 1) := by decide +kernel
theorem dX5_draw_26 : decode cX5_draw 26 = .ok (.aload_n 0, 1) := by decide +kernel
theorem dX5_draw_27 : decode cX5_draw 27 = .ok (.iload_n 1, 1) := by decide +kernel
theorem dX5_draw_28 : decode cX5_draw 28 = .ok (.invokevirtual 105, 3) := by decide +kernel
theorem dX5_draw_31 : decode cX5_draw 31 = .ok (.iload_n 2, 1) := by decide +kernel
theorem dX5_draw_32 : decode cX5_draw 32 = .ok (.if_icmp .ge 13, 3) := by decide +kernel
theorem dX5_draw_35 : decode cX5_draw 35 = .ok (.new 66, 3) := by decide +kernel
theorem dX5_draw_38 : decode cX5_draw 38 = .ok (.dup, 1) := by decide +kernel
theorem dX5_draw_39 : decode cX5_draw 39 = .ok (.ldc 109, 2) := by decide +kernel
theorem dX5_draw_41 : decode cX5_draw 41 = .ok (.invokespecial 70, 3) := by decide +kernel
theorem dX5_draw_44 : decode cX5_draw 44 = .ok (.athrow, 1) := by decide +kernel
theorem dX5_draw_45 : decode cX5_draw 45 = .ok (.iconst (-1), 1) := by decide +kernel
theorem dX5_draw_46 : decode cX5_draw 46 = .ok (.istore_n 3, 1) := by decide +kernel
theorem dX5_draw_47 : decode cX5_draw 47 = .ok (.iconst 0, 1) := by decide +kernel
theorem dX5_draw_48 : decode cX5_draw 48 = .ok (.istore 4, 2) := by decide +kernel
theorem dX5_draw_50 : decode cX5_draw 50 = .ok (.iload 4, 2) := by decide +kernel
theorem dX5_draw_52 : decode cX5_draw 52 = .ok (.iload_n 2, 1) := by decide +kernel
theorem dX5_draw_53 : decode cX5_draw 53 = .ok (.if_icmp .ge 23, 3) := by decide +kernel
theorem dX5_draw_56 : decode cX5_draw 56 = .ok (.aload_n 0, 1) := by decide +kernel
theorem dX5_draw_57 : decode cX5_draw 57 = .ok (.iload_n 1, 1) := by decide +kernel
theorem dX5_draw_58 : decode cX5_draw 58 = .ok (.invokevirtual 111, 3) := by decide +kernel
theorem dX5_draw_61 : decode cX5_draw 61 = .ok (.istore_n 3, 1) := by decide +kernel
theorem dX5_draw_62 : decode cX5_draw 62 = .ok (.aload_n 0, 1) := by decide +kernel
theorem dX5_draw_63 : decode cX5_draw 63 = .ok (.getfield 10, 3) := by decide +kernel
theorem dX5_draw_66 : decode cX5_draw 66 = .ok (.iload_n 3, 1) := by decide +kernel
theorem dX5_draw_67 : decode cX5_draw 67 = .ok (.invokevirtual 114, 3) := by decide +kernel
theorem dX5_draw_70 : decode cX5_draw 70 = .ok (.iinc 4 1, 3) := by decide +kernel
theorem dX5_draw_73 : decode cX5_draw 73 = .ok (.goto (-23), 3) := by decide +kernel
theorem dX5_draw_76 : decode cX5_draw 76 = .ok (.aload_n 0, 1) := by decide +kernel
theorem dX5_draw_77 : decode cX5_draw 77 = .ok (.getfield 31, 3) := by decide +kernel
theorem dX5_draw_80 : decode cX5_draw 80 = .ok (.aload_n 0, 1) := by decide +kernel
theorem dX5_draw_81 : decode cX5_draw 81 = .ok (.getfield 10, 3) := by decide +kernel
theorem dX5_draw_84 : decode cX5_draw 84 = .ok (.invokevirtual 117, 3) := by decide +kernel
theorem dX5_draw_87 : decode cX5_draw 87 = .ok (.iload_n 3, 1) := by decide +kernel
theorem dX5_draw_88 : decode cX5_draw 88 = .ok (.ireturn, 1) := by decide +kernel
theorem dX5_day_0 : decode cX5_day 0 = .ok (.aload_n 0, 1) := by decide +kernel
theorem dX5_day_1 : decode cX5_day 1 = .ok (.getfield 52, 3) := by decide +kernel
theorem dX5_day_4 : decode cX5_day 4 = .ok (.ireturn, 1) := by decide +kernel
theorem dX5_roundSize_0 : decode cX5_roundSize 0 = .ok (.aload_n 0, 1) := by decide +kernel
theorem dX5_roundSize_1 : decode cX5_roundSize 1 = .ok (.iload_n 1, 1) := by decide +kernel
theorem dX5_roundSize_2 : decode cX5_roundSize 2 = .ok (.invokevirtual 121, 3) := by decide +kernel
theorem dX5_roundSize_5 : decode cX5_roundSize 5 = .ok (.getfield 125, 3) := by decide +kernel
theorem dX5_roundSize_8 : decode cX5_roundSize 8 = .ok (.ireturn, 1) := by decide +kernel
theorem dX5_roundAt_0 : decode cX5_roundAt 0 = .ok (.aload_n 0, 1) := by decide +kernel
theorem dX5_roundAt_1 : decode cX5_roundAt 1 = .ok (.iload_n 1, 1) := by decide +kernel
theorem dX5_roundAt_2 : decode cX5_roundAt 2 = .ok (.invokevirtual 121, 3) := by decide +kernel
theorem dX5_roundAt_5 : decode cX5_roundAt 5 = .ok (.astore_n 3, 1) := by decide +kernel
theorem dX5_roundAt_6 : decode cX5_roundAt 6 = .ok (.iload_n 2, 1) := by decide +kernel
theorem dX5_roundAt_7 : decode cX5_roundAt 7 = .ok (.ifCond .lt 11, 3) := by decide +kernel
theorem dX5_roundAt_10 : decode cX5_roundAt 10 = .ok (.iload_n 2, 1) := by decide +kernel
theorem dX5_roundAt_11 : decode cX5_roundAt 11 = .ok (.aload_n 3, 1) := by decide +kernel
theorem dX5_roundAt_12 : decode cX5_roundAt 12 = .ok (.getfield 125, 3) := by decide +kernel
theorem dX5_roundAt_15 : decode cX5_roundAt 15 = .ok (.if_icmp .lt 13, 3) := by decide +kernel
theorem dX5_roundAt_18 : decode cX5_roundAt 18 = .ok (.new 128, 3) := by decide +kernel
theorem dX5_roundAt_21 : decode cX5_roundAt 21 = .ok (.dup, 1) := by decide +kernel
theorem dX5_roundAt_22 : decode cX5_roundAt 22 = .ok (.ldc 130, 2) := by decide +kernel
theorem dX5_roundAt_24 : decode cX5_roundAt 24 = .ok (.invokespecial 132, 3) := by decide +kernel
theorem dX5_roundAt_27 : decode cX5_roundAt 27 = .ok (.athrow, 1) := by decide +kernel
theorem dX5_roundAt_28 : decode cX5_roundAt 28 = .ok (.aload_n 3, 1) := by decide +kernel
theorem dX5_roundAt_29 : decode cX5_roundAt 29 = .ok (.getfield 133, 3) := by decide +kernel
theorem dX5_roundAt_32 : decode cX5_roundAt 32 = .ok (.iload_n 2, 1) := by decide +kernel
theorem dX5_roundAt_33 : decode cX5_roundAt 33 = .ok (.iaload, 1) := by decide +kernel
theorem dX5_roundAt_34 : decode cX5_roundAt 34 = .ok (.ireturn, 1) := by decide +kernel
theorem dX5_roundMinutes_0 : decode cX5_roundMinutes 0 = .ok (.aload_n 0, 1) := by decide +kernel
theorem dX5_roundMinutes_1 : decode cX5_roundMinutes 1 = .ok (.iload_n 1, 1) := by decide +kernel
theorem dX5_roundMinutes_2 : decode cX5_roundMinutes 2 = .ok (.invokevirtual 121, 3) := by decide +kernel
theorem dX5_roundMinutes_5 : decode cX5_roundMinutes 5 = .ok (.invokevirtual 136, 3) := by decide +kernel
theorem dX5_roundMinutes_8 : decode cX5_roundMinutes 8 = .ok (.ireturn, 1) := by decide +kernel
theorem dX5_visit_0 : decode cX5_visit 0 = .ok (.aload_n 0, 1) := by decide +kernel
theorem dX5_visit_1 : decode cX5_visit 1 = .ok (.iload_n 1, 1) := by decide +kernel
theorem dX5_visit_2 : decode cX5_visit 2 = .ok (.invokevirtual 140, 3) := by decide +kernel
theorem dX5_visit_5 : decode cX5_visit 5 = .ok (.astore 4, 2) := by decide +kernel
theorem dX5_visit_7 : decode cX5_visit 7 = .ok (.aload_n 0, 1) := by decide +kernel
theorem dX5_visit_8 : decode cX5_visit 8 = .ok (.iload_n 2, 1) := by decide +kernel
theorem dX5_visit_9 : decode cX5_visit 9 = .ok (.invokevirtual 144, 3) := by decide +kernel
theorem dX5_visit_12 : decode cX5_visit 12 = .ok (.aload_n 0, 1) := by decide +kernel
theorem dX5_visit_13 : decode cX5_visit 13 = .ok (.iload_n 3, 1) := by decide +kernel
theorem dX5_visit_14 : decode cX5_visit 14 = .ok (.invokevirtual 148, 3) := by decide +kernel
theorem dX5_visit_17 : decode cX5_visit 17 = .ok (.aload_n 0, 1) := by decide +kernel
theorem dX5_visit_18 : decode cX5_visit 18 = .ok (.aload 4, 2) := by decide +kernel
theorem dX5_visit_20 : decode cX5_visit 20 = .ok (.invokevirtual 151, 3) := by decide +kernel
theorem dX5_visit_23 : decode cX5_visit 23 = .ok (.aload 4, 2) := by decide +kernel
theorem dX5_visit_25 : decode cX5_visit 25 = .ok (.getfield 155, 3) := by decide +kernel
theorem dX5_visit_28 : decode cX5_visit 28 = .ok (.istore 5, 2) := by decide +kernel
theorem dX5_visit_30 : decode cX5_visit 30 = .ok (.aload_n 0, 1) := by decide +kernel
theorem dX5_visit_31 : decode cX5_visit 31 = .ok (.getfield 41, 3) := by decide +kernel
theorem dX5_visit_34 : decode cX5_visit 34 = .ok (.iload_n 2, 1) := by decide +kernel
theorem dX5_visit_35 : decode cX5_visit 35 = .ok (.iload_n 1, 1) := by decide +kernel
theorem dX5_visit_36 : decode cX5_visit 36 = .ok (.iload 5, 2) := by decide +kernel
theorem dX5_visit_38 : decode cX5_visit 38 = .ok (.iload_n 3, 1) := by decide +kernel
theorem dX5_visit_39 : decode cX5_visit 39 = .ok (.invokevirtual 158, 3) := by decide +kernel
theorem dX5_visit_42 : decode cX5_visit 42 = .ok (.aload 4, 2) := by decide +kernel
theorem dX5_visit_44 : decode cX5_visit 44 = .ok (.iconst 1, 1) := by decide +kernel
theorem dX5_visit_45 : decode cX5_visit 45 = .ok (.putfield 162, 3) := by decide +kernel
theorem dX5_visit_48 : decode cX5_visit 48 = .ok (.aload 4, 2) := by decide +kernel
theorem dX5_visit_50 : decode cX5_visit 50 = .ok (.dup, 1) := by decide +kernel
theorem dX5_visit_51 : decode cX5_visit 51 = .ok (.getfield 166, 3) := by decide +kernel
theorem dX5_visit_54 : decode cX5_visit 54 = .ok (.iconst 1, 1) := by decide +kernel
theorem dX5_visit_55 : decode cX5_visit 55 = .ok (.iadd, 1) := by decide +kernel
theorem dX5_visit_56 : decode cX5_visit 56 = .ok (.putfield 166, 3) := by decide +kernel
theorem dX5_visit_59 : decode cX5_visit 59 = .ok (.iload_n 2, 1) := by decide +kernel
theorem dX5_visit_60 : decode cX5_visit 60 = .ok (.lookupswitch 73 #[(97, 36), (110, 47), (114, 59)], 36) := by decide +kernel
theorem dX5_visit_96 : decode cX5_visit 96 = .ok (.aload_n 0, 1) := by decide +kernel
theorem dX5_visit_97 : decode cX5_visit 97 = .ok (.iload_n 1, 1) := by decide +kernel
theorem dX5_visit_98 : decode cX5_visit 98 = .ok (.iload 5, 2) := by decide +kernel
theorem dX5_visit_100 : decode cX5_visit 100 = .ok (.iload_n 3, 1) := by decide +kernel
theorem dX5_visit_101 : decode cX5_visit 101 = .ok (.invokevirtual 169, 3) := by decide +kernel
theorem dX5_visit_104 : decode cX5_visit 104 = .ok (.goto 36, 3) := by decide +kernel
theorem dX5_visit_107 : decode cX5_visit 107 = .ok (.aload 4, 2) := by decide +kernel
theorem dX5_visit_109 : decode cX5_visit 109 = .ok (.aload_n 0, 1) := by decide +kernel
theorem dX5_visit_110 : decode cX5_visit 110 = .ok (.getfield 52, 3) := by decide +kernel
theorem dX5_visit_113 : decode cX5_visit 113 = .ok (.invokevirtual 172, 3) := by decide +kernel
theorem dX5_visit_116 : decode cX5_visit 116 = .ok (.goto 24, 3) := by decide +kernel
theorem dX5_visit_119 : decode cX5_visit 119 = .ok (.aload 4, 2) := by decide +kernel
theorem dX5_visit_121 : decode cX5_visit 121 = .ok (.iload 5, 2) := by decide +kernel
theorem dX5_visit_123 : decode cX5_visit 123 = .ok (.aload_n 0, 1) := by decide +kernel
theorem dX5_visit_124 : decode cX5_visit 124 = .ok (.getfield 52, 3) := by decide +kernel
theorem dX5_visit_127 : decode cX5_visit 127 = .ok (.invokevirtual 175, 3) := by decide +kernel
theorem dX5_visit_130 : decode cX5_visit 130 = .ok (.goto 10, 3) := by decide +kernel
theorem dX5_visit_133 : decode cX5_visit 133 = .ok (.aload 4, 2) := by decide +kernel
theorem dX5_visit_135 : decode cX5_visit 135 = .ok (.bipush 101, 2) := by decide +kernel
theorem dX5_visit_137 : decode cX5_visit 137 = .ok (.invokevirtual 179, 3) := by decide +kernel
theorem dX5_visit_140 : decode cX5_visit 140 = .ok (.iload 5, 2) := by decide +kernel
theorem dX5_visit_142 : decode cX5_visit 142 = .ok (.ireturn, 1) := by decide +kernel
theorem dX5_check_0 : decode cX5_check 0 = .ok (.aload_n 0, 1) := by decide +kernel
theorem dX5_check_1 : decode cX5_check 1 = .ok (.iload_n 1, 1) := by decide +kernel
theorem dX5_check_2 : decode cX5_check 2 = .ok (.invokevirtual 140, 3) := by decide +kernel
theorem dX5_check_5 : decode cX5_check 5 = .ok (.astore_n 3, 1) := by decide +kernel
theorem dX5_check_6 : decode cX5_check 6 = .ok (.aload_n 0, 1) := by decide +kernel
theorem dX5_check_7 : decode cX5_check 7 = .ok (.iload_n 2, 1) := by decide +kernel
theorem dX5_check_8 : decode cX5_check 8 = .ok (.invokevirtual 148, 3) := by decide +kernel
theorem dX5_check_11 : decode cX5_check 11 = .ok (.aload_n 3, 1) := by decide +kernel
theorem dX5_check_12 : decode cX5_check 12 = .ok (.getfield 182, 3) := by decide +kernel
theorem dX5_check_15 : decode cX5_check 15 = .ok (.bipush 97, 2) := by decide +kernel
theorem dX5_check_17 : decode cX5_check 17 = .ok (.if_icmp .ne 10, 3) := by decide +kernel
theorem dX5_check_20 : decode cX5_check 20 = .ok (.aload_n 3, 1) := by decide +kernel
theorem dX5_check_21 : decode cX5_check 21 = .ok (.getfield 186, 3) := by decide +kernel
theorem dX5_check_24 : decode cX5_check 24 = .ok (.ifCond .eq 13, 3) := by decide +kernel
theorem dX5_check_27 : decode cX5_check 27 = .ok (.new 66, 3) := by decide +kernel
theorem dX5_check_30 : decode cX5_check 30 = .ok (.dup, 1) := by decide +kernel
theorem dX5_check_31 : decode cX5_check 31 = .ok (.ldc 189, 2) := by decide +kernel
theorem dX5_check_33 : decode cX5_check 33 = .ok (.invokespecial 70, 3) := by decide +kernel
theorem dX5_check_36 : decode cX5_check 36 = .ok (.athrow, 1) := by decide +kernel
theorem dX5_check_37 : decode cX5_check 37 = .ok (.aload_n 0, 1) := by decide +kernel
theorem dX5_check_38 : decode cX5_check 38 = .ok (.getfield 41, 3) := by decide +kernel
theorem dX5_check_41 : decode cX5_check 41 = .ok (.bipush 99, 2) := by decide +kernel
theorem dX5_check_43 : decode cX5_check 43 = .ok (.iload_n 1, 1) := by decide +kernel
theorem dX5_check_44 : decode cX5_check 44 = .ok (.iconst 0, 1) := by decide +kernel
theorem dX5_check_45 : decode cX5_check 45 = .ok (.iload_n 2, 1) := by decide +kernel
theorem dX5_check_46 : decode cX5_check 46 = .ok (.invokevirtual 158, 3) := by decide +kernel
theorem dX5_check_49 : decode cX5_check 49 = .ok (.aload_n 3, 1) := by decide +kernel
theorem dX5_check_50 : decode cX5_check 50 = .ok (.iconst 1, 1) := by decide +kernel
theorem dX5_check_51 : decode cX5_check 51 = .ok (.putfield 186, 3) := by decide +kernel
theorem dX5_check_54 : decode cX5_check 54 = .ok (.aload_n 0, 1) := by decide +kernel
theorem dX5_check_55 : decode cX5_check 55 = .ok (.getfield 31, 3) := by decide +kernel
theorem dX5_check_58 : decode cX5_check 58 = .ok (.getfield 191, 3) := by decide +kernel
theorem dX5_check_61 : decode cX5_check 61 = .ok (.iload_n 1, 1) := by decide +kernel
theorem dX5_check_62 : decode cX5_check 62 = .ok (.iaload, 1) := by decide +kernel
theorem dX5_check_63 : decode cX5_check 63 = .ok (.iload_n 2, 1) := by decide +kernel
theorem dX5_check_64 : decode cX5_check 64 = .ok (.if_icmp .ne 7, 3) := by decide +kernel
theorem dX5_check_67 : decode cX5_check 67 = .ok (.iconst 1, 1) := by decide +kernel
theorem dX5_check_68 : decode cX5_check 68 = .ok (.goto 4, 3) := by decide +kernel
theorem dX5_check_71 : decode cX5_check 71 = .ok (.iconst 0, 1) := by decide +kernel
theorem dX5_check_72 : decode cX5_check 72 = .ok (.istore 4, 2) := by decide +kernel
theorem dX5_check_74 : decode cX5_check 74 = .ok (.aload_n 0, 1) := by decide +kernel
theorem dX5_check_75 : decode cX5_check 75 = .ok (.getfield 31, 3) := by decide +kernel
theorem dX5_check_78 : decode cX5_check 78 = .ok (.iload_n 1, 1) := by decide +kernel
theorem dX5_check_79 : decode cX5_check 79 = .ok (.iload_n 2, 1) := by decide +kernel
theorem dX5_check_80 : decode cX5_check 80 = .ok (.invokevirtual 194, 3) := by decide +kernel
theorem dX5_check_83 : decode cX5_check 83 = .ok (.ifCond .eq 18, 3) := by decide +kernel
theorem dX5_check_86 : decode cX5_check 86 = .ok (.aload_n 0, 1) := by decide +kernel
theorem dX5_check_87 : decode cX5_check 87 = .ok (.invokevirtual 198, 3) := by decide +kernel
theorem dX5_check_90 : decode cX5_check 90 = .ok (.aload_n 0, 1) := by decide +kernel
theorem dX5_check_91 : decode cX5_check 91 = .ok (.getfield 31, 3) := by decide +kernel
theorem dX5_check_94 : decode cX5_check 94 = .ok (.aload_n 0, 1) := by decide +kernel
theorem dX5_check_95 : decode cX5_check 95 = .ok (.getfield 10, 3) := by decide +kernel
theorem dX5_check_98 : decode cX5_check 98 = .ok (.invokevirtual 117, 3) := by decide +kernel
theorem dX5_check_101 : decode cX5_check 101 = .ok (.iload 4, 2) := by decide +kernel
theorem dX5_check_103 : decode cX5_check 103 = .ok (.ireturn, 1) := by decide +kernel
theorem dX5_endDay_0 : decode cX5_endDay 0 = .ok (.aload_n 0, 1) := by decide +kernel
theorem dX5_endDay_1 : decode cX5_endDay 1 = .ok (.getfield 52, 3) := by decide +kernel
theorem dX5_endDay_4 : decode cX5_endDay 4 = .ok (.bipush 99, 2) := by decide +kernel
theorem dX5_endDay_6 : decode cX5_endDay 6 = .ok (.if_icmp .lt 13, 3) := by decide +kernel
theorem dX5_endDay_9 : decode cX5_endDay 9 = .ok (.new 66, 3) := by decide +kernel
theorem dX5_endDay_12 : decode cX5_endDay 12 = .ok (.dup, 1) := by decide +kernel
theorem dX5_endDay_13 : decode cX5_endDay 13 = .ok (.ldc 201, 2) := by decide +kernel
theorem dX5_endDay_15 : decode cX5_endDay 15 = .ok (.invokespecial 70, 3) := by decide +kernel
theorem dX5_endDay_18 : decode cX5_endDay 18 = .ok (.athrow, 1) := by decide +kernel
theorem dX5_endDay_19 : decode cX5_endDay 19 = .ok (.aload_n 0, 1) := by decide +kernel
theorem dX5_endDay_20 : decode cX5_endDay 20 = .ok (.invokevirtual 203, 3) := by decide +kernel
theorem dX5_endDay_23 : decode cX5_endDay 23 = .ok (.istore_n 1, 1) := by decide +kernel
theorem dX5_endDay_24 : decode cX5_endDay 24 = .ok (.aload_n 0, 1) := by decide +kernel
theorem dX5_endDay_25 : decode cX5_endDay 25 = .ok (.dup, 1) := by decide +kernel
theorem dX5_endDay_26 : decode cX5_endDay 26 = .ok (.getfield 52, 3) := by decide +kernel
theorem dX5_endDay_29 : decode cX5_endDay 29 = .ok (.iconst 1, 1) := by decide +kernel
theorem dX5_endDay_30 : decode cX5_endDay 30 = .ok (.iadd, 1) := by decide +kernel
theorem dX5_endDay_31 : decode cX5_endDay 31 = .ok (.putfield 52, 3) := by decide +kernel
theorem dX5_endDay_34 : decode cX5_endDay 34 = .ok (.aload_n 0, 1) := by decide +kernel
theorem dX5_endDay_35 : decode cX5_endDay 35 = .ok (.invokevirtual 206, 3) := by decide +kernel
theorem dX5_endDay_38 : decode cX5_endDay 38 = .ok (.iload_n 1, 1) := by decide +kernel
theorem dX5_endDay_39 : decode cX5_endDay 39 = .ok (.ireturn, 1) := by decide +kernel
theorem dX5_stateOf_0 : decode cX5_stateOf 0 = .ok (.aload_n 0, 1) := by decide +kernel
theorem dX5_stateOf_1 : decode cX5_stateOf 1 = .ok (.iload_n 1, 1) := by decide +kernel
theorem dX5_stateOf_2 : decode cX5_stateOf 2 = .ok (.invokevirtual 140, 3) := by decide +kernel
theorem dX5_stateOf_5 : decode cX5_stateOf 5 = .ok (.getfield 182, 3) := by decide +kernel
theorem dX5_stateOf_8 : decode cX5_stateOf 8 = .ok (.ireturn, 1) := by decide +kernel
theorem dX5_wantedFrom_0 : decode cX5_wantedFrom 0 = .ok (.aload_n 0, 1) := by decide +kernel
theorem dX5_wantedFrom_1 : decode cX5_wantedFrom 1 = .ok (.iload_n 1, 1) := by decide +kernel
theorem dX5_wantedFrom_2 : decode cX5_wantedFrom 2 = .ok (.invokevirtual 140, 3) := by decide +kernel
theorem dX5_wantedFrom_5 : decode cX5_wantedFrom 5 = .ok (.astore_n 2, 1) := by decide +kernel
theorem dX5_wantedFrom_6 : decode cX5_wantedFrom 6 = .ok (.aload_n 2, 1) := by decide +kernel
theorem dX5_wantedFrom_7 : decode cX5_wantedFrom 7 = .ok (.getfield 182, 3) := by decide +kernel
theorem dX5_wantedFrom_10 : decode cX5_wantedFrom 10 = .ok (.bipush 119, 2) := by decide +kernel
theorem dX5_wantedFrom_12 : decode cX5_wantedFrom 12 = .ok (.if_icmp .eq 13, 3) := by decide +kernel
theorem dX5_wantedFrom_15 : decode cX5_wantedFrom 15 = .ok (.new 66, 3) := by decide +kernel
theorem dX5_wantedFrom_18 : decode cX5_wantedFrom 18 = .ok (.dup, 1) := by decide +kernel
theorem dX5_wantedFrom_19 : decode cX5_wantedFrom 19 = .ok (.ldc 209, 2) := by decide +kernel
theorem dX5_wantedFrom_21 : decode cX5_wantedFrom 21 = .ok (.invokespecial 70, 3) := by decide +kernel
theorem dX5_wantedFrom_24 : decode cX5_wantedFrom 24 = .ok (.athrow, 1) := by decide +kernel
theorem dX5_wantedFrom_25 : decode cX5_wantedFrom 25 = .ok (.aload_n 2, 1) := by decide +kernel
theorem dX5_wantedFrom_26 : decode cX5_wantedFrom 26 = .ok (.getfield 211, 3) := by decide +kernel
theorem dX5_wantedFrom_29 : decode cX5_wantedFrom 29 = .ok (.ireturn, 1) := by decide +kernel
theorem dX5_codeOf_0 : decode cX5_codeOf 0 = .ok (.aload_n 0, 1) := by decide +kernel
theorem dX5_codeOf_1 : decode cX5_codeOf 1 = .ok (.iload_n 1, 1) := by decide +kernel
theorem dX5_codeOf_2 : decode cX5_codeOf 2 = .ok (.invokevirtual 140, 3) := by decide +kernel
theorem dX5_codeOf_5 : decode cX5_codeOf 5 = .ok (.astore_n 2, 1) := by decide +kernel
theorem dX5_codeOf_6 : decode cX5_codeOf 6 = .ok (.aload_n 2, 1) := by decide +kernel
theorem dX5_codeOf_7 : decode cX5_codeOf 7 = .ok (.getfield 182, 3) := by decide +kernel
theorem dX5_codeOf_10 : decode cX5_codeOf 10 = .ok (.lookupswitch 85 #[(97, 61), (103, 81), (114, 77), (117, 50), (119, 52)], 50) := by decide +kernel
theorem dX5_codeOf_60 : decode cX5_codeOf 60 = .ok (.iconst 0, 1) := by decide +kernel
theorem dX5_codeOf_61 : decode cX5_codeOf 61 = .ok (.ireturn, 1) := by decide +kernel
theorem dX5_codeOf_62 : decode cX5_codeOf 62 = .ok (.sipush 300, 3) := by decide +kernel
theorem dX5_codeOf_65 : decode cX5_codeOf 65 = .ok (.aload_n 2, 1) := by decide +kernel
theorem dX5_codeOf_66 : decode cX5_codeOf 66 = .ok (.getfield 166, 3) := by decide +kernel
theorem dX5_codeOf_69 : decode cX5_codeOf 69 = .ok (.iadd, 1) := by decide +kernel
theorem dX5_codeOf_70 : decode cX5_codeOf 70 = .ok (.ireturn, 1) := by decide +kernel
theorem dX5_codeOf_71 : decode cX5_codeOf 71 = .ok (.aload_n 2, 1) := by decide +kernel
theorem dX5_codeOf_72 : decode cX5_codeOf 72 = .ok (.getfield 166, 3) := by decide +kernel
theorem dX5_codeOf_75 : decode cX5_codeOf 75 = .ok (.iconst 1, 1) := by decide +kernel
theorem dX5_codeOf_76 : decode cX5_codeOf 76 = .ok (.if_icmp .ne 8, 3) := by decide +kernel
theorem dX5_codeOf_79 : decode cX5_codeOf 79 = .ok (.bipush 110, 2) := by decide +kernel
theorem dX5_codeOf_81 : decode cX5_codeOf 81 = .ok (.goto 5, 3) := by decide +kernel
theorem dX5_codeOf_84 : decode cX5_codeOf 84 = .ok (.bipush 120, 2) := by decide +kernel
theorem dX5_codeOf_86 : decode cX5_codeOf 86 = .ok (.ireturn, 1) := by decide +kernel
theorem dX5_codeOf_87 : decode cX5_codeOf 87 = .ok (.sipush 210, 3) := by decide +kernel
theorem dX5_codeOf_90 : decode cX5_codeOf 90 = .ok (.ireturn, 1) := by decide +kernel
theorem dX5_codeOf_91 : decode cX5_codeOf 91 = .ok (.sipush 220, 3) := by decide +kernel
theorem dX5_codeOf_94 : decode cX5_codeOf 94 = .ok (.ireturn, 1) := by decide +kernel
theorem dX5_codeOf_95 : decode cX5_codeOf 95 = .ok (.sipush 400, 3) := by decide +kernel
theorem dX5_codeOf_98 : decode cX5_codeOf 98 = .ok (.ireturn, 1) := by decide +kernel
theorem dX5_answerOf_0 : decode cX5_answerOf 0 = .ok (.aload_n 0, 1) := by decide +kernel
theorem dX5_answerOf_1 : decode cX5_answerOf 1 = .ok (.iload_n 1, 1) := by decide +kernel
theorem dX5_answerOf_2 : decode cX5_answerOf 2 = .ok (.invokevirtual 214, 3) := by decide +kernel
theorem dX5_answerOf_5 : decode cX5_answerOf 5 = .ok (.aload_n 0, 1) := by decide +kernel
theorem dX5_answerOf_6 : decode cX5_answerOf 6 = .ok (.getfield 31, 3) := by decide +kernel
theorem dX5_answerOf_9 : decode cX5_answerOf 9 = .ok (.getfield 191, 3) := by decide +kernel
theorem dX5_answerOf_12 : decode cX5_answerOf 12 = .ok (.iload_n 1, 1) := by decide +kernel
theorem dX5_answerOf_13 : decode cX5_answerOf 13 = .ok (.iaload, 1) := by decide +kernel
theorem dX5_answerOf_14 : decode cX5_answerOf 14 = .ok (.ireturn, 1) := by decide +kernel
theorem dX5_faults_0 : decode cX5_faults 0 = .ok (.aload_n 0, 1) := by decide +kernel
theorem dX5_faults_1 : decode cX5_faults 1 = .ok (.iload_n 1, 1) := by decide +kernel
theorem dX5_faults_2 : decode cX5_faults 2 = .ok (.invokevirtual 217, 3) := by decide +kernel
theorem dX5_faults_5 : decode cX5_faults 5 = .ok (.aload_n 0, 1) := by decide +kernel
theorem dX5_faults_6 : decode cX5_faults 6 = .ok (.getfield 31, 3) := by decide +kernel
theorem dX5_faults_9 : decode cX5_faults 9 = .ok (.getfield 220, 3) := by decide +kernel
theorem dX5_faults_12 : decode cX5_faults 12 = .ok (.iload_n 1, 1) := by decide +kernel
theorem dX5_faults_13 : decode cX5_faults 13 = .ok (.iaload, 1) := by decide +kernel
theorem dX5_faults_14 : decode cX5_faults 14 = .ok (.ireturn, 1) := by decide +kernel
theorem dX5_answersTo_0 : decode cX5_answersTo 0 = .ok (.aload_n 0, 1) := by decide +kernel
theorem dX5_answersTo_1 : decode cX5_answersTo 1 = .ok (.iload_n 1, 1) := by decide +kernel
theorem dX5_answersTo_2 : decode cX5_answersTo 2 = .ok (.invokevirtual 217, 3) := by decide +kernel
theorem dX5_answersTo_5 : decode cX5_answersTo 5 = .ok (.iconst 0, 1) := by decide +kernel
theorem dX5_answersTo_6 : decode cX5_answersTo 6 = .ok (.istore_n 2, 1) := by decide +kernel
theorem dX5_answersTo_7 : decode cX5_answersTo 7 = .ok (.iconst 0, 1) := by decide +kernel
theorem dX5_answersTo_8 : decode cX5_answersTo 8 = .ok (.istore_n 3, 1) := by decide +kernel
theorem dX5_answersTo_9 : decode cX5_answersTo 9 = .ok (.iload_n 3, 1) := by decide +kernel
theorem dX5_answersTo_10 : decode cX5_answersTo 10 = .ok (.aload_n 0, 1) := by decide +kernel
theorem dX5_answersTo_11 : decode cX5_answersTo 11 = .ok (.getfield 10, 3) := by decide +kernel
theorem dX5_answersTo_14 : decode cX5_answersTo 14 = .ok (.getfield 81, 3) := by decide +kernel
theorem dX5_answersTo_17 : decode cX5_answersTo 17 = .ok (.if_icmp .ge 37, 3) := by decide +kernel
theorem dX5_answersTo_20 : decode cX5_answersTo 20 = .ok (.aload_n 0, 1) := by decide +kernel
theorem dX5_answersTo_21 : decode cX5_answersTo 21 = .ok (.getfield 31, 3) := by decide +kernel
theorem dX5_answersTo_24 : decode cX5_answersTo 24 = .ok (.getfield 223, 3) := by decide +kernel
theorem dX5_answersTo_27 : decode cX5_answersTo 27 = .ok (.iload_n 3, 1) := by decide +kernel
theorem dX5_answersTo_28 : decode cX5_answersTo 28 = .ok (.baload, 1) := by decide +kernel
theorem dX5_answersTo_29 : decode cX5_answersTo 29 = .ok (.ifCond .eq 19, 3) := by decide +kernel
theorem dX5_answersTo_32 : decode cX5_answersTo 32 = .ok (.aload_n 0, 1) := by decide +kernel
theorem dX5_answersTo_33 : decode cX5_answersTo 33 = .ok (.getfield 31, 3) := by decide +kernel
theorem dX5_answersTo_36 : decode cX5_answersTo 36 = .ok (.getfield 227, 3) := by decide +kernel
theorem dX5_answersTo_39 : decode cX5_answersTo 39 = .ok (.iload_n 3, 1) := by decide +kernel
theorem dX5_answersTo_40 : decode cX5_answersTo 40 = .ok (.iaload, 1) := by decide +kernel
theorem dX5_answersTo_41 : decode cX5_answersTo 41 = .ok (.iload_n 1, 1) := by decide +kernel
theorem dX5_answersTo_42 : decode cX5_answersTo 42 = .ok (.if_icmp .ne 6, 3) := by decide +kernel
theorem dX5_answersTo_45 : decode cX5_answersTo 45 = .ok (.iinc 2 1, 3) := by decide +kernel
theorem dX5_answersTo_48 : decode cX5_answersTo 48 = .ok (.iinc 3 1, 3) := by decide +kernel
theorem dX5_answersTo_51 : decode cX5_answersTo 51 = .ok (.goto (-42), 3) := by decide +kernel
theorem dX5_answersTo_54 : decode cX5_answersTo 54 = .ok (.iload_n 2, 1) := by decide +kernel
theorem dX5_answersTo_55 : decode cX5_answersTo 55 = .ok (.ireturn, 1) := by decide +kernel
theorem dX5_target_0 : decode cX5_target 0 = .ok (.aload_n 0, 1) := by decide +kernel
theorem dX5_target_1 : decode cX5_target 1 = .ok (.iload_n 1, 1) := by decide +kernel
theorem dX5_target_2 : decode cX5_target 2 = .ok (.invokevirtual 71, 3) := by decide +kernel
theorem dX5_target_5 : decode cX5_target 5 = .ok (.aload_n 0, 1) := by decide +kernel
theorem dX5_target_6 : decode cX5_target 6 = .ok (.getfield 10, 3) := by decide +kernel
theorem dX5_target_9 : decode cX5_target 9 = .ok (.getfield 230, 3) := by decide +kernel
theorem dX5_target_12 : decode cX5_target 12 = .ok (.iload_n 1, 1) := by decide +kernel
theorem dX5_target_13 : decode cX5_target 13 = .ok (.iaload, 1) := by decide +kernel
theorem dX5_target_14 : decode cX5_target 14 = .ok (.ireturn, 1) := by decide +kernel
theorem dX5_weight_0 : decode cX5_weight 0 = .ok (.aload_n 0, 1) := by decide +kernel
theorem dX5_weight_1 : decode cX5_weight 1 = .ok (.iload_n 1, 1) := by decide +kernel
theorem dX5_weight_2 : decode cX5_weight 2 = .ok (.invokevirtual 214, 3) := by decide +kernel
theorem dX5_weight_5 : decode cX5_weight 5 = .ok (.aload_n 0, 1) := by decide +kernel
theorem dX5_weight_6 : decode cX5_weight 6 = .ok (.getfield 31, 3) := by decide +kernel
theorem dX5_weight_9 : decode cX5_weight 9 = .ok (.getfield 233, 3) := by decide +kernel
theorem dX5_weight_12 : decode cX5_weight 12 = .ok (.iload_n 1, 1) := by decide +kernel
theorem dX5_weight_13 : decode cX5_weight 13 = .ok (.iaload, 1) := by decide +kernel
theorem dX5_weight_14 : decode cX5_weight 14 = .ok (.ireturn, 1) := by decide +kernel
theorem dX5_weightAnew_0 : decode cX5_weightAnew 0 = .ok (.aload_n 0, 1) := by decide +kernel
theorem dX5_weightAnew_1 : decode cX5_weightAnew 1 = .ok (.iload_n 1, 1) := by decide +kernel
theorem dX5_weightAnew_2 : decode cX5_weightAnew 2 = .ok (.invokevirtual 214, 3) := by decide +kernel
theorem dX5_weightAnew_5 : decode cX5_weightAnew 5 = .ok (.aload_n 0, 1) := by decide +kernel
theorem dX5_weightAnew_6 : decode cX5_weightAnew 6 = .ok (.invokevirtual 236, 3) := by decide +kernel
theorem dX5_weightAnew_9 : decode cX5_weightAnew 9 = .ok (.aload_n 0, 1) := by decide +kernel
theorem dX5_weightAnew_10 : decode cX5_weightAnew 10 = .ok (.getfield 35, 3) := by decide +kernel
theorem dX5_weightAnew_13 : decode cX5_weightAnew 13 = .ok (.getfield 233, 3) := by decide +kernel
theorem dX5_weightAnew_16 : decode cX5_weightAnew 16 = .ok (.iload_n 1, 1) := by decide +kernel
theorem dX5_weightAnew_17 : decode cX5_weightAnew 17 = .ok (.iaload, 1) := by decide +kernel
theorem dX5_weightAnew_18 : decode cX5_weightAnew 18 = .ok (.ireturn, 1) := by decide +kernel
theorem dX5_weightOfLanguage_0 : decode cX5_weightOfLanguage 0 = .ok (.aload_n 0, 1) := by decide +kernel
theorem dX5_weightOfLanguage_1 : decode cX5_weightOfLanguage 1 = .ok (.iload_n 1, 1) := by decide +kernel
theorem dX5_weightOfLanguage_2 : decode cX5_weightOfLanguage 2 = .ok (.invokevirtual 78, 3) := by decide +kernel
theorem dX5_weightOfLanguage_5 : decode cX5_weightOfLanguage 5 = .ok (.aload_n 0, 1) := by decide +kernel
theorem dX5_weightOfLanguage_6 : decode cX5_weightOfLanguage 6 = .ok (.getfield 31, 3) := by decide +kernel
theorem dX5_weightOfLanguage_9 : decode cX5_weightOfLanguage 9 = .ok (.aload_n 0, 1) := by decide +kernel
theorem dX5_weightOfLanguage_10 : decode cX5_weightOfLanguage 10 = .ok (.getfield 10, 3) := by decide +kernel
theorem dX5_weightOfLanguage_13 : decode cX5_weightOfLanguage 13 = .ok (.getfield 91, 3) := by decide +kernel
theorem dX5_weightOfLanguage_16 : decode cX5_weightOfLanguage 16 = .ok (.iload_n 1, 1) := by decide +kernel
theorem dX5_weightOfLanguage_17 : decode cX5_weightOfLanguage 17 = .ok (.aload_n 0, 1) := by decide +kernel
theorem dX5_weightOfLanguage_18 : decode cX5_weightOfLanguage 18 = .ok (.getfield 10, 3) := by decide +kernel
theorem dX5_weightOfLanguage_21 : decode cX5_weightOfLanguage 21 = .ok (.getfield 81, 3) := by decide +kernel
theorem dX5_weightOfLanguage_24 : decode cX5_weightOfLanguage 24 = .ok (.invokevirtual 239, 3) := by decide +kernel
theorem dX5_weightOfLanguage_27 : decode cX5_weightOfLanguage 27 = .ok (.ireturn, 1) := by decide +kernel
theorem dX5_weightedSum_0 : decode cX5_weightedSum 0 = .ok (.lconst 0, 1) := by decide +kernel
theorem dX5_weightedSum_1 : decode cX5_weightedSum 1 = .ok (.lstore_n 1, 1) := by decide +kernel
theorem dX5_weightedSum_2 : decode cX5_weightedSum 2 = .ok (.iconst 0, 1) := by decide +kernel
theorem dX5_weightedSum_3 : decode cX5_weightedSum 3 = .ok (.istore_n 3, 1) := by decide +kernel
theorem dX5_weightedSum_4 : decode cX5_weightedSum 4 = .ok (.iload_n 3, 1) := by decide +kernel
theorem dX5_weightedSum_5 : decode cX5_weightedSum 5 = .ok (.aload_n 0, 1) := by decide +kernel
theorem dX5_weightedSum_6 : decode cX5_weightedSum 6 = .ok (.getfield 10, 3) := by decide +kernel
theorem dX5_weightedSum_9 : decode cX5_weightedSum 9 = .ok (.getfield 81, 3) := by decide +kernel
theorem dX5_weightedSum_12 : decode cX5_weightedSum 12 = .ok (.if_icmp .ge 45, 3) := by decide +kernel
theorem dX5_weightedSum_15 : decode cX5_weightedSum 15 = .ok (.aload_n 0, 1) := by decide +kernel
theorem dX5_weightedSum_16 : decode cX5_weightedSum 16 = .ok (.getfield 31, 3) := by decide +kernel
theorem dX5_weightedSum_19 : decode cX5_weightedSum 19 = .ok (.getfield 223, 3) := by decide +kernel
theorem dX5_weightedSum_22 : decode cX5_weightedSum 22 = .ok (.iload_n 3, 1) := by decide +kernel
theorem dX5_weightedSum_23 : decode cX5_weightedSum 23 = .ok (.baload, 1) := by decide +kernel
theorem dX5_weightedSum_24 : decode cX5_weightedSum 24 = .ok (.ifCond .eq 27, 3) := by decide +kernel
theorem dX5_weightedSum_27 : decode cX5_weightedSum 27 = .ok (.lload_n 1, 1) := by decide +kernel
theorem dX5_weightedSum_28 : decode cX5_weightedSum 28 = .ok (.aload_n 0, 1) := by decide +kernel
theorem dX5_weightedSum_29 : decode cX5_weightedSum 29 = .ok (.getfield 31, 3) := by decide +kernel
theorem dX5_weightedSum_32 : decode cX5_weightedSum 32 = .ok (.getfield 191, 3) := by decide +kernel
theorem dX5_weightedSum_35 : decode cX5_weightedSum 35 = .ok (.iload_n 3, 1) := by decide +kernel
theorem dX5_weightedSum_36 : decode cX5_weightedSum 36 = .ok (.iaload, 1) := by decide +kernel
theorem dX5_weightedSum_37 : decode cX5_weightedSum 37 = .ok (.i2l, 1) := by decide +kernel
theorem dX5_weightedSum_38 : decode cX5_weightedSum 38 = .ok (.aload_n 0, 1) := by decide +kernel
theorem dX5_weightedSum_39 : decode cX5_weightedSum 39 = .ok (.getfield 31, 3) := by decide +kernel
theorem dX5_weightedSum_42 : decode cX5_weightedSum 42 = .ok (.getfield 233, 3) := by decide +kernel
theorem dX5_weightedSum_45 : decode cX5_weightedSum 45 = .ok (.iload_n 3, 1) := by decide +kernel
theorem dX5_weightedSum_46 : decode cX5_weightedSum 46 = .ok (.iaload, 1) := by decide +kernel
theorem dX5_weightedSum_47 : decode cX5_weightedSum 47 = .ok (.i2l, 1) := by decide +kernel
theorem dX5_weightedSum_48 : decode cX5_weightedSum 48 = .ok (.lmul, 1) := by decide +kernel
theorem dX5_weightedSum_49 : decode cX5_weightedSum 49 = .ok (.ladd, 1) := by decide +kernel
theorem dX5_weightedSum_50 : decode cX5_weightedSum 50 = .ok (.lstore_n 1, 1) := by decide +kernel
theorem dX5_weightedSum_51 : decode cX5_weightedSum 51 = .ok (.iinc 3 1, 3) := by decide +kernel
theorem dX5_weightedSum_54 : decode cX5_weightedSum 54 = .ok (.goto (-50), 3) := by decide +kernel
theorem dX5_weightedSum_57 : decode cX5_weightedSum 57 = .ok (.lload_n 1, 1) := by decide +kernel
theorem dX5_weightedSum_58 : decode cX5_weightedSum 58 = .ok (.lreturn, 1) := by decide +kernel
theorem dX5_weightedMean_0 : decode cX5_weightedMean 0 = .ok (.aload_n 0, 1) := by decide +kernel
theorem dX5_weightedMean_1 : decode cX5_weightedMean 1 = .ok (.invokevirtual 243, 3) := by decide +kernel
theorem dX5_weightedMean_4 : decode cX5_weightedMean 4 = .ok (.lstore_n 1, 1) := by decide +kernel
theorem dX5_weightedMean_5 : decode cX5_weightedMean 5 = .ok (.lload_n 1, 1) := by decide +kernel
theorem dX5_weightedMean_6 : decode cX5_weightedMean 6 = .ok (.lconst 0, 1) := by decide +kernel
theorem dX5_weightedMean_7 : decode cX5_weightedMean 7 = .ok (.lcmp, 1) := by decide +kernel
theorem dX5_weightedMean_8 : decode cX5_weightedMean 8 = .ok (.ifCond .ne 13, 3) := by decide +kernel
theorem dX5_weightedMean_11 : decode cX5_weightedMean 11 = .ok (.new 247, 3) := by decide +kernel
theorem dX5_weightedMean_14 : decode cX5_weightedMean 14 = .ok (.dup, 1) := by decide +kernel
theorem dX5_weightedMean_15 : decode cX5_weightedMean 15 = .ok (.ldc 249, 2) := by decide +kernel
theorem dX5_weightedMean_17 : decode cX5_weightedMean 17 = .ok (.invokespecial 251, 3) := by decide +kernel
theorem dX5_weightedMean_20 : decode cX5_weightedMean 20 = .ok (.athrow, 1) := by decide +kernel
theorem dX5_weightedMean_21 : decode cX5_weightedMean 21 = .ok (.aload_n 0, 1) := by decide +kernel
theorem dX5_weightedMean_22 : decode cX5_weightedMean 22 = .ok (.invokevirtual 252, 3) := by decide +kernel
theorem dX5_weightedMean_25 : decode cX5_weightedMean 25 = .ok (.l2d, 1) := by decide +kernel
theorem dX5_weightedMean_26 : decode cX5_weightedMean 26 = .ok (.lload_n 1, 1) := by decide +kernel
theorem dX5_weightedMean_27 : decode cX5_weightedMean 27 = .ok (.l2d, 1) := by decide +kernel
theorem dX5_weightedMean_28 : decode cX5_weightedMean 28 = .ok (.ddiv, 1) := by decide +kernel
theorem dX5_weightedMean_29 : decode cX5_weightedMean 29 = .ok (.dreturn, 1) := by decide +kernel
theorem dX5_rate_0 : decode cX5_rate 0 = .ok (.iconst 0, 1) := by decide +kernel
theorem dX5_rate_1 : decode cX5_rate 1 = .ok (.istore_n 1, 1) := by decide +kernel
theorem dX5_rate_2 : decode cX5_rate 2 = .ok (.iconst 0, 1) := by decide +kernel
theorem dX5_rate_3 : decode cX5_rate 3 = .ok (.istore_n 2, 1) := by decide +kernel
theorem dX5_rate_4 : decode cX5_rate 4 = .ok (.iconst 0, 1) := by decide +kernel
theorem dX5_rate_5 : decode cX5_rate 5 = .ok (.istore_n 3, 1) := by decide +kernel
theorem dX5_rate_6 : decode cX5_rate 6 = .ok (.iload_n 3, 1) := by decide +kernel
theorem dX5_rate_7 : decode cX5_rate 7 = .ok (.aload_n 0, 1) := by decide +kernel
theorem dX5_rate_8 : decode cX5_rate 8 = .ok (.getfield 10, 3) := by decide +kernel
theorem dX5_rate_11 : decode cX5_rate 11 = .ok (.getfield 81, 3) := by decide +kernel
theorem dX5_rate_14 : decode cX5_rate 14 = .ok (.if_icmp .ge 47, 3) := by decide +kernel
theorem dX5_rate_17 : decode cX5_rate 17 = .ok (.aload_n 0, 1) := by decide +kernel
theorem dX5_rate_18 : decode cX5_rate 18 = .ok (.getfield 18, 3) := by decide +kernel
theorem dX5_rate_21 : decode cX5_rate 21 = .ok (.iload_n 3, 1) := by decide +kernel
theorem dX5_rate_22 : decode cX5_rate 22 = .ok (.aaload, 1) := by decide +kernel
theorem dX5_rate_23 : decode cX5_rate 23 = .ok (.getfield 182, 3) := by decide +kernel
theorem dX5_rate_26 : decode cX5_rate 26 = .ok (.istore 4, 2) := by decide +kernel
theorem dX5_rate_28 : decode cX5_rate 28 = .ok (.iload 4, 2) := by decide +kernel
theorem dX5_rate_30 : decode cX5_rate 30 = .ok (.bipush 97, 2) := by decide +kernel
theorem dX5_rate_32 : decode cX5_rate 32 = .ok (.if_icmp .ne 6, 3) := by decide +kernel
theorem dX5_rate_35 : decode cX5_rate 35 = .ok (.iinc 1 1, 3) := by decide +kernel
theorem dX5_rate_38 : decode cX5_rate 38 = .ok (.iload 4, 2) := by decide +kernel
theorem dX5_rate_40 : decode cX5_rate 40 = .ok (.bipush 117, 2) := by decide +kernel
theorem dX5_rate_42 : decode cX5_rate 42 = .ok (.if_icmp .eq 13, 3) := by decide +kernel
theorem dX5_rate_45 : decode cX5_rate 45 = .ok (.iload 4, 2) := by decide +kernel
theorem dX5_rate_47 : decode cX5_rate 47 = .ok (.bipush 101, 2) := by decide +kernel
theorem dX5_rate_49 : decode cX5_rate 49 = .ok (.if_icmp .eq 6, 3) := by decide +kernel
theorem dX5_rate_52 : decode cX5_rate 52 = .ok (.iinc 2 1, 3) := by decide +kernel
theorem dX5_rate_55 : decode cX5_rate 55 = .ok (.iinc 3 1, 3) := by decide +kernel
theorem dX5_rate_58 : decode cX5_rate 58 = .ok (.goto (-52), 3) := by decide +kernel
theorem dX5_rate_61 : decode cX5_rate 61 = .ok (.iload_n 2, 1) := by decide +kernel
theorem dX5_rate_62 : decode cX5_rate 62 = .ok (.ifCond .ne 13, 3) := by decide +kernel
theorem dX5_rate_65 : decode cX5_rate 65 = .ok (.new 247, 3) := by decide +kernel
theorem dX5_rate_68 : decode cX5_rate 68 = .ok (.dup, 1) := by decide +kernel
theorem dX5_rate_69 : decode cX5_rate 69 = .ok (.ldc 255, 2) := by decide +kernel
theorem dX5_rate_71 : decode cX5_rate 71 = .ok (.invokespecial 251, 3) := by decide +kernel
theorem dX5_rate_74 : decode cX5_rate 74 = .ok (.athrow, 1) := by decide +kernel
theorem dX5_rate_75 : decode cX5_rate 75 = .ok (.iload_n 1, 1) := by decide +kernel
theorem dX5_rate_76 : decode cX5_rate 76 = .ok (.i2f, 1) := by decide +kernel
theorem dX5_rate_77 : decode cX5_rate 77 = .ok (.iload_n 2, 1) := by decide +kernel
theorem dX5_rate_78 : decode cX5_rate 78 = .ok (.i2f, 1) := by decide +kernel
theorem dX5_rate_79 : decode cX5_rate 79 = .ok (.fdiv, 1) := by decide +kernel
theorem dX5_rate_80 : decode cX5_rate 80 = .ok (.freturn, 1) := by decide +kernel
theorem dX5_isSound_0 : decode cX5_isSound 0 = .ok (.aload_n 0, 1) := by decide +kernel
theorem dX5_isSound_1 : decode cX5_isSound 1 = .ok (.invokevirtual 236, 3) := by decide +kernel
theorem dX5_isSound_4 : decode cX5_isSound 4 = .ok (.aload_n 0, 1) := by decide +kernel
theorem dX5_isSound_5 : decode cX5_isSound 5 = .ok (.getfield 31, 3) := by decide +kernel
theorem dX5_isSound_8 : decode cX5_isSound 8 = .ok (.aload_n 0, 1) := by decide +kernel
theorem dX5_isSound_9 : decode cX5_isSound 9 = .ok (.getfield 10, 3) := by decide +kernel
theorem dX5_isSound_12 : decode cX5_isSound 12 = .ok (.invokevirtual 257, 3) := by decide +kernel
theorem dX5_isSound_15 : decode cX5_isSound 15 = .ok (.ifCond .eq 28, 3) := by decide +kernel
theorem dX5_isSound_18 : decode cX5_isSound 18 = .ok (.aload_n 0, 1) := by decide +kernel
theorem dX5_isSound_19 : decode cX5_isSound 19 = .ok (.getfield 31, 3) := by decide +kernel
theorem dX5_isSound_22 : decode cX5_isSound 22 = .ok (.aload_n 0, 1) := by decide +kernel
theorem dX5_isSound_23 : decode cX5_isSound 23 = .ok (.getfield 35, 3) := by decide +kernel
theorem dX5_isSound_26 : decode cX5_isSound 26 = .ok (.aload_n 0, 1) := by decide +kernel
theorem dX5_isSound_27 : decode cX5_isSound 27 = .ok (.getfield 10, 3) := by decide +kernel
theorem dX5_isSound_30 : decode cX5_isSound 30 = .ok (.getfield 81, 3) := by decide +kernel
theorem dX5_isSound_33 : decode cX5_isSound 33 = .ok (.invokevirtual 261, 3) := by decide +kernel
theorem dX5_isSound_36 : decode cX5_isSound 36 = .ok (.ifCond .eq 7, 3) := by decide +kernel
theorem dX5_isSound_39 : decode cX5_isSound 39 = .ok (.iconst 1, 1) := by decide +kernel
theorem dX5_isSound_40 : decode cX5_isSound 40 = .ok (.goto 4, 3) := by decide +kernel
theorem dX5_isSound_43 : decode cX5_isSound 43 = .ok (.iconst 0, 1) := by decide +kernel
theorem dX5_isSound_44 : decode cX5_isSound 44 = .ok (.ireturn, 1) := by decide +kernel
theorem dX5_requireStratum_0 : decode cX5_requireStratum 0 = .ok (.iload_n 1, 1) := by decide +kernel
theorem dX5_requireStratum_1 : decode cX5_requireStratum 1 = .ok (.ifCond .lt 14, 3) := by decide +kernel
theorem dX5_requireStratum_4 : decode cX5_requireStratum 4 = .ok (.iload_n 1, 1) := by decide +kernel
theorem dX5_requireStratum_5 : decode cX5_requireStratum 5 = .ok (.aload_n 0, 1) := by decide +kernel
theorem dX5_requireStratum_6 : decode cX5_requireStratum 6 = .ok (.getfield 10, 3) := by decide +kernel
theorem dX5_requireStratum_9 : decode cX5_requireStratum 9 = .ok (.getfield 63, 3) := by decide +kernel
theorem dX5_requireStratum_12 : decode cX5_requireStratum 12 = .ok (.if_icmp .lt 14, 3) := by decide +kernel
theorem dX5_requireStratum_15 : decode cX5_requireStratum 15 = .ok (.new 265, 3) := by decide +kernel
theorem dX5_requireStratum_18 : decode cX5_requireStratum 18 = .ok (.dup, 1) := by decide +kernel
theorem dX5_requireStratum_19 : decode cX5_requireStratum 19 = .ok (.ldc_w 267, 3) := by decide +kernel
theorem dX5_requireStratum_22 : decode cX5_requireStratum 22 = .ok (.invokespecial 269, 3) := by decide +kernel
theorem dX5_requireStratum_25 : decode cX5_requireStratum 25 = .ok (.athrow, 1) := by decide +kernel
theorem dX5_requireStratum_26 : decode cX5_requireStratum 26 = .ok (.return_, 1) := by decide +kernel
theorem dX5_requireInterviewer_0 : decode cX5_requireInterviewer 0 = .ok (.iload_n 1, 1) := by decide +kernel
theorem dX5_requireInterviewer_1 : decode cX5_requireInterviewer 1 = .ok (.ifCond .lt 11, 3) := by decide +kernel
theorem dX5_requireInterviewer_4 : decode cX5_requireInterviewer 4 = .ok (.iload_n 1, 1) := by decide +kernel
theorem dX5_requireInterviewer_5 : decode cX5_requireInterviewer 5 = .ok (.aload_n 0, 1) := by decide +kernel
theorem dX5_requireInterviewer_6 : decode cX5_requireInterviewer 6 = .ok (.getfield 45, 3) := by decide +kernel
theorem dX5_requireInterviewer_9 : decode cX5_requireInterviewer 9 = .ok (.if_icmp .lt 14, 3) := by decide +kernel
theorem dX5_requireInterviewer_12 : decode cX5_requireInterviewer 12 = .ok (.new 265, 3) := by decide +kernel
theorem dX5_requireInterviewer_15 : decode cX5_requireInterviewer 15 = .ok (.dup, 1) := by decide +kernel
theorem dX5_requireInterviewer_16 : decode cX5_requireInterviewer 16 = .ok (.ldc_w 270, 3) := by decide +kernel
theorem dX5_requireInterviewer_19 : decode cX5_requireInterviewer 19 = .ok (.invokespecial 269, 3) := by decide +kernel
theorem dX5_requireInterviewer_22 : decode cX5_requireInterviewer 22 = .ok (.athrow, 1) := by decide +kernel
theorem dX5_requireInterviewer_23 : decode cX5_requireInterviewer 23 = .ok (.return_, 1) := by decide +kernel
theorem dX5_requirePlace_0 : decode cX5_requirePlace 0 = .ok (.iload_n 1, 1) := by decide +kernel
theorem dX5_requirePlace_1 : decode cX5_requirePlace 1 = .ok (.ifCond .lt 9, 3) := by decide +kernel
theorem dX5_requirePlace_4 : decode cX5_requirePlace 4 = .ok (.iload_n 1, 1) := by decide +kernel
theorem dX5_requirePlace_5 : decode cX5_requirePlace 5 = .ok (.bipush 99, 2) := by decide +kernel
theorem dX5_requirePlace_7 : decode cX5_requirePlace 7 = .ok (.if_icmp .le 14, 3) := by decide +kernel
theorem dX5_requirePlace_10 : decode cX5_requirePlace 10 = .ok (.new 56, 3) := by decide +kernel
theorem dX5_requirePlace_13 : decode cX5_requirePlace 13 = .ok (.dup, 1) := by decide +kernel
theorem dX5_requirePlace_14 : decode cX5_requirePlace 14 = .ok (.ldc_w 272, 3) := by decide +kernel
theorem dX5_requirePlace_17 : decode cX5_requirePlace 17 = .ok (.invokespecial 60, 3) := by decide +kernel
theorem dX5_requirePlace_20 : decode cX5_requirePlace 20 = .ok (.athrow, 1) := by decide +kernel
theorem dX5_requirePlace_21 : decode cX5_requirePlace 21 = .ok (.return_, 1) := by decide +kernel
theorem dX5_requireLanguage_0 : decode cX5_requireLanguage 0 = .ok (.iload_n 1, 1) := by decide +kernel
theorem dX5_requireLanguage_1 : decode cX5_requireLanguage 1 = .ok (.ifCond .lt 8, 3) := by decide +kernel
theorem dX5_requireLanguage_4 : decode cX5_requireLanguage 4 = .ok (.iload_n 1, 1) := by decide +kernel
theorem dX5_requireLanguage_5 : decode cX5_requireLanguage 5 = .ok (.iconst 3, 1) := by decide +kernel
theorem dX5_requireLanguage_6 : decode cX5_requireLanguage 6 = .ok (.if_icmp .lt 14, 3) := by decide +kernel
theorem dX5_requireLanguage_9 : decode cX5_requireLanguage 9 = .ok (.new 56, 3) := by decide +kernel
theorem dX5_requireLanguage_12 : decode cX5_requireLanguage 12 = .ok (.dup, 1) := by decide +kernel
theorem dX5_requireLanguage_13 : decode cX5_requireLanguage 13 = .ok (.ldc_w 274, 3) := by decide +kernel
theorem dX5_requireLanguage_16 : decode cX5_requireLanguage 16 = .ok (.invokespecial 60, 3) := by decide +kernel
theorem dX5_requireLanguage_19 : decode cX5_requireLanguage 19 = .ok (.athrow, 1) := by decide +kernel
theorem dX5_requireLanguage_20 : decode cX5_requireLanguage 20 = .ok (.return_, 1) := by decide +kernel
theorem dX5_requireOutcome_0 : decode cX5_requireOutcome 0 = .ok (.iload_n 1, 1) := by decide +kernel
theorem dX5_requireOutcome_1 : decode cX5_requireOutcome 1 = .ok (.bipush 97, 2) := by decide +kernel
theorem dX5_requireOutcome_3 : decode cX5_requireOutcome 3 = .ok (.if_icmp .eq 32, 3) := by decide +kernel
theorem dX5_requireOutcome_6 : decode cX5_requireOutcome 6 = .ok (.iload_n 1, 1) := by decide +kernel
theorem dX5_requireOutcome_7 : decode cX5_requireOutcome 7 = .ok (.bipush 110, 2) := by decide +kernel
theorem dX5_requireOutcome_9 : decode cX5_requireOutcome 9 = .ok (.if_icmp .eq 26, 3) := by decide +kernel
theorem dX5_requireOutcome_12 : decode cX5_requireOutcome 12 = .ok (.iload_n 1, 1) := by decide +kernel
theorem dX5_requireOutcome_13 : decode cX5_requireOutcome 13 = .ok (.bipush 114, 2) := by decide +kernel
theorem dX5_requireOutcome_15 : decode cX5_requireOutcome 15 = .ok (.if_icmp .eq 20, 3) := by decide +kernel
theorem dX5_requireOutcome_18 : decode cX5_requireOutcome 18 = .ok (.iload_n 1, 1) := by decide +kernel
theorem dX5_requireOutcome_19 : decode cX5_requireOutcome 19 = .ok (.bipush 101, 2) := by decide +kernel
theorem dX5_requireOutcome_21 : decode cX5_requireOutcome 21 = .ok (.if_icmp .eq 14, 3) := by decide +kernel
theorem dX5_requireOutcome_24 : decode cX5_requireOutcome 24 = .ok (.new 56, 3) := by decide +kernel
theorem dX5_requireOutcome_27 : decode cX5_requireOutcome 27 = .ok (.dup, 1) := by decide +kernel
theorem dX5_requireOutcome_28 : decode cX5_requireOutcome 28 = .ok (.ldc_w 276, 3) := by decide +kernel
theorem dX5_requireOutcome_31 : decode cX5_requireOutcome 31 = .ok (.invokespecial 60, 3) := by decide +kernel
theorem dX5_requireOutcome_34 : decode cX5_requireOutcome 34 = .ok (.athrow, 1) := by decide +kernel
theorem dX5_requireOutcome_35 : decode cX5_requireOutcome 35 = .ok (.return_, 1) := by decide +kernel
theorem dX5_requireAnswer_0 : decode cX5_requireAnswer 0 = .ok (.iload_n 1, 1) := by decide +kernel
theorem dX5_requireAnswer_1 : decode cX5_requireAnswer 1 = .ok (.ifCond .lt 9, 3) := by decide +kernel
theorem dX5_requireAnswer_4 : decode cX5_requireAnswer 4 = .ok (.iload_n 1, 1) := by decide +kernel
theorem dX5_requireAnswer_5 : decode cX5_requireAnswer 5 = .ok (.bipush 9, 2) := by decide +kernel
theorem dX5_requireAnswer_7 : decode cX5_requireAnswer 7 = .ok (.if_icmp .le 14, 3) := by decide +kernel
theorem dX5_requireAnswer_10 : decode cX5_requireAnswer 10 = .ok (.new 56, 3) := by decide +kernel
theorem dX5_requireAnswer_13 : decode cX5_requireAnswer 13 = .ok (.dup, 1) := by decide +kernel
theorem dX5_requireAnswer_14 : decode cX5_requireAnswer 14 = .ok (.ldc_w 278, 3) := by decide +kernel
theorem dX5_requireAnswer_17 : decode cX5_requireAnswer 17 = .ok (.invokespecial 60, 3) := by decide +kernel
theorem dX5_requireAnswer_20 : decode cX5_requireAnswer 20 = .ok (.athrow, 1) := by decide +kernel
theorem dX5_requireAnswer_21 : decode cX5_requireAnswer 21 = .ok (.return_, 1) := by decide +kernel
theorem dX5_requireOpenVisit_0 : decode cX5_requireOpenVisit 0 = .ok (.aload_n 1, 1) := by decide +kernel
theorem dX5_requireOpenVisit_1 : decode cX5_requireOpenVisit 1 = .ok (.getfield 155, 3) := by decide +kernel
theorem dX5_requireOpenVisit_4 : decode cX5_requireOpenVisit 4 = .ok (.iconst (-1), 1) := by decide +kernel
theorem dX5_requireOpenVisit_5 : decode cX5_requireOpenVisit 5 = .ok (.if_icmp .ne 14, 3) := by decide +kernel
theorem dX5_requireOpenVisit_8 : decode cX5_requireOpenVisit 8 = .ok (.new 66, 3) := by decide +kernel
theorem dX5_requireOpenVisit_11 : decode cX5_requireOpenVisit 11 = .ok (.dup, 1) := by decide +kernel
theorem dX5_requireOpenVisit_12 : decode cX5_requireOpenVisit 12 = .ok (.ldc_w 280, 3) := by decide +kernel
theorem dX5_requireOpenVisit_15 : decode cX5_requireOpenVisit 15 = .ok (.invokespecial 70, 3) := by decide +kernel
theorem dX5_requireOpenVisit_18 : decode cX5_requireOpenVisit 18 = .ok (.athrow, 1) := by decide +kernel
theorem dX5_requireOpenVisit_19 : decode cX5_requireOpenVisit 19 = .ok (.aload_n 1, 1) := by decide +kernel
theorem dX5_requireOpenVisit_20 : decode cX5_requireOpenVisit 20 = .ok (.getfield 162, 3) := by decide +kernel
theorem dX5_requireOpenVisit_23 : decode cX5_requireOpenVisit 23 = .ok (.ifCond .eq 14, 3) := by decide +kernel
theorem dX5_requireOpenVisit_26 : decode cX5_requireOpenVisit 26 = .ok (.new 66, 3) := by decide +kernel
theorem dX5_requireOpenVisit_29 : decode cX5_requireOpenVisit 29 = .ok (.dup, 1) := by decide +kernel
theorem dX5_requireOpenVisit_30 : decode cX5_requireOpenVisit 30 = .ok (.ldc_w 282, 3) := by decide +kernel
theorem dX5_requireOpenVisit_33 : decode cX5_requireOpenVisit 33 = .ok (.invokespecial 70, 3) := by decide +kernel
theorem dX5_requireOpenVisit_36 : decode cX5_requireOpenVisit 36 = .ok (.athrow, 1) := by decide +kernel
theorem dX5_requireOpenVisit_37 : decode cX5_requireOpenVisit 37 = .ok (.aload_n 0, 1) := by decide +kernel
theorem dX5_requireOpenVisit_38 : decode cX5_requireOpenVisit 38 = .ok (.getfield 31, 3) := by decide +kernel
theorem dX5_requireOpenVisit_41 : decode cX5_requireOpenVisit 41 = .ok (.aload_n 1, 1) := by decide +kernel
theorem dX5_requireOpenVisit_42 : decode cX5_requireOpenVisit 42 = .ok (.getfield 155, 3) := by decide +kernel
theorem dX5_requireOpenVisit_45 : decode cX5_requireOpenVisit 45 = .ok (.invokevirtual 284, 3) := by decide +kernel
theorem dX5_requireOpenVisit_48 : decode cX5_requireOpenVisit 48 = .ok (.ifCond .eq 14, 3) := by decide +kernel
theorem dX5_requireOpenVisit_51 : decode cX5_requireOpenVisit 51 = .ok (.new 66, 3) := by decide +kernel
theorem dX5_requireOpenVisit_54 : decode cX5_requireOpenVisit 54 = .ok (.dup, 1) := by decide +kernel
theorem dX5_requireOpenVisit_55 : decode cX5_requireOpenVisit 55 = .ok (.ldc_w 288, 3) := by decide +kernel
theorem dX5_requireOpenVisit_58 : decode cX5_requireOpenVisit 58 = .ok (.invokespecial 70, 3) := by decide +kernel
theorem dX5_requireOpenVisit_61 : decode cX5_requireOpenVisit 61 = .ok (.athrow, 1) := by decide +kernel
theorem dX5_requireOpenVisit_62 : decode cX5_requireOpenVisit 62 = .ok (.return_, 1) := by decide +kernel
theorem dX5_requireAnswered_0 : decode cX5_requireAnswered 0 = .ok (.aload_n 0, 1) := by decide +kernel
theorem dX5_requireAnswered_1 : decode cX5_requireAnswered 1 = .ok (.iload_n 1, 1) := by decide +kernel
theorem dX5_requireAnswered_2 : decode cX5_requireAnswered 2 = .ok (.invokevirtual 140, 3) := by decide +kernel
theorem dX5_requireAnswered_5 : decode cX5_requireAnswered 5 = .ok (.getfield 182, 3) := by decide +kernel
theorem dX5_requireAnswered_8 : decode cX5_requireAnswered 8 = .ok (.bipush 97, 2) := by decide +kernel
theorem dX5_requireAnswered_10 : decode cX5_requireAnswered 10 = .ok (.if_icmp .eq 14, 3) := by decide +kernel
theorem dX5_requireAnswered_13 : decode cX5_requireAnswered 13 = .ok (.new 128, 3) := by decide +kernel
theorem dX5_requireAnswered_16 : decode cX5_requireAnswered 16 = .ok (.dup, 1) := by decide +kernel
theorem dX5_requireAnswered_17 : decode cX5_requireAnswered 17 = .ok (.ldc_w 290, 3) := by decide +kernel
theorem dX5_requireAnswered_20 : decode cX5_requireAnswered 20 = .ok (.invokespecial 132, 3) := by decide +kernel
theorem dX5_requireAnswered_23 : decode cX5_requireAnswered 23 = .ok (.athrow, 1) := by decide +kernel
theorem dX5_requireAnswered_24 : decode cX5_requireAnswered 24 = .ok (.return_, 1) := by decide +kernel
theorem dX5_houseNumbered_0 : decode cX5_houseNumbered 0 = .ok (.iload_n 1, 1) := by decide +kernel
theorem dX5_houseNumbered_1 : decode cX5_houseNumbered 1 = .ok (.ifCond .lt 14, 3) := by decide +kernel
theorem dX5_houseNumbered_4 : decode cX5_houseNumbered 4 = .ok (.iload_n 1, 1) := by decide +kernel
theorem dX5_houseNumbered_5 : decode cX5_houseNumbered 5 = .ok (.aload_n 0, 1) := by decide +kernel
theorem dX5_houseNumbered_6 : decode cX5_houseNumbered 6 = .ok (.getfield 10, 3) := by decide +kernel
theorem dX5_houseNumbered_9 : decode cX5_houseNumbered 9 = .ok (.getfield 81, 3) := by decide +kernel
theorem dX5_houseNumbered_12 : decode cX5_houseNumbered 12 = .ok (.if_icmp .lt 14, 3) := by decide +kernel
theorem dX5_houseNumbered_15 : decode cX5_houseNumbered 15 = .ok (.new 265, 3) := by decide +kernel
theorem dX5_houseNumbered_18 : decode cX5_houseNumbered 18 = .ok (.dup, 1) := by decide +kernel
theorem dX5_houseNumbered_19 : decode cX5_houseNumbered 19 = .ok (.ldc_w 292, 3) := by decide +kernel
theorem dX5_houseNumbered_22 : decode cX5_houseNumbered 22 = .ok (.invokespecial 269, 3) := by decide +kernel
theorem dX5_houseNumbered_25 : decode cX5_houseNumbered 25 = .ok (.athrow, 1) := by decide +kernel
theorem dX5_houseNumbered_26 : decode cX5_houseNumbered 26 = .ok (.aload_n 0, 1) := by decide +kernel
theorem dX5_houseNumbered_27 : decode cX5_houseNumbered 27 = .ok (.getfield 18, 3) := by decide +kernel
theorem dX5_houseNumbered_30 : decode cX5_houseNumbered 30 = .ok (.iload_n 1, 1) := by decide +kernel
theorem dX5_houseNumbered_31 : decode cX5_houseNumbered 31 = .ok (.aaload, 1) := by decide +kernel
theorem dX5_houseNumbered_32 : decode cX5_houseNumbered 32 = .ok (.areturn, 1) := by decide +kernel
theorem dX5_interviewerNumbered_0 : decode cX5_interviewerNumbered 0 = .ok (.aload_n 0, 1) := by decide +kernel
theorem dX5_interviewerNumbered_1 : decode cX5_interviewerNumbered 1 = .ok (.iload_n 1, 1) := by decide +kernel
theorem dX5_interviewerNumbered_2 : decode cX5_interviewerNumbered 2 = .ok (.invokevirtual 217, 3) := by decide +kernel
theorem dX5_interviewerNumbered_5 : decode cX5_interviewerNumbered 5 = .ok (.aload_n 0, 1) := by decide +kernel
theorem dX5_interviewerNumbered_6 : decode cX5_interviewerNumbered 6 = .ok (.getfield 24, 3) := by decide +kernel
theorem dX5_interviewerNumbered_9 : decode cX5_interviewerNumbered 9 = .ok (.iload_n 1, 1) := by decide +kernel
theorem dX5_interviewerNumbered_10 : decode cX5_interviewerNumbered 10 = .ok (.aaload, 1) := by decide +kernel
theorem dX5_interviewerNumbered_11 : decode cX5_interviewerNumbered 11 = .ok (.areturn, 1) := by decide +kernel
theorem dX5_isUndrawnIn_0 : decode cX5_isUndrawnIn 0 = .ok (.aload_n 0, 1) := by decide +kernel
theorem dX5_isUndrawnIn_1 : decode cX5_isUndrawnIn 1 = .ok (.getfield 10, 3) := by decide +kernel
theorem dX5_isUndrawnIn_4 : decode cX5_isUndrawnIn 4 = .ok (.getfield 87, 3) := by decide +kernel
theorem dX5_isUndrawnIn_7 : decode cX5_isUndrawnIn 7 = .ok (.iload_n 1, 1) := by decide +kernel
theorem dX5_isUndrawnIn_8 : decode cX5_isUndrawnIn 8 = .ok (.iaload, 1) := by decide +kernel
theorem dX5_isUndrawnIn_9 : decode cX5_isUndrawnIn 9 = .ok (.iload_n 2, 1) := by decide +kernel
theorem dX5_isUndrawnIn_10 : decode cX5_isUndrawnIn 10 = .ok (.if_icmp .ne 21, 3) := by decide +kernel
theorem dX5_isUndrawnIn_13 : decode cX5_isUndrawnIn 13 = .ok (.aload_n 0, 1) := by decide +kernel
theorem dX5_isUndrawnIn_14 : decode cX5_isUndrawnIn 14 = .ok (.getfield 18, 3) := by decide +kernel
theorem dX5_isUndrawnIn_17 : decode cX5_isUndrawnIn 17 = .ok (.iload_n 1, 1) := by decide +kernel
theorem dX5_isUndrawnIn_18 : decode cX5_isUndrawnIn 18 = .ok (.aaload, 1) := by decide +kernel
theorem dX5_isUndrawnIn_19 : decode cX5_isUndrawnIn 19 = .ok (.getfield 182, 3) := by decide +kernel
theorem dX5_isUndrawnIn_22 : decode cX5_isUndrawnIn 22 = .ok (.bipush 117, 2) := by decide +kernel
theorem dX5_isUndrawnIn_24 : decode cX5_isUndrawnIn 24 = .ok (.if_icmp .ne 7, 3) := by decide +kernel
theorem dX5_isUndrawnIn_27 : decode cX5_isUndrawnIn 27 = .ok (.iconst 1, 1) := by decide +kernel
theorem dX5_isUndrawnIn_28 : decode cX5_isUndrawnIn 28 = .ok (.goto 4, 3) := by decide +kernel
theorem dX5_isUndrawnIn_31 : decode cX5_isUndrawnIn 31 = .ok (.iconst 0, 1) := by decide +kernel
theorem dX5_isUndrawnIn_32 : decode cX5_isUndrawnIn 32 = .ok (.ireturn, 1) := by decide +kernel
theorem dX5_undrawnIn_0 : decode cX5_undrawnIn 0 = .ok (.iconst 0, 1) := by decide +kernel
theorem dX5_undrawnIn_1 : decode cX5_undrawnIn 1 = .ok (.istore_n 2, 1) := by decide +kernel
theorem dX5_undrawnIn_2 : decode cX5_undrawnIn 2 = .ok (.iconst 0, 1) := by decide +kernel
theorem dX5_undrawnIn_3 : decode cX5_undrawnIn 3 = .ok (.istore_n 3, 1) := by decide +kernel
theorem dX5_undrawnIn_4 : decode cX5_undrawnIn 4 = .ok (.iload_n 3, 1) := by decide +kernel
theorem dX5_undrawnIn_5 : decode cX5_undrawnIn 5 = .ok (.aload_n 0, 1) := by decide +kernel
theorem dX5_undrawnIn_6 : decode cX5_undrawnIn 6 = .ok (.getfield 10, 3) := by decide +kernel
theorem dX5_undrawnIn_9 : decode cX5_undrawnIn 9 = .ok (.getfield 81, 3) := by decide +kernel
theorem dX5_undrawnIn_12 : decode cX5_undrawnIn 12 = .ok (.if_icmp .ge 21, 3) := by decide +kernel
theorem dX5_undrawnIn_15 : decode cX5_undrawnIn 15 = .ok (.aload_n 0, 1) := by decide +kernel
theorem dX5_undrawnIn_16 : decode cX5_undrawnIn 16 = .ok (.iload_n 3, 1) := by decide +kernel
theorem dX5_undrawnIn_17 : decode cX5_undrawnIn 17 = .ok (.iload_n 1, 1) := by decide +kernel
theorem dX5_undrawnIn_18 : decode cX5_undrawnIn 18 = .ok (.invokevirtual 294, 3) := by decide +kernel
theorem dX5_undrawnIn_21 : decode cX5_undrawnIn 21 = .ok (.ifCond .eq 6, 3) := by decide +kernel
theorem dX5_undrawnIn_24 : decode cX5_undrawnIn 24 = .ok (.iinc 2 1, 3) := by decide +kernel
theorem dX5_undrawnIn_27 : decode cX5_undrawnIn 27 = .ok (.iinc 3 1, 3) := by decide +kernel
theorem dX5_undrawnIn_30 : decode cX5_undrawnIn 30 = .ok (.goto (-26), 3) := by decide +kernel
theorem dX5_undrawnIn_33 : decode cX5_undrawnIn 33 = .ok (.iload_n 2, 1) := by decide +kernel
theorem dX5_undrawnIn_34 : decode cX5_undrawnIn 34 = .ok (.ireturn, 1) := by decide +kernel
theorem dX5_drawOne_0 : decode cX5_drawOne 0 = .ok (.aload_n 0, 1) := by decide +kernel
theorem dX5_drawOne_1 : decode cX5_drawOne 1 = .ok (.iload_n 1, 1) := by decide +kernel
theorem dX5_drawOne_2 : decode cX5_drawOne 2 = .ok (.invokevirtual 105, 3) := by decide +kernel
theorem dX5_drawOne_5 : decode cX5_drawOne 5 = .ok (.istore_n 2, 1) := by decide +kernel
theorem dX5_drawOne_6 : decode cX5_drawOne 6 = .ok (.iload_n 2, 1) := by decide +kernel
theorem dX5_drawOne_7 : decode cX5_drawOne 7 = .ok (.ifCond .ne 5, 3) := by decide +kernel
theorem dX5_drawOne_10 : decode cX5_drawOne 10 = .ok (.iconst (-1), 1) := by decide +kernel
theorem dX5_drawOne_11 : decode cX5_drawOne 11 = .ok (.ireturn, 1) := by decide +kernel
theorem dX5_drawOne_12 : decode cX5_drawOne 12 = .ok (.aload_n 0, 1) := by decide +kernel
theorem dX5_drawOne_13 : decode cX5_drawOne 13 = .ok (.aload_n 0, 1) := by decide +kernel
theorem dX5_drawOne_14 : decode cX5_drawOne 14 = .ok (.getfield 49, 3) := by decide +kernel
theorem dX5_drawOne_17 : decode cX5_drawOne 17 = .ok (.sipush 1103, 3) := by decide +kernel
theorem dX5_drawOne_20 : decode cX5_drawOne 20 = .ok (.imul, 1) := by decide +kernel
theorem dX5_drawOne_21 : decode cX5_drawOne 21 = .ok (.sipush 12345, 3) := by decide +kernel
theorem dX5_drawOne_24 : decode cX5_drawOne 24 = .ok (.iadd, 1) := by decide +kernel
theorem dX5_drawOne_25 : decode cX5_drawOne 25 = .ok (.ldc 55, 2) := by decide +kernel
theorem dX5_drawOne_27 : decode cX5_drawOne 27 = .ok (.irem, 1) := by decide +kernel
theorem dX5_drawOne_28 : decode cX5_drawOne 28 = .ok (.putfield 49, 3) := by decide +kernel
theorem dX5_drawOne_31 : decode cX5_drawOne 31 = .ok (.aload_n 0, 1) := by decide +kernel
theorem dX5_drawOne_32 : decode cX5_drawOne 32 = .ok (.getfield 49, 3) := by decide +kernel
theorem dX5_drawOne_35 : decode cX5_drawOne 35 = .ok (.iload_n 2, 1) := by decide +kernel
theorem dX5_drawOne_36 : decode cX5_drawOne 36 = .ok (.irem, 1) := by decide +kernel
theorem dX5_drawOne_37 : decode cX5_drawOne 37 = .ok (.istore_n 3, 1) := by decide +kernel
theorem dX5_drawOne_38 : decode cX5_drawOne 38 = .ok (.iconst 0, 1) := by decide +kernel
theorem dX5_drawOne_39 : decode cX5_drawOne 39 = .ok (.istore 4, 2) := by decide +kernel
theorem dX5_drawOne_41 : decode cX5_drawOne 41 = .ok (.iload 4, 2) := by decide +kernel
theorem dX5_drawOne_43 : decode cX5_drawOne 43 = .ok (.aload_n 0, 1) := by decide +kernel
theorem dX5_drawOne_44 : decode cX5_drawOne 44 = .ok (.getfield 10, 3) := by decide +kernel
theorem dX5_drawOne_47 : decode cX5_drawOne 47 = .ok (.getfield 81, 3) := by decide +kernel
theorem dX5_drawOne_50 : decode cX5_drawOne 50 = .ok (.if_icmp .ge 45, 3) := by decide +kernel
theorem dX5_drawOne_53 : decode cX5_drawOne 53 = .ok (.aload_n 0, 1) := by decide +kernel
theorem dX5_drawOne_54 : decode cX5_drawOne 54 = .ok (.iload 4, 2) := by decide +kernel
theorem dX5_drawOne_56 : decode cX5_drawOne 56 = .ok (.iload_n 1, 1) := by decide +kernel
theorem dX5_drawOne_57 : decode cX5_drawOne 57 = .ok (.invokevirtual 294, 3) := by decide +kernel
theorem dX5_drawOne_60 : decode cX5_drawOne 60 = .ok (.ifCond .eq 29, 3) := by decide +kernel
theorem dX5_drawOne_63 : decode cX5_drawOne 63 = .ok (.iload_n 3, 1) := by decide +kernel
theorem dX5_drawOne_64 : decode cX5_drawOne 64 = .ok (.ifCond .ne 22, 3) := by decide +kernel
theorem dX5_drawOne_67 : decode cX5_drawOne 67 = .ok (.aload_n 0, 1) := by decide +kernel
theorem dX5_drawOne_68 : decode cX5_drawOne 68 = .ok (.getfield 18, 3) := by decide +kernel
theorem dX5_drawOne_71 : decode cX5_drawOne 71 = .ok (.iload 4, 2) := by decide +kernel
theorem dX5_drawOne_73 : decode cX5_drawOne 73 = .ok (.aaload, 1) := by decide +kernel
theorem dX5_drawOne_74 : decode cX5_drawOne 74 = .ok (.aload_n 0, 1) := by decide +kernel
theorem dX5_drawOne_75 : decode cX5_drawOne 75 = .ok (.getfield 52, 3) := by decide +kernel
theorem dX5_drawOne_78 : decode cX5_drawOne 78 = .ok (.iconst 1, 1) := by decide +kernel
theorem dX5_drawOne_79 : decode cX5_drawOne 79 = .ok (.iadd, 1) := by decide +kernel
theorem dX5_drawOne_80 : decode cX5_drawOne 80 = .ok (.invokevirtual 297, 3) := by decide +kernel
theorem dX5_drawOne_83 : decode cX5_drawOne 83 = .ok (.iload 4, 2) := by decide +kernel
theorem dX5_drawOne_85 : decode cX5_drawOne 85 = .ok (.ireturn, 1) := by decide +kernel
theorem dX5_drawOne_86 : decode cX5_drawOne 86 = .ok (.iinc 3 (-1), 3) := by decide +kernel
theorem dX5_drawOne_89 : decode cX5_drawOne 89 = .ok (.iinc 4 1, 3) := by decide +kernel
theorem dX5_drawOne_92 : decode cX5_drawOne 92 = .ok (.goto (-51), 3) := by decide +kernel
theorem dX5_drawOne_95 : decode cX5_drawOne 95 = .ok (.iconst (-1), 1) := by decide +kernel
theorem dX5_drawOne_96 : decode cX5_drawOne 96 = .ok (.ireturn, 1) := by decide +kernel
theorem dX5_replaceLostHouses_0 : decode cX5_replaceLostHouses 0 = .ok (.iconst 0, 1) := by decide +kernel
theorem dX5_replaceLostHouses_1 : decode cX5_replaceLostHouses 1 = .ok (.istore_n 1, 1) := by decide +kernel
theorem dX5_replaceLostHouses_2 : decode cX5_replaceLostHouses 2 = .ok (.iconst 0, 1) := by decide +kernel
theorem dX5_replaceLostHouses_3 : decode cX5_replaceLostHouses 3 = .ok (.istore_n 2, 1) := by decide +kernel
theorem dX5_replaceLostHouses_4 : decode cX5_replaceLostHouses 4 = .ok (.iload_n 2, 1) := by decide +kernel
theorem dX5_replaceLostHouses_5 : decode cX5_replaceLostHouses 5 = .ok (.aload_n 0, 1) := by decide +kernel
theorem dX5_replaceLostHouses_6 : decode cX5_replaceLostHouses 6 = .ok (.getfield 10, 3) := by decide +kernel
theorem dX5_replaceLostHouses_9 : decode cX5_replaceLostHouses 9 = .ok (.getfield 81, 3) := by decide +kernel
theorem dX5_replaceLostHouses_12 : decode cX5_replaceLostHouses 12 = .ok (.if_icmp .ge 41, 3) := by decide +kernel
theorem dX5_replaceLostHouses_15 : decode cX5_replaceLostHouses 15 = .ok (.aload_n 0, 1) := by decide +kernel
theorem dX5_replaceLostHouses_16 : decode cX5_replaceLostHouses 16 = .ok (.getfield 18, 3) := by decide +kernel
theorem dX5_replaceLostHouses_19 : decode cX5_replaceLostHouses 19 = .ok (.iload_n 2, 1) := by decide +kernel
theorem dX5_replaceLostHouses_20 : decode cX5_replaceLostHouses 20 = .ok (.aaload, 1) := by decide +kernel
theorem dX5_replaceLostHouses_21 : decode cX5_replaceLostHouses 21 = .ok (.getfield 300, 3) := by decide +kernel
theorem dX5_replaceLostHouses_24 : decode cX5_replaceLostHouses 24 = .ok (.ifCond .eq 23, 3) := by decide +kernel
theorem dX5_replaceLostHouses_27 : decode cX5_replaceLostHouses 27 = .ok (.aload_n 0, 1) := by decide +kernel
theorem dX5_replaceLostHouses_28 : decode cX5_replaceLostHouses 28 = .ok (.aload_n 0, 1) := by decide +kernel
theorem dX5_replaceLostHouses_29 : decode cX5_replaceLostHouses 29 = .ok (.getfield 10, 3) := by decide +kernel
theorem dX5_replaceLostHouses_32 : decode cX5_replaceLostHouses 32 = .ok (.getfield 87, 3) := by decide +kernel
theorem dX5_replaceLostHouses_35 : decode cX5_replaceLostHouses 35 = .ok (.iload_n 2, 1) := by decide +kernel
theorem dX5_replaceLostHouses_36 : decode cX5_replaceLostHouses 36 = .ok (.iaload, 1) := by decide +kernel
theorem dX5_replaceLostHouses_37 : decode cX5_replaceLostHouses 37 = .ok (.invokevirtual 111, 3) := by decide +kernel
theorem dX5_replaceLostHouses_40 : decode cX5_replaceLostHouses 40 = .ok (.iconst (-1), 1) := by decide +kernel
theorem dX5_replaceLostHouses_41 : decode cX5_replaceLostHouses 41 = .ok (.if_icmp .eq 6, 3) := by decide +kernel
theorem dX5_replaceLostHouses_44 : decode cX5_replaceLostHouses 44 = .ok (.iinc 1 1, 3) := by decide +kernel
theorem dX5_replaceLostHouses_47 : decode cX5_replaceLostHouses 47 = .ok (.iinc 2 1, 3) := by decide +kernel
theorem dX5_replaceLostHouses_50 : decode cX5_replaceLostHouses 50 = .ok (.goto (-46), 3) := by decide +kernel
theorem dX5_replaceLostHouses_53 : decode cX5_replaceLostHouses 53 = .ok (.iload_n 1, 1) := by decide +kernel
theorem dX5_replaceLostHouses_54 : decode cX5_replaceLostHouses 54 = .ok (.ireturn, 1) := by decide +kernel
theorem dX5_makeRounds_0 : decode cX5_makeRounds 0 = .ok (.iconst 0, 1) := by decide +kernel
theorem dX5_makeRounds_1 : decode cX5_makeRounds 1 = .ok (.istore_n 1, 1) := by decide +kernel
theorem dX5_makeRounds_2 : decode cX5_makeRounds 2 = .ok (.iload_n 1, 1) := by decide +kernel
theorem dX5_makeRounds_3 : decode cX5_makeRounds 3 = .ok (.aload_n 0, 1) := by decide +kernel
theorem dX5_makeRounds_4 : decode cX5_makeRounds 4 = .ok (.getfield 10, 3) := by decide +kernel
theorem dX5_makeRounds_7 : decode cX5_makeRounds 7 = .ok (.getfield 81, 3) := by decide +kernel
theorem dX5_makeRounds_10 : decode cX5_makeRounds 10 = .ok (.if_icmp .ge 18, 3) := by decide +kernel
theorem dX5_makeRounds_13 : decode cX5_makeRounds 13 = .ok (.aload_n 0, 1) := by decide +kernel
theorem dX5_makeRounds_14 : decode cX5_makeRounds 14 = .ok (.getfield 18, 3) := by decide +kernel
theorem dX5_makeRounds_17 : decode cX5_makeRounds 17 = .ok (.iload_n 1, 1) := by decide +kernel
theorem dX5_makeRounds_18 : decode cX5_makeRounds 18 = .ok (.aaload, 1) := by decide +kernel
theorem dX5_makeRounds_19 : decode cX5_makeRounds 19 = .ok (.invokevirtual 303, 3) := by decide +kernel
theorem dX5_makeRounds_22 : decode cX5_makeRounds 22 = .ok (.iinc 1 1, 3) := by decide +kernel
theorem dX5_makeRounds_25 : decode cX5_makeRounds 25 = .ok (.goto (-23), 3) := by decide +kernel
theorem dX5_makeRounds_28 : decode cX5_makeRounds 28 = .ok (.iconst 0, 1) := by decide +kernel
theorem dX5_makeRounds_29 : decode cX5_makeRounds 29 = .ok (.istore_n 1, 1) := by decide +kernel
theorem dX5_makeRounds_30 : decode cX5_makeRounds 30 = .ok (.iload_n 1, 1) := by decide +kernel
theorem dX5_makeRounds_31 : decode cX5_makeRounds 31 = .ok (.aload_n 0, 1) := by decide +kernel
theorem dX5_makeRounds_32 : decode cX5_makeRounds 32 = .ok (.getfield 45, 3) := by decide +kernel
theorem dX5_makeRounds_35 : decode cX5_makeRounds 35 = .ok (.if_icmp .ge 34, 3) := by decide +kernel
theorem dX5_makeRounds_38 : decode cX5_makeRounds 38 = .ok (.aload_n 0, 1) := by decide +kernel
theorem dX5_makeRounds_39 : decode cX5_makeRounds 39 = .ok (.getfield 24, 3) := by decide +kernel
theorem dX5_makeRounds_42 : decode cX5_makeRounds 42 = .ok (.iload_n 1, 1) := by decide +kernel
theorem dX5_makeRounds_43 : decode cX5_makeRounds 43 = .ok (.aaload, 1) := by decide +kernel
theorem dX5_makeRounds_44 : decode cX5_makeRounds 44 = .ok (.invokevirtual 306, 3) := by decide +kernel
theorem dX5_makeRounds_47 : decode cX5_makeRounds 47 = .ok (.aload_n 0, 1) := by decide +kernel
theorem dX5_makeRounds_48 : decode cX5_makeRounds 48 = .ok (.getfield 31, 3) := by decide +kernel
theorem dX5_makeRounds_51 : decode cX5_makeRounds 51 = .ok (.iload_n 1, 1) := by decide +kernel
theorem dX5_makeRounds_52 : decode cX5_makeRounds 52 = .ok (.invokevirtual 284, 3) := by decide +kernel
theorem dX5_makeRounds_55 : decode cX5_makeRounds 55 = .ok (.ifCond .ne 8, 3) := by decide +kernel
theorem dX5_makeRounds_58 : decode cX5_makeRounds 58 = .ok (.aload_n 0, 1) := by decide +kernel
theorem dX5_makeRounds_59 : decode cX5_makeRounds 59 = .ok (.iload_n 1, 1) := by decide +kernel
theorem dX5_makeRounds_60 : decode cX5_makeRounds 60 = .ok (.invokevirtual 309, 3) := by decide +kernel
theorem dX5_makeRounds_63 : decode cX5_makeRounds 63 = .ok (.iinc 1 1, 3) := by decide +kernel
theorem dX5_makeRounds_66 : decode cX5_makeRounds 66 = .ok (.goto (-36), 3) := by decide +kernel
theorem dX5_makeRounds_69 : decode cX5_makeRounds 69 = .ok (.return_, 1) := by decide +kernel
theorem dX5_makeRound_0 : decode cX5_makeRound 0 = .ok (.aload_n 0, 1) := by decide +kernel
theorem dX5_makeRound_1 : decode cX5_makeRound 1 = .ok (.getfield 24, 3) := by decide +kernel
theorem dX5_makeRound_4 : decode cX5_makeRound 4 = .ok (.iload_n 1, 1) := by decide +kernel
theorem dX5_makeRound_5 : decode cX5_makeRound 5 = .ok (.aaload, 1) := by decide +kernel
theorem dX5_makeRound_6 : decode cX5_makeRound 6 = .ok (.astore_n 2, 1) := by decide +kernel
theorem dX5_makeRound_7 : decode cX5_makeRound 7 = .ok (.iconst 0, 1) := by decide +kernel
theorem dX5_makeRound_8 : decode cX5_makeRound 8 = .ok (.istore_n 3, 1) := by decide +kernel
theorem dX5_makeRound_9 : decode cX5_makeRound 9 = .ok (.iload_n 3, 1) := by decide +kernel
theorem dX5_makeRound_10 : decode cX5_makeRound 10 = .ok (.aload_n 0, 1) := by decide +kernel
theorem dX5_makeRound_11 : decode cX5_makeRound 11 = .ok (.getfield 10, 3) := by decide +kernel
theorem dX5_makeRound_14 : decode cX5_makeRound 14 = .ok (.getfield 81, 3) := by decide +kernel
theorem dX5_makeRound_17 : decode cX5_makeRound 17 = .ok (.if_icmp .ge 50, 3) := by decide +kernel
theorem dX5_makeRound_20 : decode cX5_makeRound 20 = .ok (.aload_n 0, 1) := by decide +kernel
theorem dX5_makeRound_21 : decode cX5_makeRound 21 = .ok (.iload_n 1, 1) := by decide +kernel
theorem dX5_makeRound_22 : decode cX5_makeRound 22 = .ok (.invokevirtual 312, 3) := by decide +kernel
theorem dX5_makeRound_25 : decode cX5_makeRound 25 = .ok (.istore 4, 2) := by decide +kernel
theorem dX5_makeRound_27 : decode cX5_makeRound 27 = .ok (.iload 4, 2) := by decide +kernel
theorem dX5_makeRound_29 : decode cX5_makeRound 29 = .ok (.iconst (-1), 1) := by decide +kernel
theorem dX5_makeRound_30 : decode cX5_makeRound 30 = .ok (.if_icmp .ne 4, 3) := by decide +kernel
theorem dX5_makeRound_33 : decode cX5_makeRound 33 = .ok (.return_, 1) := by decide +kernel
theorem dX5_makeRound_34 : decode cX5_makeRound 34 = .ok (.aload_n 2, 1) := by decide +kernel
theorem dX5_makeRound_35 : decode cX5_makeRound 35 = .ok (.iload 4, 2) := by decide +kernel
theorem dX5_makeRound_37 : decode cX5_makeRound 37 = .ok (.aload_n 0, 1) := by decide +kernel
theorem dX5_makeRound_38 : decode cX5_makeRound 38 = .ok (.getfield 18, 3) := by decide +kernel
theorem dX5_makeRound_41 : decode cX5_makeRound 41 = .ok (.iload 4, 2) := by decide +kernel
theorem dX5_makeRound_43 : decode cX5_makeRound 43 = .ok (.aaload, 1) := by decide +kernel
theorem dX5_makeRound_44 : decode cX5_makeRound 44 = .ok (.getfield 315, 3) := by decide +kernel
theorem dX5_makeRound_47 : decode cX5_makeRound 47 = .ok (.invokevirtual 318, 3) := by decide +kernel
theorem dX5_makeRound_50 : decode cX5_makeRound 50 = .ok (.aload_n 0, 1) := by decide +kernel
theorem dX5_makeRound_51 : decode cX5_makeRound 51 = .ok (.getfield 18, 3) := by decide +kernel
theorem dX5_makeRound_54 : decode cX5_makeRound 54 = .ok (.iload 4, 2) := by decide +kernel
theorem dX5_makeRound_56 : decode cX5_makeRound 56 = .ok (.aaload, 1) := by decide +kernel
theorem dX5_makeRound_57 : decode cX5_makeRound 57 = .ok (.iload_n 1, 1) := by decide +kernel
theorem dX5_makeRound_58 : decode cX5_makeRound 58 = .ok (.putfield 155, 3) := by decide +kernel
theorem dX5_makeRound_61 : decode cX5_makeRound 61 = .ok (.iinc 3 1, 3) := by decide +kernel
theorem dX5_makeRound_64 : decode cX5_makeRound 64 = .ok (.goto (-55), 3) := by decide +kernel
theorem dX5_makeRound_67 : decode cX5_makeRound 67 = .ok (.return_, 1) := by decide +kernel
theorem dX5_nearestFor_0 : decode cX5_nearestFor 0 = .ok (.aload_n 0, 1) := by decide +kernel
theorem dX5_nearestFor_1 : decode cX5_nearestFor 1 = .ok (.getfield 24, 3) := by decide +kernel
theorem dX5_nearestFor_4 : decode cX5_nearestFor 4 = .ok (.iload_n 1, 1) := by decide +kernel
theorem dX5_nearestFor_5 : decode cX5_nearestFor 5 = .ok (.aaload, 1) := by decide +kernel
theorem dX5_nearestFor_6 : decode cX5_nearestFor 6 = .ok (.astore_n 2, 1) := by decide +kernel
theorem dX5_nearestFor_7 : decode cX5_nearestFor 7 = .ok (.iconst (-1), 1) := by decide +kernel
theorem dX5_nearestFor_8 : decode cX5_nearestFor 8 = .ok (.istore_n 3, 1) := by decide +kernel
theorem dX5_nearestFor_9 : decode cX5_nearestFor 9 = .ok (.iconst 0, 1) := by decide +kernel
theorem dX5_nearestFor_10 : decode cX5_nearestFor 10 = .ok (.istore 4, 2) := by decide +kernel
theorem dX5_nearestFor_12 : decode cX5_nearestFor 12 = .ok (.iconst 0, 1) := by decide +kernel
theorem dX5_nearestFor_13 : decode cX5_nearestFor 13 = .ok (.istore 5, 2) := by decide +kernel
theorem dX5_nearestFor_15 : decode cX5_nearestFor 15 = .ok (.iload 5, 2) := by decide +kernel
theorem dX5_nearestFor_17 : decode cX5_nearestFor 17 = .ok (.aload_n 0, 1) := by decide +kernel
theorem dX5_nearestFor_18 : decode cX5_nearestFor 18 = .ok (.getfield 10, 3) := by decide +kernel
theorem dX5_nearestFor_21 : decode cX5_nearestFor 21 = .ok (.getfield 81, 3) := by decide +kernel
theorem dX5_nearestFor_24 : decode cX5_nearestFor 24 = .ok (.if_icmp .ge 54, 3) := by decide +kernel
theorem dX5_nearestFor_27 : decode cX5_nearestFor 27 = .ok (.aload_n 0, 1) := by decide +kernel
theorem dX5_nearestFor_28 : decode cX5_nearestFor 28 = .ok (.iload 5, 2) := by decide +kernel
theorem dX5_nearestFor_30 : decode cX5_nearestFor 30 = .ok (.iload_n 1, 1) := by decide +kernel
theorem dX5_nearestFor_31 : decode cX5_nearestFor 31 = .ok (.invokevirtual 321, 3) := by decide +kernel
theorem dX5_nearestFor_34 : decode cX5_nearestFor 34 = .ok (.ifCond .eq 38, 3) := by decide +kernel
theorem dX5_nearestFor_37 : decode cX5_nearestFor 37 = .ok (.aload_n 2, 1) := by decide +kernel
theorem dX5_nearestFor_38 : decode cX5_nearestFor 38 = .ok (.aload_n 0, 1) := by decide +kernel
theorem dX5_nearestFor_39 : decode cX5_nearestFor 39 = .ok (.getfield 18, 3) := by decide +kernel
theorem dX5_nearestFor_42 : decode cX5_nearestFor 42 = .ok (.iload 5, 2) := by decide +kernel
theorem dX5_nearestFor_44 : decode cX5_nearestFor 44 = .ok (.aaload, 1) := by decide +kernel
theorem dX5_nearestFor_45 : decode cX5_nearestFor 45 = .ok (.getfield 315, 3) := by decide +kernel
theorem dX5_nearestFor_48 : decode cX5_nearestFor 48 = .ok (.invokevirtual 324, 3) := by decide +kernel
theorem dX5_nearestFor_51 : decode cX5_nearestFor 51 = .ok (.istore 6, 2) := by decide +kernel
theorem dX5_nearestFor_53 : decode cX5_nearestFor 53 = .ok (.iload_n 3, 1) := by decide +kernel
theorem dX5_nearestFor_54 : decode cX5_nearestFor 54 = .ok (.iconst (-1), 1) := by decide +kernel
theorem dX5_nearestFor_55 : decode cX5_nearestFor 55 = .ok (.if_icmp .eq 10, 3) := by decide +kernel
theorem dX5_nearestFor_58 : decode cX5_nearestFor 58 = .ok (.iload 6, 2) := by decide +kernel
theorem dX5_nearestFor_60 : decode cX5_nearestFor 60 = .ok (.iload 4, 2) := by decide +kernel
theorem dX5_nearestFor_62 : decode cX5_nearestFor 62 = .ok (.if_icmp .ge 10, 3) := by decide +kernel
theorem dX5_nearestFor_65 : decode cX5_nearestFor 65 = .ok (.iload 5, 2) := by decide +kernel
theorem dX5_nearestFor_67 : decode cX5_nearestFor 67 = .ok (.istore_n 3, 1) := by decide +kernel
theorem dX5_nearestFor_68 : decode cX5_nearestFor 68 = .ok (.iload 6, 2) := by decide +kernel
theorem dX5_nearestFor_70 : decode cX5_nearestFor 70 = .ok (.istore 4, 2) := by decide +kernel
theorem dX5_nearestFor_72 : decode cX5_nearestFor 72 = .ok (.iinc 5 1, 3) := by decide +kernel
theorem dX5_nearestFor_75 : decode cX5_nearestFor 75 = .ok (.goto (-60), 3) := by decide +kernel
theorem dX5_nearestFor_78 : decode cX5_nearestFor 78 = .ok (.iload_n 3, 1) := by decide +kernel
theorem dX5_nearestFor_79 : decode cX5_nearestFor 79 = .ok (.ireturn, 1) := by decide +kernel
theorem dX5_canAdd_0 : decode cX5_canAdd 0 = .ok (.aload_n 0, 1) := by decide +kernel
theorem dX5_canAdd_1 : decode cX5_canAdd 1 = .ok (.getfield 18, 3) := by decide +kernel
theorem dX5_canAdd_4 : decode cX5_canAdd 4 = .ok (.iload_n 1, 1) := by decide +kernel
theorem dX5_canAdd_5 : decode cX5_canAdd 5 = .ok (.aaload, 1) := by decide +kernel
theorem dX5_canAdd_6 : decode cX5_canAdd 6 = .ok (.astore_n 3, 1) := by decide +kernel
theorem dX5_canAdd_7 : decode cX5_canAdd 7 = .ok (.aload_n 0, 1) := by decide +kernel
theorem dX5_canAdd_8 : decode cX5_canAdd 8 = .ok (.getfield 24, 3) := by decide +kernel
theorem dX5_canAdd_11 : decode cX5_canAdd 11 = .ok (.iload_n 2, 1) := by decide +kernel
theorem dX5_canAdd_12 : decode cX5_canAdd 12 = .ok (.aaload, 1) := by decide +kernel
theorem dX5_canAdd_13 : decode cX5_canAdd 13 = .ok (.astore 4, 2) := by decide +kernel
theorem dX5_canAdd_15 : decode cX5_canAdd 15 = .ok (.aload_n 3, 1) := by decide +kernel
theorem dX5_canAdd_16 : decode cX5_canAdd 16 = .ok (.aload_n 0, 1) := by decide +kernel
theorem dX5_canAdd_17 : decode cX5_canAdd 17 = .ok (.getfield 52, 3) := by decide +kernel
theorem dX5_canAdd_20 : decode cX5_canAdd 20 = .ok (.invokevirtual 327, 3) := by decide +kernel
theorem dX5_canAdd_23 : decode cX5_canAdd 23 = .ok (.ifCond .eq 44, 3) := by decide +kernel
theorem dX5_canAdd_26 : decode cX5_canAdd 26 = .ok (.aload_n 3, 1) := by decide +kernel
theorem dX5_canAdd_27 : decode cX5_canAdd 27 = .ok (.iload_n 2, 1) := by decide +kernel
theorem dX5_canAdd_28 : decode cX5_canAdd 28 = .ok (.invokevirtual 330, 3) := by decide +kernel
theorem dX5_canAdd_31 : decode cX5_canAdd 31 = .ok (.ifCond .ne 36, 3) := by decide +kernel
theorem dX5_canAdd_34 : decode cX5_canAdd 34 = .ok (.aload 4, 2) := by decide +kernel
theorem dX5_canAdd_36 : decode cX5_canAdd 36 = .ok (.aload_n 0, 1) := by decide +kernel
theorem dX5_canAdd_37 : decode cX5_canAdd 37 = .ok (.getfield 10, 3) := by decide +kernel
theorem dX5_canAdd_40 : decode cX5_canAdd 40 = .ok (.getfield 91, 3) := by decide +kernel
theorem dX5_canAdd_43 : decode cX5_canAdd 43 = .ok (.iload_n 1, 1) := by decide +kernel
theorem dX5_canAdd_44 : decode cX5_canAdd 44 = .ok (.iaload, 1) := by decide +kernel
theorem dX5_canAdd_45 : decode cX5_canAdd 45 = .ok (.invokevirtual 333, 3) := by decide +kernel
theorem dX5_canAdd_48 : decode cX5_canAdd 48 = .ok (.ifCond .eq 19, 3) := by decide +kernel
theorem dX5_canAdd_51 : decode cX5_canAdd 51 = .ok (.aload 4, 2) := by decide +kernel
theorem dX5_canAdd_53 : decode cX5_canAdd 53 = .ok (.aload_n 3, 1) := by decide +kernel
theorem dX5_canAdd_54 : decode cX5_canAdd 54 = .ok (.getfield 315, 3) := by decide +kernel
theorem dX5_canAdd_57 : decode cX5_canAdd 57 = .ok (.invokevirtual 336, 3) := by decide +kernel
theorem dX5_canAdd_60 : decode cX5_canAdd 60 = .ok (.ifCond .eq 7, 3) := by decide +kernel
theorem dX5_canAdd_63 : decode cX5_canAdd 63 = .ok (.iconst 1, 1) := by decide +kernel
theorem dX5_canAdd_64 : decode cX5_canAdd 64 = .ok (.goto 4, 3) := by decide +kernel
theorem dX5_canAdd_67 : decode cX5_canAdd 67 = .ok (.iconst 0, 1) := by decide +kernel
theorem dX5_canAdd_68 : decode cX5_canAdd 68 = .ok (.ireturn, 1) := by decide +kernel
theorem dX5_takeAnswer_0 : decode cX5_takeAnswer 0 = .ok (.aload_n 0, 1) := by decide +kernel
theorem dX5_takeAnswer_1 : decode cX5_takeAnswer 1 = .ok (.getfield 18, 3) := by decide +kernel
theorem dX5_takeAnswer_4 : decode cX5_takeAnswer 4 = .ok (.iload_n 1, 1) := by decide +kernel
theorem dX5_takeAnswer_5 : decode cX5_takeAnswer 5 = .ok (.aaload, 1) := by decide +kernel
theorem dX5_takeAnswer_6 : decode cX5_takeAnswer 6 = .ok (.bipush 97, 2) := by decide +kernel
theorem dX5_takeAnswer_8 : decode cX5_takeAnswer 8 = .ok (.putfield 182, 3) := by decide +kernel
theorem dX5_takeAnswer_11 : decode cX5_takeAnswer 11 = .ok (.aload_n 0, 1) := by decide +kernel
theorem dX5_takeAnswer_12 : decode cX5_takeAnswer 12 = .ok (.getfield 18, 3) := by decide +kernel
theorem dX5_takeAnswer_15 : decode cX5_takeAnswer 15 = .ok (.iload_n 1, 1) := by decide +kernel
theorem dX5_takeAnswer_16 : decode cX5_takeAnswer 16 = .ok (.aaload, 1) := by decide +kernel
theorem dX5_takeAnswer_17 : decode cX5_takeAnswer 17 = .ok (.iconst 0, 1) := by decide +kernel
theorem dX5_takeAnswer_18 : decode cX5_takeAnswer 18 = .ok (.putfield 186, 3) := by decide +kernel
theorem dX5_takeAnswer_21 : decode cX5_takeAnswer 21 = .ok (.aload_n 0, 1) := by decide +kernel
theorem dX5_takeAnswer_22 : decode cX5_takeAnswer 22 = .ok (.getfield 31, 3) := by decide +kernel
theorem dX5_takeAnswer_25 : decode cX5_takeAnswer 25 = .ok (.iload_n 1, 1) := by decide +kernel
theorem dX5_takeAnswer_26 : decode cX5_takeAnswer 26 = .ok (.iload_n 2, 1) := by decide +kernel
theorem dX5_takeAnswer_27 : decode cX5_takeAnswer 27 = .ok (.iload_n 3, 1) := by decide +kernel
theorem dX5_takeAnswer_28 : decode cX5_takeAnswer 28 = .ok (.invokevirtual 339, 3) := by decide +kernel
theorem dX5_takeAnswer_31 : decode cX5_takeAnswer 31 = .ok (.aload_n 0, 1) := by decide +kernel
theorem dX5_takeAnswer_32 : decode cX5_takeAnswer 32 = .ok (.getfield 31, 3) := by decide +kernel
theorem dX5_takeAnswer_35 : decode cX5_takeAnswer 35 = .ok (.aload_n 0, 1) := by decide +kernel
theorem dX5_takeAnswer_36 : decode cX5_takeAnswer 36 = .ok (.getfield 10, 3) := by decide +kernel
theorem dX5_takeAnswer_39 : decode cX5_takeAnswer 39 = .ok (.invokevirtual 117, 3) := by decide +kernel
theorem dX5_takeAnswer_42 : decode cX5_takeAnswer 42 = .ok (.return_, 1) := by decide +kernel
theorem dX5_wantLostAnswersAgain_0 : decode cX5_wantLostAnswersAgain 0 = .ok (.iconst 0, 1) := by decide +kernel
theorem dX5_wantLostAnswersAgain_1 : decode cX5_wantLostAnswersAgain 1 = .ok (.istore_n 1, 1) := by decide +kernel
theorem dX5_wantLostAnswersAgain_2 : decode cX5_wantLostAnswersAgain 2 = .ok (.iload_n 1, 1) := by decide +kernel
theorem dX5_wantLostAnswersAgain_3 : decode cX5_wantLostAnswersAgain 3 = .ok (.aload_n 0, 1) := by decide +kernel
theorem dX5_wantLostAnswersAgain_4 : decode cX5_wantLostAnswersAgain 4 = .ok (.getfield 10, 3) := by decide +kernel
theorem dX5_wantLostAnswersAgain_7 : decode cX5_wantLostAnswersAgain 7 = .ok (.getfield 81, 3) := by decide +kernel
theorem dX5_wantLostAnswersAgain_10 : decode cX5_wantLostAnswersAgain 10 = .ok (.if_icmp .ge 50, 3) := by decide +kernel
theorem dX5_wantLostAnswersAgain_13 : decode cX5_wantLostAnswersAgain 13 = .ok (.aload_n 0, 1) := by decide +kernel
theorem dX5_wantLostAnswersAgain_14 : decode cX5_wantLostAnswersAgain 14 = .ok (.getfield 18, 3) := by decide +kernel
theorem dX5_wantLostAnswersAgain_17 : decode cX5_wantLostAnswersAgain 17 = .ok (.iload_n 1, 1) := by decide +kernel
theorem dX5_wantLostAnswersAgain_18 : decode cX5_wantLostAnswersAgain 18 = .ok (.aaload, 1) := by decide +kernel
theorem dX5_wantLostAnswersAgain_19 : decode cX5_wantLostAnswersAgain 19 = .ok (.getfield 182, 3) := by decide +kernel
theorem dX5_wantLostAnswersAgain_22 : decode cX5_wantLostAnswersAgain 22 = .ok (.bipush 97, 2) := by decide +kernel
theorem dX5_wantLostAnswersAgain_24 : decode cX5_wantLostAnswersAgain 24 = .ok (.if_icmp .ne 30, 3) := by decide +kernel
theorem dX5_wantLostAnswersAgain_27 : decode cX5_wantLostAnswersAgain 27 = .ok (.aload_n 0, 1) := by decide +kernel
theorem dX5_wantLostAnswersAgain_28 : decode cX5_wantLostAnswersAgain 28 = .ok (.getfield 31, 3) := by decide +kernel
theorem dX5_wantLostAnswersAgain_31 : decode cX5_wantLostAnswersAgain 31 = .ok (.getfield 223, 3) := by decide +kernel
theorem dX5_wantLostAnswersAgain_34 : decode cX5_wantLostAnswersAgain 34 = .ok (.iload_n 1, 1) := by decide +kernel
theorem dX5_wantLostAnswersAgain_35 : decode cX5_wantLostAnswersAgain 35 = .ok (.baload, 1) := by decide +kernel
theorem dX5_wantLostAnswersAgain_36 : decode cX5_wantLostAnswersAgain 36 = .ok (.ifCond .ne 18, 3) := by decide +kernel
theorem dX5_wantLostAnswersAgain_39 : decode cX5_wantLostAnswersAgain 39 = .ok (.aload_n 0, 1) := by decide +kernel
theorem dX5_wantLostAnswersAgain_40 : decode cX5_wantLostAnswersAgain 40 = .ok (.getfield 18, 3) := by decide +kernel
theorem dX5_wantLostAnswersAgain_43 : decode cX5_wantLostAnswersAgain 43 = .ok (.iload_n 1, 1) := by decide +kernel
theorem dX5_wantLostAnswersAgain_44 : decode cX5_wantLostAnswersAgain 44 = .ok (.aaload, 1) := by decide +kernel
theorem dX5_wantLostAnswersAgain_45 : decode cX5_wantLostAnswersAgain 45 = .ok (.aload_n 0, 1) := by decide +kernel
theorem dX5_wantLostAnswersAgain_46 : decode cX5_wantLostAnswersAgain 46 = .ok (.getfield 52, 3) := by decide +kernel
theorem dX5_wantLostAnswersAgain_49 : decode cX5_wantLostAnswersAgain 49 = .ok (.iconst 1, 1) := by decide +kernel
theorem dX5_wantLostAnswersAgain_50 : decode cX5_wantLostAnswersAgain 50 = .ok (.iadd, 1) := by decide +kernel
theorem dX5_wantLostAnswersAgain_51 : decode cX5_wantLostAnswersAgain 51 = .ok (.invokevirtual 297, 3) := by decide +kernel
theorem dX5_wantLostAnswersAgain_54 : decode cX5_wantLostAnswersAgain 54 = .ok (.iinc 1 1, 3) := by decide +kernel
theorem dX5_wantLostAnswersAgain_57 : decode cX5_wantLostAnswersAgain 57 = .ok (.goto (-55), 3) := by decide +kernel
theorem dX5_wantLostAnswersAgain_60 : decode cX5_wantLostAnswersAgain 60 = .ok (.return_, 1) := by decide +kernel
theorem dX5_weighAnew_0 : decode cX5_weighAnew 0 = .ok (.aload_n 0, 1) := by decide +kernel
theorem dX5_weighAnew_1 : decode cX5_weighAnew 1 = .ok (.getfield 41, 3) := by decide +kernel
theorem dX5_weighAnew_4 : decode cX5_weighAnew 4 = .ok (.aload_n 0, 1) := by decide +kernel
theorem dX5_weighAnew_5 : decode cX5_weighAnew 5 = .ok (.getfield 35, 3) := by decide +kernel
theorem dX5_weighAnew_8 : decode cX5_weighAnew 8 = .ok (.invokevirtual 342, 3) := by decide +kernel
theorem dX5_weighAnew_11 : decode cX5_weighAnew 11 = .ok (.aload_n 0, 1) := by decide +kernel
theorem dX5_weighAnew_12 : decode cX5_weighAnew 12 = .ok (.getfield 35, 3) := by decide +kernel
theorem dX5_weighAnew_15 : decode cX5_weighAnew 15 = .ok (.aload_n 0, 1) := by decide +kernel
theorem dX5_weighAnew_16 : decode cX5_weighAnew 16 = .ok (.getfield 10, 3) := by decide +kernel
theorem dX5_weighAnew_19 : decode cX5_weighAnew 19 = .ok (.invokevirtual 117, 3) := by decide +kernel
theorem dX5_weighAnew_22 : decode cX5_weighAnew 22 = .ok (.return_, 1) := by decide +kernel
theorem dX5_sumOfWeights_0 : decode cX5_sumOfWeights 0 = .ok (.lconst 0, 1) := by decide +kernel
theorem dX5_sumOfWeights_1 : decode cX5_sumOfWeights 1 = .ok (.lstore_n 1, 1) := by decide +kernel
theorem dX5_sumOfWeights_2 : decode cX5_sumOfWeights 2 = .ok (.iconst 0, 1) := by decide +kernel
theorem dX5_sumOfWeights_3 : decode cX5_sumOfWeights 3 = .ok (.istore_n 3, 1) := by decide +kernel
theorem dX5_sumOfWeights_4 : decode cX5_sumOfWeights 4 = .ok (.iload_n 3, 1) := by decide +kernel
theorem dX5_sumOfWeights_5 : decode cX5_sumOfWeights 5 = .ok (.aload_n 0, 1) := by decide +kernel
theorem dX5_sumOfWeights_6 : decode cX5_sumOfWeights 6 = .ok (.getfield 10, 3) := by decide +kernel
theorem dX5_sumOfWeights_9 : decode cX5_sumOfWeights 9 = .ok (.getfield 81, 3) := by decide +kernel
theorem dX5_sumOfWeights_12 : decode cX5_sumOfWeights 12 = .ok (.if_icmp .ge 22, 3) := by decide +kernel
theorem dX5_sumOfWeights_15 : decode cX5_sumOfWeights 15 = .ok (.lload_n 1, 1) := by decide +kernel
theorem dX5_sumOfWeights_16 : decode cX5_sumOfWeights 16 = .ok (.aload_n 0, 1) := by decide +kernel
theorem dX5_sumOfWeights_17 : decode cX5_sumOfWeights 17 = .ok (.getfield 31, 3) := by decide +kernel
theorem dX5_sumOfWeights_20 : decode cX5_sumOfWeights 20 = .ok (.getfield 233, 3) := by decide +kernel
theorem dX5_sumOfWeights_23 : decode cX5_sumOfWeights 23 = .ok (.iload_n 3, 1) := by decide +kernel
theorem dX5_sumOfWeights_24 : decode cX5_sumOfWeights 24 = .ok (.iaload, 1) := by decide +kernel
theorem dX5_sumOfWeights_25 : decode cX5_sumOfWeights 25 = .ok (.i2l, 1) := by decide +kernel
theorem dX5_sumOfWeights_26 : decode cX5_sumOfWeights 26 = .ok (.ladd, 1) := by decide +kernel
theorem dX5_sumOfWeights_27 : decode cX5_sumOfWeights 27 = .ok (.lstore_n 1, 1) := by decide +kernel
theorem dX5_sumOfWeights_28 : decode cX5_sumOfWeights 28 = .ok (.iinc 3 1, 3) := by decide +kernel
theorem dX5_sumOfWeights_31 : decode cX5_sumOfWeights 31 = .ok (.goto (-27), 3) := by decide +kernel
theorem dX5_sumOfWeights_34 : decode cX5_sumOfWeights 34 = .ok (.lload_n 1, 1) := by decide +kernel
theorem dX5_sumOfWeights_35 : decode cX5_sumOfWeights 35 = .ok (.lreturn, 1) := by decide +kernel
