theorem dX6_init_0 : decode cX6_init 0 = .ok (.aload_n 0, 1) := by decide +kernel
theorem dX6_init_1 : decode cX6_init 1 = .ok (.invokespecial 1, 3) := by decide +kernel
theorem dX6_init_4 : decode cX6_init 4 = .ok (.aload_n 0, 1) := by decide +kernel
theorem dX6_init_5 : decode cX6_init 5 = .ok (.iconst 1, 1) := by decide +kernel
theorem dX6_init_6 : decode cX6_init 6 = .ok (.putfield 7, 3) := by decide +kernel
theorem dX6_init_9 : decode cX6_init 9 = .ok (.aload_n 0, 1) := by decide +kernel
theorem dX6_init_10 : decode cX6_init 10 = .ok (.bipush 24, 2) := by decide +kernel
theorem dX6_init_12 : decode cX6_init 12 = .ok (.newarray .int, 2) := by decide +kernel
theorem dX6_init_14 : decode cX6_init 14 = .ok (.putfield 13, 3) := by decide +kernel
theorem dX6_init_17 : decode cX6_init 17 = .ok (.aload_n 0, 1) := by decide +kernel
theorem dX6_init_18 : decode cX6_init 18 = .ok (.bipush 24, 2) := by decide +kernel
theorem dX6_init_20 : decode cX6_init 20 = .ok (.newarray .int, 2) := by decide +kernel
theorem dX6_init_22 : decode cX6_init 22 = .ok (.putfield 17, 3) := by decide +kernel
theorem dX6_init_25 : decode cX6_init 25 = .ok (.aload_n 0, 1) := by decide +kernel
theorem dX6_init_26 : decode cX6_init 26 = .ok (.bipush 24, 2) := by decide +kernel
theorem dX6_init_28 : decode cX6_init 28 = .ok (.newarray .int, 2) := by decide +kernel
theorem dX6_init_30 : decode cX6_init 30 = .ok (.putfield 20, 3) := by decide +kernel
theorem dX6_init_33 : decode cX6_init 33 = .ok (.aload_n 0, 1) := by decide +kernel
theorem dX6_init_34 : decode cX6_init 34 = .ok (.bipush 24, 2) := by decide +kernel
theorem dX6_init_36 : decode cX6_init 36 = .ok (.newarray .int, 2) := by decide +kernel
theorem dX6_init_38 : decode cX6_init 38 = .ok (.putfield 23, 3) := by decide +kernel
theorem dX6_init_41 : decode cX6_init 41 = .ok (.aload_n 0, 1) := by decide +kernel
theorem dX6_init_42 : decode cX6_init 42 = .ok (.bipush 24, 2) := by decide +kernel
theorem dX6_init_44 : decode cX6_init 44 = .ok (.newarray .int, 2) := by decide +kernel
theorem dX6_init_46 : decode cX6_init 46 = .ok (.putfield 26, 3) := by decide +kernel
theorem dX6_init_49 : decode cX6_init 49 = .ok (.aload_n 0, 1) := by decide +kernel
theorem dX6_init_50 : decode cX6_init 50 = .ok (.bipush 24, 2) := by decide +kernel
theorem dX6_init_52 : decode cX6_init 52 = .ok (.newarray .int, 2) := by decide +kernel
theorem dX6_init_54 : decode cX6_init 54 = .ok (.putfield 29, 3) := by decide +kernel
theorem dX6_init_57 : decode cX6_init 57 = .ok (.aload_n 0, 1) := by decide +kernel
theorem dX6_init_58 : decode cX6_init 58 = .ok (.bipush 24, 2) := by decide +kernel
theorem dX6_init_60 : decode cX6_init 60 = .ok (.newarray .int, 2) := by decide +kernel
theorem dX6_init_62 : decode cX6_init 62 = .ok (.putfield 32, 3) := by decide +kernel
theorem dX6_init_65 : decode cX6_init 65 = .ok (.aload_n 0, 1) := by decide +kernel
theorem dX6_init_66 : decode cX6_init 66 = .ok (.bipush 24, 2) := by decide +kernel
theorem dX6_init_68 : decode cX6_init 68 = .ok (.newarray .int, 2) := by decide +kernel
theorem dX6_init_70 : decode cX6_init 70 = .ok (.putfield 35, 3) := by decide +kernel
theorem dX6_init_73 : decode cX6_init 73 = .ok (.aload_n 0, 1) := by decide +kernel
theorem dX6_init_74 : decode cX6_init 74 = .ok (.bipush 24, 2) := by decide +kernel
theorem dX6_init_76 : decode cX6_init 76 = .ok (.newarray .int, 2) := by decide +kernel
theorem dX6_init_78 : decode cX6_init 78 = .ok (.putfield 38, 3) := by decide +kernel
theorem dX6_init_81 : decode cX6_init 81 = .ok (.aload_n 0, 1) := by decide +kernel
theorem dX6_init_82 : decode cX6_init 82 = .ok (.bipush 24, 2) := by decide +kernel
theorem dX6_init_84 : decode cX6_init 84 = .ok (.newarray .int, 2) := by decide +kernel
theorem dX6_init_86 : decode cX6_init 86 = .ok (.putfield 41, 3) := by decide +kernel
theorem dX6_init_89 : decode cX6_init 89 = .ok (.aload_n 0, 1) := by decide +kernel
theorem dX6_init_90 : decode cX6_init 90 = .ok (.bipush 24, 2) := by decide +kernel
theorem dX6_init_92 : decode cX6_init 92 = .ok (.newarray .int, 2) := by decide +kernel
theorem dX6_init_94 : decode cX6_init 94 = .ok (.putfield 44, 3) := by decide +kernel
theorem dX6_init_97 : decode cX6_init 97 = .ok (.aload_n 0, 1) := by decide +kernel
theorem dX6_init_98 : decode cX6_init 98 = .ok (.bipush 24, 2) := by decide +kernel
theorem dX6_init_100 : decode cX6_init 100 = .ok (.newarray .int, 2) := by decide +kernel
theorem dX6_init_102 : decode cX6_init 102 = .ok (.putfield 47, 3) := by decide +kernel
theorem dX6_init_105 : decode cX6_init 105 = .ok (.aload_n 0, 1) := by decide +kernel
theorem dX6_init_106 : decode cX6_init 106 = .ok (.bipush 24, 2) := by decide +kernel
theorem dX6_init_108 : decode cX6_init 108 = .ok (.newarray .int, 2) := by decide +kernel
theorem dX6_init_110 : decode cX6_init 110 = .ok (.putfield 50, 3) := by decide +kernel
theorem dX6_init_113 : decode cX6_init 113 = .ok (.aload_n 0, 1) := by decide +kernel
theorem dX6_init_114 : decode cX6_init 114 = .ok (.bipush 24, 2) := by decide +kernel
theorem dX6_init_116 : decode cX6_init 116 = .ok (.newarray .boolean, 2) := by decide +kernel
theorem dX6_init_118 : decode cX6_init 118 = .ok (.putfield 53, 3) := by decide +kernel
theorem dX6_init_121 : decode cX6_init 121 = .ok (.aload_n 0, 1) := by decide +kernel
theorem dX6_init_122 : decode cX6_init 122 = .ok (.bipush 24, 2) := by decide +kernel
theorem dX6_init_124 : decode cX6_init 124 = .ok (.newarray .boolean, 2) := by decide +kernel
theorem dX6_init_126 : decode cX6_init 126 = .ok (.putfield 57, 3) := by decide +kernel
theorem dX6_init_129 : decode cX6_init 129 = .ok (.aload_n 0, 1) := by decide +kernel
theorem dX6_init_130 : decode cX6_init 130 = .ok (.bipush 24, 2) := by decide +kernel
theorem dX6_init_132 : decode cX6_init 132 = .ok (.newarray .boolean, 2) := by decide +kernel
theorem dX6_init_134 : decode cX6_init 134 = .ok (.putfield 60, 3) := by decide +kernel
theorem dX6_init_137 : decode cX6_init 137 = .ok (.aload_n 0, 1) := by decide +kernel
theorem dX6_init_138 : decode cX6_init 138 = .ok (.bipush 24, 2) := by decide +kernel
theorem dX6_init_140 : decode cX6_init 140 = .ok (.newarray .boolean, 2) := by decide +kernel
theorem dX6_init_142 : decode cX6_init 142 = .ok (.putfield 63, 3) := by decide +kernel
theorem dX6_init_145 : decode cX6_init 145 = .ok (.aload_n 0, 1) := by decide +kernel
theorem dX6_init_146 : decode cX6_init 146 = .ok (.bipush 24, 2) := by decide +kernel
theorem dX6_init_148 : decode cX6_init 148 = .ok (.newarray .int, 2) := by decide +kernel
theorem dX6_init_150 : decode cX6_init 150 = .ok (.putfield 66, 3) := by decide +kernel
theorem dX6_init_153 : decode cX6_init 153 = .ok (.aload_n 0, 1) := by decide +kernel
theorem dX6_init_154 : decode cX6_init 154 = .ok (.bipush 96, 2) := by decide +kernel
theorem dX6_init_156 : decode cX6_init 156 = .ok (.newarray .int, 2) := by decide +kernel
theorem dX6_init_158 : decode cX6_init 158 = .ok (.putfield 69, 3) := by decide +kernel
theorem dX6_init_161 : decode cX6_init 161 = .ok (.aload_n 0, 1) := by decide +kernel
theorem dX6_init_162 : decode cX6_init 162 = .ok (.iconst 4, 1) := by decide +kernel
theorem dX6_init_163 : decode cX6_init 163 = .ok (.newarray .int, 2) := by decide +kernel
theorem dX6_init_165 : decode cX6_init 165 = .ok (.putfield 72, 3) := by decide +kernel
theorem dX6_init_168 : decode cX6_init 168 = .ok (.aload_n 0, 1) := by decide +kernel
theorem dX6_init_169 : decode cX6_init 169 = .ok (.iconst 4, 1) := by decide +kernel
theorem dX6_init_170 : decode cX6_init 170 = .ok (.newarray .int, 2) := by decide +kernel
theorem dX6_init_172 : decode cX6_init 172 = .ok (.putfield 75, 3) := by decide +kernel
theorem dX6_init_175 : decode cX6_init 175 = .ok (.aload_n 0, 1) := by decide +kernel
theorem dX6_init_176 : decode cX6_init 176 = .ok (.iconst 4, 1) := by decide +kernel
theorem dX6_init_177 : decode cX6_init 177 = .ok (.newarray .int, 2) := by decide +kernel
theorem dX6_init_179 : decode cX6_init 179 = .ok (.putfield 78, 3) := by decide +kernel
theorem dX6_init_182 : decode cX6_init 182 = .ok (.aload_n 0, 1) := by decide +kernel
theorem dX6_init_183 : decode cX6_init 183 = .ok (.iconst 4, 1) := by decide +kernel
theorem dX6_init_184 : decode cX6_init 184 = .ok (.newarray .int, 2) := by decide +kernel
theorem dX6_init_186 : decode cX6_init 186 = .ok (.putfield 81, 3) := by decide +kernel
theorem dX6_init_189 : decode cX6_init 189 = .ok (.aload_n 0, 1) := by decide +kernel
theorem dX6_init_190 : decode cX6_init 190 = .ok (.iconst 4, 1) := by decide +kernel
theorem dX6_init_191 : decode cX6_init 191 = .ok (.newarray .int, 2) := by decide +kernel
theorem dX6_init_193 : decode cX6_init 193 = .ok (.putfield 84, 3) := by decide +kernel
theorem dX6_init_196 : decode cX6_init 196 = .ok (.aload_n 0, 1) := by decide +kernel
theorem dX6_init_197 : decode cX6_init 197 = .ok (.iconst 4, 1) := by decide +kernel
theorem dX6_init_198 : decode cX6_init 198 = .ok (.newarray .int, 2) := by decide +kernel
theorem dX6_init_200 : decode cX6_init 200 = .ok (.putfield 87, 3) := by decide +kernel
theorem dX6_init_203 : decode cX6_init 203 = .ok (.return_, 1) := by decide +kernel
theorem dX6_thrown_0 : decode cX6_thrown 0 = .ok (.aload_n 0, 1) := by decide +kernel
theorem dX6_thrown_1 : decode cX6_thrown 1 = .ok (.getfield 90, 3) := by decide +kernel
theorem dX6_thrown_4 : decode cX6_thrown 4 = .ok (.ireturn, 1) := by decide +kernel
theorem dX6_fails_0 : decode cX6_fails 0 = .ok (.aload_n 0, 1) := by decide +kernel
theorem dX6_fails_1 : decode cX6_fails 1 = .ok (.iload_n 1, 1) := by decide +kernel
theorem dX6_fails_2 : decode cX6_fails 2 = .ok (.putfield 90, 3) := by decide +kernel
theorem dX6_fails_5 : decode cX6_fails 5 = .ok (.iconst 0, 1) := by decide +kernel
theorem dX6_fails_6 : decode cX6_fails 6 = .ok (.ireturn, 1) := by decide +kernel
theorem dX6_in_0 : decode cX6_in 0 = .ok (.iload_n 0, 1) := by decide +kernel
theorem dX6_in_1 : decode cX6_in 1 = .ok (.iload_n 1, 1) := by decide +kernel
theorem dX6_in_2 : decode cX6_in 2 = .ok (.if_icmp .lt 12, 3) := by decide +kernel
theorem dX6_in_5 : decode cX6_in 5 = .ok (.iload_n 0, 1) := by decide +kernel
theorem dX6_in_6 : decode cX6_in 6 = .ok (.iload_n 2, 1) := by decide +kernel
theorem dX6_in_7 : decode cX6_in 7 = .ok (.if_icmp .gt 7, 3) := by decide +kernel
theorem dX6_in_10 : decode cX6_in 10 = .ok (.iconst 1, 1) := by decide +kernel
theorem dX6_in_11 : decode cX6_in 11 = .ok (.goto 4, 3) := by decide +kernel
theorem dX6_in_14 : decode cX6_in 14 = .ok (.iconst 0, 1) := by decide +kernel
theorem dX6_in_15 : decode cX6_in 15 = .ok (.ireturn, 1) := by decide +kernel
theorem dX6_isHouse_0 : decode cX6_isHouse 0 = .ok (.aload_n 0, 1) := by decide +kernel
theorem dX6_isHouse_1 : decode cX6_isHouse 1 = .ok (.iload_n 1, 1) := by decide +kernel
theorem dX6_isHouse_2 : decode cX6_isHouse 2 = .ok (.iconst 0, 1) := by decide +kernel
theorem dX6_isHouse_3 : decode cX6_isHouse 3 = .ok (.aload_n 0, 1) := by decide +kernel
theorem dX6_isHouse_4 : decode cX6_isHouse 4 = .ok (.getfield 93, 3) := by decide +kernel
theorem dX6_isHouse_7 : decode cX6_isHouse 7 = .ok (.iconst 1, 1) := by decide +kernel
theorem dX6_isHouse_8 : decode cX6_isHouse 8 = .ok (.isub, 1) := by decide +kernel
theorem dX6_isHouse_9 : decode cX6_isHouse 9 = .ok (.invokestatic 96, 3) := by decide +kernel
theorem dX6_isHouse_12 : decode cX6_isHouse 12 = .ok (.ifCond .eq 7, 3) := by decide +kernel
theorem dX6_isHouse_15 : decode cX6_isHouse 15 = .ok (.iconst 0, 1) := by decide +kernel
theorem dX6_isHouse_16 : decode cX6_isHouse 16 = .ok (.goto 4, 3) := by decide +kernel
theorem dX6_isHouse_19 : decode cX6_isHouse 19 = .ok (.iconst 1, 1) := by decide +kernel
theorem dX6_isHouse_20 : decode cX6_isHouse 20 = .ok (.putfield 90, 3) := by decide +kernel
theorem dX6_isHouse_23 : decode cX6_isHouse 23 = .ok (.aload_n 0, 1) := by decide +kernel
theorem dX6_isHouse_24 : decode cX6_isHouse 24 = .ok (.getfield 90, 3) := by decide +kernel
theorem dX6_isHouse_27 : decode cX6_isHouse 27 = .ok (.ifCond .ne 7, 3) := by decide +kernel
theorem dX6_isHouse_30 : decode cX6_isHouse 30 = .ok (.iconst 1, 1) := by decide +kernel
theorem dX6_isHouse_31 : decode cX6_isHouse 31 = .ok (.goto 4, 3) := by decide +kernel
theorem dX6_isHouse_34 : decode cX6_isHouse 34 = .ok (.iconst 0, 1) := by decide +kernel
theorem dX6_isHouse_35 : decode cX6_isHouse 35 = .ok (.ireturn, 1) := by decide +kernel
theorem dX6_isInterviewer_0 : decode cX6_isInterviewer 0 = .ok (.aload_n 0, 1) := by decide +kernel
theorem dX6_isInterviewer_1 : decode cX6_isInterviewer 1 = .ok (.iload_n 1, 1) := by decide +kernel
theorem dX6_isInterviewer_2 : decode cX6_isInterviewer 2 = .ok (.iconst 0, 1) := by decide +kernel
theorem dX6_isInterviewer_3 : decode cX6_isInterviewer 3 = .ok (.aload_n 0, 1) := by decide +kernel
theorem dX6_isInterviewer_4 : decode cX6_isInterviewer 4 = .ok (.getfield 100, 3) := by decide +kernel
theorem dX6_isInterviewer_7 : decode cX6_isInterviewer 7 = .ok (.iconst 1, 1) := by decide +kernel
theorem dX6_isInterviewer_8 : decode cX6_isInterviewer 8 = .ok (.isub, 1) := by decide +kernel
theorem dX6_isInterviewer_9 : decode cX6_isInterviewer 9 = .ok (.invokestatic 96, 3) := by decide +kernel
theorem dX6_isInterviewer_12 : decode cX6_isInterviewer 12 = .ok (.ifCond .eq 7, 3) := by decide +kernel
theorem dX6_isInterviewer_15 : decode cX6_isInterviewer 15 = .ok (.iconst 0, 1) := by decide +kernel
theorem dX6_isInterviewer_16 : decode cX6_isInterviewer 16 = .ok (.goto 4, 3) := by decide +kernel
theorem dX6_isInterviewer_19 : decode cX6_isInterviewer 19 = .ok (.iconst 1, 1) := by decide +kernel
theorem dX6_isInterviewer_20 : decode cX6_isInterviewer 20 = .ok (.putfield 90, 3) := by decide +kernel
theorem dX6_isInterviewer_23 : decode cX6_isInterviewer 23 = .ok (.aload_n 0, 1) := by decide +kernel
theorem dX6_isInterviewer_24 : decode cX6_isInterviewer 24 = .ok (.getfield 90, 3) := by decide +kernel
theorem dX6_isInterviewer_27 : decode cX6_isInterviewer 27 = .ok (.ifCond .ne 7, 3) := by decide +kernel
theorem dX6_isInterviewer_30 : decode cX6_isInterviewer 30 = .ok (.iconst 1, 1) := by decide +kernel
theorem dX6_isInterviewer_31 : decode cX6_isInterviewer 31 = .ok (.goto 4, 3) := by decide +kernel
theorem dX6_isInterviewer_34 : decode cX6_isInterviewer 34 = .ok (.iconst 0, 1) := by decide +kernel
theorem dX6_isInterviewer_35 : decode cX6_isInterviewer 35 = .ok (.ireturn, 1) := by decide +kernel
theorem dX6_setChance_0 : decode cX6_setChance 0 = .ok (.iload_n 1, 1) := by decide +kernel
theorem dX6_setChance_1 : decode cX6_setChance 1 = .ok (.iconst 0, 1) := by decide +kernel
theorem dX6_setChance_2 : decode cX6_setChance 2 = .ok (.ldc 103, 2) := by decide +kernel
theorem dX6_setChance_4 : decode cX6_setChance 4 = .ok (.invokestatic 96, 3) := by decide +kernel
theorem dX6_setChance_7 : decode cX6_setChance 7 = .ok (.ifCond .ne 9, 3) := by decide +kernel
theorem dX6_setChance_10 : decode cX6_setChance 10 = .ok (.aload_n 0, 1) := by decide +kernel
theorem dX6_setChance_11 : decode cX6_setChance 11 = .ok (.iconst 1, 1) := by decide +kernel
theorem dX6_setChance_12 : decode cX6_setChance 12 = .ok (.invokevirtual 104, 3) := by decide +kernel
theorem dX6_setChance_15 : decode cX6_setChance 15 = .ok (.ireturn, 1) := by decide +kernel
theorem dX6_setChance_16 : decode cX6_setChance 16 = .ok (.aload_n 0, 1) := by decide +kernel
theorem dX6_setChance_17 : decode cX6_setChance 17 = .ok (.iconst 0, 1) := by decide +kernel
theorem dX6_setChance_18 : decode cX6_setChance 18 = .ok (.putfield 90, 3) := by decide +kernel
theorem dX6_setChance_21 : decode cX6_setChance 21 = .ok (.aload_n 0, 1) := by decide +kernel
theorem dX6_setChance_22 : decode cX6_setChance 22 = .ok (.getfield 7, 3) := by decide +kernel
theorem dX6_setChance_25 : decode cX6_setChance 25 = .ok (.istore_n 2, 1) := by decide +kernel
theorem dX6_setChance_26 : decode cX6_setChance 26 = .ok (.aload_n 0, 1) := by decide +kernel
theorem dX6_setChance_27 : decode cX6_setChance 27 = .ok (.iload_n 1, 1) := by decide +kernel
theorem dX6_setChance_28 : decode cX6_setChance 28 = .ok (.putfield 7, 3) := by decide +kernel
theorem dX6_setChance_31 : decode cX6_setChance 31 = .ok (.iload_n 2, 1) := by decide +kernel
theorem dX6_setChance_32 : decode cX6_setChance 32 = .ok (.ireturn, 1) := by decide +kernel
theorem dX6_addStratum_0 : decode cX6_addStratum 0 = .ok (.aload_n 0, 1) := by decide +kernel
theorem dX6_addStratum_1 : decode cX6_addStratum 1 = .ok (.getfield 108, 3) := by decide +kernel
theorem dX6_addStratum_4 : decode cX6_addStratum 4 = .ok (.iconst 4, 1) := by decide +kernel
theorem dX6_addStratum_5 : decode cX6_addStratum 5 = .ok (.if_icmp .ne 9, 3) := by decide +kernel
theorem dX6_addStratum_8 : decode cX6_addStratum 8 = .ok (.aload_n 0, 1) := by decide +kernel
theorem dX6_addStratum_9 : decode cX6_addStratum 9 = .ok (.iconst 1, 1) := by decide +kernel
theorem dX6_addStratum_10 : decode cX6_addStratum 10 = .ok (.invokevirtual 104, 3) := by decide +kernel
theorem dX6_addStratum_13 : decode cX6_addStratum 13 = .ok (.ireturn, 1) := by decide +kernel
theorem dX6_addStratum_14 : decode cX6_addStratum 14 = .ok (.aload_n 0, 1) := by decide +kernel
theorem dX6_addStratum_15 : decode cX6_addStratum 15 = .ok (.iconst 0, 1) := by decide +kernel
theorem dX6_addStratum_16 : decode cX6_addStratum 16 = .ok (.putfield 90, 3) := by decide +kernel
theorem dX6_addStratum_19 : decode cX6_addStratum 19 = .ok (.aload_n 0, 1) := by decide +kernel
theorem dX6_addStratum_20 : decode cX6_addStratum 20 = .ok (.dup, 1) := by decide +kernel
theorem dX6_addStratum_21 : decode cX6_addStratum 21 = .ok (.getfield 108, 3) := by decide +kernel
theorem dX6_addStratum_24 : decode cX6_addStratum 24 = .ok (.iconst 1, 1) := by decide +kernel
theorem dX6_addStratum_25 : decode cX6_addStratum 25 = .ok (.iadd, 1) := by decide +kernel
theorem dX6_addStratum_26 : decode cX6_addStratum 26 = .ok (.putfield 108, 3) := by decide +kernel
theorem dX6_addStratum_29 : decode cX6_addStratum 29 = .ok (.aload_n 0, 1) := by decide +kernel
theorem dX6_addStratum_30 : decode cX6_addStratum 30 = .ok (.getfield 108, 3) := by decide +kernel
theorem dX6_addStratum_33 : decode cX6_addStratum 33 = .ok (.iconst 1, 1) := by decide +kernel
theorem dX6_addStratum_34 : decode cX6_addStratum 34 = .ok (.isub, 1) := by decide +kernel
theorem dX6_addStratum_35 : decode cX6_addStratum 35 = .ok (.ireturn, 1) := by decide +kernel
theorem dX6_addHouse_0 : decode cX6_addHouse 0 = .ok (.iload_n 1, 1) := by decide +kernel
theorem dX6_addHouse_1 : decode cX6_addHouse 1 = .ok (.iconst 0, 1) := by decide +kernel
theorem dX6_addHouse_2 : decode cX6_addHouse 2 = .ok (.aload_n 0, 1) := by decide +kernel
theorem dX6_addHouse_3 : decode cX6_addHouse 3 = .ok (.getfield 108, 3) := by decide +kernel
theorem dX6_addHouse_6 : decode cX6_addHouse 6 = .ok (.iconst 1, 1) := by decide +kernel
theorem dX6_addHouse_7 : decode cX6_addHouse 7 = .ok (.isub, 1) := by decide +kernel
theorem dX6_addHouse_8 : decode cX6_addHouse 8 = .ok (.invokestatic 96, 3) := by decide +kernel
theorem dX6_addHouse_11 : decode cX6_addHouse 11 = .ok (.ifCond .ne 9, 3) := by decide +kernel
theorem dX6_addHouse_14 : decode cX6_addHouse 14 = .ok (.aload_n 0, 1) := by decide +kernel
theorem dX6_addHouse_15 : decode cX6_addHouse 15 = .ok (.iconst 1, 1) := by decide +kernel
theorem dX6_addHouse_16 : decode cX6_addHouse 16 = .ok (.invokevirtual 104, 3) := by decide +kernel
theorem dX6_addHouse_19 : decode cX6_addHouse 19 = .ok (.ireturn, 1) := by decide +kernel
theorem dX6_addHouse_20 : decode cX6_addHouse 20 = .ok (.iload_n 2, 1) := by decide +kernel
theorem dX6_addHouse_21 : decode cX6_addHouse 21 = .ok (.iconst 0, 1) := by decide +kernel
theorem dX6_addHouse_22 : decode cX6_addHouse 22 = .ok (.bipush 99, 2) := by decide +kernel
theorem dX6_addHouse_24 : decode cX6_addHouse 24 = .ok (.invokestatic 96, 3) := by decide +kernel
theorem dX6_addHouse_27 : decode cX6_addHouse 27 = .ok (.ifCond .eq 12, 3) := by decide +kernel
theorem dX6_addHouse_30 : decode cX6_addHouse 30 = .ok (.iload_n 3, 1) := by decide +kernel
theorem dX6_addHouse_31 : decode cX6_addHouse 31 = .ok (.iconst 0, 1) := by decide +kernel
theorem dX6_addHouse_32 : decode cX6_addHouse 32 = .ok (.iconst 2, 1) := by decide +kernel
theorem dX6_addHouse_33 : decode cX6_addHouse 33 = .ok (.invokestatic 96, 3) := by decide +kernel
theorem dX6_addHouse_36 : decode cX6_addHouse 36 = .ok (.ifCond .ne 9, 3) := by decide +kernel
theorem dX6_addHouse_39 : decode cX6_addHouse 39 = .ok (.aload_n 0, 1) := by decide +kernel
theorem dX6_addHouse_40 : decode cX6_addHouse 40 = .ok (.iconst 2, 1) := by decide +kernel
theorem dX6_addHouse_41 : decode cX6_addHouse 41 = .ok (.invokevirtual 104, 3) := by decide +kernel
theorem dX6_addHouse_44 : decode cX6_addHouse 44 = .ok (.ireturn, 1) := by decide +kernel
theorem dX6_addHouse_45 : decode cX6_addHouse 45 = .ok (.aload_n 0, 1) := by decide +kernel
theorem dX6_addHouse_46 : decode cX6_addHouse 46 = .ok (.getfield 93, 3) := by decide +kernel
theorem dX6_addHouse_49 : decode cX6_addHouse 49 = .ok (.bipush 24, 2) := by decide +kernel
theorem dX6_addHouse_51 : decode cX6_addHouse 51 = .ok (.if_icmp .ne 9, 3) := by decide +kernel
theorem dX6_addHouse_54 : decode cX6_addHouse 54 = .ok (.aload_n 0, 1) := by decide +kernel
theorem dX6_addHouse_55 : decode cX6_addHouse 55 = .ok (.iconst 3, 1) := by decide +kernel
theorem dX6_addHouse_56 : decode cX6_addHouse 56 = .ok (.invokevirtual 104, 3) := by decide +kernel
theorem dX6_addHouse_59 : decode cX6_addHouse 59 = .ok (.ireturn, 1) := by decide +kernel
theorem dX6_addHouse_60 : decode cX6_addHouse 60 = .ok (.aload_n 0, 1) := by decide +kernel
theorem dX6_addHouse_61 : decode cX6_addHouse 61 = .ok (.iconst 0, 1) := by decide +kernel
theorem dX6_addHouse_62 : decode cX6_addHouse 62 = .ok (.putfield 90, 3) := by decide +kernel
theorem dX6_addHouse_65 : decode cX6_addHouse 65 = .ok (.aload_n 0, 1) := by decide +kernel
theorem dX6_addHouse_66 : decode cX6_addHouse 66 = .ok (.getfield 13, 3) := by decide +kernel
theorem dX6_addHouse_69 : decode cX6_addHouse 69 = .ok (.aload_n 0, 1) := by decide +kernel
theorem dX6_addHouse_70 : decode cX6_addHouse 70 = .ok (.getfield 93, 3) := by decide +kernel
theorem dX6_addHouse_73 : decode cX6_addHouse 73 = .ok (.iload_n 1, 1) := by decide +kernel
theorem dX6_addHouse_74 : decode cX6_addHouse 74 = .ok (.iastore, 1) := by decide +kernel
theorem dX6_addHouse_75 : decode cX6_addHouse 75 = .ok (.aload_n 0, 1) := by decide +kernel
theorem dX6_addHouse_76 : decode cX6_addHouse 76 = .ok (.getfield 17, 3) := by decide +kernel
theorem dX6_addHouse_79 : decode cX6_addHouse 79 = .ok (.aload_n 0, 1) := by decide +kernel
theorem dX6_addHouse_80 : decode cX6_addHouse 80 = .ok (.getfield 93, 3) := by decide +kernel
theorem dX6_addHouse_83 : decode cX6_addHouse 83 = .ok (.iload_n 2, 1) := by decide +kernel
theorem dX6_addHouse_84 : decode cX6_addHouse 84 = .ok (.iastore, 1) := by decide +kernel
theorem dX6_addHouse_85 : decode cX6_addHouse 85 = .ok (.aload_n 0, 1) := by decide +kernel
theorem dX6_addHouse_86 : decode cX6_addHouse 86 = .ok (.getfield 20, 3) := by decide +kernel
theorem dX6_addHouse_89 : decode cX6_addHouse 89 = .ok (.aload_n 0, 1) := by decide +kernel
theorem dX6_addHouse_90 : decode cX6_addHouse 90 = .ok (.getfield 93, 3) := by decide +kernel
theorem dX6_addHouse_93 : decode cX6_addHouse 93 = .ok (.iload_n 3, 1) := by decide +kernel
theorem dX6_addHouse_94 : decode cX6_addHouse 94 = .ok (.iastore, 1) := by decide +kernel
theorem dX6_addHouse_95 : decode cX6_addHouse 95 = .ok (.aload_n 0, 1) := by decide +kernel
theorem dX6_addHouse_96 : decode cX6_addHouse 96 = .ok (.getfield 23, 3) := by decide +kernel
theorem dX6_addHouse_99 : decode cX6_addHouse 99 = .ok (.aload_n 0, 1) := by decide +kernel
theorem dX6_addHouse_100 : decode cX6_addHouse 100 = .ok (.getfield 93, 3) := by decide +kernel
theorem dX6_addHouse_103 : decode cX6_addHouse 103 = .ok (.bipush 117, 2) := by decide +kernel
theorem dX6_addHouse_105 : decode cX6_addHouse 105 = .ok (.iastore, 1) := by decide +kernel
theorem dX6_addHouse_106 : decode cX6_addHouse 106 = .ok (.aload_n 0, 1) := by decide +kernel
theorem dX6_addHouse_107 : decode cX6_addHouse 107 = .ok (.getfield 66, 3) := by decide +kernel
theorem dX6_addHouse_110 : decode cX6_addHouse 110 = .ok (.aload_n 0, 1) := by decide +kernel
theorem dX6_addHouse_111 : decode cX6_addHouse 111 = .ok (.getfield 93, 3) := by decide +kernel
theorem dX6_addHouse_114 : decode cX6_addHouse 114 = .ok (.iconst (-1), 1) := by decide +kernel
theorem dX6_addHouse_115 : decode cX6_addHouse 115 = .ok (.iastore, 1) := by decide +kernel
theorem dX6_addHouse_116 : decode cX6_addHouse 116 = .ok (.aload_n 0, 1) := by decide +kernel
theorem dX6_addHouse_117 : decode cX6_addHouse 117 = .ok (.dup, 1) := by decide +kernel
theorem dX6_addHouse_118 : decode cX6_addHouse 118 = .ok (.getfield 93, 3) := by decide +kernel
theorem dX6_addHouse_121 : decode cX6_addHouse 121 = .ok (.iconst 1, 1) := by decide +kernel
theorem dX6_addHouse_122 : decode cX6_addHouse 122 = .ok (.iadd, 1) := by decide +kernel
theorem dX6_addHouse_123 : decode cX6_addHouse 123 = .ok (.putfield 93, 3) := by decide +kernel
theorem dX6_addHouse_126 : decode cX6_addHouse 126 = .ok (.aload_n 0, 1) := by decide +kernel
theorem dX6_addHouse_127 : decode cX6_addHouse 127 = .ok (.getfield 93, 3) := by decide +kernel
theorem dX6_addHouse_130 : decode cX6_addHouse 130 = .ok (.iconst 1, 1) := by decide +kernel
theorem dX6_addHouse_131 : decode cX6_addHouse 131 = .ok (.isub, 1) := by decide +kernel
theorem dX6_addHouse_132 : decode cX6_addHouse 132 = .ok (.ireturn, 1) := by decide +kernel
theorem dX6_addInterviewer_0 : decode cX6_addInterviewer 0 = .ok (.iload_n 1, 1) := by decide +kernel
theorem dX6_addInterviewer_1 : decode cX6_addInterviewer 1 = .ok (.iconst 0, 1) := by decide +kernel
theorem dX6_addInterviewer_2 : decode cX6_addInterviewer 2 = .ok (.bipush 99, 2) := by decide +kernel
theorem dX6_addInterviewer_4 : decode cX6_addInterviewer 4 = .ok (.invokestatic 96, 3) := by decide +kernel
theorem dX6_addInterviewer_7 : decode cX6_addInterviewer 7 = .ok (.ifCond .eq 25, 3) := by decide +kernel
theorem dX6_addInterviewer_10 : decode cX6_addInterviewer 10 = .ok (.iload_n 2, 1) := by decide +kernel
theorem dX6_addInterviewer_11 : decode cX6_addInterviewer 11 = .ok (.iconst 1, 1) := by decide +kernel
theorem dX6_addInterviewer_12 : decode cX6_addInterviewer 12 = .ok (.bipush 7, 2) := by decide +kernel
theorem dX6_addInterviewer_14 : decode cX6_addInterviewer 14 = .ok (.invokestatic 96, 3) := by decide +kernel
theorem dX6_addInterviewer_17 : decode cX6_addInterviewer 17 = .ok (.ifCond .eq 15, 3) := by decide +kernel
theorem dX6_addInterviewer_20 : decode cX6_addInterviewer 20 = .ok (.iload_n 3, 1) := by decide +kernel
theorem dX6_addInterviewer_21 : decode cX6_addInterviewer 21 = .ok (.bipush 30, 2) := by decide +kernel
theorem dX6_addInterviewer_23 : decode cX6_addInterviewer 23 = .ok (.sipush 600, 3) := by decide +kernel
theorem dX6_addInterviewer_26 : decode cX6_addInterviewer 26 = .ok (.invokestatic 96, 3) := by decide +kernel
theorem dX6_addInterviewer_29 : decode cX6_addInterviewer 29 = .ok (.ifCond .ne 9, 3) := by decide +kernel
theorem dX6_addInterviewer_32 : decode cX6_addInterviewer 32 = .ok (.aload_n 0, 1) := by decide +kernel
theorem dX6_addInterviewer_33 : decode cX6_addInterviewer 33 = .ok (.iconst 1, 1) := by decide +kernel
theorem dX6_addInterviewer_34 : decode cX6_addInterviewer 34 = .ok (.invokevirtual 104, 3) := by decide +kernel
theorem dX6_addInterviewer_37 : decode cX6_addInterviewer 37 = .ok (.ireturn, 1) := by decide +kernel
theorem dX6_addInterviewer_38 : decode cX6_addInterviewer 38 = .ok (.aload_n 0, 1) := by decide +kernel
theorem dX6_addInterviewer_39 : decode cX6_addInterviewer 39 = .ok (.getfield 100, 3) := by decide +kernel
theorem dX6_addInterviewer_42 : decode cX6_addInterviewer 42 = .ok (.iconst 4, 1) := by decide +kernel
theorem dX6_addInterviewer_43 : decode cX6_addInterviewer 43 = .ok (.if_icmp .ne 9, 3) := by decide +kernel
theorem dX6_addInterviewer_46 : decode cX6_addInterviewer 46 = .ok (.aload_n 0, 1) := by decide +kernel
theorem dX6_addInterviewer_47 : decode cX6_addInterviewer 47 = .ok (.iconst 2, 1) := by decide +kernel
theorem dX6_addInterviewer_48 : decode cX6_addInterviewer 48 = .ok (.invokevirtual 104, 3) := by decide +kernel
theorem dX6_addInterviewer_51 : decode cX6_addInterviewer 51 = .ok (.ireturn, 1) := by decide +kernel
theorem dX6_addInterviewer_52 : decode cX6_addInterviewer 52 = .ok (.aload_n 0, 1) := by decide +kernel
theorem dX6_addInterviewer_53 : decode cX6_addInterviewer 53 = .ok (.iconst 0, 1) := by decide +kernel
theorem dX6_addInterviewer_54 : decode cX6_addInterviewer 54 = .ok (.putfield 90, 3) := by decide +kernel
theorem dX6_addInterviewer_57 : decode cX6_addInterviewer 57 = .ok (.aload_n 0, 1) := by decide +kernel
theorem dX6_addInterviewer_58 : decode cX6_addInterviewer 58 = .ok (.getfield 78, 3) := by decide +kernel
theorem dX6_addInterviewer_61 : decode cX6_addInterviewer 61 = .ok (.aload_n 0, 1) := by decide +kernel
theorem dX6_addInterviewer_62 : decode cX6_addInterviewer 62 = .ok (.getfield 100, 3) := by decide +kernel
theorem dX6_addInterviewer_65 : decode cX6_addInterviewer 65 = .ok (.iload_n 1, 1) := by decide +kernel
theorem dX6_addInterviewer_66 : decode cX6_addInterviewer 66 = .ok (.iastore, 1) := by decide +kernel
theorem dX6_addInterviewer_67 : decode cX6_addInterviewer 67 = .ok (.aload_n 0, 1) := by decide +kernel
theorem dX6_addInterviewer_68 : decode cX6_addInterviewer 68 = .ok (.getfield 81, 3) := by decide +kernel
theorem dX6_addInterviewer_71 : decode cX6_addInterviewer 71 = .ok (.aload_n 0, 1) := by decide +kernel
theorem dX6_addInterviewer_72 : decode cX6_addInterviewer 72 = .ok (.getfield 100, 3) := by decide +kernel
theorem dX6_addInterviewer_75 : decode cX6_addInterviewer 75 = .ok (.iload_n 2, 1) := by decide +kernel
theorem dX6_addInterviewer_76 : decode cX6_addInterviewer 76 = .ok (.iastore, 1) := by decide +kernel
theorem dX6_addInterviewer_77 : decode cX6_addInterviewer 77 = .ok (.aload_n 0, 1) := by decide +kernel
theorem dX6_addInterviewer_78 : decode cX6_addInterviewer 78 = .ok (.getfield 84, 3) := by decide +kernel
theorem dX6_addInterviewer_81 : decode cX6_addInterviewer 81 = .ok (.aload_n 0, 1) := by decide +kernel
theorem dX6_addInterviewer_82 : decode cX6_addInterviewer 82 = .ok (.getfield 100, 3) := by decide +kernel
theorem dX6_addInterviewer_85 : decode cX6_addInterviewer 85 = .ok (.iload_n 3, 1) := by decide +kernel
theorem dX6_addInterviewer_86 : decode cX6_addInterviewer 86 = .ok (.iastore, 1) := by decide +kernel
theorem dX6_addInterviewer_87 : decode cX6_addInterviewer 87 = .ok (.aload_n 0, 1) := by decide +kernel
theorem dX6_addInterviewer_88 : decode cX6_addInterviewer 88 = .ok (.dup, 1) := by decide +kernel
theorem dX6_addInterviewer_89 : decode cX6_addInterviewer 89 = .ok (.getfield 100, 3) := by decide +kernel
theorem dX6_addInterviewer_92 : decode cX6_addInterviewer 92 = .ok (.iconst 1, 1) := by decide +kernel
theorem dX6_addInterviewer_93 : decode cX6_addInterviewer 93 = .ok (.iadd, 1) := by decide +kernel
theorem dX6_addInterviewer_94 : decode cX6_addInterviewer 94 = .ok (.putfield 100, 3) := by decide +kernel
theorem dX6_addInterviewer_97 : decode cX6_addInterviewer 97 = .ok (.aload_n 0, 1) := by decide +kernel
theorem dX6_addInterviewer_98 : decode cX6_addInterviewer 98 = .ok (.getfield 100, 3) := by decide +kernel
theorem dX6_addInterviewer_101 : decode cX6_addInterviewer 101 = .ok (.iconst 1, 1) := by decide +kernel
theorem dX6_addInterviewer_102 : decode cX6_addInterviewer 102 = .ok (.isub, 1) := by decide +kernel
theorem dX6_addInterviewer_103 : decode cX6_addInterviewer 103 = .ok (.ireturn, 1) := by decide +kernel
theorem dX6_undrawn_0 : decode cX6_undrawn 0 = .ok (.iconst 0, 1) := by decide +kernel
theorem dX6_undrawn_1 : decode cX6_undrawn 1 = .ok (.istore_n 2, 1) := by decide +kernel
theorem dX6_undrawn_2 : decode cX6_undrawn 2 = .ok (.iconst 0, 1) := by decide +kernel
theorem dX6_undrawn_3 : decode cX6_undrawn 3 = .ok (.istore_n 3, 1) := by decide +kernel
theorem dX6_undrawn_4 : decode cX6_undrawn 4 = .ok (.iload_n 3, 1) := by decide +kernel
theorem dX6_undrawn_5 : decode cX6_undrawn 5 = .ok (.aload_n 0, 1) := by decide +kernel
theorem dX6_undrawn_6 : decode cX6_undrawn 6 = .ok (.getfield 93, 3) := by decide +kernel
theorem dX6_undrawn_9 : decode cX6_undrawn 9 = .ok (.if_icmp .ge 38, 3) := by decide +kernel
theorem dX6_undrawn_12 : decode cX6_undrawn 12 = .ok (.iload_n 2, 1) := by decide +kernel
theorem dX6_undrawn_13 : decode cX6_undrawn 13 = .ok (.aload_n 0, 1) := by decide +kernel
theorem dX6_undrawn_14 : decode cX6_undrawn 14 = .ok (.getfield 13, 3) := by decide +kernel
theorem dX6_undrawn_17 : decode cX6_undrawn 17 = .ok (.iload_n 3, 1) := by decide +kernel
theorem dX6_undrawn_18 : decode cX6_undrawn 18 = .ok (.iaload, 1) := by decide +kernel
theorem dX6_undrawn_19 : decode cX6_undrawn 19 = .ok (.iload_n 1, 1) := by decide +kernel
theorem dX6_undrawn_20 : decode cX6_undrawn 20 = .ok (.if_icmp .ne 18, 3) := by decide +kernel
theorem dX6_undrawn_23 : decode cX6_undrawn 23 = .ok (.aload_n 0, 1) := by decide +kernel
theorem dX6_undrawn_24 : decode cX6_undrawn 24 = .ok (.getfield 23, 3) := by decide +kernel
theorem dX6_undrawn_27 : decode cX6_undrawn 27 = .ok (.iload_n 3, 1) := by decide +kernel
theorem dX6_undrawn_28 : decode cX6_undrawn 28 = .ok (.iaload, 1) := by decide +kernel
theorem dX6_undrawn_29 : decode cX6_undrawn 29 = .ok (.bipush 117, 2) := by decide +kernel
theorem dX6_undrawn_31 : decode cX6_undrawn 31 = .ok (.if_icmp .ne 7, 3) := by decide +kernel
theorem dX6_undrawn_34 : decode cX6_undrawn 34 = .ok (.iconst 1, 1) := by decide +kernel
theorem dX6_undrawn_35 : decode cX6_undrawn 35 = .ok (.goto 4, 3) := by decide +kernel
theorem dX6_undrawn_38 : decode cX6_undrawn 38 = .ok (.iconst 0, 1) := by decide +kernel
theorem dX6_undrawn_39 : decode cX6_undrawn 39 = .ok (.iadd, 1) := by decide +kernel
theorem dX6_undrawn_40 : decode cX6_undrawn 40 = .ok (.istore_n 2, 1) := by decide +kernel
theorem dX6_undrawn_41 : decode cX6_undrawn 41 = .ok (.iinc 3 1, 3) := by decide +kernel
theorem dX6_undrawn_44 : decode cX6_undrawn 44 = .ok (.goto (-40), 3) := by decide +kernel
theorem dX6_undrawn_47 : decode cX6_undrawn 47 = .ok (.iload_n 2, 1) := by decide +kernel
theorem dX6_undrawn_48 : decode cX6_undrawn 48 = .ok (.ireturn, 1) := by decide +kernel
theorem dX6_draws_0 : decode cX6_draws 0 = .ok (.aload_n 0, 1) := by decide +kernel
theorem dX6_draws_1 : decode cX6_draws 1 = .ok (.aload_n 0, 1) := by decide +kernel
theorem dX6_draws_2 : decode cX6_draws 2 = .ok (.getfield 7, 3) := by decide +kernel
theorem dX6_draws_5 : decode cX6_draws 5 = .ok (.sipush 1103, 3) := by decide +kernel
theorem dX6_draws_8 : decode cX6_draws 8 = .ok (.imul, 1) := by decide +kernel
theorem dX6_draws_9 : decode cX6_draws 9 = .ok (.sipush 12345, 3) := by decide +kernel
theorem dX6_draws_12 : decode cX6_draws 12 = .ok (.iadd, 1) := by decide +kernel
theorem dX6_draws_13 : decode cX6_draws 13 = .ok (.ldc 111, 2) := by decide +kernel
theorem dX6_draws_15 : decode cX6_draws 15 = .ok (.irem, 1) := by decide +kernel
theorem dX6_draws_16 : decode cX6_draws 16 = .ok (.putfield 7, 3) := by decide +kernel
theorem dX6_draws_19 : decode cX6_draws 19 = .ok (.aload_n 0, 1) := by decide +kernel
theorem dX6_draws_20 : decode cX6_draws 20 = .ok (.getfield 7, 3) := by decide +kernel
theorem dX6_draws_23 : decode cX6_draws 23 = .ok (.aload_n 0, 1) := by decide +kernel
theorem dX6_draws_24 : decode cX6_draws 24 = .ok (.iload_n 1, 1) := by decide +kernel
theorem dX6_draws_25 : decode cX6_draws 25 = .ok (.invokevirtual 112, 3) := by decide +kernel
theorem dX6_draws_28 : decode cX6_draws 28 = .ok (.irem, 1) := by decide +kernel
theorem dX6_draws_29 : decode cX6_draws 29 = .ok (.istore_n 3, 1) := by decide +kernel
theorem dX6_draws_30 : decode cX6_draws 30 = .ok (.iconst 0, 1) := by decide +kernel
theorem dX6_draws_31 : decode cX6_draws 31 = .ok (.istore 4, 2) := by decide +kernel
theorem dX6_draws_33 : decode cX6_draws 33 = .ok (.aload_n 0, 1) := by decide +kernel
theorem dX6_draws_34 : decode cX6_draws 34 = .ok (.getfield 13, 3) := by decide +kernel
theorem dX6_draws_37 : decode cX6_draws 37 = .ok (.iload 4, 2) := by decide +kernel
theorem dX6_draws_39 : decode cX6_draws 39 = .ok (.iaload, 1) := by decide +kernel
theorem dX6_draws_40 : decode cX6_draws 40 = .ok (.iload_n 1, 1) := by decide +kernel
theorem dX6_draws_41 : decode cX6_draws 41 = .ok (.if_icmp .ne 19, 3) := by decide +kernel
theorem dX6_draws_44 : decode cX6_draws 44 = .ok (.aload_n 0, 1) := by decide +kernel
theorem dX6_draws_45 : decode cX6_draws 45 = .ok (.getfield 23, 3) := by decide +kernel
theorem dX6_draws_48 : decode cX6_draws 48 = .ok (.iload 4, 2) := by decide +kernel
theorem dX6_draws_50 : decode cX6_draws 50 = .ok (.iaload, 1) := by decide +kernel
theorem dX6_draws_51 : decode cX6_draws 51 = .ok (.bipush 117, 2) := by decide +kernel
theorem dX6_draws_53 : decode cX6_draws 53 = .ok (.if_icmp .ne 7, 3) := by decide +kernel
theorem dX6_draws_56 : decode cX6_draws 56 = .ok (.iload_n 3, 1) := by decide +kernel
theorem dX6_draws_57 : decode cX6_draws 57 = .ok (.ifCond .le 40, 3) := by decide +kernel
theorem dX6_draws_60 : decode cX6_draws 60 = .ok (.iload_n 3, 1) := by decide +kernel
theorem dX6_draws_61 : decode cX6_draws 61 = .ok (.aload_n 0, 1) := by decide +kernel
theorem dX6_draws_62 : decode cX6_draws 62 = .ok (.getfield 13, 3) := by decide +kernel
theorem dX6_draws_65 : decode cX6_draws 65 = .ok (.iload 4, 2) := by decide +kernel
theorem dX6_draws_67 : decode cX6_draws 67 = .ok (.iaload, 1) := by decide +kernel
theorem dX6_draws_68 : decode cX6_draws 68 = .ok (.iload_n 1, 1) := by decide +kernel
theorem dX6_draws_69 : decode cX6_draws 69 = .ok (.if_icmp .ne 19, 3) := by decide +kernel
theorem dX6_draws_72 : decode cX6_draws 72 = .ok (.aload_n 0, 1) := by decide +kernel
theorem dX6_draws_73 : decode cX6_draws 73 = .ok (.getfield 23, 3) := by decide +kernel
theorem dX6_draws_76 : decode cX6_draws 76 = .ok (.iload 4, 2) := by decide +kernel
theorem dX6_draws_78 : decode cX6_draws 78 = .ok (.iaload, 1) := by decide +kernel
theorem dX6_draws_79 : decode cX6_draws 79 = .ok (.bipush 117, 2) := by decide +kernel
theorem dX6_draws_81 : decode cX6_draws 81 = .ok (.if_icmp .ne 7, 3) := by decide +kernel
theorem dX6_draws_84 : decode cX6_draws 84 = .ok (.iconst 1, 1) := by decide +kernel
theorem dX6_draws_85 : decode cX6_draws 85 = .ok (.goto 4, 3) := by decide +kernel
theorem dX6_draws_88 : decode cX6_draws 88 = .ok (.iconst 0, 1) := by decide +kernel
theorem dX6_draws_89 : decode cX6_draws 89 = .ok (.isub, 1) := by decide +kernel
theorem dX6_draws_90 : decode cX6_draws 90 = .ok (.istore_n 3, 1) := by decide +kernel
theorem dX6_draws_91 : decode cX6_draws 91 = .ok (.iinc 4 1, 3) := by decide +kernel
theorem dX6_draws_94 : decode cX6_draws 94 = .ok (.goto (-61), 3) := by decide +kernel
theorem dX6_draws_97 : decode cX6_draws 97 = .ok (.aload_n 0, 1) := by decide +kernel
theorem dX6_draws_98 : decode cX6_draws 98 = .ok (.getfield 23, 3) := by decide +kernel
theorem dX6_draws_101 : decode cX6_draws 101 = .ok (.iload 4, 2) := by decide +kernel
theorem dX6_draws_103 : decode cX6_draws 103 = .ok (.bipush 119, 2) := by decide +kernel
theorem dX6_draws_105 : decode cX6_draws 105 = .ok (.iastore, 1) := by decide +kernel
theorem dX6_draws_106 : decode cX6_draws 106 = .ok (.aload_n 0, 1) := by decide +kernel
theorem dX6_draws_107 : decode cX6_draws 107 = .ok (.getfield 26, 3) := by decide +kernel
theorem dX6_draws_110 : decode cX6_draws 110 = .ok (.iload 4, 2) := by decide +kernel
theorem dX6_draws_112 : decode cX6_draws 112 = .ok (.aload_n 0, 1) := by decide +kernel
theorem dX6_draws_113 : decode cX6_draws 113 = .ok (.getfield 115, 3) := by decide +kernel
theorem dX6_draws_116 : decode cX6_draws 116 = .ok (.iconst 1, 1) := by decide +kernel
theorem dX6_draws_117 : decode cX6_draws 117 = .ok (.iadd, 1) := by decide +kernel
theorem dX6_draws_118 : decode cX6_draws 118 = .ok (.iastore, 1) := by decide +kernel
theorem dX6_draws_119 : decode cX6_draws 119 = .ok (.aload_n 0, 1) := by decide +kernel
theorem dX6_draws_120 : decode cX6_draws 120 = .ok (.getfield 53, 3) := by decide +kernel
theorem dX6_draws_123 : decode cX6_draws 123 = .ok (.iload 4, 2) := by decide +kernel
theorem dX6_draws_125 : decode cX6_draws 125 = .ok (.iload_n 2, 1) := by decide +kernel
theorem dX6_draws_126 : decode cX6_draws 126 = .ok (.bastore, 1) := by decide +kernel
theorem dX6_draws_127 : decode cX6_draws 127 = .ok (.iload 4, 2) := by decide +kernel
theorem dX6_draws_129 : decode cX6_draws 129 = .ok (.ireturn, 1) := by decide +kernel
theorem dX6_draw_0 : decode cX6_draw 0 = .ok (.iload_n 1, 1) := by decide +kernel
theorem dX6_draw_1 : decode cX6_draw 1 = .ok (.iconst 0, 1) := by decide +kernel
theorem dX6_draw_2 : decode cX6_draw 2 = .ok (.aload_n 0, 1) := by decide +kernel
theorem dX6_draw_3 : decode cX6_draw 3 = .ok (.getfield 108, 3) := by decide +kernel
theorem dX6_draw_6 : decode cX6_draw 6 = .ok (.iconst 1, 1) := by decide +kernel
theorem dX6_draw_7 : decode cX6_draw 7 = .ok (.isub, 1) := by decide +kernel
theorem dX6_draw_8 : decode cX6_draw 8 = .ok (.invokestatic 96, 3) := by decide +kernel
theorem dX6_draw_11 : decode cX6_draw 11 = .ok (.ifCond .ne 9, 3) := by decide +kernel
theorem dX6_draw_14 : decode cX6_draw 14 = .ok (.aload_n 0, 1) := by decide +kernel
theorem dX6_draw_15 : decode cX6_draw 15 = .ok (.iconst 1, 1) := by decide +kernel
theorem dX6_draw_16 : decode cX6_draw 16 = .ok (.invokevirtual 104, 3) := by decide +kernel
theorem dX6_draw_19 : decode cX6_draw 19 = .ok (.ireturn, 1) := by decide +kernel
theorem dX6_draw_20 : decode cX6_draw 20 = .ok (.iload_n 2, 1) := by decide +kernel
theorem dX6_draw_21 : decode cX6_draw 21 = .ok (.iconst 1, 1) := by decide +kernel
theorem dX6_draw_22 : decode cX6_draw 22 = .ok (.bipush 24, 2) := by decide +kernel
theorem dX6_draw_24 : decode cX6_draw 24 = .ok (.invokestatic 96, 3) := by decide +kernel
theorem dX6_draw_27 : decode cX6_draw 27 = .ok (.ifCond .ne 9, 3) := by decide +kernel
theorem dX6_draw_30 : decode cX6_draw 30 = .ok (.aload_n 0, 1) := by decide +kernel
theorem dX6_draw_31 : decode cX6_draw 31 = .ok (.iconst 2, 1) := by decide +kernel
theorem dX6_draw_32 : decode cX6_draw 32 = .ok (.invokevirtual 104, 3) := by decide +kernel
theorem dX6_draw_35 : decode cX6_draw 35 = .ok (.ireturn, 1) := by decide +kernel
theorem dX6_draw_36 : decode cX6_draw 36 = .ok (.aload_n 0, 1) := by decide +kernel
theorem dX6_draw_37 : decode cX6_draw 37 = .ok (.iload_n 1, 1) := by decide +kernel
theorem dX6_draw_38 : decode cX6_draw 38 = .ok (.invokevirtual 112, 3) := by decide +kernel
theorem dX6_draw_41 : decode cX6_draw 41 = .ok (.iload_n 2, 1) := by decide +kernel
theorem dX6_draw_42 : decode cX6_draw 42 = .ok (.if_icmp .ge 9, 3) := by decide +kernel
theorem dX6_draw_45 : decode cX6_draw 45 = .ok (.aload_n 0, 1) := by decide +kernel
theorem dX6_draw_46 : decode cX6_draw 46 = .ok (.iconst 3, 1) := by decide +kernel
theorem dX6_draw_47 : decode cX6_draw 47 = .ok (.invokevirtual 104, 3) := by decide +kernel
theorem dX6_draw_50 : decode cX6_draw 50 = .ok (.ireturn, 1) := by decide +kernel
theorem dX6_draw_51 : decode cX6_draw 51 = .ok (.aload_n 0, 1) := by decide +kernel
theorem dX6_draw_52 : decode cX6_draw 52 = .ok (.iconst 0, 1) := by decide +kernel
theorem dX6_draw_53 : decode cX6_draw 53 = .ok (.putfield 90, 3) := by decide +kernel
theorem dX6_draw_56 : decode cX6_draw 56 = .ok (.iconst (-1), 1) := by decide +kernel
theorem dX6_draw_57 : decode cX6_draw 57 = .ok (.istore_n 3, 1) := by decide +kernel
theorem dX6_draw_58 : decode cX6_draw 58 = .ok (.iconst 0, 1) := by decide +kernel
theorem dX6_draw_59 : decode cX6_draw 59 = .ok (.istore 4, 2) := by decide +kernel
theorem dX6_draw_61 : decode cX6_draw 61 = .ok (.iload 4, 2) := by decide +kernel
theorem dX6_draw_63 : decode cX6_draw 63 = .ok (.iload_n 2, 1) := by decide +kernel
theorem dX6_draw_64 : decode cX6_draw 64 = .ok (.if_icmp .ge 16, 3) := by decide +kernel
theorem dX6_draw_67 : decode cX6_draw 67 = .ok (.aload_n 0, 1) := by decide +kernel
theorem dX6_draw_68 : decode cX6_draw 68 = .ok (.iload_n 1, 1) := by decide +kernel
theorem dX6_draw_69 : decode cX6_draw 69 = .ok (.iconst 0, 1) := by decide +kernel
theorem dX6_draw_70 : decode cX6_draw 70 = .ok (.invokevirtual 118, 3) := by decide +kernel
theorem dX6_draw_73 : decode cX6_draw 73 = .ok (.istore_n 3, 1) := by decide +kernel
theorem dX6_draw_74 : decode cX6_draw 74 = .ok (.iinc 4 1, 3) := by decide +kernel
theorem dX6_draw_77 : decode cX6_draw 77 = .ok (.goto (-16), 3) := by decide +kernel
theorem dX6_draw_80 : decode cX6_draw 80 = .ok (.iload_n 3, 1) := by decide +kernel
theorem dX6_draw_81 : decode cX6_draw 81 = .ok (.ireturn, 1) := by decide +kernel
theorem dX6_day_0 : decode cX6_day 0 = .ok (.aload_n 0, 1) := by decide +kernel
theorem dX6_day_1 : decode cX6_day 1 = .ok (.iconst 0, 1) := by decide +kernel
theorem dX6_day_2 : decode cX6_day 2 = .ok (.putfield 90, 3) := by decide +kernel
theorem dX6_day_5 : decode cX6_day 5 = .ok (.aload_n 0, 1) := by decide +kernel
theorem dX6_day_6 : decode cX6_day 6 = .ok (.getfield 115, 3) := by decide +kernel
theorem dX6_day_9 : decode cX6_day 9 = .ok (.ireturn, 1) := by decide +kernel
theorem dX6_way_0 : decode cX6_way 0 = .ok (.iload_n 0, 1) := by decide +kernel
theorem dX6_way_1 : decode cX6_way 1 = .ok (.iload_n 1, 1) := by decide +kernel
theorem dX6_way_2 : decode cX6_way 2 = .ok (.if_icmp .ge 9, 3) := by decide +kernel
theorem dX6_way_5 : decode cX6_way 5 = .ok (.iload_n 1, 1) := by decide +kernel
theorem dX6_way_6 : decode cX6_way 6 = .ok (.iload_n 0, 1) := by decide +kernel
theorem dX6_way_7 : decode cX6_way 7 = .ok (.isub, 1) := by decide +kernel
theorem dX6_way_8 : decode cX6_way 8 = .ok (.goto 6, 3) := by decide +kernel
theorem dX6_way_11 : decode cX6_way 11 = .ok (.iload_n 0, 1) := by decide +kernel
theorem dX6_way_12 : decode cX6_way 12 = .ok (.iload_n 1, 1) := by decide +kernel
theorem dX6_way_13 : decode cX6_way 13 = .ok (.isub, 1) := by decide +kernel
theorem dX6_way_14 : decode cX6_way 14 = .ok (.ireturn, 1) := by decide +kernel
theorem dX6_next_0 : decode cX6_next 0 = .ok (.iconst (-1), 1) := by decide +kernel
theorem dX6_next_1 : decode cX6_next 1 = .ok (.istore_n 3, 1) := by decide +kernel
theorem dX6_next_2 : decode cX6_next 2 = .ok (.iconst 0, 1) := by decide +kernel
theorem dX6_next_3 : decode cX6_next 3 = .ok (.istore 4, 2) := by decide +kernel
theorem dX6_next_5 : decode cX6_next 5 = .ok (.iload 4, 2) := by decide +kernel
theorem dX6_next_7 : decode cX6_next 7 = .ok (.aload_n 0, 1) := by decide +kernel
theorem dX6_next_8 : decode cX6_next 8 = .ok (.getfield 93, 3) := by decide +kernel
theorem dX6_next_11 : decode cX6_next 11 = .ok (.if_icmp .ge 165, 3) := by decide +kernel
theorem dX6_next_14 : decode cX6_next 14 = .ok (.aload_n 0, 1) := by decide +kernel
theorem dX6_next_15 : decode cX6_next 15 = .ok (.getfield 23, 3) := by decide +kernel
theorem dX6_next_18 : decode cX6_next 18 = .ok (.iload 4, 2) := by decide +kernel
theorem dX6_next_20 : decode cX6_next 20 = .ok (.iaload, 1) := by decide +kernel
theorem dX6_next_21 : decode cX6_next 21 = .ok (.bipush 119, 2) := by decide +kernel
theorem dX6_next_23 : decode cX6_next 23 = .ok (.if_icmp .ne 147, 3) := by decide +kernel
theorem dX6_next_26 : decode cX6_next 26 = .ok (.aload_n 0, 1) := by decide +kernel
theorem dX6_next_27 : decode cX6_next 27 = .ok (.getfield 26, 3) := by decide +kernel
theorem dX6_next_30 : decode cX6_next 30 = .ok (.iload 4, 2) := by decide +kernel
theorem dX6_next_32 : decode cX6_next 32 = .ok (.iaload, 1) := by decide +kernel
theorem dX6_next_33 : decode cX6_next 33 = .ok (.aload_n 0, 1) := by decide +kernel
theorem dX6_next_34 : decode cX6_next 34 = .ok (.getfield 115, 3) := by decide +kernel
theorem dX6_next_37 : decode cX6_next 37 = .ok (.if_icmp .gt 133, 3) := by decide +kernel
theorem dX6_next_40 : decode cX6_next 40 = .ok (.aload_n 0, 1) := by decide +kernel
theorem dX6_next_41 : decode cX6_next 41 = .ok (.getfield 66, 3) := by decide +kernel
theorem dX6_next_44 : decode cX6_next 44 = .ok (.iload 4, 2) := by decide +kernel
theorem dX6_next_46 : decode cX6_next 46 = .ok (.iaload, 1) := by decide +kernel
theorem dX6_next_47 : decode cX6_next 47 = .ok (.iconst (-1), 1) := by decide +kernel
theorem dX6_next_48 : decode cX6_next 48 = .ok (.if_icmp .ne 122, 3) := by decide +kernel
theorem dX6_next_51 : decode cX6_next 51 = .ok (.aload_n 0, 1) := by decide +kernel
theorem dX6_next_52 : decode cX6_next 52 = .ok (.getfield 81, 3) := by decide +kernel
theorem dX6_next_55 : decode cX6_next 55 = .ok (.iload_n 1, 1) := by decide +kernel
theorem dX6_next_56 : decode cX6_next 56 = .ok (.iaload, 1) := by decide +kernel
theorem dX6_next_57 : decode cX6_next 57 = .ok (.aload_n 0, 1) := by decide +kernel
theorem dX6_next_58 : decode cX6_next 58 = .ok (.getfield 20, 3) := by decide +kernel
theorem dX6_next_61 : decode cX6_next 61 = .ok (.iload 4, 2) := by decide +kernel
theorem dX6_next_63 : decode cX6_next 63 = .ok (.iaload, 1) := by decide +kernel
theorem dX6_next_64 : decode cX6_next 64 = .ok (.ishr, 1) := by decide +kernel
theorem dX6_next_65 : decode cX6_next 65 = .ok (.iconst 1, 1) := by decide +kernel
theorem dX6_next_66 : decode cX6_next 66 = .ok (.iand, 1) := by decide +kernel
theorem dX6_next_67 : decode cX6_next 67 = .ok (.ifCond .eq 103, 3) := by decide +kernel
theorem dX6_next_70 : decode cX6_next 70 = .ok (.aload_n 0, 1) := by decide +kernel
theorem dX6_next_71 : decode cX6_next 71 = .ok (.getfield 38, 3) := by decide +kernel
theorem dX6_next_74 : decode cX6_next 74 = .ok (.iload 4, 2) := by decide +kernel
theorem dX6_next_76 : decode cX6_next 76 = .ok (.iaload, 1) := by decide +kernel
theorem dX6_next_77 : decode cX6_next 77 = .ok (.iload_n 1, 1) := by decide +kernel
theorem dX6_next_78 : decode cX6_next 78 = .ok (.ishr, 1) := by decide +kernel
theorem dX6_next_79 : decode cX6_next 79 = .ok (.iconst 1, 1) := by decide +kernel
theorem dX6_next_80 : decode cX6_next 80 = .ok (.iand, 1) := by decide +kernel
theorem dX6_next_81 : decode cX6_next 81 = .ok (.iconst 1, 1) := by decide +kernel
theorem dX6_next_82 : decode cX6_next 82 = .ok (.if_icmp .ne 6, 3) := by decide +kernel
theorem dX6_next_85 : decode cX6_next 85 = .ok (.goto 85, 3) := by decide +kernel
theorem dX6_next_88 : decode cX6_next 88 = .ok (.aload_n 0, 1) := by decide +kernel
theorem dX6_next_89 : decode cX6_next 89 = .ok (.getfield 75, 3) := by decide +kernel
theorem dX6_next_92 : decode cX6_next 92 = .ok (.iload_n 1, 1) := by decide +kernel
theorem dX6_next_93 : decode cX6_next 93 = .ok (.iaload, 1) := by decide +kernel
theorem dX6_next_94 : decode cX6_next 94 = .ok (.iload_n 2, 1) := by decide +kernel
theorem dX6_next_95 : decode cX6_next 95 = .ok (.aload_n 0, 1) := by decide +kernel
theorem dX6_next_96 : decode cX6_next 96 = .ok (.getfield 17, 3) := by decide +kernel
theorem dX6_next_99 : decode cX6_next 99 = .ok (.iload 4, 2) := by decide +kernel
theorem dX6_next_101 : decode cX6_next 101 = .ok (.iaload, 1) := by decide +kernel
theorem dX6_next_102 : decode cX6_next 102 = .ok (.invokestatic 122, 3) := by decide +kernel
theorem dX6_next_105 : decode cX6_next 105 = .ok (.iadd, 1) := by decide +kernel
theorem dX6_next_106 : decode cX6_next 106 = .ok (.bipush 30, 2) := by decide +kernel
theorem dX6_next_108 : decode cX6_next 108 = .ok (.iadd, 1) := by decide +kernel
theorem dX6_next_109 : decode cX6_next 109 = .ok (.aload_n 0, 1) := by decide +kernel
theorem dX6_next_110 : decode cX6_next 110 = .ok (.getfield 17, 3) := by decide +kernel
theorem dX6_next_113 : decode cX6_next 113 = .ok (.iload 4, 2) := by decide +kernel
theorem dX6_next_115 : decode cX6_next 115 = .ok (.iaload, 1) := by decide +kernel
theorem dX6_next_116 : decode cX6_next 116 = .ok (.aload_n 0, 1) := by decide +kernel
theorem dX6_next_117 : decode cX6_next 117 = .ok (.getfield 78, 3) := by decide +kernel
theorem dX6_next_120 : decode cX6_next 120 = .ok (.iload_n 1, 1) := by decide +kernel
theorem dX6_next_121 : decode cX6_next 121 = .ok (.iaload, 1) := by decide +kernel
theorem dX6_next_122 : decode cX6_next 122 = .ok (.invokestatic 122, 3) := by decide +kernel
theorem dX6_next_125 : decode cX6_next 125 = .ok (.iadd, 1) := by decide +kernel
theorem dX6_next_126 : decode cX6_next 126 = .ok (.aload_n 0, 1) := by decide +kernel
theorem dX6_next_127 : decode cX6_next 127 = .ok (.getfield 84, 3) := by decide +kernel
theorem dX6_next_130 : decode cX6_next 130 = .ok (.iload_n 1, 1) := by decide +kernel
theorem dX6_next_131 : decode cX6_next 131 = .ok (.iaload, 1) := by decide +kernel
theorem dX6_next_132 : decode cX6_next 132 = .ok (.if_icmp .le 6, 3) := by decide +kernel
theorem dX6_next_135 : decode cX6_next 135 = .ok (.goto 35, 3) := by decide +kernel
theorem dX6_next_138 : decode cX6_next 138 = .ok (.iload_n 3, 1) := by decide +kernel
theorem dX6_next_139 : decode cX6_next 139 = .ok (.iconst (-1), 1) := by decide +kernel
theorem dX6_next_140 : decode cX6_next 140 = .ok (.if_icmp .eq 27, 3) := by decide +kernel
theorem dX6_next_143 : decode cX6_next 143 = .ok (.iload_n 2, 1) := by decide +kernel
theorem dX6_next_144 : decode cX6_next 144 = .ok (.aload_n 0, 1) := by decide +kernel
theorem dX6_next_145 : decode cX6_next 145 = .ok (.getfield 17, 3) := by decide +kernel
theorem dX6_next_148 : decode cX6_next 148 = .ok (.iload 4, 2) := by decide +kernel
theorem dX6_next_150 : decode cX6_next 150 = .ok (.iaload, 1) := by decide +kernel
theorem dX6_next_151 : decode cX6_next 151 = .ok (.invokestatic 122, 3) := by decide +kernel
theorem dX6_next_154 : decode cX6_next 154 = .ok (.iload_n 2, 1) := by decide +kernel
theorem dX6_next_155 : decode cX6_next 155 = .ok (.aload_n 0, 1) := by decide +kernel
theorem dX6_next_156 : decode cX6_next 156 = .ok (.getfield 17, 3) := by decide +kernel
theorem dX6_next_159 : decode cX6_next 159 = .ok (.iload_n 3, 1) := by decide +kernel
theorem dX6_next_160 : decode cX6_next 160 = .ok (.iaload, 1) := by decide +kernel
theorem dX6_next_161 : decode cX6_next 161 = .ok (.invokestatic 122, 3) := by decide +kernel
theorem dX6_next_164 : decode cX6_next 164 = .ok (.if_icmp .ge 6, 3) := by decide +kernel
theorem dX6_next_167 : decode cX6_next 167 = .ok (.iload 4, 2) := by decide +kernel
theorem dX6_next_169 : decode cX6_next 169 = .ok (.istore_n 3, 1) := by decide +kernel
theorem dX6_next_170 : decode cX6_next 170 = .ok (.iinc 4 1, 3) := by decide +kernel
theorem dX6_next_173 : decode cX6_next 173 = .ok (.goto (-168), 3) := by decide +kernel
theorem dX6_next_176 : decode cX6_next 176 = .ok (.iload_n 3, 1) := by decide +kernel
theorem dX6_next_177 : decode cX6_next 177 = .ok (.ireturn, 1) := by decide +kernel
theorem dX6_rounds_0 : decode cX6_rounds 0 = .ok (.iconst 0, 1) := by decide +kernel
theorem dX6_rounds_1 : decode cX6_rounds 1 = .ok (.istore_n 1, 1) := by decide +kernel
theorem dX6_rounds_2 : decode cX6_rounds 2 = .ok (.iload_n 1, 1) := by decide +kernel
theorem dX6_rounds_3 : decode cX6_rounds 3 = .ok (.aload_n 0, 1) := by decide +kernel
theorem dX6_rounds_4 : decode cX6_rounds 4 = .ok (.getfield 93, 3) := by decide +kernel
theorem dX6_rounds_7 : decode cX6_rounds 7 = .ok (.if_icmp .ge 30, 3) := by decide +kernel
theorem dX6_rounds_10 : decode cX6_rounds 10 = .ok (.aload_n 0, 1) := by decide +kernel
theorem dX6_rounds_11 : decode cX6_rounds 11 = .ok (.getfield 66, 3) := by decide +kernel
theorem dX6_rounds_14 : decode cX6_rounds 14 = .ok (.iload_n 1, 1) := by decide +kernel
theorem dX6_rounds_15 : decode cX6_rounds 15 = .ok (.iconst (-1), 1) := by decide +kernel
theorem dX6_rounds_16 : decode cX6_rounds 16 = .ok (.iastore, 1) := by decide +kernel
theorem dX6_rounds_17 : decode cX6_rounds 17 = .ok (.aload_n 0, 1) := by decide +kernel
theorem dX6_rounds_18 : decode cX6_rounds 18 = .ok (.getfield 63, 3) := by decide +kernel
theorem dX6_rounds_21 : decode cX6_rounds 21 = .ok (.iload_n 1, 1) := by decide +kernel
theorem dX6_rounds_22 : decode cX6_rounds 22 = .ok (.iconst 0, 1) := by decide +kernel
theorem dX6_rounds_23 : decode cX6_rounds 23 = .ok (.bastore, 1) := by decide +kernel
theorem dX6_rounds_24 : decode cX6_rounds 24 = .ok (.aload_n 0, 1) := by decide +kernel
theorem dX6_rounds_25 : decode cX6_rounds 25 = .ok (.getfield 60, 3) := by decide +kernel
theorem dX6_rounds_28 : decode cX6_rounds 28 = .ok (.iload_n 1, 1) := by decide +kernel
theorem dX6_rounds_29 : decode cX6_rounds 29 = .ok (.iconst 0, 1) := by decide +kernel
theorem dX6_rounds_30 : decode cX6_rounds 30 = .ok (.bastore, 1) := by decide +kernel
theorem dX6_rounds_31 : decode cX6_rounds 31 = .ok (.iinc 1 1, 3) := by decide +kernel
theorem dX6_rounds_34 : decode cX6_rounds 34 = .ok (.goto (-32), 3) := by decide +kernel
theorem dX6_rounds_37 : decode cX6_rounds 37 = .ok (.iconst 0, 1) := by decide +kernel
theorem dX6_rounds_38 : decode cX6_rounds 38 = .ok (.istore_n 1, 1) := by decide +kernel
theorem dX6_rounds_39 : decode cX6_rounds 39 = .ok (.iload_n 1, 1) := by decide +kernel
theorem dX6_rounds_40 : decode cX6_rounds 40 = .ok (.aload_n 0, 1) := by decide +kernel
theorem dX6_rounds_41 : decode cX6_rounds 41 = .ok (.getfield 100, 3) := by decide +kernel
theorem dX6_rounds_44 : decode cX6_rounds 44 = .ok (.if_icmp .ge 148, 3) := by decide +kernel
theorem dX6_rounds_47 : decode cX6_rounds 47 = .ok (.aload_n 0, 1) := by decide +kernel
theorem dX6_rounds_48 : decode cX6_rounds 48 = .ok (.getfield 72, 3) := by decide +kernel
theorem dX6_rounds_51 : decode cX6_rounds 51 = .ok (.iload_n 1, 1) := by decide +kernel
theorem dX6_rounds_52 : decode cX6_rounds 52 = .ok (.iconst 0, 1) := by decide +kernel
theorem dX6_rounds_53 : decode cX6_rounds 53 = .ok (.iastore, 1) := by decide +kernel
theorem dX6_rounds_54 : decode cX6_rounds 54 = .ok (.aload_n 0, 1) := by decide +kernel
theorem dX6_rounds_55 : decode cX6_rounds 55 = .ok (.getfield 75, 3) := by decide +kernel
theorem dX6_rounds_58 : decode cX6_rounds 58 = .ok (.iload_n 1, 1) := by decide +kernel
theorem dX6_rounds_59 : decode cX6_rounds 59 = .ok (.iconst 0, 1) := by decide +kernel
theorem dX6_rounds_60 : decode cX6_rounds 60 = .ok (.iastore, 1) := by decide +kernel
theorem dX6_rounds_61 : decode cX6_rounds 61 = .ok (.aload_n 0, 1) := by decide +kernel
theorem dX6_rounds_62 : decode cX6_rounds 62 = .ok (.getfield 78, 3) := by decide +kernel
theorem dX6_rounds_65 : decode cX6_rounds 65 = .ok (.iload_n 1, 1) := by decide +kernel
theorem dX6_rounds_66 : decode cX6_rounds 66 = .ok (.iaload, 1) := by decide +kernel
theorem dX6_rounds_67 : decode cX6_rounds 67 = .ok (.istore_n 2, 1) := by decide +kernel
theorem dX6_rounds_68 : decode cX6_rounds 68 = .ok (.aload_n 0, 1) := by decide +kernel
theorem dX6_rounds_69 : decode cX6_rounds 69 = .ok (.getfield 87, 3) := by decide +kernel
theorem dX6_rounds_72 : decode cX6_rounds 72 = .ok (.iload_n 1, 1) := by decide +kernel
theorem dX6_rounds_73 : decode cX6_rounds 73 = .ok (.iaload, 1) := by decide +kernel
theorem dX6_rounds_74 : decode cX6_rounds 74 = .ok (.iconst 2, 1) := by decide +kernel
theorem dX6_rounds_75 : decode cX6_rounds 75 = .ok (.if_icmp .ne 7, 3) := by decide +kernel
theorem dX6_rounds_78 : decode cX6_rounds 78 = .ok (.iconst (-1), 1) := by decide +kernel
theorem dX6_rounds_79 : decode cX6_rounds 79 = .ok (.goto 9, 3) := by decide +kernel
theorem dX6_rounds_82 : decode cX6_rounds 82 = .ok (.aload_n 0, 1) := by decide +kernel
theorem dX6_rounds_83 : decode cX6_rounds 83 = .ok (.iload_n 1, 1) := by decide +kernel
theorem dX6_rounds_84 : decode cX6_rounds 84 = .ok (.iload_n 2, 1) := by decide +kernel
theorem dX6_rounds_85 : decode cX6_rounds 85 = .ok (.invokevirtual 126, 3) := by decide +kernel
theorem dX6_rounds_88 : decode cX6_rounds 88 = .ok (.istore_n 3, 1) := by decide +kernel
theorem dX6_rounds_89 : decode cX6_rounds 89 = .ok (.iload_n 3, 1) := by decide +kernel
theorem dX6_rounds_90 : decode cX6_rounds 90 = .ok (.iconst (-1), 1) := by decide +kernel
theorem dX6_rounds_91 : decode cX6_rounds 91 = .ok (.if_icmp .eq 76, 3) := by decide +kernel
theorem dX6_rounds_94 : decode cX6_rounds 94 = .ok (.aload_n 0, 1) := by decide +kernel
theorem dX6_rounds_95 : decode cX6_rounds 95 = .ok (.getfield 69, 3) := by decide +kernel
theorem dX6_rounds_98 : decode cX6_rounds 98 = .ok (.bipush 24, 2) := by decide +kernel
theorem dX6_rounds_100 : decode cX6_rounds 100 = .ok (.iload_n 1, 1) := by decide +kernel
theorem dX6_rounds_101 : decode cX6_rounds 101 = .ok (.imul, 1) := by decide +kernel
theorem dX6_rounds_102 : decode cX6_rounds 102 = .ok (.aload_n 0, 1) := by decide +kernel
theorem dX6_rounds_103 : decode cX6_rounds 103 = .ok (.getfield 72, 3) := by decide +kernel
theorem dX6_rounds_106 : decode cX6_rounds 106 = .ok (.iload_n 1, 1) := by decide +kernel
theorem dX6_rounds_107 : decode cX6_rounds 107 = .ok (.iaload, 1) := by decide +kernel
theorem dX6_rounds_108 : decode cX6_rounds 108 = .ok (.iadd, 1) := by decide +kernel
theorem dX6_rounds_109 : decode cX6_rounds 109 = .ok (.iload_n 3, 1) := by decide +kernel
theorem dX6_rounds_110 : decode cX6_rounds 110 = .ok (.iastore, 1) := by decide +kernel
theorem dX6_rounds_111 : decode cX6_rounds 111 = .ok (.aload_n 0, 1) := by decide +kernel
theorem dX6_rounds_112 : decode cX6_rounds 112 = .ok (.getfield 72, 3) := by decide +kernel
theorem dX6_rounds_115 : decode cX6_rounds 115 = .ok (.iload_n 1, 1) := by decide +kernel
theorem dX6_rounds_116 : decode cX6_rounds 116 = .ok (.dup2, 1) := by decide +kernel
theorem dX6_rounds_117 : decode cX6_rounds 117 = .ok (.iaload, 1) := by decide +kernel
theorem dX6_rounds_118 : decode cX6_rounds 118 = .ok (.iconst 1, 1) := by decide +kernel
theorem dX6_rounds_119 : decode cX6_rounds 119 = .ok (.iadd, 1) := by decide +kernel
theorem dX6_rounds_120 : decode cX6_rounds 120 = .ok (.iastore, 1) := by decide +kernel
theorem dX6_rounds_121 : decode cX6_rounds 121 = .ok (.aload_n 0, 1) := by decide +kernel
theorem dX6_rounds_122 : decode cX6_rounds 122 = .ok (.getfield 75, 3) := by decide +kernel
theorem dX6_rounds_125 : decode cX6_rounds 125 = .ok (.iload_n 1, 1) := by decide +kernel
theorem dX6_rounds_126 : decode cX6_rounds 126 = .ok (.dup2, 1) := by decide +kernel
theorem dX6_rounds_127 : decode cX6_rounds 127 = .ok (.iaload, 1) := by decide +kernel
theorem dX6_rounds_128 : decode cX6_rounds 128 = .ok (.iload_n 2, 1) := by decide +kernel
theorem dX6_rounds_129 : decode cX6_rounds 129 = .ok (.aload_n 0, 1) := by decide +kernel
theorem dX6_rounds_130 : decode cX6_rounds 130 = .ok (.getfield 17, 3) := by decide +kernel
theorem dX6_rounds_133 : decode cX6_rounds 133 = .ok (.iload_n 3, 1) := by decide +kernel
theorem dX6_rounds_134 : decode cX6_rounds 134 = .ok (.iaload, 1) := by decide +kernel
theorem dX6_rounds_135 : decode cX6_rounds 135 = .ok (.invokestatic 122, 3) := by decide +kernel
theorem dX6_rounds_138 : decode cX6_rounds 138 = .ok (.bipush 30, 2) := by decide +kernel
theorem dX6_rounds_140 : decode cX6_rounds 140 = .ok (.iadd, 1) := by decide +kernel
theorem dX6_rounds_141 : decode cX6_rounds 141 = .ok (.iadd, 1) := by decide +kernel
theorem dX6_rounds_142 : decode cX6_rounds 142 = .ok (.iastore, 1) := by decide +kernel
theorem dX6_rounds_143 : decode cX6_rounds 143 = .ok (.aload_n 0, 1) := by decide +kernel
theorem dX6_rounds_144 : decode cX6_rounds 144 = .ok (.getfield 66, 3) := by decide +kernel
theorem dX6_rounds_147 : decode cX6_rounds 147 = .ok (.iload_n 3, 1) := by decide +kernel
theorem dX6_rounds_148 : decode cX6_rounds 148 = .ok (.iload_n 1, 1) := by decide +kernel
theorem dX6_rounds_149 : decode cX6_rounds 149 = .ok (.iastore, 1) := by decide +kernel
theorem dX6_rounds_150 : decode cX6_rounds 150 = .ok (.aload_n 0, 1) := by decide +kernel
theorem dX6_rounds_151 : decode cX6_rounds 151 = .ok (.getfield 17, 3) := by decide +kernel
theorem dX6_rounds_154 : decode cX6_rounds 154 = .ok (.iload_n 3, 1) := by decide +kernel
theorem dX6_rounds_155 : decode cX6_rounds 155 = .ok (.iaload, 1) := by decide +kernel
theorem dX6_rounds_156 : decode cX6_rounds 156 = .ok (.istore_n 2, 1) := by decide +kernel
theorem dX6_rounds_157 : decode cX6_rounds 157 = .ok (.aload_n 0, 1) := by decide +kernel
theorem dX6_rounds_158 : decode cX6_rounds 158 = .ok (.iload_n 1, 1) := by decide +kernel
theorem dX6_rounds_159 : decode cX6_rounds 159 = .ok (.iload_n 2, 1) := by decide +kernel
theorem dX6_rounds_160 : decode cX6_rounds 160 = .ok (.invokevirtual 126, 3) := by decide +kernel
theorem dX6_rounds_163 : decode cX6_rounds 163 = .ok (.istore_n 3, 1) := by decide +kernel
theorem dX6_rounds_164 : decode cX6_rounds 164 = .ok (.goto (-75), 3) := by decide +kernel
theorem dX6_rounds_167 : decode cX6_rounds 167 = .ok (.aload_n 0, 1) := by decide +kernel
theorem dX6_rounds_168 : decode cX6_rounds 168 = .ok (.getfield 75, 3) := by decide +kernel
theorem dX6_rounds_171 : decode cX6_rounds 171 = .ok (.iload_n 1, 1) := by decide +kernel
theorem dX6_rounds_172 : decode cX6_rounds 172 = .ok (.dup2, 1) := by decide +kernel
theorem dX6_rounds_173 : decode cX6_rounds 173 = .ok (.iaload, 1) := by decide +kernel
theorem dX6_rounds_174 : decode cX6_rounds 174 = .ok (.iload_n 2, 1) := by decide +kernel
theorem dX6_rounds_175 : decode cX6_rounds 175 = .ok (.aload_n 0, 1) := by decide +kernel
theorem dX6_rounds_176 : decode cX6_rounds 176 = .ok (.getfield 78, 3) := by decide +kernel
theorem dX6_rounds_179 : decode cX6_rounds 179 = .ok (.iload_n 1, 1) := by decide +kernel
theorem dX6_rounds_180 : decode cX6_rounds 180 = .ok (.iaload, 1) := by decide +kernel
theorem dX6_rounds_181 : decode cX6_rounds 181 = .ok (.invokestatic 122, 3) := by decide +kernel
theorem dX6_rounds_184 : decode cX6_rounds 184 = .ok (.iadd, 1) := by decide +kernel
theorem dX6_rounds_185 : decode cX6_rounds 185 = .ok (.iastore, 1) := by decide +kernel
theorem dX6_rounds_186 : decode cX6_rounds 186 = .ok (.iinc 1 1, 3) := by decide +kernel
theorem dX6_rounds_189 : decode cX6_rounds 189 = .ok (.goto (-150), 3) := by decide +kernel
theorem dX6_rounds_192 : decode cX6_rounds 192 = .ok (.return_, 1) := by decide +kernel
theorem dX6_roundSize_0 : decode cX6_roundSize 0 = .ok (.aload_n 0, 1) := by decide +kernel
theorem dX6_roundSize_1 : decode cX6_roundSize 1 = .ok (.iload_n 1, 1) := by decide +kernel
theorem dX6_roundSize_2 : decode cX6_roundSize 2 = .ok (.invokevirtual 129, 3) := by decide +kernel
theorem dX6_roundSize_5 : decode cX6_roundSize 5 = .ok (.ifCond .eq 12, 3) := by decide +kernel
theorem dX6_roundSize_8 : decode cX6_roundSize 8 = .ok (.aload_n 0, 1) := by decide +kernel
theorem dX6_roundSize_9 : decode cX6_roundSize 9 = .ok (.getfield 72, 3) := by decide +kernel
theorem dX6_roundSize_12 : decode cX6_roundSize 12 = .ok (.iload_n 1, 1) := by decide +kernel
theorem dX6_roundSize_13 : decode cX6_roundSize 13 = .ok (.iaload, 1) := by decide +kernel
theorem dX6_roundSize_14 : decode cX6_roundSize 14 = .ok (.goto 4, 3) := by decide +kernel
theorem dX6_roundSize_17 : decode cX6_roundSize 17 = .ok (.iconst 0, 1) := by decide +kernel
theorem dX6_roundSize_18 : decode cX6_roundSize 18 = .ok (.ireturn, 1) := by decide +kernel
theorem dX6_roundAt_0 : decode cX6_roundAt 0 = .ok (.aload_n 0, 1) := by decide +kernel
theorem dX6_roundAt_1 : decode cX6_roundAt 1 = .ok (.iload_n 1, 1) := by decide +kernel
theorem dX6_roundAt_2 : decode cX6_roundAt 2 = .ok (.invokevirtual 129, 3) := by decide +kernel
theorem dX6_roundAt_5 : decode cX6_roundAt 5 = .ok (.ifCond .ne 5, 3) := by decide +kernel
theorem dX6_roundAt_8 : decode cX6_roundAt 8 = .ok (.iconst 0, 1) := by decide +kernel
theorem dX6_roundAt_9 : decode cX6_roundAt 9 = .ok (.ireturn, 1) := by decide +kernel
theorem dX6_roundAt_10 : decode cX6_roundAt 10 = .ok (.iload_n 2, 1) := by decide +kernel
theorem dX6_roundAt_11 : decode cX6_roundAt 11 = .ok (.iconst 0, 1) := by decide +kernel
theorem dX6_roundAt_12 : decode cX6_roundAt 12 = .ok (.aload_n 0, 1) := by decide +kernel
theorem dX6_roundAt_13 : decode cX6_roundAt 13 = .ok (.getfield 72, 3) := by decide +kernel
theorem dX6_roundAt_16 : decode cX6_roundAt 16 = .ok (.iload_n 1, 1) := by decide +kernel
theorem dX6_roundAt_17 : decode cX6_roundAt 17 = .ok (.iaload, 1) := by decide +kernel
theorem dX6_roundAt_18 : decode cX6_roundAt 18 = .ok (.iconst 1, 1) := by decide +kernel
theorem dX6_roundAt_19 : decode cX6_roundAt 19 = .ok (.isub, 1) := by decide +kernel
theorem dX6_roundAt_20 : decode cX6_roundAt 20 = .ok (.invokestatic 96, 3) := by decide +kernel
theorem dX6_roundAt_23 : decode cX6_roundAt 23 = .ok (.ifCond .eq 17, 3) := by decide +kernel
theorem dX6_roundAt_26 : decode cX6_roundAt 26 = .ok (.aload_n 0, 1) := by decide +kernel
theorem dX6_roundAt_27 : decode cX6_roundAt 27 = .ok (.getfield 69, 3) := by decide +kernel
theorem dX6_roundAt_30 : decode cX6_roundAt 30 = .ok (.bipush 24, 2) := by decide +kernel
theorem dX6_roundAt_32 : decode cX6_roundAt 32 = .ok (.iload_n 1, 1) := by decide +kernel
theorem dX6_roundAt_33 : decode cX6_roundAt 33 = .ok (.imul, 1) := by decide +kernel
theorem dX6_roundAt_34 : decode cX6_roundAt 34 = .ok (.iload_n 2, 1) := by decide +kernel
theorem dX6_roundAt_35 : decode cX6_roundAt 35 = .ok (.iadd, 1) := by decide +kernel
theorem dX6_roundAt_36 : decode cX6_roundAt 36 = .ok (.iaload, 1) := by decide +kernel
theorem dX6_roundAt_37 : decode cX6_roundAt 37 = .ok (.goto 8, 3) := by decide +kernel
theorem dX6_roundAt_40 : decode cX6_roundAt 40 = .ok (.aload_n 0, 1) := by decide +kernel
theorem dX6_roundAt_41 : decode cX6_roundAt 41 = .ok (.iconst 2, 1) := by decide +kernel
theorem dX6_roundAt_42 : decode cX6_roundAt 42 = .ok (.invokevirtual 104, 3) := by decide +kernel
theorem dX6_roundAt_45 : decode cX6_roundAt 45 = .ok (.ireturn, 1) := by decide +kernel
theorem dX6_roundMinutes_0 : decode cX6_roundMinutes 0 = .ok (.aload_n 0, 1) := by decide +kernel
theorem dX6_roundMinutes_1 : decode cX6_roundMinutes 1 = .ok (.iload_n 1, 1) := by decide +kernel
theorem dX6_roundMinutes_2 : decode cX6_roundMinutes 2 = .ok (.invokevirtual 129, 3) := by decide +kernel
theorem dX6_roundMinutes_5 : decode cX6_roundMinutes 5 = .ok (.ifCond .eq 12, 3) := by decide +kernel
theorem dX6_roundMinutes_8 : decode cX6_roundMinutes 8 = .ok (.aload_n 0, 1) := by decide +kernel
theorem dX6_roundMinutes_9 : decode cX6_roundMinutes 9 = .ok (.getfield 75, 3) := by decide +kernel
theorem dX6_roundMinutes_12 : decode cX6_roundMinutes 12 = .ok (.iload_n 1, 1) := by decide +kernel
theorem dX6_roundMinutes_13 : decode cX6_roundMinutes 13 = .ok (.iaload, 1) := by decide +kernel
theorem dX6_roundMinutes_14 : decode cX6_roundMinutes 14 = .ok (.goto 4, 3) := by decide +kernel
theorem dX6_roundMinutes_17 : decode cX6_roundMinutes 17 = .ok (.iconst 0, 1) := by decide +kernel
theorem dX6_roundMinutes_18 : decode cX6_roundMinutes 18 = .ok (.ireturn, 1) := by decide +kernel
theorem dX6_visit_0 : decode cX6_visit 0 = .ok (.aload_n 0, 1) := by decide +kernel
theorem dX6_visit_1 : decode cX6_visit 1 = .ok (.iload_n 1, 1) := by decide +kernel
theorem dX6_visit_2 : decode cX6_visit 2 = .ok (.invokevirtual 133, 3) := by decide +kernel
theorem dX6_visit_5 : decode cX6_visit 5 = .ok (.ifCond .ne 5, 3) := by decide +kernel
theorem dX6_visit_8 : decode cX6_visit 8 = .ok (.iconst 0, 1) := by decide +kernel
theorem dX6_visit_9 : decode cX6_visit 9 = .ok (.ireturn, 1) := by decide +kernel
theorem dX6_visit_10 : decode cX6_visit 10 = .ok (.iload_n 2, 1) := by decide +kernel
theorem dX6_visit_11 : decode cX6_visit 11 = .ok (.bipush 97, 2) := by decide +kernel
theorem dX6_visit_13 : decode cX6_visit 13 = .ok (.if_icmp .eq 21, 3) := by decide +kernel
theorem dX6_visit_16 : decode cX6_visit 16 = .ok (.iload_n 2, 1) := by decide +kernel
theorem dX6_visit_17 : decode cX6_visit 17 = .ok (.bipush 110, 2) := by decide +kernel
theorem dX6_visit_19 : decode cX6_visit 19 = .ok (.if_icmp .eq 15, 3) := by decide +kernel
theorem dX6_visit_22 : decode cX6_visit 22 = .ok (.iload_n 2, 1) := by decide +kernel
theorem dX6_visit_23 : decode cX6_visit 23 = .ok (.bipush 114, 2) := by decide +kernel
theorem dX6_visit_25 : decode cX6_visit 25 = .ok (.if_icmp .eq 9, 3) := by decide +kernel
theorem dX6_visit_28 : decode cX6_visit 28 = .ok (.iload_n 2, 1) := by decide +kernel
theorem dX6_visit_29 : decode cX6_visit 29 = .ok (.bipush 101, 2) := by decide +kernel
theorem dX6_visit_31 : decode cX6_visit 31 = .ok (.if_icmp .ne 13, 3) := by decide +kernel
theorem dX6_visit_34 : decode cX6_visit 34 = .ok (.iload_n 3, 1) := by decide +kernel
theorem dX6_visit_35 : decode cX6_visit 35 = .ok (.iconst 0, 1) := by decide +kernel
theorem dX6_visit_36 : decode cX6_visit 36 = .ok (.bipush 9, 2) := by decide +kernel
theorem dX6_visit_38 : decode cX6_visit 38 = .ok (.invokestatic 96, 3) := by decide +kernel
theorem dX6_visit_41 : decode cX6_visit 41 = .ok (.ifCond .ne 9, 3) := by decide +kernel
theorem dX6_visit_44 : decode cX6_visit 44 = .ok (.aload_n 0, 1) := by decide +kernel
theorem dX6_visit_45 : decode cX6_visit 45 = .ok (.iconst 2, 1) := by decide +kernel
theorem dX6_visit_46 : decode cX6_visit 46 = .ok (.invokevirtual 104, 3) := by decide +kernel
theorem dX6_visit_49 : decode cX6_visit 49 = .ok (.ireturn, 1) := by decide +kernel
theorem dX6_visit_50 : decode cX6_visit 50 = .ok (.aload_n 0, 1) := by decide +kernel
theorem dX6_visit_51 : decode cX6_visit 51 = .ok (.getfield 66, 3) := by decide +kernel
theorem dX6_visit_54 : decode cX6_visit 54 = .ok (.iload_n 1, 1) := by decide +kernel
theorem dX6_visit_55 : decode cX6_visit 55 = .ok (.iaload, 1) := by decide +kernel
theorem dX6_visit_56 : decode cX6_visit 56 = .ok (.istore 4, 2) := by decide +kernel
theorem dX6_visit_58 : decode cX6_visit 58 = .ok (.iload 4, 2) := by decide +kernel
theorem dX6_visit_60 : decode cX6_visit 60 = .ok (.iconst (-1), 1) := by decide +kernel
theorem dX6_visit_61 : decode cX6_visit 61 = .ok (.if_icmp .eq 23, 3) := by decide +kernel
theorem dX6_visit_64 : decode cX6_visit 64 = .ok (.aload_n 0, 1) := by decide +kernel
theorem dX6_visit_65 : decode cX6_visit 65 = .ok (.getfield 63, 3) := by decide +kernel
theorem dX6_visit_68 : decode cX6_visit 68 = .ok (.iload_n 1, 1) := by decide +kernel
theorem dX6_visit_69 : decode cX6_visit 69 = .ok (.baload, 1) := by decide +kernel
theorem dX6_visit_70 : decode cX6_visit 70 = .ok (.ifCond .ne 14, 3) := by decide +kernel
theorem dX6_visit_73 : decode cX6_visit 73 = .ok (.aload_n 0, 1) := by decide +kernel
theorem dX6_visit_74 : decode cX6_visit 74 = .ok (.getfield 87, 3) := by decide +kernel
theorem dX6_visit_77 : decode cX6_visit 77 = .ok (.iload 4, 2) := by decide +kernel
theorem dX6_visit_79 : decode cX6_visit 79 = .ok (.iaload, 1) := by decide +kernel
theorem dX6_visit_80 : decode cX6_visit 80 = .ok (.iconst 2, 1) := by decide +kernel
theorem dX6_visit_81 : decode cX6_visit 81 = .ok (.if_icmp .ne 9, 3) := by decide +kernel
theorem dX6_visit_84 : decode cX6_visit 84 = .ok (.aload_n 0, 1) := by decide +kernel
theorem dX6_visit_85 : decode cX6_visit 85 = .ok (.iconst 3, 1) := by decide +kernel
theorem dX6_visit_86 : decode cX6_visit 86 = .ok (.invokevirtual 104, 3) := by decide +kernel
theorem dX6_visit_89 : decode cX6_visit 89 = .ok (.ireturn, 1) := by decide +kernel
theorem dX6_visit_90 : decode cX6_visit 90 = .ok (.aload_n 0, 1) := by decide +kernel
theorem dX6_visit_91 : decode cX6_visit 91 = .ok (.getfield 63, 3) := by decide +kernel
theorem dX6_visit_94 : decode cX6_visit 94 = .ok (.iload_n 1, 1) := by decide +kernel
theorem dX6_visit_95 : decode cX6_visit 95 = .ok (.iconst 1, 1) := by decide +kernel
theorem dX6_visit_96 : decode cX6_visit 96 = .ok (.bastore, 1) := by decide +kernel
theorem dX6_visit_97 : decode cX6_visit 97 = .ok (.aload_n 0, 1) := by decide +kernel
theorem dX6_visit_98 : decode cX6_visit 98 = .ok (.getfield 29, 3) := by decide +kernel
theorem dX6_visit_101 : decode cX6_visit 101 = .ok (.iload_n 1, 1) := by decide +kernel
theorem dX6_visit_102 : decode cX6_visit 102 = .ok (.dup2, 1) := by decide +kernel
theorem dX6_visit_103 : decode cX6_visit 103 = .ok (.iaload, 1) := by decide +kernel
theorem dX6_visit_104 : decode cX6_visit 104 = .ok (.iconst 1, 1) := by decide +kernel
theorem dX6_visit_105 : decode cX6_visit 105 = .ok (.iadd, 1) := by decide +kernel
theorem dX6_visit_106 : decode cX6_visit 106 = .ok (.iastore, 1) := by decide +kernel
theorem dX6_visit_107 : decode cX6_visit 107 = .ok (.iload_n 2, 1) := by decide +kernel
theorem dX6_visit_108 : decode cX6_visit 108 = .ok (.bipush 97, 2) := by decide +kernel
theorem dX6_visit_110 : decode cX6_visit 110 = .ok (.if_icmp .ne 48, 3) := by decide +kernel
theorem dX6_visit_113 : decode cX6_visit 113 = .ok (.aload_n 0, 1) := by decide +kernel
theorem dX6_visit_114 : decode cX6_visit 114 = .ok (.getfield 23, 3) := by decide +kernel
theorem dX6_visit_117 : decode cX6_visit 117 = .ok (.iload_n 1, 1) := by decide +kernel
theorem dX6_visit_118 : decode cX6_visit 118 = .ok (.bipush 97, 2) := by decide +kernel
theorem dX6_visit_120 : decode cX6_visit 120 = .ok (.iastore, 1) := by decide +kernel
theorem dX6_visit_121 : decode cX6_visit 121 = .ok (.aload_n 0, 1) := by decide +kernel
theorem dX6_visit_122 : decode cX6_visit 122 = .ok (.getfield 41, 3) := by decide +kernel
theorem dX6_visit_125 : decode cX6_visit 125 = .ok (.iload_n 1, 1) := by decide +kernel
theorem dX6_visit_126 : decode cX6_visit 126 = .ok (.iload_n 3, 1) := by decide +kernel
theorem dX6_visit_127 : decode cX6_visit 127 = .ok (.iastore, 1) := by decide +kernel
theorem dX6_visit_128 : decode cX6_visit 128 = .ok (.aload_n 0, 1) := by decide +kernel
theorem dX6_visit_129 : decode cX6_visit 129 = .ok (.getfield 44, 3) := by decide +kernel
theorem dX6_visit_132 : decode cX6_visit 132 = .ok (.iload_n 1, 1) := by decide +kernel
theorem dX6_visit_133 : decode cX6_visit 133 = .ok (.iload 4, 2) := by decide +kernel
theorem dX6_visit_135 : decode cX6_visit 135 = .ok (.iastore, 1) := by decide +kernel
theorem dX6_visit_136 : decode cX6_visit 136 = .ok (.aload_n 0, 1) := by decide +kernel
theorem dX6_visit_137 : decode cX6_visit 137 = .ok (.getfield 47, 3) := by decide +kernel
theorem dX6_visit_140 : decode cX6_visit 140 = .ok (.iload_n 1, 1) := by decide +kernel
theorem dX6_visit_141 : decode cX6_visit 141 = .ok (.aload_n 0, 1) := by decide +kernel
theorem dX6_visit_142 : decode cX6_visit 142 = .ok (.getfield 29, 3) := by decide +kernel
theorem dX6_visit_145 : decode cX6_visit 145 = .ok (.iload_n 1, 1) := by decide +kernel
theorem dX6_visit_146 : decode cX6_visit 146 = .ok (.iaload, 1) := by decide +kernel
theorem dX6_visit_147 : decode cX6_visit 147 = .ok (.iastore, 1) := by decide +kernel
theorem dX6_visit_148 : decode cX6_visit 148 = .ok (.aload_n 0, 1) := by decide +kernel
theorem dX6_visit_149 : decode cX6_visit 149 = .ok (.getfield 57, 3) := by decide +kernel
theorem dX6_visit_152 : decode cX6_visit 152 = .ok (.iload_n 1, 1) := by decide +kernel
theorem dX6_visit_153 : decode cX6_visit 153 = .ok (.iconst 0, 1) := by decide +kernel
theorem dX6_visit_154 : decode cX6_visit 154 = .ok (.bastore, 1) := by decide +kernel
theorem dX6_visit_155 : decode cX6_visit 155 = .ok (.goto 137, 3) := by decide +kernel
theorem dX6_visit_158 : decode cX6_visit 158 = .ok (.iload_n 2, 1) := by decide +kernel
theorem dX6_visit_159 : decode cX6_visit 159 = .ok (.bipush 110, 2) := by decide +kernel
theorem dX6_visit_161 : decode cX6_visit 161 = .ok (.if_icmp .ne 56, 3) := by decide +kernel
theorem dX6_visit_164 : decode cX6_visit 164 = .ok (.aload_n 0, 1) := by decide +kernel
theorem dX6_visit_165 : decode cX6_visit 165 = .ok (.getfield 32, 3) := by decide +kernel
theorem dX6_visit_168 : decode cX6_visit 168 = .ok (.iload_n 1, 1) := by decide +kernel
theorem dX6_visit_169 : decode cX6_visit 169 = .ok (.dup2, 1) := by decide +kernel
theorem dX6_visit_170 : decode cX6_visit 170 = .ok (.iaload, 1) := by decide +kernel
theorem dX6_visit_171 : decode cX6_visit 171 = .ok (.iconst 1, 1) := by decide +kernel
theorem dX6_visit_172 : decode cX6_visit 172 = .ok (.iadd, 1) := by decide +kernel
theorem dX6_visit_173 : decode cX6_visit 173 = .ok (.iastore, 1) := by decide +kernel
theorem dX6_visit_174 : decode cX6_visit 174 = .ok (.aload_n 0, 1) := by decide +kernel
theorem dX6_visit_175 : decode cX6_visit 175 = .ok (.getfield 26, 3) := by decide +kernel
theorem dX6_visit_178 : decode cX6_visit 178 = .ok (.iload_n 1, 1) := by decide +kernel
theorem dX6_visit_179 : decode cX6_visit 179 = .ok (.aload_n 0, 1) := by decide +kernel
theorem dX6_visit_180 : decode cX6_visit 180 = .ok (.getfield 115, 3) := by decide +kernel
theorem dX6_visit_183 : decode cX6_visit 183 = .ok (.aload_n 0, 1) := by decide +kernel
theorem dX6_visit_184 : decode cX6_visit 184 = .ok (.getfield 32, 3) := by decide +kernel
theorem dX6_visit_187 : decode cX6_visit 187 = .ok (.iload_n 1, 1) := by decide +kernel
theorem dX6_visit_188 : decode cX6_visit 188 = .ok (.iaload, 1) := by decide +kernel
theorem dX6_visit_189 : decode cX6_visit 189 = .ok (.iadd, 1) := by decide +kernel
theorem dX6_visit_190 : decode cX6_visit 190 = .ok (.iastore, 1) := by decide +kernel
theorem dX6_visit_191 : decode cX6_visit 191 = .ok (.aload_n 0, 1) := by decide +kernel
theorem dX6_visit_192 : decode cX6_visit 192 = .ok (.getfield 23, 3) := by decide +kernel
theorem dX6_visit_195 : decode cX6_visit 195 = .ok (.iload_n 1, 1) := by decide +kernel
theorem dX6_visit_196 : decode cX6_visit 196 = .ok (.aload_n 0, 1) := by decide +kernel
theorem dX6_visit_197 : decode cX6_visit 197 = .ok (.getfield 32, 3) := by decide +kernel
theorem dX6_visit_200 : decode cX6_visit 200 = .ok (.iload_n 1, 1) := by decide +kernel
theorem dX6_visit_201 : decode cX6_visit 201 = .ok (.iaload, 1) := by decide +kernel
theorem dX6_visit_202 : decode cX6_visit 202 = .ok (.iconst 3, 1) := by decide +kernel
theorem dX6_visit_203 : decode cX6_visit 203 = .ok (.if_icmp .ne 8, 3) := by decide +kernel
theorem dX6_visit_206 : decode cX6_visit 206 = .ok (.bipush 103, 2) := by decide +kernel
theorem dX6_visit_208 : decode cX6_visit 208 = .ok (.goto 5, 3) := by decide +kernel
theorem dX6_visit_211 : decode cX6_visit 211 = .ok (.bipush 119, 2) := by decide +kernel
theorem dX6_visit_213 : decode cX6_visit 213 = .ok (.iastore, 1) := by decide +kernel
theorem dX6_visit_214 : decode cX6_visit 214 = .ok (.goto 78, 3) := by decide +kernel
theorem dX6_visit_217 : decode cX6_visit 217 = .ok (.iload_n 2, 1) := by decide +kernel
theorem dX6_visit_218 : decode cX6_visit 218 = .ok (.bipush 114, 2) := by decide +kernel
theorem dX6_visit_220 : decode cX6_visit 220 = .ok (.if_icmp .ne 64, 3) := by decide +kernel
theorem dX6_visit_223 : decode cX6_visit 223 = .ok (.aload_n 0, 1) := by decide +kernel
theorem dX6_visit_224 : decode cX6_visit 224 = .ok (.getfield 35, 3) := by decide +kernel
theorem dX6_visit_227 : decode cX6_visit 227 = .ok (.iload_n 1, 1) := by decide +kernel
theorem dX6_visit_228 : decode cX6_visit 228 = .ok (.dup2, 1) := by decide +kernel
theorem dX6_visit_229 : decode cX6_visit 229 = .ok (.iaload, 1) := by decide +kernel
theorem dX6_visit_230 : decode cX6_visit 230 = .ok (.iconst 1, 1) := by decide +kernel
theorem dX6_visit_231 : decode cX6_visit 231 = .ok (.iadd, 1) := by decide +kernel
theorem dX6_visit_232 : decode cX6_visit 232 = .ok (.iastore, 1) := by decide +kernel
theorem dX6_visit_233 : decode cX6_visit 233 = .ok (.aload_n 0, 1) := by decide +kernel
theorem dX6_visit_234 : decode cX6_visit 234 = .ok (.getfield 38, 3) := by decide +kernel
theorem dX6_visit_237 : decode cX6_visit 237 = .ok (.iload_n 1, 1) := by decide +kernel
theorem dX6_visit_238 : decode cX6_visit 238 = .ok (.dup2, 1) := by decide +kernel
theorem dX6_visit_239 : decode cX6_visit 239 = .ok (.iaload, 1) := by decide +kernel
theorem dX6_visit_240 : decode cX6_visit 240 = .ok (.iconst 1, 1) := by decide +kernel
theorem dX6_visit_241 : decode cX6_visit 241 = .ok (.iload 4, 2) := by decide +kernel
theorem dX6_visit_243 : decode cX6_visit 243 = .ok (.ishl, 1) := by decide +kernel
theorem dX6_visit_244 : decode cX6_visit 244 = .ok (.ior, 1) := by decide +kernel
theorem dX6_visit_245 : decode cX6_visit 245 = .ok (.iastore, 1) := by decide +kernel
theorem dX6_visit_246 : decode cX6_visit 246 = .ok (.aload_n 0, 1) := by decide +kernel
theorem dX6_visit_247 : decode cX6_visit 247 = .ok (.getfield 26, 3) := by decide +kernel
theorem dX6_visit_250 : decode cX6_visit 250 = .ok (.iload_n 1, 1) := by decide +kernel
theorem dX6_visit_251 : decode cX6_visit 251 = .ok (.aload_n 0, 1) := by decide +kernel
theorem dX6_visit_252 : decode cX6_visit 252 = .ok (.getfield 115, 3) := by decide +kernel
theorem dX6_visit_255 : decode cX6_visit 255 = .ok (.iconst 3, 1) := by decide +kernel
theorem dX6_visit_256 : decode cX6_visit 256 = .ok (.iadd, 1) := by decide +kernel
theorem dX6_visit_257 : decode cX6_visit 257 = .ok (.iastore, 1) := by decide +kernel
theorem dX6_visit_258 : decode cX6_visit 258 = .ok (.aload_n 0, 1) := by decide +kernel
theorem dX6_visit_259 : decode cX6_visit 259 = .ok (.getfield 23, 3) := by decide +kernel
theorem dX6_visit_262 : decode cX6_visit 262 = .ok (.iload_n 1, 1) := by decide +kernel
theorem dX6_visit_263 : decode cX6_visit 263 = .ok (.aload_n 0, 1) := by decide +kernel
theorem dX6_visit_264 : decode cX6_visit 264 = .ok (.getfield 35, 3) := by decide +kernel
theorem dX6_visit_267 : decode cX6_visit 267 = .ok (.iload_n 1, 1) := by decide +kernel
theorem dX6_visit_268 : decode cX6_visit 268 = .ok (.iaload, 1) := by decide +kernel
theorem dX6_visit_269 : decode cX6_visit 269 = .ok (.iconst 2, 1) := by decide +kernel
theorem dX6_visit_270 : decode cX6_visit 270 = .ok (.if_icmp .ne 8, 3) := by decide +kernel
theorem dX6_visit_273 : decode cX6_visit 273 = .ok (.bipush 114, 2) := by decide +kernel
theorem dX6_visit_275 : decode cX6_visit 275 = .ok (.goto 5, 3) := by decide +kernel
theorem dX6_visit_278 : decode cX6_visit 278 = .ok (.bipush 119, 2) := by decide +kernel
theorem dX6_visit_280 : decode cX6_visit 280 = .ok (.iastore, 1) := by decide +kernel
theorem dX6_visit_281 : decode cX6_visit 281 = .ok (.goto 11, 3) := by decide +kernel
theorem dX6_visit_284 : decode cX6_visit 284 = .ok (.aload_n 0, 1) := by decide +kernel
theorem dX6_visit_285 : decode cX6_visit 285 = .ok (.getfield 23, 3) := by decide +kernel
theorem dX6_visit_288 : decode cX6_visit 288 = .ok (.iload_n 1, 1) := by decide +kernel
theorem dX6_visit_289 : decode cX6_visit 289 = .ok (.bipush 101, 2) := by decide +kernel
theorem dX6_visit_291 : decode cX6_visit 291 = .ok (.iastore, 1) := by decide +kernel
theorem dX6_visit_292 : decode cX6_visit 292 = .ok (.aload_n 0, 1) := by decide +kernel
theorem dX6_visit_293 : decode cX6_visit 293 = .ok (.getfield 60, 3) := by decide +kernel
theorem dX6_visit_296 : decode cX6_visit 296 = .ok (.iload_n 1, 1) := by decide +kernel
theorem dX6_visit_297 : decode cX6_visit 297 = .ok (.aload_n 0, 1) := by decide +kernel
theorem dX6_visit_298 : decode cX6_visit 298 = .ok (.getfield 23, 3) := by decide +kernel
theorem dX6_visit_301 : decode cX6_visit 301 = .ok (.iload_n 1, 1) := by decide +kernel
theorem dX6_visit_302 : decode cX6_visit 302 = .ok (.iaload, 1) := by decide +kernel
theorem dX6_visit_303 : decode cX6_visit 303 = .ok (.bipush 97, 2) := by decide +kernel
theorem dX6_visit_305 : decode cX6_visit 305 = .ok (.if_icmp .eq 18, 3) := by decide +kernel
theorem dX6_visit_308 : decode cX6_visit 308 = .ok (.aload_n 0, 1) := by decide +kernel
theorem dX6_visit_309 : decode cX6_visit 309 = .ok (.getfield 23, 3) := by decide +kernel
theorem dX6_visit_312 : decode cX6_visit 312 = .ok (.iload_n 1, 1) := by decide +kernel
theorem dX6_visit_313 : decode cX6_visit 313 = .ok (.iaload, 1) := by decide +kernel
theorem dX6_visit_314 : decode cX6_visit 314 = .ok (.bipush 119, 2) := by decide +kernel
theorem dX6_visit_316 : decode cX6_visit 316 = .ok (.if_icmp .eq 7, 3) := by decide +kernel
theorem dX6_visit_319 : decode cX6_visit 319 = .ok (.iconst 1, 1) := by decide +kernel
theorem dX6_visit_320 : decode cX6_visit 320 = .ok (.goto 4, 3) := by decide +kernel
theorem dX6_visit_323 : decode cX6_visit 323 = .ok (.iconst 0, 1) := by decide +kernel
theorem dX6_visit_324 : decode cX6_visit 324 = .ok (.bastore, 1) := by decide +kernel
theorem dX6_visit_325 : decode cX6_visit 325 = .ok (.iload 4, 2) := by decide +kernel
theorem dX6_visit_327 : decode cX6_visit 327 = .ok (.ireturn, 1) := by decide +kernel
theorem dX6_check_0 : decode cX6_check 0 = .ok (.aload_n 0, 1) := by decide +kernel
theorem dX6_check_1 : decode cX6_check 1 = .ok (.iload_n 1, 1) := by decide +kernel
theorem dX6_check_2 : decode cX6_check 2 = .ok (.invokevirtual 133, 3) := by decide +kernel
theorem dX6_check_5 : decode cX6_check 5 = .ok (.ifCond .ne 5, 3) := by decide +kernel
theorem dX6_check_8 : decode cX6_check 8 = .ok (.iconst 0, 1) := by decide +kernel
theorem dX6_check_9 : decode cX6_check 9 = .ok (.ireturn, 1) := by decide +kernel
theorem dX6_check_10 : decode cX6_check 10 = .ok (.aload_n 0, 1) := by decide +kernel
theorem dX6_check_11 : decode cX6_check 11 = .ok (.iload_n 2, 1) := by decide +kernel
theorem dX6_check_12 : decode cX6_check 12 = .ok (.iconst 0, 1) := by decide +kernel
theorem dX6_check_13 : decode cX6_check 13 = .ok (.bipush 9, 2) := by decide +kernel
theorem dX6_check_15 : decode cX6_check 15 = .ok (.invokestatic 96, 3) := by decide +kernel
theorem dX6_check_18 : decode cX6_check 18 = .ok (.ifCond .ne 7, 3) := by decide +kernel
theorem dX6_check_21 : decode cX6_check 21 = .ok (.iconst 2, 1) := by decide +kernel
theorem dX6_check_22 : decode cX6_check 22 = .ok (.goto 28, 3) := by decide +kernel
theorem dX6_check_25 : decode cX6_check 25 = .ok (.aload_n 0, 1) := by decide +kernel
theorem dX6_check_26 : decode cX6_check 26 = .ok (.getfield 23, 3) := by decide +kernel
theorem dX6_check_29 : decode cX6_check 29 = .ok (.iload_n 1, 1) := by decide +kernel
theorem dX6_check_30 : decode cX6_check 30 = .ok (.iaload, 1) := by decide +kernel
theorem dX6_check_31 : decode cX6_check 31 = .ok (.bipush 97, 2) := by decide +kernel
theorem dX6_check_33 : decode cX6_check 33 = .ok (.if_icmp .ne 12, 3) := by decide +kernel
theorem dX6_check_36 : decode cX6_check 36 = .ok (.aload_n 0, 1) := by decide +kernel
theorem dX6_check_37 : decode cX6_check 37 = .ok (.getfield 57, 3) := by decide +kernel
theorem dX6_check_40 : decode cX6_check 40 = .ok (.iload_n 1, 1) := by decide +kernel
theorem dX6_check_41 : decode cX6_check 41 = .ok (.baload, 1) := by decide +kernel
theorem dX6_check_42 : decode cX6_check 42 = .ok (.ifCond .eq 7, 3) := by decide +kernel
theorem dX6_check_45 : decode cX6_check 45 = .ok (.iconst 3, 1) := by decide +kernel
theorem dX6_check_46 : decode cX6_check 46 = .ok (.goto 4, 3) := by decide +kernel
theorem dX6_check_49 : decode cX6_check 49 = .ok (.iconst 0, 1) := by decide +kernel
theorem dX6_check_50 : decode cX6_check 50 = .ok (.putfield 90, 3) := by decide +kernel
theorem dX6_check_53 : decode cX6_check 53 = .ok (.aload_n 0, 1) := by decide +kernel
theorem dX6_check_54 : decode cX6_check 54 = .ok (.getfield 90, 3) := by decide +kernel
theorem dX6_check_57 : decode cX6_check 57 = .ok (.ifCond .le 5, 3) := by decide +kernel
theorem dX6_check_60 : decode cX6_check 60 = .ok (.iconst 0, 1) := by decide +kernel
theorem dX6_check_61 : decode cX6_check 61 = .ok (.ireturn, 1) := by decide +kernel
theorem dX6_check_62 : decode cX6_check 62 = .ok (.aload_n 0, 1) := by decide +kernel
theorem dX6_check_63 : decode cX6_check 63 = .ok (.getfield 57, 3) := by decide +kernel
theorem dX6_check_66 : decode cX6_check 66 = .ok (.iload_n 1, 1) := by decide +kernel
theorem dX6_check_67 : decode cX6_check 67 = .ok (.iconst 1, 1) := by decide +kernel
theorem dX6_check_68 : decode cX6_check 68 = .ok (.bastore, 1) := by decide +kernel
theorem dX6_check_69 : decode cX6_check 69 = .ok (.aload_n 0, 1) := by decide +kernel
theorem dX6_check_70 : decode cX6_check 70 = .ok (.getfield 41, 3) := by decide +kernel
theorem dX6_check_73 : decode cX6_check 73 = .ok (.iload_n 1, 1) := by decide +kernel
theorem dX6_check_74 : decode cX6_check 74 = .ok (.iaload, 1) := by decide +kernel
theorem dX6_check_75 : decode cX6_check 75 = .ok (.iload_n 2, 1) := by decide +kernel
theorem dX6_check_76 : decode cX6_check 76 = .ok (.if_icmp .ne 5, 3) := by decide +kernel
theorem dX6_check_79 : decode cX6_check 79 = .ok (.iconst 1, 1) := by decide +kernel
theorem dX6_check_80 : decode cX6_check 80 = .ok (.ireturn, 1) := by decide +kernel
theorem dX6_check_81 : decode cX6_check 81 = .ok (.aload_n 0, 1) := by decide +kernel
theorem dX6_check_82 : decode cX6_check 82 = .ok (.getfield 44, 3) := by decide +kernel
theorem dX6_check_85 : decode cX6_check 85 = .ok (.iload_n 1, 1) := by decide +kernel
theorem dX6_check_86 : decode cX6_check 86 = .ok (.iaload, 1) := by decide +kernel
theorem dX6_check_87 : decode cX6_check 87 = .ok (.istore_n 3, 1) := by decide +kernel
theorem dX6_check_88 : decode cX6_check 88 = .ok (.aload_n 0, 1) := by decide +kernel
theorem dX6_check_89 : decode cX6_check 89 = .ok (.getfield 87, 3) := by decide +kernel
theorem dX6_check_92 : decode cX6_check 92 = .ok (.iload_n 3, 1) := by decide +kernel
theorem dX6_check_93 : decode cX6_check 93 = .ok (.dup2, 1) := by decide +kernel
theorem dX6_check_94 : decode cX6_check 94 = .ok (.iaload, 1) := by decide +kernel
theorem dX6_check_95 : decode cX6_check 95 = .ok (.iconst 1, 1) := by decide +kernel
theorem dX6_check_96 : decode cX6_check 96 = .ok (.iadd, 1) := by decide +kernel
theorem dX6_check_97 : decode cX6_check 97 = .ok (.iastore, 1) := by decide +kernel
theorem dX6_check_98 : decode cX6_check 98 = .ok (.iconst 0, 1) := by decide +kernel
theorem dX6_check_99 : decode cX6_check 99 = .ok (.istore 4, 2) := by decide +kernel
theorem dX6_check_101 : decode cX6_check 101 = .ok (.iload 4, 2) := by decide +kernel
theorem dX6_check_103 : decode cX6_check 103 = .ok (.aload_n 0, 1) := by decide +kernel
theorem dX6_check_104 : decode cX6_check 104 = .ok (.getfield 93, 3) := by decide +kernel
theorem dX6_check_107 : decode cX6_check 107 = .ok (.if_icmp .ge 67, 3) := by decide +kernel
theorem dX6_check_110 : decode cX6_check 110 = .ok (.aload_n 0, 1) := by decide +kernel
theorem dX6_check_111 : decode cX6_check 111 = .ok (.getfield 87, 3) := by decide +kernel
theorem dX6_check_114 : decode cX6_check 114 = .ok (.iload_n 3, 1) := by decide +kernel
theorem dX6_check_115 : decode cX6_check 115 = .ok (.iaload, 1) := by decide +kernel
theorem dX6_check_116 : decode cX6_check 116 = .ok (.iconst 2, 1) := by decide +kernel
theorem dX6_check_117 : decode cX6_check 117 = .ok (.if_icmp .ne 57, 3) := by decide +kernel
theorem dX6_check_120 : decode cX6_check 120 = .ok (.aload_n 0, 1) := by decide +kernel
theorem dX6_check_121 : decode cX6_check 121 = .ok (.getfield 23, 3) := by decide +kernel
theorem dX6_check_124 : decode cX6_check 124 = .ok (.iload 4, 2) := by decide +kernel
theorem dX6_check_126 : decode cX6_check 126 = .ok (.iaload, 1) := by decide +kernel
theorem dX6_check_127 : decode cX6_check 127 = .ok (.bipush 97, 2) := by decide +kernel
theorem dX6_check_129 : decode cX6_check 129 = .ok (.if_icmp .ne 39, 3) := by decide +kernel
theorem dX6_check_132 : decode cX6_check 132 = .ok (.aload_n 0, 1) := by decide +kernel
theorem dX6_check_133 : decode cX6_check 133 = .ok (.getfield 44, 3) := by decide +kernel
theorem dX6_check_136 : decode cX6_check 136 = .ok (.iload 4, 2) := by decide +kernel
theorem dX6_check_138 : decode cX6_check 138 = .ok (.iaload, 1) := by decide +kernel
theorem dX6_check_139 : decode cX6_check 139 = .ok (.iload_n 3, 1) := by decide +kernel
theorem dX6_check_140 : decode cX6_check 140 = .ok (.if_icmp .eq 6, 3) := by decide +kernel
theorem dX6_check_143 : decode cX6_check 143 = .ok (.goto 25, 3) := by decide +kernel
theorem dX6_check_146 : decode cX6_check 146 = .ok (.aload_n 0, 1) := by decide +kernel
theorem dX6_check_147 : decode cX6_check 147 = .ok (.getfield 23, 3) := by decide +kernel
theorem dX6_check_150 : decode cX6_check 150 = .ok (.iload 4, 2) := by decide +kernel
theorem dX6_check_152 : decode cX6_check 152 = .ok (.bipush 119, 2) := by decide +kernel
theorem dX6_check_154 : decode cX6_check 154 = .ok (.iastore, 1) := by decide +kernel
theorem dX6_check_155 : decode cX6_check 155 = .ok (.aload_n 0, 1) := by decide +kernel
theorem dX6_check_156 : decode cX6_check 156 = .ok (.getfield 26, 3) := by decide +kernel
theorem dX6_check_159 : decode cX6_check 159 = .ok (.iload 4, 2) := by decide +kernel
theorem dX6_check_161 : decode cX6_check 161 = .ok (.aload_n 0, 1) := by decide +kernel
theorem dX6_check_162 : decode cX6_check 162 = .ok (.getfield 115, 3) := by decide +kernel
theorem dX6_check_165 : decode cX6_check 165 = .ok (.iconst 1, 1) := by decide +kernel
theorem dX6_check_166 : decode cX6_check 166 = .ok (.iadd, 1) := by decide +kernel
theorem dX6_check_167 : decode cX6_check 167 = .ok (.iastore, 1) := by decide +kernel
theorem dX6_check_168 : decode cX6_check 168 = .ok (.iinc 4 1, 3) := by decide +kernel
theorem dX6_check_171 : decode cX6_check 171 = .ok (.goto (-70), 3) := by decide +kernel
theorem dX6_check_174 : decode cX6_check 174 = .ok (.iconst 0, 1) := by decide +kernel
theorem dX6_check_175 : decode cX6_check 175 = .ok (.ireturn, 1) := by decide +kernel
theorem dX6_endDay_0 : decode cX6_endDay 0 = .ok (.aload_n 0, 1) := by decide +kernel
theorem dX6_endDay_1 : decode cX6_endDay 1 = .ok (.getfield 115, 3) := by decide +kernel
theorem dX6_endDay_4 : decode cX6_endDay 4 = .ok (.bipush 99, 2) := by decide +kernel
theorem dX6_endDay_6 : decode cX6_endDay 6 = .ok (.if_icmp .ne 9, 3) := by decide +kernel
theorem dX6_endDay_9 : decode cX6_endDay 9 = .ok (.aload_n 0, 1) := by decide +kernel
theorem dX6_endDay_10 : decode cX6_endDay 10 = .ok (.iconst 1, 1) := by decide +kernel
theorem dX6_endDay_11 : decode cX6_endDay 11 = .ok (.invokevirtual 104, 3) := by decide +kernel
theorem dX6_endDay_14 : decode cX6_endDay 14 = .ok (.ireturn, 1) := by decide +kernel
theorem dX6_endDay_15 : decode cX6_endDay 15 = .ok (.aload_n 0, 1) := by decide +kernel
theorem dX6_endDay_16 : decode cX6_endDay 16 = .ok (.iconst 0, 1) := by decide +kernel
theorem dX6_endDay_17 : decode cX6_endDay 17 = .ok (.putfield 90, 3) := by decide +kernel
theorem dX6_endDay_20 : decode cX6_endDay 20 = .ok (.iconst 0, 1) := by decide +kernel
theorem dX6_endDay_21 : decode cX6_endDay 21 = .ok (.istore_n 1, 1) := by decide +kernel
theorem dX6_endDay_22 : decode cX6_endDay 22 = .ok (.iconst 0, 1) := by decide +kernel
theorem dX6_endDay_23 : decode cX6_endDay 23 = .ok (.istore_n 2, 1) := by decide +kernel
theorem dX6_endDay_24 : decode cX6_endDay 24 = .ok (.iload_n 2, 1) := by decide +kernel
theorem dX6_endDay_25 : decode cX6_endDay 25 = .ok (.aload_n 0, 1) := by decide +kernel
theorem dX6_endDay_26 : decode cX6_endDay 26 = .ok (.getfield 93, 3) := by decide +kernel
theorem dX6_endDay_29 : decode cX6_endDay 29 = .ok (.if_icmp .ge 58, 3) := by decide +kernel
theorem dX6_endDay_32 : decode cX6_endDay 32 = .ok (.aload_n 0, 1) := by decide +kernel
theorem dX6_endDay_33 : decode cX6_endDay 33 = .ok (.getfield 60, 3) := by decide +kernel
theorem dX6_endDay_36 : decode cX6_endDay 36 = .ok (.iload_n 2, 1) := by decide +kernel
theorem dX6_endDay_37 : decode cX6_endDay 37 = .ok (.baload, 1) := by decide +kernel
theorem dX6_endDay_38 : decode cX6_endDay 38 = .ok (.ifCond .eq 43, 3) := by decide +kernel
theorem dX6_endDay_41 : decode cX6_endDay 41 = .ok (.aload_n 0, 1) := by decide +kernel
theorem dX6_endDay_42 : decode cX6_endDay 42 = .ok (.aload_n 0, 1) := by decide +kernel
theorem dX6_endDay_43 : decode cX6_endDay 43 = .ok (.getfield 13, 3) := by decide +kernel
theorem dX6_endDay_46 : decode cX6_endDay 46 = .ok (.iload_n 2, 1) := by decide +kernel
theorem dX6_endDay_47 : decode cX6_endDay 47 = .ok (.iaload, 1) := by decide +kernel
theorem dX6_endDay_48 : decode cX6_endDay 48 = .ok (.invokevirtual 112, 3) := by decide +kernel
theorem dX6_endDay_51 : decode cX6_endDay 51 = .ok (.ifCond .ne 6, 3) := by decide +kernel
theorem dX6_endDay_54 : decode cX6_endDay 54 = .ok (.goto 27, 3) := by decide +kernel
theorem dX6_endDay_57 : decode cX6_endDay 57 = .ok (.aload_n 0, 1) := by decide +kernel
theorem dX6_endDay_58 : decode cX6_endDay 58 = .ok (.aload_n 0, 1) := by decide +kernel
theorem dX6_endDay_59 : decode cX6_endDay 59 = .ok (.getfield 13, 3) := by decide +kernel
theorem dX6_endDay_62 : decode cX6_endDay 62 = .ok (.iload_n 2, 1) := by decide +kernel
theorem dX6_endDay_63 : decode cX6_endDay 63 = .ok (.iaload, 1) := by decide +kernel
theorem dX6_endDay_64 : decode cX6_endDay 64 = .ok (.iconst 1, 1) := by decide +kernel
theorem dX6_endDay_65 : decode cX6_endDay 65 = .ok (.invokevirtual 118, 3) := by decide +kernel
theorem dX6_endDay_68 : decode cX6_endDay 68 = .ok (.istore_n 3, 1) := by decide +kernel
theorem dX6_endDay_69 : decode cX6_endDay 69 = .ok (.iload_n 1, 1) := by decide +kernel
theorem dX6_endDay_70 : decode cX6_endDay 70 = .ok (.iload_n 3, 1) := by decide +kernel
theorem dX6_endDay_71 : decode cX6_endDay 71 = .ok (.ifCond .lt 7, 3) := by decide +kernel
theorem dX6_endDay_74 : decode cX6_endDay 74 = .ok (.iconst 1, 1) := by decide +kernel
theorem dX6_endDay_75 : decode cX6_endDay 75 = .ok (.goto 4, 3) := by decide +kernel
theorem dX6_endDay_78 : decode cX6_endDay 78 = .ok (.iconst 0, 1) := by decide +kernel
theorem dX6_endDay_79 : decode cX6_endDay 79 = .ok (.iadd, 1) := by decide +kernel
theorem dX6_endDay_80 : decode cX6_endDay 80 = .ok (.istore_n 1, 1) := by decide +kernel
theorem dX6_endDay_81 : decode cX6_endDay 81 = .ok (.iinc 2 1, 3) := by decide +kernel
theorem dX6_endDay_84 : decode cX6_endDay 84 = .ok (.goto (-60), 3) := by decide +kernel
theorem dX6_endDay_87 : decode cX6_endDay 87 = .ok (.aload_n 0, 1) := by decide +kernel
theorem dX6_endDay_88 : decode cX6_endDay 88 = .ok (.dup, 1) := by decide +kernel
theorem dX6_endDay_89 : decode cX6_endDay 89 = .ok (.getfield 115, 3) := by decide +kernel
theorem dX6_endDay_92 : decode cX6_endDay 92 = .ok (.iconst 1, 1) := by decide +kernel
theorem dX6_endDay_93 : decode cX6_endDay 93 = .ok (.iadd, 1) := by decide +kernel
theorem dX6_endDay_94 : decode cX6_endDay 94 = .ok (.putfield 115, 3) := by decide +kernel
theorem dX6_endDay_97 : decode cX6_endDay 97 = .ok (.aload_n 0, 1) := by decide +kernel
theorem dX6_endDay_98 : decode cX6_endDay 98 = .ok (.invokevirtual 136, 3) := by decide +kernel
theorem dX6_endDay_101 : decode cX6_endDay 101 = .ok (.iload_n 1, 1) := by decide +kernel
theorem dX6_endDay_102 : decode cX6_endDay 102 = .ok (.ireturn, 1) := by decide +kernel
theorem dX6_stateOf_0 : decode cX6_stateOf 0 = .ok (.aload_n 0, 1) := by decide +kernel
theorem dX6_stateOf_1 : decode cX6_stateOf 1 = .ok (.iload_n 1, 1) := by decide +kernel
theorem dX6_stateOf_2 : decode cX6_stateOf 2 = .ok (.invokevirtual 133, 3) := by decide +kernel
theorem dX6_stateOf_5 : decode cX6_stateOf 5 = .ok (.ifCond .eq 12, 3) := by decide +kernel
theorem dX6_stateOf_8 : decode cX6_stateOf 8 = .ok (.aload_n 0, 1) := by decide +kernel
theorem dX6_stateOf_9 : decode cX6_stateOf 9 = .ok (.getfield 23, 3) := by decide +kernel
theorem dX6_stateOf_12 : decode cX6_stateOf 12 = .ok (.iload_n 1, 1) := by decide +kernel
theorem dX6_stateOf_13 : decode cX6_stateOf 13 = .ok (.iaload, 1) := by decide +kernel
theorem dX6_stateOf_14 : decode cX6_stateOf 14 = .ok (.goto 4, 3) := by decide +kernel
theorem dX6_stateOf_17 : decode cX6_stateOf 17 = .ok (.iconst 0, 1) := by decide +kernel
theorem dX6_stateOf_18 : decode cX6_stateOf 18 = .ok (.i2c, 1) := by decide +kernel
theorem dX6_stateOf_19 : decode cX6_stateOf 19 = .ok (.ireturn, 1) := by decide +kernel
theorem dX6_wantedFrom_0 : decode cX6_wantedFrom 0 = .ok (.aload_n 0, 1) := by decide +kernel
theorem dX6_wantedFrom_1 : decode cX6_wantedFrom 1 = .ok (.iload_n 1, 1) := by decide +kernel
theorem dX6_wantedFrom_2 : decode cX6_wantedFrom 2 = .ok (.invokevirtual 133, 3) := by decide +kernel
theorem dX6_wantedFrom_5 : decode cX6_wantedFrom 5 = .ok (.ifCond .ne 5, 3) := by decide +kernel
theorem dX6_wantedFrom_8 : decode cX6_wantedFrom 8 = .ok (.iconst 0, 1) := by decide +kernel
theorem dX6_wantedFrom_9 : decode cX6_wantedFrom 9 = .ok (.ireturn, 1) := by decide +kernel
theorem dX6_wantedFrom_10 : decode cX6_wantedFrom 10 = .ok (.aload_n 0, 1) := by decide +kernel
theorem dX6_wantedFrom_11 : decode cX6_wantedFrom 11 = .ok (.getfield 23, 3) := by decide +kernel
theorem dX6_wantedFrom_14 : decode cX6_wantedFrom 14 = .ok (.iload_n 1, 1) := by decide +kernel
theorem dX6_wantedFrom_15 : decode cX6_wantedFrom 15 = .ok (.iaload, 1) := by decide +kernel
theorem dX6_wantedFrom_16 : decode cX6_wantedFrom 16 = .ok (.bipush 119, 2) := by decide +kernel
theorem dX6_wantedFrom_18 : decode cX6_wantedFrom 18 = .ok (.if_icmp .ne 12, 3) := by decide +kernel
theorem dX6_wantedFrom_21 : decode cX6_wantedFrom 21 = .ok (.aload_n 0, 1) := by decide +kernel
theorem dX6_wantedFrom_22 : decode cX6_wantedFrom 22 = .ok (.getfield 26, 3) := by decide +kernel
theorem dX6_wantedFrom_25 : decode cX6_wantedFrom 25 = .ok (.iload_n 1, 1) := by decide +kernel
theorem dX6_wantedFrom_26 : decode cX6_wantedFrom 26 = .ok (.iaload, 1) := by decide +kernel
theorem dX6_wantedFrom_27 : decode cX6_wantedFrom 27 = .ok (.goto 8, 3) := by decide +kernel
theorem dX6_wantedFrom_30 : decode cX6_wantedFrom 30 = .ok (.aload_n 0, 1) := by decide +kernel
theorem dX6_wantedFrom_31 : decode cX6_wantedFrom 31 = .ok (.iconst 2, 1) := by decide +kernel
theorem dX6_wantedFrom_32 : decode cX6_wantedFrom 32 = .ok (.invokevirtual 104, 3) := by decide +kernel
theorem dX6_wantedFrom_35 : decode cX6_wantedFrom 35 = .ok (.ireturn, 1) := by decide +kernel
theorem dX6_codeOf_0 : decode cX6_codeOf 0 = .ok (.aload_n 0, 1) := by decide +kernel
theorem dX6_codeOf_1 : decode cX6_codeOf 1 = .ok (.iload_n 1, 1) := by decide +kernel
theorem dX6_codeOf_2 : decode cX6_codeOf 2 = .ok (.invokevirtual 133, 3) := by decide +kernel
theorem dX6_codeOf_5 : decode cX6_codeOf 5 = .ok (.ifCond .ne 5, 3) := by decide +kernel
theorem dX6_codeOf_8 : decode cX6_codeOf 8 = .ok (.iconst 0, 1) := by decide +kernel
theorem dX6_codeOf_9 : decode cX6_codeOf 9 = .ok (.ireturn, 1) := by decide +kernel
theorem dX6_codeOf_10 : decode cX6_codeOf 10 = .ok (.aload_n 0, 1) := by decide +kernel
theorem dX6_codeOf_11 : decode cX6_codeOf 11 = .ok (.getfield 23, 3) := by decide +kernel
theorem dX6_codeOf_14 : decode cX6_codeOf 14 = .ok (.iload_n 1, 1) := by decide +kernel
theorem dX6_codeOf_15 : decode cX6_codeOf 15 = .ok (.iaload, 1) := by decide +kernel
theorem dX6_codeOf_16 : decode cX6_codeOf 16 = .ok (.lookupswitch 91 #[(97, 65), (103, 87), (114, 83), (117, 52), (119, 54)], 52) := by decide +kernel
theorem dX6_codeOf_68 : decode cX6_codeOf 68 = .ok (.iconst 0, 1) := by decide +kernel
theorem dX6_codeOf_69 : decode cX6_codeOf 69 = .ok (.ireturn, 1) := by decide +kernel
theorem dX6_codeOf_70 : decode cX6_codeOf 70 = .ok (.sipush 300, 3) := by decide +kernel
theorem dX6_codeOf_73 : decode cX6_codeOf 73 = .ok (.aload_n 0, 1) := by decide +kernel
theorem dX6_codeOf_74 : decode cX6_codeOf 74 = .ok (.getfield 29, 3) := by decide +kernel
theorem dX6_codeOf_77 : decode cX6_codeOf 77 = .ok (.iload_n 1, 1) := by decide +kernel
theorem dX6_codeOf_78 : decode cX6_codeOf 78 = .ok (.iaload, 1) := by decide +kernel
theorem dX6_codeOf_79 : decode cX6_codeOf 79 = .ok (.iadd, 1) := by decide +kernel
theorem dX6_codeOf_80 : decode cX6_codeOf 80 = .ok (.ireturn, 1) := by decide +kernel
theorem dX6_codeOf_81 : decode cX6_codeOf 81 = .ok (.aload_n 0, 1) := by decide +kernel
theorem dX6_codeOf_82 : decode cX6_codeOf 82 = .ok (.getfield 47, 3) := by decide +kernel
theorem dX6_codeOf_85 : decode cX6_codeOf 85 = .ok (.iload_n 1, 1) := by decide +kernel
theorem dX6_codeOf_86 : decode cX6_codeOf 86 = .ok (.iaload, 1) := by decide +kernel
theorem dX6_codeOf_87 : decode cX6_codeOf 87 = .ok (.iconst 1, 1) := by decide +kernel
theorem dX6_codeOf_88 : decode cX6_codeOf 88 = .ok (.if_icmp .ne 8, 3) := by decide +kernel
theorem dX6_codeOf_91 : decode cX6_codeOf 91 = .ok (.bipush 110, 2) := by decide +kernel
theorem dX6_codeOf_93 : decode cX6_codeOf 93 = .ok (.goto 5, 3) := by decide +kernel
theorem dX6_codeOf_96 : decode cX6_codeOf 96 = .ok (.bipush 120, 2) := by decide +kernel
theorem dX6_codeOf_98 : decode cX6_codeOf 98 = .ok (.ireturn, 1) := by decide +kernel
theorem dX6_codeOf_99 : decode cX6_codeOf 99 = .ok (.sipush 210, 3) := by decide +kernel
theorem dX6_codeOf_102 : decode cX6_codeOf 102 = .ok (.ireturn, 1) := by decide +kernel
theorem dX6_codeOf_103 : decode cX6_codeOf 103 = .ok (.sipush 220, 3) := by decide +kernel
theorem dX6_codeOf_106 : decode cX6_codeOf 106 = .ok (.ireturn, 1) := by decide +kernel
theorem dX6_codeOf_107 : decode cX6_codeOf 107 = .ok (.sipush 400, 3) := by decide +kernel
theorem dX6_codeOf_110 : decode cX6_codeOf 110 = .ok (.ireturn, 1) := by decide +kernel
theorem dX6_answerOf_0 : decode cX6_answerOf 0 = .ok (.aload_n 0, 1) := by decide +kernel
theorem dX6_answerOf_1 : decode cX6_answerOf 1 = .ok (.iload_n 1, 1) := by decide +kernel
theorem dX6_answerOf_2 : decode cX6_answerOf 2 = .ok (.invokevirtual 133, 3) := by decide +kernel
theorem dX6_answerOf_5 : decode cX6_answerOf 5 = .ok (.ifCond .ne 5, 3) := by decide +kernel
theorem dX6_answerOf_8 : decode cX6_answerOf 8 = .ok (.iconst 0, 1) := by decide +kernel
theorem dX6_answerOf_9 : decode cX6_answerOf 9 = .ok (.ireturn, 1) := by decide +kernel
theorem dX6_answerOf_10 : decode cX6_answerOf 10 = .ok (.aload_n 0, 1) := by decide +kernel
theorem dX6_answerOf_11 : decode cX6_answerOf 11 = .ok (.getfield 23, 3) := by decide +kernel
theorem dX6_answerOf_14 : decode cX6_answerOf 14 = .ok (.iload_n 1, 1) := by decide +kernel
theorem dX6_answerOf_15 : decode cX6_answerOf 15 = .ok (.iaload, 1) := by decide +kernel
theorem dX6_answerOf_16 : decode cX6_answerOf 16 = .ok (.bipush 97, 2) := by decide +kernel
theorem dX6_answerOf_18 : decode cX6_answerOf 18 = .ok (.if_icmp .ne 12, 3) := by decide +kernel
theorem dX6_answerOf_21 : decode cX6_answerOf 21 = .ok (.aload_n 0, 1) := by decide +kernel
theorem dX6_answerOf_22 : decode cX6_answerOf 22 = .ok (.getfield 41, 3) := by decide +kernel
theorem dX6_answerOf_25 : decode cX6_answerOf 25 = .ok (.iload_n 1, 1) := by decide +kernel
theorem dX6_answerOf_26 : decode cX6_answerOf 26 = .ok (.iaload, 1) := by decide +kernel
theorem dX6_answerOf_27 : decode cX6_answerOf 27 = .ok (.goto 8, 3) := by decide +kernel
theorem dX6_answerOf_30 : decode cX6_answerOf 30 = .ok (.aload_n 0, 1) := by decide +kernel
theorem dX6_answerOf_31 : decode cX6_answerOf 31 = .ok (.iconst 2, 1) := by decide +kernel
theorem dX6_answerOf_32 : decode cX6_answerOf 32 = .ok (.invokevirtual 104, 3) := by decide +kernel
theorem dX6_answerOf_35 : decode cX6_answerOf 35 = .ok (.ireturn, 1) := by decide +kernel
theorem dX6_faults_0 : decode cX6_faults 0 = .ok (.aload_n 0, 1) := by decide +kernel
theorem dX6_faults_1 : decode cX6_faults 1 = .ok (.iload_n 1, 1) := by decide +kernel
theorem dX6_faults_2 : decode cX6_faults 2 = .ok (.invokevirtual 129, 3) := by decide +kernel
theorem dX6_faults_5 : decode cX6_faults 5 = .ok (.ifCond .eq 12, 3) := by decide +kernel
theorem dX6_faults_8 : decode cX6_faults 8 = .ok (.aload_n 0, 1) := by decide +kernel
theorem dX6_faults_9 : decode cX6_faults 9 = .ok (.getfield 87, 3) := by decide +kernel
theorem dX6_faults_12 : decode cX6_faults 12 = .ok (.iload_n 1, 1) := by decide +kernel
theorem dX6_faults_13 : decode cX6_faults 13 = .ok (.iaload, 1) := by decide +kernel
theorem dX6_faults_14 : decode cX6_faults 14 = .ok (.goto 4, 3) := by decide +kernel
theorem dX6_faults_17 : decode cX6_faults 17 = .ok (.iconst 0, 1) := by decide +kernel
theorem dX6_faults_18 : decode cX6_faults 18 = .ok (.ireturn, 1) := by decide +kernel
theorem dX6_answersTo_0 : decode cX6_answersTo 0 = .ok (.aload_n 0, 1) := by decide +kernel
theorem dX6_answersTo_1 : decode cX6_answersTo 1 = .ok (.iload_n 1, 1) := by decide +kernel
theorem dX6_answersTo_2 : decode cX6_answersTo 2 = .ok (.invokevirtual 129, 3) := by decide +kernel
theorem dX6_answersTo_5 : decode cX6_answersTo 5 = .ok (.ifCond .ne 5, 3) := by decide +kernel
theorem dX6_answersTo_8 : decode cX6_answersTo 8 = .ok (.iconst 0, 1) := by decide +kernel
theorem dX6_answersTo_9 : decode cX6_answersTo 9 = .ok (.ireturn, 1) := by decide +kernel
theorem dX6_answersTo_10 : decode cX6_answersTo 10 = .ok (.iconst 0, 1) := by decide +kernel
theorem dX6_answersTo_11 : decode cX6_answersTo 11 = .ok (.istore_n 2, 1) := by decide +kernel
theorem dX6_answersTo_12 : decode cX6_answersTo 12 = .ok (.iconst 0, 1) := by decide +kernel
theorem dX6_answersTo_13 : decode cX6_answersTo 13 = .ok (.istore_n 3, 1) := by decide +kernel
theorem dX6_answersTo_14 : decode cX6_answersTo 14 = .ok (.iload_n 3, 1) := by decide +kernel
theorem dX6_answersTo_15 : decode cX6_answersTo 15 = .ok (.aload_n 0, 1) := by decide +kernel
theorem dX6_answersTo_16 : decode cX6_answersTo 16 = .ok (.getfield 93, 3) := by decide +kernel
theorem dX6_answersTo_19 : decode cX6_answersTo 19 = .ok (.if_icmp .ge 38, 3) := by decide +kernel
theorem dX6_answersTo_22 : decode cX6_answersTo 22 = .ok (.iload_n 2, 1) := by decide +kernel
theorem dX6_answersTo_23 : decode cX6_answersTo 23 = .ok (.aload_n 0, 1) := by decide +kernel
theorem dX6_answersTo_24 : decode cX6_answersTo 24 = .ok (.getfield 23, 3) := by decide +kernel
theorem dX6_answersTo_27 : decode cX6_answersTo 27 = .ok (.iload_n 3, 1) := by decide +kernel
theorem dX6_answersTo_28 : decode cX6_answersTo 28 = .ok (.iaload, 1) := by decide +kernel
theorem dX6_answersTo_29 : decode cX6_answersTo 29 = .ok (.bipush 97, 2) := by decide +kernel
theorem dX6_answersTo_31 : decode cX6_answersTo 31 = .ok (.if_icmp .ne 17, 3) := by decide +kernel
theorem dX6_answersTo_34 : decode cX6_answersTo 34 = .ok (.aload_n 0, 1) := by decide +kernel
theorem dX6_answersTo_35 : decode cX6_answersTo 35 = .ok (.getfield 44, 3) := by decide +kernel
theorem dX6_answersTo_38 : decode cX6_answersTo 38 = .ok (.iload_n 3, 1) := by decide +kernel
theorem dX6_answersTo_39 : decode cX6_answersTo 39 = .ok (.iaload, 1) := by decide +kernel
theorem dX6_answersTo_40 : decode cX6_answersTo 40 = .ok (.iload_n 1, 1) := by decide +kernel
theorem dX6_answersTo_41 : decode cX6_answersTo 41 = .ok (.if_icmp .ne 7, 3) := by decide +kernel
theorem dX6_answersTo_44 : decode cX6_answersTo 44 = .ok (.iconst 1, 1) := by decide +kernel
theorem dX6_answersTo_45 : decode cX6_answersTo 45 = .ok (.goto 4, 3) := by decide +kernel
theorem dX6_answersTo_48 : decode cX6_answersTo 48 = .ok (.iconst 0, 1) := by decide +kernel
theorem dX6_answersTo_49 : decode cX6_answersTo 49 = .ok (.iadd, 1) := by decide +kernel
theorem dX6_answersTo_50 : decode cX6_answersTo 50 = .ok (.istore_n 2, 1) := by decide +kernel
theorem dX6_answersTo_51 : decode cX6_answersTo 51 = .ok (.iinc 3 1, 3) := by decide +kernel
theorem dX6_answersTo_54 : decode cX6_answersTo 54 = .ok (.goto (-40), 3) := by decide +kernel
theorem dX6_answersTo_57 : decode cX6_answersTo 57 = .ok (.iload_n 2, 1) := by decide +kernel
theorem dX6_answersTo_58 : decode cX6_answersTo 58 = .ok (.ireturn, 1) := by decide +kernel
theorem dX6_isOf_0 : decode cX6_isOf 0 = .ok (.iload_n 3, 1) := by decide +kernel
theorem dX6_isOf_1 : decode cX6_isOf 1 = .ok (.ifCond .eq 12, 3) := by decide +kernel
theorem dX6_isOf_4 : decode cX6_isOf 4 = .ok (.aload_n 0, 1) := by decide +kernel
theorem dX6_isOf_5 : decode cX6_isOf 5 = .ok (.getfield 13, 3) := by decide +kernel
theorem dX6_isOf_8 : decode cX6_isOf 8 = .ok (.iload_n 1, 1) := by decide +kernel
theorem dX6_isOf_9 : decode cX6_isOf 9 = .ok (.iaload, 1) := by decide +kernel
theorem dX6_isOf_10 : decode cX6_isOf 10 = .ok (.goto 9, 3) := by decide +kernel
theorem dX6_isOf_13 : decode cX6_isOf 13 = .ok (.aload_n 0, 1) := by decide +kernel
theorem dX6_isOf_14 : decode cX6_isOf 14 = .ok (.getfield 20, 3) := by decide +kernel
theorem dX6_isOf_17 : decode cX6_isOf 17 = .ok (.iload_n 1, 1) := by decide +kernel
theorem dX6_isOf_18 : decode cX6_isOf 18 = .ok (.iaload, 1) := by decide +kernel
theorem dX6_isOf_19 : decode cX6_isOf 19 = .ok (.iload_n 2, 1) := by decide +kernel
theorem dX6_isOf_20 : decode cX6_isOf 20 = .ok (.if_icmp .ne 7, 3) := by decide +kernel
theorem dX6_isOf_23 : decode cX6_isOf 23 = .ok (.iconst 1, 1) := by decide +kernel
theorem dX6_isOf_24 : decode cX6_isOf 24 = .ok (.goto 4, 3) := by decide +kernel
theorem dX6_isOf_27 : decode cX6_isOf 27 = .ok (.iconst 0, 1) := by decide +kernel
theorem dX6_isOf_28 : decode cX6_isOf 28 = .ok (.ireturn, 1) := by decide +kernel
theorem dX6_goal_0 : decode cX6_goal 0 = .ok (.iconst 0, 1) := by decide +kernel
theorem dX6_goal_1 : decode cX6_goal 1 = .ok (.istore_n 3, 1) := by decide +kernel
theorem dX6_goal_2 : decode cX6_goal 2 = .ok (.iconst 0, 1) := by decide +kernel
theorem dX6_goal_3 : decode cX6_goal 3 = .ok (.istore 4, 2) := by decide +kernel
theorem dX6_goal_5 : decode cX6_goal 5 = .ok (.iload 4, 2) := by decide +kernel
theorem dX6_goal_7 : decode cX6_goal 7 = .ok (.aload_n 0, 1) := by decide +kernel
theorem dX6_goal_8 : decode cX6_goal 8 = .ok (.getfield 93, 3) := by decide +kernel
theorem dX6_goal_11 : decode cX6_goal 11 = .ok (.if_icmp .ge 52, 3) := by decide +kernel
theorem dX6_goal_14 : decode cX6_goal 14 = .ok (.iload_n 3, 1) := by decide +kernel
theorem dX6_goal_15 : decode cX6_goal 15 = .ok (.aload_n 0, 1) := by decide +kernel
theorem dX6_goal_16 : decode cX6_goal 16 = .ok (.iload 4, 2) := by decide +kernel
theorem dX6_goal_18 : decode cX6_goal 18 = .ok (.iload_n 1, 1) := by decide +kernel
theorem dX6_goal_19 : decode cX6_goal 19 = .ok (.iload_n 2, 1) := by decide +kernel
theorem dX6_goal_20 : decode cX6_goal 20 = .ok (.invokevirtual 139, 3) := by decide +kernel
theorem dX6_goal_23 : decode cX6_goal 23 = .ok (.ifCond .eq 31, 3) := by decide +kernel
theorem dX6_goal_26 : decode cX6_goal 26 = .ok (.aload_n 0, 1) := by decide +kernel
theorem dX6_goal_27 : decode cX6_goal 27 = .ok (.getfield 23, 3) := by decide +kernel
theorem dX6_goal_30 : decode cX6_goal 30 = .ok (.iload 4, 2) := by decide +kernel
theorem dX6_goal_32 : decode cX6_goal 32 = .ok (.iaload, 1) := by decide +kernel
theorem dX6_goal_33 : decode cX6_goal 33 = .ok (.bipush 117, 2) := by decide +kernel
theorem dX6_goal_35 : decode cX6_goal 35 = .ok (.if_icmp .eq 19, 3) := by decide +kernel
theorem dX6_goal_38 : decode cX6_goal 38 = .ok (.aload_n 0, 1) := by decide +kernel
theorem dX6_goal_39 : decode cX6_goal 39 = .ok (.getfield 53, 3) := by decide +kernel
theorem dX6_goal_42 : decode cX6_goal 42 = .ok (.iload 4, 2) := by decide +kernel
theorem dX6_goal_44 : decode cX6_goal 44 = .ok (.baload, 1) := by decide +kernel
theorem dX6_goal_45 : decode cX6_goal 45 = .ok (.ifCond .ne 9, 3) := by decide +kernel
theorem dX6_goal_48 : decode cX6_goal 48 = .ok (.sipush 1000, 3) := by decide +kernel
theorem dX6_goal_51 : decode cX6_goal 51 = .ok (.goto 4, 3) := by decide +kernel
theorem dX6_goal_54 : decode cX6_goal 54 = .ok (.iconst 0, 1) := by decide +kernel
theorem dX6_goal_55 : decode cX6_goal 55 = .ok (.iadd, 1) := by decide +kernel
theorem dX6_goal_56 : decode cX6_goal 56 = .ok (.istore_n 3, 1) := by decide +kernel
theorem dX6_goal_57 : decode cX6_goal 57 = .ok (.iinc 4 1, 3) := by decide +kernel
theorem dX6_goal_60 : decode cX6_goal 60 = .ok (.goto (-55), 3) := by decide +kernel
theorem dX6_goal_63 : decode cX6_goal 63 = .ok (.iload_n 3, 1) := by decide +kernel
theorem dX6_goal_64 : decode cX6_goal 64 = .ok (.ireturn, 1) := by decide +kernel
theorem dX6_fits_0 : decode cX6_fits 0 = .ok (.iconst 0, 1) := by decide +kernel
theorem dX6_fits_1 : decode cX6_fits 1 = .ok (.istore_n 3, 1) := by decide +kernel
theorem dX6_fits_2 : decode cX6_fits 2 = .ok (.iconst 0, 1) := by decide +kernel
theorem dX6_fits_3 : decode cX6_fits 3 = .ok (.istore 4, 2) := by decide +kernel
theorem dX6_fits_5 : decode cX6_fits 5 = .ok (.iconst 0, 1) := by decide +kernel
theorem dX6_fits_6 : decode cX6_fits 6 = .ok (.istore 5, 2) := by decide +kernel
theorem dX6_fits_8 : decode cX6_fits 8 = .ok (.iload 5, 2) := by decide +kernel
theorem dX6_fits_10 : decode cX6_fits 10 = .ok (.aload_n 0, 1) := by decide +kernel
theorem dX6_fits_11 : decode cX6_fits 11 = .ok (.getfield 93, 3) := by decide +kernel
theorem dX6_fits_14 : decode cX6_fits 14 = .ok (.if_icmp .ge 48, 3) := by decide +kernel
theorem dX6_fits_17 : decode cX6_fits 17 = .ok (.aload_n 0, 1) := by decide +kernel
theorem dX6_fits_18 : decode cX6_fits 18 = .ok (.getfield 23, 3) := by decide +kernel
theorem dX6_fits_21 : decode cX6_fits 21 = .ok (.iload 5, 2) := by decide +kernel
theorem dX6_fits_23 : decode cX6_fits 23 = .ok (.iaload, 1) := by decide +kernel
theorem dX6_fits_24 : decode cX6_fits 24 = .ok (.bipush 97, 2) := by decide +kernel
theorem dX6_fits_26 : decode cX6_fits 26 = .ok (.if_icmp .ne 30, 3) := by decide +kernel
theorem dX6_fits_29 : decode cX6_fits 29 = .ok (.aload_n 0, 1) := by decide +kernel
theorem dX6_fits_30 : decode cX6_fits 30 = .ok (.iload 5, 2) := by decide +kernel
theorem dX6_fits_32 : decode cX6_fits 32 = .ok (.iload_n 1, 1) := by decide +kernel
theorem dX6_fits_33 : decode cX6_fits 33 = .ok (.iload_n 2, 1) := by decide +kernel
theorem dX6_fits_34 : decode cX6_fits 34 = .ok (.invokevirtual 139, 3) := by decide +kernel
theorem dX6_fits_37 : decode cX6_fits 37 = .ok (.ifCond .ne 6, 3) := by decide +kernel
theorem dX6_fits_40 : decode cX6_fits 40 = .ok (.goto 16, 3) := by decide +kernel
theorem dX6_fits_43 : decode cX6_fits 43 = .ok (.iload_n 3, 1) := by decide +kernel
theorem dX6_fits_44 : decode cX6_fits 44 = .ok (.aload_n 0, 1) := by decide +kernel
theorem dX6_fits_45 : decode cX6_fits 45 = .ok (.getfield 50, 3) := by decide +kernel
theorem dX6_fits_48 : decode cX6_fits 48 = .ok (.iload 5, 2) := by decide +kernel
theorem dX6_fits_50 : decode cX6_fits 50 = .ok (.iaload, 1) := by decide +kernel
theorem dX6_fits_51 : decode cX6_fits 51 = .ok (.iadd, 1) := by decide +kernel
theorem dX6_fits_52 : decode cX6_fits 52 = .ok (.istore_n 3, 1) := by decide +kernel
theorem dX6_fits_53 : decode cX6_fits 53 = .ok (.iinc 4 1, 3) := by decide +kernel
theorem dX6_fits_56 : decode cX6_fits 56 = .ok (.iinc 5 1, 3) := by decide +kernel
theorem dX6_fits_59 : decode cX6_fits 59 = .ok (.goto (-51), 3) := by decide +kernel
theorem dX6_fits_62 : decode cX6_fits 62 = .ok (.iload 4, 2) := by decide +kernel
theorem dX6_fits_64 : decode cX6_fits 64 = .ok (.ifCond .ne 4, 3) := by decide +kernel
theorem dX6_fits_67 : decode cX6_fits 67 = .ok (.return_, 1) := by decide +kernel
theorem dX6_fits_68 : decode cX6_fits 68 = .ok (.aload_n 0, 1) := by decide +kernel
theorem dX6_fits_69 : decode cX6_fits 69 = .ok (.iload_n 1, 1) := by decide +kernel
theorem dX6_fits_70 : decode cX6_fits 70 = .ok (.iload_n 2, 1) := by decide +kernel
theorem dX6_fits_71 : decode cX6_fits 71 = .ok (.invokevirtual 143, 3) := by decide +kernel
theorem dX6_fits_74 : decode cX6_fits 74 = .ok (.istore 5, 2) := by decide +kernel
theorem dX6_fits_76 : decode cX6_fits 76 = .ok (.iload 5, 2) := by decide +kernel
theorem dX6_fits_78 : decode cX6_fits 78 = .ok (.istore 6, 2) := by decide +kernel
theorem dX6_fits_80 : decode cX6_fits 80 = .ok (.iconst 0, 1) := by decide +kernel
theorem dX6_fits_81 : decode cX6_fits 81 = .ok (.istore 7, 2) := by decide +kernel
theorem dX6_fits_83 : decode cX6_fits 83 = .ok (.iload 7, 2) := by decide +kernel
theorem dX6_fits_85 : decode cX6_fits 85 = .ok (.aload_n 0, 1) := by decide +kernel
theorem dX6_fits_86 : decode cX6_fits 86 = .ok (.getfield 93, 3) := by decide +kernel
theorem dX6_fits_89 : decode cX6_fits 89 = .ok (.if_icmp .ge 78, 3) := by decide +kernel
theorem dX6_fits_92 : decode cX6_fits 92 = .ok (.aload_n 0, 1) := by decide +kernel
theorem dX6_fits_93 : decode cX6_fits 93 = .ok (.getfield 23, 3) := by decide +kernel
theorem dX6_fits_96 : decode cX6_fits 96 = .ok (.iload 7, 2) := by decide +kernel
theorem dX6_fits_98 : decode cX6_fits 98 = .ok (.iaload, 1) := by decide +kernel
theorem dX6_fits_99 : decode cX6_fits 99 = .ok (.bipush 97, 2) := by decide +kernel
theorem dX6_fits_101 : decode cX6_fits 101 = .ok (.if_icmp .ne 60, 3) := by decide +kernel
theorem dX6_fits_104 : decode cX6_fits 104 = .ok (.aload_n 0, 1) := by decide +kernel
theorem dX6_fits_105 : decode cX6_fits 105 = .ok (.iload 7, 2) := by decide +kernel
theorem dX6_fits_107 : decode cX6_fits 107 = .ok (.iload_n 1, 1) := by decide +kernel
theorem dX6_fits_108 : decode cX6_fits 108 = .ok (.iload_n 2, 1) := by decide +kernel
theorem dX6_fits_109 : decode cX6_fits 109 = .ok (.invokevirtual 139, 3) := by decide +kernel
theorem dX6_fits_112 : decode cX6_fits 112 = .ok (.ifCond .ne 6, 3) := by decide +kernel
theorem dX6_fits_115 : decode cX6_fits 115 = .ok (.goto 46, 3) := by decide +kernel
theorem dX6_fits_118 : decode cX6_fits 118 = .ok (.aload_n 0, 1) := by decide +kernel
theorem dX6_fits_119 : decode cX6_fits 119 = .ok (.getfield 50, 3) := by decide +kernel
theorem dX6_fits_122 : decode cX6_fits 122 = .ok (.iload 7, 2) := by decide +kernel
theorem dX6_fits_124 : decode cX6_fits 124 = .ok (.iload_n 3, 1) := by decide +kernel
theorem dX6_fits_125 : decode cX6_fits 125 = .ok (.ifCond .ne 11, 3) := by decide +kernel
theorem dX6_fits_128 : decode cX6_fits 128 = .ok (.iload 5, 2) := by decide +kernel
theorem dX6_fits_130 : decode cX6_fits 130 = .ok (.iload 4, 2) := by decide +kernel
theorem dX6_fits_132 : decode cX6_fits 132 = .ok (.idiv, 1) := by decide +kernel
theorem dX6_fits_133 : decode cX6_fits 133 = .ok (.goto 15, 3) := by decide +kernel
theorem dX6_fits_136 : decode cX6_fits 136 = .ok (.aload_n 0, 1) := by decide +kernel
theorem dX6_fits_137 : decode cX6_fits 137 = .ok (.getfield 50, 3) := by decide +kernel
theorem dX6_fits_140 : decode cX6_fits 140 = .ok (.iload 7, 2) := by decide +kernel
theorem dX6_fits_142 : decode cX6_fits 142 = .ok (.iaload, 1) := by decide +kernel
theorem dX6_fits_143 : decode cX6_fits 143 = .ok (.iload 5, 2) := by decide +kernel
theorem dX6_fits_145 : decode cX6_fits 145 = .ok (.imul, 1) := by decide +kernel
theorem dX6_fits_146 : decode cX6_fits 146 = .ok (.iload_n 3, 1) := by decide +kernel
theorem dX6_fits_147 : decode cX6_fits 147 = .ok (.idiv, 1) := by decide +kernel
theorem dX6_fits_148 : decode cX6_fits 148 = .ok (.iastore, 1) := by decide +kernel
theorem dX6_fits_149 : decode cX6_fits 149 = .ok (.iload 6, 2) := by decide +kernel
theorem dX6_fits_151 : decode cX6_fits 151 = .ok (.aload_n 0, 1) := by decide +kernel
theorem dX6_fits_152 : decode cX6_fits 152 = .ok (.getfield 50, 3) := by decide +kernel
theorem dX6_fits_155 : decode cX6_fits 155 = .ok (.iload 7, 2) := by decide +kernel
theorem dX6_fits_157 : decode cX6_fits 157 = .ok (.iaload, 1) := by decide +kernel
theorem dX6_fits_158 : decode cX6_fits 158 = .ok (.isub, 1) := by decide +kernel
theorem dX6_fits_159 : decode cX6_fits 159 = .ok (.istore 6, 2) := by decide +kernel
theorem dX6_fits_161 : decode cX6_fits 161 = .ok (.iinc 7 1, 3) := by decide +kernel
theorem dX6_fits_164 : decode cX6_fits 164 = .ok (.goto (-81), 3) := by decide +kernel
theorem dX6_fits_167 : decode cX6_fits 167 = .ok (.iconst 0, 1) := by decide +kernel
theorem dX6_fits_168 : decode cX6_fits 168 = .ok (.istore 7, 2) := by decide +kernel
theorem dX6_fits_170 : decode cX6_fits 170 = .ok (.iload 7, 2) := by decide +kernel
theorem dX6_fits_172 : decode cX6_fits 172 = .ok (.aload_n 0, 1) := by decide +kernel
theorem dX6_fits_173 : decode cX6_fits 173 = .ok (.getfield 93, 3) := by decide +kernel
theorem dX6_fits_176 : decode cX6_fits 176 = .ok (.if_icmp .ge 54, 3) := by decide +kernel
theorem dX6_fits_179 : decode cX6_fits 179 = .ok (.iload 6, 2) := by decide +kernel
theorem dX6_fits_181 : decode cX6_fits 181 = .ok (.ifCond .le 49, 3) := by decide +kernel
theorem dX6_fits_184 : decode cX6_fits 184 = .ok (.aload_n 0, 1) := by decide +kernel
theorem dX6_fits_185 : decode cX6_fits 185 = .ok (.getfield 23, 3) := by decide +kernel
theorem dX6_fits_188 : decode cX6_fits 188 = .ok (.iload 7, 2) := by decide +kernel
theorem dX6_fits_190 : decode cX6_fits 190 = .ok (.iaload, 1) := by decide +kernel
theorem dX6_fits_191 : decode cX6_fits 191 = .ok (.bipush 97, 2) := by decide +kernel
theorem dX6_fits_193 : decode cX6_fits 193 = .ok (.if_icmp .ne 31, 3) := by decide +kernel
theorem dX6_fits_196 : decode cX6_fits 196 = .ok (.aload_n 0, 1) := by decide +kernel
theorem dX6_fits_197 : decode cX6_fits 197 = .ok (.iload 7, 2) := by decide +kernel
theorem dX6_fits_199 : decode cX6_fits 199 = .ok (.iload_n 1, 1) := by decide +kernel
theorem dX6_fits_200 : decode cX6_fits 200 = .ok (.iload_n 2, 1) := by decide +kernel
theorem dX6_fits_201 : decode cX6_fits 201 = .ok (.invokevirtual 139, 3) := by decide +kernel
theorem dX6_fits_204 : decode cX6_fits 204 = .ok (.ifCond .ne 6, 3) := by decide +kernel
theorem dX6_fits_207 : decode cX6_fits 207 = .ok (.goto 17, 3) := by decide +kernel
theorem dX6_fits_210 : decode cX6_fits 210 = .ok (.aload_n 0, 1) := by decide +kernel
theorem dX6_fits_211 : decode cX6_fits 211 = .ok (.getfield 50, 3) := by decide +kernel
theorem dX6_fits_214 : decode cX6_fits 214 = .ok (.iload 7, 2) := by decide +kernel
theorem dX6_fits_216 : decode cX6_fits 216 = .ok (.dup2, 1) := by decide +kernel
theorem dX6_fits_217 : decode cX6_fits 217 = .ok (.iaload, 1) := by decide +kernel
theorem dX6_fits_218 : decode cX6_fits 218 = .ok (.iconst 1, 1) := by decide +kernel
theorem dX6_fits_219 : decode cX6_fits 219 = .ok (.iadd, 1) := by decide +kernel
theorem dX6_fits_220 : decode cX6_fits 220 = .ok (.iastore, 1) := by decide +kernel
theorem dX6_fits_221 : decode cX6_fits 221 = .ok (.iinc 6 (-1), 3) := by decide +kernel
theorem dX6_fits_224 : decode cX6_fits 224 = .ok (.iinc 7 1, 3) := by decide +kernel
theorem dX6_fits_227 : decode cX6_fits 227 = .ok (.goto (-57), 3) := by decide +kernel
theorem dX6_fits_230 : decode cX6_fits 230 = .ok (.return_, 1) := by decide +kernel
theorem dX6_weighs_0 : decode cX6_weighs 0 = .ok (.iconst 0, 1) := by decide +kernel
theorem dX6_weighs_1 : decode cX6_weighs 1 = .ok (.istore_n 1, 1) := by decide +kernel
theorem dX6_weighs_2 : decode cX6_weighs 2 = .ok (.iload_n 1, 1) := by decide +kernel
theorem dX6_weighs_3 : decode cX6_weighs 3 = .ok (.aload_n 0, 1) := by decide +kernel
theorem dX6_weighs_4 : decode cX6_weighs 4 = .ok (.getfield 93, 3) := by decide +kernel
theorem dX6_weighs_7 : decode cX6_weighs 7 = .ok (.if_icmp .ge 18, 3) := by decide +kernel
theorem dX6_weighs_10 : decode cX6_weighs 10 = .ok (.aload_n 0, 1) := by decide +kernel
theorem dX6_weighs_11 : decode cX6_weighs 11 = .ok (.getfield 50, 3) := by decide +kernel
theorem dX6_weighs_14 : decode cX6_weighs 14 = .ok (.iload_n 1, 1) := by decide +kernel
theorem dX6_weighs_15 : decode cX6_weighs 15 = .ok (.sipush 1000, 3) := by decide +kernel
theorem dX6_weighs_18 : decode cX6_weighs 18 = .ok (.iastore, 1) := by decide +kernel
theorem dX6_weighs_19 : decode cX6_weighs 19 = .ok (.iinc 1 1, 3) := by decide +kernel
theorem dX6_weighs_22 : decode cX6_weighs 22 = .ok (.goto (-20), 3) := by decide +kernel
theorem dX6_weighs_25 : decode cX6_weighs 25 = .ok (.iconst 0, 1) := by decide +kernel
theorem dX6_weighs_26 : decode cX6_weighs 26 = .ok (.istore_n 1, 1) := by decide +kernel
theorem dX6_weighs_27 : decode cX6_weighs 27 = .ok (.iload_n 1, 1) := by decide +kernel
theorem dX6_weighs_28 : decode cX6_weighs 28 = .ok (.bipush 7, 2) := by decide +kernel
theorem dX6_weighs_30 : decode cX6_weighs 30 = .ok (.if_icmp .ge 51, 3) := by decide +kernel
theorem dX6_weighs_33 : decode cX6_weighs 33 = .ok (.iconst 0, 1) := by decide +kernel
theorem dX6_weighs_34 : decode cX6_weighs 34 = .ok (.istore_n 2, 1) := by decide +kernel
theorem dX6_weighs_35 : decode cX6_weighs 35 = .ok (.iload_n 2, 1) := by decide +kernel
theorem dX6_weighs_36 : decode cX6_weighs 36 = .ok (.iload_n 1, 1) := by decide +kernel
theorem dX6_weighs_37 : decode cX6_weighs 37 = .ok (.iconst 2, 1) := by decide +kernel
theorem dX6_weighs_38 : decode cX6_weighs 38 = .ok (.irem, 1) := by decide +kernel
theorem dX6_weighs_39 : decode cX6_weighs 39 = .ok (.ifCond .ne 10, 3) := by decide +kernel
theorem dX6_weighs_42 : decode cX6_weighs 42 = .ok (.aload_n 0, 1) := by decide +kernel
theorem dX6_weighs_43 : decode cX6_weighs 43 = .ok (.getfield 108, 3) := by decide +kernel
theorem dX6_weighs_46 : decode cX6_weighs 46 = .ok (.goto 4, 3) := by decide +kernel
theorem dX6_weighs_49 : decode cX6_weighs 49 = .ok (.iconst 3, 1) := by decide +kernel
theorem dX6_weighs_50 : decode cX6_weighs 50 = .ok (.if_icmp .ge 25, 3) := by decide +kernel
theorem dX6_weighs_53 : decode cX6_weighs 53 = .ok (.aload_n 0, 1) := by decide +kernel
theorem dX6_weighs_54 : decode cX6_weighs 54 = .ok (.iload_n 2, 1) := by decide +kernel
theorem dX6_weighs_55 : decode cX6_weighs 55 = .ok (.iload_n 1, 1) := by decide +kernel
theorem dX6_weighs_56 : decode cX6_weighs 56 = .ok (.iconst 2, 1) := by decide +kernel
theorem dX6_weighs_57 : decode cX6_weighs 57 = .ok (.irem, 1) := by decide +kernel
theorem dX6_weighs_58 : decode cX6_weighs 58 = .ok (.ifCond .ne 7, 3) := by decide +kernel
theorem dX6_weighs_61 : decode cX6_weighs 61 = .ok (.iconst 1, 1) := by decide +kernel
theorem dX6_weighs_62 : decode cX6_weighs 62 = .ok (.goto 4, 3) := by decide +kernel
theorem dX6_weighs_65 : decode cX6_weighs 65 = .ok (.iconst 0, 1) := by decide +kernel
theorem dX6_weighs_66 : decode cX6_weighs 66 = .ok (.invokevirtual 146, 3) := by decide +kernel
theorem dX6_weighs_69 : decode cX6_weighs 69 = .ok (.iinc 2 1, 3) := by decide +kernel
theorem dX6_weighs_72 : decode cX6_weighs 72 = .ok (.goto (-37), 3) := by decide +kernel
theorem dX6_weighs_75 : decode cX6_weighs 75 = .ok (.iinc 1 1, 3) := by decide +kernel
theorem dX6_weighs_78 : decode cX6_weighs 78 = .ok (.goto (-51), 3) := by decide +kernel
theorem dX6_weighs_81 : decode cX6_weighs 81 = .ok (.return_, 1) := by decide +kernel
theorem dX6_target_0 : decode cX6_target 0 = .ok (.iload_n 1, 1) := by decide +kernel
theorem dX6_target_1 : decode cX6_target 1 = .ok (.iconst 0, 1) := by decide +kernel
theorem dX6_target_2 : decode cX6_target 2 = .ok (.aload_n 0, 1) := by decide +kernel
theorem dX6_target_3 : decode cX6_target 3 = .ok (.getfield 108, 3) := by decide +kernel
theorem dX6_target_6 : decode cX6_target 6 = .ok (.iconst 1, 1) := by decide +kernel
theorem dX6_target_7 : decode cX6_target 7 = .ok (.isub, 1) := by decide +kernel
theorem dX6_target_8 : decode cX6_target 8 = .ok (.invokestatic 96, 3) := by decide +kernel
theorem dX6_target_11 : decode cX6_target 11 = .ok (.ifCond .ne 9, 3) := by decide +kernel
theorem dX6_target_14 : decode cX6_target 14 = .ok (.aload_n 0, 1) := by decide +kernel
theorem dX6_target_15 : decode cX6_target 15 = .ok (.iconst 1, 1) := by decide +kernel
theorem dX6_target_16 : decode cX6_target 16 = .ok (.invokevirtual 104, 3) := by decide +kernel
theorem dX6_target_19 : decode cX6_target 19 = .ok (.ireturn, 1) := by decide +kernel
theorem dX6_target_20 : decode cX6_target 20 = .ok (.aload_n 0, 1) := by decide +kernel
theorem dX6_target_21 : decode cX6_target 21 = .ok (.iconst 0, 1) := by decide +kernel
theorem dX6_target_22 : decode cX6_target 22 = .ok (.putfield 90, 3) := by decide +kernel
theorem dX6_target_25 : decode cX6_target 25 = .ok (.aload_n 0, 1) := by decide +kernel
theorem dX6_target_26 : decode cX6_target 26 = .ok (.iload_n 1, 1) := by decide +kernel
theorem dX6_target_27 : decode cX6_target 27 = .ok (.iconst 1, 1) := by decide +kernel
theorem dX6_target_28 : decode cX6_target 28 = .ok (.invokevirtual 143, 3) := by decide +kernel
theorem dX6_target_31 : decode cX6_target 31 = .ok (.ireturn, 1) := by decide +kernel
theorem dX6_weight_0 : decode cX6_weight 0 = .ok (.aload_n 0, 1) := by decide +kernel
theorem dX6_weight_1 : decode cX6_weight 1 = .ok (.iload_n 1, 1) := by decide +kernel
theorem dX6_weight_2 : decode cX6_weight 2 = .ok (.invokevirtual 133, 3) := by decide +kernel
theorem dX6_weight_5 : decode cX6_weight 5 = .ok (.ifCond .ne 5, 3) := by decide +kernel
theorem dX6_weight_8 : decode cX6_weight 8 = .ok (.iconst 0, 1) := by decide +kernel
theorem dX6_weight_9 : decode cX6_weight 9 = .ok (.ireturn, 1) := by decide +kernel
theorem dX6_weight_10 : decode cX6_weight 10 = .ok (.aload_n 0, 1) := by decide +kernel
theorem dX6_weight_11 : decode cX6_weight 11 = .ok (.getfield 23, 3) := by decide +kernel
theorem dX6_weight_14 : decode cX6_weight 14 = .ok (.iload_n 1, 1) := by decide +kernel
theorem dX6_weight_15 : decode cX6_weight 15 = .ok (.iaload, 1) := by decide +kernel
theorem dX6_weight_16 : decode cX6_weight 16 = .ok (.bipush 97, 2) := by decide +kernel
theorem dX6_weight_18 : decode cX6_weight 18 = .ok (.if_icmp .eq 9, 3) := by decide +kernel
theorem dX6_weight_21 : decode cX6_weight 21 = .ok (.aload_n 0, 1) := by decide +kernel
theorem dX6_weight_22 : decode cX6_weight 22 = .ok (.iconst 2, 1) := by decide +kernel
theorem dX6_weight_23 : decode cX6_weight 23 = .ok (.invokevirtual 104, 3) := by decide +kernel
theorem dX6_weight_26 : decode cX6_weight 26 = .ok (.ireturn, 1) := by decide +kernel
theorem dX6_weight_27 : decode cX6_weight 27 = .ok (.aload_n 0, 1) := by decide +kernel
theorem dX6_weight_28 : decode cX6_weight 28 = .ok (.invokevirtual 150, 3) := by decide +kernel
theorem dX6_weight_31 : decode cX6_weight 31 = .ok (.aload_n 0, 1) := by decide +kernel
theorem dX6_weight_32 : decode cX6_weight 32 = .ok (.getfield 50, 3) := by decide +kernel
theorem dX6_weight_35 : decode cX6_weight 35 = .ok (.iload_n 1, 1) := by decide +kernel
theorem dX6_weight_36 : decode cX6_weight 36 = .ok (.iaload, 1) := by decide +kernel
theorem dX6_weight_37 : decode cX6_weight 37 = .ok (.ireturn, 1) := by decide +kernel
theorem dX6_weightAnew_0 : decode cX6_weightAnew 0 = .ok (.aload_n 0, 1) := by decide +kernel
theorem dX6_weightAnew_1 : decode cX6_weightAnew 1 = .ok (.iload_n 1, 1) := by decide +kernel
theorem dX6_weightAnew_2 : decode cX6_weightAnew 2 = .ok (.invokevirtual 153, 3) := by decide +kernel
theorem dX6_weightAnew_5 : decode cX6_weightAnew 5 = .ok (.ireturn, 1) := by decide +kernel
theorem dX6_weightOfLanguage_0 : decode cX6_weightOfLanguage 0 = .ok (.iload_n 1, 1) := by decide +kernel
theorem dX6_weightOfLanguage_1 : decode cX6_weightOfLanguage 1 = .ok (.iconst 0, 1) := by decide +kernel
theorem dX6_weightOfLanguage_2 : decode cX6_weightOfLanguage 2 = .ok (.iconst 2, 1) := by decide +kernel
theorem dX6_weightOfLanguage_3 : decode cX6_weightOfLanguage 3 = .ok (.invokestatic 96, 3) := by decide +kernel
theorem dX6_weightOfLanguage_6 : decode cX6_weightOfLanguage 6 = .ok (.ifCond .ne 9, 3) := by decide +kernel
theorem dX6_weightOfLanguage_9 : decode cX6_weightOfLanguage 9 = .ok (.aload_n 0, 1) := by decide +kernel
theorem dX6_weightOfLanguage_10 : decode cX6_weightOfLanguage 10 = .ok (.iconst 1, 1) := by decide +kernel
theorem dX6_weightOfLanguage_11 : decode cX6_weightOfLanguage 11 = .ok (.invokevirtual 104, 3) := by decide +kernel
theorem dX6_weightOfLanguage_14 : decode cX6_weightOfLanguage 14 = .ok (.ireturn, 1) := by decide +kernel
theorem dX6_weightOfLanguage_15 : decode cX6_weightOfLanguage 15 = .ok (.aload_n 0, 1) := by decide +kernel
theorem dX6_weightOfLanguage_16 : decode cX6_weightOfLanguage 16 = .ok (.iconst 0, 1) := by decide +kernel
theorem dX6_weightOfLanguage_17 : decode cX6_weightOfLanguage 17 = .ok (.putfield 90, 3) := by decide +kernel
theorem dX6_weightOfLanguage_20 : decode cX6_weightOfLanguage 20 = .ok (.aload_n 0, 1) := by decide +kernel
theorem dX6_weightOfLanguage_21 : decode cX6_weightOfLanguage 21 = .ok (.invokevirtual 150, 3) := by decide +kernel
theorem dX6_weightOfLanguage_24 : decode cX6_weightOfLanguage 24 = .ok (.iconst 0, 1) := by decide +kernel
theorem dX6_weightOfLanguage_25 : decode cX6_weightOfLanguage 25 = .ok (.istore_n 2, 1) := by decide +kernel
theorem dX6_weightOfLanguage_26 : decode cX6_weightOfLanguage 26 = .ok (.iconst 0, 1) := by decide +kernel
theorem dX6_weightOfLanguage_27 : decode cX6_weightOfLanguage 27 = .ok (.istore_n 3, 1) := by decide +kernel
theorem dX6_weightOfLanguage_28 : decode cX6_weightOfLanguage 28 = .ok (.iload_n 3, 1) := by decide +kernel
theorem dX6_weightOfLanguage_29 : decode cX6_weightOfLanguage 29 = .ok (.aload_n 0, 1) := by decide +kernel
theorem dX6_weightOfLanguage_30 : decode cX6_weightOfLanguage 30 = .ok (.getfield 93, 3) := by decide +kernel
theorem dX6_weightOfLanguage_33 : decode cX6_weightOfLanguage 33 = .ok (.if_icmp .ge 43, 3) := by decide +kernel
theorem dX6_weightOfLanguage_36 : decode cX6_weightOfLanguage 36 = .ok (.iload_n 2, 1) := by decide +kernel
theorem dX6_weightOfLanguage_37 : decode cX6_weightOfLanguage 37 = .ok (.aload_n 0, 1) := by decide +kernel
theorem dX6_weightOfLanguage_38 : decode cX6_weightOfLanguage 38 = .ok (.getfield 23, 3) := by decide +kernel
theorem dX6_weightOfLanguage_41 : decode cX6_weightOfLanguage 41 = .ok (.iload_n 3, 1) := by decide +kernel
theorem dX6_weightOfLanguage_42 : decode cX6_weightOfLanguage 42 = .ok (.iaload, 1) := by decide +kernel
theorem dX6_weightOfLanguage_43 : decode cX6_weightOfLanguage 43 = .ok (.bipush 97, 2) := by decide +kernel
theorem dX6_weightOfLanguage_45 : decode cX6_weightOfLanguage 45 = .ok (.if_icmp .ne 22, 3) := by decide +kernel
theorem dX6_weightOfLanguage_48 : decode cX6_weightOfLanguage 48 = .ok (.aload_n 0, 1) := by decide +kernel
theorem dX6_weightOfLanguage_49 : decode cX6_weightOfLanguage 49 = .ok (.getfield 20, 3) := by decide +kernel
theorem dX6_weightOfLanguage_52 : decode cX6_weightOfLanguage 52 = .ok (.iload_n 3, 1) := by decide +kernel
theorem dX6_weightOfLanguage_53 : decode cX6_weightOfLanguage 53 = .ok (.iaload, 1) := by decide +kernel
theorem dX6_weightOfLanguage_54 : decode cX6_weightOfLanguage 54 = .ok (.iload_n 1, 1) := by decide +kernel
theorem dX6_weightOfLanguage_55 : decode cX6_weightOfLanguage 55 = .ok (.if_icmp .ne 12, 3) := by decide +kernel
theorem dX6_weightOfLanguage_58 : decode cX6_weightOfLanguage 58 = .ok (.aload_n 0, 1) := by decide +kernel
theorem dX6_weightOfLanguage_59 : decode cX6_weightOfLanguage 59 = .ok (.getfield 50, 3) := by decide +kernel
theorem dX6_weightOfLanguage_62 : decode cX6_weightOfLanguage 62 = .ok (.iload_n 3, 1) := by decide +kernel
theorem dX6_weightOfLanguage_63 : decode cX6_weightOfLanguage 63 = .ok (.iaload, 1) := by decide +kernel
theorem dX6_weightOfLanguage_64 : decode cX6_weightOfLanguage 64 = .ok (.goto 4, 3) := by decide +kernel
theorem dX6_weightOfLanguage_67 : decode cX6_weightOfLanguage 67 = .ok (.iconst 0, 1) := by decide +kernel
theorem dX6_weightOfLanguage_68 : decode cX6_weightOfLanguage 68 = .ok (.iadd, 1) := by decide +kernel
theorem dX6_weightOfLanguage_69 : decode cX6_weightOfLanguage 69 = .ok (.istore_n 2, 1) := by decide +kernel
theorem dX6_weightOfLanguage_70 : decode cX6_weightOfLanguage 70 = .ok (.iinc 3 1, 3) := by decide +kernel
theorem dX6_weightOfLanguage_73 : decode cX6_weightOfLanguage 73 = .ok (.goto (-45), 3) := by decide +kernel
theorem dX6_weightOfLanguage_76 : decode cX6_weightOfLanguage 76 = .ok (.iload_n 2, 1) := by decide +kernel
theorem dX6_weightOfLanguage_77 : decode cX6_weightOfLanguage 77 = .ok (.ireturn, 1) := by decide +kernel
theorem dX6_weightedSum_0 : decode cX6_weightedSum 0 = .ok (.aload_n 0, 1) := by decide +kernel
theorem dX6_weightedSum_1 : decode cX6_weightedSum 1 = .ok (.iconst 0, 1) := by decide +kernel
theorem dX6_weightedSum_2 : decode cX6_weightedSum 2 = .ok (.putfield 90, 3) := by decide +kernel
theorem dX6_weightedSum_5 : decode cX6_weightedSum 5 = .ok (.aload_n 0, 1) := by decide +kernel
theorem dX6_weightedSum_6 : decode cX6_weightedSum 6 = .ok (.invokevirtual 150, 3) := by decide +kernel
theorem dX6_weightedSum_9 : decode cX6_weightedSum 9 = .ok (.lconst 0, 1) := by decide +kernel
theorem dX6_weightedSum_10 : decode cX6_weightedSum 10 = .ok (.lstore_n 1, 1) := by decide +kernel
theorem dX6_weightedSum_11 : decode cX6_weightedSum 11 = .ok (.iconst 0, 1) := by decide +kernel
theorem dX6_weightedSum_12 : decode cX6_weightedSum 12 = .ok (.istore_n 3, 1) := by decide +kernel
theorem dX6_weightedSum_13 : decode cX6_weightedSum 13 = .ok (.iload_n 3, 1) := by decide +kernel
theorem dX6_weightedSum_14 : decode cX6_weightedSum 14 = .ok (.aload_n 0, 1) := by decide +kernel
theorem dX6_weightedSum_15 : decode cX6_weightedSum 15 = .ok (.getfield 93, 3) := by decide +kernel
theorem dX6_weightedSum_18 : decode cX6_weightedSum 18 = .ok (.if_icmp .ge 41, 3) := by decide +kernel
theorem dX6_weightedSum_21 : decode cX6_weightedSum 21 = .ok (.lload_n 1, 1) := by decide +kernel
theorem dX6_weightedSum_22 : decode cX6_weightedSum 22 = .ok (.aload_n 0, 1) := by decide +kernel
theorem dX6_weightedSum_23 : decode cX6_weightedSum 23 = .ok (.getfield 23, 3) := by decide +kernel
theorem dX6_weightedSum_26 : decode cX6_weightedSum 26 = .ok (.iload_n 3, 1) := by decide +kernel
theorem dX6_weightedSum_27 : decode cX6_weightedSum 27 = .ok (.iaload, 1) := by decide +kernel
theorem dX6_weightedSum_28 : decode cX6_weightedSum 28 = .ok (.bipush 97, 2) := by decide +kernel
theorem dX6_weightedSum_30 : decode cX6_weightedSum 30 = .ok (.if_icmp .ne 20, 3) := by decide +kernel
theorem dX6_weightedSum_33 : decode cX6_weightedSum 33 = .ok (.aload_n 0, 1) := by decide +kernel
theorem dX6_weightedSum_34 : decode cX6_weightedSum 34 = .ok (.getfield 41, 3) := by decide +kernel
theorem dX6_weightedSum_37 : decode cX6_weightedSum 37 = .ok (.iload_n 3, 1) := by decide +kernel
theorem dX6_weightedSum_38 : decode cX6_weightedSum 38 = .ok (.iaload, 1) := by decide +kernel
theorem dX6_weightedSum_39 : decode cX6_weightedSum 39 = .ok (.aload_n 0, 1) := by decide +kernel
theorem dX6_weightedSum_40 : decode cX6_weightedSum 40 = .ok (.getfield 50, 3) := by decide +kernel
theorem dX6_weightedSum_43 : decode cX6_weightedSum 43 = .ok (.iload_n 3, 1) := by decide +kernel
theorem dX6_weightedSum_44 : decode cX6_weightedSum 44 = .ok (.iaload, 1) := by decide +kernel
theorem dX6_weightedSum_45 : decode cX6_weightedSum 45 = .ok (.imul, 1) := by decide +kernel
theorem dX6_weightedSum_46 : decode cX6_weightedSum 46 = .ok (.i2l, 1) := by decide +kernel
theorem dX6_weightedSum_47 : decode cX6_weightedSum 47 = .ok (.goto 4, 3) := by decide +kernel
theorem dX6_weightedSum_50 : decode cX6_weightedSum 50 = .ok (.lconst 0, 1) := by decide +kernel
theorem dX6_weightedSum_51 : decode cX6_weightedSum 51 = .ok (.ladd, 1) := by decide +kernel
theorem dX6_weightedSum_52 : decode cX6_weightedSum 52 = .ok (.lstore_n 1, 1) := by decide +kernel
theorem dX6_weightedSum_53 : decode cX6_weightedSum 53 = .ok (.iinc 3 1, 3) := by decide +kernel
theorem dX6_weightedSum_56 : decode cX6_weightedSum 56 = .ok (.goto (-43), 3) := by decide +kernel
theorem dX6_weightedSum_59 : decode cX6_weightedSum 59 = .ok (.lload_n 1, 1) := by decide +kernel
theorem dX6_weightedSum_60 : decode cX6_weightedSum 60 = .ok (.lreturn, 1) := by decide +kernel
theorem dX6_weightedMean_0 : decode cX6_weightedMean 0 = .ok (.aload_n 0, 1) := by decide +kernel
theorem dX6_weightedMean_1 : decode cX6_weightedMean 1 = .ok (.iconst 0, 1) := by decide +kernel
theorem dX6_weightedMean_2 : decode cX6_weightedMean 2 = .ok (.invokevirtual 155, 3) := by decide +kernel
theorem dX6_weightedMean_5 : decode cX6_weightedMean 5 = .ok (.aload_n 0, 1) := by decide +kernel
theorem dX6_weightedMean_6 : decode cX6_weightedMean 6 = .ok (.iconst 1, 1) := by decide +kernel
theorem dX6_weightedMean_7 : decode cX6_weightedMean 7 = .ok (.invokevirtual 155, 3) := by decide +kernel
theorem dX6_weightedMean_10 : decode cX6_weightedMean 10 = .ok (.iadd, 1) := by decide +kernel
theorem dX6_weightedMean_11 : decode cX6_weightedMean 11 = .ok (.aload_n 0, 1) := by decide +kernel
theorem dX6_weightedMean_12 : decode cX6_weightedMean 12 = .ok (.iconst 2, 1) := by decide +kernel
theorem dX6_weightedMean_13 : decode cX6_weightedMean 13 = .ok (.invokevirtual 155, 3) := by decide +kernel
theorem dX6_weightedMean_16 : decode cX6_weightedMean 16 = .ok (.iadd, 1) := by decide +kernel
theorem dX6_weightedMean_17 : decode cX6_weightedMean 17 = .ok (.istore_n 1, 1) := by decide +kernel
theorem dX6_weightedMean_18 : decode cX6_weightedMean 18 = .ok (.aload_n 0, 1) := by decide +kernel
theorem dX6_weightedMean_19 : decode cX6_weightedMean 19 = .ok (.invokevirtual 158, 3) := by decide +kernel
theorem dX6_weightedMean_22 : decode cX6_weightedMean 22 = .ok (.lstore_n 2, 1) := by decide +kernel
theorem dX6_weightedMean_23 : decode cX6_weightedMean 23 = .ok (.aload_n 0, 1) := by decide +kernel
theorem dX6_weightedMean_24 : decode cX6_weightedMean 24 = .ok (.iload_n 1, 1) := by decide +kernel
theorem dX6_weightedMean_25 : decode cX6_weightedMean 25 = .ok (.ifCond .ne 7, 3) := by decide +kernel
theorem dX6_weightedMean_28 : decode cX6_weightedMean 28 = .ok (.iconst 1, 1) := by decide +kernel
theorem dX6_weightedMean_29 : decode cX6_weightedMean 29 = .ok (.goto 4, 3) := by decide +kernel
theorem dX6_weightedMean_32 : decode cX6_weightedMean 32 = .ok (.iconst 0, 1) := by decide +kernel
theorem dX6_weightedMean_33 : decode cX6_weightedMean 33 = .ok (.putfield 90, 3) := by decide +kernel
theorem dX6_weightedMean_36 : decode cX6_weightedMean 36 = .ok (.iload_n 1, 1) := by decide +kernel
theorem dX6_weightedMean_37 : decode cX6_weightedMean 37 = .ok (.ifCond .ne 7, 3) := by decide +kernel
theorem dX6_weightedMean_40 : decode cX6_weightedMean 40 = .ok (.dconst 0, 1) := by decide +kernel
theorem dX6_weightedMean_41 : decode cX6_weightedMean 41 = .ok (.goto 8, 3) := by decide +kernel
theorem dX6_weightedMean_44 : decode cX6_weightedMean 44 = .ok (.lload_n 2, 1) := by decide +kernel
theorem dX6_weightedMean_45 : decode cX6_weightedMean 45 = .ok (.l2d, 1) := by decide +kernel
theorem dX6_weightedMean_46 : decode cX6_weightedMean 46 = .ok (.iload_n 1, 1) := by decide +kernel
theorem dX6_weightedMean_47 : decode cX6_weightedMean 47 = .ok (.i2d, 1) := by decide +kernel
theorem dX6_weightedMean_48 : decode cX6_weightedMean 48 = .ok (.ddiv, 1) := by decide +kernel
theorem dX6_weightedMean_49 : decode cX6_weightedMean 49 = .ok (.dreturn, 1) := by decide +kernel
theorem dX6_rate_0 : decode cX6_rate 0 = .ok (.iconst 0, 1) := by decide +kernel
theorem dX6_rate_1 : decode cX6_rate 1 = .ok (.istore_n 1, 1) := by decide +kernel
theorem dX6_rate_2 : decode cX6_rate 2 = .ok (.iconst 0, 1) := by decide +kernel
theorem dX6_rate_3 : decode cX6_rate 3 = .ok (.istore_n 2, 1) := by decide +kernel
theorem dX6_rate_4 : decode cX6_rate 4 = .ok (.iconst 0, 1) := by decide +kernel
theorem dX6_rate_5 : decode cX6_rate 5 = .ok (.istore_n 3, 1) := by decide +kernel
theorem dX6_rate_6 : decode cX6_rate 6 = .ok (.iload_n 3, 1) := by decide +kernel
theorem dX6_rate_7 : decode cX6_rate 7 = .ok (.aload_n 0, 1) := by decide +kernel
theorem dX6_rate_8 : decode cX6_rate 8 = .ok (.getfield 93, 3) := by decide +kernel
theorem dX6_rate_11 : decode cX6_rate 11 = .ok (.if_icmp .ge 58, 3) := by decide +kernel
theorem dX6_rate_14 : decode cX6_rate 14 = .ok (.iload_n 1, 1) := by decide +kernel
theorem dX6_rate_15 : decode cX6_rate 15 = .ok (.aload_n 0, 1) := by decide +kernel
theorem dX6_rate_16 : decode cX6_rate 16 = .ok (.getfield 23, 3) := by decide +kernel
theorem dX6_rate_19 : decode cX6_rate 19 = .ok (.iload_n 3, 1) := by decide +kernel
theorem dX6_rate_20 : decode cX6_rate 20 = .ok (.iaload, 1) := by decide +kernel
theorem dX6_rate_21 : decode cX6_rate 21 = .ok (.bipush 97, 2) := by decide +kernel
theorem dX6_rate_23 : decode cX6_rate 23 = .ok (.if_icmp .ne 7, 3) := by decide +kernel
theorem dX6_rate_26 : decode cX6_rate 26 = .ok (.iconst 1, 1) := by decide +kernel
theorem dX6_rate_27 : decode cX6_rate 27 = .ok (.goto 4, 3) := by decide +kernel
theorem dX6_rate_30 : decode cX6_rate 30 = .ok (.iconst 0, 1) := by decide +kernel
theorem dX6_rate_31 : decode cX6_rate 31 = .ok (.iadd, 1) := by decide +kernel
theorem dX6_rate_32 : decode cX6_rate 32 = .ok (.istore_n 1, 1) := by decide +kernel
theorem dX6_rate_33 : decode cX6_rate 33 = .ok (.iload_n 2, 1) := by decide +kernel
theorem dX6_rate_34 : decode cX6_rate 34 = .ok (.aload_n 0, 1) := by decide +kernel
theorem dX6_rate_35 : decode cX6_rate 35 = .ok (.getfield 23, 3) := by decide +kernel
theorem dX6_rate_38 : decode cX6_rate 38 = .ok (.iload_n 3, 1) := by decide +kernel
theorem dX6_rate_39 : decode cX6_rate 39 = .ok (.iaload, 1) := by decide +kernel
theorem dX6_rate_40 : decode cX6_rate 40 = .ok (.bipush 117, 2) := by decide +kernel
theorem dX6_rate_42 : decode cX6_rate 42 = .ok (.if_icmp .eq 18, 3) := by decide +kernel
theorem dX6_rate_45 : decode cX6_rate 45 = .ok (.aload_n 0, 1) := by decide +kernel
theorem dX6_rate_46 : decode cX6_rate 46 = .ok (.getfield 23, 3) := by decide +kernel
theorem dX6_rate_49 : decode cX6_rate 49 = .ok (.iload_n 3, 1) := by decide +kernel
theorem dX6_rate_50 : decode cX6_rate 50 = .ok (.iaload, 1) := by decide +kernel
theorem dX6_rate_51 : decode cX6_rate 51 = .ok (.bipush 101, 2) := by decide +kernel
theorem dX6_rate_53 : decode cX6_rate 53 = .ok (.if_icmp .eq 7, 3) := by decide +kernel
theorem dX6_rate_56 : decode cX6_rate 56 = .ok (.iconst 1, 1) := by decide +kernel
theorem dX6_rate_57 : decode cX6_rate 57 = .ok (.goto 4, 3) := by decide +kernel
theorem dX6_rate_60 : decode cX6_rate 60 = .ok (.iconst 0, 1) := by decide +kernel
theorem dX6_rate_61 : decode cX6_rate 61 = .ok (.iadd, 1) := by decide +kernel
theorem dX6_rate_62 : decode cX6_rate 62 = .ok (.istore_n 2, 1) := by decide +kernel
theorem dX6_rate_63 : decode cX6_rate 63 = .ok (.iinc 3 1, 3) := by decide +kernel
theorem dX6_rate_66 : decode cX6_rate 66 = .ok (.goto (-60), 3) := by decide +kernel
theorem dX6_rate_69 : decode cX6_rate 69 = .ok (.aload_n 0, 1) := by decide +kernel
theorem dX6_rate_70 : decode cX6_rate 70 = .ok (.iload_n 2, 1) := by decide +kernel
theorem dX6_rate_71 : decode cX6_rate 71 = .ok (.ifCond .ne 7, 3) := by decide +kernel
theorem dX6_rate_74 : decode cX6_rate 74 = .ok (.iconst 1, 1) := by decide +kernel
theorem dX6_rate_75 : decode cX6_rate 75 = .ok (.goto 4, 3) := by decide +kernel
theorem dX6_rate_78 : decode cX6_rate 78 = .ok (.iconst 0, 1) := by decide +kernel
theorem dX6_rate_79 : decode cX6_rate 79 = .ok (.putfield 90, 3) := by decide +kernel
theorem dX6_rate_82 : decode cX6_rate 82 = .ok (.iload_n 2, 1) := by decide +kernel
theorem dX6_rate_83 : decode cX6_rate 83 = .ok (.ifCond .ne 7, 3) := by decide +kernel
theorem dX6_rate_86 : decode cX6_rate 86 = .ok (.fconst 0, 1) := by decide +kernel
theorem dX6_rate_87 : decode cX6_rate 87 = .ok (.goto 8, 3) := by decide +kernel
theorem dX6_rate_90 : decode cX6_rate 90 = .ok (.iload_n 1, 1) := by decide +kernel
theorem dX6_rate_91 : decode cX6_rate 91 = .ok (.i2f, 1) := by decide +kernel
theorem dX6_rate_92 : decode cX6_rate 92 = .ok (.iload_n 2, 1) := by decide +kernel
theorem dX6_rate_93 : decode cX6_rate 93 = .ok (.i2f, 1) := by decide +kernel
theorem dX6_rate_94 : decode cX6_rate 94 = .ok (.fdiv, 1) := by decide +kernel
theorem dX6_rate_95 : decode cX6_rate 95 = .ok (.freturn, 1) := by decide +kernel
theorem dX6_isSound_0 : decode cX6_isSound 0 = .ok (.aload_n 0, 1) := by decide +kernel
theorem dX6_isSound_1 : decode cX6_isSound 1 = .ok (.iconst 0, 1) := by decide +kernel
theorem dX6_isSound_2 : decode cX6_isSound 2 = .ok (.putfield 90, 3) := by decide +kernel
theorem dX6_isSound_5 : decode cX6_isSound 5 = .ok (.iconst 1, 1) := by decide +kernel
theorem dX6_isSound_6 : decode cX6_isSound 6 = .ok (.ireturn, 1) := by decide +kernel
