theorem dX6_apply_25 : decode cX6_apply 25 = .ok (.iload_n 1, 1) := by decide +kernel
theorem dX6_apply_26 : decode cX6_apply 26 = .ok (.invokevirtual 118, 3) := by decide +kernel
theorem dX6_apply_29 : decode cX6_apply 29 = .ok (.ifCond .ne 11, 3) := by decide +kernel
theorem dX6_apply_32 : decode cX6_apply 32 = .ok (.aload_n 0, 1) := by decide +kernel
theorem dX6_apply_33 : decode cX6_apply 33 = .ok (.iload_n 2, 1) := by decide +kernel
theorem dX6_apply_34 : decode cX6_apply 34 = .ok (.invokevirtual 118, 3) := by decide +kernel
theorem dX6_apply_37 : decode cX6_apply 37 = .ok (.ifCond .eq 6, 3) := by decide +kernel
theorem dX6_apply_40 : decode cX6_apply 40 = .ok (.bipush (-11), 2) := by decide +kernel
theorem dX6_apply_42 : decode cX6_apply 42 = .ok (.ireturn, 1) := by decide +kernel
theorem dX6_apply_43 : decode cX6_apply 43 = .ok (.aload_n 0, 1) := by decide +kernel
theorem dX6_apply_44 : decode cX6_apply 44 = .ok (.iload_n 1, 1) := by decide +kernel
theorem dX6_apply_45 : decode cX6_apply 45 = .ok (.aload_n 0, 1) := by decide +kernel
theorem dX6_apply_46 : decode cX6_apply 46 = .ok (.getfield 26, 3) := by decide +kernel
theorem dX6_apply_49 : decode cX6_apply 49 = .ok (.invokevirtual 105, 3) := by decide +kernel
theorem dX6_apply_52 : decode cX6_apply 52 = .ok (.aload_n 0, 1) := by decide +kernel
theorem dX6_apply_53 : decode cX6_apply 53 = .ok (.iload_n 2, 1) := by decide +kernel
theorem dX6_apply_54 : decode cX6_apply 54 = .ok (.aload_n 0, 1) := by decide +kernel
theorem dX6_apply_55 : decode cX6_apply 55 = .ok (.getfield 29, 3) := by decide +kernel
theorem dX6_apply_58 : decode cX6_apply 58 = .ok (.invokevirtual 105, 3) := by decide +kernel
theorem dX6_apply_61 : decode cX6_apply 61 = .ok (.aload_n 0, 1) := by decide +kernel
theorem dX6_apply_62 : decode cX6_apply 62 = .ok (.getfield 26, 3) := by decide +kernel
theorem dX6_apply_65 : decode cX6_apply 65 = .ok (.aload_n 0, 1) := by decide +kernel
theorem dX6_apply_66 : decode cX6_apply 66 = .ok (.getfield 29, 3) := by decide +kernel
theorem dX6_apply_69 : decode cX6_apply 69 = .ok (.aload_n 0, 1) := by decide +kernel
theorem dX6_apply_70 : decode cX6_apply 70 = .ok (.getfield 32, 3) := by decide +kernel
theorem dX6_apply_73 : decode cX6_apply 73 = .ok (.invokestatic 134, 3) := by decide +kernel
theorem dX6_apply_76 : decode cX6_apply 76 = .ok (.aload_n 0, 1) := by decide +kernel
theorem dX6_apply_77 : decode cX6_apply 77 = .ok (.aload_n 0, 1) := by decide +kernel
theorem dX6_apply_78 : decode cX6_apply 78 = .ok (.getfield 32, 3) := by decide +kernel
theorem dX6_apply_81 : decode cX6_apply 81 = .ok (.iload_n 3, 1) := by decide +kernel
theorem dX6_apply_82 : decode cX6_apply 82 = .ok (.invokevirtual 114, 3) := by decide +kernel
theorem dX6_apply_85 : decode cX6_apply 85 = .ok (.ireturn, 1) := by decide +kernel
theorem dX6_isRung_0 : decode cX6_isRung 0 = .ok (.iload_n 0, 1) := by decide +kernel
theorem dX6_isRung_1 : decode cX6_isRung 1 = .ok (.iconst 0, 1) := by decide +kernel
theorem dX6_isRung_2 : decode cX6_isRung 2 = .ok (.iconst 3, 1) := by decide +kernel
theorem dX6_isRung_3 : decode cX6_isRung 3 = .ok (.invokestatic 70, 3) := by decide +kernel
theorem dX6_isRung_6 : decode cX6_isRung 6 = .ok (.ifCond .eq 17, 3) := by decide +kernel
theorem dX6_isRung_9 : decode cX6_isRung 9 = .ok (.iload_n 1, 1) := by decide +kernel
theorem dX6_isRung_10 : decode cX6_isRung 10 = .ok (.iconst 0, 1) := by decide +kernel
theorem dX6_isRung_11 : decode cX6_isRung 11 = .ok (.bipush 9, 2) := by decide +kernel
theorem dX6_isRung_13 : decode cX6_isRung 13 = .ok (.invokestatic 70, 3) := by decide +kernel
theorem dX6_isRung_16 : decode cX6_isRung 16 = .ok (.ifCond .eq 7, 3) := by decide +kernel
theorem dX6_isRung_19 : decode cX6_isRung 19 = .ok (.iconst 1, 1) := by decide +kernel
theorem dX6_isRung_20 : decode cX6_isRung 20 = .ok (.goto 4, 3) := by decide +kernel
theorem dX6_isRung_23 : decode cX6_isRung 23 = .ok (.iconst 0, 1) := by decide +kernel
theorem dX6_isRung_24 : decode cX6_isRung 24 = .ok (.ireturn, 1) := by decide +kernel
theorem dX6_canLadder_0 : decode cX6_canLadder 0 = .ok (.aload_n 0, 1) := by decide +kernel
theorem dX6_canLadder_1 : decode cX6_canLadder 1 = .ok (.getfield 26, 3) := by decide +kernel
theorem dX6_canLadder_4 : decode cX6_canLadder 4 = .ok (.iconst 0, 1) := by decide +kernel
theorem dX6_canLadder_5 : decode cX6_canLadder 5 = .ok (.iaload, 1) := by decide +kernel
theorem dX6_canLadder_6 : decode cX6_canLadder 6 = .ok (.ifCond .eq 13, 3) := by decide +kernel
theorem dX6_canLadder_9 : decode cX6_canLadder 9 = .ok (.aload_n 0, 1) := by decide +kernel
theorem dX6_canLadder_10 : decode cX6_canLadder 10 = .ok (.getfield 29, 3) := by decide +kernel
theorem dX6_canLadder_13 : decode cX6_canLadder 13 = .ok (.invokestatic 124, 3) := by decide +kernel
theorem dX6_canLadder_16 : decode cX6_canLadder 16 = .ok (.ifCond .ne 5, 3) := by decide +kernel
theorem dX6_canLadder_19 : decode cX6_canLadder 19 = .ok (.iconst 0, 1) := by decide +kernel
theorem dX6_canLadder_20 : decode cX6_canLadder 20 = .ok (.ireturn, 1) := by decide +kernel
theorem dX6_canLadder_21 : decode cX6_canLadder 21 = .ok (.aload_n 0, 1) := by decide +kernel
theorem dX6_canLadder_22 : decode cX6_canLadder 22 = .ok (.aload_n 0, 1) := by decide +kernel
theorem dX6_canLadder_23 : decode cX6_canLadder 23 = .ok (.getfield 29, 3) := by decide +kernel
theorem dX6_canLadder_26 : decode cX6_canLadder 26 = .ok (.aload_n 0, 1) := by decide +kernel
theorem dX6_canLadder_27 : decode cX6_canLadder 27 = .ok (.getfield 32, 3) := by decide +kernel
theorem dX6_canLadder_30 : decode cX6_canLadder 30 = .ok (.invokevirtual 128, 3) := by decide +kernel
theorem dX6_canLadder_33 : decode cX6_canLadder 33 = .ok (.aload_n 0, 1) := by decide +kernel
theorem dX6_canLadder_34 : decode cX6_canLadder 34 = .ok (.aload_n 0, 1) := by decide +kernel
theorem dX6_canLadder_35 : decode cX6_canLadder 35 = .ok (.getfield 26, 3) := by decide +kernel
theorem dX6_canLadder_38 : decode cX6_canLadder 38 = .ok (.aload_n 0, 1) := by decide +kernel
theorem dX6_canLadder_39 : decode cX6_canLadder 39 = .ok (.getfield 32, 3) := by decide +kernel
theorem dX6_canLadder_42 : decode cX6_canLadder 42 = .ok (.aload_n 0, 1) := by decide +kernel
theorem dX6_canLadder_43 : decode cX6_canLadder 43 = .ok (.getfield 35, 3) := by decide +kernel
theorem dX6_canLadder_46 : decode cX6_canLadder 46 = .ok (.invokevirtual 102, 3) := by decide +kernel
theorem dX6_canLadder_49 : decode cX6_canLadder 49 = .ok (.aload_n 0, 1) := by decide +kernel
theorem dX6_canLadder_50 : decode cX6_canLadder 50 = .ok (.getfield 38, 3) := by decide +kernel
theorem dX6_canLadder_53 : decode cX6_canLadder 53 = .ok (.invokestatic 90, 3) := by decide +kernel
theorem dX6_canLadder_56 : decode cX6_canLadder 56 = .ok (.aload_n 0, 1) := by decide +kernel
theorem dX6_canLadder_57 : decode cX6_canLadder 57 = .ok (.getfield 38, 3) := by decide +kernel
theorem dX6_canLadder_60 : decode cX6_canLadder 60 = .ok (.aload_n 0, 1) := by decide +kernel
theorem dX6_canLadder_61 : decode cX6_canLadder 61 = .ok (.getfield 35, 3) := by decide +kernel
theorem dX6_canLadder_64 : decode cX6_canLadder 64 = .ok (.aload_n 0, 1) := by decide +kernel
theorem dX6_canLadder_65 : decode cX6_canLadder 65 = .ok (.getfield 41, 3) := by decide +kernel
theorem dX6_canLadder_68 : decode cX6_canLadder 68 = .ok (.invokestatic 121, 3) := by decide +kernel
theorem dX6_canLadder_71 : decode cX6_canLadder 71 = .ok (.aload_n 0, 1) := by decide +kernel
theorem dX6_canLadder_72 : decode cX6_canLadder 72 = .ok (.getfield 41, 3) := by decide +kernel
theorem dX6_canLadder_75 : decode cX6_canLadder 75 = .ok (.aload_n 0, 1) := by decide +kernel
theorem dX6_canLadder_76 : decode cX6_canLadder 76 = .ok (.getfield 35, 3) := by decide +kernel
theorem dX6_canLadder_79 : decode cX6_canLadder 79 = .ok (.invokestatic 98, 3) := by decide +kernel
theorem dX6_canLadder_82 : decode cX6_canLadder 82 = .ok (.iconst 1, 1) := by decide +kernel
theorem dX6_canLadder_83 : decode cX6_canLadder 83 = .ok (.ireturn, 1) := by decide +kernel
theorem dX6_ladder_0 : decode cX6_ladder 0 = .ok (.iload_n 1, 1) := by decide +kernel
theorem dX6_ladder_1 : decode cX6_ladder 1 = .ok (.iconst 0, 1) := by decide +kernel
theorem dX6_ladder_2 : decode cX6_ladder 2 = .ok (.iconst 3, 1) := by decide +kernel
theorem dX6_ladder_3 : decode cX6_ladder 3 = .ok (.invokestatic 70, 3) := by decide +kernel
theorem dX6_ladder_6 : decode cX6_ladder 6 = .ok (.ifCond .eq 17, 3) := by decide +kernel
theorem dX6_ladder_9 : decode cX6_ladder 9 = .ok (.iload_n 2, 1) := by decide +kernel
theorem dX6_ladder_10 : decode cX6_ladder 10 = .ok (.invokestatic 74, 3) := by decide +kernel
theorem dX6_ladder_13 : decode cX6_ladder 13 = .ok (.ifCond .eq 10, 3) := by decide +kernel
theorem dX6_ladder_16 : decode cX6_ladder 16 = .ok (.iload_n 3, 1) := by decide +kernel
theorem dX6_ladder_17 : decode cX6_ladder 17 = .ok (.invokestatic 74, 3) := by decide +kernel
theorem dX6_ladder_20 : decode cX6_ladder 20 = .ok (.ifCond .ne 6, 3) := by decide +kernel
theorem dX6_ladder_23 : decode cX6_ladder 23 = .ok (.bipush (-2), 2) := by decide +kernel
theorem dX6_ladder_25 : decode cX6_ladder 25 = .ok (.ireturn, 1) := by decide +kernel
theorem dX6_ladder_26 : decode cX6_ladder 26 = .ok (.aload_n 0, 1) := by decide +kernel
theorem dX6_ladder_27 : decode cX6_ladder 27 = .ok (.iload_n 2, 1) := by decide +kernel
theorem dX6_ladder_28 : decode cX6_ladder 28 = .ok (.invokevirtual 118, 3) := by decide +kernel
theorem dX6_ladder_31 : decode cX6_ladder 31 = .ok (.ifCond .ne 11, 3) := by decide +kernel
theorem dX6_ladder_34 : decode cX6_ladder 34 = .ok (.aload_n 0, 1) := by decide +kernel
theorem dX6_ladder_35 : decode cX6_ladder 35 = .ok (.iload_n 3, 1) := by decide +kernel
theorem dX6_ladder_36 : decode cX6_ladder 36 = .ok (.invokevirtual 118, 3) := by decide +kernel
theorem dX6_ladder_39 : decode cX6_ladder 39 = .ok (.ifCond .eq 6, 3) := by decide +kernel
theorem dX6_ladder_42 : decode cX6_ladder 42 = .ok (.bipush (-11), 2) := by decide +kernel
theorem dX6_ladder_44 : decode cX6_ladder 44 = .ok (.ireturn, 1) := by decide +kernel
theorem dX6_ladder_45 : decode cX6_ladder 45 = .ok (.aload_n 0, 1) := by decide +kernel
theorem dX6_ladder_46 : decode cX6_ladder 46 = .ok (.iload_n 2, 1) := by decide +kernel
theorem dX6_ladder_47 : decode cX6_ladder 47 = .ok (.aload_n 0, 1) := by decide +kernel
theorem dX6_ladder_48 : decode cX6_ladder 48 = .ok (.getfield 26, 3) := by decide +kernel
theorem dX6_ladder_51 : decode cX6_ladder 51 = .ok (.invokevirtual 105, 3) := by decide +kernel
theorem dX6_ladder_54 : decode cX6_ladder 54 = .ok (.aload_n 0, 1) := by decide +kernel
theorem dX6_ladder_55 : decode cX6_ladder 55 = .ok (.iload_n 3, 1) := by decide +kernel
theorem dX6_ladder_56 : decode cX6_ladder 56 = .ok (.aload_n 0, 1) := by decide +kernel
theorem dX6_ladder_57 : decode cX6_ladder 57 = .ok (.getfield 29, 3) := by decide +kernel
theorem dX6_ladder_60 : decode cX6_ladder 60 = .ok (.invokevirtual 105, 3) := by decide +kernel
theorem dX6_ladder_63 : decode cX6_ladder 63 = .ok (.aload_n 0, 1) := by decide +kernel
theorem dX6_ladder_64 : decode cX6_ladder 64 = .ok (.invokevirtual 137, 3) := by decide +kernel
theorem dX6_ladder_67 : decode cX6_ladder 67 = .ok (.ifCond .ne 6, 3) := by decide +kernel
theorem dX6_ladder_70 : decode cX6_ladder 70 = .ok (.bipush (-3), 2) := by decide +kernel
theorem dX6_ladder_72 : decode cX6_ladder 72 = .ok (.ireturn, 1) := by decide +kernel
theorem dX6_ladder_73 : decode cX6_ladder 73 = .ok (.iconst 0, 1) := by decide +kernel
theorem dX6_ladder_74 : decode cX6_ladder 74 = .ok (.istore 4, 2) := by decide +kernel
theorem dX6_ladder_76 : decode cX6_ladder 76 = .ok (.iload 4, 2) := by decide +kernel
theorem dX6_ladder_78 : decode cX6_ladder 78 = .ok (.bipush 10, 2) := by decide +kernel
theorem dX6_ladder_80 : decode cX6_ladder 80 = .ok (.if_icmp .ge 105, 3) := by decide +kernel
theorem dX6_ladder_83 : decode cX6_ladder 83 = .ok (.iconst 0, 1) := by decide +kernel
theorem dX6_ladder_84 : decode cX6_ladder 84 = .ok (.istore 5, 2) := by decide +kernel
theorem dX6_ladder_86 : decode cX6_ladder 86 = .ok (.iload 5, 2) := by decide +kernel
theorem dX6_ladder_88 : decode cX6_ladder 88 = .ok (.bipush 10, 2) := by decide +kernel
theorem dX6_ladder_90 : decode cX6_ladder 90 = .ok (.if_icmp .ge 63, 3) := by decide +kernel
theorem dX6_ladder_93 : decode cX6_ladder 93 = .ok (.iload 5, 2) := by decide +kernel
theorem dX6_ladder_95 : decode cX6_ladder 95 = .ok (.invokestatic 109, 3) := by decide +kernel
theorem dX6_ladder_98 : decode cX6_ladder 98 = .ok (.i2l, 1) := by decide +kernel
theorem dX6_ladder_99 : decode cX6_ladder 99 = .ok (.iload 4, 2) := by decide +kernel
theorem dX6_ladder_101 : decode cX6_ladder 101 = .ok (.invokestatic 109, 3) := by decide +kernel
theorem dX6_ladder_104 : decode cX6_ladder 104 = .ok (.invokestatic 87, 3) := by decide +kernel
theorem dX6_ladder_107 : decode cX6_ladder 107 = .ok (.i2l, 1) := by decide +kernel
theorem dX6_ladder_108 : decode cX6_ladder 108 = .ok (.lmul, 1) := by decide +kernel
theorem dX6_ladder_109 : decode cX6_ladder 109 = .ok (.invokestatic 62, 3) := by decide +kernel
theorem dX6_ladder_112 : decode cX6_ladder 112 = .ok (.istore 6, 2) := by decide +kernel
theorem dX6_ladder_114 : decode cX6_ladder 114 = .ok (.aload_n 0, 1) := by decide +kernel
theorem dX6_ladder_115 : decode cX6_ladder 115 = .ok (.getfield 53, 3) := by decide +kernel
theorem dX6_ladder_118 : decode cX6_ladder 118 = .ok (.bipush 100, 2) := by decide +kernel
theorem dX6_ladder_120 : decode cX6_ladder 120 = .ok (.iload_n 1, 1) := by decide +kernel
theorem dX6_ladder_121 : decode cX6_ladder 121 = .ok (.imul, 1) := by decide +kernel
theorem dX6_ladder_122 : decode cX6_ladder 122 = .ok (.bipush 10, 2) := by decide +kernel
theorem dX6_ladder_124 : decode cX6_ladder 124 = .ok (.iload 5, 2) := by decide +kernel
theorem dX6_ladder_126 : decode cX6_ladder 126 = .ok (.imul, 1) := by decide +kernel
theorem dX6_ladder_127 : decode cX6_ladder 127 = .ok (.iadd, 1) := by decide +kernel
theorem dX6_ladder_128 : decode cX6_ladder 128 = .ok (.iload 4, 2) := by decide +kernel
theorem dX6_ladder_130 : decode cX6_ladder 130 = .ok (.iadd, 1) := by decide +kernel
theorem dX6_ladder_131 : decode cX6_ladder 131 = .ok (.iload 6, 2) := by decide +kernel
theorem dX6_ladder_133 : decode cX6_ladder 133 = .ok (.i2l, 1) := by decide +kernel
theorem dX6_ladder_134 : decode cX6_ladder 134 = .ok (.aload_n 0, 1) := by decide +kernel
theorem dX6_ladder_135 : decode cX6_ladder 135 = .ok (.getfield 35, 3) := by decide +kernel
theorem dX6_ladder_138 : decode cX6_ladder 138 = .ok (.iload 5, 2) := by decide +kernel
theorem dX6_ladder_140 : decode cX6_ladder 140 = .ok (.iaload, 1) := by decide +kernel
theorem dX6_ladder_141 : decode cX6_ladder 141 = .ok (.i2l, 1) := by decide +kernel
theorem dX6_ladder_142 : decode cX6_ladder 142 = .ok (.lmul, 1) := by decide +kernel
theorem dX6_ladder_143 : decode cX6_ladder 143 = .ok (.invokestatic 62, 3) := by decide +kernel
theorem dX6_ladder_146 : decode cX6_ladder 146 = .ok (.iastore, 1) := by decide +kernel
theorem dX6_ladder_147 : decode cX6_ladder 147 = .ok (.iinc 5 1, 3) := by decide +kernel
theorem dX6_ladder_150 : decode cX6_ladder 150 = .ok (.goto (-64), 3) := by decide +kernel
theorem dX6_ladder_153 : decode cX6_ladder 153 = .ok (.aload_n 0, 1) := by decide +kernel
theorem dX6_ladder_154 : decode cX6_ladder 154 = .ok (.getfield 32, 3) := by decide +kernel
theorem dX6_ladder_157 : decode cX6_ladder 157 = .ok (.aload_n 0, 1) := by decide +kernel
theorem dX6_ladder_158 : decode cX6_ladder 158 = .ok (.getfield 35, 3) := by decide +kernel
theorem dX6_ladder_161 : decode cX6_ladder 161 = .ok (.aload_n 0, 1) := by decide +kernel
theorem dX6_ladder_162 : decode cX6_ladder 162 = .ok (.getfield 41, 3) := by decide +kernel
theorem dX6_ladder_165 : decode cX6_ladder 165 = .ok (.invokestatic 94, 3) := by decide +kernel
theorem dX6_ladder_168 : decode cX6_ladder 168 = .ok (.aload_n 0, 1) := by decide +kernel
theorem dX6_ladder_169 : decode cX6_ladder 169 = .ok (.getfield 41, 3) := by decide +kernel
theorem dX6_ladder_172 : decode cX6_ladder 172 = .ok (.aload_n 0, 1) := by decide +kernel
theorem dX6_ladder_173 : decode cX6_ladder 173 = .ok (.getfield 35, 3) := by decide +kernel
theorem dX6_ladder_176 : decode cX6_ladder 176 = .ok (.invokestatic 98, 3) := by decide +kernel
theorem dX6_ladder_179 : decode cX6_ladder 179 = .ok (.iinc 4 1, 3) := by decide +kernel
theorem dX6_ladder_182 : decode cX6_ladder 182 = .ok (.goto (-106), 3) := by decide +kernel
theorem dX6_ladder_185 : decode cX6_ladder 185 = .ok (.aload_n 0, 1) := by decide +kernel
theorem dX6_ladder_186 : decode cX6_ladder 186 = .ok (.getfield 50, 3) := by decide +kernel
theorem dX6_ladder_189 : decode cX6_ladder 189 = .ok (.iload_n 1, 1) := by decide +kernel
theorem dX6_ladder_190 : decode cX6_ladder 190 = .ok (.iconst 1, 1) := by decide +kernel
theorem dX6_ladder_191 : decode cX6_ladder 191 = .ok (.bastore, 1) := by decide +kernel
theorem dX6_ladder_192 : decode cX6_ladder 192 = .ok (.iconst 1, 1) := by decide +kernel
theorem dX6_ladder_193 : decode cX6_ladder 193 = .ok (.ireturn, 1) := by decide +kernel
theorem dX6_step_0 : decode cX6_step 0 = .ok (.iload_n 1, 1) := by decide +kernel
theorem dX6_step_1 : decode cX6_step 1 = .ok (.iload_n 2, 1) := by decide +kernel
theorem dX6_step_2 : decode cX6_step 2 = .ok (.invokestatic 141, 3) := by decide +kernel
theorem dX6_step_5 : decode cX6_step 5 = .ok (.ifCond .eq 13, 3) := by decide +kernel
theorem dX6_step_8 : decode cX6_step 8 = .ok (.iload_n 3, 1) := by decide +kernel
theorem dX6_step_9 : decode cX6_step 9 = .ok (.iconst 0, 1) := by decide +kernel
theorem dX6_step_10 : decode cX6_step 10 = .ok (.bipush 9, 2) := by decide +kernel
theorem dX6_step_12 : decode cX6_step 12 = .ok (.invokestatic 70, 3) := by decide +kernel
theorem dX6_step_15 : decode cX6_step 15 = .ok (.ifCond .ne 6, 3) := by decide +kernel
theorem dX6_step_18 : decode cX6_step 18 = .ok (.bipush (-2), 2) := by decide +kernel
theorem dX6_step_20 : decode cX6_step 20 = .ok (.ireturn, 1) := by decide +kernel
theorem dX6_step_21 : decode cX6_step 21 = .ok (.aload_n 0, 1) := by decide +kernel
theorem dX6_step_22 : decode cX6_step 22 = .ok (.getfield 50, 3) := by decide +kernel
theorem dX6_step_25 : decode cX6_step 25 = .ok (.iload_n 1, 1) := by decide +kernel
theorem dX6_step_26 : decode cX6_step 26 = .ok (.baload, 1) := by decide +kernel
theorem dX6_step_27 : decode cX6_step 27 = .ok (.ifCond .eq 22, 3) := by decide +kernel
theorem dX6_step_30 : decode cX6_step 30 = .ok (.aload_n 0, 1) := by decide +kernel
theorem dX6_step_31 : decode cX6_step 31 = .ok (.getfield 53, 3) := by decide +kernel
theorem dX6_step_34 : decode cX6_step 34 = .ok (.bipush 100, 2) := by decide +kernel
theorem dX6_step_36 : decode cX6_step 36 = .ok (.iload_n 1, 1) := by decide +kernel
theorem dX6_step_37 : decode cX6_step 37 = .ok (.imul, 1) := by decide +kernel
theorem dX6_step_38 : decode cX6_step 38 = .ok (.bipush 10, 2) := by decide +kernel
theorem dX6_step_40 : decode cX6_step 40 = .ok (.iload_n 2, 1) := by decide +kernel
theorem dX6_step_41 : decode cX6_step 41 = .ok (.imul, 1) := by decide +kernel
theorem dX6_step_42 : decode cX6_step 42 = .ok (.iadd, 1) := by decide +kernel
theorem dX6_step_43 : decode cX6_step 43 = .ok (.iload_n 3, 1) := by decide +kernel
theorem dX6_step_44 : decode cX6_step 44 = .ok (.iadd, 1) := by decide +kernel
theorem dX6_step_45 : decode cX6_step 45 = .ok (.iaload, 1) := by decide +kernel
theorem dX6_step_46 : decode cX6_step 46 = .ok (.goto 5, 3) := by decide +kernel
theorem dX6_step_49 : decode cX6_step 49 = .ok (.bipush (-3), 2) := by decide +kernel
theorem dX6_step_51 : decode cX6_step 51 = .ok (.ireturn, 1) := by decide +kernel
theorem dX6_rung_0 : decode cX6_rung 0 = .ok (.iconst 0, 1) := by decide +kernel
theorem dX6_rung_1 : decode cX6_rung 1 = .ok (.istore 4, 2) := by decide +kernel
theorem dX6_rung_3 : decode cX6_rung 3 = .ok (.iload 4, 2) := by decide +kernel
theorem dX6_rung_5 : decode cX6_rung 5 = .ok (.bipush 10, 2) := by decide +kernel
theorem dX6_rung_7 : decode cX6_rung 7 = .ok (.if_icmp .ge 30, 3) := by decide +kernel
theorem dX6_rung_10 : decode cX6_rung 10 = .ok (.aload_n 3, 1) := by decide +kernel
theorem dX6_rung_11 : decode cX6_rung 11 = .ok (.iload 4, 2) := by decide +kernel
theorem dX6_rung_13 : decode cX6_rung 13 = .ok (.aload_n 0, 1) := by decide +kernel
theorem dX6_rung_14 : decode cX6_rung 14 = .ok (.getfield 53, 3) := by decide +kernel
theorem dX6_rung_17 : decode cX6_rung 17 = .ok (.bipush 100, 2) := by decide +kernel
theorem dX6_rung_19 : decode cX6_rung 19 = .ok (.iload_n 1, 1) := by decide +kernel
theorem dX6_rung_20 : decode cX6_rung 20 = .ok (.imul, 1) := by decide +kernel
theorem dX6_rung_21 : decode cX6_rung 21 = .ok (.bipush 10, 2) := by decide +kernel
theorem dX6_rung_23 : decode cX6_rung 23 = .ok (.iload_n 2, 1) := by decide +kernel
theorem dX6_rung_24 : decode cX6_rung 24 = .ok (.imul, 1) := by decide +kernel
theorem dX6_rung_25 : decode cX6_rung 25 = .ok (.iadd, 1) := by decide +kernel
theorem dX6_rung_26 : decode cX6_rung 26 = .ok (.iload 4, 2) := by decide +kernel
theorem dX6_rung_28 : decode cX6_rung 28 = .ok (.iadd, 1) := by decide +kernel
theorem dX6_rung_29 : decode cX6_rung 29 = .ok (.iaload, 1) := by decide +kernel
theorem dX6_rung_30 : decode cX6_rung 30 = .ok (.iastore, 1) := by decide +kernel
theorem dX6_rung_31 : decode cX6_rung 31 = .ok (.iinc 4 1, 3) := by decide +kernel
theorem dX6_rung_34 : decode cX6_rung 34 = .ok (.goto (-31), 3) := by decide +kernel
theorem dX6_rung_37 : decode cX6_rung 37 = .ok (.return_, 1) := by decide +kernel
theorem dX6_at_0 : decode cX6_at 0 = .ok (.iload_n 1, 1) := by decide +kernel
theorem dX6_at_1 : decode cX6_at 1 = .ok (.iload_n 2, 1) := by decide +kernel
theorem dX6_at_2 : decode cX6_at 2 = .ok (.invokestatic 141, 3) := by decide +kernel
theorem dX6_at_5 : decode cX6_at 5 = .ok (.ifCond .ne 6, 3) := by decide +kernel
theorem dX6_at_8 : decode cX6_at 8 = .ok (.bipush (-2), 2) := by decide +kernel
theorem dX6_at_10 : decode cX6_at 10 = .ok (.ireturn, 1) := by decide +kernel
theorem dX6_at_11 : decode cX6_at 11 = .ok (.aload_n 0, 1) := by decide +kernel
theorem dX6_at_12 : decode cX6_at 12 = .ok (.getfield 50, 3) := by decide +kernel
theorem dX6_at_15 : decode cX6_at 15 = .ok (.iload_n 1, 1) := by decide +kernel
theorem dX6_at_16 : decode cX6_at 16 = .ok (.baload, 1) := by decide +kernel
theorem dX6_at_17 : decode cX6_at 17 = .ok (.ifCond .ne 6, 3) := by decide +kernel
theorem dX6_at_20 : decode cX6_at 20 = .ok (.bipush (-3), 2) := by decide +kernel
theorem dX6_at_22 : decode cX6_at 22 = .ok (.ireturn, 1) := by decide +kernel
theorem dX6_at_23 : decode cX6_at 23 = .ok (.aload_n 0, 1) := by decide +kernel
theorem dX6_at_24 : decode cX6_at 24 = .ok (.iload_n 1, 1) := by decide +kernel
theorem dX6_at_25 : decode cX6_at 25 = .ok (.iload_n 2, 1) := by decide +kernel
theorem dX6_at_26 : decode cX6_at 26 = .ok (.aload_n 0, 1) := by decide +kernel
theorem dX6_at_27 : decode cX6_at 27 = .ok (.getfield 26, 3) := by decide +kernel
theorem dX6_at_30 : decode cX6_at 30 = .ok (.invokevirtual 145, 3) := by decide +kernel
theorem dX6_at_33 : decode cX6_at 33 = .ok (.aload_n 0, 1) := by decide +kernel
theorem dX6_at_34 : decode cX6_at 34 = .ok (.getfield 26, 3) := by decide +kernel
theorem dX6_at_37 : decode cX6_at 37 = .ok (.iload_n 3, 1) := by decide +kernel
theorem dX6_at_38 : decode cX6_at 38 = .ok (.i2l, 1) := by decide +kernel
theorem dX6_at_39 : decode cX6_at 39 = .ok (.invokestatic 62, 3) := by decide +kernel
theorem dX6_at_42 : decode cX6_at 42 = .ok (.invokestatic 131, 3) := by decide +kernel
theorem dX6_at_45 : decode cX6_at 45 = .ok (.ireturn, 1) := by decide +kernel
theorem dX6_tell_0 : decode cX6_tell 0 = .ok (.iload_n 1, 1) := by decide +kernel
theorem dX6_tell_1 : decode cX6_tell 1 = .ok (.iload_n 2, 1) := by decide +kernel
theorem dX6_tell_2 : decode cX6_tell 2 = .ok (.invokestatic 141, 3) := by decide +kernel
theorem dX6_tell_5 : decode cX6_tell 5 = .ok (.ifCond .eq 10, 3) := by decide +kernel
theorem dX6_tell_8 : decode cX6_tell 8 = .ok (.iload_n 3, 1) := by decide +kernel
theorem dX6_tell_9 : decode cX6_tell 9 = .ok (.invokestatic 74, 3) := by decide +kernel
theorem dX6_tell_12 : decode cX6_tell 12 = .ok (.ifCond .ne 6, 3) := by decide +kernel
theorem dX6_tell_15 : decode cX6_tell 15 = .ok (.bipush (-2), 2) := by decide +kernel
theorem dX6_tell_17 : decode cX6_tell 17 = .ok (.ireturn, 1) := by decide +kernel
theorem dX6_tell_18 : decode cX6_tell 18 = .ok (.aload_n 0, 1) := by decide +kernel
theorem dX6_tell_19 : decode cX6_tell 19 = .ok (.getfield 50, 3) := by decide +kernel
theorem dX6_tell_22 : decode cX6_tell 22 = .ok (.iload_n 1, 1) := by decide +kernel
theorem dX6_tell_23 : decode cX6_tell 23 = .ok (.baload, 1) := by decide +kernel
theorem dX6_tell_24 : decode cX6_tell 24 = .ok (.ifCond .ne 6, 3) := by decide +kernel
theorem dX6_tell_27 : decode cX6_tell 27 = .ok (.bipush (-3), 2) := by decide +kernel
theorem dX6_tell_29 : decode cX6_tell 29 = .ok (.ireturn, 1) := by decide +kernel
theorem dX6_tell_30 : decode cX6_tell 30 = .ok (.aload_n 0, 1) := by decide +kernel
theorem dX6_tell_31 : decode cX6_tell 31 = .ok (.iload_n 1, 1) := by decide +kernel
theorem dX6_tell_32 : decode cX6_tell 32 = .ok (.iload_n 2, 1) := by decide +kernel
theorem dX6_tell_33 : decode cX6_tell 33 = .ok (.aload_n 0, 1) := by decide +kernel
theorem dX6_tell_34 : decode cX6_tell 34 = .ok (.getfield 26, 3) := by decide +kernel
theorem dX6_tell_37 : decode cX6_tell 37 = .ok (.invokevirtual 145, 3) := by decide +kernel
theorem dX6_tell_40 : decode cX6_tell 40 = .ok (.aload_n 0, 1) := by decide +kernel
theorem dX6_tell_41 : decode cX6_tell 41 = .ok (.aload_n 0, 1) := by decide +kernel
theorem dX6_tell_42 : decode cX6_tell 42 = .ok (.getfield 26, 3) := by decide +kernel
theorem dX6_tell_45 : decode cX6_tell 45 = .ok (.iload_n 3, 1) := by decide +kernel
theorem dX6_tell_46 : decode cX6_tell 46 = .ok (.invokevirtual 114, 3) := by decide +kernel
theorem dX6_tell_49 : decode cX6_tell 49 = .ok (.ireturn, 1) := by decide +kernel
theorem dX6_lowers_0 : decode cX6_lowers 0 = .ok (.iload_n 1, 1) := by decide +kernel
theorem dX6_lowers_1 : decode cX6_lowers 1 = .ok (.iconst 0, 1) := by decide +kernel
theorem dX6_lowers_2 : decode cX6_lowers 2 = .ok (.iconst 3, 1) := by decide +kernel
theorem dX6_lowers_3 : decode cX6_lowers 3 = .ok (.invokestatic 70, 3) := by decide +kernel
theorem dX6_lowers_6 : decode cX6_lowers 6 = .ok (.ifCond .eq 10, 3) := by decide +kernel
theorem dX6_lowers_9 : decode cX6_lowers 9 = .ok (.iload_n 2, 1) := by decide +kernel
theorem dX6_lowers_10 : decode cX6_lowers 10 = .ok (.invokestatic 74, 3) := by decide +kernel
theorem dX6_lowers_13 : decode cX6_lowers 13 = .ok (.ifCond .ne 6, 3) := by decide +kernel
theorem dX6_lowers_16 : decode cX6_lowers 16 = .ok (.bipush (-2), 2) := by decide +kernel
theorem dX6_lowers_18 : decode cX6_lowers 18 = .ok (.ireturn, 1) := by decide +kernel
theorem dX6_lowers_19 : decode cX6_lowers 19 = .ok (.aload_n 0, 1) := by decide +kernel
theorem dX6_lowers_20 : decode cX6_lowers 20 = .ok (.iload_n 2, 1) := by decide +kernel
theorem dX6_lowers_21 : decode cX6_lowers 21 = .ok (.invokevirtual 118, 3) := by decide +kernel
theorem dX6_lowers_24 : decode cX6_lowers 24 = .ok (.ifCond .eq 6, 3) := by decide +kernel
theorem dX6_lowers_27 : decode cX6_lowers 27 = .ok (.bipush (-11), 2) := by decide +kernel
theorem dX6_lowers_29 : decode cX6_lowers 29 = .ok (.ireturn, 1) := by decide +kernel
theorem dX6_lowers_30 : decode cX6_lowers 30 = .ok (.aload_n 0, 1) := by decide +kernel
theorem dX6_lowers_31 : decode cX6_lowers 31 = .ok (.getfield 50, 3) := by decide +kernel
theorem dX6_lowers_34 : decode cX6_lowers 34 = .ok (.iload_n 1, 1) := by decide +kernel
theorem dX6_lowers_35 : decode cX6_lowers 35 = .ok (.baload, 1) := by decide +kernel
theorem dX6_lowers_36 : decode cX6_lowers 36 = .ok (.ifCond .ne 6, 3) := by decide +kernel
theorem dX6_lowers_39 : decode cX6_lowers 39 = .ok (.bipush (-3), 2) := by decide +kernel
theorem dX6_lowers_41 : decode cX6_lowers 41 = .ok (.ireturn, 1) := by decide +kernel
theorem dX6_lowers_42 : decode cX6_lowers 42 = .ok (.aload_n 0, 1) := by decide +kernel
theorem dX6_lowers_43 : decode cX6_lowers 43 = .ok (.iload_n 2, 1) := by decide +kernel
theorem dX6_lowers_44 : decode cX6_lowers 44 = .ok (.aload_n 0, 1) := by decide +kernel
theorem dX6_lowers_45 : decode cX6_lowers 45 = .ok (.getfield 26, 3) := by decide +kernel
theorem dX6_lowers_48 : decode cX6_lowers 48 = .ok (.invokevirtual 105, 3) := by decide +kernel
theorem dX6_lowers_51 : decode cX6_lowers 51 = .ok (.iconst 1, 1) := by decide +kernel
theorem dX6_lowers_52 : decode cX6_lowers 52 = .ok (.istore_n 3, 1) := by decide +kernel
theorem dX6_lowers_53 : decode cX6_lowers 53 = .ok (.iload_n 3, 1) := by decide +kernel
theorem dX6_lowers_54 : decode cX6_lowers 54 = .ok (.bipush 10, 2) := by decide +kernel
theorem dX6_lowers_56 : decode cX6_lowers 56 = .ok (.if_icmp .ge 88, 3) := by decide +kernel
theorem dX6_lowers_59 : decode cX6_lowers 59 = .ok (.aload_n 0, 1) := by decide +kernel
theorem dX6_lowers_60 : decode cX6_lowers 60 = .ok (.iload_n 1, 1) := by decide +kernel
theorem dX6_lowers_61 : decode cX6_lowers 61 = .ok (.iload_n 3, 1) := by decide +kernel
theorem dX6_lowers_62 : decode cX6_lowers 62 = .ok (.aload_n 0, 1) := by decide +kernel
theorem dX6_lowers_63 : decode cX6_lowers 63 = .ok (.getfield 29, 3) := by decide +kernel
theorem dX6_lowers_66 : decode cX6_lowers 66 = .ok (.invokevirtual 145, 3) := by decide +kernel
theorem dX6_lowers_69 : decode cX6_lowers 69 = .ok (.aload_n 0, 1) := by decide +kernel
theorem dX6_lowers_70 : decode cX6_lowers 70 = .ok (.getfield 26, 3) := by decide +kernel
theorem dX6_lowers_73 : decode cX6_lowers 73 = .ok (.aload_n 0, 1) := by decide +kernel
theorem dX6_lowers_74 : decode cX6_lowers 74 = .ok (.getfield 29, 3) := by decide +kernel
theorem dX6_lowers_77 : decode cX6_lowers 77 = .ok (.aload_n 0, 1) := by decide +kernel
theorem dX6_lowers_78 : decode cX6_lowers 78 = .ok (.getfield 32, 3) := by decide +kernel
theorem dX6_lowers_81 : decode cX6_lowers 81 = .ok (.invokestatic 134, 3) := by decide +kernel
theorem dX6_lowers_84 : decode cX6_lowers 84 = .ok (.aload_n 0, 1) := by decide +kernel
theorem dX6_lowers_85 : decode cX6_lowers 85 = .ok (.iload_n 1, 1) := by decide +kernel
theorem dX6_lowers_86 : decode cX6_lowers 86 = .ok (.iload_n 3, 1) := by decide +kernel
theorem dX6_lowers_87 : decode cX6_lowers 87 = .ok (.iconst 1, 1) := by decide +kernel
theorem dX6_lowers_88 : decode cX6_lowers 88 = .ok (.isub, 1) := by decide +kernel
theorem dX6_lowers_89 : decode cX6_lowers 89 = .ok (.aload_n 0, 1) := by decide +kernel
theorem dX6_lowers_90 : decode cX6_lowers 90 = .ok (.getfield 35, 3) := by decide +kernel
theorem dX6_lowers_93 : decode cX6_lowers 93 = .ok (.invokevirtual 145, 3) := by decide +kernel
theorem dX6_lowers_96 : decode cX6_lowers 96 = .ok (.iconst 0, 1) := by decide +kernel
theorem dX6_lowers_97 : decode cX6_lowers 97 = .ok (.istore 4, 2) := by decide +kernel
theorem dX6_lowers_99 : decode cX6_lowers 99 = .ok (.iload 4, 2) := by decide +kernel
theorem dX6_lowers_101 : decode cX6_lowers 101 = .ok (.bipush 10, 2) := by decide +kernel
theorem dX6_lowers_103 : decode cX6_lowers 103 = .ok (.if_icmp .ge 35, 3) := by decide +kernel
theorem dX6_lowers_106 : decode cX6_lowers 106 = .ok (.aload_n 0, 1) := by decide +kernel
theorem dX6_lowers_107 : decode cX6_lowers 107 = .ok (.getfield 32, 3) := by decide +kernel
theorem dX6_lowers_110 : decode cX6_lowers 110 = .ok (.iload 4, 2) := by decide +kernel
theorem dX6_lowers_112 : decode cX6_lowers 112 = .ok (.iaload, 1) := by decide +kernel
theorem dX6_lowers_113 : decode cX6_lowers 113 = .ok (.iload_n 3, 1) := by decide +kernel
theorem dX6_lowers_114 : decode cX6_lowers 114 = .ok (.i2l, 1) := by decide +kernel
theorem dX6_lowers_115 : decode cX6_lowers 115 = .ok (.aload_n 0, 1) := by decide +kernel
theorem dX6_lowers_116 : decode cX6_lowers 116 = .ok (.getfield 35, 3) := by decide +kernel
theorem dX6_lowers_119 : decode cX6_lowers 119 = .ok (.iload 4, 2) := by decide +kernel
theorem dX6_lowers_121 : decode cX6_lowers 121 = .ok (.iaload, 1) := by decide +kernel
theorem dX6_lowers_122 : decode cX6_lowers 122 = .ok (.i2l, 1) := by decide +kernel
theorem dX6_lowers_123 : decode cX6_lowers 123 = .ok (.lmul, 1) := by decide +kernel
theorem dX6_lowers_124 : decode cX6_lowers 124 = .ok (.invokestatic 62, 3) := by decide +kernel
theorem dX6_lowers_127 : decode cX6_lowers 127 = .ok (.if_icmp .eq 5, 3) := by decide +kernel
theorem dX6_lowers_130 : decode cX6_lowers 130 = .ok (.iload_n 3, 1) := by decide +kernel
theorem dX6_lowers_131 : decode cX6_lowers 131 = .ok (.ireturn, 1) := by decide +kernel
theorem dX6_lowers_132 : decode cX6_lowers 132 = .ok (.iinc 4 1, 3) := by decide +kernel
theorem dX6_lowers_135 : decode cX6_lowers 135 = .ok (.goto (-36), 3) := by decide +kernel
theorem dX6_lowers_138 : decode cX6_lowers 138 = .ok (.iinc 3 1, 3) := by decide +kernel
theorem dX6_lowers_141 : decode cX6_lowers 141 = .ok (.goto (-88), 3) := by decide +kernel
theorem dX6_lowers_144 : decode cX6_lowers 144 = .ok (.iconst (-1), 1) := by decide +kernel
theorem dX6_lowers_145 : decode cX6_lowers 145 = .ok (.ireturn, 1) := by decide +kernel
theorem dX6_bound_0 : decode cX6_bound 0 = .ok (.iload_n 1, 1) := by decide +kernel
theorem dX6_bound_1 : decode cX6_bound 1 = .ok (.iload_n 3, 1) := by decide +kernel
theorem dX6_bound_2 : decode cX6_bound 2 = .ok (.invokestatic 141, 3) := by decide +kernel
theorem dX6_bound_5 : decode cX6_bound 5 = .ok (.ifCond .eq 23, 3) := by decide +kernel
theorem dX6_bound_8 : decode cX6_bound 8 = .ok (.iload_n 2, 1) := by decide +kernel
theorem dX6_bound_9 : decode cX6_bound 9 = .ok (.iconst 0, 1) := by decide +kernel
theorem dX6_bound_10 : decode cX6_bound 10 = .ok (.iconst 3, 1) := by decide +kernel
theorem dX6_bound_11 : decode cX6_bound 11 = .ok (.invokestatic 70, 3) := by decide +kernel
theorem dX6_bound_14 : decode cX6_bound 14 = .ok (.ifCond .eq 14, 3) := by decide +kernel
theorem dX6_bound_17 : decode cX6_bound 17 = .ok (.iload 4, 2) := by decide +kernel
theorem dX6_bound_19 : decode cX6_bound 19 = .ok (.iconst 0, 1) := by decide +kernel
theorem dX6_bound_20 : decode cX6_bound 20 = .ok (.bipush 9, 2) := by decide +kernel
theorem dX6_bound_22 : decode cX6_bound 22 = .ok (.invokestatic 70, 3) := by decide +kernel
theorem dX6_bound_25 : decode cX6_bound 25 = .ok (.ifCond .ne 6, 3) := by decide +kernel
theorem dX6_bound_28 : decode cX6_bound 28 = .ok (.bipush (-2), 2) := by decide +kernel
theorem dX6_bound_30 : decode cX6_bound 30 = .ok (.ireturn, 1) := by decide +kernel
theorem dX6_bound_31 : decode cX6_bound 31 = .ok (.aload_n 0, 1) := by decide +kernel
theorem dX6_bound_32 : decode cX6_bound 32 = .ok (.getfield 50, 3) := by decide +kernel
theorem dX6_bound_35 : decode cX6_bound 35 = .ok (.iload_n 1, 1) := by decide +kernel
theorem dX6_bound_36 : decode cX6_bound 36 = .ok (.baload, 1) := by decide +kernel
theorem dX6_bound_37 : decode cX6_bound 37 = .ok (.ifCond .eq 12, 3) := by decide +kernel
theorem dX6_bound_40 : decode cX6_bound 40 = .ok (.aload_n 0, 1) := by decide +kernel
theorem dX6_bound_41 : decode cX6_bound 41 = .ok (.getfield 50, 3) := by decide +kernel
theorem dX6_bound_44 : decode cX6_bound 44 = .ok (.iload_n 2, 1) := by decide +kernel
theorem dX6_bound_45 : decode cX6_bound 45 = .ok (.baload, 1) := by decide +kernel
theorem dX6_bound_46 : decode cX6_bound 46 = .ok (.ifCond .ne 6, 3) := by decide +kernel
theorem dX6_bound_49 : decode cX6_bound 49 = .ok (.bipush (-3), 2) := by decide +kernel
theorem dX6_bound_51 : decode cX6_bound 51 = .ok (.ireturn, 1) := by decide +kernel
theorem dX6_bound_52 : decode cX6_bound 52 = .ok (.aload_n 0, 1) := by decide +kernel
theorem dX6_bound_53 : decode cX6_bound 53 = .ok (.iload_n 1, 1) := by decide +kernel
theorem dX6_bound_54 : decode cX6_bound 54 = .ok (.iload_n 3, 1) := by decide +kernel
theorem dX6_bound_55 : decode cX6_bound 55 = .ok (.aload_n 0, 1) := by decide +kernel
theorem dX6_bound_56 : decode cX6_bound 56 = .ok (.getfield 26, 3) := by decide +kernel
theorem dX6_bound_59 : decode cX6_bound 59 = .ok (.invokevirtual 145, 3) := by decide +kernel
theorem dX6_bound_62 : decode cX6_bound 62 = .ok (.iconst 0, 1) := by decide +kernel
theorem dX6_bound_63 : decode cX6_bound 63 = .ok (.istore 5, 2) := by decide +kernel
theorem dX6_bound_65 : decode cX6_bound 65 = .ok (.bipush 9, 2) := by decide +kernel
theorem dX6_bound_67 : decode cX6_bound 67 = .ok (.istore 6, 2) := by decide +kernel
theorem dX6_bound_69 : decode cX6_bound 69 = .ok (.iload 6, 2) := by decide +kernel
theorem dX6_bound_71 : decode cX6_bound 71 = .ok (.iload 4, 2) := by decide +kernel
theorem dX6_bound_73 : decode cX6_bound 73 = .ok (.if_icmp .lt 92, 3) := by decide +kernel
theorem dX6_bound_76 : decode cX6_bound 76 = .ok (.aload_n 0, 1) := by decide +kernel
theorem dX6_bound_77 : decode cX6_bound 77 = .ok (.iload_n 2, 1) := by decide +kernel
theorem dX6_bound_78 : decode cX6_bound 78 = .ok (.iload 6, 2) := by decide +kernel
theorem dX6_bound_80 : decode cX6_bound 80 = .ok (.aload_n 0, 1) := by decide +kernel
theorem dX6_bound_81 : decode cX6_bound 81 = .ok (.getfield 29, 3) := by decide +kernel
theorem dX6_bound_84 : decode cX6_bound 84 = .ok (.invokevirtual 145, 3) := by decide +kernel
theorem dX6_bound_87 : decode cX6_bound 87 = .ok (.aload_n 0, 1) := by decide +kernel
theorem dX6_bound_88 : decode cX6_bound 88 = .ok (.getfield 26, 3) := by decide +kernel
theorem dX6_bound_91 : decode cX6_bound 91 = .ok (.iload 6, 2) := by decide +kernel
theorem dX6_bound_93 : decode cX6_bound 93 = .ok (.iaload, 1) := by decide +kernel
theorem dX6_bound_94 : decode cX6_bound 94 = .ok (.i2l, 1) := by decide +kernel
theorem dX6_bound_95 : decode cX6_bound 95 = .ok (.aload_n 0, 1) := by decide +kernel
theorem dX6_bound_96 : decode cX6_bound 96 = .ok (.getfield 29, 3) := by decide +kernel
theorem dX6_bound_99 : decode cX6_bound 99 = .ok (.iload 6, 2) := by decide +kernel
theorem dX6_bound_101 : decode cX6_bound 101 = .ok (.iaload, 1) := by decide +kernel
theorem dX6_bound_102 : decode cX6_bound 102 = .ok (.invokestatic 87, 3) := by decide +kernel
theorem dX6_bound_105 : decode cX6_bound 105 = .ok (.i2l, 1) := by decide +kernel
theorem dX6_bound_106 : decode cX6_bound 106 = .ok (.lmul, 1) := by decide +kernel
theorem dX6_bound_107 : decode cX6_bound 107 = .ok (.invokestatic 62, 3) := by decide +kernel
theorem dX6_bound_110 : decode cX6_bound 110 = .ok (.istore 5, 2) := by decide +kernel
theorem dX6_bound_112 : decode cX6_bound 112 = .ok (.iconst 0, 1) := by decide +kernel
theorem dX6_bound_113 : decode cX6_bound 113 = .ok (.istore 7, 2) := by decide +kernel
theorem dX6_bound_115 : decode cX6_bound 115 = .ok (.iload 7, 2) := by decide +kernel
theorem dX6_bound_117 : decode cX6_bound 117 = .ok (.iload 6, 2) := by decide +kernel
theorem dX6_bound_119 : decode cX6_bound 119 = .ok (.if_icmp .gt 40, 3) := by decide +kernel
theorem dX6_bound_122 : decode cX6_bound 122 = .ok (.aload_n 0, 1) := by decide +kernel
theorem dX6_bound_123 : decode cX6_bound 123 = .ok (.getfield 26, 3) := by decide +kernel
theorem dX6_bound_126 : decode cX6_bound 126 = .ok (.iload 7, 2) := by decide +kernel
theorem dX6_bound_128 : decode cX6_bound 128 = .ok (.aload_n 0, 1) := by decide +kernel
theorem dX6_bound_129 : decode cX6_bound 129 = .ok (.getfield 26, 3) := by decide +kernel
theorem dX6_bound_132 : decode cX6_bound 132 = .ok (.iload 7, 2) := by decide +kernel
theorem dX6_bound_134 : decode cX6_bound 134 = .ok (.iaload, 1) := by decide +kernel
theorem dX6_bound_135 : decode cX6_bound 135 = .ok (.i2l, 1) := by decide +kernel
theorem dX6_bound_136 : decode cX6_bound 136 = .ok (.iload 5, 2) := by decide +kernel
theorem dX6_bound_138 : decode cX6_bound 138 = .ok (.i2l, 1) := by decide +kernel
theorem dX6_bound_139 : decode cX6_bound 139 = .ok (.aload_n 0, 1) := by decide +kernel
theorem dX6_bound_140 : decode cX6_bound 140 = .ok (.getfield 29, 3) := by decide +kernel
theorem dX6_bound_143 : decode cX6_bound 143 = .ok (.iload 7, 2) := by decide +kernel
theorem dX6_bound_145 : decode cX6_bound 145 = .ok (.iaload, 1) := by decide +kernel
theorem dX6_bound_146 : decode cX6_bound 146 = .ok (.i2l, 1) := by decide +kernel
theorem dX6_bound_147 : decode cX6_bound 147 = .ok (.lmul, 1) := by decide +kernel
theorem dX6_bound_148 : decode cX6_bound 148 = .ok (.lsub, 1) := by decide +kernel
theorem dX6_bound_149 : decode cX6_bound 149 = .ok (.invokestatic 62, 3) := by decide +kernel
theorem dX6_bound_152 : decode cX6_bound 152 = .ok (.iastore, 1) := by decide +kernel
theorem dX6_bound_153 : decode cX6_bound 153 = .ok (.iinc 7 1, 3) := by decide +kernel
theorem dX6_bound_156 : decode cX6_bound 156 = .ok (.goto (-41), 3) := by decide +kernel
theorem dX6_bound_159 : decode cX6_bound 159 = .ok (.iinc 6 (-1), 3) := by decide +kernel
theorem dX6_bound_162 : decode cX6_bound 162 = .ok (.goto (-93), 3) := by decide +kernel
theorem dX6_bound_165 : decode cX6_bound 165 = .ok (.iload 5, 2) := by decide +kernel
theorem dX6_bound_167 : decode cX6_bound 167 = .ok (.ireturn, 1) := by decide +kernel
theorem dX6_choose_0 : decode cX6_choose 0 = .ok (.iload_n 0, 1) := by decide +kernel
theorem dX6_choose_1 : decode cX6_choose 1 = .ok (.invokestatic 109, 3) := by decide +kernel
theorem dX6_choose_4 : decode cX6_choose 4 = .ok (.i2l, 1) := by decide +kernel
theorem dX6_choose_5 : decode cX6_choose 5 = .ok (.iload_n 1, 1) := by decide +kernel
theorem dX6_choose_6 : decode cX6_choose 6 = .ok (.invokestatic 109, 3) := by decide +kernel
theorem dX6_choose_9 : decode cX6_choose 9 = .ok (.i2l, 1) := by decide +kernel
theorem dX6_choose_10 : decode cX6_choose 10 = .ok (.iload_n 0, 1) := by decide +kernel
theorem dX6_choose_11 : decode cX6_choose 11 = .ok (.iload_n 1, 1) := by decide +kernel
theorem dX6_choose_12 : decode cX6_choose 12 = .ok (.isub, 1) := by decide +kernel
theorem dX6_choose_13 : decode cX6_choose 13 = .ok (.invokestatic 109, 3) := by decide +kernel
theorem dX6_choose_16 : decode cX6_choose 16 = .ok (.i2l, 1) := by decide +kernel
theorem dX6_choose_17 : decode cX6_choose 17 = .ok (.lmul, 1) := by decide +kernel
theorem dX6_choose_18 : decode cX6_choose 18 = .ok (.invokestatic 62, 3) := by decide +kernel
theorem dX6_choose_21 : decode cX6_choose 21 = .ok (.invokestatic 87, 3) := by decide +kernel
theorem dX6_choose_24 : decode cX6_choose 24 = .ok (.i2l, 1) := by decide +kernel
theorem dX6_choose_25 : decode cX6_choose 25 = .ok (.lmul, 1) := by decide +kernel
theorem dX6_choose_26 : decode cX6_choose 26 = .ok (.invokestatic 62, 3) := by decide +kernel
theorem dX6_choose_29 : decode cX6_choose 29 = .ok (.ireturn, 1) := by decide +kernel
theorem dX6_stepAt_0 : decode cX6_stepAt 0 = .ok (.aload_n 0, 1) := by decide +kernel
theorem dX6_stepAt_1 : decode cX6_stepAt 1 = .ok (.iload_n 1, 1) := by decide +kernel
theorem dX6_stepAt_2 : decode cX6_stepAt 2 = .ok (.iload_n 2, 1) := by decide +kernel
theorem dX6_stepAt_3 : decode cX6_stepAt 3 = .ok (.aload_n 0, 1) := by decide +kernel
theorem dX6_stepAt_4 : decode cX6_stepAt 4 = .ok (.getfield 26, 3) := by decide +kernel
theorem dX6_stepAt_7 : decode cX6_stepAt 7 = .ok (.invokevirtual 145, 3) := by decide +kernel
theorem dX6_stepAt_10 : decode cX6_stepAt 10 = .ok (.aload_n 0, 1) := by decide +kernel
theorem dX6_stepAt_11 : decode cX6_stepAt 11 = .ok (.getfield 26, 3) := by decide +kernel
theorem dX6_stepAt_14 : decode cX6_stepAt 14 = .ok (.iload_n 3, 1) := by decide +kernel
theorem dX6_stepAt_15 : decode cX6_stepAt 15 = .ok (.invokestatic 131, 3) := by decide +kernel
theorem dX6_stepAt_18 : decode cX6_stepAt 18 = .ok (.ireturn, 1) := by decide +kernel
theorem dX6_isBinomial_0 : decode cX6_isBinomial 0 = .ok (.iconst 0, 1) := by decide +kernel
theorem dX6_isBinomial_1 : decode cX6_isBinomial 1 = .ok (.istore_n 3, 1) := by decide +kernel
theorem dX6_isBinomial_2 : decode cX6_isBinomial 2 = .ok (.iload_n 3, 1) := by decide +kernel
theorem dX6_isBinomial_3 : decode cX6_isBinomial 3 = .ok (.iload_n 2, 1) := by decide +kernel
theorem dX6_isBinomial_4 : decode cX6_isBinomial 4 = .ok (.if_icmp .gt 101, 3) := by decide +kernel
theorem dX6_isBinomial_7 : decode cX6_isBinomial 7 = .ok (.iconst 0, 1) := by decide +kernel
theorem dX6_isBinomial_8 : decode cX6_isBinomial 8 = .ok (.istore 4, 2) := by decide +kernel
theorem dX6_isBinomial_10 : decode cX6_isBinomial 10 = .ok (.iload 4, 2) := by decide +kernel
theorem dX6_isBinomial_12 : decode cX6_isBinomial 12 = .ok (.iload_n 2, 1) := by decide +kernel
theorem dX6_isBinomial_13 : decode cX6_isBinomial 13 = .ok (.if_icmp .gt 86, 3) := by decide +kernel
theorem dX6_isBinomial_16 : decode cX6_isBinomial 16 = .ok (.lconst 0, 1) := by decide +kernel
theorem dX6_isBinomial_17 : decode cX6_isBinomial 17 = .ok (.lstore 5, 2) := by decide +kernel
theorem dX6_isBinomial_19 : decode cX6_isBinomial 19 = .ok (.iconst 0, 1) := by decide +kernel
theorem dX6_isBinomial_20 : decode cX6_isBinomial 20 = .ok (.istore 7, 2) := by decide +kernel
theorem dX6_isBinomial_22 : decode cX6_isBinomial 22 = .ok (.iload 7, 2) := by decide +kernel
theorem dX6_isBinomial_24 : decode cX6_isBinomial 24 = .ok (.iload_n 2, 1) := by decide +kernel
theorem dX6_isBinomial_25 : decode cX6_isBinomial 25 = .ok (.if_icmp .gt 48, 3) := by decide +kernel
theorem dX6_isBinomial_28 : decode cX6_isBinomial 28 = .ok (.lload 5, 2) := by decide +kernel
theorem dX6_isBinomial_30 : decode cX6_isBinomial 30 = .ok (.iload_n 2, 1) := by decide +kernel
theorem dX6_isBinomial_31 : decode cX6_isBinomial 31 = .ok (.iload 7, 2) := by decide +kernel
theorem dX6_isBinomial_33 : decode cX6_isBinomial 33 = .ok (.invokestatic 149, 3) := by decide +kernel
theorem dX6_isBinomial_36 : decode cX6_isBinomial 36 = .ok (.i2l, 1) := by decide +kernel
theorem dX6_isBinomial_37 : decode cX6_isBinomial 37 = .ok (.aload_n 0, 1) := by decide +kernel
theorem dX6_isBinomial_38 : decode cX6_isBinomial 38 = .ok (.iload_n 1, 1) := by decide +kernel
theorem dX6_isBinomial_39 : decode cX6_isBinomial 39 = .ok (.iload 7, 2) := by decide +kernel
theorem dX6_isBinomial_41 : decode cX6_isBinomial 41 = .ok (.iload_n 3, 1) := by decide +kernel
theorem dX6_isBinomial_42 : decode cX6_isBinomial 42 = .ok (.invokevirtual 152, 3) := by decide +kernel
theorem dX6_isBinomial_45 : decode cX6_isBinomial 45 = .ok (.i2l, 1) := by decide +kernel
theorem dX6_isBinomial_46 : decode cX6_isBinomial 46 = .ok (.lmul, 1) := by decide +kernel
theorem dX6_isBinomial_47 : decode cX6_isBinomial 47 = .ok (.invokestatic 62, 3) := by decide +kernel
theorem dX6_isBinomial_50 : decode cX6_isBinomial 50 = .ok (.i2l, 1) := by decide +kernel
theorem dX6_isBinomial_51 : decode cX6_isBinomial 51 = .ok (.aload_n 0, 1) := by decide +kernel
theorem dX6_isBinomial_52 : decode cX6_isBinomial 52 = .ok (.iload_n 1, 1) := by decide +kernel
theorem dX6_isBinomial_53 : decode cX6_isBinomial 53 = .ok (.iload_n 2, 1) := by decide +kernel
theorem dX6_isBinomial_54 : decode cX6_isBinomial 54 = .ok (.iload 7, 2) := by decide +kernel
theorem dX6_isBinomial_56 : decode cX6_isBinomial 56 = .ok (.isub, 1) := by decide +kernel
theorem dX6_isBinomial_57 : decode cX6_isBinomial 57 = .ok (.iload 4, 2) := by decide +kernel
theorem dX6_isBinomial_59 : decode cX6_isBinomial 59 = .ok (.invokevirtual 152, 3) := by decide +kernel
theorem dX6_isBinomial_62 : decode cX6_isBinomial 62 = .ok (.i2l, 1) := by decide +kernel
theorem dX6_isBinomial_63 : decode cX6_isBinomial 63 = .ok (.lmul, 1) := by decide +kernel
theorem dX6_isBinomial_64 : decode cX6_isBinomial 64 = .ok (.ladd, 1) := by decide +kernel
theorem dX6_isBinomial_65 : decode cX6_isBinomial 65 = .ok (.lstore 5, 2) := by decide +kernel
theorem dX6_isBinomial_67 : decode cX6_isBinomial 67 = .ok (.iinc 7 1, 3) := by decide +kernel
theorem dX6_isBinomial_70 : decode cX6_isBinomial 70 = .ok (.goto (-48), 3) := by decide +kernel
theorem dX6_isBinomial_73 : decode cX6_isBinomial 73 = .ok (.lload 5, 2) := by decide +kernel
theorem dX6_isBinomial_75 : decode cX6_isBinomial 75 = .ok (.invokestatic 62, 3) := by decide +kernel
theorem dX6_isBinomial_78 : decode cX6_isBinomial 78 = .ok (.aload_n 0, 1) := by decide +kernel
theorem dX6_isBinomial_79 : decode cX6_isBinomial 79 = .ok (.iload_n 1, 1) := by decide +kernel
theorem dX6_isBinomial_80 : decode cX6_isBinomial 80 = .ok (.iload_n 2, 1) := by decide +kernel
theorem dX6_isBinomial_81 : decode cX6_isBinomial 81 = .ok (.iload_n 3, 1) := by decide +kernel
theorem dX6_isBinomial_82 : decode cX6_isBinomial 82 = .ok (.iload 4, 2) := by decide +kernel
theorem dX6_isBinomial_84 : decode cX6_isBinomial 84 = .ok (.iadd, 1) := by decide +kernel
theorem dX6_isBinomial_85 : decode cX6_isBinomial 85 = .ok (.invokevirtual 152, 3) := by decide +kernel
theorem dX6_isBinomial_88 : decode cX6_isBinomial 88 = .ok (.if_icmp .eq 5, 3) := by decide +kernel
theorem dX6_isBinomial_91 : decode cX6_isBinomial 91 = .ok (.iconst 0, 1) := by decide +kernel
theorem dX6_isBinomial_92 : decode cX6_isBinomial 92 = .ok (.ireturn, 1) := by decide +kernel
theorem dX6_isBinomial_93 : decode cX6_isBinomial 93 = .ok (.iinc 4 1, 3) := by decide +kernel
theorem dX6_isBinomial_96 : decode cX6_isBinomial 96 = .ok (.goto (-86), 3) := by decide +kernel
theorem dX6_isBinomial_99 : decode cX6_isBinomial 99 = .ok (.iinc 3 1, 3) := by decide +kernel
theorem dX6_isBinomial_102 : decode cX6_isBinomial 102 = .ok (.goto (-100), 3) := by decide +kernel
theorem dX6_isBinomial_105 : decode cX6_isBinomial 105 = .ok (.iconst 1, 1) := by decide +kernel
theorem dX6_isBinomial_106 : decode cX6_isBinomial 106 = .ok (.ireturn, 1) := by decide +kernel
theorem dX6_binomial_0 : decode cX6_binomial 0 = .ok (.iload_n 1, 1) := by decide +kernel
theorem dX6_binomial_1 : decode cX6_binomial 1 = .ok (.iconst 0, 1) := by decide +kernel
theorem dX6_binomial_2 : decode cX6_binomial 2 = .ok (.iconst 3, 1) := by decide +kernel
theorem dX6_binomial_3 : decode cX6_binomial 3 = .ok (.invokestatic 70, 3) := by decide +kernel
theorem dX6_binomial_6 : decode cX6_binomial 6 = .ok (.ifCond .ne 6, 3) := by decide +kernel
theorem dX6_binomial_9 : decode cX6_binomial 9 = .ok (.bipush (-2), 2) := by decide +kernel
theorem dX6_binomial_11 : decode cX6_binomial 11 = .ok (.ireturn, 1) := by decide +kernel
theorem dX6_binomial_12 : decode cX6_binomial 12 = .ok (.aload_n 0, 1) := by decide +kernel
theorem dX6_binomial_13 : decode cX6_binomial 13 = .ok (.getfield 50, 3) := by decide +kernel
theorem dX6_binomial_16 : decode cX6_binomial 16 = .ok (.iload_n 1, 1) := by decide +kernel
theorem dX6_binomial_17 : decode cX6_binomial 17 = .ok (.baload, 1) := by decide +kernel
theorem dX6_binomial_18 : decode cX6_binomial 18 = .ok (.ifCond .ne 6, 3) := by decide +kernel
theorem dX6_binomial_21 : decode cX6_binomial 21 = .ok (.bipush (-3), 2) := by decide +kernel
theorem dX6_binomial_23 : decode cX6_binomial 23 = .ok (.ireturn, 1) := by decide +kernel
theorem dX6_binomial_24 : decode cX6_binomial 24 = .ok (.iconst 0, 1) := by decide +kernel
theorem dX6_binomial_25 : decode cX6_binomial 25 = .ok (.istore_n 2, 1) := by decide +kernel
theorem dX6_binomial_26 : decode cX6_binomial 26 = .ok (.iload_n 2, 1) := by decide +kernel
theorem dX6_binomial_27 : decode cX6_binomial 27 = .ok (.bipush 10, 2) := by decide +kernel
theorem dX6_binomial_29 : decode cX6_binomial 29 = .ok (.if_icmp .ge 18, 3) := by decide +kernel
theorem dX6_binomial_32 : decode cX6_binomial 32 = .ok (.aload_n 0, 1) := by decide +kernel
theorem dX6_binomial_33 : decode cX6_binomial 33 = .ok (.iload_n 1, 1) := by decide +kernel
theorem dX6_binomial_34 : decode cX6_binomial 34 = .ok (.iload_n 2, 1) := by decide +kernel
theorem dX6_binomial_35 : decode cX6_binomial 35 = .ok (.invokevirtual 155, 3) := by decide +kernel
theorem dX6_binomial_38 : decode cX6_binomial 38 = .ok (.ifCond .eq 9, 3) := by decide +kernel
theorem dX6_binomial_41 : decode cX6_binomial 41 = .ok (.iinc 2 1, 3) := by decide +kernel
theorem dX6_binomial_44 : decode cX6_binomial 44 = .ok (.goto (-18), 3) := by decide +kernel
theorem dX6_binomial_47 : decode cX6_binomial 47 = .ok (.iload_n 2, 1) := by decide +kernel
theorem dX6_binomial_48 : decode cX6_binomial 48 = .ok (.iconst 1, 1) := by decide +kernel
theorem dX6_binomial_49 : decode cX6_binomial 49 = .ok (.isub, 1) := by decide +kernel
theorem dX6_binomial_50 : decode cX6_binomial 50 = .ok (.ireturn, 1) := by decide +kernel
theorem dX6_differs_0 : decode cX6_differs 0 = .ok (.lconst 0, 1) := by decide +kernel
theorem dX6_differs_1 : decode cX6_differs 1 = .ok (.lstore_n 3, 1) := by decide +kernel
theorem dX6_differs_2 : decode cX6_differs 2 = .ok (.iconst 0, 1) := by decide +kernel
theorem dX6_differs_3 : decode cX6_differs 3 = .ok (.istore 5, 2) := by decide +kernel
theorem dX6_differs_5 : decode cX6_differs 5 = .ok (.iload 5, 2) := by decide +kernel
theorem dX6_differs_7 : decode cX6_differs 7 = .ok (.iload_n 1, 1) := by decide +kernel
theorem dX6_differs_8 : decode cX6_differs 8 = .ok (.if_icmp .gt 56, 3) := by decide +kernel
theorem dX6_differs_11 : decode cX6_differs 11 = .ok (.iload_n 1, 1) := by decide +kernel
theorem dX6_differs_12 : decode cX6_differs 12 = .ok (.iload 5, 2) := by decide +kernel
theorem dX6_differs_14 : decode cX6_differs 14 = .ok (.invokestatic 149, 3) := by decide +kernel
theorem dX6_differs_17 : decode cX6_differs 17 = .ok (.i2l, 1) := by decide +kernel
theorem dX6_differs_18 : decode cX6_differs 18 = .ok (.aload_n 0, 1) := by decide +kernel
theorem dX6_differs_19 : decode cX6_differs 19 = .ok (.getfield 26, 3) := by decide +kernel
theorem dX6_differs_22 : decode cX6_differs 22 = .ok (.iload_n 2, 1) := by decide +kernel
theorem dX6_differs_23 : decode cX6_differs 23 = .ok (.i2l, 1) := by decide +kernel
theorem dX6_differs_24 : decode cX6_differs 24 = .ok (.iload 5, 2) := by decide +kernel
theorem dX6_differs_26 : decode cX6_differs 26 = .ok (.i2l, 1) := by decide +kernel
theorem dX6_differs_27 : decode cX6_differs 27 = .ok (.ladd, 1) := by decide +kernel
theorem dX6_differs_28 : decode cX6_differs 28 = .ok (.invokestatic 62, 3) := by decide +kernel
theorem dX6_differs_31 : decode cX6_differs 31 = .ok (.invokestatic 131, 3) := by decide +kernel
theorem dX6_differs_34 : decode cX6_differs 34 = .ok (.i2l, 1) := by decide +kernel
theorem dX6_differs_35 : decode cX6_differs 35 = .ok (.lmul, 1) := by decide +kernel
theorem dX6_differs_36 : decode cX6_differs 36 = .ok (.lstore 6, 2) := by decide +kernel
theorem dX6_differs_38 : decode cX6_differs 38 = .ok (.lload_n 3, 1) := by decide +kernel
theorem dX6_differs_39 : decode cX6_differs 39 = .ok (.iload_n 1, 1) := by decide +kernel
theorem dX6_differs_40 : decode cX6_differs 40 = .ok (.iload 5, 2) := by decide +kernel
theorem dX6_differs_42 : decode cX6_differs 42 = .ok (.isub, 1) := by decide +kernel
theorem dX6_differs_43 : decode cX6_differs 43 = .ok (.iconst 2, 1) := by decide +kernel
theorem dX6_differs_44 : decode cX6_differs 44 = .ok (.irem, 1) := by decide +kernel
theorem dX6_differs_45 : decode cX6_differs 45 = .ok (.ifCond .ne 8, 3) := by decide +kernel
theorem dX6_differs_48 : decode cX6_differs 48 = .ok (.lload 6, 2) := by decide +kernel
theorem dX6_differs_50 : decode cX6_differs 50 = .ok (.goto 6, 3) := by decide +kernel
theorem dX6_differs_53 : decode cX6_differs 53 = .ok (.lload 6, 2) := by decide +kernel
theorem dX6_differs_55 : decode cX6_differs 55 = .ok (.lneg, 1) := by decide +kernel
theorem dX6_differs_56 : decode cX6_differs 56 = .ok (.ladd, 1) := by decide +kernel
theorem dX6_differs_57 : decode cX6_differs 57 = .ok (.lstore_n 3, 1) := by decide +kernel
theorem dX6_differs_58 : decode cX6_differs 58 = .ok (.iinc 5 1, 3) := by decide +kernel
theorem dX6_differs_61 : decode cX6_differs 61 = .ok (.goto (-56), 3) := by decide +kernel
theorem dX6_differs_64 : decode cX6_differs 64 = .ok (.lload_n 3, 1) := by decide +kernel
theorem dX6_differs_65 : decode cX6_differs 65 = .ok (.invokestatic 62, 3) := by decide +kernel
theorem dX6_differs_68 : decode cX6_differs 68 = .ok (.ireturn, 1) := by decide +kernel
theorem dX6_sum_0 : decode cX6_sum 0 = .ok (.iload_n 1, 1) := by decide +kernel
theorem dX6_sum_1 : decode cX6_sum 1 = .ok (.invokestatic 74, 3) := by decide +kernel
theorem dX6_sum_4 : decode cX6_sum 4 = .ok (.ifCond .eq 13, 3) := by decide +kernel
theorem dX6_sum_7 : decode cX6_sum 7 = .ok (.iload_n 3, 1) := by decide +kernel
theorem dX6_sum_8 : decode cX6_sum 8 = .ok (.iconst 0, 1) := by decide +kernel
theorem dX6_sum_9 : decode cX6_sum 9 = .ok (.ldc 158, 2) := by decide +kernel
theorem dX6_sum_11 : decode cX6_sum 11 = .ok (.invokestatic 70, 3) := by decide +kernel
theorem dX6_sum_14 : decode cX6_sum 14 = .ok (.ifCond .ne 6, 3) := by decide +kernel
theorem dX6_sum_17 : decode cX6_sum 17 = .ok (.bipush (-2), 2) := by decide +kernel
theorem dX6_sum_19 : decode cX6_sum 19 = .ok (.ireturn, 1) := by decide +kernel
theorem dX6_sum_20 : decode cX6_sum 20 = .ok (.aload_n 0, 1) := by decide +kernel
theorem dX6_sum_21 : decode cX6_sum 21 = .ok (.iload_n 1, 1) := by decide +kernel
theorem dX6_sum_22 : decode cX6_sum 22 = .ok (.invokevirtual 118, 3) := by decide +kernel
theorem dX6_sum_25 : decode cX6_sum 25 = .ok (.ifCond .eq 6, 3) := by decide +kernel
theorem dX6_sum_28 : decode cX6_sum 28 = .ok (.bipush (-11), 2) := by decide +kernel
theorem dX6_sum_30 : decode cX6_sum 30 = .ok (.ireturn, 1) := by decide +kernel
theorem dX6_sum_31 : decode cX6_sum 31 = .ok (.aload_n 0, 1) := by decide +kernel
theorem dX6_sum_32 : decode cX6_sum 32 = .ok (.iload_n 1, 1) := by decide +kernel
theorem dX6_sum_33 : decode cX6_sum 33 = .ok (.aload_n 0, 1) := by decide +kernel
theorem dX6_sum_34 : decode cX6_sum 34 = .ok (.getfield 26, 3) := by decide +kernel
theorem dX6_sum_37 : decode cX6_sum 37 = .ok (.invokevirtual 105, 3) := by decide +kernel
theorem dX6_sum_40 : decode cX6_sum 40 = .ok (.iconst 0, 1) := by decide +kernel
theorem dX6_sum_41 : decode cX6_sum 41 = .ok (.istore 4, 2) := by decide +kernel
theorem dX6_sum_43 : decode cX6_sum 43 = .ok (.iconst 1, 1) := by decide +kernel
theorem dX6_sum_44 : decode cX6_sum 44 = .ok (.istore 5, 2) := by decide +kernel
theorem dX6_sum_46 : decode cX6_sum 46 = .ok (.iconst 0, 1) := by decide +kernel
theorem dX6_sum_47 : decode cX6_sum 47 = .ok (.istore 6, 2) := by decide +kernel
theorem dX6_sum_49 : decode cX6_sum 49 = .ok (.iload 6, 2) := by decide +kernel
theorem dX6_sum_51 : decode cX6_sum 51 = .ok (.bipush 10, 2) := by decide +kernel
theorem dX6_sum_53 : decode cX6_sum 53 = .ok (.if_icmp .ge 66, 3) := by decide +kernel
theorem dX6_sum_56 : decode cX6_sum 56 = .ok (.iload 5, 2) := by decide +kernel
theorem dX6_sum_58 : decode cX6_sum 58 = .ok (.i2l, 1) := by decide +kernel
theorem dX6_sum_59 : decode cX6_sum 59 = .ok (.iload_n 3, 1) := by decide +kernel
theorem dX6_sum_60 : decode cX6_sum 60 = .ok (.i2l, 1) := by decide +kernel
theorem dX6_sum_61 : decode cX6_sum 61 = .ok (.iload 6, 2) := by decide +kernel
theorem dX6_sum_63 : decode cX6_sum 63 = .ok (.i2l, 1) := by decide +kernel
theorem dX6_sum_64 : decode cX6_sum 64 = .ok (.lsub, 1) := by decide +kernel
theorem dX6_sum_65 : decode cX6_sum 65 = .ok (.invokestatic 62, 3) := by decide +kernel
theorem dX6_sum_68 : decode cX6_sum 68 = .ok (.i2l, 1) := by decide +kernel
theorem dX6_sum_69 : decode cX6_sum 69 = .ok (.lmul, 1) := by decide +kernel
theorem dX6_sum_70 : decode cX6_sum 70 = .ok (.invokestatic 62, 3) := by decide +kernel
theorem dX6_sum_73 : decode cX6_sum 73 = .ok (.i2l, 1) := by decide +kernel
theorem dX6_sum_74 : decode cX6_sum 74 = .ok (.iload 6, 2) := by decide +kernel
theorem dX6_sum_76 : decode cX6_sum 76 = .ok (.iconst 1, 1) := by decide +kernel
theorem dX6_sum_77 : decode cX6_sum 77 = .ok (.iadd, 1) := by decide +kernel
theorem dX6_sum_78 : decode cX6_sum 78 = .ok (.invokestatic 87, 3) := by decide +kernel
theorem dX6_sum_81 : decode cX6_sum 81 = .ok (.i2l, 1) := by decide +kernel
theorem dX6_sum_82 : decode cX6_sum 82 = .ok (.lmul, 1) := by decide +kernel
theorem dX6_sum_83 : decode cX6_sum 83 = .ok (.invokestatic 62, 3) := by decide +kernel
theorem dX6_sum_86 : decode cX6_sum 86 = .ok (.istore 5, 2) := by decide +kernel
theorem dX6_sum_88 : decode cX6_sum 88 = .ok (.iload 4, 2) := by decide +kernel
theorem dX6_sum_90 : decode cX6_sum 90 = .ok (.i2l, 1) := by decide +kernel
theorem dX6_sum_91 : decode cX6_sum 91 = .ok (.aload_n 0, 1) := by decide +kernel
theorem dX6_sum_92 : decode cX6_sum 92 = .ok (.iload 6, 2) := by decide +kernel
theorem dX6_sum_94 : decode cX6_sum 94 = .ok (.iload_n 2, 1) := by decide +kernel
theorem dX6_sum_95 : decode cX6_sum 95 = .ok (.i2l, 1) := by decide +kernel
theorem dX6_sum_96 : decode cX6_sum 96 = .ok (.invokestatic 62, 3) := by decide +kernel
theorem dX6_sum_99 : decode cX6_sum 99 = .ok (.invokevirtual 159, 3) := by decide +kernel
theorem dX6_sum_102 : decode cX6_sum 102 = .ok (.i2l, 1) := by decide +kernel
theorem dX6_sum_103 : decode cX6_sum 103 = .ok (.iload 5, 2) := by decide +kernel
theorem dX6_sum_105 : decode cX6_sum 105 = .ok (.i2l, 1) := by decide +kernel
theorem dX6_sum_106 : decode cX6_sum 106 = .ok (.lmul, 1) := by decide +kernel
theorem dX6_sum_107 : decode cX6_sum 107 = .ok (.ladd, 1) := by decide +kernel
theorem dX6_sum_108 : decode cX6_sum 108 = .ok (.invokestatic 62, 3) := by decide +kernel
theorem dX6_sum_111 : decode cX6_sum 111 = .ok (.istore 4, 2) := by decide +kernel
theorem dX6_sum_113 : decode cX6_sum 113 = .ok (.iinc 6 1, 3) := by decide +kernel
theorem dX6_sum_116 : decode cX6_sum 116 = .ok (.goto (-67), 3) := by decide +kernel
theorem dX6_sum_119 : decode cX6_sum 119 = .ok (.iload 4, 2) := by decide +kernel
theorem dX6_sum_121 : decode cX6_sum 121 = .ok (.ireturn, 1) := by decide +kernel
theorem dX6_through_0 : decode cX6_through 0 = .ok (.iload_n 1, 1) := by decide +kernel
theorem dX6_through_1 : decode cX6_through 1 = .ok (.invokestatic 74, 3) := by decide +kernel
theorem dX6_through_4 : decode cX6_through 4 = .ok (.ifCond .eq 20, 3) := by decide +kernel
theorem dX6_through_7 : decode cX6_through 7 = .ok (.iload_n 2, 1) := by decide +kernel
theorem dX6_through_8 : decode cX6_through 8 = .ok (.iconst 1, 1) := by decide +kernel
theorem dX6_through_9 : decode cX6_through 9 = .ok (.bipush 10, 2) := by decide +kernel
theorem dX6_through_11 : decode cX6_through 11 = .ok (.invokestatic 70, 3) := by decide +kernel
theorem dX6_through_14 : decode cX6_through 14 = .ok (.ifCond .eq 10, 3) := by decide +kernel
theorem dX6_through_17 : decode cX6_through 17 = .ok (.iload_n 3, 1) := by decide +kernel
theorem dX6_through_18 : decode cX6_through 18 = .ok (.invokestatic 74, 3) := by decide +kernel
theorem dX6_through_21 : decode cX6_through 21 = .ok (.ifCond .ne 6, 3) := by decide +kernel
theorem dX6_through_24 : decode cX6_through 24 = .ok (.bipush (-2), 2) := by decide +kernel
theorem dX6_through_26 : decode cX6_through 26 = .ok (.ireturn, 1) := by decide +kernel
theorem dX6_through_27 : decode cX6_through 27 = .ok (.aload_n 0, 1) := by decide +kernel
theorem dX6_through_28 : decode cX6_through 28 = .ok (.iload_n 1, 1) := by decide +kernel
theorem dX6_through_29 : decode cX6_through 29 = .ok (.invokevirtual 118, 3) := by decide +kernel
theorem dX6_through_32 : decode cX6_through 32 = .ok (.ifCond .eq 6, 3) := by decide +kernel
theorem dX6_through_35 : decode cX6_through 35 = .ok (.bipush (-11), 2) := by decide +kernel
theorem dX6_through_37 : decode cX6_through 37 = .ok (.ireturn, 1) := by decide +kernel
theorem dX6_through_38 : decode cX6_through 38 = .ok (.aload_n 0, 1) := by decide +kernel
theorem dX6_through_39 : decode cX6_through 39 = .ok (.iload_n 1, 1) := by decide +kernel
theorem dX6_through_40 : decode cX6_through 40 = .ok (.aload_n 0, 1) := by decide +kernel
theorem dX6_through_41 : decode cX6_through 41 = .ok (.getfield 29, 3) := by decide +kernel
theorem dX6_through_44 : decode cX6_through 44 = .ok (.invokevirtual 105, 3) := by decide +kernel
theorem dX6_through_47 : decode cX6_through 47 = .ok (.iconst 0, 1) := by decide +kernel
theorem dX6_through_48 : decode cX6_through 48 = .ok (.istore 4, 2) := by decide +kernel
theorem dX6_through_50 : decode cX6_through 50 = .ok (.iload 4, 2) := by decide +kernel
theorem dX6_through_52 : decode cX6_through 52 = .ok (.bipush 10, 2) := by decide +kernel
theorem dX6_through_54 : decode cX6_through 54 = .ok (.if_icmp .ge 34, 3) := by decide +kernel
theorem dX6_through_57 : decode cX6_through 57 = .ok (.aload_n 0, 1) := by decide +kernel
theorem dX6_through_58 : decode cX6_through 58 = .ok (.getfield 32, 3) := by decide +kernel
theorem dX6_through_61 : decode cX6_through 61 = .ok (.iload 4, 2) := by decide +kernel
theorem dX6_through_63 : decode cX6_through 63 = .ok (.iconst 0, 1) := by decide +kernel
theorem dX6_through_64 : decode cX6_through 64 = .ok (.iastore, 1) := by decide +kernel
theorem dX6_through_65 : decode cX6_through 65 = .ok (.aload_n 0, 1) := by decide +kernel
theorem dX6_through_66 : decode cX6_through 66 = .ok (.getfield 35, 3) := by decide +kernel
theorem dX6_through_69 : decode cX6_through 69 = .ok (.iload 4, 2) := by decide +kernel
theorem dX6_through_71 : decode cX6_through 71 = .ok (.iload 4, 2) := by decide +kernel
theorem dX6_through_73 : decode cX6_through 73 = .ok (.ifCond .ne 7, 3) := by decide +kernel
theorem dX6_through_76 : decode cX6_through 76 = .ok (.iconst 1, 1) := by decide +kernel
theorem dX6_through_77 : decode cX6_through 77 = .ok (.goto 4, 3) := by decide +kernel
theorem dX6_through_80 : decode cX6_through 80 = .ok (.iconst 0, 1) := by decide +kernel
theorem dX6_through_81 : decode cX6_through 81 = .ok (.iastore, 1) := by decide +kernel
theorem dX6_through_82 : decode cX6_through 82 = .ok (.iinc 4 1, 3) := by decide +kernel
theorem dX6_through_85 : decode cX6_through 85 = .ok (.goto (-35), 3) := by decide +kernel
theorem dX6_through_88 : decode cX6_through 88 = .ok (.iconst 0, 1) := by decide +kernel
theorem dX6_through_89 : decode cX6_through 89 = .ok (.istore 4, 2) := by decide +kernel
theorem dX6_through_91 : decode cX6_through 91 = .ok (.iload 4, 2) := by decide +kernel
theorem dX6_through_93 : decode cX6_through 93 = .ok (.iload_n 2, 1) := by decide +kernel
theorem dX6_through_94 : decode cX6_through 94 = .ok (.if_icmp .ge 159, 3) := by decide +kernel
theorem dX6_through_97 : decode cX6_through 97 = .ok (.aload_n 0, 1) := by decide +kernel
theorem dX6_through_98 : decode cX6_through 98 = .ok (.getfield 29, 3) := by decide +kernel
theorem dX6_through_101 : decode cX6_through 101 = .ok (.iload 4, 2) := by decide +kernel
theorem dX6_through_103 : decode cX6_through 103 = .ok (.iaload, 1) := by decide +kernel
theorem dX6_through_104 : decode cX6_through 104 = .ok (.i2l, 1) := by decide +kernel
theorem dX6_through_105 : decode cX6_through 105 = .ok (.aload_n 0, 1) := by decide +kernel
theorem dX6_through_106 : decode cX6_through 106 = .ok (.getfield 32, 3) := by decide +kernel
theorem dX6_through_109 : decode cX6_through 109 = .ok (.iload 4, 2) := by decide +kernel
theorem dX6_through_111 : decode cX6_through 111 = .ok (.invokestatic 131, 3) := by decide +kernel
theorem dX6_through_114 : decode cX6_through 114 = .ok (.i2l, 1) := by decide +kernel
theorem dX6_through_115 : decode cX6_through 115 = .ok (.lsub, 1) := by decide +kernel
theorem dX6_through_116 : decode cX6_through 116 = .ok (.invokestatic 62, 3) := by decide +kernel
theorem dX6_through_119 : decode cX6_through 119 = .ok (.istore 5, 2) := by decide +kernel
theorem dX6_through_121 : decode cX6_through 121 = .ok (.iload 5, 2) := by decide +kernel
theorem dX6_through_123 : decode cX6_through 123 = .ok (.i2l, 1) := by decide +kernel
theorem dX6_through_124 : decode cX6_through 124 = .ok (.aload_n 0, 1) := by decide +kernel
theorem dX6_through_125 : decode cX6_through 125 = .ok (.getfield 35, 3) := by decide +kernel
theorem dX6_through_128 : decode cX6_through 128 = .ok (.iload 4, 2) := by decide +kernel
theorem dX6_through_130 : decode cX6_through 130 = .ok (.invokestatic 131, 3) := by decide +kernel
theorem dX6_through_133 : decode cX6_through 133 = .ok (.invokestatic 87, 3) := by decide +kernel
theorem dX6_through_136 : decode cX6_through 136 = .ok (.i2l, 1) := by decide +kernel
theorem dX6_through_137 : decode cX6_through 137 = .ok (.lmul, 1) := by decide +kernel
theorem dX6_through_138 : decode cX6_through 138 = .ok (.invokestatic 62, 3) := by decide +kernel
theorem dX6_through_141 : decode cX6_through 141 = .ok (.istore 6, 2) := by decide +kernel
theorem dX6_through_143 : decode cX6_through 143 = .ok (.iconst 0, 1) := by decide +kernel
theorem dX6_through_144 : decode cX6_through 144 = .ok (.istore 7, 2) := by decide +kernel
theorem dX6_through_146 : decode cX6_through 146 = .ok (.iload 7, 2) := by decide +kernel
theorem dX6_through_148 : decode cX6_through 148 = .ok (.bipush 10, 2) := by decide +kernel
theorem dX6_through_150 : decode cX6_through 150 = .ok (.if_icmp .ge 40, 3) := by decide +kernel
theorem dX6_through_153 : decode cX6_through 153 = .ok (.aload_n 0, 1) := by decide +kernel
theorem dX6_through_154 : decode cX6_through 154 = .ok (.getfield 32, 3) := by decide +kernel
theorem dX6_through_157 : decode cX6_through 157 = .ok (.iload 7, 2) := by decide +kernel
theorem dX6_through_159 : decode cX6_through 159 = .ok (.aload_n 0, 1) := by decide +kernel
theorem dX6_through_160 : decode cX6_through 160 = .ok (.getfield 32, 3) := by decide +kernel
theorem dX6_through_163 : decode cX6_through 163 = .ok (.iload 7, 2) := by decide +kernel
theorem dX6_through_165 : decode cX6_through 165 = .ok (.iaload, 1) := by decide +kernel
theorem dX6_through_166 : decode cX6_through 166 = .ok (.i2l, 1) := by decide +kernel
theorem dX6_through_167 : decode cX6_through 167 = .ok (.iload 6, 2) := by decide +kernel
theorem dX6_through_169 : decode cX6_through 169 = .ok (.i2l, 1) := by decide +kernel
theorem dX6_through_170 : decode cX6_through 170 = .ok (.aload_n 0, 1) := by decide +kernel
theorem dX6_through_171 : decode cX6_through 171 = .ok (.getfield 35, 3) := by decide +kernel
theorem dX6_through_174 : decode cX6_through 174 = .ok (.iload 7, 2) := by decide +kernel
theorem dX6_through_176 : decode cX6_through 176 = .ok (.iaload, 1) := by decide +kernel
theorem dX6_through_177 : decode cX6_through 177 = .ok (.i2l, 1) := by decide +kernel
theorem dX6_through_178 : decode cX6_through 178 = .ok (.lmul, 1) := by decide +kernel
theorem dX6_through_179 : decode cX6_through 179 = .ok (.ladd, 1) := by decide +kernel
theorem dX6_through_180 : decode cX6_through 180 = .ok (.invokestatic 62, 3) := by decide +kernel
theorem dX6_through_183 : decode cX6_through 183 = .ok (.iastore, 1) := by decide +kernel
theorem dX6_through_184 : decode cX6_through 184 = .ok (.iinc 7 1, 3) := by decide +kernel
theorem dX6_through_187 : decode cX6_through 187 = .ok (.goto (-41), 3) := by decide +kernel
theorem dX6_through_190 : decode cX6_through 190 = .ok (.bipush 9, 2) := by decide +kernel
theorem dX6_through_192 : decode cX6_through 192 = .ok (.istore 7, 2) := by decide +kernel
theorem dX6_through_194 : decode cX6_through 194 = .ok (.iload 7, 2) := by decide +kernel
theorem dX6_through_196 : decode cX6_through 196 = .ok (.ifCond .lt 51, 3) := by decide +kernel
theorem dX6_through_199 : decode cX6_through 199 = .ok (.aload_n 0, 1) := by decide +kernel
theorem dX6_through_200 : decode cX6_through 200 = .ok (.getfield 35, 3) := by decide +kernel
theorem dX6_through_203 : decode cX6_through 203 = .ok (.iload 7, 2) := by decide +kernel
theorem dX6_through_205 : decode cX6_through 205 = .ok (.iload 7, 2) := by decide +kernel
theorem dX6_through_207 : decode cX6_through 207 = .ok (.ifCond .le 15, 3) := by decide +kernel
theorem dX6_through_210 : decode cX6_through 210 = .ok (.aload_n 0, 1) := by decide +kernel
theorem dX6_through_211 : decode cX6_through 211 = .ok (.getfield 35, 3) := by decide +kernel
theorem dX6_through_214 : decode cX6_through 214 = .ok (.iload 7, 2) := by decide +kernel
theorem dX6_through_216 : decode cX6_through 216 = .ok (.iconst 1, 1) := by decide +kernel
theorem dX6_through_217 : decode cX6_through 217 = .ok (.isub, 1) := by decide +kernel
theorem dX6_through_218 : decode cX6_through 218 = .ok (.iaload, 1) := by decide +kernel
theorem dX6_through_219 : decode cX6_through 219 = .ok (.goto 4, 3) := by decide +kernel
theorem dX6_through_222 : decode cX6_through 222 = .ok (.iconst 0, 1) := by decide +kernel
theorem dX6_through_223 : decode cX6_through 223 = .ok (.i2l, 1) := by decide +kernel
theorem dX6_through_224 : decode cX6_through 224 = .ok (.iload 4, 2) := by decide +kernel
theorem dX6_through_226 : decode cX6_through 226 = .ok (.i2l, 1) := by decide +kernel
theorem dX6_through_227 : decode cX6_through 227 = .ok (.aload_n 0, 1) := by decide +kernel
theorem dX6_through_228 : decode cX6_through 228 = .ok (.getfield 35, 3) := by decide +kernel
theorem dX6_through_231 : decode cX6_through 231 = .ok (.iload 7, 2) := by decide +kernel
theorem dX6_through_233 : decode cX6_through 233 = .ok (.iaload, 1) := by decide +kernel
theorem dX6_through_234 : decode cX6_through 234 = .ok (.i2l, 1) := by decide +kernel
theorem dX6_through_235 : decode cX6_through 235 = .ok (.lmul, 1) := by decide +kernel
theorem dX6_through_236 : decode cX6_through 236 = .ok (.lsub, 1) := by decide +kernel
theorem dX6_through_237 : decode cX6_through 237 = .ok (.invokestatic 62, 3) := by decide +kernel
theorem dX6_through_240 : decode cX6_through 240 = .ok (.iastore, 1) := by decide +kernel
theorem dX6_through_241 : decode cX6_through 241 = .ok (.iinc 7 (-1), 3) := by decide +kernel
theorem dX6_through_244 : decode cX6_through 244 = .ok (.goto (-50), 3) := by decide +kernel
theorem dX6_through_247 : decode cX6_through 247 = .ok (.iinc 4 1, 3) := by decide +kernel
theorem dX6_through_250 : decode cX6_through 250 = .ok (.goto (-159), 3) := by decide +kernel
theorem dX6_through_253 : decode cX6_through 253 = .ok (.aload_n 0, 1) := by decide +kernel
theorem dX6_through_254 : decode cX6_through 254 = .ok (.aload_n 0, 1) := by decide +kernel
theorem dX6_through_255 : decode cX6_through 255 = .ok (.getfield 32, 3) := by decide +kernel
theorem dX6_through_258 : decode cX6_through 258 = .ok (.iload_n 3, 1) := by decide +kernel
theorem dX6_through_259 : decode cX6_through 259 = .ok (.invokevirtual 114, 3) := by decide +kernel
theorem dX6_through_262 : decode cX6_through 262 = .ok (.istore 4, 2) := by decide +kernel
theorem dX6_through_264 : decode cX6_through 264 = .ok (.iconst 0, 1) := by decide +kernel
theorem dX6_through_265 : decode cX6_through 265 = .ok (.istore 5, 2) := by decide +kernel
theorem dX6_through_267 : decode cX6_through 267 = .ok (.iconst 0, 1) := by decide +kernel
theorem dX6_through_268 : decode cX6_through 268 = .ok (.istore 6, 2) := by decide +kernel
theorem dX6_through_270 : decode cX6_through 270 = .ok (.iload 6, 2) := by decide +kernel
theorem dX6_through_272 : decode cX6_through 272 = .ok (.bipush 10, 2) := by decide +kernel
theorem dX6_through_274 : decode cX6_through 274 = .ok (.if_icmp .ge 28, 3) := by decide +kernel
theorem dX6_through_277 : decode cX6_through 277 = .ok (.aload_n 0, 1) := by decide +kernel
theorem dX6_through_278 : decode cX6_through 278 = .ok (.getfield 32, 3) := by decide +kernel
theorem dX6_through_281 : decode cX6_through 281 = .ok (.iload 6, 2) := by decide +kernel
theorem dX6_through_283 : decode cX6_through 283 = .ok (.iaload, 1) := by decide +kernel
theorem dX6_through_284 : decode cX6_through 284 = .ok (.ifCond .eq 8, 3) := by decide +kernel
theorem dX6_through_287 : decode cX6_through 287 = .ok (.iload 6, 2) := by decide +kernel
theorem dX6_through_289 : decode cX6_through 289 = .ok (.goto 5, 3) := by decide +kernel
theorem dX6_through_292 : decode cX6_through 292 = .ok (.iload 5, 2) := by decide +kernel
theorem dX6_through_294 : decode cX6_through 294 = .ok (.istore 5, 2) := by decide +kernel
theorem dX6_through_296 : decode cX6_through 296 = .ok (.iinc 6 1, 3) := by decide +kernel
theorem dX6_through_299 : decode cX6_through 299 = .ok (.goto (-29), 3) := by decide +kernel
theorem dX6_through_302 : decode cX6_through 302 = .ok (.iload 5, 2) := by decide +kernel
theorem dX6_through_304 : decode cX6_through 304 = .ok (.ireturn, 1) := by decide +kernel
theorem dX6_difference_0 : decode cX6_difference 0 = .ok (.iload_n 1, 1) := by decide +kernel
theorem dX6_difference_1 : decode cX6_difference 1 = .ok (.invokestatic 74, 3) := by decide +kernel
theorem dX6_difference_4 : decode cX6_difference 4 = .ok (.ifCond .eq 13, 3) := by decide +kernel
theorem dX6_difference_7 : decode cX6_difference 7 = .ok (.iload_n 2, 1) := by decide +kernel
theorem dX6_difference_8 : decode cX6_difference 8 = .ok (.iconst 0, 1) := by decide +kernel
theorem dX6_difference_9 : decode cX6_difference 9 = .ok (.bipush 9, 2) := by decide +kernel
theorem dX6_difference_11 : decode cX6_difference 11 = .ok (.invokestatic 70, 3) := by decide +kernel
theorem dX6_difference_14 : decode cX6_difference 14 = .ok (.ifCond .ne 6, 3) := by decide +kernel
theorem dX6_difference_17 : decode cX6_difference 17 = .ok (.bipush (-2), 2) := by decide +kernel
theorem dX6_difference_19 : decode cX6_difference 19 = .ok (.ireturn, 1) := by decide +kernel
theorem dX6_difference_20 : decode cX6_difference 20 = .ok (.aload_n 0, 1) := by decide +kernel
theorem dX6_difference_21 : decode cX6_difference 21 = .ok (.iload_n 1, 1) := by decide +kernel
theorem dX6_difference_22 : decode cX6_difference 22 = .ok (.invokevirtual 118, 3) := by decide +kernel
theorem dX6_difference_25 : decode cX6_difference 25 = .ok (.ifCond .eq 6, 3) := by decide +kernel
theorem dX6_difference_28 : decode cX6_difference 28 = .ok (.bipush (-11), 2) := by decide +kernel
theorem dX6_difference_30 : decode cX6_difference 30 = .ok (.ireturn, 1) := by decide +kernel
theorem dX6_difference_31 : decode cX6_difference 31 = .ok (.aload_n 0, 1) := by decide +kernel
theorem dX6_difference_32 : decode cX6_difference 32 = .ok (.iload_n 1, 1) := by decide +kernel
theorem dX6_difference_33 : decode cX6_difference 33 = .ok (.aload_n 0, 1) := by decide +kernel
theorem dX6_difference_34 : decode cX6_difference 34 = .ok (.getfield 26, 3) := by decide +kernel
theorem dX6_difference_37 : decode cX6_difference 37 = .ok (.invokevirtual 105, 3) := by decide +kernel
theorem dX6_difference_40 : decode cX6_difference 40 = .ok (.aload_n 0, 1) := by decide +kernel
theorem dX6_difference_41 : decode cX6_difference 41 = .ok (.iload_n 2, 1) := by decide +kernel
theorem dX6_difference_42 : decode cX6_difference 42 = .ok (.iload_n 3, 1) := by decide +kernel
theorem dX6_difference_43 : decode cX6_difference 43 = .ok (.i2l, 1) := by decide +kernel
theorem dX6_difference_44 : decode cX6_difference 44 = .ok (.invokestatic 62, 3) := by decide +kernel
theorem dX6_difference_47 : decode cX6_difference 47 = .ok (.invokevirtual 159, 3) := by decide +kernel
theorem dX6_difference_50 : decode cX6_difference 50 = .ok (.ireturn, 1) := by decide +kernel
theorem dX6_triangle_0 : decode cX6_triangle 0 = .ok (.iload_n 1, 1) := by decide +kernel
theorem dX6_triangle_1 : decode cX6_triangle 1 = .ok (.invokestatic 74, 3) := by decide +kernel
theorem dX6_triangle_4 : decode cX6_triangle 4 = .ok (.ifCond .eq 31, 3) := by decide +kernel
theorem dX6_triangle_7 : decode cX6_triangle 7 = .ok (.iload_n 2, 1) := by decide +kernel
theorem dX6_triangle_8 : decode cX6_triangle 8 = .ok (.invokestatic 74, 3) := by decide +kernel
theorem dX6_triangle_11 : decode cX6_triangle 11 = .ok (.ifCond .eq 24, 3) := by decide +kernel
theorem dX6_triangle_14 : decode cX6_triangle 14 = .ok (.iload_n 3, 1) := by decide +kernel
theorem dX6_triangle_15 : decode cX6_triangle 15 = .ok (.iconst 0, 1) := by decide +kernel
theorem dX6_triangle_16 : decode cX6_triangle 16 = .ok (.bipush 9, 2) := by decide +kernel
theorem dX6_triangle_18 : decode cX6_triangle 18 = .ok (.invokestatic 70, 3) := by decide +kernel
theorem dX6_triangle_21 : decode cX6_triangle 21 = .ok (.ifCond .eq 14, 3) := by decide +kernel
theorem dX6_triangle_24 : decode cX6_triangle 24 = .ok (.iload 4, 2) := by decide +kernel
theorem dX6_triangle_26 : decode cX6_triangle 26 = .ok (.iconst 0, 1) := by decide +kernel
theorem dX6_triangle_27 : decode cX6_triangle 27 = .ok (.bipush 9, 2) := by decide +kernel
theorem dX6_triangle_29 : decode cX6_triangle 29 = .ok (.invokestatic 70, 3) := by decide +kernel
theorem dX6_triangle_32 : decode cX6_triangle 32 = .ok (.ifCond .ne 6, 3) := by decide +kernel
theorem dX6_triangle_35 : decode cX6_triangle 35 = .ok (.bipush (-2), 2) := by decide +kernel
theorem dX6_triangle_37 : decode cX6_triangle 37 = .ok (.ireturn, 1) := by decide +kernel
theorem dX6_triangle_38 : decode cX6_triangle 38 = .ok (.aload_n 0, 1) := by decide +kernel
theorem dX6_triangle_39 : decode cX6_triangle 39 = .ok (.iload_n 1, 1) := by decide +kernel
theorem dX6_triangle_40 : decode cX6_triangle 40 = .ok (.invokevirtual 118, 3) := by decide +kernel
theorem dX6_triangle_43 : decode cX6_triangle 43 = .ok (.ifCond .ne 11, 3) := by decide +kernel
theorem dX6_triangle_46 : decode cX6_triangle 46 = .ok (.aload_n 0, 1) := by decide +kernel
theorem dX6_triangle_47 : decode cX6_triangle 47 = .ok (.iload_n 2, 1) := by decide +kernel
theorem dX6_triangle_48 : decode cX6_triangle 48 = .ok (.invokevirtual 118, 3) := by decide +kernel
theorem dX6_triangle_51 : decode cX6_triangle 51 = .ok (.ifCond .eq 6, 3) := by decide +kernel
theorem dX6_triangle_54 : decode cX6_triangle 54 = .ok (.bipush (-11), 2) := by decide +kernel
theorem dX6_triangle_56 : decode cX6_triangle 56 = .ok (.ireturn, 1) := by decide +kernel
theorem dX6_triangle_57 : decode cX6_triangle 57 = .ok (.aload_n 0, 1) := by decide +kernel
theorem dX6_triangle_58 : decode cX6_triangle 58 = .ok (.iload_n 1, 1) := by decide +kernel
theorem dX6_triangle_59 : decode cX6_triangle 59 = .ok (.aload_n 0, 1) := by decide +kernel
theorem dX6_triangle_60 : decode cX6_triangle 60 = .ok (.getfield 26, 3) := by decide +kernel
theorem dX6_triangle_63 : decode cX6_triangle 63 = .ok (.invokevirtual 105, 3) := by decide +kernel
theorem dX6_triangle_66 : decode cX6_triangle 66 = .ok (.aload_n 0, 1) := by decide +kernel
theorem dX6_triangle_67 : decode cX6_triangle 67 = .ok (.iload_n 2, 1) := by decide +kernel
theorem dX6_triangle_68 : decode cX6_triangle 68 = .ok (.aload_n 0, 1) := by decide +kernel
theorem dX6_triangle_69 : decode cX6_triangle 69 = .ok (.getfield 29, 3) := by decide +kernel
theorem dX6_triangle_72 : decode cX6_triangle 72 = .ok (.invokevirtual 105, 3) := by decide +kernel
theorem dX6_triangle_75 : decode cX6_triangle 75 = .ok (.aload_n 0, 1) := by decide +kernel
theorem dX6_triangle_76 : decode cX6_triangle 76 = .ok (.getfield 29, 3) := by decide +kernel
theorem dX6_triangle_79 : decode cX6_triangle 79 = .ok (.iconst 0, 1) := by decide +kernel
theorem dX6_triangle_80 : decode cX6_triangle 80 = .ok (.iaload, 1) := by decide +kernel
theorem dX6_triangle_81 : decode cX6_triangle 81 = .ok (.ifCond .eq 6, 3) := by decide +kernel
theorem dX6_triangle_84 : decode cX6_triangle 84 = .ok (.bipush (-3), 2) := by decide +kernel
theorem dX6_triangle_86 : decode cX6_triangle 86 = .ok (.ireturn, 1) := by decide +kernel
theorem dX6_triangle_87 : decode cX6_triangle 87 = .ok (.iconst 0, 1) := by decide +kernel
theorem dX6_triangle_88 : decode cX6_triangle 88 = .ok (.istore 5, 2) := by decide +kernel
theorem dX6_triangle_90 : decode cX6_triangle 90 = .ok (.iload 5, 2) := by decide +kernel
theorem dX6_triangle_92 : decode cX6_triangle 92 = .ok (.iload 4, 2) := by decide +kernel
theorem dX6_triangle_94 : decode cX6_triangle 94 = .ok (.if_icmp .ge 35, 3) := by decide +kernel
theorem dX6_triangle_97 : decode cX6_triangle 97 = .ok (.aload_n 0, 1) := by decide +kernel
theorem dX6_triangle_98 : decode cX6_triangle 98 = .ok (.getfield 26, 3) := by decide +kernel
theorem dX6_triangle_101 : decode cX6_triangle 101 = .ok (.aload_n 0, 1) := by decide +kernel
theorem dX6_triangle_102 : decode cX6_triangle 102 = .ok (.getfield 29, 3) := by decide +kernel
theorem dX6_triangle_105 : decode cX6_triangle 105 = .ok (.aload_n 0, 1) := by decide +kernel
theorem dX6_triangle_106 : decode cX6_triangle 106 = .ok (.getfield 32, 3) := by decide +kernel
theorem dX6_triangle_109 : decode cX6_triangle 109 = .ok (.invokestatic 94, 3) := by decide +kernel
theorem dX6_triangle_112 : decode cX6_triangle 112 = .ok (.aload_n 0, 1) := by decide +kernel
theorem dX6_triangle_113 : decode cX6_triangle 113 = .ok (.getfield 32, 3) := by decide +kernel
theorem dX6_triangle_116 : decode cX6_triangle 116 = .ok (.aload_n 0, 1) := by decide +kernel
theorem dX6_triangle_117 : decode cX6_triangle 117 = .ok (.getfield 26, 3) := by decide +kernel
theorem dX6_triangle_120 : decode cX6_triangle 120 = .ok (.invokestatic 98, 3) := by decide +kernel
theorem dX6_triangle_123 : decode cX6_triangle 123 = .ok (.iinc 5 1, 3) := by decide +kernel
theorem dX6_triangle_126 : decode cX6_triangle 126 = .ok (.goto (-36), 3) := by decide +kernel
theorem dX6_triangle_129 : decode cX6_triangle 129 = .ok (.aload_n 0, 1) := by decide +kernel
theorem dX6_triangle_130 : decode cX6_triangle 130 = .ok (.getfield 26, 3) := by decide +kernel
theorem dX6_triangle_133 : decode cX6_triangle 133 = .ok (.iload_n 3, 1) := by decide +kernel
theorem dX6_triangle_134 : decode cX6_triangle 134 = .ok (.iaload, 1) := by decide +kernel
theorem dX6_triangle_135 : decode cX6_triangle 135 = .ok (.ireturn, 1) := by decide +kernel
theorem dX6_product_0 : decode cX6_product 0 = .ok (.iload_n 1, 1) := by decide +kernel
theorem dX6_product_1 : decode cX6_product 1 = .ok (.invokestatic 74, 3) := by decide +kernel
theorem dX6_product_4 : decode cX6_product 4 = .ok (.ifCond .eq 48, 3) := by decide +kernel
theorem dX6_product_7 : decode cX6_product 7 = .ok (.iload_n 2, 1) := by decide +kernel
theorem dX6_product_8 : decode cX6_product 8 = .ok (.invokestatic 74, 3) := by decide +kernel
theorem dX6_product_11 : decode cX6_product 11 = .ok (.ifCond .eq 41, 3) := by decide +kernel
theorem dX6_product_14 : decode cX6_product 14 = .ok (.iload_n 3, 1) := by decide +kernel
theorem dX6_product_15 : decode cX6_product 15 = .ok (.invokestatic 74, 3) := by decide +kernel
theorem dX6_product_18 : decode cX6_product 18 = .ok (.ifCond .eq 34, 3) := by decide +kernel
theorem dX6_product_21 : decode cX6_product 21 = .ok (.iload 4, 2) := by decide +kernel
theorem dX6_product_23 : decode cX6_product 23 = .ok (.invokestatic 74, 3) := by decide +kernel
theorem dX6_product_26 : decode cX6_product 26 = .ok (.ifCond .eq 26, 3) := by decide +kernel
theorem dX6_product_29 : decode cX6_product 29 = .ok (.iload 5, 2) := by decide +kernel
theorem dX6_product_31 : decode cX6_product 31 = .ok (.invokestatic 74, 3) := by decide +kernel
theorem dX6_product_34 : decode cX6_product 34 = .ok (.ifCond .eq 18, 3) := by decide +kernel
theorem dX6_product_37 : decode cX6_product 37 = .ok (.iload 6, 2) := by decide +kernel
theorem dX6_product_39 : decode cX6_product 39 = .ok (.invokestatic 74, 3) := by decide +kernel
theorem dX6_product_42 : decode cX6_product 42 = .ok (.ifCond .eq 10, 3) := by decide +kernel
theorem dX6_product_45 : decode cX6_product 45 = .ok (.iload 5, 2) := by decide +kernel
theorem dX6_product_47 : decode cX6_product 47 = .ok (.iload 6, 2) := by decide +kernel
theorem dX6_product_49 : decode cX6_product 49 = .ok (.if_icmp .ne 6, 3) := by decide +kernel
theorem dX6_product_52 : decode cX6_product 52 = .ok (.bipush (-2), 2) := by decide +kernel
theorem dX6_product_54 : decode cX6_product 54 = .ok (.ireturn, 1) := by decide +kernel
theorem dX6_product_55 : decode cX6_product 55 = .ok (.aload_n 0, 1) := by decide +kernel
theorem dX6_product_56 : decode cX6_product 56 = .ok (.iload_n 1, 1) := by decide +kernel
theorem dX6_product_57 : decode cX6_product 57 = .ok (.invokevirtual 118, 3) := by decide +kernel
theorem dX6_product_60 : decode cX6_product 60 = .ok (.ifCond .ne 28, 3) := by decide +kernel
theorem dX6_product_63 : decode cX6_product 63 = .ok (.aload_n 0, 1) := by decide +kernel
theorem dX6_product_64 : decode cX6_product 64 = .ok (.iload_n 2, 1) := by decide +kernel
theorem dX6_product_65 : decode cX6_product 65 = .ok (.invokevirtual 118, 3) := by decide +kernel
theorem dX6_product_68 : decode cX6_product 68 = .ok (.ifCond .ne 20, 3) := by decide +kernel
theorem dX6_product_71 : decode cX6_product 71 = .ok (.aload_n 0, 1) := by decide +kernel
theorem dX6_product_72 : decode cX6_product 72 = .ok (.iload_n 3, 1) := by decide +kernel
theorem dX6_product_73 : decode cX6_product 73 = .ok (.invokevirtual 118, 3) := by decide +kernel
theorem dX6_product_76 : decode cX6_product 76 = .ok (.ifCond .ne 12, 3) := by decide +kernel
theorem dX6_product_79 : decode cX6_product 79 = .ok (.aload_n 0, 1) := by decide +kernel
theorem dX6_product_80 : decode cX6_product 80 = .ok (.iload 4, 2) := by decide +kernel
theorem dX6_product_82 : decode cX6_product 82 = .ok (.invokevirtual 118, 3) := by decide +kernel
theorem dX6_product_85 : decode cX6_product 85 = .ok (.ifCond .eq 6, 3) := by decide +kernel
theorem dX6_product_88 : decode cX6_product 88 = .ok (.bipush (-11), 2) := by decide +kernel
theorem dX6_product_90 : decode cX6_product 90 = .ok (.ireturn, 1) := by decide +kernel
theorem dX6_product_91 : decode cX6_product 91 = .ok (.aload_n 0, 1) := by decide +kernel
theorem dX6_product_92 : decode cX6_product 92 = .ok (.iload_n 2, 1) := by decide +kernel
theorem dX6_product_93 : decode cX6_product 93 = .ok (.aload_n 0, 1) := by decide +kernel
theorem dX6_product_94 : decode cX6_product 94 = .ok (.getfield 29, 3) := by decide +kernel
theorem dX6_product_97 : decode cX6_product 97 = .ok (.invokevirtual 105, 3) := by decide +kernel
theorem dX6_product_100 : decode cX6_product 100 = .ok (.aload_n 0, 1) := by decide +kernel
theorem dX6_product_101 : decode cX6_product 101 = .ok (.iload 4, 2) := by decide +kernel
theorem dX6_product_103 : decode cX6_product 103 = .ok (.aload_n 0, 1) := by decide +kernel
theorem dX6_product_104 : decode cX6_product 104 = .ok (.getfield 35, 3) := by decide +kernel
theorem dX6_product_107 : decode cX6_product 107 = .ok (.invokevirtual 105, 3) := by decide +kernel
theorem dX6_product_110 : decode cX6_product 110 = .ok (.aload_n 0, 1) := by decide +kernel
theorem dX6_product_111 : decode cX6_product 111 = .ok (.getfield 29, 3) := by decide +kernel
theorem dX6_product_114 : decode cX6_product 114 = .ok (.iconst 0, 1) := by decide +kernel
theorem dX6_product_115 : decode cX6_product 115 = .ok (.iaload, 1) := by decide +kernel
theorem dX6_product_116 : decode cX6_product 116 = .ok (.ifCond .ne 12, 3) := by decide +kernel
theorem dX6_product_119 : decode cX6_product 119 = .ok (.aload_n 0, 1) := by decide +kernel
theorem dX6_product_120 : decode cX6_product 120 = .ok (.getfield 35, 3) := by decide +kernel
theorem dX6_product_123 : decode cX6_product 123 = .ok (.iconst 0, 1) := by decide +kernel
theorem dX6_product_124 : decode cX6_product 124 = .ok (.iaload, 1) := by decide +kernel
theorem dX6_product_125 : decode cX6_product 125 = .ok (.ifCond .eq 6, 3) := by decide +kernel
theorem dX6_product_128 : decode cX6_product 128 = .ok (.bipush (-3), 2) := by decide +kernel
theorem dX6_product_130 : decode cX6_product 130 = .ok (.ireturn, 1) := by decide +kernel
theorem dX6_product_131 : decode cX6_product 131 = .ok (.aload_n 0, 1) := by decide +kernel
theorem dX6_product_132 : decode cX6_product 132 = .ok (.iload_n 3, 1) := by decide +kernel
theorem dX6_product_133 : decode cX6_product 133 = .ok (.aload_n 0, 1) := by decide +kernel
theorem dX6_product_134 : decode cX6_product 134 = .ok (.getfield 26, 3) := by decide +kernel
theorem dX6_product_137 : decode cX6_product 137 = .ok (.invokevirtual 105, 3) := by decide +kernel
theorem dX6_product_140 : decode cX6_product 140 = .ok (.aload_n 0, 1) := by decide +kernel
theorem dX6_product_141 : decode cX6_product 141 = .ok (.aload_n 0, 1) := by decide +kernel
theorem dX6_product_142 : decode cX6_product 142 = .ok (.getfield 26, 3) := by decide +kernel
theorem dX6_product_145 : decode cX6_product 145 = .ok (.aload_n 0, 1) := by decide +kernel
theorem dX6_product_146 : decode cX6_product 146 = .ok (.getfield 29, 3) := by decide +kernel
theorem dX6_product_149 : decode cX6_product 149 = .ok (.aload_n 0, 1) := by decide +kernel
theorem dX6_product_150 : decode cX6_product 150 = .ok (.getfield 32, 3) := by decide +kernel
theorem dX6_product_153 : decode cX6_product 153 = .ok (.invokevirtual 102, 3) := by decide +kernel
theorem dX6_product_156 : decode cX6_product 156 = .ok (.aload_n 0, 1) := by decide +kernel
theorem dX6_product_157 : decode cX6_product 157 = .ok (.iload_n 1, 1) := by decide +kernel
theorem dX6_product_158 : decode cX6_product 158 = .ok (.aload_n 0, 1) := by decide +kernel
theorem dX6_product_159 : decode cX6_product 159 = .ok (.getfield 26, 3) := by decide +kernel
theorem dX6_product_162 : decode cX6_product 162 = .ok (.invokevirtual 105, 3) := by decide +kernel
theorem dX6_product_165 : decode cX6_product 165 = .ok (.aload_n 0, 1) := by decide +kernel
theorem dX6_product_166 : decode cX6_product 166 = .ok (.getfield 26, 3) := by decide +kernel
theorem dX6_product_169 : decode cX6_product 169 = .ok (.aload_n 0, 1) := by decide +kernel
theorem dX6_product_170 : decode cX6_product 170 = .ok (.getfield 32, 3) := by decide +kernel
theorem dX6_product_173 : decode cX6_product 173 = .ok (.aload_n 0, 1) := by decide +kernel
theorem dX6_product_174 : decode cX6_product 174 = .ok (.getfield 38, 3) := by decide +kernel
theorem dX6_product_177 : decode cX6_product 177 = .ok (.invokestatic 94, 3) := by decide +kernel
theorem dX6_product_180 : decode cX6_product 180 = .ok (.aload_n 0, 1) := by decide +kernel
theorem dX6_product_181 : decode cX6_product 181 = .ok (.getfield 38, 3) := by decide +kernel
theorem dX6_product_184 : decode cX6_product 184 = .ok (.aload_n 0, 1) := by decide +kernel
theorem dX6_product_185 : decode cX6_product 185 = .ok (.getfield 26, 3) := by decide +kernel
theorem dX6_product_188 : decode cX6_product 188 = .ok (.invokestatic 98, 3) := by decide +kernel
theorem dX6_product_191 : decode cX6_product 191 = .ok (.aload_n 0, 1) := by decide +kernel
theorem dX6_product_192 : decode cX6_product 192 = .ok (.aload_n 0, 1) := by decide +kernel
theorem dX6_product_193 : decode cX6_product 193 = .ok (.getfield 35, 3) := by decide +kernel
theorem dX6_product_196 : decode cX6_product 196 = .ok (.aload_n 0, 1) := by decide +kernel
theorem dX6_product_197 : decode cX6_product 197 = .ok (.getfield 29, 3) := by decide +kernel
theorem dX6_product_200 : decode cX6_product 200 = .ok (.aload_n 0, 1) := by decide +kernel
theorem dX6_product_201 : decode cX6_product 201 = .ok (.getfield 32, 3) := by decide +kernel
theorem dX6_product_204 : decode cX6_product 204 = .ok (.invokevirtual 102, 3) := by decide +kernel
theorem dX6_product_207 : decode cX6_product 207 = .ok (.aload_n 0, 1) := by decide +kernel
theorem dX6_product_208 : decode cX6_product 208 = .ok (.aload_n 0, 1) := by decide +kernel
theorem dX6_product_209 : decode cX6_product 209 = .ok (.getfield 26, 3) := by decide +kernel
theorem dX6_product_212 : decode cX6_product 212 = .ok (.iload 5, 2) := by decide +kernel
theorem dX6_product_214 : decode cX6_product 214 = .ok (.invokevirtual 114, 3) := by decide +kernel
theorem dX6_product_217 : decode cX6_product 217 = .ok (.istore 7, 2) := by decide +kernel
theorem dX6_product_219 : decode cX6_product 219 = .ok (.aload_n 0, 1) := by decide +kernel
theorem dX6_product_220 : decode cX6_product 220 = .ok (.aload_n 0, 1) := by decide +kernel
theorem dX6_product_221 : decode cX6_product 221 = .ok (.getfield 32, 3) := by decide +kernel
theorem dX6_product_224 : decode cX6_product 224 = .ok (.iload 6, 2) := by decide +kernel
theorem dX6_product_226 : decode cX6_product 226 = .ok (.invokevirtual 114, 3) := by decide +kernel
theorem dX6_product_229 : decode cX6_product 229 = .ok (.istore 8, 2) := by decide +kernel
theorem dX6_product_231 : decode cX6_product 231 = .ok (.iconst 1, 1) := by decide +kernel
theorem dX6_product_232 : decode cX6_product 232 = .ok (.ireturn, 1) := by decide +kernel
theorem dX6_back_0 : decode cX6_back 0 = .ok (.iload_n 1, 1) := by decide +kernel
theorem dX6_back_1 : decode cX6_back 1 = .ok (.invokestatic 74, 3) := by decide +kernel
theorem dX6_back_4 : decode cX6_back 4 = .ok (.ifCond .eq 31, 3) := by decide +kernel
theorem dX6_back_7 : decode cX6_back 7 = .ok (.iload_n 2, 1) := by decide +kernel
theorem dX6_back_8 : decode cX6_back 8 = .ok (.invokestatic 74, 3) := by decide +kernel
theorem dX6_back_11 : decode cX6_back 11 = .ok (.ifCond .eq 24, 3) := by decide +kernel
theorem dX6_back_14 : decode cX6_back 14 = .ok (.iload_n 3, 1) := by decide +kernel
theorem dX6_back_15 : decode cX6_back 15 = .ok (.invokestatic 74, 3) := by decide +kernel
theorem dX6_back_18 : decode cX6_back 18 = .ok (.ifCond .eq 17, 3) := by decide +kernel
theorem dX6_back_21 : decode cX6_back 21 = .ok (.iload 4, 2) := by decide +kernel
theorem dX6_back_23 : decode cX6_back 23 = .ok (.invokestatic 74, 3) := by decide +kernel
theorem dX6_back_26 : decode cX6_back 26 = .ok (.ifCond .eq 9, 3) := by decide +kernel
theorem dX6_back_29 : decode cX6_back 29 = .ok (.iload_n 3, 1) := by decide +kernel
theorem dX6_back_30 : decode cX6_back 30 = .ok (.iload 4, 2) := by decide +kernel
theorem dX6_back_32 : decode cX6_back 32 = .ok (.if_icmp .ne 6, 3) := by decide +kernel
theorem dX6_back_35 : decode cX6_back 35 = .ok (.bipush (-2), 2) := by decide +kernel
theorem dX6_back_37 : decode cX6_back 37 = .ok (.ireturn, 1) := by decide +kernel
theorem dX6_back_38 : decode cX6_back 38 = .ok (.aload_n 0, 1) := by decide +kernel
theorem dX6_back_39 : decode cX6_back 39 = .ok (.iload_n 1, 1) := by decide +kernel
theorem dX6_back_40 : decode cX6_back 40 = .ok (.invokevirtual 118, 3) := by decide +kernel
theorem dX6_back_43 : decode cX6_back 43 = .ok (.ifCond .ne 11, 3) := by decide +kernel
theorem dX6_back_46 : decode cX6_back 46 = .ok (.aload_n 0, 1) := by decide +kernel
theorem dX6_back_47 : decode cX6_back 47 = .ok (.iload_n 2, 1) := by decide +kernel
theorem dX6_back_48 : decode cX6_back 48 = .ok (.invokevirtual 118, 3) := by decide +kernel
theorem dX6_back_51 : decode cX6_back 51 = .ok (.ifCond .eq 6, 3) := by decide +kernel
theorem dX6_back_54 : decode cX6_back 54 = .ok (.bipush (-11), 2) := by decide +kernel
theorem dX6_back_56 : decode cX6_back 56 = .ok (.ireturn, 1) := by decide +kernel
theorem dX6_back_57 : decode cX6_back 57 = .ok (.aload_n 0, 1) := by decide +kernel
theorem dX6_back_58 : decode cX6_back 58 = .ok (.iload_n 1, 1) := by decide +kernel
theorem dX6_back_59 : decode cX6_back 59 = .ok (.aload_n 0, 1) := by decide +kernel
theorem dX6_back_60 : decode cX6_back 60 = .ok (.getfield 26, 3) := by decide +kernel
theorem dX6_back_63 : decode cX6_back 63 = .ok (.invokevirtual 105, 3) := by decide +kernel
theorem dX6_back_66 : decode cX6_back 66 = .ok (.aload_n 0, 1) := by decide +kernel
theorem dX6_back_67 : decode cX6_back 67 = .ok (.iload_n 2, 1) := by decide +kernel
theorem dX6_back_68 : decode cX6_back 68 = .ok (.aload_n 0, 1) := by decide +kernel
theorem dX6_back_69 : decode cX6_back 69 = .ok (.getfield 29, 3) := by decide +kernel
theorem dX6_back_72 : decode cX6_back 72 = .ok (.invokevirtual 105, 3) := by decide +kernel
theorem dX6_back_75 : decode cX6_back 75 = .ok (.aload_n 0, 1) := by decide +kernel
theorem dX6_back_76 : decode cX6_back 76 = .ok (.invokevirtual 137, 3) := by decide +kernel
theorem dX6_back_79 : decode cX6_back 79 = .ok (.ifCond .ne 6, 3) := by decide +kernel
theorem dX6_back_82 : decode cX6_back 82 = .ok (.bipush (-3), 2) := by decide +kernel
theorem dX6_back_84 : decode cX6_back 84 = .ok (.ireturn, 1) := by decide +kernel
theorem dX6_back_85 : decode cX6_back 85 = .ok (.aload_n 0, 1) := by decide +kernel
theorem dX6_back_86 : decode cX6_back 86 = .ok (.aload_n 0, 1) := by decide +kernel
theorem dX6_back_87 : decode cX6_back 87 = .ok (.getfield 35, 3) := by decide +kernel
theorem dX6_back_90 : decode cX6_back 90 = .ok (.iload_n 3, 1) := by decide +kernel
theorem dX6_back_91 : decode cX6_back 91 = .ok (.invokevirtual 114, 3) := by decide +kernel
theorem dX6_back_94 : decode cX6_back 94 = .ok (.istore 5, 2) := by decide +kernel
theorem dX6_back_96 : decode cX6_back 96 = .ok (.aload_n 0, 1) := by decide +kernel
theorem dX6_back_97 : decode cX6_back 97 = .ok (.aload_n 0, 1) := by decide +kernel
theorem dX6_back_98 : decode cX6_back 98 = .ok (.getfield 32, 3) := by decide +kernel
theorem dX6_back_101 : decode cX6_back 101 = .ok (.iload 4, 2) := by decide +kernel
theorem dX6_back_103 : decode cX6_back 103 = .ok (.invokevirtual 114, 3) := by decide +kernel
theorem dX6_back_106 : decode cX6_back 106 = .ok (.istore 6, 2) := by decide +kernel
theorem dX6_back_108 : decode cX6_back 108 = .ok (.iconst 1, 1) := by decide +kernel
theorem dX6_back_109 : decode cX6_back 109 = .ok (.ireturn, 1) := by decide +kernel
theorem dX6_aRow_0 : decode cX6_aRow 0 = .ok (.iload_n 1, 1) := by decide +kernel
theorem dX6_aRow_1 : decode cX6_aRow 1 = .ok (.invokestatic 74, 3) := by decide +kernel
theorem dX6_aRow_4 : decode cX6_aRow 4 = .ok (.ifCond .eq 10, 3) := by decide +kernel
theorem dX6_aRow_7 : decode cX6_aRow 7 = .ok (.iload_n 2, 1) := by decide +kernel
theorem dX6_aRow_8 : decode cX6_aRow 8 = .ok (.invokestatic 74, 3) := by decide +kernel
theorem dX6_aRow_11 : decode cX6_aRow 11 = .ok (.ifCond .ne 6, 3) := by decide +kernel
theorem dX6_aRow_14 : decode cX6_aRow 14 = .ok (.bipush (-2), 2) := by decide +kernel
theorem dX6_aRow_16 : decode cX6_aRow 16 = .ok (.ireturn, 1) := by decide +kernel
theorem dX6_aRow_17 : decode cX6_aRow 17 = .ok (.aload_n 0, 1) := by decide +kernel
theorem dX6_aRow_18 : decode cX6_aRow 18 = .ok (.iload_n 1, 1) := by decide +kernel
theorem dX6_aRow_19 : decode cX6_aRow 19 = .ok (.invokevirtual 118, 3) := by decide +kernel
theorem dX6_aRow_22 : decode cX6_aRow 22 = .ok (.ifCond .eq 6, 3) := by decide +kernel
theorem dX6_aRow_25 : decode cX6_aRow 25 = .ok (.bipush (-11), 2) := by decide +kernel
theorem dX6_aRow_27 : decode cX6_aRow 27 = .ok (.ireturn, 1) := by decide +kernel
theorem dX6_aRow_28 : decode cX6_aRow 28 = .ok (.aload_n 0, 1) := by decide +kernel
theorem dX6_aRow_29 : decode cX6_aRow 29 = .ok (.iload_n 1, 1) := by decide +kernel
theorem dX6_aRow_30 : decode cX6_aRow 30 = .ok (.aload_n 0, 1) := by decide +kernel
theorem dX6_aRow_31 : decode cX6_aRow 31 = .ok (.getfield 26, 3) := by decide +kernel
theorem dX6_aRow_34 : decode cX6_aRow 34 = .ok (.invokevirtual 105, 3) := by decide +kernel
theorem dX6_aRow_37 : decode cX6_aRow 37 = .ok (.aload_n 0, 1) := by decide +kernel
theorem dX6_aRow_38 : decode cX6_aRow 38 = .ok (.getfield 26, 3) := by decide +kernel
theorem dX6_aRow_41 : decode cX6_aRow 41 = .ok (.invokestatic 124, 3) := by decide +kernel
theorem dX6_aRow_44 : decode cX6_aRow 44 = .ok (.ifCond .ne 6, 3) := by decide +kernel
theorem dX6_aRow_47 : decode cX6_aRow 47 = .ok (.bipush (-3), 2) := by decide +kernel
theorem dX6_aRow_49 : decode cX6_aRow 49 = .ok (.ireturn, 1) := by decide +kernel
theorem dX6_aRow_50 : decode cX6_aRow 50 = .ok (.aload_n 0, 1) := by decide +kernel
theorem dX6_aRow_51 : decode cX6_aRow 51 = .ok (.aload_n 0, 1) := by decide +kernel
theorem dX6_aRow_52 : decode cX6_aRow 52 = .ok (.getfield 26, 3) := by decide +kernel
theorem dX6_aRow_55 : decode cX6_aRow 55 = .ok (.aload_n 0, 1) := by decide +kernel
theorem dX6_aRow_56 : decode cX6_aRow 56 = .ok (.getfield 29, 3) := by decide +kernel
theorem dX6_aRow_59 : decode cX6_aRow 59 = .ok (.invokevirtual 128, 3) := by decide +kernel
theorem dX6_aRow_62 : decode cX6_aRow 62 = .ok (.iconst 0, 1) := by decide +kernel
theorem dX6_aRow_63 : decode cX6_aRow 63 = .ok (.istore_n 3, 1) := by decide +kernel
theorem dX6_aRow_64 : decode cX6_aRow 64 = .ok (.iload_n 3, 1) := by decide +kernel
theorem dX6_aRow_65 : decode cX6_aRow 65 = .ok (.bipush 10, 2) := by decide +kernel
theorem dX6_aRow_67 : decode cX6_aRow 67 = .ok (.if_icmp .ge 33, 3) := by decide +kernel
theorem dX6_aRow_70 : decode cX6_aRow 70 = .ok (.aload_n 0, 1) := by decide +kernel
theorem dX6_aRow_71 : decode cX6_aRow 71 = .ok (.getfield 32, 3) := by decide +kernel
theorem dX6_aRow_74 : decode cX6_aRow 74 = .ok (.iload_n 3, 1) := by decide +kernel
theorem dX6_aRow_75 : decode cX6_aRow 75 = .ok (.iload_n 3, 1) := by decide +kernel
theorem dX6_aRow_76 : decode cX6_aRow 76 = .ok (.bipush 9, 2) := by decide +kernel
theorem dX6_aRow_78 : decode cX6_aRow 78 = .ok (.if_icmp .ge 14, 3) := by decide +kernel
theorem dX6_aRow_81 : decode cX6_aRow 81 = .ok (.aload_n 0, 1) := by decide +kernel
theorem dX6_aRow_82 : decode cX6_aRow 82 = .ok (.getfield 29, 3) := by decide +kernel
theorem dX6_aRow_85 : decode cX6_aRow 85 = .ok (.iload_n 3, 1) := by decide +kernel
theorem dX6_aRow_86 : decode cX6_aRow 86 = .ok (.iconst 1, 1) := by decide +kernel
theorem dX6_aRow_87 : decode cX6_aRow 87 = .ok (.iadd, 1) := by decide +kernel
theorem dX6_aRow_88 : decode cX6_aRow 88 = .ok (.iaload, 1) := by decide +kernel
theorem dX6_aRow_89 : decode cX6_aRow 89 = .ok (.goto 4, 3) := by decide +kernel
theorem dX6_aRow_92 : decode cX6_aRow 92 = .ok (.iconst 0, 1) := by decide +kernel
theorem dX6_aRow_93 : decode cX6_aRow 93 = .ok (.iastore, 1) := by decide +kernel
theorem dX6_aRow_94 : decode cX6_aRow 94 = .ok (.iinc 3 1, 3) := by decide +kernel
theorem dX6_aRow_97 : decode cX6_aRow 97 = .ok (.goto (-33), 3) := by decide +kernel
theorem dX6_aRow_100 : decode cX6_aRow 100 = .ok (.aload_n 0, 1) := by decide +kernel
theorem dX6_aRow_101 : decode cX6_aRow 101 = .ok (.getfield 26, 3) := by decide +kernel
theorem dX6_aRow_104 : decode cX6_aRow 104 = .ok (.invokestatic 90, 3) := by decide +kernel
theorem dX6_aRow_107 : decode cX6_aRow 107 = .ok (.aload_n 0, 1) := by decide +kernel
theorem dX6_aRow_108 : decode cX6_aRow 108 = .ok (.getfield 26, 3) := by decide +kernel
theorem dX6_aRow_111 : decode cX6_aRow 111 = .ok (.aload_n 0, 1) := by decide +kernel
theorem dX6_aRow_112 : decode cX6_aRow 112 = .ok (.getfield 32, 3) := by decide +kernel
theorem dX6_aRow_115 : decode cX6_aRow 115 = .ok (.aload_n 0, 1) := by decide +kernel
theorem dX6_aRow_116 : decode cX6_aRow 116 = .ok (.getfield 35, 3) := by decide +kernel
theorem dX6_aRow_119 : decode cX6_aRow 119 = .ok (.invokestatic 121, 3) := by decide +kernel
theorem dX6_aRow_122 : decode cX6_aRow 122 = .ok (.aload_n 0, 1) := by decide +kernel
theorem dX6_aRow_123 : decode cX6_aRow 123 = .ok (.getfield 35, 3) := by decide +kernel
theorem dX6_aRow_126 : decode cX6_aRow 126 = .ok (.bipush 9, 2) := by decide +kernel
theorem dX6_aRow_128 : decode cX6_aRow 128 = .ok (.iconst 0, 1) := by decide +kernel
theorem dX6_aRow_129 : decode cX6_aRow 129 = .ok (.iastore, 1) := by decide +kernel
theorem dX6_aRow_130 : decode cX6_aRow 130 = .ok (.aload_n 0, 1) := by decide +kernel
theorem dX6_aRow_131 : decode cX6_aRow 131 = .ok (.aload_n 0, 1) := by decide +kernel
theorem dX6_aRow_132 : decode cX6_aRow 132 = .ok (.getfield 35, 3) := by decide +kernel
theorem dX6_aRow_135 : decode cX6_aRow 135 = .ok (.iload_n 2, 1) := by decide +kernel
theorem dX6_aRow_136 : decode cX6_aRow 136 = .ok (.invokevirtual 114, 3) := by decide +kernel
theorem dX6_aRow_139 : decode cX6_aRow 139 = .ok (.istore_n 3, 1) := by decide +kernel
theorem dX6_aRow_140 : decode cX6_aRow 140 = .ok (.aload_n 0, 1) := by decide +kernel
theorem dX6_aRow_141 : decode cX6_aRow 141 = .ok (.getfield 35, 3) := by decide +kernel
theorem dX6_aRow_144 : decode cX6_aRow 144 = .ok (.iconst 0, 1) := by decide +kernel
theorem dX6_aRow_145 : decode cX6_aRow 145 = .ok (.iaload, 1) := by decide +kernel
theorem dX6_aRow_146 : decode cX6_aRow 146 = .ok (.ireturn, 1) := by decide +kernel
theorem dX6_count_0 : decode cX6_count 0 = .ok (.iconst 0, 1) := by decide +kernel
theorem dX6_count_1 : decode cX6_count 1 = .ok (.istore_n 2, 1) := by decide +kernel
theorem dX6_count_2 : decode cX6_count 2 = .ok (.iload_n 1, 1) := by decide +kernel
theorem dX6_count_3 : decode cX6_count 3 = .ok (.tableswitch 95 0 2 #[25, 58, 90], 25) := by decide +kernel
theorem dX6_count_28 : decode cX6_count 28 = .ok (.iconst 0, 1) := by decide +kernel
theorem dX6_count_29 : decode cX6_count 29 = .ok (.istore_n 3, 1) := by decide +kernel
theorem dX6_count_30 : decode cX6_count 30 = .ok (.iload_n 3, 1) := by decide +kernel
theorem dX6_count_31 : decode cX6_count 31 = .ok (.bipush 8, 2) := by decide +kernel
theorem dX6_count_33 : decode cX6_count 33 = .ok (.if_icmp .ge 26, 3) := by decide +kernel
theorem dX6_count_36 : decode cX6_count 36 = .ok (.iload_n 2, 1) := by decide +kernel
theorem dX6_count_37 : decode cX6_count 37 = .ok (.aload_n 0, 1) := by decide +kernel
theorem dX6_count_38 : decode cX6_count 38 = .ok (.getfield 7, 3) := by decide +kernel
theorem dX6_count_41 : decode cX6_count 41 = .ok (.iload_n 3, 1) := by decide +kernel
theorem dX6_count_42 : decode cX6_count 42 = .ok (.baload, 1) := by decide +kernel
theorem dX6_count_43 : decode cX6_count 43 = .ok (.ifCond .eq 7, 3) := by decide +kernel
theorem dX6_count_46 : decode cX6_count 46 = .ok (.iconst 1, 1) := by decide +kernel
theorem dX6_count_47 : decode cX6_count 47 = .ok (.goto 4, 3) := by decide +kernel
theorem dX6_count_50 : decode cX6_count 50 = .ok (.iconst 0, 1) := by decide +kernel
theorem dX6_count_51 : decode cX6_count 51 = .ok (.iadd, 1) := by decide +kernel
theorem dX6_count_52 : decode cX6_count 52 = .ok (.istore_n 2, 1) := by decide +kernel
theorem dX6_count_53 : decode cX6_count 53 = .ok (.iinc 3 1, 3) := by decide +kernel
theorem dX6_count_56 : decode cX6_count 56 = .ok (.goto (-26), 3) := by decide +kernel
theorem dX6_count_59 : decode cX6_count 59 = .ok (.iload_n 2, 1) := by decide +kernel
theorem dX6_count_60 : decode cX6_count 60 = .ok (.ireturn, 1) := by decide +kernel
theorem dX6_count_61 : decode cX6_count 61 = .ok (.iconst 0, 1) := by decide +kernel
theorem dX6_count_62 : decode cX6_count 62 = .ok (.istore_n 3, 1) := by decide +kernel
theorem dX6_count_63 : decode cX6_count 63 = .ok (.iload_n 3, 1) := by decide +kernel
theorem dX6_count_64 : decode cX6_count 64 = .ok (.iconst 4, 1) := by decide +kernel
theorem dX6_count_65 : decode cX6_count 65 = .ok (.if_icmp .ge 26, 3) := by decide +kernel
theorem dX6_count_68 : decode cX6_count 68 = .ok (.iload_n 2, 1) := by decide +kernel
theorem dX6_count_69 : decode cX6_count 69 = .ok (.aload_n 0, 1) := by decide +kernel
theorem dX6_count_70 : decode cX6_count 70 = .ok (.getfield 50, 3) := by decide +kernel
theorem dX6_count_73 : decode cX6_count 73 = .ok (.iload_n 3, 1) := by decide +kernel
theorem dX6_count_74 : decode cX6_count 74 = .ok (.baload, 1) := by decide +kernel
theorem dX6_count_75 : decode cX6_count 75 = .ok (.ifCond .eq 7, 3) := by decide +kernel
theorem dX6_count_78 : decode cX6_count 78 = .ok (.iconst 1, 1) := by decide +kernel
theorem dX6_count_79 : decode cX6_count 79 = .ok (.goto 4, 3) := by decide +kernel
theorem dX6_count_82 : decode cX6_count 82 = .ok (.iconst 0, 1) := by decide +kernel
theorem dX6_count_83 : decode cX6_count 83 = .ok (.iadd, 1) := by decide +kernel
theorem dX6_count_84 : decode cX6_count 84 = .ok (.istore_n 2, 1) := by decide +kernel
theorem dX6_count_85 : decode cX6_count 85 = .ok (.iinc 3 1, 3) := by decide +kernel
theorem dX6_count_88 : decode cX6_count 88 = .ok (.goto (-25), 3) := by decide +kernel
theorem dX6_count_91 : decode cX6_count 91 = .ok (.iload_n 2, 1) := by decide +kernel
theorem dX6_count_92 : decode cX6_count 92 = .ok (.ireturn, 1) := by decide +kernel
theorem dX6_count_93 : decode cX6_count 93 = .ok (.aload_n 0, 1) := by decide +kernel
theorem dX6_count_94 : decode cX6_count 94 = .ok (.getfield 66, 3) := by decide +kernel
theorem dX6_count_97 : decode cX6_count 97 = .ok (.ireturn, 1) := by decide +kernel
theorem dX6_count_98 : decode cX6_count 98 = .ok (.bipush (-2), 2) := by decide +kernel
theorem dX6_count_100 : decode cX6_count 100 = .ok (.ireturn, 1) := by decide +kernel
theorem dX6_digest_0 : decode cX6_digest 0 = .ok (.ldc2_w 162, 3) := by decide +kernel
theorem dX6_digest_3 : decode cX6_digest 3 = .ok (.lstore_n 1, 1) := by decide +kernel
theorem dX6_digest_4 : decode cX6_digest 4 = .ok (.ldc2_w 164, 3) := by decide +kernel
theorem dX6_digest_7 : decode cX6_digest 7 = .ok (.lload_n 1, 1) := by decide +kernel
theorem dX6_digest_8 : decode cX6_digest 8 = .ok (.lmul, 1) := by decide +kernel
theorem dX6_digest_9 : decode cX6_digest 9 = .ok (.aload_n 0, 1) := by decide +kernel
theorem dX6_digest_10 : decode cX6_digest 10 = .ok (.iconst 0, 1) := by decide +kernel
theorem dX6_digest_11 : decode cX6_digest 11 = .ok (.invokevirtual 166, 3) := by decide +kernel
theorem dX6_digest_14 : decode cX6_digest 14 = .ok (.i2l, 1) := by decide +kernel
theorem dX6_digest_15 : decode cX6_digest 15 = .ok (.ladd, 1) := by decide +kernel
theorem dX6_digest_16 : decode cX6_digest 16 = .ok (.lstore_n 1, 1) := by decide +kernel
theorem dX6_digest_17 : decode cX6_digest 17 = .ok (.ldc2_w 164, 3) := by decide +kernel
theorem dX6_digest_20 : decode cX6_digest 20 = .ok (.lload_n 1, 1) := by decide +kernel
theorem dX6_digest_21 : decode cX6_digest 21 = .ok (.lmul, 1) := by decide +kernel
theorem dX6_digest_22 : decode cX6_digest 22 = .ok (.aload_n 0, 1) := by decide +kernel
theorem dX6_digest_23 : decode cX6_digest 23 = .ok (.iconst 1, 1) := by decide +kernel
theorem dX6_digest_24 : decode cX6_digest 24 = .ok (.invokevirtual 166, 3) := by decide +kernel
theorem dX6_digest_27 : decode cX6_digest 27 = .ok (.i2l, 1) := by decide +kernel
theorem dX6_digest_28 : decode cX6_digest 28 = .ok (.ladd, 1) := by decide +kernel
theorem dX6_digest_29 : decode cX6_digest 29 = .ok (.lstore_n 1, 1) := by decide +kernel
theorem dX6_digest_30 : decode cX6_digest 30 = .ok (.iconst 0, 1) := by decide +kernel
theorem dX6_digest_31 : decode cX6_digest 31 = .ok (.istore_n 3, 1) := by decide +kernel
theorem dX6_digest_32 : decode cX6_digest 32 = .ok (.iload_n 3, 1) := by decide +kernel
theorem dX6_digest_33 : decode cX6_digest 33 = .ok (.bipush 8, 2) := by decide +kernel
theorem dX6_digest_35 : decode cX6_digest 35 = .ok (.if_icmp .ge 67, 3) := by decide +kernel
theorem dX6_digest_38 : decode cX6_digest 38 = .ok (.aload_n 0, 1) := by decide +kernel
theorem dX6_digest_39 : decode cX6_digest 39 = .ok (.getfield 7, 3) := by decide +kernel
theorem dX6_digest_42 : decode cX6_digest 42 = .ok (.iload_n 3, 1) := by decide +kernel
theorem dX6_digest_43 : decode cX6_digest 43 = .ok (.baload, 1) := by decide +kernel
theorem dX6_digest_44 : decode cX6_digest 44 = .ok (.ifCond .eq 52, 3) := by decide +kernel
theorem dX6_digest_47 : decode cX6_digest 47 = .ok (.ldc2_w 164, 3) := by decide +kernel
theorem dX6_digest_50 : decode cX6_digest 50 = .ok (.lload_n 1, 1) := by decide +kernel
theorem dX6_digest_51 : decode cX6_digest 51 = .ok (.lmul, 1) := by decide +kernel
theorem dX6_digest_52 : decode cX6_digest 52 = .ok (.iload_n 3, 1) := by decide +kernel
theorem dX6_digest_53 : decode cX6_digest 53 = .ok (.i2l, 1) := by decide +kernel
theorem dX6_digest_54 : decode cX6_digest 54 = .ok (.ladd, 1) := by decide +kernel
theorem dX6_digest_55 : decode cX6_digest 55 = .ok (.lstore_n 1, 1) := by decide +kernel
theorem dX6_digest_56 : decode cX6_digest 56 = .ok (.aload_n 0, 1) := by decide +kernel
theorem dX6_digest_57 : decode cX6_digest 57 = .ok (.iload_n 3, 1) := by decide +kernel
theorem dX6_digest_58 : decode cX6_digest 58 = .ok (.aload_n 0, 1) := by decide +kernel
theorem dX6_digest_59 : decode cX6_digest 59 = .ok (.getfield 26, 3) := by decide +kernel
theorem dX6_digest_62 : decode cX6_digest 62 = .ok (.invokevirtual 105, 3) := by decide +kernel
theorem dX6_digest_65 : decode cX6_digest 65 = .ok (.iconst 0, 1) := by decide +kernel
theorem dX6_digest_66 : decode cX6_digest 66 = .ok (.istore 4, 2) := by decide +kernel
theorem dX6_digest_68 : decode cX6_digest 68 = .ok (.iload 4, 2) := by decide +kernel
theorem dX6_digest_70 : decode cX6_digest 70 = .ok (.bipush 10, 2) := by decide +kernel
theorem dX6_digest_72 : decode cX6_digest 72 = .ok (.if_icmp .ge 24, 3) := by decide +kernel
theorem dX6_digest_75 : decode cX6_digest 75 = .ok (.ldc2_w 164, 3) := by decide +kernel
theorem dX6_digest_78 : decode cX6_digest 78 = .ok (.lload_n 1, 1) := by decide +kernel
theorem dX6_digest_79 : decode cX6_digest 79 = .ok (.lmul, 1) := by decide +kernel
theorem dX6_digest_80 : decode cX6_digest 80 = .ok (.aload_n 0, 1) := by decide +kernel
theorem dX6_digest_81 : decode cX6_digest 81 = .ok (.getfield 26, 3) := by decide +kernel
theorem dX6_digest_84 : decode cX6_digest 84 = .ok (.iload 4, 2) := by decide +kernel
theorem dX6_digest_86 : decode cX6_digest 86 = .ok (.iaload, 1) := by decide +kernel
theorem dX6_digest_87 : decode cX6_digest 87 = .ok (.i2l, 1) := by decide +kernel
theorem dX6_digest_88 : decode cX6_digest 88 = .ok (.ladd, 1) := by decide +kernel
theorem dX6_digest_89 : decode cX6_digest 89 = .ok (.lstore_n 1, 1) := by decide +kernel
theorem dX6_digest_90 : decode cX6_digest 90 = .ok (.iinc 4 1, 3) := by decide +kernel
theorem dX6_digest_93 : decode cX6_digest 93 = .ok (.goto (-25), 3) := by decide +kernel
theorem dX6_digest_96 : decode cX6_digest 96 = .ok (.iinc 3 1, 3) := by decide +kernel
theorem dX6_digest_99 : decode cX6_digest 99 = .ok (.goto (-67), 3) := by decide +kernel
theorem dX6_digest_102 : decode cX6_digest 102 = .ok (.iconst 0, 1) := by decide +kernel
theorem dX6_digest_103 : decode cX6_digest 103 = .ok (.istore_n 3, 1) := by decide +kernel
theorem dX6_digest_104 : decode cX6_digest 104 = .ok (.iload_n 3, 1) := by decide +kernel
theorem dX6_digest_105 : decode cX6_digest 105 = .ok (.iconst 4, 1) := by decide +kernel
theorem dX6_digest_106 : decode cX6_digest 106 = .ok (.if_icmp .ge 66, 3) := by decide +kernel
theorem dX6_digest_109 : decode cX6_digest 109 = .ok (.aload_n 0, 1) := by decide +kernel
theorem dX6_digest_110 : decode cX6_digest 110 = .ok (.getfield 50, 3) := by decide +kernel
theorem dX6_digest_113 : decode cX6_digest 113 = .ok (.iload_n 3, 1) := by decide +kernel
theorem dX6_digest_114 : decode cX6_digest 114 = .ok (.baload, 1) := by decide +kernel
theorem dX6_digest_115 : decode cX6_digest 115 = .ok (.ifCond .eq 51, 3) := by decide +kernel
theorem dX6_digest_118 : decode cX6_digest 118 = .ok (.ldc2_w 164, 3) := by decide +kernel
theorem dX6_digest_121 : decode cX6_digest 121 = .ok (.lload_n 1, 1) := by decide +kernel
theorem dX6_digest_122 : decode cX6_digest 122 = .ok (.lmul, 1) := by decide +kernel
theorem dX6_digest_123 : decode cX6_digest 123 = .ok (.iload_n 3, 1) := by decide +kernel
theorem dX6_digest_124 : decode cX6_digest 124 = .ok (.i2l, 1) := by decide +kernel
theorem dX6_digest_125 : decode cX6_digest 125 = .ok (.ladd, 1) := by decide +kernel
theorem dX6_digest_126 : decode cX6_digest 126 = .ok (.lstore_n 1, 1) := by decide +kernel
theorem dX6_digest_127 : decode cX6_digest 127 = .ok (.iconst 0, 1) := by decide +kernel
theorem dX6_digest_128 : decode cX6_digest 128 = .ok (.istore 4, 2) := by decide +kernel
theorem dX6_digest_130 : decode cX6_digest 130 = .ok (.iload 4, 2) := by decide +kernel
theorem dX6_digest_132 : decode cX6_digest 132 = .ok (.bipush 10, 2) := by decide +kernel
theorem dX6_digest_134 : decode cX6_digest 134 = .ok (.if_icmp .ge 32, 3) := by decide +kernel
theorem dX6_digest_137 : decode cX6_digest 137 = .ok (.ldc2_w 164, 3) := by decide +kernel
theorem dX6_digest_140 : decode cX6_digest 140 = .ok (.lload_n 1, 1) := by decide +kernel
theorem dX6_digest_141 : decode cX6_digest 141 = .ok (.lmul, 1) := by decide +kernel
theorem dX6_digest_142 : decode cX6_digest 142 = .ok (.aload_n 0, 1) := by decide +kernel
theorem dX6_digest_143 : decode cX6_digest 143 = .ok (.getfield 53, 3) := by decide +kernel
theorem dX6_digest_146 : decode cX6_digest 146 = .ok (.bipush 100, 2) := by decide +kernel
theorem dX6_digest_148 : decode cX6_digest 148 = .ok (.iload_n 3, 1) := by decide +kernel
theorem dX6_digest_149 : decode cX6_digest 149 = .ok (.imul, 1) := by decide +kernel
theorem dX6_digest_150 : decode cX6_digest 150 = .ok (.bipush 90, 2) := by decide +kernel
theorem dX6_digest_152 : decode cX6_digest 152 = .ok (.iadd, 1) := by decide +kernel
theorem dX6_digest_153 : decode cX6_digest 153 = .ok (.iload 4, 2) := by decide +kernel
theorem dX6_digest_155 : decode cX6_digest 155 = .ok (.iadd, 1) := by decide +kernel
theorem dX6_digest_156 : decode cX6_digest 156 = .ok (.iaload, 1) := by decide +kernel
theorem dX6_digest_157 : decode cX6_digest 157 = .ok (.i2l, 1) := by decide +kernel
theorem dX6_digest_158 : decode cX6_digest 158 = .ok (.ladd, 1) := by decide +kernel
theorem dX6_digest_159 : decode cX6_digest 159 = .ok (.lstore_n 1, 1) := by decide +kernel
theorem dX6_digest_160 : decode cX6_digest 160 = .ok (.iinc 4 1, 3) := by decide +kernel
theorem dX6_digest_163 : decode cX6_digest 163 = .ok (.goto (-33), 3) := by decide +kernel
theorem dX6_digest_166 : decode cX6_digest 166 = .ok (.iinc 3 1, 3) := by decide +kernel
theorem dX6_digest_169 : decode cX6_digest 169 = .ok (.goto (-65), 3) := by decide +kernel
theorem dX6_digest_172 : decode cX6_digest 172 = .ok (.lload_n 1, 1) := by decide +kernel
theorem dX6_digest_173 : decode cX6_digest 173 = .ok (.lreturn, 1) := by decide +kernel
