theorem dX5_init_0 : decode cX5_init 0 = .ok (.aload_n 0, 1) := by decide +kernel
theorem dX5_init_1 : decode cX5_init 1 = .ok (.invokespecial 3, 3) := by decide +kernel
theorem dX5_init_4 : decode cX5_init 4 = .ok (.aload_n 0, 1) := by decide +kernel
theorem dX5_init_5 : decode cX5_init 5 = .ok (.bipush 8, 2) := by decide +kernel
theorem dX5_init_7 : decode cX5_init 7 = .ok (.anewarray 9, 3) := by decide +kernel
theorem dX5_init_10 : decode cX5_init 10 = .ok (.putfield 11, 3) := by decide +kernel
theorem dX5_init_13 : decode cX5_init 13 = .ok (.aload_n 0, 1) := by decide +kernel
theorem dX5_init_14 : decode cX5_init 14 = .ok (.iconst 4, 1) := by decide +kernel
theorem dX5_init_15 : decode cX5_init 15 = .ok (.anewarray 15, 3) := by decide +kernel
theorem dX5_init_18 : decode cX5_init 18 = .ok (.putfield 17, 3) := by decide +kernel
theorem dX5_init_21 : decode cX5_init 21 = .ok (.aload_n 0, 1) := by decide +kernel
theorem dX5_init_22 : decode cX5_init 22 = .ok (.new 21, 3) := by decide +kernel
theorem dX5_init_25 : decode cX5_init 25 = .ok (.dup, 1) := by decide +kernel
theorem dX5_init_26 : decode cX5_init 26 = .ok (.invokespecial 23, 3) := by decide +kernel
theorem dX5_init_29 : decode cX5_init 29 = .ok (.putfield 24, 3) := by decide +kernel
theorem dX5_init_32 : decode cX5_init 32 = .ok (.aload_n 0, 1) := by decide +kernel
theorem dX5_init_33 : decode cX5_init 33 = .ok (.new 28, 3) := by decide +kernel
theorem dX5_init_36 : decode cX5_init 36 = .ok (.dup, 1) := by decide +kernel
theorem dX5_init_37 : decode cX5_init 37 = .ok (.invokespecial 30, 3) := by decide +kernel
theorem dX5_init_40 : decode cX5_init 40 = .ok (.putfield 31, 3) := by decide +kernel
theorem dX5_init_43 : decode cX5_init 43 = .ok (.aload_n 0, 1) := by decide +kernel
theorem dX5_init_44 : decode cX5_init 44 = .ok (.new 28, 3) := by decide +kernel
theorem dX5_init_47 : decode cX5_init 47 = .ok (.dup, 1) := by decide +kernel
theorem dX5_init_48 : decode cX5_init 48 = .ok (.invokespecial 30, 3) := by decide +kernel
theorem dX5_init_51 : decode cX5_init 51 = .ok (.putfield 35, 3) := by decide +kernel
theorem dX5_init_54 : decode cX5_init 54 = .ok (.aload_n 0, 1) := by decide +kernel
theorem dX5_init_55 : decode cX5_init 55 = .ok (.new 28, 3) := by decide +kernel
theorem dX5_init_58 : decode cX5_init 58 = .ok (.dup, 1) := by decide +kernel
theorem dX5_init_59 : decode cX5_init 59 = .ok (.invokespecial 30, 3) := by decide +kernel
theorem dX5_init_62 : decode cX5_init 62 = .ok (.putfield 38, 3) := by decide +kernel
theorem dX5_init_65 : decode cX5_init 65 = .ok (.aload_n 0, 1) := by decide +kernel
theorem dX5_init_66 : decode cX5_init 66 = .ok (.new 28, 3) := by decide +kernel
theorem dX5_init_69 : decode cX5_init 69 = .ok (.dup, 1) := by decide +kernel
theorem dX5_init_70 : decode cX5_init 70 = .ok (.invokespecial 30, 3) := by decide +kernel
theorem dX5_init_73 : decode cX5_init 73 = .ok (.putfield 41, 3) := by decide +kernel
theorem dX5_init_76 : decode cX5_init 76 = .ok (.aload_n 0, 1) := by decide +kernel
theorem dX5_init_77 : decode cX5_init 77 = .ok (.new 28, 3) := by decide +kernel
theorem dX5_init_80 : decode cX5_init 80 = .ok (.dup, 1) := by decide +kernel
theorem dX5_init_81 : decode cX5_init 81 = .ok (.invokespecial 30, 3) := by decide +kernel
theorem dX5_init_84 : decode cX5_init 84 = .ok (.putfield 44, 3) := by decide +kernel
theorem dX5_init_87 : decode cX5_init 87 = .ok (.aload_n 0, 1) := by decide +kernel
theorem dX5_init_88 : decode cX5_init 88 = .ok (.new 28, 3) := by decide +kernel
theorem dX5_init_91 : decode cX5_init 91 = .ok (.dup, 1) := by decide +kernel
theorem dX5_init_92 : decode cX5_init 92 = .ok (.invokespecial 30, 3) := by decide +kernel
theorem dX5_init_95 : decode cX5_init 95 = .ok (.putfield 47, 3) := by decide +kernel
theorem dX5_init_98 : decode cX5_init 98 = .ok (.aload_n 0, 1) := by decide +kernel
theorem dX5_init_99 : decode cX5_init 99 = .ok (.iconst 0, 1) := by decide +kernel
theorem dX5_init_100 : decode cX5_init 100 = .ok (.putfield 50, 3) := by decide +kernel
theorem dX5_init_103 : decode cX5_init 103 = .ok (.iconst 0, 1) := by decide +kernel
theorem dX5_init_104 : decode cX5_init 104 = .ok (.istore_n 1, 1) := by decide +kernel
theorem dX5_init_105 : decode cX5_init 105 = .ok (.iload_n 1, 1) := by decide +kernel
theorem dX5_init_106 : decode cX5_init 106 = .ok (.bipush 8, 2) := by decide +kernel
theorem dX5_init_108 : decode cX5_init 108 = .ok (.if_icmp .ge 22, 3) := by decide +kernel
theorem dX5_init_111 : decode cX5_init 111 = .ok (.aload_n 0, 1) := by decide +kernel
theorem dX5_init_112 : decode cX5_init 112 = .ok (.getfield 11, 3) := by decide +kernel
theorem dX5_init_115 : decode cX5_init 115 = .ok (.iload_n 1, 1) := by decide +kernel
theorem dX5_init_116 : decode cX5_init 116 = .ok (.new 9, 3) := by decide +kernel
theorem dX5_init_119 : decode cX5_init 119 = .ok (.dup, 1) := by decide +kernel
theorem dX5_init_120 : decode cX5_init 120 = .ok (.invokespecial 54, 3) := by decide +kernel
theorem dX5_init_123 : decode cX5_init 123 = .ok (.aastore, 1) := by decide +kernel
theorem dX5_init_124 : decode cX5_init 124 = .ok (.iinc 1 1, 3) := by decide +kernel
theorem dX5_init_127 : decode cX5_init 127 = .ok (.goto (-22), 3) := by decide +kernel
theorem dX5_init_130 : decode cX5_init 130 = .ok (.iconst 0, 1) := by decide +kernel
theorem dX5_init_131 : decode cX5_init 131 = .ok (.istore_n 1, 1) := by decide +kernel
theorem dX5_init_132 : decode cX5_init 132 = .ok (.iload_n 1, 1) := by decide +kernel
theorem dX5_init_133 : decode cX5_init 133 = .ok (.iconst 4, 1) := by decide +kernel
theorem dX5_init_134 : decode cX5_init 134 = .ok (.if_icmp .ge 22, 3) := by decide +kernel
theorem dX5_init_137 : decode cX5_init 137 = .ok (.aload_n 0, 1) := by decide +kernel
theorem dX5_init_138 : decode cX5_init 138 = .ok (.getfield 17, 3) := by decide +kernel
theorem dX5_init_141 : decode cX5_init 141 = .ok (.iload_n 1, 1) := by decide +kernel
theorem dX5_init_142 : decode cX5_init 142 = .ok (.new 15, 3) := by decide +kernel
theorem dX5_init_145 : decode cX5_init 145 = .ok (.dup, 1) := by decide +kernel
theorem dX5_init_146 : decode cX5_init 146 = .ok (.invokespecial 55, 3) := by decide +kernel
theorem dX5_init_149 : decode cX5_init 149 = .ok (.aastore, 1) := by decide +kernel
theorem dX5_init_150 : decode cX5_init 150 = .ok (.iinc 1 1, 3) := by decide +kernel
theorem dX5_init_153 : decode cX5_init 153 = .ok (.goto (-21), 3) := by decide +kernel
theorem dX5_init_156 : decode cX5_init 156 = .ok (.return_, 1) := by decide +kernel
theorem dX5_sheet_0 : decode cX5_sheet 0 = .ok (.iload_n 1, 1) := by decide +kernel
theorem dX5_sheet_1 : decode cX5_sheet 1 = .ok (.invokestatic 56, 3) := by decide +kernel
theorem dX5_sheet_4 : decode cX5_sheet 4 = .ok (.ifCond .eq 16, 3) := by decide +kernel
theorem dX5_sheet_7 : decode cX5_sheet 7 = .ok (.iload_n 2, 1) := by decide +kernel
theorem dX5_sheet_8 : decode cX5_sheet 8 = .ok (.invokestatic 60, 3) := by decide +kernel
theorem dX5_sheet_11 : decode cX5_sheet 11 = .ok (.ifCond .eq 9, 3) := by decide +kernel
theorem dX5_sheet_14 : decode cX5_sheet 14 = .ok (.iload_n 3, 1) := by decide +kernel
theorem dX5_sheet_15 : decode cX5_sheet 15 = .ok (.bipush 20, 2) := by decide +kernel
theorem dX5_sheet_17 : decode cX5_sheet 17 = .ok (.if_icmp .le 6, 3) := by decide +kernel
theorem dX5_sheet_20 : decode cX5_sheet 20 = .ok (.bipush (-2), 2) := by decide +kernel
theorem dX5_sheet_22 : decode cX5_sheet 22 = .ok (.ireturn, 1) := by decide +kernel
theorem dX5_sheet_23 : decode cX5_sheet 23 = .ok (.iload_n 3, 1) := by decide +kernel
theorem dX5_sheet_24 : decode cX5_sheet 24 = .ok (.ifCond .ge 9, 3) := by decide +kernel
theorem dX5_sheet_27 : decode cX5_sheet 27 = .ok (.aload_n 0, 1) := by decide +kernel
theorem dX5_sheet_28 : decode cX5_sheet 28 = .ok (.iconst 5, 1) := by decide +kernel
theorem dX5_sheet_29 : decode cX5_sheet 29 = .ok (.invokevirtual 63, 3) := by decide +kernel
theorem dX5_sheet_32 : decode cX5_sheet 32 = .ok (.ireturn, 1) := by decide +kernel
theorem dX5_sheet_33 : decode cX5_sheet 33 = .ok (.aload_n 0, 1) := by decide +kernel
theorem dX5_sheet_34 : decode cX5_sheet 34 = .ok (.getfield 11, 3) := by decide +kernel
theorem dX5_sheet_37 : decode cX5_sheet 37 = .ok (.iload_n 1, 1) := by decide +kernel
theorem dX5_sheet_38 : decode cX5_sheet 38 = .ok (.aaload, 1) := by decide +kernel
theorem dX5_sheet_39 : decode cX5_sheet 39 = .ok (.iload_n 2, 1) := by decide +kernel
theorem dX5_sheet_40 : decode cX5_sheet 40 = .ok (.iload_n 3, 1) := by decide +kernel
theorem dX5_sheet_41 : decode cX5_sheet 41 = .ok (.invokevirtual 67, 3) := by decide +kernel
theorem dX5_sheet_44 : decode cX5_sheet 44 = .ok (.iload_n 3, 1) := by decide +kernel
theorem dX5_sheet_45 : decode cX5_sheet 45 = .ok (.ireturn, 1) := by decide +kernel
theorem dX5_lose_0 : decode cX5_lose 0 = .ok (.iload_n 1, 1) := by decide +kernel
theorem dX5_lose_1 : decode cX5_lose 1 = .ok (.invokestatic 56, 3) := by decide +kernel
theorem dX5_lose_4 : decode cX5_lose 4 = .ok (.ifCond .ne 6, 3) := by decide +kernel
theorem dX5_lose_7 : decode cX5_lose 7 = .ok (.bipush (-2), 2) := by decide +kernel
theorem dX5_lose_9 : decode cX5_lose 9 = .ok (.ireturn, 1) := by decide +kernel
theorem dX5_lose_10 : decode cX5_lose 10 = .ok (.aload_n 0, 1) := by decide +kernel
theorem dX5_lose_11 : decode cX5_lose 11 = .ok (.getfield 11, 3) := by decide +kernel
theorem dX5_lose_14 : decode cX5_lose 14 = .ok (.iload_n 1, 1) := by decide +kernel
theorem dX5_lose_15 : decode cX5_lose 15 = .ok (.aaload, 1) := by decide +kernel
theorem dX5_lose_16 : decode cX5_lose 16 = .ok (.getfield 71, 3) := by decide +kernel
theorem dX5_lose_19 : decode cX5_lose 19 = .ok (.ifCond .eq 9, 3) := by decide +kernel
theorem dX5_lose_22 : decode cX5_lose 22 = .ok (.aload_n 0, 1) := by decide +kernel
theorem dX5_lose_23 : decode cX5_lose 23 = .ok (.iconst 1, 1) := by decide +kernel
theorem dX5_lose_24 : decode cX5_lose 24 = .ok (.invokevirtual 63, 3) := by decide +kernel
theorem dX5_lose_27 : decode cX5_lose 27 = .ok (.ireturn, 1) := by decide +kernel
theorem dX5_lose_28 : decode cX5_lose 28 = .ok (.aload_n 0, 1) := by decide +kernel
theorem dX5_lose_29 : decode cX5_lose 29 = .ok (.getfield 11, 3) := by decide +kernel
theorem dX5_lose_32 : decode cX5_lose 32 = .ok (.iload_n 1, 1) := by decide +kernel
theorem dX5_lose_33 : decode cX5_lose 33 = .ok (.aaload, 1) := by decide +kernel
theorem dX5_lose_34 : decode cX5_lose 34 = .ok (.iconst 1, 1) := by decide +kernel
theorem dX5_lose_35 : decode cX5_lose 35 = .ok (.putfield 71, 3) := by decide +kernel
theorem dX5_lose_38 : decode cX5_lose 38 = .ok (.aload_n 0, 1) := by decide +kernel
theorem dX5_lose_39 : decode cX5_lose 39 = .ok (.getfield 11, 3) := by decide +kernel
theorem dX5_lose_42 : decode cX5_lose 42 = .ok (.iload_n 1, 1) := by decide +kernel
theorem dX5_lose_43 : decode cX5_lose 43 = .ok (.aaload, 1) := by decide +kernel
theorem dX5_lose_44 : decode cX5_lose 44 = .ok (.getfield 75, 3) := by decide +kernel
theorem dX5_lose_47 : decode cX5_lose 47 = .ok (.ireturn, 1) := by decide +kernel
theorem dX5_put_0 : decode cX5_put 0 = .ok (.iload_n 1, 1) := by decide +kernel
theorem dX5_put_1 : decode cX5_put 1 = .ok (.invokestatic 56, 3) := by decide +kernel
theorem dX5_put_4 : decode cX5_put 4 = .ok (.ifCond .eq 10, 3) := by decide +kernel
theorem dX5_put_7 : decode cX5_put 7 = .ok (.iload_n 2, 1) := by decide +kernel
theorem dX5_put_8 : decode cX5_put 8 = .ok (.invokestatic 60, 3) := by decide +kernel
theorem dX5_put_11 : decode cX5_put 11 = .ok (.ifCond .ne 6, 3) := by decide +kernel
theorem dX5_put_14 : decode cX5_put 14 = .ok (.bipush (-2), 2) := by decide +kernel
theorem dX5_put_16 : decode cX5_put 16 = .ok (.ireturn, 1) := by decide +kernel
theorem dX5_put_17 : decode cX5_put 17 = .ok (.aload_n 0, 1) := by decide +kernel
theorem dX5_put_18 : decode cX5_put 18 = .ok (.getfield 11, 3) := by decide +kernel
theorem dX5_put_21 : decode cX5_put 21 = .ok (.iload_n 1, 1) := by decide +kernel
theorem dX5_put_22 : decode cX5_put 22 = .ok (.aaload, 1) := by decide +kernel
theorem dX5_put_23 : decode cX5_put 23 = .ok (.iload_n 2, 1) := by decide +kernel
theorem dX5_put_24 : decode cX5_put 24 = .ok (.iload_n 3, 1) := by decide +kernel
theorem dX5_put_25 : decode cX5_put 25 = .ok (.invokevirtual 78, 3) := by decide +kernel
theorem dX5_put_28 : decode cX5_put 28 = .ok (.istore 5, 2) := by decide +kernel
theorem dX5_put_30 : decode cX5_put 30 = .ok (.iload 5, 2) := by decide +kernel
theorem dX5_put_32 : decode cX5_put 32 = .ok (.ifCond .eq 10, 3) := by decide +kernel
theorem dX5_put_35 : decode cX5_put 35 = .ok (.aload_n 0, 1) := by decide +kernel
theorem dX5_put_36 : decode cX5_put 36 = .ok (.iload 5, 2) := by decide +kernel
theorem dX5_put_38 : decode cX5_put 38 = .ok (.invokevirtual 63, 3) := by decide +kernel
theorem dX5_put_41 : decode cX5_put 41 = .ok (.ireturn, 1) := by decide +kernel
theorem dX5_put_42 : decode cX5_put 42 = .ok (.aload_n 0, 1) := by decide +kernel
theorem dX5_put_43 : decode cX5_put 43 = .ok (.getfield 11, 3) := by decide +kernel
theorem dX5_put_46 : decode cX5_put 46 = .ok (.iload_n 1, 1) := by decide +kernel
theorem dX5_put_47 : decode cX5_put 47 = .ok (.aaload, 1) := by decide +kernel
theorem dX5_put_48 : decode cX5_put 48 = .ok (.getfield 82, 3) := by decide +kernel
theorem dX5_put_51 : decode cX5_put 51 = .ok (.iload_n 3, 1) := by decide +kernel
theorem dX5_put_52 : decode cX5_put 52 = .ok (.iload_n 2, 1) := by decide +kernel
theorem dX5_put_53 : decode cX5_put 53 = .ok (.iload 4, 2) := by decide +kernel
theorem dX5_put_55 : decode cX5_put 55 = .ok (.invokestatic 86, 3) := by decide +kernel
theorem dX5_put_58 : decode cX5_put 58 = .ok (.iastore, 1) := by decide +kernel
theorem dX5_put_59 : decode cX5_put 59 = .ok (.iconst 1, 1) := by decide +kernel
theorem dX5_put_60 : decode cX5_put 60 = .ok (.ireturn, 1) := by decide +kernel
theorem dX5_get_0 : decode cX5_get 0 = .ok (.iload_n 1, 1) := by decide +kernel
theorem dX5_get_1 : decode cX5_get 1 = .ok (.invokestatic 56, 3) := by decide +kernel
theorem dX5_get_4 : decode cX5_get 4 = .ok (.ifCond .eq 10, 3) := by decide +kernel
theorem dX5_get_7 : decode cX5_get 7 = .ok (.iload_n 2, 1) := by decide +kernel
theorem dX5_get_8 : decode cX5_get 8 = .ok (.invokestatic 60, 3) := by decide +kernel
theorem dX5_get_11 : decode cX5_get 11 = .ok (.ifCond .ne 6, 3) := by decide +kernel
theorem dX5_get_14 : decode cX5_get 14 = .ok (.ldc 89, 2) := by decide +kernel
theorem dX5_get_16 : decode cX5_get 16 = .ok (.ireturn, 1) := by decide +kernel
theorem dX5_get_17 : decode cX5_get 17 = .ok (.aload_n 0, 1) := by decide +kernel
theorem dX5_get_18 : decode cX5_get 18 = .ok (.getfield 11, 3) := by decide +kernel
theorem dX5_get_21 : decode cX5_get 21 = .ok (.iload_n 1, 1) := by decide +kernel
theorem dX5_get_22 : decode cX5_get 22 = .ok (.aaload, 1) := by decide +kernel
theorem dX5_get_23 : decode cX5_get 23 = .ok (.iload_n 2, 1) := by decide +kernel
theorem dX5_get_24 : decode cX5_get 24 = .ok (.iload_n 3, 1) := by decide +kernel
theorem dX5_get_25 : decode cX5_get 25 = .ok (.invokevirtual 78, 3) := by decide +kernel
theorem dX5_get_28 : decode cX5_get 28 = .ok (.istore 4, 2) := by decide +kernel
theorem dX5_get_30 : decode cX5_get 30 = .ok (.iload 4, 2) := by decide +kernel
theorem dX5_get_32 : decode cX5_get 32 = .ok (.ifCond .eq 13, 3) := by decide +kernel
theorem dX5_get_35 : decode cX5_get 35 = .ok (.aload_n 0, 1) := by decide +kernel
theorem dX5_get_36 : decode cX5_get 36 = .ok (.iload 4, 2) := by decide +kernel
theorem dX5_get_38 : decode cX5_get 38 = .ok (.invokevirtual 63, 3) := by decide +kernel
theorem dX5_get_41 : decode cX5_get 41 = .ok (.pop, 1) := by decide +kernel
theorem dX5_get_42 : decode cX5_get 42 = .ok (.ldc 89, 2) := by decide +kernel
theorem dX5_get_44 : decode cX5_get 44 = .ok (.ireturn, 1) := by decide +kernel
theorem dX5_get_45 : decode cX5_get 45 = .ok (.aload_n 0, 1) := by decide +kernel
theorem dX5_get_46 : decode cX5_get 46 = .ok (.getfield 11, 3) := by decide +kernel
theorem dX5_get_49 : decode cX5_get 49 = .ok (.iload_n 1, 1) := by decide +kernel
theorem dX5_get_50 : decode cX5_get 50 = .ok (.aaload, 1) := by decide +kernel
theorem dX5_get_51 : decode cX5_get 51 = .ok (.getfield 82, 3) := by decide +kernel
theorem dX5_get_54 : decode cX5_get 54 = .ok (.iload_n 3, 1) := by decide +kernel
theorem dX5_get_55 : decode cX5_get 55 = .ok (.iaload, 1) := by decide +kernel
theorem dX5_get_56 : decode cX5_get 56 = .ok (.ireturn, 1) := by decide +kernel
theorem dX5_copy_0 : decode cX5_copy 0 = .ok (.iload_n 1, 1) := by decide +kernel
theorem dX5_copy_1 : decode cX5_copy 1 = .ok (.invokestatic 56, 3) := by decide +kernel
theorem dX5_copy_4 : decode cX5_copy 4 = .ok (.ifCond .eq 10, 3) := by decide +kernel
theorem dX5_copy_7 : decode cX5_copy 7 = .ok (.iload_n 3, 1) := by decide +kernel
theorem dX5_copy_8 : decode cX5_copy 8 = .ok (.invokestatic 56, 3) := by decide +kernel
theorem dX5_copy_11 : decode cX5_copy 11 = .ok (.ifCond .ne 6, 3) := by decide +kernel
theorem dX5_copy_14 : decode cX5_copy 14 = .ok (.bipush (-2), 2) := by decide +kernel
theorem dX5_copy_16 : decode cX5_copy 16 = .ok (.ireturn, 1) := by decide +kernel
theorem dX5_copy_17 : decode cX5_copy 17 = .ok (.aload_n 0, 1) := by decide +kernel
theorem dX5_copy_18 : decode cX5_copy 18 = .ok (.getfield 11, 3) := by decide +kernel
theorem dX5_copy_21 : decode cX5_copy 21 = .ok (.iload_n 1, 1) := by decide +kernel
theorem dX5_copy_22 : decode cX5_copy 22 = .ok (.aaload, 1) := by decide +kernel
theorem dX5_copy_23 : decode cX5_copy 23 = .ok (.getfield 71, 3) := by decide +kernel
theorem dX5_copy_26 : decode cX5_copy 26 = .ok (.ifCond .ne 15, 3) := by decide +kernel
theorem dX5_copy_29 : decode cX5_copy 29 = .ok (.aload_n 0, 1) := by decide +kernel
theorem dX5_copy_30 : decode cX5_copy 30 = .ok (.getfield 11, 3) := by decide +kernel
theorem dX5_copy_33 : decode cX5_copy 33 = .ok (.iload_n 3, 1) := by decide +kernel
theorem dX5_copy_34 : decode cX5_copy 34 = .ok (.aaload, 1) := by decide +kernel
theorem dX5_copy_35 : decode cX5_copy 35 = .ok (.getfield 71, 3) := by decide +kernel
theorem dX5_copy_38 : decode cX5_copy 38 = .ok (.ifCond .eq 9, 3) := by decide +kernel
theorem dX5_copy_41 : decode cX5_copy 41 = .ok (.aload_n 0, 1) := by decide +kernel
theorem dX5_copy_42 : decode cX5_copy 42 = .ok (.iconst 1, 1) := by decide +kernel
theorem dX5_copy_43 : decode cX5_copy 43 = .ok (.invokevirtual 63, 3) := by decide +kernel
theorem dX5_copy_46 : decode cX5_copy 46 = .ok (.ireturn, 1) := by decide +kernel
theorem dX5_copy_47 : decode cX5_copy 47 = .ok (.aload_n 0, 1) := by decide +kernel
theorem dX5_copy_48 : decode cX5_copy 48 = .ok (.getfield 11, 3) := by decide +kernel
theorem dX5_copy_51 : decode cX5_copy 51 = .ok (.iload_n 1, 1) := by decide +kernel
theorem dX5_copy_52 : decode cX5_copy 52 = .ok (.aaload, 1) := by decide +kernel
theorem dX5_copy_53 : decode cX5_copy 53 = .ok (.getfield 90, 3) := by decide +kernel
theorem dX5_copy_56 : decode cX5_copy 56 = .ok (.aload_n 0, 1) := by decide +kernel
theorem dX5_copy_57 : decode cX5_copy 57 = .ok (.getfield 11, 3) := by decide +kernel
theorem dX5_copy_60 : decode cX5_copy 60 = .ok (.iload_n 3, 1) := by decide +kernel
theorem dX5_copy_61 : decode cX5_copy 61 = .ok (.aaload, 1) := by decide +kernel
theorem dX5_copy_62 : decode cX5_copy 62 = .ok (.getfield 90, 3) := by decide +kernel
theorem dX5_copy_65 : decode cX5_copy 65 = .ok (.if_icmp .eq 9, 3) := by decide +kernel
theorem dX5_copy_68 : decode cX5_copy 68 = .ok (.aload_n 0, 1) := by decide +kernel
theorem dX5_copy_69 : decode cX5_copy 69 = .ok (.iconst 4, 1) := by decide +kernel
theorem dX5_copy_70 : decode cX5_copy 70 = .ok (.invokevirtual 63, 3) := by decide +kernel
theorem dX5_copy_73 : decode cX5_copy 73 = .ok (.ireturn, 1) := by decide +kernel
theorem dX5_copy_74 : decode cX5_copy 74 = .ok (.aload_n 0, 1) := by decide +kernel
theorem dX5_copy_75 : decode cX5_copy 75 = .ok (.getfield 11, 3) := by decide +kernel
theorem dX5_copy_78 : decode cX5_copy 78 = .ok (.iload_n 1, 1) := by decide +kernel
theorem dX5_copy_79 : decode cX5_copy 79 = .ok (.aaload, 1) := by decide +kernel
theorem dX5_copy_80 : decode cX5_copy 80 = .ok (.iload_n 2, 1) := by decide +kernel
theorem dX5_copy_81 : decode cX5_copy 81 = .ok (.iload 5, 2) := by decide +kernel
theorem dX5_copy_83 : decode cX5_copy 83 = .ok (.invokevirtual 93, 3) := by decide +kernel
theorem dX5_copy_86 : decode cX5_copy 86 = .ok (.ifCond .eq 19, 3) := by decide +kernel
theorem dX5_copy_89 : decode cX5_copy 89 = .ok (.aload_n 0, 1) := by decide +kernel
theorem dX5_copy_90 : decode cX5_copy 90 = .ok (.getfield 11, 3) := by decide +kernel
theorem dX5_copy_93 : decode cX5_copy 93 = .ok (.iload_n 3, 1) := by decide +kernel
theorem dX5_copy_94 : decode cX5_copy 94 = .ok (.aaload, 1) := by decide +kernel
theorem dX5_copy_95 : decode cX5_copy 95 = .ok (.iload 4, 2) := by decide +kernel
theorem dX5_copy_97 : decode cX5_copy 97 = .ok (.iload 5, 2) := by decide +kernel
theorem dX5_copy_99 : decode cX5_copy 99 = .ok (.invokevirtual 93, 3) := by decide +kernel
theorem dX5_copy_102 : decode cX5_copy 102 = .ok (.ifCond .ne 9, 3) := by decide +kernel
theorem dX5_copy_105 : decode cX5_copy 105 = .ok (.aload_n 0, 1) := by decide +kernel
theorem dX5_copy_106 : decode cX5_copy 106 = .ok (.iconst 2, 1) := by decide +kernel
theorem dX5_copy_107 : decode cX5_copy 107 = .ok (.invokevirtual 63, 3) := by decide +kernel
theorem dX5_copy_110 : decode cX5_copy 110 = .ok (.ireturn, 1) := by decide +kernel
theorem dX5_copy_111 : decode cX5_copy 111 = .ok (.aload_n 0, 1) := by decide +kernel
theorem dX5_copy_112 : decode cX5_copy 112 = .ok (.getfield 11, 3) := by decide +kernel
theorem dX5_copy_115 : decode cX5_copy 115 = .ok (.iload_n 1, 1) := by decide +kernel
theorem dX5_copy_116 : decode cX5_copy 116 = .ok (.aaload, 1) := by decide +kernel
theorem dX5_copy_117 : decode cX5_copy 117 = .ok (.getfield 82, 3) := by decide +kernel
theorem dX5_copy_120 : decode cX5_copy 120 = .ok (.iload_n 2, 1) := by decide +kernel
theorem dX5_copy_121 : decode cX5_copy 121 = .ok (.aload_n 0, 1) := by decide +kernel
theorem dX5_copy_122 : decode cX5_copy 122 = .ok (.getfield 11, 3) := by decide +kernel
theorem dX5_copy_125 : decode cX5_copy 125 = .ok (.iload_n 3, 1) := by decide +kernel
theorem dX5_copy_126 : decode cX5_copy 126 = .ok (.aaload, 1) := by decide +kernel
theorem dX5_copy_127 : decode cX5_copy 127 = .ok (.getfield 82, 3) := by decide +kernel
theorem dX5_copy_130 : decode cX5_copy 130 = .ok (.iload 4, 2) := by decide +kernel
theorem dX5_copy_132 : decode cX5_copy 132 = .ok (.iload 5, 2) := by decide +kernel
theorem dX5_copy_134 : decode cX5_copy 134 = .ok (.invokestatic 97, 3) := by decide +kernel
theorem dX5_copy_137 : decode cX5_copy 137 = .ok (.iconst 1, 1) := by decide +kernel
theorem dX5_copy_138 : decode cX5_copy 138 = .ok (.ireturn, 1) := by decide +kernel
theorem dX5_term_0 : decode cX5_term 0 = .ok (.iload_n 1, 1) := by decide +kernel
theorem dX5_term_1 : decode cX5_term 1 = .ok (.invokestatic 56, 3) := by decide +kernel
theorem dX5_term_4 : decode cX5_term 4 = .ok (.ifCond .eq 10, 3) := by decide +kernel
theorem dX5_term_7 : decode cX5_term 7 = .ok (.iload_n 2, 1) := by decide +kernel
theorem dX5_term_8 : decode cX5_term 8 = .ok (.invokestatic 103, 3) := by decide +kernel
theorem dX5_term_11 : decode cX5_term 11 = .ok (.ifCond .ne 6, 3) := by decide +kernel
theorem dX5_term_14 : decode cX5_term 14 = .ok (.bipush (-2), 2) := by decide +kernel
theorem dX5_term_16 : decode cX5_term 16 = .ok (.ireturn, 1) := by decide +kernel
theorem dX5_term_17 : decode cX5_term 17 = .ok (.aload_n 0, 1) := by decide +kernel
theorem dX5_term_18 : decode cX5_term 18 = .ok (.getfield 11, 3) := by decide +kernel
theorem dX5_term_21 : decode cX5_term 21 = .ok (.iload_n 1, 1) := by decide +kernel
theorem dX5_term_22 : decode cX5_term 22 = .ok (.aaload, 1) := by decide +kernel
theorem dX5_term_23 : decode cX5_term 23 = .ok (.getfield 71, 3) := by decide +kernel
theorem dX5_term_26 : decode cX5_term 26 = .ok (.ifCond .eq 9, 3) := by decide +kernel
theorem dX5_term_29 : decode cX5_term 29 = .ok (.aload_n 0, 1) := by decide +kernel
theorem dX5_term_30 : decode cX5_term 30 = .ok (.iconst 1, 1) := by decide +kernel
theorem dX5_term_31 : decode cX5_term 31 = .ok (.invokevirtual 63, 3) := by decide +kernel
theorem dX5_term_34 : decode cX5_term 34 = .ok (.ireturn, 1) := by decide +kernel
theorem dX5_term_35 : decode cX5_term 35 = .ok (.aload_n 0, 1) := by decide +kernel
theorem dX5_term_36 : decode cX5_term 36 = .ok (.getfield 11, 3) := by decide +kernel
theorem dX5_term_39 : decode cX5_term 39 = .ok (.iload_n 1, 1) := by decide +kernel
theorem dX5_term_40 : decode cX5_term 40 = .ok (.aaload, 1) := by decide +kernel
theorem dX5_term_41 : decode cX5_term 41 = .ok (.iload_n 2, 1) := by decide +kernel
theorem dX5_term_42 : decode cX5_term 42 = .ok (.invokevirtual 106, 3) := by decide +kernel
theorem dX5_term_45 : decode cX5_term 45 = .ok (.ireturn, 1) := by decide +kernel
theorem dX5_kind_0 : decode cX5_kind 0 = .ok (.iload_n 1, 1) := by decide +kernel
theorem dX5_kind_1 : decode cX5_kind 1 = .ok (.invokestatic 56, 3) := by decide +kernel
theorem dX5_kind_4 : decode cX5_kind 4 = .ok (.ifCond .eq 24, 3) := by decide +kernel
theorem dX5_kind_7 : decode cX5_kind 7 = .ok (.iload_n 2, 1) := by decide +kernel
theorem dX5_kind_8 : decode cX5_kind 8 = .ok (.ifCond .lt 20, 3) := by decide +kernel
theorem dX5_kind_11 : decode cX5_kind 11 = .ok (.iload_n 2, 1) := by decide +kernel
theorem dX5_kind_12 : decode cX5_kind 12 = .ok (.bipush 8, 2) := by decide +kernel
theorem dX5_kind_14 : decode cX5_kind 14 = .ok (.if_icmp .ge 14, 3) := by decide +kernel
theorem dX5_kind_17 : decode cX5_kind 17 = .ok (.iload_n 3, 1) := by decide +kernel
theorem dX5_kind_18 : decode cX5_kind 18 = .ok (.ifCond .lt 10, 3) := by decide +kernel
theorem dX5_kind_21 : decode cX5_kind 21 = .ok (.iload_n 3, 1) := by decide +kernel
theorem dX5_kind_22 : decode cX5_kind 22 = .ok (.sipush 10007, 3) := by decide +kernel
theorem dX5_kind_25 : decode cX5_kind 25 = .ok (.if_icmp .lt 6, 3) := by decide +kernel
theorem dX5_kind_28 : decode cX5_kind 28 = .ok (.bipush (-2), 2) := by decide +kernel
theorem dX5_kind_30 : decode cX5_kind 30 = .ok (.ireturn, 1) := by decide +kernel
theorem dX5_kind_31 : decode cX5_kind 31 = .ok (.aload_n 0, 1) := by decide +kernel
theorem dX5_kind_32 : decode cX5_kind 32 = .ok (.getfield 24, 3) := by decide +kernel
theorem dX5_kind_35 : decode cX5_kind 35 = .ok (.iload_n 2, 1) := by decide +kernel
theorem dX5_kind_36 : decode cX5_kind 36 = .ok (.iload_n 3, 1) := by decide +kernel
theorem dX5_kind_37 : decode cX5_kind 37 = .ok (.aload_n 0, 1) := by decide +kernel
theorem dX5_kind_38 : decode cX5_kind 38 = .ok (.getfield 44, 3) := by decide +kernel
theorem dX5_kind_41 : decode cX5_kind 41 = .ok (.invokevirtual 109, 3) := by decide +kernel
theorem dX5_kind_44 : decode cX5_kind 44 = .ok (.aload_n 0, 1) := by decide +kernel
theorem dX5_kind_45 : decode cX5_kind 45 = .ok (.iload_n 1, 1) := by decide +kernel
theorem dX5_kind_46 : decode cX5_kind 46 = .ok (.aload_n 0, 1) := by decide +kernel
theorem dX5_kind_47 : decode cX5_kind 47 = .ok (.getfield 44, 3) := by decide +kernel
theorem dX5_kind_50 : decode cX5_kind 50 = .ok (.invokevirtual 113, 3) := by decide +kernel
theorem dX5_kind_53 : decode cX5_kind 53 = .ok (.ireturn, 1) := by decide +kernel
theorem dX5_join_0 : decode cX5_join 0 = .ok (.iload_n 1, 1) := by decide +kernel
theorem dX5_join_1 : decode cX5_join 1 = .ok (.invokestatic 56, 3) := by decide +kernel
theorem dX5_join_4 : decode cX5_join 4 = .ok (.ifCond .eq 28, 3) := by decide +kernel
theorem dX5_join_7 : decode cX5_join 7 = .ok (.iload_n 2, 1) := by decide +kernel
theorem dX5_join_8 : decode cX5_join 8 = .ok (.invokestatic 56, 3) := by decide +kernel
theorem dX5_join_11 : decode cX5_join 11 = .ok (.ifCond .eq 21, 3) := by decide +kernel
theorem dX5_join_14 : decode cX5_join 14 = .ok (.iload_n 3, 1) := by decide +kernel
theorem dX5_join_15 : decode cX5_join 15 = .ok (.invokestatic 56, 3) := by decide +kernel
theorem dX5_join_18 : decode cX5_join 18 = .ok (.ifCond .eq 14, 3) := by decide +kernel
theorem dX5_join_21 : decode cX5_join 21 = .ok (.iload 4, 2) := by decide +kernel
theorem dX5_join_23 : decode cX5_join 23 = .ok (.ifCond .lt 9, 3) := by decide +kernel
theorem dX5_join_26 : decode cX5_join 26 = .ok (.iload 4, 2) := by decide +kernel
theorem dX5_join_28 : decode cX5_join 28 = .ok (.iconst 2, 1) := by decide +kernel
theorem dX5_join_29 : decode cX5_join 29 = .ok (.if_icmp .le 6, 3) := by decide +kernel
theorem dX5_join_32 : decode cX5_join 32 = .ok (.bipush (-2), 2) := by decide +kernel
theorem dX5_join_34 : decode cX5_join 34 = .ok (.ireturn, 1) := by decide +kernel
theorem dX5_join_35 : decode cX5_join 35 = .ok (.aload_n 0, 1) := by decide +kernel
theorem dX5_join_36 : decode cX5_join 36 = .ok (.iload_n 1, 1) := by decide +kernel
theorem dX5_join_37 : decode cX5_join 37 = .ok (.aload_n 0, 1) := by decide +kernel
theorem dX5_join_38 : decode cX5_join 38 = .ok (.getfield 31, 3) := by decide +kernel
theorem dX5_join_41 : decode cX5_join 41 = .ok (.invokevirtual 117, 3) := by decide +kernel
theorem dX5_join_44 : decode cX5_join 44 = .ok (.ifCond .eq 15, 3) := by decide +kernel
theorem dX5_join_47 : decode cX5_join 47 = .ok (.aload_n 0, 1) := by decide +kernel
theorem dX5_join_48 : decode cX5_join 48 = .ok (.iload_n 2, 1) := by decide +kernel
theorem dX5_join_49 : decode cX5_join 49 = .ok (.aload_n 0, 1) := by decide +kernel
theorem dX5_join_50 : decode cX5_join 50 = .ok (.getfield 35, 3) := by decide +kernel
theorem dX5_join_53 : decode cX5_join 53 = .ok (.invokevirtual 117, 3) := by decide +kernel
theorem dX5_join_56 : decode cX5_join 56 = .ok (.ifCond .ne 9, 3) := by decide +kernel
theorem dX5_join_59 : decode cX5_join 59 = .ok (.aload_n 0, 1) := by decide +kernel
theorem dX5_join_60 : decode cX5_join 60 = .ok (.iconst 1, 1) := by decide +kernel
theorem dX5_join_61 : decode cX5_join 61 = .ok (.invokevirtual 63, 3) := by decide +kernel
theorem dX5_join_64 : decode cX5_join 64 = .ok (.ireturn, 1) := by decide +kernel
theorem dX5_join_65 : decode cX5_join 65 = .ok (.iload 4, 2) := by decide +kernel
theorem dX5_join_67 : decode cX5_join 67 = .ok (.ifCond .ne 21, 3) := by decide +kernel
theorem dX5_join_70 : decode cX5_join 70 = .ok (.aload_n 0, 1) := by decide +kernel
theorem dX5_join_71 : decode cX5_join 71 = .ok (.getfield 44, 3) := by decide +kernel
theorem dX5_join_74 : decode cX5_join 74 = .ok (.aload_n 0, 1) := by decide +kernel
theorem dX5_join_75 : decode cX5_join 75 = .ok (.getfield 31, 3) := by decide +kernel
theorem dX5_join_78 : decode cX5_join 78 = .ok (.aload_n 0, 1) := by decide +kernel
theorem dX5_join_79 : decode cX5_join 79 = .ok (.getfield 35, 3) := by decide +kernel
theorem dX5_join_82 : decode cX5_join 82 = .ok (.invokevirtual 121, 3) := by decide +kernel
theorem dX5_join_85 : decode cX5_join 85 = .ok (.goto 42, 3) := by decide +kernel
theorem dX5_join_88 : decode cX5_join 88 = .ok (.iload 4, 2) := by decide +kernel
theorem dX5_join_90 : decode cX5_join 90 = .ok (.iconst 1, 1) := by decide +kernel
theorem dX5_join_91 : decode cX5_join 91 = .ok (.if_icmp .ne 21, 3) := by decide +kernel
theorem dX5_join_94 : decode cX5_join 94 = .ok (.aload_n 0, 1) := by decide +kernel
theorem dX5_join_95 : decode cX5_join 95 = .ok (.getfield 44, 3) := by decide +kernel
theorem dX5_join_98 : decode cX5_join 98 = .ok (.aload_n 0, 1) := by decide +kernel
theorem dX5_join_99 : decode cX5_join 99 = .ok (.getfield 31, 3) := by decide +kernel
theorem dX5_join_102 : decode cX5_join 102 = .ok (.aload_n 0, 1) := by decide +kernel
theorem dX5_join_103 : decode cX5_join 103 = .ok (.getfield 35, 3) := by decide +kernel
theorem dX5_join_106 : decode cX5_join 106 = .ok (.invokevirtual 125, 3) := by decide +kernel
theorem dX5_join_109 : decode cX5_join 109 = .ok (.goto 18, 3) := by decide +kernel
theorem dX5_join_112 : decode cX5_join 112 = .ok (.aload_n 0, 1) := by decide +kernel
theorem dX5_join_113 : decode cX5_join 113 = .ok (.getfield 44, 3) := by decide +kernel
theorem dX5_join_116 : decode cX5_join 116 = .ok (.aload_n 0, 1) := by decide +kernel
theorem dX5_join_117 : decode cX5_join 117 = .ok (.getfield 31, 3) := by decide +kernel
theorem dX5_join_120 : decode cX5_join 120 = .ok (.aload_n 0, 1) := by decide +kernel
theorem dX5_join_121 : decode cX5_join 121 = .ok (.getfield 35, 3) := by decide +kernel
theorem dX5_join_124 : decode cX5_join 124 = .ok (.invokevirtual 128, 3) := by decide +kernel
theorem dX5_join_127 : decode cX5_join 127 = .ok (.aload_n 0, 1) := by decide +kernel
theorem dX5_join_128 : decode cX5_join 128 = .ok (.iload_n 3, 1) := by decide +kernel
theorem dX5_join_129 : decode cX5_join 129 = .ok (.aload_n 0, 1) := by decide +kernel
theorem dX5_join_130 : decode cX5_join 130 = .ok (.getfield 44, 3) := by decide +kernel
theorem dX5_join_133 : decode cX5_join 133 = .ok (.invokevirtual 113, 3) := by decide +kernel
theorem dX5_join_136 : decode cX5_join 136 = .ok (.ireturn, 1) := by decide +kernel
theorem dX5_over_0 : decode cX5_over 0 = .ok (.iload_n 1, 1) := by decide +kernel
theorem dX5_over_1 : decode cX5_over 1 = .ok (.invokestatic 56, 3) := by decide +kernel
theorem dX5_over_4 : decode cX5_over 4 = .ok (.ifCond .eq 17, 3) := by decide +kernel
theorem dX5_over_7 : decode cX5_over 7 = .ok (.iload_n 2, 1) := by decide +kernel
theorem dX5_over_8 : decode cX5_over 8 = .ok (.invokestatic 56, 3) := by decide +kernel
theorem dX5_over_11 : decode cX5_over 11 = .ok (.ifCond .eq 10, 3) := by decide +kernel
theorem dX5_over_14 : decode cX5_over 14 = .ok (.iload_n 3, 1) := by decide +kernel
theorem dX5_over_15 : decode cX5_over 15 = .ok (.invokestatic 56, 3) := by decide +kernel
theorem dX5_over_18 : decode cX5_over 18 = .ok (.ifCond .ne 6, 3) := by decide +kernel
theorem dX5_over_21 : decode cX5_over 21 = .ok (.bipush (-2), 2) := by decide +kernel
theorem dX5_over_23 : decode cX5_over 23 = .ok (.ireturn, 1) := by decide +kernel
theorem dX5_over_24 : decode cX5_over 24 = .ok (.aload_n 0, 1) := by decide +kernel
theorem dX5_over_25 : decode cX5_over 25 = .ok (.iload_n 1, 1) := by decide +kernel
theorem dX5_over_26 : decode cX5_over 26 = .ok (.aload_n 0, 1) := by decide +kernel
theorem dX5_over_27 : decode cX5_over 27 = .ok (.getfield 31, 3) := by decide +kernel
theorem dX5_over_30 : decode cX5_over 30 = .ok (.invokevirtual 117, 3) := by decide +kernel
theorem dX5_over_33 : decode cX5_over 33 = .ok (.ifCond .eq 15, 3) := by decide +kernel
theorem dX5_over_36 : decode cX5_over 36 = .ok (.aload_n 0, 1) := by decide +kernel
theorem dX5_over_37 : decode cX5_over 37 = .ok (.iload_n 2, 1) := by decide +kernel
theorem dX5_over_38 : decode cX5_over 38 = .ok (.aload_n 0, 1) := by decide +kernel
theorem dX5_over_39 : decode cX5_over 39 = .ok (.getfield 35, 3) := by decide +kernel
theorem dX5_over_42 : decode cX5_over 42 = .ok (.invokevirtual 117, 3) := by decide +kernel
theorem dX5_over_45 : decode cX5_over 45 = .ok (.ifCond .ne 9, 3) := by decide +kernel
theorem dX5_over_48 : decode cX5_over 48 = .ok (.aload_n 0, 1) := by decide +kernel
theorem dX5_over_49 : decode cX5_over 49 = .ok (.iconst 1, 1) := by decide +kernel
theorem dX5_over_50 : decode cX5_over 50 = .ok (.invokevirtual 63, 3) := by decide +kernel
theorem dX5_over_53 : decode cX5_over 53 = .ok (.ireturn, 1) := by decide +kernel
theorem dX5_over_54 : decode cX5_over 54 = .ok (.aload_n 0, 1) := by decide +kernel
theorem dX5_over_55 : decode cX5_over 55 = .ok (.getfield 35, 3) := by decide +kernel
theorem dX5_over_58 : decode cX5_over 58 = .ok (.invokevirtual 131, 3) := by decide +kernel
theorem dX5_over_61 : decode cX5_over 61 = .ok (.ifCond .ne 6, 3) := by decide +kernel
theorem dX5_over_64 : decode cX5_over 64 = .ok (.bipush (-3), 2) := by decide +kernel
theorem dX5_over_66 : decode cX5_over 66 = .ok (.ireturn, 1) := by decide +kernel
theorem dX5_over_67 : decode cX5_over 67 = .ok (.aload_n 0, 1) := by decide +kernel
theorem dX5_over_68 : decode cX5_over 68 = .ok (.getfield 44, 3) := by decide +kernel
theorem dX5_over_71 : decode cX5_over 71 = .ok (.aload_n 0, 1) := by decide +kernel
theorem dX5_over_72 : decode cX5_over 72 = .ok (.getfield 31, 3) := by decide +kernel
theorem dX5_over_75 : decode cX5_over 75 = .ok (.aload_n 0, 1) := by decide +kernel
theorem dX5_over_76 : decode cX5_over 76 = .ok (.getfield 35, 3) := by decide +kernel
theorem dX5_over_79 : decode cX5_over 79 = .ok (.invokevirtual 135, 3) := by decide +kernel
theorem dX5_over_82 : decode cX5_over 82 = .ok (.aload_n 0, 1) := by decide +kernel
theorem dX5_over_83 : decode cX5_over 83 = .ok (.iload_n 3, 1) := by decide +kernel
theorem dX5_over_84 : decode cX5_over 84 = .ok (.aload_n 0, 1) := by decide +kernel
theorem dX5_over_85 : decode cX5_over 85 = .ok (.getfield 44, 3) := by decide +kernel
theorem dX5_over_88 : decode cX5_over 88 = .ok (.invokevirtual 113, 3) := by decide +kernel
theorem dX5_over_91 : decode cX5_over 91 = .ok (.ireturn, 1) := by decide +kernel
theorem dX5_into_0 : decode cX5_into 0 = .ok (.iload_n 1, 1) := by decide +kernel
theorem dX5_into_1 : decode cX5_into 1 = .ok (.invokestatic 56, 3) := by decide +kernel
theorem dX5_into_4 : decode cX5_into 4 = .ok (.ifCond .eq 17, 3) := by decide +kernel
theorem dX5_into_7 : decode cX5_into 7 = .ok (.iload_n 2, 1) := by decide +kernel
theorem dX5_into_8 : decode cX5_into 8 = .ok (.invokestatic 56, 3) := by decide +kernel
theorem dX5_into_11 : decode cX5_into 11 = .ok (.ifCond .eq 10, 3) := by decide +kernel
theorem dX5_into_14 : decode cX5_into 14 = .ok (.iload_n 3, 1) := by decide +kernel
theorem dX5_into_15 : decode cX5_into 15 = .ok (.invokestatic 56, 3) := by decide +kernel
theorem dX5_into_18 : decode cX5_into 18 = .ok (.ifCond .ne 6, 3) := by decide +kernel
theorem dX5_into_21 : decode cX5_into 21 = .ok (.bipush (-2), 2) := by decide +kernel
theorem dX5_into_23 : decode cX5_into 23 = .ok (.ireturn, 1) := by decide +kernel
theorem dX5_into_24 : decode cX5_into 24 = .ok (.aload_n 0, 1) := by decide +kernel
theorem dX5_into_25 : decode cX5_into 25 = .ok (.iload_n 1, 1) := by decide +kernel
theorem dX5_into_26 : decode cX5_into 26 = .ok (.aload_n 0, 1) := by decide +kernel
theorem dX5_into_27 : decode cX5_into 27 = .ok (.getfield 31, 3) := by decide +kernel
theorem dX5_into_30 : decode cX5_into 30 = .ok (.invokevirtual 117, 3) := by decide +kernel
theorem dX5_into_33 : decode cX5_into 33 = .ok (.ifCond .eq 15, 3) := by decide +kernel
theorem dX5_into_36 : decode cX5_into 36 = .ok (.aload_n 0, 1) := by decide +kernel
theorem dX5_into_37 : decode cX5_into 37 = .ok (.iload_n 2, 1) := by decide +kernel
theorem dX5_into_38 : decode cX5_into 38 = .ok (.aload_n 0, 1) := by decide +kernel
theorem dX5_into_39 : decode cX5_into 39 = .ok (.getfield 35, 3) := by decide +kernel
theorem dX5_into_42 : decode cX5_into 42 = .ok (.invokevirtual 117, 3) := by decide +kernel
theorem dX5_into_45 : decode cX5_into 45 = .ok (.ifCond .ne 9, 3) := by decide +kernel
theorem dX5_into_48 : decode cX5_into 48 = .ok (.aload_n 0, 1) := by decide +kernel
theorem dX5_into_49 : decode cX5_into 49 = .ok (.iconst 1, 1) := by decide +kernel
theorem dX5_into_50 : decode cX5_into 50 = .ok (.invokevirtual 63, 3) := by decide +kernel
theorem dX5_into_53 : decode cX5_into 53 = .ok (.ireturn, 1) := by decide +kernel
theorem dX5_into_54 : decode cX5_into 54 = .ok (.aload_n 0, 1) := by decide +kernel
theorem dX5_into_55 : decode cX5_into 55 = .ok (.getfield 35, 3) := by decide +kernel
theorem dX5_into_58 : decode cX5_into 58 = .ok (.invokevirtual 138, 3) := by decide +kernel
theorem dX5_into_61 : decode cX5_into 61 = .ok (.ifCond .ne 6, 3) := by decide +kernel
theorem dX5_into_64 : decode cX5_into 64 = .ok (.bipush (-3), 2) := by decide +kernel
theorem dX5_into_66 : decode cX5_into 66 = .ok (.ireturn, 1) := by decide +kernel
theorem dX5_into_67 : decode cX5_into 67 = .ok (.aload_n 0, 1) := by decide +kernel
theorem dX5_into_68 : decode cX5_into 68 = .ok (.getfield 44, 3) := by decide +kernel
theorem dX5_into_71 : decode cX5_into 71 = .ok (.aload_n 0, 1) := by decide +kernel
theorem dX5_into_72 : decode cX5_into 72 = .ok (.getfield 31, 3) := by decide +kernel
theorem dX5_into_75 : decode cX5_into 75 = .ok (.aload_n 0, 1) := by decide +kernel
theorem dX5_into_76 : decode cX5_into 76 = .ok (.getfield 35, 3) := by decide +kernel
theorem dX5_into_79 : decode cX5_into 79 = .ok (.invokevirtual 141, 3) := by decide +kernel
theorem dX5_into_82 : decode cX5_into 82 = .ok (.aload_n 0, 1) := by decide +kernel
theorem dX5_into_83 : decode cX5_into 83 = .ok (.iload_n 3, 1) := by decide +kernel
theorem dX5_into_84 : decode cX5_into 84 = .ok (.aload_n 0, 1) := by decide +kernel
theorem dX5_into_85 : decode cX5_into 85 = .ok (.getfield 44, 3) := by decide +kernel
theorem dX5_into_88 : decode cX5_into 88 = .ok (.invokevirtual 113, 3) := by decide +kernel
theorem dX5_into_91 : decode cX5_into 91 = .ok (.ireturn, 1) := by decide +kernel
theorem dX5_turn_0 : decode cX5_turn 0 = .ok (.iload_n 1, 1) := by decide +kernel
theorem dX5_turn_1 : decode cX5_turn 1 = .ok (.invokestatic 56, 3) := by decide +kernel
theorem dX5_turn_4 : decode cX5_turn 4 = .ok (.ifCond .eq 10, 3) := by decide +kernel
theorem dX5_turn_7 : decode cX5_turn 7 = .ok (.iload_n 2, 1) := by decide +kernel
theorem dX5_turn_8 : decode cX5_turn 8 = .ok (.invokestatic 56, 3) := by decide +kernel
theorem dX5_turn_11 : decode cX5_turn 11 = .ok (.ifCond .ne 6, 3) := by decide +kernel
theorem dX5_turn_14 : decode cX5_turn 14 = .ok (.bipush (-2), 2) := by decide +kernel
theorem dX5_turn_16 : decode cX5_turn 16 = .ok (.ireturn, 1) := by decide +kernel
theorem dX5_turn_17 : decode cX5_turn 17 = .ok (.aload_n 0, 1) := by decide +kernel
theorem dX5_turn_18 : decode cX5_turn 18 = .ok (.iload_n 1, 1) := by decide +kernel
theorem dX5_turn_19 : decode cX5_turn 19 = .ok (.aload_n 0, 1) := by decide +kernel
theorem dX5_turn_20 : decode cX5_turn 20 = .ok (.getfield 31, 3) := by decide +kernel
theorem dX5_turn_23 : decode cX5_turn 23 = .ok (.invokevirtual 117, 3) := by decide +kernel
theorem dX5_turn_26 : decode cX5_turn 26 = .ok (.ifCond .ne 9, 3) := by decide +kernel
theorem dX5_turn_29 : decode cX5_turn 29 = .ok (.aload_n 0, 1) := by decide +kernel
theorem dX5_turn_30 : decode cX5_turn 30 = .ok (.iconst 1, 1) := by decide +kernel
theorem dX5_turn_31 : decode cX5_turn 31 = .ok (.invokevirtual 63, 3) := by decide +kernel
theorem dX5_turn_34 : decode cX5_turn 34 = .ok (.ireturn, 1) := by decide +kernel
theorem dX5_turn_35 : decode cX5_turn 35 = .ok (.aload_n 0, 1) := by decide +kernel
theorem dX5_turn_36 : decode cX5_turn 36 = .ok (.getfield 31, 3) := by decide +kernel
theorem dX5_turn_39 : decode cX5_turn 39 = .ok (.invokevirtual 144, 3) := by decide +kernel
theorem dX5_turn_42 : decode cX5_turn 42 = .ok (.ifCond .ne 6, 3) := by decide +kernel
theorem dX5_turn_45 : decode cX5_turn 45 = .ok (.bipush (-3), 2) := by decide +kernel
theorem dX5_turn_47 : decode cX5_turn 47 = .ok (.ireturn, 1) := by decide +kernel
theorem dX5_turn_48 : decode cX5_turn 48 = .ok (.aload_n 0, 1) := by decide +kernel
theorem dX5_turn_49 : decode cX5_turn 49 = .ok (.getfield 24, 3) := by decide +kernel
theorem dX5_turn_52 : decode cX5_turn 52 = .ok (.aload_n 0, 1) := by decide +kernel
theorem dX5_turn_53 : decode cX5_turn 53 = .ok (.getfield 31, 3) := by decide +kernel
theorem dX5_turn_56 : decode cX5_turn 56 = .ok (.aload_n 0, 1) := by decide +kernel
theorem dX5_turn_57 : decode cX5_turn 57 = .ok (.getfield 44, 3) := by decide +kernel
theorem dX5_turn_60 : decode cX5_turn 60 = .ok (.invokevirtual 147, 3) := by decide +kernel
theorem dX5_turn_63 : decode cX5_turn 63 = .ok (.aload_n 0, 1) := by decide +kernel
theorem dX5_turn_64 : decode cX5_turn 64 = .ok (.iload_n 2, 1) := by decide +kernel
theorem dX5_turn_65 : decode cX5_turn 65 = .ok (.aload_n 0, 1) := by decide +kernel
theorem dX5_turn_66 : decode cX5_turn 66 = .ok (.getfield 44, 3) := by decide +kernel
theorem dX5_turn_69 : decode cX5_turn 69 = .ok (.invokevirtual 113, 3) := by decide +kernel
theorem dX5_turn_72 : decode cX5_turn 72 = .ok (.ireturn, 1) := by decide +kernel
theorem dX5_power_0 : decode cX5_power 0 = .ok (.iload_n 1, 1) := by decide +kernel
theorem dX5_power_1 : decode cX5_power 1 = .ok (.invokestatic 56, 3) := by decide +kernel
theorem dX5_power_4 : decode cX5_power 4 = .ok (.ifCond .eq 21, 3) := by decide +kernel
theorem dX5_power_7 : decode cX5_power 7 = .ok (.iload_n 2, 1) := by decide +kernel
theorem dX5_power_8 : decode cX5_power 8 = .ok (.ifCond .lt 17, 3) := by decide +kernel
theorem dX5_power_11 : decode cX5_power 11 = .ok (.iload_n 2, 1) := by decide +kernel
theorem dX5_power_12 : decode cX5_power 12 = .ok (.sipush 1000, 3) := by decide +kernel
theorem dX5_power_15 : decode cX5_power 15 = .ok (.if_icmp .gt 10, 3) := by decide +kernel
theorem dX5_power_18 : decode cX5_power 18 = .ok (.iload_n 3, 1) := by decide +kernel
theorem dX5_power_19 : decode cX5_power 19 = .ok (.invokestatic 56, 3) := by decide +kernel
theorem dX5_power_22 : decode cX5_power 22 = .ok (.ifCond .ne 6, 3) := by decide +kernel
theorem dX5_power_25 : decode cX5_power 25 = .ok (.bipush (-2), 2) := by decide +kernel
theorem dX5_power_27 : decode cX5_power 27 = .ok (.ireturn, 1) := by decide +kernel
theorem dX5_power_28 : decode cX5_power 28 = .ok (.aload_n 0, 1) := by decide +kernel
theorem dX5_power_29 : decode cX5_power 29 = .ok (.iload_n 1, 1) := by decide +kernel
theorem dX5_power_30 : decode cX5_power 30 = .ok (.aload_n 0, 1) := by decide +kernel
theorem dX5_power_31 : decode cX5_power 31 = .ok (.getfield 31, 3) := by decide +kernel
theorem dX5_power_34 : decode cX5_power 34 = .ok (.invokevirtual 117, 3) := by decide +kernel
theorem dX5_power_37 : decode cX5_power 37 = .ok (.ifCond .ne 9, 3) := by decide +kernel
theorem dX5_power_40 : decode cX5_power 40 = .ok (.aload_n 0, 1) := by decide +kernel
theorem dX5_power_41 : decode cX5_power 41 = .ok (.iconst 1, 1) := by decide +kernel
theorem dX5_power_42 : decode cX5_power 42 = .ok (.invokevirtual 63, 3) := by decide +kernel
theorem dX5_power_45 : decode cX5_power 45 = .ok (.ireturn, 1) := by decide +kernel
theorem dX5_power_46 : decode cX5_power 46 = .ok (.aload_n 0, 1) := by decide +kernel
theorem dX5_power_47 : decode cX5_power 47 = .ok (.getfield 44, 3) := by decide +kernel
theorem dX5_power_50 : decode cX5_power 50 = .ok (.aload_n 0, 1) := by decide +kernel
theorem dX5_power_51 : decode cX5_power 51 = .ok (.getfield 31, 3) := by decide +kernel
theorem dX5_power_54 : decode cX5_power 54 = .ok (.iload_n 2, 1) := by decide +kernel
theorem dX5_power_55 : decode cX5_power 55 = .ok (.invokevirtual 150, 3) := by decide +kernel
theorem dX5_power_58 : decode cX5_power 58 = .ok (.aload_n 0, 1) := by decide +kernel
theorem dX5_power_59 : decode cX5_power 59 = .ok (.iload_n 3, 1) := by decide +kernel
theorem dX5_power_60 : decode cX5_power 60 = .ok (.aload_n 0, 1) := by decide +kernel
theorem dX5_power_61 : decode cX5_power 61 = .ok (.getfield 44, 3) := by decide +kernel
theorem dX5_power_64 : decode cX5_power 64 = .ok (.invokevirtual 113, 3) := by decide +kernel
theorem dX5_power_67 : decode cX5_power 67 = .ok (.ireturn, 1) := by decide +kernel
theorem dX5_value_0 : decode cX5_value 0 = .ok (.iload_n 1, 1) := by decide +kernel
theorem dX5_value_1 : decode cX5_value 1 = .ok (.invokestatic 56, 3) := by decide +kernel
theorem dX5_value_4 : decode cX5_value 4 = .ok (.ifCond .ne 6, 3) := by decide +kernel
theorem dX5_value_7 : decode cX5_value 7 = .ok (.bipush (-2), 2) := by decide +kernel
theorem dX5_value_9 : decode cX5_value 9 = .ok (.ireturn, 1) := by decide +kernel
theorem dX5_value_10 : decode cX5_value 10 = .ok (.aload_n 0, 1) := by decide +kernel
theorem dX5_value_11 : decode cX5_value 11 = .ok (.iload_n 1, 1) := by decide +kernel
theorem dX5_value_12 : decode cX5_value 12 = .ok (.aload_n 0, 1) := by decide +kernel
theorem dX5_value_13 : decode cX5_value 13 = .ok (.getfield 31, 3) := by decide +kernel
theorem dX5_value_16 : decode cX5_value 16 = .ok (.invokevirtual 117, 3) := by decide +kernel
theorem dX5_value_19 : decode cX5_value 19 = .ok (.ifCond .ne 9, 3) := by decide +kernel
theorem dX5_value_22 : decode cX5_value 22 = .ok (.aload_n 0, 1) := by decide +kernel
theorem dX5_value_23 : decode cX5_value 23 = .ok (.iconst 1, 1) := by decide +kernel
theorem dX5_value_24 : decode cX5_value 24 = .ok (.invokevirtual 63, 3) := by decide +kernel
theorem dX5_value_27 : decode cX5_value 27 = .ok (.ireturn, 1) := by decide +kernel
theorem dX5_value_28 : decode cX5_value 28 = .ok (.aload_n 0, 1) := by decide +kernel
theorem dX5_value_29 : decode cX5_value 29 = .ok (.getfield 31, 3) := by decide +kernel
theorem dX5_value_32 : decode cX5_value 32 = .ok (.iload_n 2, 1) := by decide +kernel
theorem dX5_value_33 : decode cX5_value 33 = .ok (.invokevirtual 154, 3) := by decide +kernel
theorem dX5_value_36 : decode cX5_value 36 = .ok (.ireturn, 1) := by decide +kernel
theorem dX5_apply_0 : decode cX5_apply 0 = .ok (.iload_n 1, 1) := by decide +kernel
theorem dX5_apply_1 : decode cX5_apply 1 = .ok (.invokestatic 56, 3) := by decide +kernel
theorem dX5_apply_4 : decode cX5_apply 4 = .ok (.ifCond .eq 17, 3) := by decide +kernel
theorem dX5_apply_7 : decode cX5_apply 7 = .ok (.iload_n 2, 1) := by decide +kernel
theorem dX5_apply_8 : decode cX5_apply 8 = .ok (.invokestatic 56, 3) := by decide +kernel
theorem dX5_apply_11 : decode cX5_apply 11 = .ok (.ifCond .eq 10, 3) := by decide +kernel
theorem dX5_apply_14 : decode cX5_apply 14 = .ok (.iload_n 3, 1) := by decide +kernel
theorem dX5_apply_15 : decode cX5_apply 15 = .ok (.invokestatic 56, 3) := by decide +kernel
theorem dX5_apply_18 : decode cX5_apply 18 = .ok (.ifCond .ne 6, 3) := by decide +kernel
theorem dX5_apply_21 : decode cX5_apply 21 = .ok (.bipush (-2), 2) := by decide +kernel
theorem dX5_apply_23 : decode cX5_apply 23 = .ok (.ireturn, 1) := by decide +kernel
theorem dX5_apply_24 : decode cX5_apply 24 = .ok (.aload_n 0, 1) := by decide +kernel
theorem dX5_apply_25 : decode cX5_apply 25 = .ok (.iload_n 1, 1) := by decide +kernel
theorem dX5_apply_26 : decode cX5_apply 26 = .ok (.aload_n 0, 1) := by decide +kernel
theorem dX5_apply_27 : decode cX5_apply 27 = .ok (.getfield 31, 3) := by decide +kernel
theorem dX5_apply_30 : decode cX5_apply 30 = .ok (.invokevirtual 117, 3) := by decide +kernel
theorem dX5_apply_33 : decode cX5_apply 33 = .ok (.ifCond .eq 15, 3) := by decide +kernel
theorem dX5_apply_36 : decode cX5_apply 36 = .ok (.aload_n 0, 1) := by decide +kernel
theorem dX5_apply_37 : decode cX5_apply 37 = .ok (.iload_n 2, 1) := by decide +kernel
theorem dX5_apply_38 : decode cX5_apply 38 = .ok (.aload_n 0, 1) := by decide +kernel
theorem dX5_apply_39 : decode cX5_apply 39 = .ok (.getfield 35, 3) := by decide +kernel
theorem dX5_apply_42 : decode cX5_apply 42 = .ok (.invokevirtual 117, 3) := by decide +kernel
theorem dX5_apply_45 : decode cX5_apply 45 = .ok (.ifCond .ne 9, 3) := by decide +kernel
theorem dX5_apply_48 : decode cX5_apply 48 = .ok (.aload_n 0, 1) := by decide +kernel
theorem dX5_apply_49 : decode cX5_apply 49 = .ok (.iconst 1, 1) := by decide +kernel
theorem dX5_apply_50 : decode cX5_apply 50 = .ok (.invokevirtual 63, 3) := by decide +kernel
theorem dX5_apply_53 : decode cX5_apply 53 = .ok (.ireturn, 1) := by decide +kernel
theorem dX5_apply_54 : decode cX5_apply 54 = .ok (.aload_n 0, 1) := by decide +kernel
theorem dX5_apply_55 : decode cX5_apply 55 = .ok (.getfield 24, 3) := by decide +kernel
theorem dX5_apply_58 : decode cX5_apply 58 = .ok (.aload_n 0, 1) := by decide +kernel
theorem dX5_apply_59 : decode cX5_apply 59 = .ok (.getfield 31, 3) := by decide +kernel
theorem dX5_apply_62 : decode cX5_apply 62 = .ok (.aload_n 0, 1) := by decide +kernel
theorem dX5_apply_63 : decode cX5_apply 63 = .ok (.getfield 35, 3) := by decide +kernel
theorem dX5_apply_66 : decode cX5_apply 66 = .ok (.aload_n 0, 1) := by decide +kernel
theorem dX5_apply_67 : decode cX5_apply 67 = .ok (.getfield 44, 3) := by decide +kernel
theorem dX5_apply_70 : decode cX5_apply 70 = .ok (.invokevirtual 157, 3) := by decide +kernel
theorem dX5_apply_73 : decode cX5_apply 73 = .ok (.aload_n 0, 1) := by decide +kernel
theorem dX5_apply_74 : decode cX5_apply 74 = .ok (.iload_n 3, 1) := by decide +kernel
theorem dX5_apply_75 : decode cX5_apply 75 = .ok (.aload_n 0, 1) := by decide +kernel
theorem dX5_apply_76 : decode cX5_apply 76 = .ok (.getfield 44, 3) := by decide +kernel
theorem dX5_apply_79 : decode cX5_apply 79 = .ok (.invokevirtual 113, 3) := by decide +kernel
theorem dX5_apply_82 : decode cX5_apply 82 = .ok (.ireturn, 1) := by decide +kernel
theorem dX5_ladder_0 : decode cX5_ladder 0 = .ok (.iload_n 1, 1) := by decide +kernel
theorem dX5_ladder_1 : decode cX5_ladder 1 = .ok (.invokestatic 161, 3) := by decide +kernel
theorem dX5_ladder_4 : decode cX5_ladder 4 = .ok (.ifCond .eq 17, 3) := by decide +kernel
theorem dX5_ladder_7 : decode cX5_ladder 7 = .ok (.iload_n 2, 1) := by decide +kernel
theorem dX5_ladder_8 : decode cX5_ladder 8 = .ok (.invokestatic 56, 3) := by decide +kernel
theorem dX5_ladder_11 : decode cX5_ladder 11 = .ok (.ifCond .eq 10, 3) := by decide +kernel
theorem dX5_ladder_14 : decode cX5_ladder 14 = .ok (.iload_n 3, 1) := by decide +kernel
theorem dX5_ladder_15 : decode cX5_ladder 15 = .ok (.invokestatic 56, 3) := by decide +kernel
theorem dX5_ladder_18 : decode cX5_ladder 18 = .ok (.ifCond .ne 6, 3) := by decide +kernel
theorem dX5_ladder_21 : decode cX5_ladder 21 = .ok (.bipush (-2), 2) := by decide +kernel
theorem dX5_ladder_23 : decode cX5_ladder 23 = .ok (.ireturn, 1) := by decide +kernel
theorem dX5_ladder_24 : decode cX5_ladder 24 = .ok (.aload_n 0, 1) := by decide +kernel
theorem dX5_ladder_25 : decode cX5_ladder 25 = .ok (.iload_n 2, 1) := by decide +kernel
theorem dX5_ladder_26 : decode cX5_ladder 26 = .ok (.aload_n 0, 1) := by decide +kernel
theorem dX5_ladder_27 : decode cX5_ladder 27 = .ok (.getfield 31, 3) := by decide +kernel
theorem dX5_ladder_30 : decode cX5_ladder 30 = .ok (.invokevirtual 117, 3) := by decide +kernel
theorem dX5_ladder_33 : decode cX5_ladder 33 = .ok (.ifCond .eq 15, 3) := by decide +kernel
theorem dX5_ladder_36 : decode cX5_ladder 36 = .ok (.aload_n 0, 1) := by decide +kernel
theorem dX5_ladder_37 : decode cX5_ladder 37 = .ok (.iload_n 3, 1) := by decide +kernel
theorem dX5_ladder_38 : decode cX5_ladder 38 = .ok (.aload_n 0, 1) := by decide +kernel
theorem dX5_ladder_39 : decode cX5_ladder 39 = .ok (.getfield 35, 3) := by decide +kernel
theorem dX5_ladder_42 : decode cX5_ladder 42 = .ok (.invokevirtual 117, 3) := by decide +kernel
theorem dX5_ladder_45 : decode cX5_ladder 45 = .ok (.ifCond .ne 9, 3) := by decide +kernel
theorem dX5_ladder_48 : decode cX5_ladder 48 = .ok (.aload_n 0, 1) := by decide +kernel
theorem dX5_ladder_49 : decode cX5_ladder 49 = .ok (.iconst 1, 1) := by decide +kernel
theorem dX5_ladder_50 : decode cX5_ladder 50 = .ok (.invokevirtual 63, 3) := by decide +kernel
theorem dX5_ladder_53 : decode cX5_ladder 53 = .ok (.ireturn, 1) := by decide +kernel
theorem dX5_ladder_54 : decode cX5_ladder 54 = .ok (.aload_n 0, 1) := by decide +kernel
theorem dX5_ladder_55 : decode cX5_ladder 55 = .ok (.getfield 31, 3) := by decide +kernel
theorem dX5_ladder_58 : decode cX5_ladder 58 = .ok (.invokevirtual 131, 3) := by decide +kernel
theorem dX5_ladder_61 : decode cX5_ladder 61 = .ok (.ifCond .eq 13, 3) := by decide +kernel
theorem dX5_ladder_64 : decode cX5_ladder 64 = .ok (.aload_n 0, 1) := by decide +kernel
theorem dX5_ladder_65 : decode cX5_ladder 65 = .ok (.getfield 35, 3) := by decide +kernel
theorem dX5_ladder_68 : decode cX5_ladder 68 = .ok (.invokevirtual 144, 3) := by decide +kernel
theorem dX5_ladder_71 : decode cX5_ladder 71 = .ok (.ifCond .ne 6, 3) := by decide +kernel
theorem dX5_ladder_74 : decode cX5_ladder 74 = .ok (.bipush (-3), 2) := by decide +kernel
theorem dX5_ladder_76 : decode cX5_ladder 76 = .ok (.ireturn, 1) := by decide +kernel
theorem dX5_ladder_77 : decode cX5_ladder 77 = .ok (.aload_n 0, 1) := by decide +kernel
theorem dX5_ladder_78 : decode cX5_ladder 78 = .ok (.getfield 24, 3) := by decide +kernel
theorem dX5_ladder_81 : decode cX5_ladder 81 = .ok (.aload_n 0, 1) := by decide +kernel
theorem dX5_ladder_82 : decode cX5_ladder 82 = .ok (.getfield 17, 3) := by decide +kernel
theorem dX5_ladder_85 : decode cX5_ladder 85 = .ok (.iload_n 1, 1) := by decide +kernel
theorem dX5_ladder_86 : decode cX5_ladder 86 = .ok (.aaload, 1) := by decide +kernel
theorem dX5_ladder_87 : decode cX5_ladder 87 = .ok (.aload_n 0, 1) := by decide +kernel
theorem dX5_ladder_88 : decode cX5_ladder 88 = .ok (.getfield 31, 3) := by decide +kernel
theorem dX5_ladder_91 : decode cX5_ladder 91 = .ok (.aload_n 0, 1) := by decide +kernel
theorem dX5_ladder_92 : decode cX5_ladder 92 = .ok (.getfield 35, 3) := by decide +kernel
theorem dX5_ladder_95 : decode cX5_ladder 95 = .ok (.invokevirtual 164, 3) := by decide +kernel
theorem dX5_ladder_98 : decode cX5_ladder 98 = .ok (.iconst 1, 1) := by decide +kernel
theorem dX5_ladder_99 : decode cX5_ladder 99 = .ok (.ireturn, 1) := by decide +kernel
theorem dX5_step_0 : decode cX5_step 0 = .ok (.iload_n 1, 1) := by decide +kernel
theorem dX5_step_1 : decode cX5_step 1 = .ok (.invokestatic 161, 3) := by decide +kernel
theorem dX5_step_4 : decode cX5_step 4 = .ok (.ifCond .eq 17, 3) := by decide +kernel
theorem dX5_step_7 : decode cX5_step 7 = .ok (.iload_n 2, 1) := by decide +kernel
theorem dX5_step_8 : decode cX5_step 8 = .ok (.invokestatic 103, 3) := by decide +kernel
theorem dX5_step_11 : decode cX5_step 11 = .ok (.ifCond .eq 10, 3) := by decide +kernel
theorem dX5_step_14 : decode cX5_step 14 = .ok (.iload_n 3, 1) := by decide +kernel
theorem dX5_step_15 : decode cX5_step 15 = .ok (.invokestatic 103, 3) := by decide +kernel
theorem dX5_step_18 : decode cX5_step 18 = .ok (.ifCond .ne 6, 3) := by decide +kernel
theorem dX5_step_21 : decode cX5_step 21 = .ok (.bipush (-2), 2) := by decide +kernel
theorem dX5_step_23 : decode cX5_step 23 = .ok (.ireturn, 1) := by decide +kernel
theorem dX5_step_24 : decode cX5_step 24 = .ok (.aload_n 0, 1) := by decide +kernel
theorem dX5_step_25 : decode cX5_step 25 = .ok (.getfield 17, 3) := by decide +kernel
theorem dX5_step_28 : decode cX5_step 28 = .ok (.iload_n 1, 1) := by decide +kernel
theorem dX5_step_29 : decode cX5_step 29 = .ok (.aaload, 1) := by decide +kernel
theorem dX5_step_30 : decode cX5_step 30 = .ok (.getfield 168, 3) := by decide +kernel
theorem dX5_step_33 : decode cX5_step 33 = .ok (.ifCond .ne 6, 3) := by decide +kernel
theorem dX5_step_36 : decode cX5_step 36 = .ok (.bipush (-3), 2) := by decide +kernel
theorem dX5_step_38 : decode cX5_step 38 = .ok (.ireturn, 1) := by decide +kernel
theorem dX5_step_39 : decode cX5_step 39 = .ok (.aload_n 0, 1) := by decide +kernel
theorem dX5_step_40 : decode cX5_step 40 = .ok (.getfield 17, 3) := by decide +kernel
theorem dX5_step_43 : decode cX5_step 43 = .ok (.iload_n 1, 1) := by decide +kernel
theorem dX5_step_44 : decode cX5_step 44 = .ok (.aaload, 1) := by decide +kernel
theorem dX5_step_45 : decode cX5_step 45 = .ok (.getfield 171, 3) := by decide +kernel
theorem dX5_step_48 : decode cX5_step 48 = .ok (.iload_n 2, 1) := by decide +kernel
theorem dX5_step_49 : decode cX5_step 49 = .ok (.aaload, 1) := by decide +kernel
theorem dX5_step_50 : decode cX5_step 50 = .ok (.getfield 175, 3) := by decide +kernel
theorem dX5_step_53 : decode cX5_step 53 = .ok (.iload_n 3, 1) := by decide +kernel
theorem dX5_step_54 : decode cX5_step 54 = .ok (.iaload, 1) := by decide +kernel
theorem dX5_step_55 : decode cX5_step 55 = .ok (.ireturn, 1) := by decide +kernel
theorem dX5_at_0 : decode cX5_at 0 = .ok (.iload_n 1, 1) := by decide +kernel
theorem dX5_at_1 : decode cX5_at 1 = .ok (.invokestatic 161, 3) := by decide +kernel
theorem dX5_at_4 : decode cX5_at 4 = .ok (.ifCond .eq 10, 3) := by decide +kernel
theorem dX5_at_7 : decode cX5_at 7 = .ok (.iload_n 2, 1) := by decide +kernel
theorem dX5_at_8 : decode cX5_at 8 = .ok (.invokestatic 103, 3) := by decide +kernel
theorem dX5_at_11 : decode cX5_at 11 = .ok (.ifCond .ne 6, 3) := by decide +kernel
theorem dX5_at_14 : decode cX5_at 14 = .ok (.bipush (-2), 2) := by decide +kernel
theorem dX5_at_16 : decode cX5_at 16 = .ok (.ireturn, 1) := by decide +kernel
theorem dX5_at_17 : decode cX5_at 17 = .ok (.aload_n 0, 1) := by decide +kernel
theorem dX5_at_18 : decode cX5_at 18 = .ok (.getfield 17, 3) := by decide +kernel
theorem dX5_at_21 : decode cX5_at 21 = .ok (.iload_n 1, 1) := by decide +kernel
theorem dX5_at_22 : decode cX5_at 22 = .ok (.aaload, 1) := by decide +kernel
theorem dX5_at_23 : decode cX5_at 23 = .ok (.getfield 168, 3) := by decide +kernel
theorem dX5_at_26 : decode cX5_at 26 = .ok (.ifCond .ne 6, 3) := by decide +kernel
theorem dX5_at_29 : decode cX5_at 29 = .ok (.bipush (-3), 2) := by decide +kernel
theorem dX5_at_31 : decode cX5_at 31 = .ok (.ireturn, 1) := by decide +kernel
theorem dX5_at_32 : decode cX5_at 32 = .ok (.aload_n 0, 1) := by decide +kernel
theorem dX5_at_33 : decode cX5_at 33 = .ok (.getfield 17, 3) := by decide +kernel
theorem dX5_at_36 : decode cX5_at 36 = .ok (.iload_n 1, 1) := by decide +kernel
theorem dX5_at_37 : decode cX5_at 37 = .ok (.aaload, 1) := by decide +kernel
theorem dX5_at_38 : decode cX5_at 38 = .ok (.getfield 171, 3) := by decide +kernel
theorem dX5_at_41 : decode cX5_at 41 = .ok (.iload_n 2, 1) := by decide +kernel
theorem dX5_at_42 : decode cX5_at 42 = .ok (.aaload, 1) := by decide +kernel
theorem dX5_at_43 : decode cX5_at 43 = .ok (.iload_n 3, 1) := by decide +kernel
theorem dX5_at_44 : decode cX5_at 44 = .ok (.invokevirtual 154, 3) := by decide +kernel
theorem dX5_at_47 : decode cX5_at 47 = .ok (.ireturn, 1) := by decide +kernel
theorem dX5_tell_0 : decode cX5_tell 0 = .ok (.iload_n 1, 1) := by decide +kernel
theorem dX5_tell_1 : decode cX5_tell 1 = .ok (.invokestatic 161, 3) := by decide +kernel
theorem dX5_tell_4 : decode cX5_tell 4 = .ok (.ifCond .eq 17, 3) := by decide +kernel
theorem dX5_tell_7 : decode cX5_tell 7 = .ok (.iload_n 2, 1) := by decide +kernel
theorem dX5_tell_8 : decode cX5_tell 8 = .ok (.invokestatic 103, 3) := by decide +kernel
theorem dX5_tell_11 : decode cX5_tell 11 = .ok (.ifCond .eq 10, 3) := by decide +kernel
theorem dX5_tell_14 : decode cX5_tell 14 = .ok (.iload_n 3, 1) := by decide +kernel
theorem dX5_tell_15 : decode cX5_tell 15 = .ok (.invokestatic 56, 3) := by decide +kernel
theorem dX5_tell_18 : decode cX5_tell 18 = .ok (.ifCond .ne 6, 3) := by decide +kernel
theorem dX5_tell_21 : decode cX5_tell 21 = .ok (.bipush (-2), 2) := by decide +kernel
theorem dX5_tell_23 : decode cX5_tell 23 = .ok (.ireturn, 1) := by decide +kernel
theorem dX5_tell_24 : decode cX5_tell 24 = .ok (.aload_n 0, 1) := by decide +kernel
theorem dX5_tell_25 : decode cX5_tell 25 = .ok (.getfield 17, 3) := by decide +kernel
theorem dX5_tell_28 : decode cX5_tell 28 = .ok (.iload_n 1, 1) := by decide +kernel
theorem dX5_tell_29 : decode cX5_tell 29 = .ok (.aaload, 1) := by decide +kernel
theorem dX5_tell_30 : decode cX5_tell 30 = .ok (.getfield 168, 3) := by decide +kernel
theorem dX5_tell_33 : decode cX5_tell 33 = .ok (.ifCond .ne 6, 3) := by decide +kernel
theorem dX5_tell_36 : decode cX5_tell 36 = .ok (.bipush (-3), 2) := by decide +kernel
theorem dX5_tell_38 : decode cX5_tell 38 = .ok (.ireturn, 1) := by decide +kernel
theorem dX5_tell_39 : decode cX5_tell 39 = .ok (.aload_n 0, 1) := by decide +kernel
theorem dX5_tell_40 : decode cX5_tell 40 = .ok (.iload_n 3, 1) := by decide +kernel
theorem dX5_tell_41 : decode cX5_tell 41 = .ok (.aload_n 0, 1) := by decide +kernel
theorem dX5_tell_42 : decode cX5_tell 42 = .ok (.getfield 17, 3) := by decide +kernel
theorem dX5_tell_45 : decode cX5_tell 45 = .ok (.iload_n 1, 1) := by decide +kernel
theorem dX5_tell_46 : decode cX5_tell 46 = .ok (.aaload, 1) := by decide +kernel
theorem dX5_tell_47 : decode cX5_tell 47 = .ok (.getfield 171, 3) := by decide +kernel
theorem dX5_tell_50 : decode cX5_tell 50 = .ok (.iload_n 2, 1) := by decide +kernel
theorem dX5_tell_51 : decode cX5_tell 51 = .ok (.aaload, 1) := by decide +kernel
theorem dX5_tell_52 : decode cX5_tell 52 = .ok (.invokevirtual 113, 3) := by decide +kernel
theorem dX5_tell_55 : decode cX5_tell 55 = .ok (.ireturn, 1) := by decide +kernel
theorem dX5_lowers_0 : decode cX5_lowers 0 = .ok (.iload_n 1, 1) := by decide +kernel
theorem dX5_lowers_1 : decode cX5_lowers 1 = .ok (.invokestatic 161, 3) := by decide +kernel
theorem dX5_lowers_4 : decode cX5_lowers 4 = .ok (.ifCond .eq 10, 3) := by decide +kernel
theorem dX5_lowers_7 : decode cX5_lowers 7 = .ok (.iload_n 2, 1) := by decide +kernel
theorem dX5_lowers_8 : decode cX5_lowers 8 = .ok (.invokestatic 56, 3) := by decide +kernel
theorem dX5_lowers_11 : decode cX5_lowers 11 = .ok (.ifCond .ne 6, 3) := by decide +kernel
theorem dX5_lowers_14 : decode cX5_lowers 14 = .ok (.bipush (-2), 2) := by decide +kernel
theorem dX5_lowers_16 : decode cX5_lowers 16 = .ok (.ireturn, 1) := by decide +kernel
theorem dX5_lowers_17 : decode cX5_lowers 17 = .ok (.aload_n 0, 1) := by decide +kernel
theorem dX5_lowers_18 : decode cX5_lowers 18 = .ok (.iload_n 2, 1) := by decide +kernel
theorem dX5_lowers_19 : decode cX5_lowers 19 = .ok (.aload_n 0, 1) := by decide +kernel
theorem dX5_lowers_20 : decode cX5_lowers 20 = .ok (.getfield 31, 3) := by decide +kernel
theorem dX5_lowers_23 : decode cX5_lowers 23 = .ok (.invokevirtual 117, 3) := by decide +kernel
theorem dX5_lowers_26 : decode cX5_lowers 26 = .ok (.ifCond .ne 9, 3) := by decide +kernel
theorem dX5_lowers_29 : decode cX5_lowers 29 = .ok (.aload_n 0, 1) := by decide +kernel
theorem dX5_lowers_30 : decode cX5_lowers 30 = .ok (.iconst 1, 1) := by decide +kernel
theorem dX5_lowers_31 : decode cX5_lowers 31 = .ok (.invokevirtual 63, 3) := by decide +kernel
theorem dX5_lowers_34 : decode cX5_lowers 34 = .ok (.ireturn, 1) := by decide +kernel
theorem dX5_lowers_35 : decode cX5_lowers 35 = .ok (.aload_n 0, 1) := by decide +kernel
theorem dX5_lowers_36 : decode cX5_lowers 36 = .ok (.getfield 17, 3) := by decide +kernel
theorem dX5_lowers_39 : decode cX5_lowers 39 = .ok (.iload_n 1, 1) := by decide +kernel
theorem dX5_lowers_40 : decode cX5_lowers 40 = .ok (.aaload, 1) := by decide +kernel
theorem dX5_lowers_41 : decode cX5_lowers 41 = .ok (.getfield 168, 3) := by decide +kernel
theorem dX5_lowers_44 : decode cX5_lowers 44 = .ok (.ifCond .ne 6, 3) := by decide +kernel
theorem dX5_lowers_47 : decode cX5_lowers 47 = .ok (.bipush (-3), 2) := by decide +kernel
theorem dX5_lowers_49 : decode cX5_lowers 49 = .ok (.ireturn, 1) := by decide +kernel
theorem dX5_lowers_50 : decode cX5_lowers 50 = .ok (.aload_n 0, 1) := by decide +kernel
theorem dX5_lowers_51 : decode cX5_lowers 51 = .ok (.getfield 24, 3) := by decide +kernel
theorem dX5_lowers_54 : decode cX5_lowers 54 = .ok (.aload_n 0, 1) := by decide +kernel
theorem dX5_lowers_55 : decode cX5_lowers 55 = .ok (.getfield 17, 3) := by decide +kernel
theorem dX5_lowers_58 : decode cX5_lowers 58 = .ok (.iload_n 1, 1) := by decide +kernel
theorem dX5_lowers_59 : decode cX5_lowers 59 = .ok (.aaload, 1) := by decide +kernel
theorem dX5_lowers_60 : decode cX5_lowers 60 = .ok (.aload_n 0, 1) := by decide +kernel
theorem dX5_lowers_61 : decode cX5_lowers 61 = .ok (.getfield 31, 3) := by decide +kernel
theorem dX5_lowers_64 : decode cX5_lowers 64 = .ok (.invokevirtual 178, 3) := by decide +kernel
theorem dX5_lowers_67 : decode cX5_lowers 67 = .ok (.ireturn, 1) := by decide +kernel
theorem dX5_bound_0 : decode cX5_bound 0 = .ok (.iload_n 1, 1) := by decide +kernel
theorem dX5_bound_1 : decode cX5_bound 1 = .ok (.invokestatic 161, 3) := by decide +kernel
theorem dX5_bound_4 : decode cX5_bound 4 = .ok (.ifCond .eq 25, 3) := by decide +kernel
theorem dX5_bound_7 : decode cX5_bound 7 = .ok (.iload_n 2, 1) := by decide +kernel
theorem dX5_bound_8 : decode cX5_bound 8 = .ok (.invokestatic 161, 3) := by decide +kernel
theorem dX5_bound_11 : decode cX5_bound 11 = .ok (.ifCond .eq 18, 3) := by decide +kernel
theorem dX5_bound_14 : decode cX5_bound 14 = .ok (.iload_n 3, 1) := by decide +kernel
theorem dX5_bound_15 : decode cX5_bound 15 = .ok (.invokestatic 103, 3) := by decide +kernel
theorem dX5_bound_18 : decode cX5_bound 18 = .ok (.ifCond .eq 11, 3) := by decide +kernel
theorem dX5_bound_21 : decode cX5_bound 21 = .ok (.iload 4, 2) := by decide +kernel
theorem dX5_bound_23 : decode cX5_bound 23 = .ok (.invokestatic 103, 3) := by decide +kernel
theorem dX5_bound_26 : decode cX5_bound 26 = .ok (.ifCond .ne 6, 3) := by decide +kernel
theorem dX5_bound_29 : decode cX5_bound 29 = .ok (.bipush (-2), 2) := by decide +kernel
theorem dX5_bound_31 : decode cX5_bound 31 = .ok (.ireturn, 1) := by decide +kernel
theorem dX5_bound_32 : decode cX5_bound 32 = .ok (.aload_n 0, 1) := by decide +kernel
theorem dX5_bound_33 : decode cX5_bound 33 = .ok (.getfield 17, 3) := by decide +kernel
theorem dX5_bound_36 : decode cX5_bound 36 = .ok (.iload_n 1, 1) := by decide +kernel
theorem dX5_bound_37 : decode cX5_bound 37 = .ok (.aaload, 1) := by decide +kernel
theorem dX5_bound_38 : decode cX5_bound 38 = .ok (.getfield 168, 3) := by decide +kernel
theorem dX5_bound_41 : decode cX5_bound 41 = .ok (.ifCond .eq 15, 3) := by decide +kernel
theorem dX5_bound_44 : decode cX5_bound 44 = .ok (.aload_n 0, 1) := by decide +kernel
theorem dX5_bound_45 : decode cX5_bound 45 = .ok (.getfield 17, 3) := by decide +kernel
theorem dX5_bound_48 : decode cX5_bound 48 = .ok (.iload_n 2, 1) := by decide +kernel
theorem dX5_bound_49 : decode cX5_bound 49 = .ok (.aaload, 1) := by decide +kernel
theorem dX5_bound_50 : decode cX5_bound 50 = .ok (.getfield 168, 3) := by decide +kernel
theorem dX5_bound_53 : decode cX5_bound 53 = .ok (.ifCond .ne 6, 3) := by decide +kernel
theorem dX5_bound_56 : decode cX5_bound 56 = .ok (.bipush (-3), 2) := by decide +kernel
theorem dX5_bound_58 : decode cX5_bound 58 = .ok (.ireturn, 1) := by decide +kernel
theorem dX5_bound_59 : decode cX5_bound 59 = .ok (.aload_n 0, 1) := by decide +kernel
theorem dX5_bound_60 : decode cX5_bound 60 = .ok (.getfield 24, 3) := by decide +kernel
theorem dX5_bound_63 : decode cX5_bound 63 = .ok (.aload_n 0, 1) := by decide +kernel
theorem dX5_bound_64 : decode cX5_bound 64 = .ok (.getfield 17, 3) := by decide +kernel
theorem dX5_bound_67 : decode cX5_bound 67 = .ok (.iload_n 1, 1) := by decide +kernel
theorem dX5_bound_68 : decode cX5_bound 68 = .ok (.aaload, 1) := by decide +kernel
theorem dX5_bound_69 : decode cX5_bound 69 = .ok (.getfield 171, 3) := by decide +kernel
theorem dX5_bound_72 : decode cX5_bound 72 = .ok (.iload_n 3, 1) := by decide +kernel
theorem dX5_bound_73 : decode cX5_bound 73 = .ok (.aaload, 1) := by decide +kernel
theorem dX5_bound_74 : decode cX5_bound 74 = .ok (.aload_n 0, 1) := by decide +kernel
theorem dX5_bound_75 : decode cX5_bound 75 = .ok (.getfield 17, 3) := by decide +kernel
theorem dX5_bound_78 : decode cX5_bound 78 = .ok (.iload_n 2, 1) := by decide +kernel
theorem dX5_bound_79 : decode cX5_bound 79 = .ok (.aaload, 1) := by decide +kernel
theorem dX5_bound_80 : decode cX5_bound 80 = .ok (.iload 4, 2) := by decide +kernel
theorem dX5_bound_82 : decode cX5_bound 82 = .ok (.invokevirtual 182, 3) := by decide +kernel
theorem dX5_bound_85 : decode cX5_bound 85 = .ok (.ireturn, 1) := by decide +kernel
theorem dX5_binomial_0 : decode cX5_binomial 0 = .ok (.iload_n 1, 1) := by decide +kernel
theorem dX5_binomial_1 : decode cX5_binomial 1 = .ok (.invokestatic 161, 3) := by decide +kernel
theorem dX5_binomial_4 : decode cX5_binomial 4 = .ok (.ifCond .ne 6, 3) := by decide +kernel
theorem dX5_binomial_7 : decode cX5_binomial 7 = .ok (.bipush (-2), 2) := by decide +kernel
theorem dX5_binomial_9 : decode cX5_binomial 9 = .ok (.ireturn, 1) := by decide +kernel
theorem dX5_binomial_10 : decode cX5_binomial 10 = .ok (.aload_n 0, 1) := by decide +kernel
theorem dX5_binomial_11 : decode cX5_binomial 11 = .ok (.getfield 17, 3) := by decide +kernel
theorem dX5_binomial_14 : decode cX5_binomial 14 = .ok (.iload_n 1, 1) := by decide +kernel
theorem dX5_binomial_15 : decode cX5_binomial 15 = .ok (.aaload, 1) := by decide +kernel
theorem dX5_binomial_16 : decode cX5_binomial 16 = .ok (.getfield 168, 3) := by decide +kernel
theorem dX5_binomial_19 : decode cX5_binomial 19 = .ok (.ifCond .ne 6, 3) := by decide +kernel
theorem dX5_binomial_22 : decode cX5_binomial 22 = .ok (.bipush (-3), 2) := by decide +kernel
theorem dX5_binomial_24 : decode cX5_binomial 24 = .ok (.ireturn, 1) := by decide +kernel
theorem dX5_binomial_25 : decode cX5_binomial 25 = .ok (.aload_n 0, 1) := by decide +kernel
theorem dX5_binomial_26 : decode cX5_binomial 26 = .ok (.getfield 24, 3) := by decide +kernel
theorem dX5_binomial_29 : decode cX5_binomial 29 = .ok (.aload_n 0, 1) := by decide +kernel
theorem dX5_binomial_30 : decode cX5_binomial 30 = .ok (.getfield 17, 3) := by decide +kernel
theorem dX5_binomial_33 : decode cX5_binomial 33 = .ok (.iload_n 1, 1) := by decide +kernel
theorem dX5_binomial_34 : decode cX5_binomial 34 = .ok (.aaload, 1) := by decide +kernel
theorem dX5_binomial_35 : decode cX5_binomial 35 = .ok (.invokevirtual 186, 3) := by decide +kernel
theorem dX5_binomial_38 : decode cX5_binomial 38 = .ok (.ireturn, 1) := by decide +kernel
theorem dX5_sum_0 : decode cX5_sum 0 = .ok (.iload_n 1, 1) := by decide +kernel
theorem dX5_sum_1 : decode cX5_sum 1 = .ok (.invokestatic 56, 3) := by decide +kernel
theorem dX5_sum_4 : decode cX5_sum 4 = .ok (.ifCond .eq 13, 3) := by decide +kernel
theorem dX5_sum_7 : decode cX5_sum 7 = .ok (.iload_n 3, 1) := by decide +kernel
theorem dX5_sum_8 : decode cX5_sum 8 = .ok (.ifCond .lt 9, 3) := by decide +kernel
theorem dX5_sum_11 : decode cX5_sum 11 = .ok (.iload_n 3, 1) := by decide +kernel
theorem dX5_sum_12 : decode cX5_sum 12 = .ok (.ldc 190, 2) := by decide +kernel
theorem dX5_sum_14 : decode cX5_sum 14 = .ok (.if_icmp .le 6, 3) := by decide +kernel
theorem dX5_sum_17 : decode cX5_sum 17 = .ok (.bipush (-2), 2) := by decide +kernel
theorem dX5_sum_19 : decode cX5_sum 19 = .ok (.ireturn, 1) := by decide +kernel
theorem dX5_sum_20 : decode cX5_sum 20 = .ok (.aload_n 0, 1) := by decide +kernel
theorem dX5_sum_21 : decode cX5_sum 21 = .ok (.iload_n 1, 1) := by decide +kernel
theorem dX5_sum_22 : decode cX5_sum 22 = .ok (.aload_n 0, 1) := by decide +kernel
theorem dX5_sum_23 : decode cX5_sum 23 = .ok (.getfield 31, 3) := by decide +kernel
theorem dX5_sum_26 : decode cX5_sum 26 = .ok (.invokevirtual 117, 3) := by decide +kernel
theorem dX5_sum_29 : decode cX5_sum 29 = .ok (.ifCond .ne 9, 3) := by decide +kernel
theorem dX5_sum_32 : decode cX5_sum 32 = .ok (.aload_n 0, 1) := by decide +kernel
theorem dX5_sum_33 : decode cX5_sum 33 = .ok (.iconst 1, 1) := by decide +kernel
theorem dX5_sum_34 : decode cX5_sum 34 = .ok (.invokevirtual 63, 3) := by decide +kernel
theorem dX5_sum_37 : decode cX5_sum 37 = .ok (.ireturn, 1) := by decide +kernel
theorem dX5_sum_38 : decode cX5_sum 38 = .ok (.aload_n 0, 1) := by decide +kernel
theorem dX5_sum_39 : decode cX5_sum 39 = .ok (.getfield 24, 3) := by decide +kernel
theorem dX5_sum_42 : decode cX5_sum 42 = .ok (.aload_n 0, 1) := by decide +kernel
theorem dX5_sum_43 : decode cX5_sum 43 = .ok (.getfield 31, 3) := by decide +kernel
theorem dX5_sum_46 : decode cX5_sum 46 = .ok (.iload_n 2, 1) := by decide +kernel
theorem dX5_sum_47 : decode cX5_sum 47 = .ok (.iload_n 3, 1) := by decide +kernel
theorem dX5_sum_48 : decode cX5_sum 48 = .ok (.invokevirtual 191, 3) := by decide +kernel
theorem dX5_sum_51 : decode cX5_sum 51 = .ok (.ireturn, 1) := by decide +kernel
theorem dX5_through_0 : decode cX5_through 0 = .ok (.iload_n 1, 1) := by decide +kernel
theorem dX5_through_1 : decode cX5_through 1 = .ok (.invokestatic 56, 3) := by decide +kernel
theorem dX5_through_4 : decode cX5_through 4 = .ok (.ifCond .eq 21, 3) := by decide +kernel
theorem dX5_through_7 : decode cX5_through 7 = .ok (.iload_n 2, 1) := by decide +kernel
theorem dX5_through_8 : decode cX5_through 8 = .ok (.iconst 1, 1) := by decide +kernel
theorem dX5_through_9 : decode cX5_through 9 = .ok (.if_icmp .lt 16, 3) := by decide +kernel
theorem dX5_through_12 : decode cX5_through 12 = .ok (.iload_n 2, 1) := by decide +kernel
theorem dX5_through_13 : decode cX5_through 13 = .ok (.bipush 10, 2) := by decide +kernel
theorem dX5_through_15 : decode cX5_through 15 = .ok (.if_icmp .gt 10, 3) := by decide +kernel
theorem dX5_through_18 : decode cX5_through 18 = .ok (.iload_n 3, 1) := by decide +kernel
theorem dX5_through_19 : decode cX5_through 19 = .ok (.invokestatic 56, 3) := by decide +kernel
theorem dX5_through_22 : decode cX5_through 22 = .ok (.ifCond .ne 6, 3) := by decide +kernel
theorem dX5_through_25 : decode cX5_through 25 = .ok (.bipush (-2), 2) := by decide +kernel
theorem dX5_through_27 : decode cX5_through 27 = .ok (.ireturn, 1) := by decide +kernel
theorem dX5_through_28 : decode cX5_through 28 = .ok (.aload_n 0, 1) := by decide +kernel
theorem dX5_through_29 : decode cX5_through 29 = .ok (.iload_n 1, 1) := by decide +kernel
theorem dX5_through_30 : decode cX5_through 30 = .ok (.aload_n 0, 1) := by decide +kernel
theorem dX5_through_31 : decode cX5_through 31 = .ok (.getfield 31, 3) := by decide +kernel
theorem dX5_through_34 : decode cX5_through 34 = .ok (.invokevirtual 117, 3) := by decide +kernel
theorem dX5_through_37 : decode cX5_through 37 = .ok (.ifCond .ne 9, 3) := by decide +kernel
theorem dX5_through_40 : decode cX5_through 40 = .ok (.aload_n 0, 1) := by decide +kernel
theorem dX5_through_41 : decode cX5_through 41 = .ok (.iconst 1, 1) := by decide +kernel
theorem dX5_through_42 : decode cX5_through 42 = .ok (.invokevirtual 63, 3) := by decide +kernel
theorem dX5_through_45 : decode cX5_through 45 = .ok (.ireturn, 1) := by decide +kernel
theorem dX5_through_46 : decode cX5_through 46 = .ok (.aload_n 0, 1) := by decide +kernel
theorem dX5_through_47 : decode cX5_through 47 = .ok (.getfield 24, 3) := by decide +kernel
theorem dX5_through_50 : decode cX5_through 50 = .ok (.aload_n 0, 1) := by decide +kernel
theorem dX5_through_51 : decode cX5_through 51 = .ok (.getfield 31, 3) := by decide +kernel
theorem dX5_through_54 : decode cX5_through 54 = .ok (.iload_n 2, 1) := by decide +kernel
theorem dX5_through_55 : decode cX5_through 55 = .ok (.aload_n 0, 1) := by decide +kernel
theorem dX5_through_56 : decode cX5_through 56 = .ok (.getfield 44, 3) := by decide +kernel
theorem dX5_through_59 : decode cX5_through 59 = .ok (.invokevirtual 195, 3) := by decide +kernel
theorem dX5_through_62 : decode cX5_through 62 = .ok (.aload_n 0, 1) := by decide +kernel
theorem dX5_through_63 : decode cX5_through 63 = .ok (.iload_n 3, 1) := by decide +kernel
theorem dX5_through_64 : decode cX5_through 64 = .ok (.aload_n 0, 1) := by decide +kernel
theorem dX5_through_65 : decode cX5_through 65 = .ok (.getfield 44, 3) := by decide +kernel
theorem dX5_through_68 : decode cX5_through 68 = .ok (.invokevirtual 113, 3) := by decide +kernel
theorem dX5_through_71 : decode cX5_through 71 = .ok (.pop, 1) := by decide +kernel
theorem dX5_through_72 : decode cX5_through 72 = .ok (.aload_n 0, 1) := by decide +kernel
theorem dX5_through_73 : decode cX5_through 73 = .ok (.getfield 44, 3) := by decide +kernel
theorem dX5_through_76 : decode cX5_through 76 = .ok (.invokevirtual 199, 3) := by decide +kernel
theorem dX5_through_79 : decode cX5_through 79 = .ok (.ireturn, 1) := by decide +kernel
theorem dX5_difference_0 : decode cX5_difference 0 = .ok (.iload_n 1, 1) := by decide +kernel
theorem dX5_difference_1 : decode cX5_difference 1 = .ok (.invokestatic 56, 3) := by decide +kernel
theorem dX5_difference_4 : decode cX5_difference 4 = .ok (.ifCond .eq 10, 3) := by decide +kernel
theorem dX5_difference_7 : decode cX5_difference 7 = .ok (.iload_n 2, 1) := by decide +kernel
theorem dX5_difference_8 : decode cX5_difference 8 = .ok (.invokestatic 103, 3) := by decide +kernel
theorem dX5_difference_11 : decode cX5_difference 11 = .ok (.ifCond .ne 6, 3) := by decide +kernel
theorem dX5_difference_14 : decode cX5_difference 14 = .ok (.bipush (-2), 2) := by decide +kernel
theorem dX5_difference_16 : decode cX5_difference 16 = .ok (.ireturn, 1) := by decide +kernel
theorem dX5_difference_17 : decode cX5_difference 17 = .ok (.aload_n 0, 1) := by decide +kernel
theorem dX5_difference_18 : decode cX5_difference 18 = .ok (.iload_n 1, 1) := by decide +kernel
theorem dX5_difference_19 : decode cX5_difference 19 = .ok (.aload_n 0, 1) := by decide +kernel
theorem dX5_difference_20 : decode cX5_difference 20 = .ok (.getfield 31, 3) := by decide +kernel
theorem dX5_difference_23 : decode cX5_difference 23 = .ok (.invokevirtual 117, 3) := by decide +kernel
theorem dX5_difference_26 : decode cX5_difference 26 = .ok (.ifCond .ne 9, 3) := by decide +kernel
theorem dX5_difference_29 : decode cX5_difference 29 = .ok (.aload_n 0, 1) := by decide +kernel
theorem dX5_difference_30 : decode cX5_difference 30 = .ok (.iconst 1, 1) := by decide +kernel
theorem dX5_difference_31 : decode cX5_difference 31 = .ok (.invokevirtual 63, 3) := by decide +kernel
theorem dX5_difference_34 : decode cX5_difference 34 = .ok (.ireturn, 1) := by decide +kernel
theorem dX5_difference_35 : decode cX5_difference 35 = .ok (.aload_n 0, 1) := by decide +kernel
theorem dX5_difference_36 : decode cX5_difference 36 = .ok (.getfield 24, 3) := by decide +kernel
theorem dX5_difference_39 : decode cX5_difference 39 = .ok (.aload_n 0, 1) := by decide +kernel
theorem dX5_difference_40 : decode cX5_difference 40 = .ok (.getfield 31, 3) := by decide +kernel
theorem dX5_difference_43 : decode cX5_difference 43 = .ok (.iload_n 2, 1) := by decide +kernel
theorem dX5_difference_44 : decode cX5_difference 44 = .ok (.iload_n 3, 1) := by decide +kernel
theorem dX5_difference_45 : decode cX5_difference 45 = .ok (.invokevirtual 203, 3) := by decide +kernel
theorem dX5_difference_48 : decode cX5_difference 48 = .ok (.ireturn, 1) := by decide +kernel
theorem dX5_triangle_0 : decode cX5_triangle 0 = .ok (.iload_n 1, 1) := by decide +kernel
theorem dX5_triangle_1 : decode cX5_triangle 1 = .ok (.invokestatic 56, 3) := by decide +kernel
theorem dX5_triangle_4 : decode cX5_triangle 4 = .ok (.ifCond .eq 25, 3) := by decide +kernel
theorem dX5_triangle_7 : decode cX5_triangle 7 = .ok (.iload_n 2, 1) := by decide +kernel
theorem dX5_triangle_8 : decode cX5_triangle 8 = .ok (.invokestatic 56, 3) := by decide +kernel
theorem dX5_triangle_11 : decode cX5_triangle 11 = .ok (.ifCond .eq 18, 3) := by decide +kernel
theorem dX5_triangle_14 : decode cX5_triangle 14 = .ok (.iload_n 3, 1) := by decide +kernel
theorem dX5_triangle_15 : decode cX5_triangle 15 = .ok (.invokestatic 103, 3) := by decide +kernel
theorem dX5_triangle_18 : decode cX5_triangle 18 = .ok (.ifCond .eq 11, 3) := by decide +kernel
theorem dX5_triangle_21 : decode cX5_triangle 21 = .ok (.iload 4, 2) := by decide +kernel
theorem dX5_triangle_23 : decode cX5_triangle 23 = .ok (.invokestatic 103, 3) := by decide +kernel
theorem dX5_triangle_26 : decode cX5_triangle 26 = .ok (.ifCond .ne 6, 3) := by decide +kernel
theorem dX5_triangle_29 : decode cX5_triangle 29 = .ok (.bipush (-2), 2) := by decide +kernel
theorem dX5_triangle_31 : decode cX5_triangle 31 = .ok (.ireturn, 1) := by decide +kernel
theorem dX5_triangle_32 : decode cX5_triangle 32 = .ok (.aload_n 0, 1) := by decide +kernel
theorem dX5_triangle_33 : decode cX5_triangle 33 = .ok (.iload_n 1, 1) := by decide +kernel
theorem dX5_triangle_34 : decode cX5_triangle 34 = .ok (.aload_n 0, 1) := by decide +kernel
theorem dX5_triangle_35 : decode cX5_triangle 35 = .ok (.getfield 31, 3) := by decide +kernel
theorem dX5_triangle_38 : decode cX5_triangle 38 = .ok (.invokevirtual 117, 3) := by decide +kernel
theorem dX5_triangle_41 : decode cX5_triangle 41 = .ok (.ifCond .eq 15, 3) := by decide +kernel
theorem dX5_triangle_44 : decode cX5_triangle 44 = .ok (.aload_n 0, 1) := by decide +kernel
theorem dX5_triangle_45 : decode cX5_triangle 45 = .ok (.iload_n 2, 1) := by decide +kernel
theorem dX5_triangle_46 : decode cX5_triangle 46 = .ok (.aload_n 0, 1) := by decide +kernel
theorem dX5_triangle_47 : decode cX5_triangle 47 = .ok (.getfield 35, 3) := by decide +kernel
theorem dX5_triangle_50 : decode cX5_triangle 50 = .ok (.invokevirtual 117, 3) := by decide +kernel
theorem dX5_triangle_53 : decode cX5_triangle 53 = .ok (.ifCond .ne 9, 3) := by decide +kernel
theorem dX5_triangle_56 : decode cX5_triangle 56 = .ok (.aload_n 0, 1) := by decide +kernel
theorem dX5_triangle_57 : decode cX5_triangle 57 = .ok (.iconst 1, 1) := by decide +kernel
theorem dX5_triangle_58 : decode cX5_triangle 58 = .ok (.invokevirtual 63, 3) := by decide +kernel
theorem dX5_triangle_61 : decode cX5_triangle 61 = .ok (.ireturn, 1) := by decide +kernel
theorem dX5_triangle_62 : decode cX5_triangle 62 = .ok (.aload_n 0, 1) := by decide +kernel
theorem dX5_triangle_63 : decode cX5_triangle 63 = .ok (.getfield 35, 3) := by decide +kernel
theorem dX5_triangle_66 : decode cX5_triangle 66 = .ok (.invokevirtual 138, 3) := by decide +kernel
theorem dX5_triangle_69 : decode cX5_triangle 69 = .ok (.ifCond .ne 6, 3) := by decide +kernel
theorem dX5_triangle_72 : decode cX5_triangle 72 = .ok (.bipush (-3), 2) := by decide +kernel
theorem dX5_triangle_74 : decode cX5_triangle 74 = .ok (.ireturn, 1) := by decide +kernel
theorem dX5_triangle_75 : decode cX5_triangle 75 = .ok (.aload_n 0, 1) := by decide +kernel
theorem dX5_triangle_76 : decode cX5_triangle 76 = .ok (.getfield 44, 3) := by decide +kernel
theorem dX5_triangle_79 : decode cX5_triangle 79 = .ok (.aload_n 0, 1) := by decide +kernel
theorem dX5_triangle_80 : decode cX5_triangle 80 = .ok (.getfield 35, 3) := by decide +kernel
theorem dX5_triangle_83 : decode cX5_triangle 83 = .ok (.iload 4, 2) := by decide +kernel
theorem dX5_triangle_85 : decode cX5_triangle 85 = .ok (.invokevirtual 150, 3) := by decide +kernel
theorem dX5_triangle_88 : decode cX5_triangle 88 = .ok (.aload_n 0, 1) := by decide +kernel
theorem dX5_triangle_89 : decode cX5_triangle 89 = .ok (.getfield 44, 3) := by decide +kernel
theorem dX5_triangle_92 : decode cX5_triangle 92 = .ok (.aload_n 0, 1) := by decide +kernel
theorem dX5_triangle_93 : decode cX5_triangle 93 = .ok (.getfield 31, 3) := by decide +kernel
theorem dX5_triangle_96 : decode cX5_triangle 96 = .ok (.aload_n 0, 1) := by decide +kernel
theorem dX5_triangle_97 : decode cX5_triangle 97 = .ok (.getfield 44, 3) := by decide +kernel
theorem dX5_triangle_100 : decode cX5_triangle 100 = .ok (.invokevirtual 128, 3) := by decide +kernel
theorem dX5_triangle_103 : decode cX5_triangle 103 = .ok (.aload_n 0, 1) := by decide +kernel
theorem dX5_triangle_104 : decode cX5_triangle 104 = .ok (.getfield 44, 3) := by decide +kernel
theorem dX5_triangle_107 : decode cX5_triangle 107 = .ok (.getfield 175, 3) := by decide +kernel
theorem dX5_triangle_110 : decode cX5_triangle 110 = .ok (.iload_n 3, 1) := by decide +kernel
theorem dX5_triangle_111 : decode cX5_triangle 111 = .ok (.iaload, 1) := by decide +kernel
theorem dX5_triangle_112 : decode cX5_triangle 112 = .ok (.ireturn, 1) := by decide +kernel
theorem dX5_product_0 : decode cX5_product 0 = .ok (.iload_n 1, 1) := by decide +kernel
theorem dX5_product_1 : decode cX5_product 1 = .ok (.invokestatic 56, 3) := by decide +kernel
theorem dX5_product_4 : decode cX5_product 4 = .ok (.ifCond .eq 25, 3) := by decide +kernel
theorem dX5_product_7 : decode cX5_product 7 = .ok (.iload_n 2, 1) := by decide +kernel
theorem dX5_product_8 : decode cX5_product 8 = .ok (.invokestatic 56, 3) := by decide +kernel
theorem dX5_product_11 : decode cX5_product 11 = .ok (.ifCond .eq 18, 3) := by decide +kernel
theorem dX5_product_14 : decode cX5_product 14 = .ok (.iload_n 3, 1) := by decide +kernel
theorem dX5_product_15 : decode cX5_product 15 = .ok (.invokestatic 56, 3) := by decide +kernel
theorem dX5_product_18 : decode cX5_product 18 = .ok (.ifCond .eq 11, 3) := by decide +kernel
theorem dX5_product_21 : decode cX5_product 21 = .ok (.iload 4, 2) := by decide +kernel
theorem dX5_product_23 : decode cX5_product 23 = .ok (.invokestatic 56, 3) := by decide +kernel
theorem dX5_product_26 : decode cX5_product 26 = .ok (.ifCond .ne 6, 3) := by decide +kernel
theorem dX5_product_29 : decode cX5_product 29 = .ok (.bipush (-2), 2) := by decide +kernel
theorem dX5_product_31 : decode cX5_product 31 = .ok (.ireturn, 1) := by decide +kernel
theorem dX5_product_32 : decode cX5_product 32 = .ok (.iload 5, 2) := by decide +kernel
theorem dX5_product_34 : decode cX5_product 34 = .ok (.invokestatic 56, 3) := by decide +kernel
theorem dX5_product_37 : decode cX5_product 37 = .ok (.ifCond .eq 18, 3) := by decide +kernel
theorem dX5_product_40 : decode cX5_product 40 = .ok (.iload 6, 2) := by decide +kernel
theorem dX5_product_42 : decode cX5_product 42 = .ok (.invokestatic 56, 3) := by decide +kernel
theorem dX5_product_45 : decode cX5_product 45 = .ok (.ifCond .eq 10, 3) := by decide +kernel
theorem dX5_product_48 : decode cX5_product 48 = .ok (.iload 5, 2) := by decide +kernel
theorem dX5_product_50 : decode cX5_product 50 = .ok (.iload 6, 2) := by decide +kernel
theorem dX5_product_52 : decode cX5_product 52 = .ok (.if_icmp .ne 6, 3) := by decide +kernel
theorem dX5_product_55 : decode cX5_product 55 = .ok (.bipush (-2), 2) := by decide +kernel
theorem dX5_product_57 : decode cX5_product 57 = .ok (.ireturn, 1) := by decide +kernel
theorem dX5_product_58 : decode cX5_product 58 = .ok (.aload_n 0, 1) := by decide +kernel
theorem dX5_product_59 : decode cX5_product 59 = .ok (.iload_n 1, 1) := by decide +kernel
theorem dX5_product_60 : decode cX5_product 60 = .ok (.aload_n 0, 1) := by decide +kernel
theorem dX5_product_61 : decode cX5_product 61 = .ok (.getfield 31, 3) := by decide +kernel
theorem dX5_product_64 : decode cX5_product 64 = .ok (.invokevirtual 117, 3) := by decide +kernel
theorem dX5_product_67 : decode cX5_product 67 = .ok (.ifCond .eq 40, 3) := by decide +kernel
theorem dX5_product_70 : decode cX5_product 70 = .ok (.aload_n 0, 1) := by decide +kernel
theorem dX5_product_71 : decode cX5_product 71 = .ok (.iload_n 2, 1) := by decide +kernel
theorem dX5_product_72 : decode cX5_product 72 = .ok (.aload_n 0, 1) := by decide +kernel
theorem dX5_product_73 : decode cX5_product 73 = .ok (.getfield 35, 3) := by decide +kernel
theorem dX5_product_76 : decode cX5_product 76 = .ok (.invokevirtual 117, 3) := by decide +kernel
theorem dX5_product_79 : decode cX5_product 79 = .ok (.ifCond .eq 28, 3) := by decide +kernel
theorem dX5_product_82 : decode cX5_product 82 = .ok (.aload_n 0, 1) := by decide +kernel
theorem dX5_product_83 : decode cX5_product 83 = .ok (.iload_n 3, 1) := by decide +kernel
theorem dX5_product_84 : decode cX5_product 84 = .ok (.aload_n 0, 1) := by decide +kernel
theorem dX5_product_85 : decode cX5_product 85 = .ok (.getfield 38, 3) := by decide +kernel
theorem dX5_product_88 : decode cX5_product 88 = .ok (.invokevirtual 117, 3) := by decide +kernel
theorem dX5_product_91 : decode cX5_product 91 = .ok (.ifCond .eq 16, 3) := by decide +kernel
theorem dX5_product_94 : decode cX5_product 94 = .ok (.aload_n 0, 1) := by decide +kernel
theorem dX5_product_95 : decode cX5_product 95 = .ok (.iload 4, 2) := by decide +kernel
theorem dX5_product_97 : decode cX5_product 97 = .ok (.aload_n 0, 1) := by decide +kernel
theorem dX5_product_98 : decode cX5_product 98 = .ok (.getfield 41, 3) := by decide +kernel
theorem dX5_product_101 : decode cX5_product 101 = .ok (.invokevirtual 117, 3) := by decide +kernel
theorem dX5_product_104 : decode cX5_product 104 = .ok (.ifCond .ne 9, 3) := by decide +kernel
theorem dX5_product_107 : decode cX5_product 107 = .ok (.aload_n 0, 1) := by decide +kernel
theorem dX5_product_108 : decode cX5_product 108 = .ok (.iconst 1, 1) := by decide +kernel
theorem dX5_product_109 : decode cX5_product 109 = .ok (.invokevirtual 63, 3) := by decide +kernel
theorem dX5_product_112 : decode cX5_product 112 = .ok (.ireturn, 1) := by decide +kernel
theorem dX5_product_113 : decode cX5_product 113 = .ok (.aload_n 0, 1) := by decide +kernel
theorem dX5_product_114 : decode cX5_product 114 = .ok (.getfield 35, 3) := by decide +kernel
theorem dX5_product_117 : decode cX5_product 117 = .ok (.invokevirtual 138, 3) := by decide +kernel
theorem dX5_product_120 : decode cX5_product 120 = .ok (.ifCond .eq 13, 3) := by decide +kernel
theorem dX5_product_123 : decode cX5_product 123 = .ok (.aload_n 0, 1) := by decide +kernel
theorem dX5_product_124 : decode cX5_product 124 = .ok (.getfield 41, 3) := by decide +kernel
theorem dX5_product_127 : decode cX5_product 127 = .ok (.invokevirtual 138, 3) := by decide +kernel
theorem dX5_product_130 : decode cX5_product 130 = .ok (.ifCond .ne 6, 3) := by decide +kernel
theorem dX5_product_133 : decode cX5_product 133 = .ok (.bipush (-3), 2) := by decide +kernel
theorem dX5_product_135 : decode cX5_product 135 = .ok (.ireturn, 1) := by decide +kernel
theorem dX5_product_136 : decode cX5_product 136 = .ok (.aload_n 0, 1) := by decide +kernel
theorem dX5_product_137 : decode cX5_product 137 = .ok (.getfield 44, 3) := by decide +kernel
theorem dX5_product_140 : decode cX5_product 140 = .ok (.aload_n 0, 1) := by decide +kernel
theorem dX5_product_141 : decode cX5_product 141 = .ok (.getfield 38, 3) := by decide +kernel
theorem dX5_product_144 : decode cX5_product 144 = .ok (.aload_n 0, 1) := by decide +kernel
theorem dX5_product_145 : decode cX5_product 145 = .ok (.getfield 35, 3) := by decide +kernel
theorem dX5_product_148 : decode cX5_product 148 = .ok (.invokevirtual 141, 3) := by decide +kernel
theorem dX5_product_151 : decode cX5_product 151 = .ok (.aload_n 0, 1) := by decide +kernel
theorem dX5_product_152 : decode cX5_product 152 = .ok (.getfield 44, 3) := by decide +kernel
theorem dX5_product_155 : decode cX5_product 155 = .ok (.aload_n 0, 1) := by decide +kernel
theorem dX5_product_156 : decode cX5_product 156 = .ok (.getfield 31, 3) := by decide +kernel
theorem dX5_product_159 : decode cX5_product 159 = .ok (.aload_n 0, 1) := by decide +kernel
theorem dX5_product_160 : decode cX5_product 160 = .ok (.getfield 44, 3) := by decide +kernel
theorem dX5_product_163 : decode cX5_product 163 = .ok (.invokevirtual 128, 3) := by decide +kernel
theorem dX5_product_166 : decode cX5_product 166 = .ok (.aload_n 0, 1) := by decide +kernel
theorem dX5_product_167 : decode cX5_product 167 = .ok (.getfield 47, 3) := by decide +kernel
theorem dX5_product_170 : decode cX5_product 170 = .ok (.aload_n 0, 1) := by decide +kernel
theorem dX5_product_171 : decode cX5_product 171 = .ok (.getfield 41, 3) := by decide +kernel
theorem dX5_product_174 : decode cX5_product 174 = .ok (.aload_n 0, 1) := by decide +kernel
theorem dX5_product_175 : decode cX5_product 175 = .ok (.getfield 35, 3) := by decide +kernel
theorem dX5_product_178 : decode cX5_product 178 = .ok (.invokevirtual 141, 3) := by decide +kernel
theorem dX5_product_181 : decode cX5_product 181 = .ok (.aload_n 0, 1) := by decide +kernel
theorem dX5_product_182 : decode cX5_product 182 = .ok (.iload 5, 2) := by decide +kernel
theorem dX5_product_184 : decode cX5_product 184 = .ok (.aload_n 0, 1) := by decide +kernel
theorem dX5_product_185 : decode cX5_product 185 = .ok (.getfield 44, 3) := by decide +kernel
theorem dX5_product_188 : decode cX5_product 188 = .ok (.invokevirtual 113, 3) := by decide +kernel
theorem dX5_product_191 : decode cX5_product 191 = .ok (.pop, 1) := by decide +kernel
theorem dX5_product_192 : decode cX5_product 192 = .ok (.aload_n 0, 1) := by decide +kernel
theorem dX5_product_193 : decode cX5_product 193 = .ok (.iload 6, 2) := by decide +kernel
theorem dX5_product_195 : decode cX5_product 195 = .ok (.aload_n 0, 1) := by decide +kernel
theorem dX5_product_196 : decode cX5_product 196 = .ok (.getfield 47, 3) := by decide +kernel
theorem dX5_product_199 : decode cX5_product 199 = .ok (.invokevirtual 113, 3) := by decide +kernel
theorem dX5_product_202 : decode cX5_product 202 = .ok (.pop, 1) := by decide +kernel
theorem dX5_product_203 : decode cX5_product 203 = .ok (.iconst 1, 1) := by decide +kernel
theorem dX5_product_204 : decode cX5_product 204 = .ok (.ireturn, 1) := by decide +kernel
theorem dX5_back_0 : decode cX5_back 0 = .ok (.iload_n 1, 1) := by decide +kernel
theorem dX5_back_1 : decode cX5_back 1 = .ok (.invokestatic 56, 3) := by decide +kernel
theorem dX5_back_4 : decode cX5_back 4 = .ok (.ifCond .eq 31, 3) := by decide +kernel
theorem dX5_back_7 : decode cX5_back 7 = .ok (.iload_n 2, 1) := by decide +kernel
theorem dX5_back_8 : decode cX5_back 8 = .ok (.invokestatic 56, 3) := by decide +kernel
theorem dX5_back_11 : decode cX5_back 11 = .ok (.ifCond .eq 24, 3) := by decide +kernel
theorem dX5_back_14 : decode cX5_back 14 = .ok (.iload_n 3, 1) := by decide +kernel
theorem dX5_back_15 : decode cX5_back 15 = .ok (.invokestatic 56, 3) := by decide +kernel
theorem dX5_back_18 : decode cX5_back 18 = .ok (.ifCond .eq 17, 3) := by decide +kernel
theorem dX5_back_21 : decode cX5_back 21 = .ok (.iload 4, 2) := by decide +kernel
theorem dX5_back_23 : decode cX5_back 23 = .ok (.invokestatic 56, 3) := by decide +kernel
theorem dX5_back_26 : decode cX5_back 26 = .ok (.ifCond .eq 9, 3) := by decide +kernel
theorem dX5_back_29 : decode cX5_back 29 = .ok (.iload_n 3, 1) := by decide +kernel
theorem dX5_back_30 : decode cX5_back 30 = .ok (.iload 4, 2) := by decide +kernel
theorem dX5_back_32 : decode cX5_back 32 = .ok (.if_icmp .ne 6, 3) := by decide +kernel
theorem dX5_back_35 : decode cX5_back 35 = .ok (.bipush (-2), 2) := by decide +kernel
theorem dX5_back_37 : decode cX5_back 37 = .ok (.ireturn, 1) := by decide +kernel
theorem dX5_back_38 : decode cX5_back 38 = .ok (.aload_n 0, 1) := by decide +kernel
theorem dX5_back_39 : decode cX5_back 39 = .ok (.iload_n 1, 1) := by decide +kernel
theorem dX5_back_40 : decode cX5_back 40 = .ok (.aload_n 0, 1) := by decide +kernel
theorem dX5_back_41 : decode cX5_back 41 = .ok (.getfield 31, 3) := by decide +kernel
theorem dX5_back_44 : decode cX5_back 44 = .ok (.invokevirtual 117, 3) := by decide +kernel
theorem dX5_back_47 : decode cX5_back 47 = .ok (.ifCond .eq 15, 3) := by decide +kernel
theorem dX5_back_50 : decode cX5_back 50 = .ok (.aload_n 0, 1) := by decide +kernel
theorem dX5_back_51 : decode cX5_back 51 = .ok (.iload_n 2, 1) := by decide +kernel
theorem dX5_back_52 : decode cX5_back 52 = .ok (.aload_n 0, 1) := by decide +kernel
theorem dX5_back_53 : decode cX5_back 53 = .ok (.getfield 35, 3) := by decide +kernel
theorem dX5_back_56 : decode cX5_back 56 = .ok (.invokevirtual 117, 3) := by decide +kernel
theorem dX5_back_59 : decode cX5_back 59 = .ok (.ifCond .ne 9, 3) := by decide +kernel
theorem dX5_back_62 : decode cX5_back 62 = .ok (.aload_n 0, 1) := by decide +kernel
theorem dX5_back_63 : decode cX5_back 63 = .ok (.iconst 1, 1) := by decide +kernel
theorem dX5_back_64 : decode cX5_back 64 = .ok (.invokevirtual 63, 3) := by decide +kernel
theorem dX5_back_67 : decode cX5_back 67 = .ok (.ireturn, 1) := by decide +kernel
theorem dX5_back_68 : decode cX5_back 68 = .ok (.aload_n 0, 1) := by decide +kernel
theorem dX5_back_69 : decode cX5_back 69 = .ok (.getfield 31, 3) := by decide +kernel
theorem dX5_back_72 : decode cX5_back 72 = .ok (.invokevirtual 131, 3) := by decide +kernel
theorem dX5_back_75 : decode cX5_back 75 = .ok (.ifCond .eq 13, 3) := by decide +kernel
theorem dX5_back_78 : decode cX5_back 78 = .ok (.aload_n 0, 1) := by decide +kernel
theorem dX5_back_79 : decode cX5_back 79 = .ok (.getfield 35, 3) := by decide +kernel
theorem dX5_back_82 : decode cX5_back 82 = .ok (.invokevirtual 144, 3) := by decide +kernel
theorem dX5_back_85 : decode cX5_back 85 = .ok (.ifCond .ne 6, 3) := by decide +kernel
theorem dX5_back_88 : decode cX5_back 88 = .ok (.bipush (-3), 2) := by decide +kernel
theorem dX5_back_90 : decode cX5_back 90 = .ok (.ireturn, 1) := by decide +kernel
theorem dX5_back_91 : decode cX5_back 91 = .ok (.aload_n 0, 1) := by decide +kernel
theorem dX5_back_92 : decode cX5_back 92 = .ok (.getfield 24, 3) := by decide +kernel
theorem dX5_back_95 : decode cX5_back 95 = .ok (.aload_n 0, 1) := by decide +kernel
theorem dX5_back_96 : decode cX5_back 96 = .ok (.getfield 35, 3) := by decide +kernel
theorem dX5_back_99 : decode cX5_back 99 = .ok (.aload_n 0, 1) := by decide +kernel
theorem dX5_back_100 : decode cX5_back 100 = .ok (.getfield 47, 3) := by decide +kernel
theorem dX5_back_103 : decode cX5_back 103 = .ok (.invokevirtual 147, 3) := by decide +kernel
theorem dX5_back_106 : decode cX5_back 106 = .ok (.aload_n 0, 1) := by decide +kernel
theorem dX5_back_107 : decode cX5_back 107 = .ok (.getfield 24, 3) := by decide +kernel
theorem dX5_back_110 : decode cX5_back 110 = .ok (.aload_n 0, 1) := by decide +kernel
theorem dX5_back_111 : decode cX5_back 111 = .ok (.getfield 31, 3) := by decide +kernel
theorem dX5_back_114 : decode cX5_back 114 = .ok (.aload_n 0, 1) := by decide +kernel
theorem dX5_back_115 : decode cX5_back 115 = .ok (.getfield 47, 3) := by decide +kernel
theorem dX5_back_118 : decode cX5_back 118 = .ok (.aload_n 0, 1) := by decide +kernel
theorem dX5_back_119 : decode cX5_back 119 = .ok (.getfield 44, 3) := by decide +kernel
theorem dX5_back_122 : decode cX5_back 122 = .ok (.invokevirtual 206, 3) := by decide +kernel
theorem dX5_back_125 : decode cX5_back 125 = .ok (.aload_n 0, 1) := by decide +kernel
theorem dX5_back_126 : decode cX5_back 126 = .ok (.iload_n 3, 1) := by decide +kernel
theorem dX5_back_127 : decode cX5_back 127 = .ok (.aload_n 0, 1) := by decide +kernel
theorem dX5_back_128 : decode cX5_back 128 = .ok (.getfield 44, 3) := by decide +kernel
theorem dX5_back_131 : decode cX5_back 131 = .ok (.invokevirtual 113, 3) := by decide +kernel
theorem dX5_back_134 : decode cX5_back 134 = .ok (.pop, 1) := by decide +kernel
theorem dX5_back_135 : decode cX5_back 135 = .ok (.aload_n 0, 1) := by decide +kernel
theorem dX5_back_136 : decode cX5_back 136 = .ok (.iload 4, 2) := by decide +kernel
theorem dX5_back_138 : decode cX5_back 138 = .ok (.aload_n 0, 1) := by decide +kernel
theorem dX5_back_139 : decode cX5_back 139 = .ok (.getfield 47, 3) := by decide +kernel
theorem dX5_back_142 : decode cX5_back 142 = .ok (.invokevirtual 113, 3) := by decide +kernel
theorem dX5_back_145 : decode cX5_back 145 = .ok (.pop, 1) := by decide +kernel
theorem dX5_back_146 : decode cX5_back 146 = .ok (.iconst 1, 1) := by decide +kernel
theorem dX5_back_147 : decode cX5_back 147 = .ok (.ireturn, 1) := by decide +kernel
theorem dX5_aRow_0 : decode cX5_aRow 0 = .ok (.iload_n 1, 1) := by decide +kernel
theorem dX5_aRow_1 : decode cX5_aRow 1 = .ok (.invokestatic 56, 3) := by decide +kernel
theorem dX5_aRow_4 : decode cX5_aRow 4 = .ok (.ifCond .eq 10, 3) := by decide +kernel
theorem dX5_aRow_7 : decode cX5_aRow 7 = .ok (.iload_n 2, 1) := by decide +kernel
theorem dX5_aRow_8 : decode cX5_aRow 8 = .ok (.invokestatic 56, 3) := by decide +kernel
theorem dX5_aRow_11 : decode cX5_aRow 11 = .ok (.ifCond .ne 6, 3) := by decide +kernel
theorem dX5_aRow_14 : decode cX5_aRow 14 = .ok (.bipush (-2), 2) := by decide +kernel
theorem dX5_aRow_16 : decode cX5_aRow 16 = .ok (.ireturn, 1) := by decide +kernel
theorem dX5_aRow_17 : decode cX5_aRow 17 = .ok (.aload_n 0, 1) := by decide +kernel
theorem dX5_aRow_18 : decode cX5_aRow 18 = .ok (.iload_n 1, 1) := by decide +kernel
theorem dX5_aRow_19 : decode cX5_aRow 19 = .ok (.aload_n 0, 1) := by decide +kernel
theorem dX5_aRow_20 : decode cX5_aRow 20 = .ok (.getfield 31, 3) := by decide +kernel
theorem dX5_aRow_23 : decode cX5_aRow 23 = .ok (.invokevirtual 117, 3) := by decide +kernel
theorem dX5_aRow_26 : decode cX5_aRow 26 = .ok (.ifCond .ne 9, 3) := by decide +kernel
theorem dX5_aRow_29 : decode cX5_aRow 29 = .ok (.aload_n 0, 1) := by decide +kernel
theorem dX5_aRow_30 : decode cX5_aRow 30 = .ok (.iconst 1, 1) := by decide +kernel
theorem dX5_aRow_31 : decode cX5_aRow 31 = .ok (.invokevirtual 63, 3) := by decide +kernel
theorem dX5_aRow_34 : decode cX5_aRow 34 = .ok (.ireturn, 1) := by decide +kernel
theorem dX5_aRow_35 : decode cX5_aRow 35 = .ok (.aload_n 0, 1) := by decide +kernel
theorem dX5_aRow_36 : decode cX5_aRow 36 = .ok (.getfield 31, 3) := by decide +kernel
theorem dX5_aRow_39 : decode cX5_aRow 39 = .ok (.invokevirtual 144, 3) := by decide +kernel
theorem dX5_aRow_42 : decode cX5_aRow 42 = .ok (.ifCond .ne 6, 3) := by decide +kernel
theorem dX5_aRow_45 : decode cX5_aRow 45 = .ok (.bipush (-3), 2) := by decide +kernel
theorem dX5_aRow_47 : decode cX5_aRow 47 = .ok (.ireturn, 1) := by decide +kernel
theorem dX5_aRow_48 : decode cX5_aRow 48 = .ok (.aload_n 0, 1) := by decide +kernel
theorem dX5_aRow_49 : decode cX5_aRow 49 = .ok (.getfield 24, 3) := by decide +kernel
theorem dX5_aRow_52 : decode cX5_aRow 52 = .ok (.aload_n 0, 1) := by decide +kernel
theorem dX5_aRow_53 : decode cX5_aRow 53 = .ok (.getfield 31, 3) := by decide +kernel
theorem dX5_aRow_56 : decode cX5_aRow 56 = .ok (.aload_n 0, 1) := by decide +kernel
theorem dX5_aRow_57 : decode cX5_aRow 57 = .ok (.getfield 35, 3) := by decide +kernel
theorem dX5_aRow_60 : decode cX5_aRow 60 = .ok (.invokevirtual 147, 3) := by decide +kernel
theorem dX5_aRow_63 : decode cX5_aRow 63 = .ok (.aload_n 0, 1) := by decide +kernel
theorem dX5_aRow_64 : decode cX5_aRow 64 = .ok (.getfield 24, 3) := by decide +kernel
theorem dX5_aRow_67 : decode cX5_aRow 67 = .ok (.aload_n 0, 1) := by decide +kernel
theorem dX5_aRow_68 : decode cX5_aRow 68 = .ok (.getfield 35, 3) := by decide +kernel
theorem dX5_aRow_71 : decode cX5_aRow 71 = .ok (.aload_n 0, 1) := by decide +kernel
theorem dX5_aRow_72 : decode cX5_aRow 72 = .ok (.getfield 44, 3) := by decide +kernel
theorem dX5_aRow_75 : decode cX5_aRow 75 = .ok (.invokevirtual 209, 3) := by decide +kernel
theorem dX5_aRow_78 : decode cX5_aRow 78 = .ok (.aload_n 0, 1) := by decide +kernel
theorem dX5_aRow_79 : decode cX5_aRow 79 = .ok (.iload_n 2, 1) := by decide +kernel
theorem dX5_aRow_80 : decode cX5_aRow 80 = .ok (.aload_n 0, 1) := by decide +kernel
theorem dX5_aRow_81 : decode cX5_aRow 81 = .ok (.getfield 44, 3) := by decide +kernel
theorem dX5_aRow_84 : decode cX5_aRow 84 = .ok (.invokevirtual 113, 3) := by decide +kernel
theorem dX5_aRow_87 : decode cX5_aRow 87 = .ok (.pop, 1) := by decide +kernel
theorem dX5_aRow_88 : decode cX5_aRow 88 = .ok (.aload_n 0, 1) := by decide +kernel
theorem dX5_aRow_89 : decode cX5_aRow 89 = .ok (.getfield 44, 3) := by decide +kernel
theorem dX5_aRow_92 : decode cX5_aRow 92 = .ok (.getfield 175, 3) := by decide +kernel
theorem dX5_aRow_95 : decode cX5_aRow 95 = .ok (.iconst 0, 1) := by decide +kernel
theorem dX5_aRow_96 : decode cX5_aRow 96 = .ok (.iaload, 1) := by decide +kernel
theorem dX5_aRow_97 : decode cX5_aRow 97 = .ok (.ireturn, 1) := by decide +kernel
theorem dX5_count_0 : decode cX5_count 0 = .ok (.iload_n 1, 1) := by decide +kernel
theorem dX5_count_1 : decode cX5_count 1 = .ok (.tableswitch 42 0 2 #[27, 32, 37], 27) := by decide +kernel
theorem dX5_count_28 : decode cX5_count 28 = .ok (.aload_n 0, 1) := by decide +kernel
theorem dX5_count_29 : decode cX5_count 29 = .ok (.invokevirtual 212, 3) := by decide +kernel
theorem dX5_count_32 : decode cX5_count 32 = .ok (.ireturn, 1) := by decide +kernel
theorem dX5_count_33 : decode cX5_count 33 = .ok (.aload_n 0, 1) := by decide +kernel
theorem dX5_count_34 : decode cX5_count 34 = .ok (.invokevirtual 215, 3) := by decide +kernel
theorem dX5_count_37 : decode cX5_count 37 = .ok (.ireturn, 1) := by decide +kernel
theorem dX5_count_38 : decode cX5_count 38 = .ok (.aload_n 0, 1) := by decide +kernel
theorem dX5_count_39 : decode cX5_count 39 = .ok (.getfield 50, 3) := by decide +kernel
theorem dX5_count_42 : decode cX5_count 42 = .ok (.ireturn, 1) := by decide +kernel
theorem dX5_count_43 : decode cX5_count 43 = .ok (.bipush (-2), 2) := by decide +kernel
theorem dX5_count_45 : decode cX5_count 45 = .ok (.ireturn, 1) := by decide +kernel
theorem dX5_digest_0 : decode cX5_digest 0 = .ok (.ldc2_w 218, 3) := by decide +kernel
theorem dX5_digest_3 : decode cX5_digest 3 = .ok (.lstore_n 1, 1) := by decide +kernel
theorem dX5_digest_4 : decode cX5_digest 4 = .ok (.ldc2_w 220, 3) := by decide +kernel
theorem dX5_digest_7 : decode cX5_digest 7 = .ok (.lload_n 1, 1) := by decide +kernel
theorem dX5_digest_8 : decode cX5_digest 8 = .ok (.lmul, 1) := by decide +kernel
theorem dX5_digest_9 : decode cX5_digest 9 = .ok (.aload_n 0, 1) := by decide +kernel
theorem dX5_digest_10 : decode cX5_digest 10 = .ok (.invokevirtual 212, 3) := by decide +kernel
theorem dX5_digest_13 : decode cX5_digest 13 = .ok (.i2l, 1) := by decide +kernel
theorem dX5_digest_14 : decode cX5_digest 14 = .ok (.ladd, 1) := by decide +kernel
theorem dX5_digest_15 : decode cX5_digest 15 = .ok (.lstore_n 1, 1) := by decide +kernel
theorem dX5_digest_16 : decode cX5_digest 16 = .ok (.ldc2_w 220, 3) := by decide +kernel
theorem dX5_digest_19 : decode cX5_digest 19 = .ok (.lload_n 1, 1) := by decide +kernel
theorem dX5_digest_20 : decode cX5_digest 20 = .ok (.lmul, 1) := by decide +kernel
theorem dX5_digest_21 : decode cX5_digest 21 = .ok (.aload_n 0, 1) := by decide +kernel
theorem dX5_digest_22 : decode cX5_digest 22 = .ok (.invokevirtual 215, 3) := by decide +kernel
theorem dX5_digest_25 : decode cX5_digest 25 = .ok (.i2l, 1) := by decide +kernel
theorem dX5_digest_26 : decode cX5_digest 26 = .ok (.ladd, 1) := by decide +kernel
theorem dX5_digest_27 : decode cX5_digest 27 = .ok (.lstore_n 1, 1) := by decide +kernel
theorem dX5_digest_28 : decode cX5_digest 28 = .ok (.iconst 0, 1) := by decide +kernel
theorem dX5_digest_29 : decode cX5_digest 29 = .ok (.istore_n 3, 1) := by decide +kernel
theorem dX5_digest_30 : decode cX5_digest 30 = .ok (.iload_n 3, 1) := by decide +kernel
theorem dX5_digest_31 : decode cX5_digest 31 = .ok (.bipush 8, 2) := by decide +kernel
theorem dX5_digest_33 : decode cX5_digest 33 = .ok (.if_icmp .ge 37, 3) := by decide +kernel
theorem dX5_digest_36 : decode cX5_digest 36 = .ok (.aload_n 0, 1) := by decide +kernel
theorem dX5_digest_37 : decode cX5_digest 37 = .ok (.iload_n 3, 1) := by decide +kernel
theorem dX5_digest_38 : decode cX5_digest 38 = .ok (.aload_n 0, 1) := by decide +kernel
theorem dX5_digest_39 : decode cX5_digest 39 = .ok (.getfield 31, 3) := by decide +kernel
theorem dX5_digest_42 : decode cX5_digest 42 = .ok (.invokevirtual 117, 3) := by decide +kernel
theorem dX5_digest_45 : decode cX5_digest 45 = .ok (.ifCond .eq 19, 3) := by decide +kernel
theorem dX5_digest_48 : decode cX5_digest 48 = .ok (.aload_n 0, 1) := by decide +kernel
theorem dX5_digest_49 : decode cX5_digest 49 = .ok (.getfield 31, 3) := by decide +kernel
theorem dX5_digest_52 : decode cX5_digest 52 = .ok (.ldc2_w 220, 3) := by decide +kernel
theorem dX5_digest_55 : decode cX5_digest 55 = .ok (.lload_n 1, 1) := by decide +kernel
theorem dX5_digest_56 : decode cX5_digest 56 = .ok (.lmul, 1) := by decide +kernel
theorem dX5_digest_57 : decode cX5_digest 57 = .ok (.iload_n 3, 1) := by decide +kernel
theorem dX5_digest_58 : decode cX5_digest 58 = .ok (.i2l, 1) := by decide +kernel
theorem dX5_digest_59 : decode cX5_digest 59 = .ok (.ladd, 1) := by decide +kernel
theorem dX5_digest_60 : decode cX5_digest 60 = .ok (.invokevirtual 222, 3) := by decide +kernel
theorem dX5_digest_63 : decode cX5_digest 63 = .ok (.lstore_n 1, 1) := by decide +kernel
theorem dX5_digest_64 : decode cX5_digest 64 = .ok (.iinc 3 1, 3) := by decide +kernel
theorem dX5_digest_67 : decode cX5_digest 67 = .ok (.goto (-37), 3) := by decide +kernel
theorem dX5_digest_70 : decode cX5_digest 70 = .ok (.iconst 0, 1) := by decide +kernel
theorem dX5_digest_71 : decode cX5_digest 71 = .ok (.istore_n 3, 1) := by decide +kernel
theorem dX5_digest_72 : decode cX5_digest 72 = .ok (.iload_n 3, 1) := by decide +kernel
theorem dX5_digest_73 : decode cX5_digest 73 = .ok (.iconst 4, 1) := by decide +kernel
theorem dX5_digest_74 : decode cX5_digest 74 = .ok (.if_icmp .ge 45, 3) := by decide +kernel
theorem dX5_digest_77 : decode cX5_digest 77 = .ok (.aload_n 0, 1) := by decide +kernel
theorem dX5_digest_78 : decode cX5_digest 78 = .ok (.getfield 17, 3) := by decide +kernel
theorem dX5_digest_81 : decode cX5_digest 81 = .ok (.iload_n 3, 1) := by decide +kernel
theorem dX5_digest_82 : decode cX5_digest 82 = .ok (.aaload, 1) := by decide +kernel
theorem dX5_digest_83 : decode cX5_digest 83 = .ok (.getfield 168, 3) := by decide +kernel
theorem dX5_digest_86 : decode cX5_digest 86 = .ok (.ifCond .eq 27, 3) := by decide +kernel
theorem dX5_digest_89 : decode cX5_digest 89 = .ok (.aload_n 0, 1) := by decide +kernel
theorem dX5_digest_90 : decode cX5_digest 90 = .ok (.getfield 17, 3) := by decide +kernel
theorem dX5_digest_93 : decode cX5_digest 93 = .ok (.iload_n 3, 1) := by decide +kernel
theorem dX5_digest_94 : decode cX5_digest 94 = .ok (.aaload, 1) := by decide +kernel
theorem dX5_digest_95 : decode cX5_digest 95 = .ok (.getfield 171, 3) := by decide +kernel
theorem dX5_digest_98 : decode cX5_digest 98 = .ok (.bipush 9, 2) := by decide +kernel
theorem dX5_digest_100 : decode cX5_digest 100 = .ok (.aaload, 1) := by decide +kernel
theorem dX5_digest_101 : decode cX5_digest 101 = .ok (.ldc2_w 220, 3) := by decide +kernel
theorem dX5_digest_104 : decode cX5_digest 104 = .ok (.lload_n 1, 1) := by decide +kernel
theorem dX5_digest_105 : decode cX5_digest 105 = .ok (.lmul, 1) := by decide +kernel
theorem dX5_digest_106 : decode cX5_digest 106 = .ok (.iload_n 3, 1) := by decide +kernel
theorem dX5_digest_107 : decode cX5_digest 107 = .ok (.i2l, 1) := by decide +kernel
theorem dX5_digest_108 : decode cX5_digest 108 = .ok (.ladd, 1) := by decide +kernel
theorem dX5_digest_109 : decode cX5_digest 109 = .ok (.invokevirtual 222, 3) := by decide +kernel
theorem dX5_digest_112 : decode cX5_digest 112 = .ok (.lstore_n 1, 1) := by decide +kernel
theorem dX5_digest_113 : decode cX5_digest 113 = .ok (.iinc 3 1, 3) := by decide +kernel
theorem dX5_digest_116 : decode cX5_digest 116 = .ok (.goto (-44), 3) := by decide +kernel
theorem dX5_digest_119 : decode cX5_digest 119 = .ok (.lload_n 1, 1) := by decide +kernel
theorem dX5_digest_120 : decode cX5_digest 120 = .ok (.lreturn, 1) := by decide +kernel
theorem dX5_isSheet_0 : decode cX5_isSheet 0 = .ok (.iload_n 0, 1) := by decide +kernel
theorem dX5_isSheet_1 : decode cX5_isSheet 1 = .ok (.ifCond .lt 13, 3) := by decide +kernel
theorem dX5_isSheet_4 : decode cX5_isSheet 4 = .ok (.iload_n 0, 1) := by decide +kernel
theorem dX5_isSheet_5 : decode cX5_isSheet 5 = .ok (.bipush 8, 2) := by decide +kernel
theorem dX5_isSheet_7 : decode cX5_isSheet 7 = .ok (.if_icmp .ge 7, 3) := by decide +kernel
theorem dX5_isSheet_10 : decode cX5_isSheet 10 = .ok (.iconst 1, 1) := by decide +kernel
theorem dX5_isSheet_11 : decode cX5_isSheet 11 = .ok (.goto 4, 3) := by decide +kernel
theorem dX5_isSheet_14 : decode cX5_isSheet 14 = .ok (.iconst 0, 1) := by decide +kernel
theorem dX5_isSheet_15 : decode cX5_isSheet 15 = .ok (.ireturn, 1) := by decide +kernel
theorem dX5_isForm_0 : decode cX5_isForm 0 = .ok (.iload_n 0, 1) := by decide +kernel
theorem dX5_isForm_1 : decode cX5_isForm 1 = .ok (.ifCond .lt 12, 3) := by decide +kernel
theorem dX5_isForm_4 : decode cX5_isForm 4 = .ok (.iload_n 0, 1) := by decide +kernel
theorem dX5_isForm_5 : decode cX5_isForm 5 = .ok (.iconst 3, 1) := by decide +kernel
theorem dX5_isForm_6 : decode cX5_isForm 6 = .ok (.if_icmp .ge 7, 3) := by decide +kernel
theorem dX5_isForm_9 : decode cX5_isForm 9 = .ok (.iconst 1, 1) := by decide +kernel
theorem dX5_isForm_10 : decode cX5_isForm 10 = .ok (.goto 4, 3) := by decide +kernel
theorem dX5_isForm_13 : decode cX5_isForm 13 = .ok (.iconst 0, 1) := by decide +kernel
theorem dX5_isForm_14 : decode cX5_isForm 14 = .ok (.ireturn, 1) := by decide +kernel
theorem dX5_isLadder_0 : decode cX5_isLadder 0 = .ok (.iload_n 0, 1) := by decide +kernel
theorem dX5_isLadder_1 : decode cX5_isLadder 1 = .ok (.ifCond .lt 12, 3) := by decide +kernel
theorem dX5_isLadder_4 : decode cX5_isLadder 4 = .ok (.iload_n 0, 1) := by decide +kernel
theorem dX5_isLadder_5 : decode cX5_isLadder 5 = .ok (.iconst 4, 1) := by decide +kernel
theorem dX5_isLadder_6 : decode cX5_isLadder 6 = .ok (.if_icmp .ge 7, 3) := by decide +kernel
theorem dX5_isLadder_9 : decode cX5_isLadder 9 = .ok (.iconst 1, 1) := by decide +kernel
theorem dX5_isLadder_10 : decode cX5_isLadder 10 = .ok (.goto 4, 3) := by decide +kernel
theorem dX5_isLadder_13 : decode cX5_isLadder 13 = .ok (.iconst 0, 1) := by decide +kernel
theorem dX5_isLadder_14 : decode cX5_isLadder 14 = .ok (.ireturn, 1) := by decide +kernel
theorem dX5_isPlace_0 : decode cX5_isPlace 0 = .ok (.iload_n 0, 1) := by decide +kernel
theorem dX5_isPlace_1 : decode cX5_isPlace 1 = .ok (.ifCond .lt 13, 3) := by decide +kernel
theorem dX5_isPlace_4 : decode cX5_isPlace 4 = .ok (.iload_n 0, 1) := by decide +kernel
theorem dX5_isPlace_5 : decode cX5_isPlace 5 = .ok (.bipush 10, 2) := by decide +kernel
theorem dX5_isPlace_7 : decode cX5_isPlace 7 = .ok (.if_icmp .ge 7, 3) := by decide +kernel
theorem dX5_isPlace_10 : decode cX5_isPlace 10 = .ok (.iconst 1, 1) := by decide +kernel
theorem dX5_isPlace_11 : decode cX5_isPlace 11 = .ok (.goto 4, 3) := by decide +kernel
theorem dX5_isPlace_14 : decode cX5_isPlace 14 = .ok (.iconst 0, 1) := by decide +kernel
theorem dX5_isPlace_15 : decode cX5_isPlace 15 = .ok (.ireturn, 1) := by decide +kernel
theorem dX5_narrowed_0 : decode cX5_narrowed 0 = .ok (.iload_n 0, 1) := by decide +kernel
theorem dX5_narrowed_1 : decode cX5_narrowed 1 = .ok (.ifCond .ne 6, 3) := by decide +kernel
theorem dX5_narrowed_4 : decode cX5_narrowed 4 = .ok (.iload_n 1, 1) := by decide +kernel
theorem dX5_narrowed_5 : decode cX5_narrowed 5 = .ok (.i2b, 1) := by decide +kernel
theorem dX5_narrowed_6 : decode cX5_narrowed 6 = .ok (.ireturn, 1) := by decide +kernel
theorem dX5_narrowed_7 : decode cX5_narrowed 7 = .ok (.iload_n 0, 1) := by decide +kernel
theorem dX5_narrowed_8 : decode cX5_narrowed 8 = .ok (.iconst 1, 1) := by decide +kernel
theorem dX5_narrowed_9 : decode cX5_narrowed 9 = .ok (.if_icmp .ne 8, 3) := by decide +kernel
theorem dX5_narrowed_12 : decode cX5_narrowed 12 = .ok (.iload_n 1, 1) := by decide +kernel
theorem dX5_narrowed_13 : decode cX5_narrowed 13 = .ok (.i2s, 1) := by decide +kernel
theorem dX5_narrowed_14 : decode cX5_narrowed 14 = .ok (.goto 4, 3) := by decide +kernel
theorem dX5_narrowed_17 : decode cX5_narrowed 17 = .ok (.iload_n 1, 1) := by decide +kernel
theorem dX5_narrowed_18 : decode cX5_narrowed 18 = .ok (.ireturn, 1) := by decide +kernel
theorem dX5_found_0 : decode cX5_found 0 = .ok (.aload_n 0, 1) := by decide +kernel
theorem dX5_found_1 : decode cX5_found 1 = .ok (.iload_n 1, 1) := by decide +kernel
theorem dX5_found_2 : decode cX5_found 2 = .ok (.putfield 50, 3) := by decide +kernel
theorem dX5_found_5 : decode cX5_found 5 = .ok (.bipush (-10), 2) := by decide +kernel
theorem dX5_found_7 : decode cX5_found 7 = .ok (.iload_n 1, 1) := by decide +kernel
theorem dX5_found_8 : decode cX5_found 8 = .ok (.isub, 1) := by decide +kernel
theorem dX5_found_9 : decode cX5_found 9 = .ok (.ireturn, 1) := by decide +kernel
theorem dX5_reads_0 : decode cX5_reads 0 = .ok (.aload_n 0, 1) := by decide +kernel
theorem dX5_reads_1 : decode cX5_reads 1 = .ok (.getfield 11, 3) := by decide +kernel
theorem dX5_reads_4 : decode cX5_reads 4 = .ok (.iload_n 1, 1) := by decide +kernel
theorem dX5_reads_5 : decode cX5_reads 5 = .ok (.aaload, 1) := by decide +kernel
theorem dX5_reads_6 : decode cX5_reads 6 = .ok (.getfield 71, 3) := by decide +kernel
theorem dX5_reads_9 : decode cX5_reads 9 = .ok (.ifCond .eq 5, 3) := by decide +kernel
theorem dX5_reads_12 : decode cX5_reads 12 = .ok (.iconst 0, 1) := by decide +kernel
theorem dX5_reads_13 : decode cX5_reads 13 = .ok (.ireturn, 1) := by decide +kernel
theorem dX5_reads_14 : decode cX5_reads 14 = .ok (.iconst 0, 1) := by decide +kernel
theorem dX5_reads_15 : decode cX5_reads 15 = .ok (.istore_n 3, 1) := by decide +kernel
theorem dX5_reads_16 : decode cX5_reads 16 = .ok (.iload_n 3, 1) := by decide +kernel
theorem dX5_reads_17 : decode cX5_reads 17 = .ok (.bipush 10, 2) := by decide +kernel
theorem dX5_reads_19 : decode cX5_reads 19 = .ok (.if_icmp .ge 25, 3) := by decide +kernel
theorem dX5_reads_22 : decode cX5_reads 22 = .ok (.aload_n 2, 1) := by decide +kernel
theorem dX5_reads_23 : decode cX5_reads 23 = .ok (.getfield 175, 3) := by decide +kernel
theorem dX5_reads_26 : decode cX5_reads 26 = .ok (.iload_n 3, 1) := by decide +kernel
theorem dX5_reads_27 : decode cX5_reads 27 = .ok (.aload_n 0, 1) := by decide +kernel
theorem dX5_reads_28 : decode cX5_reads 28 = .ok (.getfield 11, 3) := by decide +kernel
theorem dX5_reads_31 : decode cX5_reads 31 = .ok (.iload_n 1, 1) := by decide +kernel
theorem dX5_reads_32 : decode cX5_reads 32 = .ok (.aaload, 1) := by decide +kernel
theorem dX5_reads_33 : decode cX5_reads 33 = .ok (.iload_n 3, 1) := by decide +kernel
theorem dX5_reads_34 : decode cX5_reads 34 = .ok (.invokevirtual 106, 3) := by decide +kernel
theorem dX5_reads_37 : decode cX5_reads 37 = .ok (.iastore, 1) := by decide +kernel
theorem dX5_reads_38 : decode cX5_reads 38 = .ok (.iinc 3 1, 3) := by decide +kernel
theorem dX5_reads_41 : decode cX5_reads 41 = .ok (.goto (-25), 3) := by decide +kernel
theorem dX5_reads_44 : decode cX5_reads 44 = .ok (.iconst 1, 1) := by decide +kernel
theorem dX5_reads_45 : decode cX5_reads 45 = .ok (.ireturn, 1) := by decide +kernel
theorem dX5_becomes_0 : decode cX5_becomes 0 = .ok (.aload_n 0, 1) := by decide +kernel
theorem dX5_becomes_1 : decode cX5_becomes 1 = .ok (.getfield 11, 3) := by decide +kernel
theorem dX5_becomes_4 : decode cX5_becomes 4 = .ok (.iload_n 1, 1) := by decide +kernel
theorem dX5_becomes_5 : decode cX5_becomes 5 = .ok (.aaload, 1) := by decide +kernel
theorem dX5_becomes_6 : decode cX5_becomes 6 = .ok (.iconst 2, 1) := by decide +kernel
theorem dX5_becomes_7 : decode cX5_becomes 7 = .ok (.bipush 10, 2) := by decide +kernel
theorem dX5_becomes_9 : decode cX5_becomes 9 = .ok (.invokevirtual 67, 3) := by decide +kernel
theorem dX5_becomes_12 : decode cX5_becomes 12 = .ok (.aload_n 2, 1) := by decide +kernel
theorem dX5_becomes_13 : decode cX5_becomes 13 = .ok (.getfield 175, 3) := by decide +kernel
theorem dX5_becomes_16 : decode cX5_becomes 16 = .ok (.iconst 0, 1) := by decide +kernel
theorem dX5_becomes_17 : decode cX5_becomes 17 = .ok (.aload_n 0, 1) := by decide +kernel
theorem dX5_becomes_18 : decode cX5_becomes 18 = .ok (.getfield 11, 3) := by decide +kernel
theorem dX5_becomes_21 : decode cX5_becomes 21 = .ok (.iload_n 1, 1) := by decide +kernel
theorem dX5_becomes_22 : decode cX5_becomes 22 = .ok (.aaload, 1) := by decide +kernel
theorem dX5_becomes_23 : decode cX5_becomes 23 = .ok (.getfield 82, 3) := by decide +kernel
theorem dX5_becomes_26 : decode cX5_becomes 26 = .ok (.iconst 0, 1) := by decide +kernel
theorem dX5_becomes_27 : decode cX5_becomes 27 = .ok (.bipush 10, 2) := by decide +kernel
theorem dX5_becomes_29 : decode cX5_becomes 29 = .ok (.invokestatic 97, 3) := by decide +kernel
theorem dX5_becomes_32 : decode cX5_becomes 32 = .ok (.aload_n 2, 1) := by decide +kernel
theorem dX5_becomes_33 : decode cX5_becomes 33 = .ok (.getfield 175, 3) := by decide +kernel
theorem dX5_becomes_36 : decode cX5_becomes 36 = .ok (.bipush 9, 2) := by decide +kernel
theorem dX5_becomes_38 : decode cX5_becomes 38 = .ok (.iaload, 1) := by decide +kernel
theorem dX5_becomes_39 : decode cX5_becomes 39 = .ok (.ireturn, 1) := by decide +kernel
theorem dX5_sheetsKept_0 : decode cX5_sheetsKept 0 = .ok (.iconst 0, 1) := by decide +kernel
theorem dX5_sheetsKept_1 : decode cX5_sheetsKept 1 = .ok (.istore_n 1, 1) := by decide +kernel
theorem dX5_sheetsKept_2 : decode cX5_sheetsKept 2 = .ok (.iconst 0, 1) := by decide +kernel
theorem dX5_sheetsKept_3 : decode cX5_sheetsKept 3 = .ok (.istore_n 2, 1) := by decide +kernel
theorem dX5_sheetsKept_4 : decode cX5_sheetsKept 4 = .ok (.iload_n 2, 1) := by decide +kernel
theorem dX5_sheetsKept_5 : decode cX5_sheetsKept 5 = .ok (.bipush 8, 2) := by decide +kernel
theorem dX5_sheetsKept_7 : decode cX5_sheetsKept 7 = .ok (.if_icmp .ge 24, 3) := by decide +kernel
theorem dX5_sheetsKept_10 : decode cX5_sheetsKept 10 = .ok (.aload_n 0, 1) := by decide +kernel
theorem dX5_sheetsKept_11 : decode cX5_sheetsKept 11 = .ok (.getfield 11, 3) := by decide +kernel
theorem dX5_sheetsKept_14 : decode cX5_sheetsKept 14 = .ok (.iload_n 2, 1) := by decide +kernel
theorem dX5_sheetsKept_15 : decode cX5_sheetsKept 15 = .ok (.aaload, 1) := by decide +kernel
theorem dX5_sheetsKept_16 : decode cX5_sheetsKept 16 = .ok (.getfield 71, 3) := by decide +kernel
theorem dX5_sheetsKept_19 : decode cX5_sheetsKept 19 = .ok (.ifCond .ne 6, 3) := by decide +kernel
theorem dX5_sheetsKept_22 : decode cX5_sheetsKept 22 = .ok (.iinc 1 1, 3) := by decide +kernel
theorem dX5_sheetsKept_25 : decode cX5_sheetsKept 25 = .ok (.iinc 2 1, 3) := by decide +kernel
theorem dX5_sheetsKept_28 : decode cX5_sheetsKept 28 = .ok (.goto (-24), 3) := by decide +kernel
theorem dX5_sheetsKept_31 : decode cX5_sheetsKept 31 = .ok (.iload_n 1, 1) := by decide +kernel
theorem dX5_sheetsKept_32 : decode cX5_sheetsKept 32 = .ok (.ireturn, 1) := by decide +kernel
theorem dX5_laddersStanding_0 : decode cX5_laddersStanding 0 = .ok (.iconst 0, 1) := by decide +kernel
theorem dX5_laddersStanding_1 : decode cX5_laddersStanding 1 = .ok (.istore_n 1, 1) := by decide +kernel
theorem dX5_laddersStanding_2 : decode cX5_laddersStanding 2 = .ok (.iconst 0, 1) := by decide +kernel
theorem dX5_laddersStanding_3 : decode cX5_laddersStanding 3 = .ok (.istore_n 2, 1) := by decide +kernel
theorem dX5_laddersStanding_4 : decode cX5_laddersStanding 4 = .ok (.iload_n 2, 1) := by decide +kernel
theorem dX5_laddersStanding_5 : decode cX5_laddersStanding 5 = .ok (.iconst 4, 1) := by decide +kernel
theorem dX5_laddersStanding_6 : decode cX5_laddersStanding 6 = .ok (.if_icmp .ge 24, 3) := by decide +kernel
theorem dX5_laddersStanding_9 : decode cX5_laddersStanding 9 = .ok (.aload_n 0, 1) := by decide +kernel
theorem dX5_laddersStanding_10 : decode cX5_laddersStanding 10 = .ok (.getfield 17, 3) := by decide +kernel
theorem dX5_laddersStanding_13 : decode cX5_laddersStanding 13 = .ok (.iload_n 2, 1) := by decide +kernel
theorem dX5_laddersStanding_14 : decode cX5_laddersStanding 14 = .ok (.aaload, 1) := by decide +kernel
theorem dX5_laddersStanding_15 : decode cX5_laddersStanding 15 = .ok (.getfield 168, 3) := by decide +kernel
theorem dX5_laddersStanding_18 : decode cX5_laddersStanding 18 = .ok (.ifCond .eq 6, 3) := by decide +kernel
theorem dX5_laddersStanding_21 : decode cX5_laddersStanding 21 = .ok (.iinc 1 1, 3) := by decide +kernel
theorem dX5_laddersStanding_24 : decode cX5_laddersStanding 24 = .ok (.iinc 2 1, 3) := by decide +kernel
theorem dX5_laddersStanding_27 : decode cX5_laddersStanding 27 = .ok (.goto (-23), 3) := by decide +kernel
theorem dX5_laddersStanding_30 : decode cX5_laddersStanding 30 = .ok (.iload_n 1, 1) := by decide +kernel
theorem dX5_laddersStanding_31 : decode cX5_laddersStanding 31 = .ok (.ireturn, 1) := by decide +kernel
