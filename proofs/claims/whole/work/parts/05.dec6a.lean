theorem dX6_init_0 : decode cX6_init 0 = .ok (.aload_n 0, 1) := by decide +kernel
theorem dX6_init_1 : decode cX6_init 1 = .ok (.invokespecial 1, 3) := by decide +kernel
theorem dX6_init_4 : decode cX6_init 4 = .ok (.aload_n 0, 1) := by decide +kernel
theorem dX6_init_5 : decode cX6_init 5 = .ok (.bipush 8, 2) := by decide +kernel
theorem dX6_init_7 : decode cX6_init 7 = .ok (.newarray .boolean, 2) := by decide +kernel
theorem dX6_init_9 : decode cX6_init 9 = .ok (.putfield 7, 3) := by decide +kernel
theorem dX6_init_12 : decode cX6_init 12 = .ok (.aload_n 0, 1) := by decide +kernel
theorem dX6_init_13 : decode cX6_init 13 = .ok (.bipush 8, 2) := by decide +kernel
theorem dX6_init_15 : decode cX6_init 15 = .ok (.newarray .int, 2) := by decide +kernel
theorem dX6_init_17 : decode cX6_init 17 = .ok (.putfield 13, 3) := by decide +kernel
theorem dX6_init_20 : decode cX6_init 20 = .ok (.aload_n 0, 1) := by decide +kernel
theorem dX6_init_21 : decode cX6_init 21 = .ok (.bipush 8, 2) := by decide +kernel
theorem dX6_init_23 : decode cX6_init 23 = .ok (.newarray .int, 2) := by decide +kernel
theorem dX6_init_25 : decode cX6_init 25 = .ok (.putfield 17, 3) := by decide +kernel
theorem dX6_init_28 : decode cX6_init 28 = .ok (.aload_n 0, 1) := by decide +kernel
theorem dX6_init_29 : decode cX6_init 29 = .ok (.sipush 160, 3) := by decide +kernel
theorem dX6_init_32 : decode cX6_init 32 = .ok (.newarray .int, 2) := by decide +kernel
theorem dX6_init_34 : decode cX6_init 34 = .ok (.putfield 20, 3) := by decide +kernel
theorem dX6_init_37 : decode cX6_init 37 = .ok (.aload_n 0, 1) := by decide +kernel
theorem dX6_init_38 : decode cX6_init 38 = .ok (.bipush 20, 2) := by decide +kernel
theorem dX6_init_40 : decode cX6_init 40 = .ok (.newarray .int, 2) := by decide +kernel
theorem dX6_init_42 : decode cX6_init 42 = .ok (.putfield 23, 3) := by decide +kernel
theorem dX6_init_45 : decode cX6_init 45 = .ok (.aload_n 0, 1) := by decide +kernel
theorem dX6_init_46 : decode cX6_init 46 = .ok (.bipush 10, 2) := by decide +kernel
theorem dX6_init_48 : decode cX6_init 48 = .ok (.newarray .int, 2) := by decide +kernel
theorem dX6_init_50 : decode cX6_init 50 = .ok (.putfield 26, 3) := by decide +kernel
theorem dX6_init_53 : decode cX6_init 53 = .ok (.aload_n 0, 1) := by decide +kernel
theorem dX6_init_54 : decode cX6_init 54 = .ok (.bipush 10, 2) := by decide +kernel
theorem dX6_init_56 : decode cX6_init 56 = .ok (.newarray .int, 2) := by decide +kernel
theorem dX6_init_58 : decode cX6_init 58 = .ok (.putfield 29, 3) := by decide +kernel
theorem dX6_init_61 : decode cX6_init 61 = .ok (.aload_n 0, 1) := by decide +kernel
theorem dX6_init_62 : decode cX6_init 62 = .ok (.bipush 10, 2) := by decide +kernel
theorem dX6_init_64 : decode cX6_init 64 = .ok (.newarray .int, 2) := by decide +kernel
theorem dX6_init_66 : decode cX6_init 66 = .ok (.putfield 32, 3) := by decide +kernel
theorem dX6_init_69 : decode cX6_init 69 = .ok (.aload_n 0, 1) := by decide +kernel
theorem dX6_init_70 : decode cX6_init 70 = .ok (.bipush 10, 2) := by decide +kernel
theorem dX6_init_72 : decode cX6_init 72 = .ok (.newarray .int, 2) := by decide +kernel
theorem dX6_init_74 : decode cX6_init 74 = .ok (.putfield 35, 3) := by decide +kernel
theorem dX6_init_77 : decode cX6_init 77 = .ok (.aload_n 0, 1) := by decide +kernel
theorem dX6_init_78 : decode cX6_init 78 = .ok (.bipush 10, 2) := by decide +kernel
theorem dX6_init_80 : decode cX6_init 80 = .ok (.newarray .int, 2) := by decide +kernel
theorem dX6_init_82 : decode cX6_init 82 = .ok (.putfield 38, 3) := by decide +kernel
theorem dX6_init_85 : decode cX6_init 85 = .ok (.aload_n 0, 1) := by decide +kernel
theorem dX6_init_86 : decode cX6_init 86 = .ok (.bipush 10, 2) := by decide +kernel
theorem dX6_init_88 : decode cX6_init 88 = .ok (.newarray .int, 2) := by decide +kernel
theorem dX6_init_90 : decode cX6_init 90 = .ok (.putfield 41, 3) := by decide +kernel
theorem dX6_init_93 : decode cX6_init 93 = .ok (.aload_n 0, 1) := by decide +kernel
theorem dX6_init_94 : decode cX6_init 94 = .ok (.bipush 10, 2) := by decide +kernel
theorem dX6_init_96 : decode cX6_init 96 = .ok (.newarray .int, 2) := by decide +kernel
theorem dX6_init_98 : decode cX6_init 98 = .ok (.putfield 44, 3) := by decide +kernel
theorem dX6_init_101 : decode cX6_init 101 = .ok (.aload_n 0, 1) := by decide +kernel
theorem dX6_init_102 : decode cX6_init 102 = .ok (.bipush 10, 2) := by decide +kernel
theorem dX6_init_104 : decode cX6_init 104 = .ok (.newarray .int, 2) := by decide +kernel
theorem dX6_init_106 : decode cX6_init 106 = .ok (.putfield 47, 3) := by decide +kernel
theorem dX6_init_109 : decode cX6_init 109 = .ok (.aload_n 0, 1) := by decide +kernel
theorem dX6_init_110 : decode cX6_init 110 = .ok (.iconst 4, 1) := by decide +kernel
theorem dX6_init_111 : decode cX6_init 111 = .ok (.newarray .boolean, 2) := by decide +kernel
theorem dX6_init_113 : decode cX6_init 113 = .ok (.putfield 50, 3) := by decide +kernel
theorem dX6_init_116 : decode cX6_init 116 = .ok (.aload_n 0, 1) := by decide +kernel
theorem dX6_init_117 : decode cX6_init 117 = .ok (.sipush 400, 3) := by decide +kernel
theorem dX6_init_120 : decode cX6_init 120 = .ok (.newarray .int, 2) := by decide +kernel
theorem dX6_init_122 : decode cX6_init 122 = .ok (.putfield 53, 3) := by decide +kernel
theorem dX6_init_125 : decode cX6_init 125 = .ok (.return_, 1) := by decide +kernel
theorem dX6_in_0 : decode cX6_in 0 = .ok (.iload_n 0, 1) := by decide +kernel
theorem dX6_in_1 : decode cX6_in 1 = .ok (.iload_n 1, 1) := by decide +kernel
theorem dX6_in_2 : decode cX6_in 2 = .ok (.if_icmp .lt 12, 3) := by decide +kernel
theorem dX6_in_5 : decode cX6_in 5 = .ok (.iload_n 0, 1) := by decide +kernel
theorem dX6_in_6 : decode cX6_in 6 = .ok (.iload_n 2, 1) := by decide +kernel
theorem dX6_in_7 : decode cX6_in 7 = .ok (.if_icmp .gt 7, 3) := by decide +kernel
theorem dX6_in_10 : decode cX6_in 10 = .ok (.iconst 1, 1) := by decide +kernel
theorem dX6_in_11 : decode cX6_in 11 = .ok (.goto 4, 3) := by decide +kernel
theorem dX6_in_14 : decode cX6_in 14 = .ok (.iconst 0, 1) := by decide +kernel
theorem dX6_in_15 : decode cX6_in 15 = .ok (.ireturn, 1) := by decide +kernel
theorem dX6_mod_0 : decode cX6_mod 0 = .ok (.lload_n 0, 1) := by decide +kernel
theorem dX6_mod_1 : decode cX6_mod 1 = .ok (.ldc2_w 56, 3) := by decide +kernel
theorem dX6_mod_4 : decode cX6_mod 4 = .ok (.lrem, 1) := by decide +kernel
theorem dX6_mod_5 : decode cX6_mod 5 = .ok (.lstore_n 2, 1) := by decide +kernel
theorem dX6_mod_6 : decode cX6_mod 6 = .ok (.lload_n 2, 1) := by decide +kernel
theorem dX6_mod_7 : decode cX6_mod 7 = .ok (.lconst 0, 1) := by decide +kernel
theorem dX6_mod_8 : decode cX6_mod 8 = .ok (.lcmp, 1) := by decide +kernel
theorem dX6_mod_9 : decode cX6_mod 9 = .ok (.ifCond .ge 11, 3) := by decide +kernel
theorem dX6_mod_12 : decode cX6_mod 12 = .ok (.lload_n 2, 1) := by decide +kernel
theorem dX6_mod_13 : decode cX6_mod 13 = .ok (.ldc2_w 56, 3) := by decide +kernel
theorem dX6_mod_16 : decode cX6_mod 16 = .ok (.ladd, 1) := by decide +kernel
theorem dX6_mod_17 : decode cX6_mod 17 = .ok (.goto 4, 3) := by decide +kernel
theorem dX6_mod_20 : decode cX6_mod 20 = .ok (.lload_n 2, 1) := by decide +kernel
theorem dX6_mod_21 : decode cX6_mod 21 = .ok (.l2i, 1) := by decide +kernel
theorem dX6_mod_22 : decode cX6_mod 22 = .ok (.ireturn, 1) := by decide +kernel
theorem dX6_toThe_0 : decode cX6_toThe 0 = .ok (.lconst 1, 1) := by decide +kernel
theorem dX6_toThe_1 : decode cX6_toThe 1 = .ok (.lstore_n 2, 1) := by decide +kernel
theorem dX6_toThe_2 : decode cX6_toThe 2 = .ok (.iload_n 0, 1) := by decide +kernel
theorem dX6_toThe_3 : decode cX6_toThe 3 = .ok (.i2l, 1) := by decide +kernel
theorem dX6_toThe_4 : decode cX6_toThe 4 = .ok (.lstore 4, 2) := by decide +kernel
theorem dX6_toThe_6 : decode cX6_toThe 6 = .ok (.iload_n 1, 1) := by decide +kernel
theorem dX6_toThe_7 : decode cX6_toThe 7 = .ok (.istore 6, 2) := by decide +kernel
theorem dX6_toThe_9 : decode cX6_toThe 9 = .ok (.iload 6, 2) := by decide +kernel
theorem dX6_toThe_11 : decode cX6_toThe 11 = .ok (.ifCond .le 44, 3) := by decide +kernel
theorem dX6_toThe_14 : decode cX6_toThe 14 = .ok (.iload 6, 2) := by decide +kernel
theorem dX6_toThe_16 : decode cX6_toThe 16 = .ok (.iconst 2, 1) := by decide +kernel
theorem dX6_toThe_17 : decode cX6_toThe 17 = .ok (.irem, 1) := by decide +kernel
theorem dX6_toThe_18 : decode cX6_toThe 18 = .ok (.iconst 1, 1) := by decide +kernel
theorem dX6_toThe_19 : decode cX6_toThe 19 = .ok (.if_icmp .ne 14, 3) := by decide +kernel
theorem dX6_toThe_22 : decode cX6_toThe 22 = .ok (.lload_n 2, 1) := by decide +kernel
theorem dX6_toThe_23 : decode cX6_toThe 23 = .ok (.lload 4, 2) := by decide +kernel
theorem dX6_toThe_25 : decode cX6_toThe 25 = .ok (.lmul, 1) := by decide +kernel
theorem dX6_toThe_26 : decode cX6_toThe 26 = .ok (.ldc2_w 56, 3) := by decide +kernel
theorem dX6_toThe_29 : decode cX6_toThe 29 = .ok (.lrem, 1) := by decide +kernel
theorem dX6_toThe_30 : decode cX6_toThe 30 = .ok (.goto 4, 3) := by decide +kernel
theorem dX6_toThe_33 : decode cX6_toThe 33 = .ok (.lload_n 2, 1) := by decide +kernel
theorem dX6_toThe_34 : decode cX6_toThe 34 = .ok (.lstore_n 2, 1) := by decide +kernel
theorem dX6_toThe_35 : decode cX6_toThe 35 = .ok (.lload 4, 2) := by decide +kernel
theorem dX6_toThe_37 : decode cX6_toThe 37 = .ok (.lload 4, 2) := by decide +kernel
theorem dX6_toThe_39 : decode cX6_toThe 39 = .ok (.lmul, 1) := by decide +kernel
theorem dX6_toThe_40 : decode cX6_toThe 40 = .ok (.ldc2_w 56, 3) := by decide +kernel
theorem dX6_toThe_43 : decode cX6_toThe 43 = .ok (.lrem, 1) := by decide +kernel
theorem dX6_toThe_44 : decode cX6_toThe 44 = .ok (.lstore 4, 2) := by decide +kernel
theorem dX6_toThe_46 : decode cX6_toThe 46 = .ok (.iload 6, 2) := by decide +kernel
theorem dX6_toThe_48 : decode cX6_toThe 48 = .ok (.iconst 2, 1) := by decide +kernel
theorem dX6_toThe_49 : decode cX6_toThe 49 = .ok (.idiv, 1) := by decide +kernel
theorem dX6_toThe_50 : decode cX6_toThe 50 = .ok (.istore 6, 2) := by decide +kernel
theorem dX6_toThe_52 : decode cX6_toThe 52 = .ok (.goto (-43), 3) := by decide +kernel
theorem dX6_toThe_55 : decode cX6_toThe 55 = .ok (.lload_n 2, 1) := by decide +kernel
theorem dX6_toThe_56 : decode cX6_toThe 56 = .ok (.l2i, 1) := by decide +kernel
theorem dX6_toThe_57 : decode cX6_toThe 57 = .ok (.ireturn, 1) := by decide +kernel
theorem dX6_turnedNumber_0 : decode cX6_turnedNumber 0 = .ok (.iload_n 0, 1) := by decide +kernel
theorem dX6_turnedNumber_1 : decode cX6_turnedNumber 1 = .ok (.sipush 10005, 3) := by decide +kernel
theorem dX6_turnedNumber_4 : decode cX6_turnedNumber 4 = .ok (.invokestatic 58, 3) := by decide +kernel
theorem dX6_turnedNumber_7 : decode cX6_turnedNumber 7 = .ok (.ireturn, 1) := by decide +kernel
theorem dX6_factorial_0 : decode cX6_factorial 0 = .ok (.iconst 1, 1) := by decide +kernel
theorem dX6_factorial_1 : decode cX6_factorial 1 = .ok (.istore_n 1, 1) := by decide +kernel
theorem dX6_factorial_2 : decode cX6_factorial 2 = .ok (.iconst 2, 1) := by decide +kernel
theorem dX6_factorial_3 : decode cX6_factorial 3 = .ok (.istore_n 2, 1) := by decide +kernel
theorem dX6_factorial_4 : decode cX6_factorial 4 = .ok (.iload_n 2, 1) := by decide +kernel
theorem dX6_factorial_5 : decode cX6_factorial 5 = .ok (.iload_n 0, 1) := by decide +kernel
theorem dX6_factorial_6 : decode cX6_factorial 6 = .ok (.if_icmp .gt 18, 3) := by decide +kernel
theorem dX6_factorial_9 : decode cX6_factorial 9 = .ok (.iload_n 1, 1) := by decide +kernel
theorem dX6_factorial_10 : decode cX6_factorial 10 = .ok (.i2l, 1) := by decide +kernel
theorem dX6_factorial_11 : decode cX6_factorial 11 = .ok (.iload_n 2, 1) := by decide +kernel
theorem dX6_factorial_12 : decode cX6_factorial 12 = .ok (.i2l, 1) := by decide +kernel
theorem dX6_factorial_13 : decode cX6_factorial 13 = .ok (.lmul, 1) := by decide +kernel
theorem dX6_factorial_14 : decode cX6_factorial 14 = .ok (.invokestatic 62, 3) := by decide +kernel
theorem dX6_factorial_17 : decode cX6_factorial 17 = .ok (.istore_n 1, 1) := by decide +kernel
theorem dX6_factorial_18 : decode cX6_factorial 18 = .ok (.iinc 2 1, 3) := by decide +kernel
theorem dX6_factorial_21 : decode cX6_factorial 21 = .ok (.goto (-17), 3) := by decide +kernel
theorem dX6_factorial_24 : decode cX6_factorial 24 = .ok (.iload_n 1, 1) := by decide +kernel
theorem dX6_factorial_25 : decode cX6_factorial 25 = .ok (.ireturn, 1) := by decide +kernel
theorem dX6_meets_0 : decode cX6_meets 0 = .ok (.aload_n 0, 1) := by decide +kernel
theorem dX6_meets_1 : decode cX6_meets 1 = .ok (.iload_n 1, 1) := by decide +kernel
theorem dX6_meets_2 : decode cX6_meets 2 = .ok (.putfield 66, 3) := by decide +kernel
theorem dX6_meets_5 : decode cX6_meets 5 = .ok (.bipush (-10), 2) := by decide +kernel
theorem dX6_meets_7 : decode cX6_meets 7 = .ok (.iload_n 1, 1) := by decide +kernel
theorem dX6_meets_8 : decode cX6_meets 8 = .ok (.isub, 1) := by decide +kernel
theorem dX6_meets_9 : decode cX6_meets 9 = .ok (.ireturn, 1) := by decide +kernel
theorem dX6_isSheet_0 : decode cX6_isSheet 0 = .ok (.iload_n 0, 1) := by decide +kernel
theorem dX6_isSheet_1 : decode cX6_isSheet 1 = .ok (.iconst 0, 1) := by decide +kernel
theorem dX6_isSheet_2 : decode cX6_isSheet 2 = .ok (.bipush 7, 2) := by decide +kernel
theorem dX6_isSheet_4 : decode cX6_isSheet 4 = .ok (.invokestatic 70, 3) := by decide +kernel
theorem dX6_isSheet_7 : decode cX6_isSheet 7 = .ok (.ireturn, 1) := by decide +kernel
theorem dX6_sheet_0 : decode cX6_sheet 0 = .ok (.iload_n 1, 1) := by decide +kernel
theorem dX6_sheet_1 : decode cX6_sheet 1 = .ok (.invokestatic 74, 3) := by decide +kernel
theorem dX6_sheet_4 : decode cX6_sheet 4 = .ok (.ifCond .eq 18, 3) := by decide +kernel
theorem dX6_sheet_7 : decode cX6_sheet 7 = .ok (.iload_n 2, 1) := by decide +kernel
theorem dX6_sheet_8 : decode cX6_sheet 8 = .ok (.iconst 0, 1) := by decide +kernel
theorem dX6_sheet_9 : decode cX6_sheet 9 = .ok (.iconst 2, 1) := by decide +kernel
theorem dX6_sheet_10 : decode cX6_sheet 10 = .ok (.invokestatic 70, 3) := by decide +kernel
theorem dX6_sheet_13 : decode cX6_sheet 13 = .ok (.ifCond .eq 9, 3) := by decide +kernel
theorem dX6_sheet_16 : decode cX6_sheet 16 = .ok (.iload_n 3, 1) := by decide +kernel
theorem dX6_sheet_17 : decode cX6_sheet 17 = .ok (.bipush 20, 2) := by decide +kernel
theorem dX6_sheet_19 : decode cX6_sheet 19 = .ok (.if_icmp .le 6, 3) := by decide +kernel
theorem dX6_sheet_22 : decode cX6_sheet 22 = .ok (.bipush (-2), 2) := by decide +kernel
theorem dX6_sheet_24 : decode cX6_sheet 24 = .ok (.ireturn, 1) := by decide +kernel
theorem dX6_sheet_25 : decode cX6_sheet 25 = .ok (.iload_n 3, 1) := by decide +kernel
theorem dX6_sheet_26 : decode cX6_sheet 26 = .ok (.ifCond .ge 9, 3) := by decide +kernel
theorem dX6_sheet_29 : decode cX6_sheet 29 = .ok (.aload_n 0, 1) := by decide +kernel
theorem dX6_sheet_30 : decode cX6_sheet 30 = .ok (.iconst 5, 1) := by decide +kernel
theorem dX6_sheet_31 : decode cX6_sheet 31 = .ok (.invokevirtual 78, 3) := by decide +kernel
theorem dX6_sheet_34 : decode cX6_sheet 34 = .ok (.ireturn, 1) := by decide +kernel
theorem dX6_sheet_35 : decode cX6_sheet 35 = .ok (.aload_n 0, 1) := by decide +kernel
theorem dX6_sheet_36 : decode cX6_sheet 36 = .ok (.getfield 7, 3) := by decide +kernel
theorem dX6_sheet_39 : decode cX6_sheet 39 = .ok (.iload_n 1, 1) := by decide +kernel
theorem dX6_sheet_40 : decode cX6_sheet 40 = .ok (.iconst 1, 1) := by decide +kernel
theorem dX6_sheet_41 : decode cX6_sheet 41 = .ok (.bastore, 1) := by decide +kernel
theorem dX6_sheet_42 : decode cX6_sheet 42 = .ok (.aload_n 0, 1) := by decide +kernel
theorem dX6_sheet_43 : decode cX6_sheet 43 = .ok (.getfield 13, 3) := by decide +kernel
theorem dX6_sheet_46 : decode cX6_sheet 46 = .ok (.iload_n 1, 1) := by decide +kernel
theorem dX6_sheet_47 : decode cX6_sheet 47 = .ok (.iload_n 2, 1) := by decide +kernel
theorem dX6_sheet_48 : decode cX6_sheet 48 = .ok (.iastore, 1) := by decide +kernel
theorem dX6_sheet_49 : decode cX6_sheet 49 = .ok (.aload_n 0, 1) := by decide +kernel
theorem dX6_sheet_50 : decode cX6_sheet 50 = .ok (.getfield 17, 3) := by decide +kernel
theorem dX6_sheet_53 : decode cX6_sheet 53 = .ok (.iload_n 1, 1) := by decide +kernel
theorem dX6_sheet_54 : decode cX6_sheet 54 = .ok (.iload_n 3, 1) := by decide +kernel
theorem dX6_sheet_55 : decode cX6_sheet 55 = .ok (.iastore, 1) := by decide +kernel
theorem dX6_sheet_56 : decode cX6_sheet 56 = .ok (.iconst 0, 1) := by decide +kernel
theorem dX6_sheet_57 : decode cX6_sheet 57 = .ok (.istore 4, 2) := by decide +kernel
theorem dX6_sheet_59 : decode cX6_sheet 59 = .ok (.iload 4, 2) := by decide +kernel
theorem dX6_sheet_61 : decode cX6_sheet 61 = .ok (.bipush 20, 2) := by decide +kernel
theorem dX6_sheet_63 : decode cX6_sheet 63 = .ok (.if_icmp .ge 22, 3) := by decide +kernel
theorem dX6_sheet_66 : decode cX6_sheet 66 = .ok (.aload_n 0, 1) := by decide +kernel
theorem dX6_sheet_67 : decode cX6_sheet 67 = .ok (.getfield 20, 3) := by decide +kernel
theorem dX6_sheet_70 : decode cX6_sheet 70 = .ok (.bipush 20, 2) := by decide +kernel
theorem dX6_sheet_72 : decode cX6_sheet 72 = .ok (.iload_n 1, 1) := by decide +kernel
theorem dX6_sheet_73 : decode cX6_sheet 73 = .ok (.imul, 1) := by decide +kernel
theorem dX6_sheet_74 : decode cX6_sheet 74 = .ok (.iload 4, 2) := by decide +kernel
theorem dX6_sheet_76 : decode cX6_sheet 76 = .ok (.iadd, 1) := by decide +kernel
theorem dX6_sheet_77 : decode cX6_sheet 77 = .ok (.iconst 0, 1) := by decide +kernel
theorem dX6_sheet_78 : decode cX6_sheet 78 = .ok (.iastore, 1) := by decide +kernel
theorem dX6_sheet_79 : decode cX6_sheet 79 = .ok (.iinc 4 1, 3) := by decide +kernel
theorem dX6_sheet_82 : decode cX6_sheet 82 = .ok (.goto (-23), 3) := by decide +kernel
theorem dX6_sheet_85 : decode cX6_sheet 85 = .ok (.iload_n 3, 1) := by decide +kernel
theorem dX6_sheet_86 : decode cX6_sheet 86 = .ok (.ireturn, 1) := by decide +kernel
theorem dX6_lose_0 : decode cX6_lose 0 = .ok (.iload_n 1, 1) := by decide +kernel
theorem dX6_lose_1 : decode cX6_lose 1 = .ok (.invokestatic 74, 3) := by decide +kernel
theorem dX6_lose_4 : decode cX6_lose 4 = .ok (.ifCond .ne 6, 3) := by decide +kernel
theorem dX6_lose_7 : decode cX6_lose 7 = .ok (.bipush (-2), 2) := by decide +kernel
theorem dX6_lose_9 : decode cX6_lose 9 = .ok (.ireturn, 1) := by decide +kernel
theorem dX6_lose_10 : decode cX6_lose 10 = .ok (.aload_n 0, 1) := by decide +kernel
theorem dX6_lose_11 : decode cX6_lose 11 = .ok (.getfield 7, 3) := by decide +kernel
theorem dX6_lose_14 : decode cX6_lose 14 = .ok (.iload_n 1, 1) := by decide +kernel
theorem dX6_lose_15 : decode cX6_lose 15 = .ok (.baload, 1) := by decide +kernel
theorem dX6_lose_16 : decode cX6_lose 16 = .ok (.ifCond .ne 9, 3) := by decide +kernel
theorem dX6_lose_19 : decode cX6_lose 19 = .ok (.aload_n 0, 1) := by decide +kernel
theorem dX6_lose_20 : decode cX6_lose 20 = .ok (.iconst 1, 1) := by decide +kernel
theorem dX6_lose_21 : decode cX6_lose 21 = .ok (.invokevirtual 78, 3) := by decide +kernel
theorem dX6_lose_24 : decode cX6_lose 24 = .ok (.ireturn, 1) := by decide +kernel
theorem dX6_lose_25 : decode cX6_lose 25 = .ok (.aload_n 0, 1) := by decide +kernel
theorem dX6_lose_26 : decode cX6_lose 26 = .ok (.getfield 7, 3) := by decide +kernel
theorem dX6_lose_29 : decode cX6_lose 29 = .ok (.iload_n 1, 1) := by decide +kernel
theorem dX6_lose_30 : decode cX6_lose 30 = .ok (.iconst 0, 1) := by decide +kernel
theorem dX6_lose_31 : decode cX6_lose 31 = .ok (.bastore, 1) := by decide +kernel
theorem dX6_lose_32 : decode cX6_lose 32 = .ok (.aload_n 0, 1) := by decide +kernel
theorem dX6_lose_33 : decode cX6_lose 33 = .ok (.getfield 17, 3) := by decide +kernel
theorem dX6_lose_36 : decode cX6_lose 36 = .ok (.iload_n 1, 1) := by decide +kernel
theorem dX6_lose_37 : decode cX6_lose 37 = .ok (.iaload, 1) := by decide +kernel
theorem dX6_lose_38 : decode cX6_lose 38 = .ok (.ireturn, 1) := by decide +kernel
theorem dX6_lacks_0 : decode cX6_lacks 0 = .ok (.aload_n 0, 1) := by decide +kernel
theorem dX6_lacks_1 : decode cX6_lacks 1 = .ok (.getfield 7, 3) := by decide +kernel
theorem dX6_lacks_4 : decode cX6_lacks 4 = .ok (.iload_n 1, 1) := by decide +kernel
theorem dX6_lacks_5 : decode cX6_lacks 5 = .ok (.baload, 1) := by decide +kernel
theorem dX6_lacks_6 : decode cX6_lacks 6 = .ok (.ifCond .ne 7, 3) := by decide +kernel
theorem dX6_lacks_9 : decode cX6_lacks 9 = .ok (.iconst 1, 1) := by decide +kernel
theorem dX6_lacks_10 : decode cX6_lacks 10 = .ok (.goto 38, 3) := by decide +kernel
theorem dX6_lacks_13 : decode cX6_lacks 13 = .ok (.aload_n 0, 1) := by decide +kernel
theorem dX6_lacks_14 : decode cX6_lacks 14 = .ok (.getfield 13, 3) := by decide +kernel
theorem dX6_lacks_17 : decode cX6_lacks 17 = .ok (.iload_n 1, 1) := by decide +kernel
theorem dX6_lacks_18 : decode cX6_lacks 18 = .ok (.iaload, 1) := by decide +kernel
theorem dX6_lacks_19 : decode cX6_lacks 19 = .ok (.iload_n 2, 1) := by decide +kernel
theorem dX6_lacks_20 : decode cX6_lacks 20 = .ok (.if_icmp .eq 7, 3) := by decide +kernel
theorem dX6_lacks_23 : decode cX6_lacks 23 = .ok (.iconst 3, 1) := by decide +kernel
theorem dX6_lacks_24 : decode cX6_lacks 24 = .ok (.goto 24, 3) := by decide +kernel
theorem dX6_lacks_27 : decode cX6_lacks 27 = .ok (.iload_n 3, 1) := by decide +kernel
theorem dX6_lacks_28 : decode cX6_lacks 28 = .ok (.iconst 0, 1) := by decide +kernel
theorem dX6_lacks_29 : decode cX6_lacks 29 = .ok (.aload_n 0, 1) := by decide +kernel
theorem dX6_lacks_30 : decode cX6_lacks 30 = .ok (.getfield 17, 3) := by decide +kernel
theorem dX6_lacks_33 : decode cX6_lacks 33 = .ok (.iload_n 1, 1) := by decide +kernel
theorem dX6_lacks_34 : decode cX6_lacks 34 = .ok (.iaload, 1) := by decide +kernel
theorem dX6_lacks_35 : decode cX6_lacks 35 = .ok (.iconst 1, 1) := by decide +kernel
theorem dX6_lacks_36 : decode cX6_lacks 36 = .ok (.isub, 1) := by decide +kernel
theorem dX6_lacks_37 : decode cX6_lacks 37 = .ok (.invokestatic 70, 3) := by decide +kernel
theorem dX6_lacks_40 : decode cX6_lacks 40 = .ok (.ifCond .eq 7, 3) := by decide +kernel
theorem dX6_lacks_43 : decode cX6_lacks 43 = .ok (.iconst 0, 1) := by decide +kernel
theorem dX6_lacks_44 : decode cX6_lacks 44 = .ok (.goto 4, 3) := by decide +kernel
theorem dX6_lacks_47 : decode cX6_lacks 47 = .ok (.iconst 2, 1) := by decide +kernel
theorem dX6_lacks_48 : decode cX6_lacks 48 = .ok (.ireturn, 1) := by decide +kernel
theorem dX6_put_0 : decode cX6_put 0 = .ok (.iload_n 1, 1) := by decide +kernel
theorem dX6_put_1 : decode cX6_put 1 = .ok (.invokestatic 74, 3) := by decide +kernel
theorem dX6_put_4 : decode cX6_put 4 = .ok (.ifCond .eq 12, 3) := by decide +kernel
theorem dX6_put_7 : decode cX6_put 7 = .ok (.iload_n 2, 1) := by decide +kernel
theorem dX6_put_8 : decode cX6_put 8 = .ok (.iconst 0, 1) := by decide +kernel
theorem dX6_put_9 : decode cX6_put 9 = .ok (.iconst 2, 1) := by decide +kernel
theorem dX6_put_10 : decode cX6_put 10 = .ok (.invokestatic 70, 3) := by decide +kernel
theorem dX6_put_13 : decode cX6_put 13 = .ok (.ifCond .ne 6, 3) := by decide +kernel
theorem dX6_put_16 : decode cX6_put 16 = .ok (.bipush (-2), 2) := by decide +kernel
theorem dX6_put_18 : decode cX6_put 18 = .ok (.ireturn, 1) := by decide +kernel
theorem dX6_put_19 : decode cX6_put 19 = .ok (.aload_n 0, 1) := by decide +kernel
theorem dX6_put_20 : decode cX6_put 20 = .ok (.iload_n 1, 1) := by decide +kernel
theorem dX6_put_21 : decode cX6_put 21 = .ok (.iload_n 2, 1) := by decide +kernel
theorem dX6_put_22 : decode cX6_put 22 = .ok (.iload_n 3, 1) := by decide +kernel
theorem dX6_put_23 : decode cX6_put 23 = .ok (.invokevirtual 82, 3) := by decide +kernel
theorem dX6_put_26 : decode cX6_put 26 = .ok (.istore 5, 2) := by decide +kernel
theorem dX6_put_28 : decode cX6_put 28 = .ok (.iload 5, 2) := by decide +kernel
theorem dX6_put_30 : decode cX6_put 30 = .ok (.ifCond .le 10, 3) := by decide +kernel
theorem dX6_put_33 : decode cX6_put 33 = .ok (.aload_n 0, 1) := by decide +kernel
theorem dX6_put_34 : decode cX6_put 34 = .ok (.iload 5, 2) := by decide +kernel
theorem dX6_put_36 : decode cX6_put 36 = .ok (.invokevirtual 78, 3) := by decide +kernel
theorem dX6_put_39 : decode cX6_put 39 = .ok (.ireturn, 1) := by decide +kernel
theorem dX6_put_40 : decode cX6_put 40 = .ok (.aload_n 0, 1) := by decide +kernel
theorem dX6_put_41 : decode cX6_put 41 = .ok (.getfield 20, 3) := by decide +kernel
theorem dX6_put_44 : decode cX6_put 44 = .ok (.bipush 20, 2) := by decide +kernel
theorem dX6_put_46 : decode cX6_put 46 = .ok (.iload_n 1, 1) := by decide +kernel
theorem dX6_put_47 : decode cX6_put 47 = .ok (.imul, 1) := by decide +kernel
theorem dX6_put_48 : decode cX6_put 48 = .ok (.iload_n 3, 1) := by decide +kernel
theorem dX6_put_49 : decode cX6_put 49 = .ok (.iadd, 1) := by decide +kernel
theorem dX6_put_50 : decode cX6_put 50 = .ok (.iload_n 2, 1) := by decide +kernel
theorem dX6_put_51 : decode cX6_put 51 = .ok (.ifCond .ne 9, 3) := by decide +kernel
theorem dX6_put_54 : decode cX6_put 54 = .ok (.iload 4, 2) := by decide +kernel
theorem dX6_put_56 : decode cX6_put 56 = .ok (.i2b, 1) := by decide +kernel
theorem dX6_put_57 : decode cX6_put 57 = .ok (.goto 16, 3) := by decide +kernel
theorem dX6_put_60 : decode cX6_put 60 = .ok (.iload_n 2, 1) := by decide +kernel
theorem dX6_put_61 : decode cX6_put 61 = .ok (.iconst 1, 1) := by decide +kernel
theorem dX6_put_62 : decode cX6_put 62 = .ok (.if_icmp .ne 9, 3) := by decide +kernel
theorem dX6_put_65 : decode cX6_put 65 = .ok (.iload 4, 2) := by decide +kernel
theorem dX6_put_67 : decode cX6_put 67 = .ok (.i2s, 1) := by decide +kernel
theorem dX6_put_68 : decode cX6_put 68 = .ok (.goto 5, 3) := by decide +kernel
theorem dX6_put_71 : decode cX6_put 71 = .ok (.iload 4, 2) := by decide +kernel
theorem dX6_put_73 : decode cX6_put 73 = .ok (.iastore, 1) := by decide +kernel
theorem dX6_put_74 : decode cX6_put 74 = .ok (.iconst 1, 1) := by decide +kernel
theorem dX6_put_75 : decode cX6_put 75 = .ok (.ireturn, 1) := by decide +kernel
theorem dX6_get_0 : decode cX6_get 0 = .ok (.iload_n 1, 1) := by decide +kernel
theorem dX6_get_1 : decode cX6_get 1 = .ok (.invokestatic 74, 3) := by decide +kernel
theorem dX6_get_4 : decode cX6_get 4 = .ok (.ifCond .eq 12, 3) := by decide +kernel
theorem dX6_get_7 : decode cX6_get 7 = .ok (.iload_n 2, 1) := by decide +kernel
theorem dX6_get_8 : decode cX6_get 8 = .ok (.iconst 0, 1) := by decide +kernel
theorem dX6_get_9 : decode cX6_get 9 = .ok (.iconst 2, 1) := by decide +kernel
theorem dX6_get_10 : decode cX6_get 10 = .ok (.invokestatic 70, 3) := by decide +kernel
theorem dX6_get_13 : decode cX6_get 13 = .ok (.ifCond .ne 6, 3) := by decide +kernel
theorem dX6_get_16 : decode cX6_get 16 = .ok (.ldc 86, 2) := by decide +kernel
theorem dX6_get_18 : decode cX6_get 18 = .ok (.ireturn, 1) := by decide +kernel
theorem dX6_get_19 : decode cX6_get 19 = .ok (.aload_n 0, 1) := by decide +kernel
theorem dX6_get_20 : decode cX6_get 20 = .ok (.iload_n 1, 1) := by decide +kernel
theorem dX6_get_21 : decode cX6_get 21 = .ok (.iload_n 2, 1) := by decide +kernel
theorem dX6_get_22 : decode cX6_get 22 = .ok (.iload_n 3, 1) := by decide +kernel
theorem dX6_get_23 : decode cX6_get 23 = .ok (.invokevirtual 82, 3) := by decide +kernel
theorem dX6_get_26 : decode cX6_get 26 = .ok (.istore 4, 2) := by decide +kernel
theorem dX6_get_28 : decode cX6_get 28 = .ok (.iload 4, 2) := by decide +kernel
theorem dX6_get_30 : decode cX6_get 30 = .ok (.ifCond .le 12, 3) := by decide +kernel
theorem dX6_get_33 : decode cX6_get 33 = .ok (.aload_n 0, 1) := by decide +kernel
theorem dX6_get_34 : decode cX6_get 34 = .ok (.iload 4, 2) := by decide +kernel
theorem dX6_get_36 : decode cX6_get 36 = .ok (.putfield 66, 3) := by decide +kernel
theorem dX6_get_39 : decode cX6_get 39 = .ok (.ldc 86, 2) := by decide +kernel
theorem dX6_get_41 : decode cX6_get 41 = .ok (.ireturn, 1) := by decide +kernel
theorem dX6_get_42 : decode cX6_get 42 = .ok (.aload_n 0, 1) := by decide +kernel
theorem dX6_get_43 : decode cX6_get 43 = .ok (.getfield 20, 3) := by decide +kernel
theorem dX6_get_46 : decode cX6_get 46 = .ok (.bipush 20, 2) := by decide +kernel
theorem dX6_get_48 : decode cX6_get 48 = .ok (.iload_n 1, 1) := by decide +kernel
theorem dX6_get_49 : decode cX6_get 49 = .ok (.imul, 1) := by decide +kernel
theorem dX6_get_50 : decode cX6_get 50 = .ok (.iload_n 3, 1) := by decide +kernel
theorem dX6_get_51 : decode cX6_get 51 = .ok (.iadd, 1) := by decide +kernel
theorem dX6_get_52 : decode cX6_get 52 = .ok (.iaload, 1) := by decide +kernel
theorem dX6_get_53 : decode cX6_get 53 = .ok (.ireturn, 1) := by decide +kernel
theorem dX6_copy_0 : decode cX6_copy 0 = .ok (.iload_n 1, 1) := by decide +kernel
theorem dX6_copy_1 : decode cX6_copy 1 = .ok (.invokestatic 74, 3) := by decide +kernel
theorem dX6_copy_4 : decode cX6_copy 4 = .ok (.ifCond .eq 10, 3) := by decide +kernel
theorem dX6_copy_7 : decode cX6_copy 7 = .ok (.iload_n 3, 1) := by decide +kernel
theorem dX6_copy_8 : decode cX6_copy 8 = .ok (.invokestatic 74, 3) := by decide +kernel
theorem dX6_copy_11 : decode cX6_copy 11 = .ok (.ifCond .ne 6, 3) := by decide +kernel
theorem dX6_copy_14 : decode cX6_copy 14 = .ok (.bipush (-2), 2) := by decide +kernel
theorem dX6_copy_16 : decode cX6_copy 16 = .ok (.ireturn, 1) := by decide +kernel
theorem dX6_copy_17 : decode cX6_copy 17 = .ok (.aload_n 0, 1) := by decide +kernel
theorem dX6_copy_18 : decode cX6_copy 18 = .ok (.getfield 7, 3) := by decide +kernel
theorem dX6_copy_21 : decode cX6_copy 21 = .ok (.iload_n 1, 1) := by decide +kernel
theorem dX6_copy_22 : decode cX6_copy 22 = .ok (.baload, 1) := by decide +kernel
theorem dX6_copy_23 : decode cX6_copy 23 = .ok (.ifCond .eq 12, 3) := by decide +kernel
theorem dX6_copy_26 : decode cX6_copy 26 = .ok (.aload_n 0, 1) := by decide +kernel
theorem dX6_copy_27 : decode cX6_copy 27 = .ok (.getfield 7, 3) := by decide +kernel
theorem dX6_copy_30 : decode cX6_copy 30 = .ok (.iload_n 3, 1) := by decide +kernel
theorem dX6_copy_31 : decode cX6_copy 31 = .ok (.baload, 1) := by decide +kernel
theorem dX6_copy_32 : decode cX6_copy 32 = .ok (.ifCond .ne 9, 3) := by decide +kernel
theorem dX6_copy_35 : decode cX6_copy 35 = .ok (.aload_n 0, 1) := by decide +kernel
theorem dX6_copy_36 : decode cX6_copy 36 = .ok (.iconst 1, 1) := by decide +kernel
theorem dX6_copy_37 : decode cX6_copy 37 = .ok (.invokevirtual 78, 3) := by decide +kernel
theorem dX6_copy_40 : decode cX6_copy 40 = .ok (.ireturn, 1) := by decide +kernel
theorem dX6_copy_41 : decode cX6_copy 41 = .ok (.aload_n 0, 1) := by decide +kernel
theorem dX6_copy_42 : decode cX6_copy 42 = .ok (.getfield 13, 3) := by decide +kernel
theorem dX6_copy_45 : decode cX6_copy 45 = .ok (.iload_n 1, 1) := by decide +kernel
theorem dX6_copy_46 : decode cX6_copy 46 = .ok (.iaload, 1) := by decide +kernel
theorem dX6_copy_47 : decode cX6_copy 47 = .ok (.aload_n 0, 1) := by decide +kernel
theorem dX6_copy_48 : decode cX6_copy 48 = .ok (.getfield 13, 3) := by decide +kernel
theorem dX6_copy_51 : decode cX6_copy 51 = .ok (.iload_n 3, 1) := by decide +kernel
theorem dX6_copy_52 : decode cX6_copy 52 = .ok (.iaload, 1) := by decide +kernel
theorem dX6_copy_53 : decode cX6_copy 53 = .ok (.if_icmp .eq 9, 3) := by decide +kernel
theorem dX6_copy_56 : decode cX6_copy 56 = .ok (.aload_n 0, 1) := by decide +kernel
theorem dX6_copy_57 : decode cX6_copy 57 = .ok (.iconst 4, 1) := by decide +kernel
theorem dX6_copy_58 : decode cX6_copy 58 = .ok (.invokevirtual 78, 3) := by decide +kernel
theorem dX6_copy_61 : decode cX6_copy 61 = .ok (.ireturn, 1) := by decide +kernel
theorem dX6_copy_62 : decode cX6_copy 62 = .ok (.iload_n 2, 1) := by decide +kernel
theorem dX6_copy_63 : decode cX6_copy 63 = .ok (.ifCond .lt 48, 3) := by decide +kernel
theorem dX6_copy_66 : decode cX6_copy 66 = .ok (.iload 4, 2) := by decide +kernel
theorem dX6_copy_68 : decode cX6_copy 68 = .ok (.ifCond .lt 43, 3) := by decide +kernel
theorem dX6_copy_71 : decode cX6_copy 71 = .ok (.iload 5, 2) := by decide +kernel
theorem dX6_copy_73 : decode cX6_copy 73 = .ok (.ifCond .lt 38, 3) := by decide +kernel
theorem dX6_copy_76 : decode cX6_copy 76 = .ok (.iload_n 2, 1) := by decide +kernel
theorem dX6_copy_77 : decode cX6_copy 77 = .ok (.i2l, 1) := by decide +kernel
theorem dX6_copy_78 : decode cX6_copy 78 = .ok (.iload 5, 2) := by decide +kernel
theorem dX6_copy_80 : decode cX6_copy 80 = .ok (.i2l, 1) := by decide +kernel
theorem dX6_copy_81 : decode cX6_copy 81 = .ok (.ladd, 1) := by decide +kernel
theorem dX6_copy_82 : decode cX6_copy 82 = .ok (.aload_n 0, 1) := by decide +kernel
theorem dX6_copy_83 : decode cX6_copy 83 = .ok (.getfield 17, 3) := by decide +kernel
theorem dX6_copy_86 : decode cX6_copy 86 = .ok (.iload_n 1, 1) := by decide +kernel
theorem dX6_copy_87 : decode cX6_copy 87 = .ok (.iaload, 1) := by decide +kernel
theorem dX6_copy_88 : decode cX6_copy 88 = .ok (.i2l, 1) := by decide +kernel
theorem dX6_copy_89 : decode cX6_copy 89 = .ok (.lcmp, 1) := by decide +kernel
theorem dX6_copy_90 : decode cX6_copy 90 = .ok (.ifCond .gt 21, 3) := by decide +kernel
theorem dX6_copy_93 : decode cX6_copy 93 = .ok (.iload 4, 2) := by decide +kernel
theorem dX6_copy_95 : decode cX6_copy 95 = .ok (.i2l, 1) := by decide +kernel
theorem dX6_copy_96 : decode cX6_copy 96 = .ok (.iload 5, 2) := by decide +kernel
theorem dX6_copy_98 : decode cX6_copy 98 = .ok (.i2l, 1) := by decide +kernel
theorem dX6_copy_99 : decode cX6_copy 99 = .ok (.ladd, 1) := by decide +kernel
theorem dX6_copy_100 : decode cX6_copy 100 = .ok (.aload_n 0, 1) := by decide +kernel
theorem dX6_copy_101 : decode cX6_copy 101 = .ok (.getfield 17, 3) := by decide +kernel
theorem dX6_copy_104 : decode cX6_copy 104 = .ok (.iload_n 3, 1) := by decide +kernel
theorem dX6_copy_105 : decode cX6_copy 105 = .ok (.iaload, 1) := by decide +kernel
theorem dX6_copy_106 : decode cX6_copy 106 = .ok (.i2l, 1) := by decide +kernel
theorem dX6_copy_107 : decode cX6_copy 107 = .ok (.lcmp, 1) := by decide +kernel
theorem dX6_copy_108 : decode cX6_copy 108 = .ok (.ifCond .le 9, 3) := by decide +kernel
theorem dX6_copy_111 : decode cX6_copy 111 = .ok (.aload_n 0, 1) := by decide +kernel
theorem dX6_copy_112 : decode cX6_copy 112 = .ok (.iconst 2, 1) := by decide +kernel
theorem dX6_copy_113 : decode cX6_copy 113 = .ok (.invokevirtual 78, 3) := by decide +kernel
theorem dX6_copy_116 : decode cX6_copy 116 = .ok (.ireturn, 1) := by decide +kernel
theorem dX6_copy_117 : decode cX6_copy 117 = .ok (.iconst 0, 1) := by decide +kernel
theorem dX6_copy_118 : decode cX6_copy 118 = .ok (.istore 6, 2) := by decide +kernel
theorem dX6_copy_120 : decode cX6_copy 120 = .ok (.iload 6, 2) := by decide +kernel
theorem dX6_copy_122 : decode cX6_copy 122 = .ok (.iload 5, 2) := by decide +kernel
theorem dX6_copy_124 : decode cX6_copy 124 = .ok (.if_icmp .ge 30, 3) := by decide +kernel
theorem dX6_copy_127 : decode cX6_copy 127 = .ok (.aload_n 0, 1) := by decide +kernel
theorem dX6_copy_128 : decode cX6_copy 128 = .ok (.getfield 23, 3) := by decide +kernel
theorem dX6_copy_131 : decode cX6_copy 131 = .ok (.iload 6, 2) := by decide +kernel
theorem dX6_copy_133 : decode cX6_copy 133 = .ok (.aload_n 0, 1) := by decide +kernel
theorem dX6_copy_134 : decode cX6_copy 134 = .ok (.getfield 20, 3) := by decide +kernel
theorem dX6_copy_137 : decode cX6_copy 137 = .ok (.bipush 20, 2) := by decide +kernel
theorem dX6_copy_139 : decode cX6_copy 139 = .ok (.iload_n 1, 1) := by decide +kernel
theorem dX6_copy_140 : decode cX6_copy 140 = .ok (.imul, 1) := by decide +kernel
theorem dX6_copy_141 : decode cX6_copy 141 = .ok (.iload_n 2, 1) := by decide +kernel
theorem dX6_copy_142 : decode cX6_copy 142 = .ok (.iadd, 1) := by decide +kernel
theorem dX6_copy_143 : decode cX6_copy 143 = .ok (.iload 6, 2) := by decide +kernel
theorem dX6_copy_145 : decode cX6_copy 145 = .ok (.iadd, 1) := by decide +kernel
theorem dX6_copy_146 : decode cX6_copy 146 = .ok (.iaload, 1) := by decide +kernel
theorem dX6_copy_147 : decode cX6_copy 147 = .ok (.iastore, 1) := by decide +kernel
theorem dX6_copy_148 : decode cX6_copy 148 = .ok (.iinc 6 1, 3) := by decide +kernel
theorem dX6_copy_151 : decode cX6_copy 151 = .ok (.goto (-31), 3) := by decide +kernel
theorem dX6_copy_154 : decode cX6_copy 154 = .ok (.iconst 0, 1) := by decide +kernel
theorem dX6_copy_155 : decode cX6_copy 155 = .ok (.istore 6, 2) := by decide +kernel
theorem dX6_copy_157 : decode cX6_copy 157 = .ok (.iload 6, 2) := by decide +kernel
theorem dX6_copy_159 : decode cX6_copy 159 = .ok (.iload 5, 2) := by decide +kernel
theorem dX6_copy_161 : decode cX6_copy 161 = .ok (.if_icmp .ge 31, 3) := by decide +kernel
theorem dX6_copy_164 : decode cX6_copy 164 = .ok (.aload_n 0, 1) := by decide +kernel
theorem dX6_copy_165 : decode cX6_copy 165 = .ok (.getfield 20, 3) := by decide +kernel
theorem dX6_copy_168 : decode cX6_copy 168 = .ok (.bipush 20, 2) := by decide +kernel
theorem dX6_copy_170 : decode cX6_copy 170 = .ok (.iload_n 3, 1) := by decide +kernel
theorem dX6_copy_171 : decode cX6_copy 171 = .ok (.imul, 1) := by decide +kernel
theorem dX6_copy_172 : decode cX6_copy 172 = .ok (.iload 4, 2) := by decide +kernel
theorem dX6_copy_174 : decode cX6_copy 174 = .ok (.iadd, 1) := by decide +kernel
theorem dX6_copy_175 : decode cX6_copy 175 = .ok (.iload 6, 2) := by decide +kernel
theorem dX6_copy_177 : decode cX6_copy 177 = .ok (.iadd, 1) := by decide +kernel
theorem dX6_copy_178 : decode cX6_copy 178 = .ok (.aload_n 0, 1) := by decide +kernel
theorem dX6_copy_179 : decode cX6_copy 179 = .ok (.getfield 23, 3) := by decide +kernel
theorem dX6_copy_182 : decode cX6_copy 182 = .ok (.iload 6, 2) := by decide +kernel
theorem dX6_copy_184 : decode cX6_copy 184 = .ok (.iaload, 1) := by decide +kernel
theorem dX6_copy_185 : decode cX6_copy 185 = .ok (.iastore, 1) := by decide +kernel
theorem dX6_copy_186 : decode cX6_copy 186 = .ok (.iinc 6 1, 3) := by decide +kernel
theorem dX6_copy_189 : decode cX6_copy 189 = .ok (.goto (-32), 3) := by decide +kernel
theorem dX6_copy_192 : decode cX6_copy 192 = .ok (.iconst 1, 1) := by decide +kernel
theorem dX6_copy_193 : decode cX6_copy 193 = .ok (.ireturn, 1) := by decide +kernel
theorem dX6_read_0 : decode cX6_read 0 = .ok (.iconst 0, 1) := by decide +kernel
theorem dX6_read_1 : decode cX6_read 1 = .ok (.istore_n 3, 1) := by decide +kernel
theorem dX6_read_2 : decode cX6_read 2 = .ok (.iload_n 3, 1) := by decide +kernel
theorem dX6_read_3 : decode cX6_read 3 = .ok (.bipush 10, 2) := by decide +kernel
theorem dX6_read_5 : decode cX6_read 5 = .ok (.if_icmp .ge 41, 3) := by decide +kernel
theorem dX6_read_8 : decode cX6_read 8 = .ok (.aload_n 2, 1) := by decide +kernel
theorem dX6_read_9 : decode cX6_read 9 = .ok (.iload_n 3, 1) := by decide +kernel
theorem dX6_read_10 : decode cX6_read 10 = .ok (.iload_n 3, 1) := by decide +kernel
theorem dX6_read_11 : decode cX6_read 11 = .ok (.aload_n 0, 1) := by decide +kernel
theorem dX6_read_12 : decode cX6_read 12 = .ok (.getfield 17, 3) := by decide +kernel
theorem dX6_read_15 : decode cX6_read 15 = .ok (.iload_n 1, 1) := by decide +kernel
theorem dX6_read_16 : decode cX6_read 16 = .ok (.iaload, 1) := by decide +kernel
theorem dX6_read_17 : decode cX6_read 17 = .ok (.if_icmp .ge 21, 3) := by decide +kernel
theorem dX6_read_20 : decode cX6_read 20 = .ok (.aload_n 0, 1) := by decide +kernel
theorem dX6_read_21 : decode cX6_read 21 = .ok (.getfield 20, 3) := by decide +kernel
theorem dX6_read_24 : decode cX6_read 24 = .ok (.bipush 20, 2) := by decide +kernel
theorem dX6_read_26 : decode cX6_read 26 = .ok (.iload_n 1, 1) := by decide +kernel
theorem dX6_read_27 : decode cX6_read 27 = .ok (.imul, 1) := by decide +kernel
theorem dX6_read_28 : decode cX6_read 28 = .ok (.iload_n 3, 1) := by decide +kernel
theorem dX6_read_29 : decode cX6_read 29 = .ok (.iadd, 1) := by decide +kernel
theorem dX6_read_30 : decode cX6_read 30 = .ok (.iaload, 1) := by decide +kernel
theorem dX6_read_31 : decode cX6_read 31 = .ok (.i2l, 1) := by decide +kernel
theorem dX6_read_32 : decode cX6_read 32 = .ok (.invokestatic 62, 3) := by decide +kernel
theorem dX6_read_35 : decode cX6_read 35 = .ok (.goto 4, 3) := by decide +kernel
theorem dX6_read_38 : decode cX6_read 38 = .ok (.iconst 0, 1) := by decide +kernel
theorem dX6_read_39 : decode cX6_read 39 = .ok (.iastore, 1) := by decide +kernel
theorem dX6_read_40 : decode cX6_read 40 = .ok (.iinc 3 1, 3) := by decide +kernel
theorem dX6_read_43 : decode cX6_read 43 = .ok (.goto (-41), 3) := by decide +kernel
theorem dX6_read_46 : decode cX6_read 46 = .ok (.return_, 1) := by decide +kernel
theorem dX6_tells_0 : decode cX6_tells 0 = .ok (.aload_n 0, 1) := by decide +kernel
theorem dX6_tells_1 : decode cX6_tells 1 = .ok (.getfield 7, 3) := by decide +kernel
theorem dX6_tells_4 : decode cX6_tells 4 = .ok (.iload_n 2, 1) := by decide +kernel
theorem dX6_tells_5 : decode cX6_tells 5 = .ok (.iconst 1, 1) := by decide +kernel
theorem dX6_tells_6 : decode cX6_tells 6 = .ok (.bastore, 1) := by decide +kernel
theorem dX6_tells_7 : decode cX6_tells 7 = .ok (.aload_n 0, 1) := by decide +kernel
theorem dX6_tells_8 : decode cX6_tells 8 = .ok (.getfield 13, 3) := by decide +kernel
theorem dX6_tells_11 : decode cX6_tells 11 = .ok (.iload_n 2, 1) := by decide +kernel
theorem dX6_tells_12 : decode cX6_tells 12 = .ok (.iconst 2, 1) := by decide +kernel
theorem dX6_tells_13 : decode cX6_tells 13 = .ok (.iastore, 1) := by decide +kernel
theorem dX6_tells_14 : decode cX6_tells 14 = .ok (.aload_n 0, 1) := by decide +kernel
theorem dX6_tells_15 : decode cX6_tells 15 = .ok (.getfield 17, 3) := by decide +kernel
theorem dX6_tells_18 : decode cX6_tells 18 = .ok (.iload_n 2, 1) := by decide +kernel
theorem dX6_tells_19 : decode cX6_tells 19 = .ok (.bipush 10, 2) := by decide +kernel
theorem dX6_tells_21 : decode cX6_tells 21 = .ok (.iastore, 1) := by decide +kernel
theorem dX6_tells_22 : decode cX6_tells 22 = .ok (.iconst 0, 1) := by decide +kernel
theorem dX6_tells_23 : decode cX6_tells 23 = .ok (.istore_n 3, 1) := by decide +kernel
theorem dX6_tells_24 : decode cX6_tells 24 = .ok (.iload_n 3, 1) := by decide +kernel
theorem dX6_tells_25 : decode cX6_tells 25 = .ok (.bipush 20, 2) := by decide +kernel
theorem dX6_tells_27 : decode cX6_tells 27 = .ok (.if_icmp .ge 33, 3) := by decide +kernel
theorem dX6_tells_30 : decode cX6_tells 30 = .ok (.aload_n 0, 1) := by decide +kernel
theorem dX6_tells_31 : decode cX6_tells 31 = .ok (.getfield 20, 3) := by decide +kernel
theorem dX6_tells_34 : decode cX6_tells 34 = .ok (.bipush 20, 2) := by decide +kernel
theorem dX6_tells_36 : decode cX6_tells 36 = .ok (.iload_n 2, 1) := by decide +kernel
theorem dX6_tells_37 : decode cX6_tells 37 = .ok (.imul, 1) := by decide +kernel
theorem dX6_tells_38 : decode cX6_tells 38 = .ok (.iload_n 3, 1) := by decide +kernel
theorem dX6_tells_39 : decode cX6_tells 39 = .ok (.iadd, 1) := by decide +kernel
theorem dX6_tells_40 : decode cX6_tells 40 = .ok (.iload_n 3, 1) := by decide +kernel
theorem dX6_tells_41 : decode cX6_tells 41 = .ok (.bipush 10, 2) := by decide +kernel
theorem dX6_tells_43 : decode cX6_tells 43 = .ok (.if_icmp .ge 9, 3) := by decide +kernel
theorem dX6_tells_46 : decode cX6_tells 46 = .ok (.aload_n 1, 1) := by decide +kernel
theorem dX6_tells_47 : decode cX6_tells 47 = .ok (.iload_n 3, 1) := by decide +kernel
theorem dX6_tells_48 : decode cX6_tells 48 = .ok (.iaload, 1) := by decide +kernel
theorem dX6_tells_49 : decode cX6_tells 49 = .ok (.goto 4, 3) := by decide +kernel
theorem dX6_tells_52 : decode cX6_tells 52 = .ok (.iconst 0, 1) := by decide +kernel
theorem dX6_tells_53 : decode cX6_tells 53 = .ok (.iastore, 1) := by decide +kernel
theorem dX6_tells_54 : decode cX6_tells 54 = .ok (.iinc 3 1, 3) := by decide +kernel
theorem dX6_tells_57 : decode cX6_tells 57 = .ok (.goto (-33), 3) := by decide +kernel
theorem dX6_tells_60 : decode cX6_tells 60 = .ok (.aload_n 1, 1) := by decide +kernel
theorem dX6_tells_61 : decode cX6_tells 61 = .ok (.bipush 9, 2) := by decide +kernel
theorem dX6_tells_63 : decode cX6_tells 63 = .ok (.iaload, 1) := by decide +kernel
theorem dX6_tells_64 : decode cX6_tells 64 = .ok (.ireturn, 1) := by decide +kernel
theorem dX6_set_0 : decode cX6_set 0 = .ok (.iconst 0, 1) := by decide +kernel
theorem dX6_set_1 : decode cX6_set 1 = .ok (.istore_n 2, 1) := by decide +kernel
theorem dX6_set_2 : decode cX6_set 2 = .ok (.iload_n 2, 1) := by decide +kernel
theorem dX6_set_3 : decode cX6_set 3 = .ok (.bipush 10, 2) := by decide +kernel
theorem dX6_set_5 : decode cX6_set 5 = .ok (.if_icmp .ge 15, 3) := by decide +kernel
theorem dX6_set_8 : decode cX6_set 8 = .ok (.aload_n 1, 1) := by decide +kernel
theorem dX6_set_9 : decode cX6_set 9 = .ok (.iload_n 2, 1) := by decide +kernel
theorem dX6_set_10 : decode cX6_set 10 = .ok (.aload_n 0, 1) := by decide +kernel
theorem dX6_set_11 : decode cX6_set 11 = .ok (.iload_n 2, 1) := by decide +kernel
theorem dX6_set_12 : decode cX6_set 12 = .ok (.iaload, 1) := by decide +kernel
theorem dX6_set_13 : decode cX6_set 13 = .ok (.iastore, 1) := by decide +kernel
theorem dX6_set_14 : decode cX6_set 14 = .ok (.iinc 2 1, 3) := by decide +kernel
theorem dX6_set_17 : decode cX6_set 17 = .ok (.goto (-15), 3) := by decide +kernel
theorem dX6_set_20 : decode cX6_set 20 = .ok (.return_, 1) := by decide +kernel
theorem dX6_times_0 : decode cX6_times 0 = .ok (.iconst 0, 1) := by decide +kernel
theorem dX6_times_1 : decode cX6_times 1 = .ok (.istore_n 3, 1) := by decide +kernel
theorem dX6_times_2 : decode cX6_times 2 = .ok (.iload_n 3, 1) := by decide +kernel
theorem dX6_times_3 : decode cX6_times 3 = .ok (.bipush 10, 2) := by decide +kernel
theorem dX6_times_5 : decode cX6_times 5 = .ok (.if_icmp .ge 53, 3) := by decide +kernel
theorem dX6_times_8 : decode cX6_times 8 = .ok (.lconst 0, 1) := by decide +kernel
theorem dX6_times_9 : decode cX6_times 9 = .ok (.lstore 4, 2) := by decide +kernel
theorem dX6_times_11 : decode cX6_times 11 = .ok (.iconst 0, 1) := by decide +kernel
theorem dX6_times_12 : decode cX6_times 12 = .ok (.istore 6, 2) := by decide +kernel
theorem dX6_times_14 : decode cX6_times 14 = .ok (.iload 6, 2) := by decide +kernel
theorem dX6_times_16 : decode cX6_times 16 = .ok (.iload_n 3, 1) := by decide +kernel
theorem dX6_times_17 : decode cX6_times 17 = .ok (.if_icmp .gt 27, 3) := by decide +kernel
theorem dX6_times_20 : decode cX6_times 20 = .ok (.lload 4, 2) := by decide +kernel
theorem dX6_times_22 : decode cX6_times 22 = .ok (.aload_n 0, 1) := by decide +kernel
theorem dX6_times_23 : decode cX6_times 23 = .ok (.iload 6, 2) := by decide +kernel
theorem dX6_times_25 : decode cX6_times 25 = .ok (.iaload, 1) := by decide +kernel
theorem dX6_times_26 : decode cX6_times 26 = .ok (.i2l, 1) := by decide +kernel
theorem dX6_times_27 : decode cX6_times 27 = .ok (.aload_n 1, 1) := by decide +kernel
theorem dX6_times_28 : decode cX6_times 28 = .ok (.iload_n 3, 1) := by decide +kernel
theorem dX6_times_29 : decode cX6_times 29 = .ok (.iload 6, 2) := by decide +kernel
theorem dX6_times_31 : decode cX6_times 31 = .ok (.isub, 1) := by decide +kernel
theorem dX6_times_32 : decode cX6_times 32 = .ok (.iaload, 1) := by decide +kernel
theorem dX6_times_33 : decode cX6_times 33 = .ok (.i2l, 1) := by decide +kernel
theorem dX6_times_34 : decode cX6_times 34 = .ok (.lmul, 1) := by decide +kernel
theorem dX6_times_35 : decode cX6_times 35 = .ok (.ladd, 1) := by decide +kernel
theorem dX6_times_36 : decode cX6_times 36 = .ok (.lstore 4, 2) := by decide +kernel
theorem dX6_times_38 : decode cX6_times 38 = .ok (.iinc 6 1, 3) := by decide +kernel
theorem dX6_times_41 : decode cX6_times 41 = .ok (.goto (-27), 3) := by decide +kernel
theorem dX6_times_44 : decode cX6_times 44 = .ok (.aload_n 2, 1) := by decide +kernel
theorem dX6_times_45 : decode cX6_times 45 = .ok (.iload_n 3, 1) := by decide +kernel
theorem dX6_times_46 : decode cX6_times 46 = .ok (.lload 4, 2) := by decide +kernel
theorem dX6_times_48 : decode cX6_times 48 = .ok (.invokestatic 62, 3) := by decide +kernel
theorem dX6_times_51 : decode cX6_times 51 = .ok (.iastore, 1) := by decide +kernel
theorem dX6_times_52 : decode cX6_times 52 = .ok (.iinc 3 1, 3) := by decide +kernel
theorem dX6_times_55 : decode cX6_times 55 = .ok (.goto (-53), 3) := by decide +kernel
theorem dX6_times_58 : decode cX6_times 58 = .ok (.return_, 1) := by decide +kernel
theorem dX6_by_0 : decode cX6_by 0 = .ok (.aload_n 1, 1) := by decide +kernel
theorem dX6_by_1 : decode cX6_by 1 = .ok (.iconst 0, 1) := by decide +kernel
theorem dX6_by_2 : decode cX6_by 2 = .ok (.iaload, 1) := by decide +kernel
theorem dX6_by_3 : decode cX6_by 3 = .ok (.invokestatic 87, 3) := by decide +kernel
theorem dX6_by_6 : decode cX6_by 6 = .ok (.istore_n 3, 1) := by decide +kernel
theorem dX6_by_7 : decode cX6_by 7 = .ok (.iconst 0, 1) := by decide +kernel
theorem dX6_by_8 : decode cX6_by 8 = .ok (.istore 4, 2) := by decide +kernel
theorem dX6_by_10 : decode cX6_by 10 = .ok (.iload 4, 2) := by decide +kernel
theorem dX6_by_12 : decode cX6_by 12 = .ok (.bipush 10, 2) := by decide +kernel
theorem dX6_by_14 : decode cX6_by 14 = .ok (.if_icmp .ge 67, 3) := by decide +kernel
theorem dX6_by_17 : decode cX6_by 17 = .ok (.aload_n 0, 1) := by decide +kernel
theorem dX6_by_18 : decode cX6_by 18 = .ok (.iload 4, 2) := by decide +kernel
theorem dX6_by_20 : decode cX6_by 20 = .ok (.iaload, 1) := by decide +kernel
theorem dX6_by_21 : decode cX6_by 21 = .ok (.i2l, 1) := by decide +kernel
theorem dX6_by_22 : decode cX6_by 22 = .ok (.lstore 5, 2) := by decide +kernel
theorem dX6_by_24 : decode cX6_by 24 = .ok (.iconst 0, 1) := by decide +kernel
theorem dX6_by_25 : decode cX6_by 25 = .ok (.istore 7, 2) := by decide +kernel
theorem dX6_by_27 : decode cX6_by 27 = .ok (.iload 7, 2) := by decide +kernel
theorem dX6_by_29 : decode cX6_by 29 = .ok (.iload 4, 2) := by decide +kernel
theorem dX6_by_31 : decode cX6_by 31 = .ok (.if_icmp .ge 28, 3) := by decide +kernel
theorem dX6_by_34 : decode cX6_by 34 = .ok (.lload 5, 2) := by decide +kernel
theorem dX6_by_36 : decode cX6_by 36 = .ok (.aload_n 2, 1) := by decide +kernel
theorem dX6_by_37 : decode cX6_by 37 = .ok (.iload 7, 2) := by decide +kernel
theorem dX6_by_39 : decode cX6_by 39 = .ok (.iaload, 1) := by decide +kernel
theorem dX6_by_40 : decode cX6_by 40 = .ok (.i2l, 1) := by decide +kernel
theorem dX6_by_41 : decode cX6_by 41 = .ok (.aload_n 1, 1) := by decide +kernel
theorem dX6_by_42 : decode cX6_by 42 = .ok (.iload 4, 2) := by decide +kernel
theorem dX6_by_44 : decode cX6_by 44 = .ok (.iload 7, 2) := by decide +kernel
theorem dX6_by_46 : decode cX6_by 46 = .ok (.isub, 1) := by decide +kernel
theorem dX6_by_47 : decode cX6_by 47 = .ok (.iaload, 1) := by decide +kernel
theorem dX6_by_48 : decode cX6_by 48 = .ok (.i2l, 1) := by decide +kernel
theorem dX6_by_49 : decode cX6_by 49 = .ok (.lmul, 1) := by decide +kernel
theorem dX6_by_50 : decode cX6_by 50 = .ok (.lsub, 1) := by decide +kernel
theorem dX6_by_51 : decode cX6_by 51 = .ok (.lstore 5, 2) := by decide +kernel
theorem dX6_by_53 : decode cX6_by 53 = .ok (.iinc 7 1, 3) := by decide +kernel
theorem dX6_by_56 : decode cX6_by 56 = .ok (.goto (-29), 3) := by decide +kernel
theorem dX6_by_59 : decode cX6_by 59 = .ok (.aload_n 2, 1) := by decide +kernel
theorem dX6_by_60 : decode cX6_by 60 = .ok (.iload 4, 2) := by decide +kernel
theorem dX6_by_62 : decode cX6_by 62 = .ok (.lload 5, 2) := by decide +kernel
theorem dX6_by_64 : decode cX6_by 64 = .ok (.invokestatic 62, 3) := by decide +kernel
theorem dX6_by_67 : decode cX6_by 67 = .ok (.i2l, 1) := by decide +kernel
theorem dX6_by_68 : decode cX6_by 68 = .ok (.iload_n 3, 1) := by decide +kernel
theorem dX6_by_69 : decode cX6_by 69 = .ok (.i2l, 1) := by decide +kernel
theorem dX6_by_70 : decode cX6_by 70 = .ok (.lmul, 1) := by decide +kernel
theorem dX6_by_71 : decode cX6_by 71 = .ok (.invokestatic 62, 3) := by decide +kernel
theorem dX6_by_74 : decode cX6_by 74 = .ok (.iastore, 1) := by decide +kernel
theorem dX6_by_75 : decode cX6_by 75 = .ok (.iinc 4 1, 3) := by decide +kernel
theorem dX6_by_78 : decode cX6_by 78 = .ok (.goto (-68), 3) := by decide +kernel
theorem dX6_by_81 : decode cX6_by 81 = .ok (.return_, 1) := by decide +kernel
theorem dX6_one_0 : decode cX6_one 0 = .ok (.iconst 0, 1) := by decide +kernel
theorem dX6_one_1 : decode cX6_one 1 = .ok (.istore_n 1, 1) := by decide +kernel
theorem dX6_one_2 : decode cX6_one 2 = .ok (.iload_n 1, 1) := by decide +kernel
theorem dX6_one_3 : decode cX6_one 3 = .ok (.bipush 10, 2) := by decide +kernel
theorem dX6_one_5 : decode cX6_one 5 = .ok (.if_icmp .ge 21, 3) := by decide +kernel
theorem dX6_one_8 : decode cX6_one 8 = .ok (.aload_n 0, 1) := by decide +kernel
theorem dX6_one_9 : decode cX6_one 9 = .ok (.iload_n 1, 1) := by decide +kernel
theorem dX6_one_10 : decode cX6_one 10 = .ok (.iload_n 1, 1) := by decide +kernel
theorem dX6_one_11 : decode cX6_one 11 = .ok (.ifCond .ne 7, 3) := by decide +kernel
theorem dX6_one_14 : decode cX6_one 14 = .ok (.iconst 1, 1) := by decide +kernel
theorem dX6_one_15 : decode cX6_one 15 = .ok (.goto 4, 3) := by decide +kernel
theorem dX6_one_18 : decode cX6_one 18 = .ok (.iconst 0, 1) := by decide +kernel
theorem dX6_one_19 : decode cX6_one 19 = .ok (.iastore, 1) := by decide +kernel
theorem dX6_one_20 : decode cX6_one 20 = .ok (.iinc 1 1, 3) := by decide +kernel
theorem dX6_one_23 : decode cX6_one 23 = .ok (.goto (-21), 3) := by decide +kernel
theorem dX6_one_26 : decode cX6_one 26 = .ok (.return_, 1) := by decide +kernel
theorem dX6_puts_0 : decode cX6_puts 0 = .ok (.aload_n 0, 1) := by decide +kernel
theorem dX6_puts_1 : decode cX6_puts 1 = .ok (.getfield 44, 3) := by decide +kernel
theorem dX6_puts_4 : decode cX6_puts 4 = .ok (.invokestatic 90, 3) := by decide +kernel
theorem dX6_puts_7 : decode cX6_puts 7 = .ok (.iconst 0, 1) := by decide +kernel
theorem dX6_puts_8 : decode cX6_puts 8 = .ok (.istore 4, 2) := by decide +kernel
theorem dX6_puts_10 : decode cX6_puts 10 = .ok (.iload 4, 2) := by decide +kernel
theorem dX6_puts_12 : decode cX6_puts 12 = .ok (.bipush 10, 2) := by decide +kernel
theorem dX6_puts_14 : decode cX6_puts 14 = .ok (.if_icmp .ge 17, 3) := by decide +kernel
theorem dX6_puts_17 : decode cX6_puts 17 = .ok (.aload_n 0, 1) := by decide +kernel
theorem dX6_puts_18 : decode cX6_puts 18 = .ok (.getfield 47, 3) := by decide +kernel
theorem dX6_puts_21 : decode cX6_puts 21 = .ok (.iload 4, 2) := by decide +kernel
theorem dX6_puts_23 : decode cX6_puts 23 = .ok (.iconst 0, 1) := by decide +kernel
theorem dX6_puts_24 : decode cX6_puts 24 = .ok (.iastore, 1) := by decide +kernel
theorem dX6_puts_25 : decode cX6_puts 25 = .ok (.iinc 4 1, 3) := by decide +kernel
theorem dX6_puts_28 : decode cX6_puts 28 = .ok (.goto (-18), 3) := by decide +kernel
theorem dX6_puts_31 : decode cX6_puts 31 = .ok (.iconst 0, 1) := by decide +kernel
theorem dX6_puts_32 : decode cX6_puts 32 = .ok (.istore 4, 2) := by decide +kernel
theorem dX6_puts_34 : decode cX6_puts 34 = .ok (.iload 4, 2) := by decide +kernel
theorem dX6_puts_36 : decode cX6_puts 36 = .ok (.bipush 10, 2) := by decide +kernel
theorem dX6_puts_38 : decode cX6_puts 38 = .ok (.if_icmp .ge 81, 3) := by decide +kernel
theorem dX6_puts_41 : decode cX6_puts 41 = .ok (.iconst 0, 1) := by decide +kernel
theorem dX6_puts_42 : decode cX6_puts 42 = .ok (.istore 5, 2) := by decide +kernel
theorem dX6_puts_44 : decode cX6_puts 44 = .ok (.iload 5, 2) := by decide +kernel
theorem dX6_puts_46 : decode cX6_puts 46 = .ok (.bipush 10, 2) := by decide +kernel
theorem dX6_puts_48 : decode cX6_puts 48 = .ok (.if_icmp .ge 42, 3) := by decide +kernel
theorem dX6_puts_51 : decode cX6_puts 51 = .ok (.aload_n 0, 1) := by decide +kernel
theorem dX6_puts_52 : decode cX6_puts 52 = .ok (.getfield 47, 3) := by decide +kernel
theorem dX6_puts_55 : decode cX6_puts 55 = .ok (.iload 5, 2) := by decide +kernel
theorem dX6_puts_57 : decode cX6_puts 57 = .ok (.aload_n 0, 1) := by decide +kernel
theorem dX6_puts_58 : decode cX6_puts 58 = .ok (.getfield 47, 3) := by decide +kernel
theorem dX6_puts_61 : decode cX6_puts 61 = .ok (.iload 5, 2) := by decide +kernel
theorem dX6_puts_63 : decode cX6_puts 63 = .ok (.iaload, 1) := by decide +kernel
theorem dX6_puts_64 : decode cX6_puts 64 = .ok (.i2l, 1) := by decide +kernel
theorem dX6_puts_65 : decode cX6_puts 65 = .ok (.aload_n 1, 1) := by decide +kernel
theorem dX6_puts_66 : decode cX6_puts 66 = .ok (.iload 4, 2) := by decide +kernel
theorem dX6_puts_68 : decode cX6_puts 68 = .ok (.iaload, 1) := by decide +kernel
theorem dX6_puts_69 : decode cX6_puts 69 = .ok (.i2l, 1) := by decide +kernel
theorem dX6_puts_70 : decode cX6_puts 70 = .ok (.aload_n 0, 1) := by decide +kernel
theorem dX6_puts_71 : decode cX6_puts 71 = .ok (.getfield 44, 3) := by decide +kernel
theorem dX6_puts_74 : decode cX6_puts 74 = .ok (.iload 5, 2) := by decide +kernel
theorem dX6_puts_76 : decode cX6_puts 76 = .ok (.iaload, 1) := by decide +kernel
theorem dX6_puts_77 : decode cX6_puts 77 = .ok (.i2l, 1) := by decide +kernel
theorem dX6_puts_78 : decode cX6_puts 78 = .ok (.lmul, 1) := by decide +kernel
theorem dX6_puts_79 : decode cX6_puts 79 = .ok (.ladd, 1) := by decide +kernel
theorem dX6_puts_80 : decode cX6_puts 80 = .ok (.invokestatic 62, 3) := by decide +kernel
theorem dX6_puts_83 : decode cX6_puts 83 = .ok (.iastore, 1) := by decide +kernel
theorem dX6_puts_84 : decode cX6_puts 84 = .ok (.iinc 5 1, 3) := by decide +kernel
theorem dX6_puts_87 : decode cX6_puts 87 = .ok (.goto (-43), 3) := by decide +kernel
theorem dX6_puts_90 : decode cX6_puts 90 = .ok (.aload_n 0, 1) := by decide +kernel
theorem dX6_puts_91 : decode cX6_puts 91 = .ok (.getfield 44, 3) := by decide +kernel
theorem dX6_puts_94 : decode cX6_puts 94 = .ok (.aload_n 2, 1) := by decide +kernel
theorem dX6_puts_95 : decode cX6_puts 95 = .ok (.aload_n 0, 1) := by decide +kernel
theorem dX6_puts_96 : decode cX6_puts 96 = .ok (.getfield 41, 3) := by decide +kernel
theorem dX6_puts_99 : decode cX6_puts 99 = .ok (.invokestatic 94, 3) := by decide +kernel
theorem dX6_puts_102 : decode cX6_puts 102 = .ok (.aload_n 0, 1) := by decide +kernel
theorem dX6_puts_103 : decode cX6_puts 103 = .ok (.getfield 41, 3) := by decide +kernel
theorem dX6_puts_106 : decode cX6_puts 106 = .ok (.aload_n 0, 1) := by decide +kernel
theorem dX6_puts_107 : decode cX6_puts 107 = .ok (.getfield 44, 3) := by decide +kernel
theorem dX6_puts_110 : decode cX6_puts 110 = .ok (.invokestatic 98, 3) := by decide +kernel
theorem dX6_puts_113 : decode cX6_puts 113 = .ok (.iinc 4 1, 3) := by decide +kernel
theorem dX6_puts_116 : decode cX6_puts 116 = .ok (.goto (-82), 3) := by decide +kernel
theorem dX6_puts_119 : decode cX6_puts 119 = .ok (.aload_n 0, 1) := by decide +kernel
theorem dX6_puts_120 : decode cX6_puts 120 = .ok (.getfield 47, 3) := by decide +kernel
theorem dX6_puts_123 : decode cX6_puts 123 = .ok (.aload_n 3, 1) := by decide +kernel
theorem dX6_puts_124 : decode cX6_puts 124 = .ok (.invokestatic 98, 3) := by decide +kernel
theorem dX6_puts_127 : decode cX6_puts 127 = .ok (.return_, 1) := by decide +kernel
theorem dX6_canTurn_0 : decode cX6_canTurn 0 = .ok (.aload_n 0, 1) := by decide +kernel
theorem dX6_canTurn_1 : decode cX6_canTurn 1 = .ok (.iconst 0, 1) := by decide +kernel
theorem dX6_canTurn_2 : decode cX6_canTurn 2 = .ok (.iaload, 1) := by decide +kernel
theorem dX6_canTurn_3 : decode cX6_canTurn 3 = .ok (.ifCond .ne 13, 3) := by decide +kernel
theorem dX6_canTurn_6 : decode cX6_canTurn 6 = .ok (.aload_n 0, 1) := by decide +kernel
theorem dX6_canTurn_7 : decode cX6_canTurn 7 = .ok (.iconst 1, 1) := by decide +kernel
theorem dX6_canTurn_8 : decode cX6_canTurn 8 = .ok (.iaload, 1) := by decide +kernel
theorem dX6_canTurn_9 : decode cX6_canTurn 9 = .ok (.ifCond .eq 7, 3) := by decide +kernel
theorem dX6_canTurn_12 : decode cX6_canTurn 12 = .ok (.iconst 1, 1) := by decide +kernel
theorem dX6_canTurn_13 : decode cX6_canTurn 13 = .ok (.goto 4, 3) := by decide +kernel
theorem dX6_canTurn_16 : decode cX6_canTurn 16 = .ok (.iconst 0, 1) := by decide +kernel
theorem dX6_canTurn_17 : decode cX6_canTurn 17 = .ok (.ireturn, 1) := by decide +kernel
theorem dX6_turns_0 : decode cX6_turns 0 = .ok (.iconst 0, 1) := by decide +kernel
theorem dX6_turns_1 : decode cX6_turns 1 = .ok (.istore_n 3, 1) := by decide +kernel
theorem dX6_turns_2 : decode cX6_turns 2 = .ok (.iload_n 3, 1) := by decide +kernel
theorem dX6_turns_3 : decode cX6_turns 3 = .ok (.bipush 10, 2) := by decide +kernel
theorem dX6_turns_5 : decode cX6_turns 5 = .ok (.if_icmp .ge 13, 3) := by decide +kernel
theorem dX6_turns_8 : decode cX6_turns 8 = .ok (.aload_n 2, 1) := by decide +kernel
theorem dX6_turns_9 : decode cX6_turns 9 = .ok (.iload_n 3, 1) := by decide +kernel
theorem dX6_turns_10 : decode cX6_turns 10 = .ok (.iconst 0, 1) := by decide +kernel
theorem dX6_turns_11 : decode cX6_turns 11 = .ok (.iastore, 1) := by decide +kernel
theorem dX6_turns_12 : decode cX6_turns 12 = .ok (.iinc 3 1, 3) := by decide +kernel
theorem dX6_turns_15 : decode cX6_turns 15 = .ok (.goto (-13), 3) := by decide +kernel
theorem dX6_turns_18 : decode cX6_turns 18 = .ok (.aload_n 1, 1) := by decide +kernel
theorem dX6_turns_19 : decode cX6_turns 19 = .ok (.iconst 1, 1) := by decide +kernel
theorem dX6_turns_20 : decode cX6_turns 20 = .ok (.iaload, 1) := by decide +kernel
theorem dX6_turns_21 : decode cX6_turns 21 = .ok (.invokestatic 87, 3) := by decide +kernel
theorem dX6_turns_24 : decode cX6_turns 24 = .ok (.istore_n 3, 1) := by decide +kernel
theorem dX6_turns_25 : decode cX6_turns 25 = .ok (.iconst 1, 1) := by decide +kernel
theorem dX6_turns_26 : decode cX6_turns 26 = .ok (.istore 4, 2) := by decide +kernel
theorem dX6_turns_28 : decode cX6_turns 28 = .ok (.iload 4, 2) := by decide +kernel
theorem dX6_turns_30 : decode cX6_turns 30 = .ok (.bipush 10, 2) := by decide +kernel
theorem dX6_turns_32 : decode cX6_turns 32 = .ok (.if_icmp .ge 57, 3) := by decide +kernel
theorem dX6_turns_35 : decode cX6_turns 35 = .ok (.aload_n 0, 1) := by decide +kernel
theorem dX6_turns_36 : decode cX6_turns 36 = .ok (.aload_n 1, 1) := by decide +kernel
theorem dX6_turns_37 : decode cX6_turns 37 = .ok (.aload_n 2, 1) := by decide +kernel
theorem dX6_turns_38 : decode cX6_turns 38 = .ok (.aload_n 0, 1) := by decide +kernel
theorem dX6_turns_39 : decode cX6_turns 39 = .ok (.getfield 38, 3) := by decide +kernel
theorem dX6_turns_42 : decode cX6_turns 42 = .ok (.invokevirtual 102, 3) := by decide +kernel
theorem dX6_turns_45 : decode cX6_turns 45 = .ok (.iload 4, 2) := by decide +kernel
theorem dX6_turns_47 : decode cX6_turns 47 = .ok (.iconst 1, 1) := by decide +kernel
theorem dX6_turns_48 : decode cX6_turns 48 = .ok (.if_icmp .ne 7, 3) := by decide +kernel
theorem dX6_turns_51 : decode cX6_turns 51 = .ok (.iconst 1, 1) := by decide +kernel
theorem dX6_turns_52 : decode cX6_turns 52 = .ok (.goto 4, 3) := by decide +kernel
theorem dX6_turns_55 : decode cX6_turns 55 = .ok (.iconst 0, 1) := by decide +kernel
theorem dX6_turns_56 : decode cX6_turns 56 = .ok (.aload_n 0, 1) := by decide +kernel
theorem dX6_turns_57 : decode cX6_turns 57 = .ok (.getfield 38, 3) := by decide +kernel
theorem dX6_turns_60 : decode cX6_turns 60 = .ok (.iload 4, 2) := by decide +kernel
theorem dX6_turns_62 : decode cX6_turns 62 = .ok (.iaload, 1) := by decide +kernel
theorem dX6_turns_63 : decode cX6_turns 63 = .ok (.isub, 1) := by decide +kernel
theorem dX6_turns_64 : decode cX6_turns 64 = .ok (.i2l, 1) := by decide +kernel
theorem dX6_turns_65 : decode cX6_turns 65 = .ok (.invokestatic 62, 3) := by decide +kernel
theorem dX6_turns_68 : decode cX6_turns 68 = .ok (.istore 5, 2) := by decide +kernel
theorem dX6_turns_70 : decode cX6_turns 70 = .ok (.aload_n 2, 1) := by decide +kernel
theorem dX6_turns_71 : decode cX6_turns 71 = .ok (.iload 4, 2) := by decide +kernel
theorem dX6_turns_73 : decode cX6_turns 73 = .ok (.iload 5, 2) := by decide +kernel
theorem dX6_turns_75 : decode cX6_turns 75 = .ok (.i2l, 1) := by decide +kernel
theorem dX6_turns_76 : decode cX6_turns 76 = .ok (.iload_n 3, 1) := by decide +kernel
theorem dX6_turns_77 : decode cX6_turns 77 = .ok (.i2l, 1) := by decide +kernel
theorem dX6_turns_78 : decode cX6_turns 78 = .ok (.lmul, 1) := by decide +kernel
theorem dX6_turns_79 : decode cX6_turns 79 = .ok (.invokestatic 62, 3) := by decide +kernel
theorem dX6_turns_82 : decode cX6_turns 82 = .ok (.iastore, 1) := by decide +kernel
theorem dX6_turns_83 : decode cX6_turns 83 = .ok (.iinc 4 1, 3) := by decide +kernel
theorem dX6_turns_86 : decode cX6_turns 86 = .ok (.goto (-58), 3) := by decide +kernel
theorem dX6_turns_89 : decode cX6_turns 89 = .ok (.return_, 1) := by decide +kernel
theorem dX6_term_0 : decode cX6_term 0 = .ok (.iload_n 1, 1) := by decide +kernel
theorem dX6_term_1 : decode cX6_term 1 = .ok (.invokestatic 74, 3) := by decide +kernel
theorem dX6_term_4 : decode cX6_term 4 = .ok (.ifCond .eq 13, 3) := by decide +kernel
theorem dX6_term_7 : decode cX6_term 7 = .ok (.iload_n 2, 1) := by decide +kernel
theorem dX6_term_8 : decode cX6_term 8 = .ok (.iconst 0, 1) := by decide +kernel
theorem dX6_term_9 : decode cX6_term 9 = .ok (.bipush 9, 2) := by decide +kernel
theorem dX6_term_11 : decode cX6_term 11 = .ok (.invokestatic 70, 3) := by decide +kernel
theorem dX6_term_14 : decode cX6_term 14 = .ok (.ifCond .ne 6, 3) := by decide +kernel
theorem dX6_term_17 : decode cX6_term 17 = .ok (.bipush (-2), 2) := by decide +kernel
theorem dX6_term_19 : decode cX6_term 19 = .ok (.ireturn, 1) := by decide +kernel
theorem dX6_term_20 : decode cX6_term 20 = .ok (.aload_n 0, 1) := by decide +kernel
theorem dX6_term_21 : decode cX6_term 21 = .ok (.getfield 7, 3) := by decide +kernel
theorem dX6_term_24 : decode cX6_term 24 = .ok (.iload_n 1, 1) := by decide +kernel
theorem dX6_term_25 : decode cX6_term 25 = .ok (.baload, 1) := by decide +kernel
theorem dX6_term_26 : decode cX6_term 26 = .ok (.ifCond .ne 9, 3) := by decide +kernel
theorem dX6_term_29 : decode cX6_term 29 = .ok (.aload_n 0, 1) := by decide +kernel
theorem dX6_term_30 : decode cX6_term 30 = .ok (.iconst 1, 1) := by decide +kernel
theorem dX6_term_31 : decode cX6_term 31 = .ok (.invokevirtual 78, 3) := by decide +kernel
theorem dX6_term_34 : decode cX6_term 34 = .ok (.ireturn, 1) := by decide +kernel
theorem dX6_term_35 : decode cX6_term 35 = .ok (.aload_n 0, 1) := by decide +kernel
theorem dX6_term_36 : decode cX6_term 36 = .ok (.iload_n 1, 1) := by decide +kernel
theorem dX6_term_37 : decode cX6_term 37 = .ok (.aload_n 0, 1) := by decide +kernel
theorem dX6_term_38 : decode cX6_term 38 = .ok (.getfield 26, 3) := by decide +kernel
theorem dX6_term_41 : decode cX6_term 41 = .ok (.invokevirtual 105, 3) := by decide +kernel
theorem dX6_term_44 : decode cX6_term 44 = .ok (.aload_n 0, 1) := by decide +kernel
theorem dX6_term_45 : decode cX6_term 45 = .ok (.getfield 26, 3) := by decide +kernel
theorem dX6_term_48 : decode cX6_term 48 = .ok (.iload_n 2, 1) := by decide +kernel
theorem dX6_term_49 : decode cX6_term 49 = .ok (.iaload, 1) := by decide +kernel
theorem dX6_term_50 : decode cX6_term 50 = .ok (.ireturn, 1) := by decide +kernel
theorem dX6_kind_0 : decode cX6_kind 0 = .ok (.iload_n 1, 1) := by decide +kernel
theorem dX6_kind_1 : decode cX6_kind 1 = .ok (.invokestatic 74, 3) := by decide +kernel
theorem dX6_kind_4 : decode cX6_kind 4 = .ok (.ifCond .eq 24, 3) := by decide +kernel
theorem dX6_kind_7 : decode cX6_kind 7 = .ok (.iload_n 2, 1) := by decide +kernel
theorem dX6_kind_8 : decode cX6_kind 8 = .ok (.iconst 0, 1) := by decide +kernel
theorem dX6_kind_9 : decode cX6_kind 9 = .ok (.bipush 7, 2) := by decide +kernel
theorem dX6_kind_11 : decode cX6_kind 11 = .ok (.invokestatic 70, 3) := by decide +kernel
theorem dX6_kind_14 : decode cX6_kind 14 = .ok (.ifCond .eq 14, 3) := by decide +kernel
theorem dX6_kind_17 : decode cX6_kind 17 = .ok (.iload_n 3, 1) := by decide +kernel
theorem dX6_kind_18 : decode cX6_kind 18 = .ok (.iconst 0, 1) := by decide +kernel
theorem dX6_kind_19 : decode cX6_kind 19 = .ok (.sipush 10006, 3) := by decide +kernel
theorem dX6_kind_22 : decode cX6_kind 22 = .ok (.invokestatic 70, 3) := by decide +kernel
theorem dX6_kind_25 : decode cX6_kind 25 = .ok (.ifCond .ne 6, 3) := by decide +kernel
theorem dX6_kind_28 : decode cX6_kind 28 = .ok (.bipush (-2), 2) := by decide +kernel
theorem dX6_kind_30 : decode cX6_kind 30 = .ok (.ireturn, 1) := by decide +kernel
theorem dX6_kind_31 : decode cX6_kind 31 = .ok (.iconst 0, 1) := by decide +kernel
theorem dX6_kind_32 : decode cX6_kind 32 = .ok (.istore 4, 2) := by decide +kernel
theorem dX6_kind_34 : decode cX6_kind 34 = .ok (.iload 4, 2) := by decide +kernel
theorem dX6_kind_36 : decode cX6_kind 36 = .ok (.bipush 10, 2) := by decide +kernel
theorem dX6_kind_38 : decode cX6_kind 38 = .ok (.if_icmp .ge 243, 3) := by decide +kernel
theorem dX6_kind_41 : decode cX6_kind 41 = .ok (.iload_n 3, 1) := by decide +kernel
theorem dX6_kind_42 : decode cX6_kind 42 = .ok (.iload 4, 2) := by decide +kernel
theorem dX6_kind_44 : decode cX6_kind 44 = .ok (.invokestatic 58, 3) := by decide +kernel
theorem dX6_kind_47 : decode cX6_kind 47 = .ok (.i2l, 1) := by decide +kernel
theorem dX6_kind_48 : decode cX6_kind 48 = .ok (.iload 4, 2) := by decide +kernel
theorem dX6_kind_50 : decode cX6_kind 50 = .ok (.invokestatic 109, 3) := by decide +kernel
theorem dX6_kind_53 : decode cX6_kind 53 = .ok (.invokestatic 87, 3) := by decide +kernel
theorem dX6_kind_56 : decode cX6_kind 56 = .ok (.i2l, 1) := by decide +kernel
theorem dX6_kind_57 : decode cX6_kind 57 = .ok (.lmul, 1) := by decide +kernel
theorem dX6_kind_58 : decode cX6_kind 58 = .ok (.invokestatic 62, 3) := by decide +kernel
theorem dX6_kind_61 : decode cX6_kind 61 = .ok (.istore 5, 2) := by decide +kernel
theorem dX6_kind_63 : decode cX6_kind 63 = .ok (.iload 4, 2) := by decide +kernel
theorem dX6_kind_65 : decode cX6_kind 65 = .ok (.ifCond .ne 7, 3) := by decide +kernel
theorem dX6_kind_68 : decode cX6_kind 68 = .ok (.iconst 0, 1) := by decide +kernel
theorem dX6_kind_69 : decode cX6_kind 69 = .ok (.goto 27, 3) := by decide +kernel
theorem dX6_kind_72 : decode cX6_kind 72 = .ok (.iload_n 3, 1) := by decide +kernel
theorem dX6_kind_73 : decode cX6_kind 73 = .ok (.iload 4, 2) := by decide +kernel
theorem dX6_kind_75 : decode cX6_kind 75 = .ok (.iconst 1, 1) := by decide +kernel
theorem dX6_kind_76 : decode cX6_kind 76 = .ok (.isub, 1) := by decide +kernel
theorem dX6_kind_77 : decode cX6_kind 77 = .ok (.invokestatic 58, 3) := by decide +kernel
theorem dX6_kind_80 : decode cX6_kind 80 = .ok (.i2l, 1) := by decide +kernel
theorem dX6_kind_81 : decode cX6_kind 81 = .ok (.iload 4, 2) := by decide +kernel
theorem dX6_kind_83 : decode cX6_kind 83 = .ok (.iconst 1, 1) := by decide +kernel
theorem dX6_kind_84 : decode cX6_kind 84 = .ok (.isub, 1) := by decide +kernel
theorem dX6_kind_85 : decode cX6_kind 85 = .ok (.invokestatic 109, 3) := by decide +kernel
theorem dX6_kind_88 : decode cX6_kind 88 = .ok (.invokestatic 87, 3) := by decide +kernel
theorem dX6_kind_91 : decode cX6_kind 91 = .ok (.i2l, 1) := by decide +kernel
theorem dX6_kind_92 : decode cX6_kind 92 = .ok (.lmul, 1) := by decide +kernel
theorem dX6_kind_93 : decode cX6_kind 93 = .ok (.invokestatic 62, 3) := by decide +kernel
theorem dX6_kind_96 : decode cX6_kind 96 = .ok (.istore 6, 2) := by decide +kernel
theorem dX6_kind_98 : decode cX6_kind 98 = .ok (.iload 4, 2) := by decide +kernel
theorem dX6_kind_100 : decode cX6_kind 100 = .ok (.ifCond .ne 7, 3) := by decide +kernel
theorem dX6_kind_103 : decode cX6_kind 103 = .ok (.iconst 0, 1) := by decide +kernel
theorem dX6_kind_104 : decode cX6_kind 104 = .ok (.goto 36, 3) := by decide +kernel
theorem dX6_kind_107 : decode cX6_kind 107 = .ok (.iload 4, 2) := by decide +kernel
theorem dX6_kind_109 : decode cX6_kind 109 = .ok (.iconst 2, 1) := by decide +kernel
theorem dX6_kind_110 : decode cX6_kind 110 = .ok (.irem, 1) := by decide +kernel
theorem dX6_kind_111 : decode cX6_kind 111 = .ok (.iconst 1, 1) := by decide +kernel
theorem dX6_kind_112 : decode cX6_kind 112 = .ok (.if_icmp .ne 7, 3) := by decide +kernel
theorem dX6_kind_115 : decode cX6_kind 115 = .ok (.lconst 1, 1) := by decide +kernel
theorem dX6_kind_116 : decode cX6_kind 116 = .ok (.goto 6, 3) := by decide +kernel
theorem dX6_kind_119 : decode cX6_kind 119 = .ok (.ldc2_w 112, 3) := by decide +kernel
theorem dX6_kind_122 : decode cX6_kind 122 = .ok (.iload_n 3, 1) := by decide +kernel
theorem dX6_kind_123 : decode cX6_kind 123 = .ok (.iload 4, 2) := by decide +kernel
theorem dX6_kind_125 : decode cX6_kind 125 = .ok (.invokestatic 58, 3) := by decide +kernel
theorem dX6_kind_128 : decode cX6_kind 128 = .ok (.i2l, 1) := by decide +kernel
theorem dX6_kind_129 : decode cX6_kind 129 = .ok (.lmul, 1) := by decide +kernel
theorem dX6_kind_130 : decode cX6_kind 130 = .ok (.iload 4, 2) := by decide +kernel
theorem dX6_kind_132 : decode cX6_kind 132 = .ok (.invokestatic 87, 3) := by decide +kernel
theorem dX6_kind_135 : decode cX6_kind 135 = .ok (.i2l, 1) := by decide +kernel
theorem dX6_kind_136 : decode cX6_kind 136 = .ok (.lmul, 1) := by decide +kernel
theorem dX6_kind_137 : decode cX6_kind 137 = .ok (.invokestatic 62, 3) := by decide +kernel
theorem dX6_kind_140 : decode cX6_kind 140 = .ok (.istore 7, 2) := by decide +kernel
theorem dX6_kind_142 : decode cX6_kind 142 = .ok (.iload 4, 2) := by decide +kernel
theorem dX6_kind_144 : decode cX6_kind 144 = .ok (.ifCond .ne 7, 3) := by decide +kernel
theorem dX6_kind_147 : decode cX6_kind 147 = .ok (.iconst 0, 1) := by decide +kernel
theorem dX6_kind_148 : decode cX6_kind 148 = .ok (.goto 16, 3) := by decide +kernel
theorem dX6_kind_151 : decode cX6_kind 151 = .ok (.iload_n 3, 1) := by decide +kernel
theorem dX6_kind_152 : decode cX6_kind 152 = .ok (.ineg, 1) := by decide +kernel
theorem dX6_kind_153 : decode cX6_kind 153 = .ok (.i2l, 1) := by decide +kernel
theorem dX6_kind_154 : decode cX6_kind 154 = .ok (.invokestatic 62, 3) := by decide +kernel
theorem dX6_kind_157 : decode cX6_kind 157 = .ok (.iload 4, 2) := by decide +kernel
theorem dX6_kind_159 : decode cX6_kind 159 = .ok (.iconst 1, 1) := by decide +kernel
theorem dX6_kind_160 : decode cX6_kind 160 = .ok (.isub, 1) := by decide +kernel
theorem dX6_kind_161 : decode cX6_kind 161 = .ok (.invokestatic 58, 3) := by decide +kernel
theorem dX6_kind_164 : decode cX6_kind 164 = .ok (.istore 8, 2) := by decide +kernel
theorem dX6_kind_166 : decode cX6_kind 166 = .ok (.aload_n 0, 1) := by decide +kernel
theorem dX6_kind_167 : decode cX6_kind 167 = .ok (.getfield 38, 3) := by decide +kernel
theorem dX6_kind_170 : decode cX6_kind 170 = .ok (.iload 4, 2) := by decide +kernel
theorem dX6_kind_172 : decode cX6_kind 172 = .ok (.iload_n 2, 1) := by decide +kernel
theorem dX6_kind_173 : decode cX6_kind 173 = .ok (.ifCond .ne 17, 3) := by decide +kernel
theorem dX6_kind_176 : decode cX6_kind 176 = .ok (.iload 4, 2) := by decide +kernel
theorem dX6_kind_178 : decode cX6_kind 178 = .ok (.iconst 1, 1) := by decide +kernel
theorem dX6_kind_179 : decode cX6_kind 179 = .ok (.if_icmp .ne 7, 3) := by decide +kernel
theorem dX6_kind_182 : decode cX6_kind 182 = .ok (.iconst 1, 1) := by decide +kernel
theorem dX6_kind_183 : decode cX6_kind 183 = .ok (.goto 91, 3) := by decide +kernel
theorem dX6_kind_186 : decode cX6_kind 186 = .ok (.iconst 0, 1) := by decide +kernel
theorem dX6_kind_187 : decode cX6_kind 187 = .ok (.goto 87, 3) := by decide +kernel
theorem dX6_kind_190 : decode cX6_kind 190 = .ok (.iload_n 2, 1) := by decide +kernel
theorem dX6_kind_191 : decode cX6_kind 191 = .ok (.iconst 1, 1) := by decide +kernel
theorem dX6_kind_192 : decode cX6_kind 192 = .ok (.if_icmp .ne 8, 3) := by decide +kernel
theorem dX6_kind_195 : decode cX6_kind 195 = .ok (.iload 5, 2) := by decide +kernel
theorem dX6_kind_197 : decode cX6_kind 197 = .ok (.goto 77, 3) := by decide +kernel
theorem dX6_kind_200 : decode cX6_kind 200 = .ok (.iload_n 2, 1) := by decide +kernel
theorem dX6_kind_201 : decode cX6_kind 201 = .ok (.iconst 2, 1) := by decide +kernel
theorem dX6_kind_202 : decode cX6_kind 202 = .ok (.if_icmp .ne 17, 3) := by decide +kernel
theorem dX6_kind_205 : decode cX6_kind 205 = .ok (.iload 4, 2) := by decide +kernel
theorem dX6_kind_207 : decode cX6_kind 207 = .ok (.ifCond .ne 7, 3) := by decide +kernel
theorem dX6_kind_210 : decode cX6_kind 210 = .ok (.iconst 0, 1) := by decide +kernel
theorem dX6_kind_211 : decode cX6_kind 211 = .ok (.goto 63, 3) := by decide +kernel
theorem dX6_kind_214 : decode cX6_kind 214 = .ok (.iload 5, 2) := by decide +kernel
theorem dX6_kind_216 : decode cX6_kind 216 = .ok (.goto 58, 3) := by decide +kernel
theorem dX6_kind_219 : decode cX6_kind 219 = .ok (.iload_n 2, 1) := by decide +kernel
theorem dX6_kind_220 : decode cX6_kind 220 = .ok (.iconst 3, 1) := by decide +kernel
theorem dX6_kind_221 : decode cX6_kind 221 = .ok (.if_icmp .ne 12, 3) := by decide +kernel
theorem dX6_kind_224 : decode cX6_kind 224 = .ok (.iload_n 3, 1) := by decide +kernel
theorem dX6_kind_225 : decode cX6_kind 225 = .ok (.iload 4, 2) := by decide +kernel
theorem dX6_kind_227 : decode cX6_kind 227 = .ok (.invokestatic 58, 3) := by decide +kernel
theorem dX6_kind_230 : decode cX6_kind 230 = .ok (.goto 44, 3) := by decide +kernel
theorem dX6_kind_233 : decode cX6_kind 233 = .ok (.iload_n 2, 1) := by decide +kernel
theorem dX6_kind_234 : decode cX6_kind 234 = .ok (.iconst 4, 1) := by decide +kernel
theorem dX6_kind_235 : decode cX6_kind 235 = .ok (.if_icmp .ne 8, 3) := by decide +kernel
theorem dX6_kind_238 : decode cX6_kind 238 = .ok (.iload 6, 2) := by decide +kernel
theorem dX6_kind_240 : decode cX6_kind 240 = .ok (.goto 34, 3) := by decide +kernel
theorem dX6_kind_243 : decode cX6_kind 243 = .ok (.iload_n 2, 1) := by decide +kernel
theorem dX6_kind_244 : decode cX6_kind 244 = .ok (.iconst 5, 1) := by decide +kernel
theorem dX6_kind_245 : decode cX6_kind 245 = .ok (.if_icmp .ne 8, 3) := by decide +kernel
theorem dX6_kind_248 : decode cX6_kind 248 = .ok (.iload 7, 2) := by decide +kernel
theorem dX6_kind_250 : decode cX6_kind 250 = .ok (.goto 24, 3) := by decide +kernel
theorem dX6_kind_253 : decode cX6_kind 253 = .ok (.iload_n 2, 1) := by decide +kernel
theorem dX6_kind_254 : decode cX6_kind 254 = .ok (.bipush 6, 2) := by decide +kernel
theorem dX6_kind_256 : decode cX6_kind 256 = .ok (.if_icmp .ne 8, 3) := by decide +kernel
theorem dX6_kind_259 : decode cX6_kind 259 = .ok (.iload 8, 2) := by decide +kernel
theorem dX6_kind_261 : decode cX6_kind 261 = .ok (.goto 13, 3) := by decide +kernel
theorem dX6_kind_264 : decode cX6_kind 264 = .ok (.iload 4, 2) := by decide +kernel
theorem dX6_kind_266 : decode cX6_kind 266 = .ok (.ifCond .ne 7, 3) := by decide +kernel
theorem dX6_kind_269 : decode cX6_kind 269 = .ok (.iload_n 3, 1) := by decide +kernel
theorem dX6_kind_270 : decode cX6_kind 270 = .ok (.goto 4, 3) := by decide +kernel
theorem dX6_kind_273 : decode cX6_kind 273 = .ok (.iconst 0, 1) := by decide +kernel
theorem dX6_kind_274 : decode cX6_kind 274 = .ok (.iastore, 1) := by decide +kernel
theorem dX6_kind_275 : decode cX6_kind 275 = .ok (.iinc 4 1, 3) := by decide +kernel
theorem dX6_kind_278 : decode cX6_kind 278 = .ok (.goto (-244), 3) := by decide +kernel
theorem dX6_kind_281 : decode cX6_kind 281 = .ok (.aload_n 0, 1) := by decide +kernel
theorem dX6_kind_282 : decode cX6_kind 282 = .ok (.aload_n 0, 1) := by decide +kernel
theorem dX6_kind_283 : decode cX6_kind 283 = .ok (.getfield 38, 3) := by decide +kernel
theorem dX6_kind_286 : decode cX6_kind 286 = .ok (.iload_n 1, 1) := by decide +kernel
theorem dX6_kind_287 : decode cX6_kind 287 = .ok (.invokevirtual 114, 3) := by decide +kernel
theorem dX6_kind_290 : decode cX6_kind 290 = .ok (.ireturn, 1) := by decide +kernel
theorem dX6_isLost_0 : decode cX6_isLost 0 = .ok (.aload_n 0, 1) := by decide +kernel
theorem dX6_isLost_1 : decode cX6_isLost 1 = .ok (.getfield 7, 3) := by decide +kernel
theorem dX6_isLost_4 : decode cX6_isLost 4 = .ok (.iload_n 1, 1) := by decide +kernel
theorem dX6_isLost_5 : decode cX6_isLost 5 = .ok (.baload, 1) := by decide +kernel
theorem dX6_isLost_6 : decode cX6_isLost 6 = .ok (.ifCond .eq 5, 3) := by decide +kernel
theorem dX6_isLost_9 : decode cX6_isLost 9 = .ok (.iconst 0, 1) := by decide +kernel
theorem dX6_isLost_10 : decode cX6_isLost 10 = .ok (.ireturn, 1) := by decide +kernel
theorem dX6_isLost_11 : decode cX6_isLost 11 = .ok (.aload_n 0, 1) := by decide +kernel
theorem dX6_isLost_12 : decode cX6_isLost 12 = .ok (.iconst 1, 1) := by decide +kernel
theorem dX6_isLost_13 : decode cX6_isLost 13 = .ok (.putfield 66, 3) := by decide +kernel
theorem dX6_isLost_16 : decode cX6_isLost 16 = .ok (.iconst 1, 1) := by decide +kernel
theorem dX6_isLost_17 : decode cX6_isLost 17 = .ok (.ireturn, 1) := by decide +kernel
theorem dX6_join_0 : decode cX6_join 0 = .ok (.iload_n 1, 1) := by decide +kernel
theorem dX6_join_1 : decode cX6_join 1 = .ok (.invokestatic 74, 3) := by decide +kernel
theorem dX6_join_4 : decode cX6_join 4 = .ok (.ifCond .eq 27, 3) := by decide +kernel
theorem dX6_join_7 : decode cX6_join 7 = .ok (.iload_n 2, 1) := by decide +kernel
theorem dX6_join_8 : decode cX6_join 8 = .ok (.invokestatic 74, 3) := by decide +kernel
theorem dX6_join_11 : decode cX6_join 11 = .ok (.ifCond .eq 20, 3) := by decide +kernel
theorem dX6_join_14 : decode cX6_join 14 = .ok (.iload_n 3, 1) := by decide +kernel
theorem dX6_join_15 : decode cX6_join 15 = .ok (.invokestatic 74, 3) := by decide +kernel
theorem dX6_join_18 : decode cX6_join 18 = .ok (.ifCond .eq 13, 3) := by decide +kernel
theorem dX6_join_21 : decode cX6_join 21 = .ok (.iload 4, 2) := by decide +kernel
theorem dX6_join_23 : decode cX6_join 23 = .ok (.iconst 0, 1) := by decide +kernel
theorem dX6_join_24 : decode cX6_join 24 = .ok (.iconst 2, 1) := by decide +kernel
theorem dX6_join_25 : decode cX6_join 25 = .ok (.invokestatic 70, 3) := by decide +kernel
theorem dX6_join_28 : decode cX6_join 28 = .ok (.ifCond .ne 6, 3) := by decide +kernel
theorem dX6_join_31 : decode cX6_join 31 = .ok (.bipush (-2), 2) := by decide +kernel
theorem dX6_join_33 : decode cX6_join 33 = .ok (.ireturn, 1) := by decide +kernel
theorem dX6_join_34 : decode cX6_join 34 = .ok (.aload_n 0, 1) := by decide +kernel
theorem dX6_join_35 : decode cX6_join 35 = .ok (.iload_n 1, 1) := by decide +kernel
theorem dX6_join_36 : decode cX6_join 36 = .ok (.invokevirtual 118, 3) := by decide +kernel
theorem dX6_join_39 : decode cX6_join 39 = .ok (.ifCond .ne 11, 3) := by decide +kernel
theorem dX6_join_42 : decode cX6_join 42 = .ok (.aload_n 0, 1) := by decide +kernel
theorem dX6_join_43 : decode cX6_join 43 = .ok (.iload_n 2, 1) := by decide +kernel
theorem dX6_join_44 : decode cX6_join 44 = .ok (.invokevirtual 118, 3) := by decide +kernel
theorem dX6_join_47 : decode cX6_join 47 = .ok (.ifCond .eq 6, 3) := by decide +kernel
theorem dX6_join_50 : decode cX6_join 50 = .ok (.bipush (-11), 2) := by decide +kernel
theorem dX6_join_52 : decode cX6_join 52 = .ok (.ireturn, 1) := by decide +kernel
theorem dX6_join_53 : decode cX6_join 53 = .ok (.aload_n 0, 1) := by decide +kernel
theorem dX6_join_54 : decode cX6_join 54 = .ok (.iload_n 1, 1) := by decide +kernel
theorem dX6_join_55 : decode cX6_join 55 = .ok (.aload_n 0, 1) := by decide +kernel
theorem dX6_join_56 : decode cX6_join 56 = .ok (.getfield 26, 3) := by decide +kernel
theorem dX6_join_59 : decode cX6_join 59 = .ok (.invokevirtual 105, 3) := by decide +kernel
theorem dX6_join_62 : decode cX6_join 62 = .ok (.aload_n 0, 1) := by decide +kernel
theorem dX6_join_63 : decode cX6_join 63 = .ok (.iload_n 2, 1) := by decide +kernel
theorem dX6_join_64 : decode cX6_join 64 = .ok (.aload_n 0, 1) := by decide +kernel
theorem dX6_join_65 : decode cX6_join 65 = .ok (.getfield 29, 3) := by decide +kernel
theorem dX6_join_68 : decode cX6_join 68 = .ok (.invokevirtual 105, 3) := by decide +kernel
theorem dX6_join_71 : decode cX6_join 71 = .ok (.iconst 0, 1) := by decide +kernel
theorem dX6_join_72 : decode cX6_join 72 = .ok (.istore 5, 2) := by decide +kernel
theorem dX6_join_74 : decode cX6_join 74 = .ok (.iload 5, 2) := by decide +kernel
theorem dX6_join_76 : decode cX6_join 76 = .ok (.bipush 10, 2) := by decide +kernel
theorem dX6_join_78 : decode cX6_join 78 = .ok (.if_icmp .ge 59, 3) := by decide +kernel
theorem dX6_join_81 : decode cX6_join 81 = .ok (.aload_n 0, 1) := by decide +kernel
theorem dX6_join_82 : decode cX6_join 82 = .ok (.getfield 32, 3) := by decide +kernel
theorem dX6_join_85 : decode cX6_join 85 = .ok (.iload 5, 2) := by decide +kernel
theorem dX6_join_87 : decode cX6_join 87 = .ok (.iload 4, 2) := by decide +kernel
theorem dX6_join_89 : decode cX6_join 89 = .ok (.ifCond .ne 22, 3) := by decide +kernel
theorem dX6_join_92 : decode cX6_join 92 = .ok (.aload_n 0, 1) := by decide +kernel
theorem dX6_join_93 : decode cX6_join 93 = .ok (.getfield 26, 3) := by decide +kernel
theorem dX6_join_96 : decode cX6_join 96 = .ok (.iload 5, 2) := by decide +kernel
theorem dX6_join_98 : decode cX6_join 98 = .ok (.iaload, 1) := by decide +kernel
theorem dX6_join_99 : decode cX6_join 99 = .ok (.aload_n 0, 1) := by decide +kernel
theorem dX6_join_100 : decode cX6_join 100 = .ok (.getfield 29, 3) := by decide +kernel
theorem dX6_join_103 : decode cX6_join 103 = .ok (.iload 5, 2) := by decide +kernel
theorem dX6_join_105 : decode cX6_join 105 = .ok (.iaload, 1) := by decide +kernel
theorem dX6_join_106 : decode cX6_join 106 = .ok (.iadd, 1) := by decide +kernel
theorem dX6_join_107 : decode cX6_join 107 = .ok (.i2l, 1) := by decide +kernel
theorem dX6_join_108 : decode cX6_join 108 = .ok (.goto 19, 3) := by decide +kernel
theorem dX6_join_111 : decode cX6_join 111 = .ok (.aload_n 0, 1) := by decide +kernel
theorem dX6_join_112 : decode cX6_join 112 = .ok (.getfield 26, 3) := by decide +kernel
theorem dX6_join_115 : decode cX6_join 115 = .ok (.iload 5, 2) := by decide +kernel
theorem dX6_join_117 : decode cX6_join 117 = .ok (.iaload, 1) := by decide +kernel
theorem dX6_join_118 : decode cX6_join 118 = .ok (.aload_n 0, 1) := by decide +kernel
theorem dX6_join_119 : decode cX6_join 119 = .ok (.getfield 29, 3) := by decide +kernel
theorem dX6_join_122 : decode cX6_join 122 = .ok (.iload 5, 2) := by decide +kernel
theorem dX6_join_124 : decode cX6_join 124 = .ok (.iaload, 1) := by decide +kernel
theorem dX6_join_125 : decode cX6_join 125 = .ok (.isub, 1) := by decide +kernel
theorem dX6_join_126 : decode cX6_join 126 = .ok (.i2l, 1) := by decide +kernel
theorem dX6_join_127 : decode cX6_join 127 = .ok (.invokestatic 62, 3) := by decide +kernel
theorem dX6_join_130 : decode cX6_join 130 = .ok (.iastore, 1) := by decide +kernel
theorem dX6_join_131 : decode cX6_join 131 = .ok (.iinc 5 1, 3) := by decide +kernel
theorem dX6_join_134 : decode cX6_join 134 = .ok (.goto (-60), 3) := by decide +kernel
theorem dX6_join_137 : decode cX6_join 137 = .ok (.iload 4, 2) := by decide +kernel
theorem dX6_join_139 : decode cX6_join 139 = .ok (.iconst 2, 1) := by decide +kernel
theorem dX6_join_140 : decode cX6_join 140 = .ok (.if_icmp .ne 18, 3) := by decide +kernel
theorem dX6_join_143 : decode cX6_join 143 = .ok (.aload_n 0, 1) := by decide +kernel
theorem dX6_join_144 : decode cX6_join 144 = .ok (.getfield 26, 3) := by decide +kernel
theorem dX6_join_147 : decode cX6_join 147 = .ok (.aload_n 0, 1) := by decide +kernel
theorem dX6_join_148 : decode cX6_join 148 = .ok (.getfield 29, 3) := by decide +kernel
theorem dX6_join_151 : decode cX6_join 151 = .ok (.aload_n 0, 1) := by decide +kernel
theorem dX6_join_152 : decode cX6_join 152 = .ok (.getfield 32, 3) := by decide +kernel
theorem dX6_join_155 : decode cX6_join 155 = .ok (.invokestatic 94, 3) := by decide +kernel
theorem dX6_join_158 : decode cX6_join 158 = .ok (.aload_n 0, 1) := by decide +kernel
theorem dX6_join_159 : decode cX6_join 159 = .ok (.aload_n 0, 1) := by decide +kernel
theorem dX6_join_160 : decode cX6_join 160 = .ok (.getfield 32, 3) := by decide +kernel
theorem dX6_join_163 : decode cX6_join 163 = .ok (.iload_n 3, 1) := by decide +kernel
theorem dX6_join_164 : decode cX6_join 164 = .ok (.invokevirtual 114, 3) := by decide +kernel
theorem dX6_join_167 : decode cX6_join 167 = .ok (.ireturn, 1) := by decide +kernel
theorem dX6_over_0 : decode cX6_over 0 = .ok (.iload_n 1, 1) := by decide +kernel
theorem dX6_over_1 : decode cX6_over 1 = .ok (.invokestatic 74, 3) := by decide +kernel
theorem dX6_over_4 : decode cX6_over 4 = .ok (.ifCond .eq 17, 3) := by decide +kernel
theorem dX6_over_7 : decode cX6_over 7 = .ok (.iload_n 2, 1) := by decide +kernel
theorem dX6_over_8 : decode cX6_over 8 = .ok (.invokestatic 74, 3) := by decide +kernel
theorem dX6_over_11 : decode cX6_over 11 = .ok (.ifCond .eq 10, 3) := by decide +kernel
theorem dX6_over_14 : decode cX6_over 14 = .ok (.iload_n 3, 1) := by decide +kernel
theorem dX6_over_15 : decode cX6_over 15 = .ok (.invokestatic 74, 3) := by decide +kernel
theorem dX6_over_18 : decode cX6_over 18 = .ok (.ifCond .ne 6, 3) := by decide +kernel
theorem dX6_over_21 : decode cX6_over 21 = .ok (.bipush (-2), 2) := by decide +kernel
theorem dX6_over_23 : decode cX6_over 23 = .ok (.ireturn, 1) := by decide +kernel
theorem dX6_over_24 : decode cX6_over 24 = .ok (.aload_n 0, 1) := by decide +kernel
theorem dX6_over_25 : decode cX6_over 25 = .ok (.iload_n 1, 1) := by decide +kernel
theorem dX6_over_26 : decode cX6_over 26 = .ok (.invokevirtual 118, 3) := by decide +kernel
theorem dX6_over_29 : decode cX6_over 29 = .ok (.ifCond .ne 11, 3) := by decide +kernel
theorem dX6_over_32 : decode cX6_over 32 = .ok (.aload_n 0, 1) := by decide +kernel
theorem dX6_over_33 : decode cX6_over 33 = .ok (.iload_n 2, 1) := by decide +kernel
theorem dX6_over_34 : decode cX6_over 34 = .ok (.invokevirtual 118, 3) := by decide +kernel
theorem dX6_over_37 : decode cX6_over 37 = .ok (.ifCond .eq 6, 3) := by decide +kernel
theorem dX6_over_40 : decode cX6_over 40 = .ok (.bipush (-11), 2) := by decide +kernel
theorem dX6_over_42 : decode cX6_over 42 = .ok (.ireturn, 1) := by decide +kernel
theorem dX6_over_43 : decode cX6_over 43 = .ok (.aload_n 0, 1) := by decide +kernel
theorem dX6_over_44 : decode cX6_over 44 = .ok (.iload_n 1, 1) := by decide +kernel
theorem dX6_over_45 : decode cX6_over 45 = .ok (.aload_n 0, 1) := by decide +kernel
theorem dX6_over_46 : decode cX6_over 46 = .ok (.getfield 26, 3) := by decide +kernel
theorem dX6_over_49 : decode cX6_over 49 = .ok (.invokevirtual 105, 3) := by decide +kernel
theorem dX6_over_52 : decode cX6_over 52 = .ok (.aload_n 0, 1) := by decide +kernel
theorem dX6_over_53 : decode cX6_over 53 = .ok (.iload_n 2, 1) := by decide +kernel
theorem dX6_over_54 : decode cX6_over 54 = .ok (.aload_n 0, 1) := by decide +kernel
theorem dX6_over_55 : decode cX6_over 55 = .ok (.getfield 29, 3) := by decide +kernel
theorem dX6_over_58 : decode cX6_over 58 = .ok (.invokevirtual 105, 3) := by decide +kernel
theorem dX6_over_61 : decode cX6_over 61 = .ok (.aload_n 0, 1) := by decide +kernel
theorem dX6_over_62 : decode cX6_over 62 = .ok (.getfield 29, 3) := by decide +kernel
theorem dX6_over_65 : decode cX6_over 65 = .ok (.iconst 0, 1) := by decide +kernel
theorem dX6_over_66 : decode cX6_over 66 = .ok (.iaload, 1) := by decide +kernel
theorem dX6_over_67 : decode cX6_over 67 = .ok (.ifCond .ne 6, 3) := by decide +kernel
theorem dX6_over_70 : decode cX6_over 70 = .ok (.bipush (-3), 2) := by decide +kernel
theorem dX6_over_72 : decode cX6_over 72 = .ok (.ireturn, 1) := by decide +kernel
theorem dX6_over_73 : decode cX6_over 73 = .ok (.aload_n 0, 1) := by decide +kernel
theorem dX6_over_74 : decode cX6_over 74 = .ok (.getfield 26, 3) := by decide +kernel
theorem dX6_over_77 : decode cX6_over 77 = .ok (.aload_n 0, 1) := by decide +kernel
theorem dX6_over_78 : decode cX6_over 78 = .ok (.getfield 29, 3) := by decide +kernel
theorem dX6_over_81 : decode cX6_over 81 = .ok (.aload_n 0, 1) := by decide +kernel
theorem dX6_over_82 : decode cX6_over 82 = .ok (.getfield 32, 3) := by decide +kernel
theorem dX6_over_85 : decode cX6_over 85 = .ok (.invokestatic 121, 3) := by decide +kernel
theorem dX6_over_88 : decode cX6_over 88 = .ok (.aload_n 0, 1) := by decide +kernel
theorem dX6_over_89 : decode cX6_over 89 = .ok (.aload_n 0, 1) := by decide +kernel
theorem dX6_over_90 : decode cX6_over 90 = .ok (.getfield 32, 3) := by decide +kernel
theorem dX6_over_93 : decode cX6_over 93 = .ok (.iload_n 3, 1) := by decide +kernel
theorem dX6_over_94 : decode cX6_over 94 = .ok (.invokevirtual 114, 3) := by decide +kernel
theorem dX6_over_97 : decode cX6_over 97 = .ok (.ireturn, 1) := by decide +kernel
theorem dX6_into_0 : decode cX6_into 0 = .ok (.iload_n 1, 1) := by decide +kernel
theorem dX6_into_1 : decode cX6_into 1 = .ok (.invokestatic 74, 3) := by decide +kernel
theorem dX6_into_4 : decode cX6_into 4 = .ok (.ifCond .eq 17, 3) := by decide +kernel
theorem dX6_into_7 : decode cX6_into 7 = .ok (.iload_n 2, 1) := by decide +kernel
theorem dX6_into_8 : decode cX6_into 8 = .ok (.invokestatic 74, 3) := by decide +kernel
theorem dX6_into_11 : decode cX6_into 11 = .ok (.ifCond .eq 10, 3) := by decide +kernel
theorem dX6_into_14 : decode cX6_into 14 = .ok (.iload_n 3, 1) := by decide +kernel
theorem dX6_into_15 : decode cX6_into 15 = .ok (.invokestatic 74, 3) := by decide +kernel
theorem dX6_into_18 : decode cX6_into 18 = .ok (.ifCond .ne 6, 3) := by decide +kernel
theorem dX6_into_21 : decode cX6_into 21 = .ok (.bipush (-2), 2) := by decide +kernel
theorem dX6_into_23 : decode cX6_into 23 = .ok (.ireturn, 1) := by decide +kernel
theorem dX6_into_24 : decode cX6_into 24 = .ok (.aload_n 0, 1) := by decide +kernel
theorem dX6_into_25 : decode cX6_into 25 = .ok (.iload_n 1, 1) := by decide +kernel
theorem dX6_into_26 : decode cX6_into 26 = .ok (.invokevirtual 118, 3) := by decide +kernel
theorem dX6_into_29 : decode cX6_into 29 = .ok (.ifCond .ne 11, 3) := by decide +kernel
theorem dX6_into_32 : decode cX6_into 32 = .ok (.aload_n 0, 1) := by decide +kernel
theorem dX6_into_33 : decode cX6_into 33 = .ok (.iload_n 2, 1) := by decide +kernel
theorem dX6_into_34 : decode cX6_into 34 = .ok (.invokevirtual 118, 3) := by decide +kernel
theorem dX6_into_37 : decode cX6_into 37 = .ok (.ifCond .eq 6, 3) := by decide +kernel
theorem dX6_into_40 : decode cX6_into 40 = .ok (.bipush (-11), 2) := by decide +kernel
theorem dX6_into_42 : decode cX6_into 42 = .ok (.ireturn, 1) := by decide +kernel
theorem dX6_into_43 : decode cX6_into 43 = .ok (.aload_n 0, 1) := by decide +kernel
theorem dX6_into_44 : decode cX6_into 44 = .ok (.iload_n 1, 1) := by decide +kernel
theorem dX6_into_45 : decode cX6_into 45 = .ok (.aload_n 0, 1) := by decide +kernel
theorem dX6_into_46 : decode cX6_into 46 = .ok (.getfield 26, 3) := by decide +kernel
theorem dX6_into_49 : decode cX6_into 49 = .ok (.invokevirtual 105, 3) := by decide +kernel
theorem dX6_into_52 : decode cX6_into 52 = .ok (.aload_n 0, 1) := by decide +kernel
theorem dX6_into_53 : decode cX6_into 53 = .ok (.iload_n 2, 1) := by decide +kernel
theorem dX6_into_54 : decode cX6_into 54 = .ok (.aload_n 0, 1) := by decide +kernel
theorem dX6_into_55 : decode cX6_into 55 = .ok (.getfield 29, 3) := by decide +kernel
theorem dX6_into_58 : decode cX6_into 58 = .ok (.invokevirtual 105, 3) := by decide +kernel
theorem dX6_into_61 : decode cX6_into 61 = .ok (.aload_n 0, 1) := by decide +kernel
theorem dX6_into_62 : decode cX6_into 62 = .ok (.getfield 29, 3) := by decide +kernel
theorem dX6_into_65 : decode cX6_into 65 = .ok (.iconst 0, 1) := by decide +kernel
theorem dX6_into_66 : decode cX6_into 66 = .ok (.iaload, 1) := by decide +kernel
theorem dX6_into_67 : decode cX6_into 67 = .ok (.ifCond .eq 6, 3) := by decide +kernel
theorem dX6_into_70 : decode cX6_into 70 = .ok (.bipush (-3), 2) := by decide +kernel
theorem dX6_into_72 : decode cX6_into 72 = .ok (.ireturn, 1) := by decide +kernel
theorem dX6_into_73 : decode cX6_into 73 = .ok (.aload_n 0, 1) := by decide +kernel
theorem dX6_into_74 : decode cX6_into 74 = .ok (.aload_n 0, 1) := by decide +kernel
theorem dX6_into_75 : decode cX6_into 75 = .ok (.getfield 26, 3) := by decide +kernel
theorem dX6_into_78 : decode cX6_into 78 = .ok (.aload_n 0, 1) := by decide +kernel
theorem dX6_into_79 : decode cX6_into 79 = .ok (.getfield 29, 3) := by decide +kernel
theorem dX6_into_82 : decode cX6_into 82 = .ok (.aload_n 0, 1) := by decide +kernel
theorem dX6_into_83 : decode cX6_into 83 = .ok (.getfield 32, 3) := by decide +kernel
theorem dX6_into_86 : decode cX6_into 86 = .ok (.invokevirtual 102, 3) := by decide +kernel
theorem dX6_into_89 : decode cX6_into 89 = .ok (.aload_n 0, 1) := by decide +kernel
theorem dX6_into_90 : decode cX6_into 90 = .ok (.aload_n 0, 1) := by decide +kernel
theorem dX6_into_91 : decode cX6_into 91 = .ok (.getfield 32, 3) := by decide +kernel
theorem dX6_into_94 : decode cX6_into 94 = .ok (.iload_n 3, 1) := by decide +kernel
theorem dX6_into_95 : decode cX6_into 95 = .ok (.invokevirtual 114, 3) := by decide +kernel
theorem dX6_into_98 : decode cX6_into 98 = .ok (.ireturn, 1) := by decide +kernel
theorem dX6_turn_0 : decode cX6_turn 0 = .ok (.iload_n 1, 1) := by decide +kernel
theorem dX6_turn_1 : decode cX6_turn 1 = .ok (.invokestatic 74, 3) := by decide +kernel
theorem dX6_turn_4 : decode cX6_turn 4 = .ok (.ifCond .eq 10, 3) := by decide +kernel
theorem dX6_turn_7 : decode cX6_turn 7 = .ok (.iload_n 2, 1) := by decide +kernel
theorem dX6_turn_8 : decode cX6_turn 8 = .ok (.invokestatic 74, 3) := by decide +kernel
theorem dX6_turn_11 : decode cX6_turn 11 = .ok (.ifCond .ne 6, 3) := by decide +kernel
theorem dX6_turn_14 : decode cX6_turn 14 = .ok (.bipush (-2), 2) := by decide +kernel
theorem dX6_turn_16 : decode cX6_turn 16 = .ok (.ireturn, 1) := by decide +kernel
theorem dX6_turn_17 : decode cX6_turn 17 = .ok (.aload_n 0, 1) := by decide +kernel
theorem dX6_turn_18 : decode cX6_turn 18 = .ok (.iload_n 1, 1) := by decide +kernel
theorem dX6_turn_19 : decode cX6_turn 19 = .ok (.invokevirtual 118, 3) := by decide +kernel
theorem dX6_turn_22 : decode cX6_turn 22 = .ok (.ifCond .eq 6, 3) := by decide +kernel
theorem dX6_turn_25 : decode cX6_turn 25 = .ok (.bipush (-11), 2) := by decide +kernel
theorem dX6_turn_27 : decode cX6_turn 27 = .ok (.ireturn, 1) := by decide +kernel
theorem dX6_turn_28 : decode cX6_turn 28 = .ok (.aload_n 0, 1) := by decide +kernel
theorem dX6_turn_29 : decode cX6_turn 29 = .ok (.iload_n 1, 1) := by decide +kernel
theorem dX6_turn_30 : decode cX6_turn 30 = .ok (.aload_n 0, 1) := by decide +kernel
theorem dX6_turn_31 : decode cX6_turn 31 = .ok (.getfield 26, 3) := by decide +kernel
theorem dX6_turn_34 : decode cX6_turn 34 = .ok (.invokevirtual 105, 3) := by decide +kernel
theorem dX6_turn_37 : decode cX6_turn 37 = .ok (.aload_n 0, 1) := by decide +kernel
theorem dX6_turn_38 : decode cX6_turn 38 = .ok (.getfield 26, 3) := by decide +kernel
theorem dX6_turn_41 : decode cX6_turn 41 = .ok (.invokestatic 124, 3) := by decide +kernel
theorem dX6_turn_44 : decode cX6_turn 44 = .ok (.ifCond .ne 6, 3) := by decide +kernel
theorem dX6_turn_47 : decode cX6_turn 47 = .ok (.bipush (-3), 2) := by decide +kernel
theorem dX6_turn_49 : decode cX6_turn 49 = .ok (.ireturn, 1) := by decide +kernel
theorem dX6_turn_50 : decode cX6_turn 50 = .ok (.aload_n 0, 1) := by decide +kernel
theorem dX6_turn_51 : decode cX6_turn 51 = .ok (.aload_n 0, 1) := by decide +kernel
theorem dX6_turn_52 : decode cX6_turn 52 = .ok (.getfield 26, 3) := by decide +kernel
theorem dX6_turn_55 : decode cX6_turn 55 = .ok (.aload_n 0, 1) := by decide +kernel
theorem dX6_turn_56 : decode cX6_turn 56 = .ok (.getfield 29, 3) := by decide +kernel
theorem dX6_turn_59 : decode cX6_turn 59 = .ok (.invokevirtual 128, 3) := by decide +kernel
theorem dX6_turn_62 : decode cX6_turn 62 = .ok (.aload_n 0, 1) := by decide +kernel
theorem dX6_turn_63 : decode cX6_turn 63 = .ok (.aload_n 0, 1) := by decide +kernel
theorem dX6_turn_64 : decode cX6_turn 64 = .ok (.getfield 29, 3) := by decide +kernel
theorem dX6_turn_67 : decode cX6_turn 67 = .ok (.iload_n 2, 1) := by decide +kernel
theorem dX6_turn_68 : decode cX6_turn 68 = .ok (.invokevirtual 114, 3) := by decide +kernel
theorem dX6_turn_71 : decode cX6_turn 71 = .ok (.ireturn, 1) := by decide +kernel
theorem dX6_power_0 : decode cX6_power 0 = .ok (.iload_n 1, 1) := by decide +kernel
theorem dX6_power_1 : decode cX6_power 1 = .ok (.invokestatic 74, 3) := by decide +kernel
theorem dX6_power_4 : decode cX6_power 4 = .ok (.ifCond .eq 21, 3) := by decide +kernel
theorem dX6_power_7 : decode cX6_power 7 = .ok (.iload_n 2, 1) := by decide +kernel
theorem dX6_power_8 : decode cX6_power 8 = .ok (.iconst 0, 1) := by decide +kernel
theorem dX6_power_9 : decode cX6_power 9 = .ok (.sipush 1000, 3) := by decide +kernel
theorem dX6_power_12 : decode cX6_power 12 = .ok (.invokestatic 70, 3) := by decide +kernel
theorem dX6_power_15 : decode cX6_power 15 = .ok (.ifCond .eq 10, 3) := by decide +kernel
theorem dX6_power_18 : decode cX6_power 18 = .ok (.iload_n 3, 1) := by decide +kernel
theorem dX6_power_19 : decode cX6_power 19 = .ok (.invokestatic 74, 3) := by decide +kernel
theorem dX6_power_22 : decode cX6_power 22 = .ok (.ifCond .ne 6, 3) := by decide +kernel
theorem dX6_power_25 : decode cX6_power 25 = .ok (.bipush (-2), 2) := by decide +kernel
theorem dX6_power_27 : decode cX6_power 27 = .ok (.ireturn, 1) := by decide +kernel
theorem dX6_power_28 : decode cX6_power 28 = .ok (.aload_n 0, 1) := by decide +kernel
theorem dX6_power_29 : decode cX6_power 29 = .ok (.iload_n 1, 1) := by decide +kernel
theorem dX6_power_30 : decode cX6_power 30 = .ok (.invokevirtual 118, 3) := by decide +kernel
theorem dX6_power_33 : decode cX6_power 33 = .ok (.ifCond .eq 6, 3) := by decide +kernel
theorem dX6_power_36 : decode cX6_power 36 = .ok (.bipush (-11), 2) := by decide +kernel
theorem dX6_power_38 : decode cX6_power 38 = .ok (.ireturn, 1) := by decide +kernel
theorem dX6_power_39 : decode cX6_power 39 = .ok (.aload_n 0, 1) := by decide +kernel
theorem dX6_power_40 : decode cX6_power 40 = .ok (.iload_n 1, 1) := by decide +kernel
theorem dX6_power_41 : decode cX6_power 41 = .ok (.aload_n 0, 1) := by decide +kernel
theorem dX6_power_42 : decode cX6_power 42 = .ok (.getfield 26, 3) := by decide +kernel
theorem dX6_power_45 : decode cX6_power 45 = .ok (.invokevirtual 105, 3) := by decide +kernel
theorem dX6_power_48 : decode cX6_power 48 = .ok (.aload_n 0, 1) := by decide +kernel
theorem dX6_power_49 : decode cX6_power 49 = .ok (.getfield 29, 3) := by decide +kernel
theorem dX6_power_52 : decode cX6_power 52 = .ok (.invokestatic 90, 3) := by decide +kernel
theorem dX6_power_55 : decode cX6_power 55 = .ok (.iconst 0, 1) := by decide +kernel
theorem dX6_power_56 : decode cX6_power 56 = .ok (.istore 4, 2) := by decide +kernel
theorem dX6_power_58 : decode cX6_power 58 = .ok (.iload 4, 2) := by decide +kernel
theorem dX6_power_60 : decode cX6_power 60 = .ok (.iload_n 2, 1) := by decide +kernel
theorem dX6_power_61 : decode cX6_power 61 = .ok (.if_icmp .ge 35, 3) := by decide +kernel
theorem dX6_power_64 : decode cX6_power 64 = .ok (.aload_n 0, 1) := by decide +kernel
theorem dX6_power_65 : decode cX6_power 65 = .ok (.getfield 26, 3) := by decide +kernel
theorem dX6_power_68 : decode cX6_power 68 = .ok (.aload_n 0, 1) := by decide +kernel
theorem dX6_power_69 : decode cX6_power 69 = .ok (.getfield 29, 3) := by decide +kernel
theorem dX6_power_72 : decode cX6_power 72 = .ok (.aload_n 0, 1) := by decide +kernel
theorem dX6_power_73 : decode cX6_power 73 = .ok (.getfield 32, 3) := by decide +kernel
theorem dX6_power_76 : decode cX6_power 76 = .ok (.invokestatic 94, 3) := by decide +kernel
theorem dX6_power_79 : decode cX6_power 79 = .ok (.aload_n 0, 1) := by decide +kernel
theorem dX6_power_80 : decode cX6_power 80 = .ok (.getfield 32, 3) := by decide +kernel
theorem dX6_power_83 : decode cX6_power 83 = .ok (.aload_n 0, 1) := by decide +kernel
theorem dX6_power_84 : decode cX6_power 84 = .ok (.getfield 29, 3) := by decide +kernel
theorem dX6_power_87 : decode cX6_power 87 = .ok (.invokestatic 98, 3) := by decide +kernel
theorem dX6_power_90 : decode cX6_power 90 = .ok (.iinc 4 1, 3) := by decide +kernel
theorem dX6_power_93 : decode cX6_power 93 = .ok (.goto (-35), 3) := by decide +kernel
theorem dX6_power_96 : decode cX6_power 96 = .ok (.aload_n 0, 1) := by decide +kernel
theorem dX6_power_97 : decode cX6_power 97 = .ok (.aload_n 0, 1) := by decide +kernel
theorem dX6_power_98 : decode cX6_power 98 = .ok (.getfield 29, 3) := by decide +kernel
theorem dX6_power_101 : decode cX6_power 101 = .ok (.iload_n 3, 1) := by decide +kernel
theorem dX6_power_102 : decode cX6_power 102 = .ok (.invokevirtual 114, 3) := by decide +kernel
theorem dX6_power_105 : decode cX6_power 105 = .ok (.ireturn, 1) := by decide +kernel
theorem dX6_valueOf_0 : decode cX6_valueOf 0 = .ok (.iconst 0, 1) := by decide +kernel
theorem dX6_valueOf_1 : decode cX6_valueOf 1 = .ok (.istore_n 2, 1) := by decide +kernel
theorem dX6_valueOf_2 : decode cX6_valueOf 2 = .ok (.bipush 9, 2) := by decide +kernel
theorem dX6_valueOf_4 : decode cX6_valueOf 4 = .ok (.istore_n 3, 1) := by decide +kernel
theorem dX6_valueOf_5 : decode cX6_valueOf 5 = .ok (.iload_n 3, 1) := by decide +kernel
theorem dX6_valueOf_6 : decode cX6_valueOf 6 = .ok (.ifCond .lt 23, 3) := by decide +kernel
theorem dX6_valueOf_9 : decode cX6_valueOf 9 = .ok (.iload_n 2, 1) := by decide +kernel
theorem dX6_valueOf_10 : decode cX6_valueOf 10 = .ok (.i2l, 1) := by decide +kernel
theorem dX6_valueOf_11 : decode cX6_valueOf 11 = .ok (.iload_n 1, 1) := by decide +kernel
theorem dX6_valueOf_12 : decode cX6_valueOf 12 = .ok (.i2l, 1) := by decide +kernel
theorem dX6_valueOf_13 : decode cX6_valueOf 13 = .ok (.lmul, 1) := by decide +kernel
theorem dX6_valueOf_14 : decode cX6_valueOf 14 = .ok (.aload_n 0, 1) := by decide +kernel
theorem dX6_valueOf_15 : decode cX6_valueOf 15 = .ok (.iload_n 3, 1) := by decide +kernel
theorem dX6_valueOf_16 : decode cX6_valueOf 16 = .ok (.iaload, 1) := by decide +kernel
theorem dX6_valueOf_17 : decode cX6_valueOf 17 = .ok (.i2l, 1) := by decide +kernel
theorem dX6_valueOf_18 : decode cX6_valueOf 18 = .ok (.ladd, 1) := by decide +kernel
theorem dX6_valueOf_19 : decode cX6_valueOf 19 = .ok (.invokestatic 62, 3) := by decide +kernel
theorem dX6_valueOf_22 : decode cX6_valueOf 22 = .ok (.istore_n 2, 1) := by decide +kernel
theorem dX6_valueOf_23 : decode cX6_valueOf 23 = .ok (.iinc 3 (-1), 3) := by decide +kernel
theorem dX6_valueOf_26 : decode cX6_valueOf 26 = .ok (.goto (-21), 3) := by decide +kernel
theorem dX6_valueOf_29 : decode cX6_valueOf 29 = .ok (.iload_n 2, 1) := by decide +kernel
theorem dX6_valueOf_30 : decode cX6_valueOf 30 = .ok (.ireturn, 1) := by decide +kernel
theorem dX6_value_0 : decode cX6_value 0 = .ok (.iload_n 1, 1) := by decide +kernel
theorem dX6_value_1 : decode cX6_value 1 = .ok (.invokestatic 74, 3) := by decide +kernel
theorem dX6_value_4 : decode cX6_value 4 = .ok (.ifCond .ne 6, 3) := by decide +kernel
theorem dX6_value_7 : decode cX6_value 7 = .ok (.bipush (-2), 2) := by decide +kernel
theorem dX6_value_9 : decode cX6_value 9 = .ok (.ireturn, 1) := by decide +kernel
theorem dX6_value_10 : decode cX6_value 10 = .ok (.aload_n 0, 1) := by decide +kernel
theorem dX6_value_11 : decode cX6_value 11 = .ok (.iload_n 1, 1) := by decide +kernel
theorem dX6_value_12 : decode cX6_value 12 = .ok (.invokevirtual 118, 3) := by decide +kernel
theorem dX6_value_15 : decode cX6_value 15 = .ok (.ifCond .eq 6, 3) := by decide +kernel
theorem dX6_value_18 : decode cX6_value 18 = .ok (.bipush (-11), 2) := by decide +kernel
theorem dX6_value_20 : decode cX6_value 20 = .ok (.ireturn, 1) := by decide +kernel
theorem dX6_value_21 : decode cX6_value 21 = .ok (.aload_n 0, 1) := by decide +kernel
theorem dX6_value_22 : decode cX6_value 22 = .ok (.iload_n 1, 1) := by decide +kernel
theorem dX6_value_23 : decode cX6_value 23 = .ok (.aload_n 0, 1) := by decide +kernel
theorem dX6_value_24 : decode cX6_value 24 = .ok (.getfield 26, 3) := by decide +kernel
theorem dX6_value_27 : decode cX6_value 27 = .ok (.invokevirtual 105, 3) := by decide +kernel
theorem dX6_value_30 : decode cX6_value 30 = .ok (.aload_n 0, 1) := by decide +kernel
theorem dX6_value_31 : decode cX6_value 31 = .ok (.getfield 26, 3) := by decide +kernel
theorem dX6_value_34 : decode cX6_value 34 = .ok (.iload_n 2, 1) := by decide +kernel
theorem dX6_value_35 : decode cX6_value 35 = .ok (.i2l, 1) := by decide +kernel
theorem dX6_value_36 : decode cX6_value 36 = .ok (.invokestatic 62, 3) := by decide +kernel
theorem dX6_value_39 : decode cX6_value 39 = .ok (.invokestatic 131, 3) := by decide +kernel
theorem dX6_value_42 : decode cX6_value 42 = .ok (.ireturn, 1) := by decide +kernel
theorem dX6_works_0 : decode cX6_works 0 = .ok (.iconst 0, 1) := by decide +kernel
theorem dX6_works_1 : decode cX6_works 1 = .ok (.istore_n 3, 1) := by decide +kernel
theorem dX6_works_2 : decode cX6_works 2 = .ok (.iload_n 3, 1) := by decide +kernel
theorem dX6_works_3 : decode cX6_works 3 = .ok (.bipush 10, 2) := by decide +kernel
theorem dX6_works_5 : decode cX6_works 5 = .ok (.if_icmp .ge 104, 3) := by decide +kernel
theorem dX6_works_8 : decode cX6_works 8 = .ok (.lconst 0, 1) := by decide +kernel
theorem dX6_works_9 : decode cX6_works 9 = .ok (.lstore 4, 2) := by decide +kernel
theorem dX6_works_11 : decode cX6_works 11 = .ok (.iconst 1, 1) := by decide +kernel
theorem dX6_works_12 : decode cX6_works 12 = .ok (.istore 6, 2) := by decide +kernel
theorem dX6_works_14 : decode cX6_works 14 = .ok (.iconst 0, 1) := by decide +kernel
theorem dX6_works_15 : decode cX6_works 15 = .ok (.istore 7, 2) := by decide +kernel
theorem dX6_works_17 : decode cX6_works 17 = .ok (.iload_n 3, 1) := by decide +kernel
theorem dX6_works_18 : decode cX6_works 18 = .ok (.iload 7, 2) := by decide +kernel
theorem dX6_works_20 : decode cX6_works 20 = .ok (.iadd, 1) := by decide +kernel
theorem dX6_works_21 : decode cX6_works 21 = .ok (.bipush 10, 2) := by decide +kernel
theorem dX6_works_23 : decode cX6_works 23 = .ok (.if_icmp .ge 74, 3) := by decide +kernel
theorem dX6_works_26 : decode cX6_works 26 = .ok (.iconst 1, 1) := by decide +kernel
theorem dX6_works_27 : decode cX6_works 27 = .ok (.istore 6, 2) := by decide +kernel
theorem dX6_works_29 : decode cX6_works 29 = .ok (.iload_n 3, 1) := by decide +kernel
theorem dX6_works_30 : decode cX6_works 30 = .ok (.iconst 1, 1) := by decide +kernel
theorem dX6_works_31 : decode cX6_works 31 = .ok (.iadd, 1) := by decide +kernel
theorem dX6_works_32 : decode cX6_works 32 = .ok (.istore 8, 2) := by decide +kernel
theorem dX6_works_34 : decode cX6_works 34 = .ok (.iload 8, 2) := by decide +kernel
theorem dX6_works_36 : decode cX6_works 36 = .ok (.iload_n 3, 1) := by decide +kernel
theorem dX6_works_37 : decode cX6_works 37 = .ok (.iload 7, 2) := by decide +kernel
theorem dX6_works_39 : decode cX6_works 39 = .ok (.iadd, 1) := by decide +kernel
theorem dX6_works_40 : decode cX6_works 40 = .ok (.if_icmp .gt 21, 3) := by decide +kernel
theorem dX6_works_43 : decode cX6_works 43 = .ok (.iload 6, 2) := by decide +kernel
theorem dX6_works_45 : decode cX6_works 45 = .ok (.i2l, 1) := by decide +kernel
theorem dX6_works_46 : decode cX6_works 46 = .ok (.iload 8, 2) := by decide +kernel
theorem dX6_works_48 : decode cX6_works 48 = .ok (.i2l, 1) := by decide +kernel
theorem dX6_works_49 : decode cX6_works 49 = .ok (.lmul, 1) := by decide +kernel
theorem dX6_works_50 : decode cX6_works 50 = .ok (.invokestatic 62, 3) := by decide +kernel
theorem dX6_works_53 : decode cX6_works 53 = .ok (.istore 6, 2) := by decide +kernel
theorem dX6_works_55 : decode cX6_works 55 = .ok (.iinc 8 1, 3) := by decide +kernel
theorem dX6_works_58 : decode cX6_works 58 = .ok (.goto (-24), 3) := by decide +kernel
theorem dX6_works_61 : decode cX6_works 61 = .ok (.lload 4, 2) := by decide +kernel
theorem dX6_works_63 : decode cX6_works 63 = .ok (.aload_n 0, 1) := by decide +kernel
theorem dX6_works_64 : decode cX6_works 64 = .ok (.iload 7, 2) := by decide +kernel
theorem dX6_works_66 : decode cX6_works 66 = .ok (.iaload, 1) := by decide +kernel
theorem dX6_works_67 : decode cX6_works 67 = .ok (.i2l, 1) := by decide +kernel
theorem dX6_works_68 : decode cX6_works 68 = .ok (.iload 6, 2) := by decide +kernel
theorem dX6_works_70 : decode cX6_works 70 = .ok (.i2l, 1) := by decide +kernel
theorem dX6_works_71 : decode cX6_works 71 = .ok (.lmul, 1) := by decide +kernel
theorem dX6_works_72 : decode cX6_works 72 = .ok (.invokestatic 62, 3) := by decide +kernel
theorem dX6_works_75 : decode cX6_works 75 = .ok (.i2l, 1) := by decide +kernel
theorem dX6_works_76 : decode cX6_works 76 = .ok (.aload_n 1, 1) := by decide +kernel
theorem dX6_works_77 : decode cX6_works 77 = .ok (.iload_n 3, 1) := by decide +kernel
theorem dX6_works_78 : decode cX6_works 78 = .ok (.iload 7, 2) := by decide +kernel
theorem dX6_works_80 : decode cX6_works 80 = .ok (.iadd, 1) := by decide +kernel
theorem dX6_works_81 : decode cX6_works 81 = .ok (.iaload, 1) := by decide +kernel
theorem dX6_works_82 : decode cX6_works 82 = .ok (.i2l, 1) := by decide +kernel
theorem dX6_works_83 : decode cX6_works 83 = .ok (.lmul, 1) := by decide +kernel
theorem dX6_works_84 : decode cX6_works 84 = .ok (.ladd, 1) := by decide +kernel
theorem dX6_works_85 : decode cX6_works 85 = .ok (.invokestatic 62, 3) := by decide +kernel
theorem dX6_works_88 : decode cX6_works 88 = .ok (.i2l, 1) := by decide +kernel
theorem dX6_works_89 : decode cX6_works 89 = .ok (.lstore 4, 2) := by decide +kernel
theorem dX6_works_91 : decode cX6_works 91 = .ok (.iinc 7 1, 3) := by decide +kernel
theorem dX6_works_94 : decode cX6_works 94 = .ok (.goto (-77), 3) := by decide +kernel
theorem dX6_works_97 : decode cX6_works 97 = .ok (.aload_n 2, 1) := by decide +kernel
theorem dX6_works_98 : decode cX6_works 98 = .ok (.iload_n 3, 1) := by decide +kernel
theorem dX6_works_99 : decode cX6_works 99 = .ok (.lload 4, 2) := by decide +kernel
theorem dX6_works_101 : decode cX6_works 101 = .ok (.l2i, 1) := by decide +kernel
theorem dX6_works_102 : decode cX6_works 102 = .ok (.iastore, 1) := by decide +kernel
theorem dX6_works_103 : decode cX6_works 103 = .ok (.iinc 3 1, 3) := by decide +kernel
theorem dX6_works_106 : decode cX6_works 106 = .ok (.goto (-104), 3) := by decide +kernel
theorem dX6_works_109 : decode cX6_works 109 = .ok (.return_, 1) := by decide +kernel
theorem dX6_apply_0 : decode cX6_apply 0 = .ok (.iload_n 1, 1) := by decide +kernel
theorem dX6_apply_1 : decode cX6_apply 1 = .ok (.invokestatic 74, 3) := by decide +kernel
theorem dX6_apply_4 : decode cX6_apply 4 = .ok (.ifCond .eq 17, 3) := by decide +kernel
theorem dX6_apply_7 : decode cX6_apply 7 = .ok (.iload_n 2, 1) := by decide +kernel
theorem dX6_apply_8 : decode cX6_apply 8 = .ok (.invokestatic 74, 3) := by decide +kernel
theorem dX6_apply_11 : decode cX6_apply 11 = .ok (.ifCond .eq 10, 3) := by decide +kernel
theorem dX6_apply_14 : decode cX6_apply 14 = .ok (.iload_n 3, 1) := by decide +kernel
theorem dX6_apply_15 : decode cX6_apply 15 = .ok (.invokestatic 74, 3) := by decide +kernel
theorem dX6_apply_18 : decode cX6_apply 18 = .ok (.ifCond .ne 6, 3) := by decide +kernel
theorem dX6_apply_21 : decode cX6_apply 21 = .ok (.bipush (-2), 2) := by decide +kernel
theorem dX6_apply_23 : decode cX6_apply 23 = .ok (.ireturn, 1) := by decide +kernel
theorem dX6_apply_24 : decode cX6_apply 24 = .ok (.aload_n 0, 1) := by decide +kernel
