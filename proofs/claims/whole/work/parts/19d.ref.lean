theorem dX5_init_0 : decode cX5_init 0 = .ok (.aload_n 0, 1) := by decide +kernel
theorem dX5_init_1 : decode cX5_init 1 = .ok (.invokespecial 1, 3) := by decide +kernel
theorem dX5_init_4 : decode cX5_init 4 = .ok (.aload_n 0, 1) := by decide +kernel
theorem dX5_init_5 : decode cX5_init 5 = .ok (.bipush 8, 2) := by decide +kernel
theorem dX5_init_7 : decode cX5_init 7 = .ok (.newarray .int, 2) := by decide +kernel
theorem dX5_init_9 : decode cX5_init 9 = .ok (.putfield 7, 3) := by decide +kernel
theorem dX5_init_12 : decode cX5_init 12 = .ok (.aload_n 0, 1) := by decide +kernel
theorem dX5_init_13 : decode cX5_init 13 = .ok (.bipush 8, 2) := by decide +kernel
theorem dX5_init_15 : decode cX5_init 15 = .ok (.newarray .int, 2) := by decide +kernel
theorem dX5_init_17 : decode cX5_init 17 = .ok (.putfield 13, 3) := by decide +kernel
theorem dX5_init_20 : decode cX5_init 20 = .ok (.aload_n 0, 1) := by decide +kernel
theorem dX5_init_21 : decode cX5_init 21 = .ok (.bipush 8, 2) := by decide +kernel
theorem dX5_init_23 : decode cX5_init 23 = .ok (.newarray .int, 2) := by decide +kernel
theorem dX5_init_25 : decode cX5_init 25 = .ok (.putfield 16, 3) := by decide +kernel
theorem dX5_init_28 : decode cX5_init 28 = .ok (.aload_n 0, 1) := by decide +kernel
theorem dX5_init_29 : decode cX5_init 29 = .ok (.sipush 192, 3) := by decide +kernel
theorem dX5_init_32 : decode cX5_init 32 = .ok (.newarray .int, 2) := by decide +kernel
theorem dX5_init_34 : decode cX5_init 34 = .ok (.putfield 19, 3) := by decide +kernel
theorem dX5_init_37 : decode cX5_init 37 = .ok (.aload_n 0, 1) := by decide +kernel
theorem dX5_init_38 : decode cX5_init 38 = .ok (.sipush 192, 3) := by decide +kernel
theorem dX5_init_41 : decode cX5_init 41 = .ok (.newarray .int, 2) := by decide +kernel
theorem dX5_init_43 : decode cX5_init 43 = .ok (.putfield 22, 3) := by decide +kernel
theorem dX5_init_46 : decode cX5_init 46 = .ok (.aload_n 0, 1) := by decide +kernel
theorem dX5_init_47 : decode cX5_init 47 = .ok (.bipush 8, 2) := by decide +kernel
theorem dX5_init_49 : decode cX5_init 49 = .ok (.newarray .int, 2) := by decide +kernel
theorem dX5_init_51 : decode cX5_init 51 = .ok (.putfield 25, 3) := by decide +kernel
theorem dX5_init_54 : decode cX5_init 54 = .ok (.aload_n 0, 1) := by decide +kernel
theorem dX5_init_55 : decode cX5_init 55 = .ok (.bipush 64, 2) := by decide +kernel
theorem dX5_init_57 : decode cX5_init 57 = .ok (.newarray .int, 2) := by decide +kernel
theorem dX5_init_59 : decode cX5_init 59 = .ok (.putfield 28, 3) := by decide +kernel
theorem dX5_init_62 : decode cX5_init 62 = .ok (.aload_n 0, 1) := by decide +kernel
theorem dX5_init_63 : decode cX5_init 63 = .ok (.bipush 64, 2) := by decide +kernel
theorem dX5_init_65 : decode cX5_init 65 = .ok (.newarray .int, 2) := by decide +kernel
theorem dX5_init_67 : decode cX5_init 67 = .ok (.putfield 31, 3) := by decide +kernel
theorem dX5_init_70 : decode cX5_init 70 = .ok (.aload_n 0, 1) := by decide +kernel
theorem dX5_init_71 : decode cX5_init 71 = .ok (.iconst 1, 1) := by decide +kernel
theorem dX5_init_72 : decode cX5_init 72 = .ok (.putfield 34, 3) := by decide +kernel
theorem dX5_init_75 : decode cX5_init 75 = .ok (.aload_n 0, 1) := by decide +kernel
theorem dX5_init_76 : decode cX5_init 76 = .ok (.iconst 2, 1) := by decide +kernel
theorem dX5_init_77 : decode cX5_init 77 = .ok (.putfield 38, 3) := by decide +kernel
theorem dX5_init_80 : decode cX5_init 80 = .ok (.aload_n 0, 1) := by decide +kernel
theorem dX5_init_81 : decode cX5_init 81 = .ok (.sipush 417, 3) := by decide +kernel
theorem dX5_init_84 : decode cX5_init 84 = .ok (.newarray .boolean, 2) := by decide +kernel
theorem dX5_init_86 : decode cX5_init 86 = .ok (.putfield 41, 3) := by decide +kernel
theorem dX5_init_89 : decode cX5_init 89 = .ok (.aload_n 0, 1) := by decide +kernel
theorem dX5_init_90 : decode cX5_init 90 = .ok (.bipush 72, 2) := by decide +kernel
theorem dX5_init_92 : decode cX5_init 92 = .ok (.putfield 45, 3) := by decide +kernel
theorem dX5_init_95 : decode cX5_init 95 = .ok (.aload_n 0, 1) := by decide +kernel
theorem dX5_init_96 : decode cX5_init 96 = .ok (.iconst 1, 1) := by decide +kernel
theorem dX5_init_97 : decode cX5_init 97 = .ok (.putfield 48, 3) := by decide +kernel
theorem dX5_init_100 : decode cX5_init 100 = .ok (.aload_n 0, 1) := by decide +kernel
theorem dX5_init_101 : decode cX5_init 101 = .ok (.iconst 1, 1) := by decide +kernel
theorem dX5_init_102 : decode cX5_init 102 = .ok (.putfield 51, 3) := by decide +kernel
theorem dX5_init_105 : decode cX5_init 105 = .ok (.aload_n 0, 1) := by decide +kernel
theorem dX5_init_106 : decode cX5_init 106 = .ok (.bipush 32, 2) := by decide +kernel
theorem dX5_init_108 : decode cX5_init 108 = .ok (.newarray .int, 2) := by decide +kernel
theorem dX5_init_110 : decode cX5_init 110 = .ok (.putfield 54, 3) := by decide +kernel
theorem dX5_init_113 : decode cX5_init 113 = .ok (.aload_n 0, 1) := by decide +kernel
theorem dX5_init_114 : decode cX5_init 114 = .ok (.bipush 32, 2) := by decide +kernel
theorem dX5_init_116 : decode cX5_init 116 = .ok (.newarray .int, 2) := by decide +kernel
theorem dX5_init_118 : decode cX5_init 118 = .ok (.putfield 57, 3) := by decide +kernel
theorem dX5_init_121 : decode cX5_init 121 = .ok (.aload_n 0, 1) := by decide +kernel
theorem dX5_init_122 : decode cX5_init 122 = .ok (.bipush 32, 2) := by decide +kernel
theorem dX5_init_124 : decode cX5_init 124 = .ok (.newarray .boolean, 2) := by decide +kernel
theorem dX5_init_126 : decode cX5_init 126 = .ok (.putfield 60, 3) := by decide +kernel
theorem dX5_init_129 : decode cX5_init 129 = .ok (.aload_n 0, 1) := by decide +kernel
theorem dX5_init_130 : decode cX5_init 130 = .ok (.bipush 32, 2) := by decide +kernel
theorem dX5_init_132 : decode cX5_init 132 = .ok (.newarray .boolean, 2) := by decide +kernel
theorem dX5_init_134 : decode cX5_init 134 = .ok (.putfield 63, 3) := by decide +kernel
theorem dX5_init_137 : decode cX5_init 137 = .ok (.aload_n 0, 1) := by decide +kernel
theorem dX5_init_138 : decode cX5_init 138 = .ok (.bipush 32, 2) := by decide +kernel
theorem dX5_init_140 : decode cX5_init 140 = .ok (.newarray .int, 2) := by decide +kernel
theorem dX5_init_142 : decode cX5_init 142 = .ok (.putfield 66, 3) := by decide +kernel
theorem dX5_init_145 : decode cX5_init 145 = .ok (.aload_n 0, 1) := by decide +kernel
theorem dX5_init_146 : decode cX5_init 146 = .ok (.bipush 7, 2) := by decide +kernel
theorem dX5_init_148 : decode cX5_init 148 = .ok (.newarray .int, 2) := by decide +kernel
theorem dX5_init_150 : decode cX5_init 150 = .ok (.putfield 69, 3) := by decide +kernel
theorem dX5_init_153 : decode cX5_init 153 = .ok (.aload_n 0, 1) := by decide +kernel
theorem dX5_init_154 : decode cX5_init 154 = .ok (.sipush 10001, 3) := by decide +kernel
theorem dX5_init_157 : decode cX5_init 157 = .ok (.newarray .long, 2) := by decide +kernel
theorem dX5_init_159 : decode cX5_init 159 = .ok (.putfield 72, 3) := by decide +kernel
theorem dX5_init_162 : decode cX5_init 162 = .ok (.return_, 1) := by decide +kernel
theorem dX5_isIn_0 : decode cX5_isIn 0 = .ok (.iload_n 0, 1) := by decide +kernel
theorem dX5_isIn_1 : decode cX5_isIn 1 = .ok (.iload_n 1, 1) := by decide +kernel
theorem dX5_isIn_2 : decode cX5_isIn 2 = .ok (.if_icmp .lt 12, 3) := by decide +kernel
theorem dX5_isIn_5 : decode cX5_isIn 5 = .ok (.iload_n 0, 1) := by decide +kernel
theorem dX5_isIn_6 : decode cX5_isIn 6 = .ok (.iload_n 2, 1) := by decide +kernel
theorem dX5_isIn_7 : decode cX5_isIn 7 = .ok (.if_icmp .gt 7, 3) := by decide +kernel
theorem dX5_isIn_10 : decode cX5_isIn 10 = .ok (.iconst 1, 1) := by decide +kernel
theorem dX5_isIn_11 : decode cX5_isIn 11 = .ok (.goto 4, 3) := by decide +kernel
theorem dX5_isIn_14 : decode cX5_isIn 14 = .ok (.iconst 0, 1) := by decide +kernel
theorem dX5_isIn_15 : decode cX5_isIn 15 = .ok (.ireturn, 1) := by decide +kernel
theorem dX5_isBin_0 : decode cX5_isBin 0 = .ok (.iload_n 1, 1) := by decide +kernel
theorem dX5_isBin_1 : decode cX5_isBin 1 = .ok (.ifCond .lt 15, 3) := by decide +kernel
theorem dX5_isBin_4 : decode cX5_isBin 4 = .ok (.iload_n 1, 1) := by decide +kernel
theorem dX5_isBin_5 : decode cX5_isBin 5 = .ok (.aload_n 0, 1) := by decide +kernel
theorem dX5_isBin_6 : decode cX5_isBin 6 = .ok (.getfield 76, 3) := by decide +kernel
theorem dX5_isBin_9 : decode cX5_isBin 9 = .ok (.if_icmp .ge 7, 3) := by decide +kernel
theorem dX5_isBin_12 : decode cX5_isBin 12 = .ok (.iconst 1, 1) := by decide +kernel
theorem dX5_isBin_13 : decode cX5_isBin 13 = .ok (.goto 4, 3) := by decide +kernel
theorem dX5_isBin_16 : decode cX5_isBin 16 = .ok (.iconst 0, 1) := by decide +kernel
theorem dX5_isBin_17 : decode cX5_isBin 17 = .ok (.ireturn, 1) := by decide +kernel
theorem dX5_isHour_0 : decode cX5_isHour 0 = .ok (.iload_n 0, 1) := by decide +kernel
theorem dX5_isHour_1 : decode cX5_isHour 1 = .ok (.iconst 0, 1) := by decide +kernel
theorem dX5_isHour_2 : decode cX5_isHour 2 = .ok (.sipush 9999, 3) := by decide +kernel
theorem dX5_isHour_5 : decode cX5_isHour 5 = .ok (.invokestatic 79, 3) := by decide +kernel
theorem dX5_isHour_8 : decode cX5_isHour 8 = .ok (.ireturn, 1) := by decide +kernel
theorem dX5_isDay_0 : decode cX5_isDay 0 = .ok (.iload_n 0, 1) := by decide +kernel
theorem dX5_isDay_1 : decode cX5_isDay 1 = .ok (.iconst 0, 1) := by decide +kernel
theorem dX5_isDay_2 : decode cX5_isDay 2 = .ok (.sipush 416, 3) := by decide +kernel
theorem dX5_isDay_5 : decode cX5_isDay 5 = .ok (.invokestatic 79, 3) := by decide +kernel
theorem dX5_isDay_8 : decode cX5_isDay 8 = .ok (.ireturn, 1) := by decide +kernel
theorem dX5_bin_0 : decode cX5_bin 0 = .ok (.aload_n 0, 1) := by decide +kernel
theorem dX5_bin_1 : decode cX5_bin 1 = .ok (.getfield 76, 3) := by decide +kernel
theorem dX5_bin_4 : decode cX5_bin 4 = .ok (.bipush 8, 2) := by decide +kernel
theorem dX5_bin_6 : decode cX5_bin 6 = .ok (.if_icmp .eq 23, 3) := by decide +kernel
theorem dX5_bin_9 : decode cX5_bin 9 = .ok (.iload_n 1, 1) := by decide +kernel
theorem dX5_bin_10 : decode cX5_bin 10 = .ok (.iconst 0, 1) := by decide +kernel
theorem dX5_bin_11 : decode cX5_bin 11 = .ok (.iconst 3, 1) := by decide +kernel
theorem dX5_bin_12 : decode cX5_bin 12 = .ok (.invokestatic 79, 3) := by decide +kernel
theorem dX5_bin_15 : decode cX5_bin 15 = .ok (.ifCond .eq 14, 3) := by decide +kernel
theorem dX5_bin_18 : decode cX5_bin 18 = .ok (.iload_n 2, 1) := by decide +kernel
theorem dX5_bin_19 : decode cX5_bin 19 = .ok (.iconst 1, 1) := by decide +kernel
theorem dX5_bin_20 : decode cX5_bin 20 = .ok (.sipush 10000, 3) := by decide +kernel
theorem dX5_bin_23 : decode cX5_bin 23 = .ok (.invokestatic 79, 3) := by decide +kernel
theorem dX5_bin_26 : decode cX5_bin 26 = .ok (.ifCond .ne 5, 3) := by decide +kernel
theorem dX5_bin_29 : decode cX5_bin 29 = .ok (.iconst (-1), 1) := by decide +kernel
theorem dX5_bin_30 : decode cX5_bin 30 = .ok (.ireturn, 1) := by decide +kernel
theorem dX5_bin_31 : decode cX5_bin 31 = .ok (.aload_n 0, 1) := by decide +kernel
theorem dX5_bin_32 : decode cX5_bin 32 = .ok (.getfield 7, 3) := by decide +kernel
theorem dX5_bin_35 : decode cX5_bin 35 = .ok (.aload_n 0, 1) := by decide +kernel
theorem dX5_bin_36 : decode cX5_bin 36 = .ok (.getfield 76, 3) := by decide +kernel
theorem dX5_bin_39 : decode cX5_bin 39 = .ok (.iload_n 1, 1) := by decide +kernel
theorem dX5_bin_40 : decode cX5_bin 40 = .ok (.iastore, 1) := by decide +kernel
theorem dX5_bin_41 : decode cX5_bin 41 = .ok (.aload_n 0, 1) := by decide +kernel
theorem dX5_bin_42 : decode cX5_bin 42 = .ok (.getfield 13, 3) := by decide +kernel
theorem dX5_bin_45 : decode cX5_bin 45 = .ok (.aload_n 0, 1) := by decide +kernel
theorem dX5_bin_46 : decode cX5_bin 46 = .ok (.getfield 76, 3) := by decide +kernel
theorem dX5_bin_49 : decode cX5_bin 49 = .ok (.iload_n 2, 1) := by decide +kernel
theorem dX5_bin_50 : decode cX5_bin 50 = .ok (.iastore, 1) := by decide +kernel
theorem dX5_bin_51 : decode cX5_bin 51 = .ok (.aload_n 0, 1) := by decide +kernel
theorem dX5_bin_52 : decode cX5_bin 52 = .ok (.dup, 1) := by decide +kernel
theorem dX5_bin_53 : decode cX5_bin 53 = .ok (.getfield 76, 3) := by decide +kernel
theorem dX5_bin_56 : decode cX5_bin 56 = .ok (.iconst 1, 1) := by decide +kernel
theorem dX5_bin_57 : decode cX5_bin 57 = .ok (.iadd, 1) := by decide +kernel
theorem dX5_bin_58 : decode cX5_bin 58 = .ok (.putfield 76, 3) := by decide +kernel
theorem dX5_bin_61 : decode cX5_bin 61 = .ok (.aload_n 0, 1) := by decide +kernel
theorem dX5_bin_62 : decode cX5_bin 62 = .ok (.getfield 76, 3) := by decide +kernel
theorem dX5_bin_65 : decode cX5_bin 65 = .ok (.iconst 1, 1) := by decide +kernel
theorem dX5_bin_66 : decode cX5_bin 66 = .ok (.isub, 1) := by decide +kernel
theorem dX5_bin_67 : decode cX5_bin 67 = .ok (.ireturn, 1) := by decide +kernel
theorem dX5_row_0 : decode cX5_row 0 = .ok (.aload_n 0, 1) := by decide +kernel
theorem dX5_row_1 : decode cX5_row 1 = .ok (.iload_n 1, 1) := by decide +kernel
theorem dX5_row_2 : decode cX5_row 2 = .ok (.invokevirtual 83, 3) := by decide +kernel
theorem dX5_row_5 : decode cX5_row 5 = .ok (.ifCond .eq 21, 3) := by decide +kernel
theorem dX5_row_8 : decode cX5_row 8 = .ok (.iload_n 2, 1) := by decide +kernel
theorem dX5_row_9 : decode cX5_row 9 = .ok (.invokestatic 87, 3) := by decide +kernel
theorem dX5_row_12 : decode cX5_row 12 = .ok (.ifCond .eq 14, 3) := by decide +kernel
theorem dX5_row_15 : decode cX5_row 15 = .ok (.iload_n 3, 1) := by decide +kernel
theorem dX5_row_16 : decode cX5_row 16 = .ok (.iconst 0, 1) := by decide +kernel
theorem dX5_row_17 : decode cX5_row 17 = .ok (.sipush 1500, 3) := by decide +kernel
theorem dX5_row_20 : decode cX5_row 20 = .ok (.invokestatic 79, 3) := by decide +kernel
theorem dX5_row_23 : decode cX5_row 23 = .ok (.ifCond .ne 5, 3) := by decide +kernel
theorem dX5_row_26 : decode cX5_row 26 = .ok (.iconst (-1), 1) := by decide +kernel
theorem dX5_row_27 : decode cX5_row 27 = .ok (.ireturn, 1) := by decide +kernel
theorem dX5_row_28 : decode cX5_row 28 = .ok (.iconst 0, 1) := by decide +kernel
theorem dX5_row_29 : decode cX5_row 29 = .ok (.istore 4, 2) := by decide +kernel
theorem dX5_row_31 : decode cX5_row 31 = .ok (.iload 4, 2) := by decide +kernel
theorem dX5_row_33 : decode cX5_row 33 = .ok (.aload_n 0, 1) := by decide +kernel
theorem dX5_row_34 : decode cX5_row 34 = .ok (.getfield 16, 3) := by decide +kernel
theorem dX5_row_37 : decode cX5_row 37 = .ok (.iload_n 1, 1) := by decide +kernel
theorem dX5_row_38 : decode cX5_row 38 = .ok (.iaload, 1) := by decide +kernel
theorem dX5_row_39 : decode cX5_row 39 = .ok (.if_icmp .ge 45, 3) := by decide +kernel
theorem dX5_row_42 : decode cX5_row 42 = .ok (.aload_n 0, 1) := by decide +kernel
theorem dX5_row_43 : decode cX5_row 43 = .ok (.getfield 19, 3) := by decide +kernel
theorem dX5_row_46 : decode cX5_row 46 = .ok (.bipush 24, 2) := by decide +kernel
theorem dX5_row_48 : decode cX5_row 48 = .ok (.iload_n 1, 1) := by decide +kernel
theorem dX5_row_49 : decode cX5_row 49 = .ok (.imul, 1) := by decide +kernel
theorem dX5_row_50 : decode cX5_row 50 = .ok (.iload 4, 2) := by decide +kernel
theorem dX5_row_52 : decode cX5_row 52 = .ok (.iadd, 1) := by decide +kernel
theorem dX5_row_53 : decode cX5_row 53 = .ok (.iaload, 1) := by decide +kernel
theorem dX5_row_54 : decode cX5_row 54 = .ok (.iload_n 2, 1) := by decide +kernel
theorem dX5_row_55 : decode cX5_row 55 = .ok (.if_icmp .ne 23, 3) := by decide +kernel
theorem dX5_row_58 : decode cX5_row 58 = .ok (.aload_n 0, 1) := by decide +kernel
theorem dX5_row_59 : decode cX5_row 59 = .ok (.getfield 22, 3) := by decide +kernel
theorem dX5_row_62 : decode cX5_row 62 = .ok (.bipush 24, 2) := by decide +kernel
theorem dX5_row_64 : decode cX5_row 64 = .ok (.iload_n 1, 1) := by decide +kernel
theorem dX5_row_65 : decode cX5_row 65 = .ok (.imul, 1) := by decide +kernel
theorem dX5_row_66 : decode cX5_row 66 = .ok (.iload 4, 2) := by decide +kernel
theorem dX5_row_68 : decode cX5_row 68 = .ok (.iadd, 1) := by decide +kernel
theorem dX5_row_69 : decode cX5_row 69 = .ok (.iload_n 3, 1) := by decide +kernel
theorem dX5_row_70 : decode cX5_row 70 = .ok (.iastore, 1) := by decide +kernel
theorem dX5_row_71 : decode cX5_row 71 = .ok (.aload_n 0, 1) := by decide +kernel
theorem dX5_row_72 : decode cX5_row 72 = .ok (.getfield 16, 3) := by decide +kernel
theorem dX5_row_75 : decode cX5_row 75 = .ok (.iload_n 1, 1) := by decide +kernel
theorem dX5_row_76 : decode cX5_row 76 = .ok (.iaload, 1) := by decide +kernel
theorem dX5_row_77 : decode cX5_row 77 = .ok (.ireturn, 1) := by decide +kernel
theorem dX5_row_78 : decode cX5_row 78 = .ok (.iinc 4 1, 3) := by decide +kernel
theorem dX5_row_81 : decode cX5_row 81 = .ok (.goto (-50), 3) := by decide +kernel
theorem dX5_row_84 : decode cX5_row 84 = .ok (.aload_n 0, 1) := by decide +kernel
theorem dX5_row_85 : decode cX5_row 85 = .ok (.getfield 16, 3) := by decide +kernel
theorem dX5_row_88 : decode cX5_row 88 = .ok (.iload_n 1, 1) := by decide +kernel
theorem dX5_row_89 : decode cX5_row 89 = .ok (.iaload, 1) := by decide +kernel
theorem dX5_row_90 : decode cX5_row 90 = .ok (.bipush 24, 2) := by decide +kernel
theorem dX5_row_92 : decode cX5_row 92 = .ok (.if_icmp .ne 5, 3) := by decide +kernel
theorem dX5_row_95 : decode cX5_row 95 = .ok (.iconst (-1), 1) := by decide +kernel
theorem dX5_row_96 : decode cX5_row 96 = .ok (.ireturn, 1) := by decide +kernel
theorem dX5_row_97 : decode cX5_row 97 = .ok (.aload_n 0, 1) := by decide +kernel
theorem dX5_row_98 : decode cX5_row 98 = .ok (.getfield 19, 3) := by decide +kernel
theorem dX5_row_101 : decode cX5_row 101 = .ok (.bipush 24, 2) := by decide +kernel
theorem dX5_row_103 : decode cX5_row 103 = .ok (.iload_n 1, 1) := by decide +kernel
theorem dX5_row_104 : decode cX5_row 104 = .ok (.imul, 1) := by decide +kernel
theorem dX5_row_105 : decode cX5_row 105 = .ok (.aload_n 0, 1) := by decide +kernel
theorem dX5_row_106 : decode cX5_row 106 = .ok (.getfield 16, 3) := by decide +kernel
theorem dX5_row_109 : decode cX5_row 109 = .ok (.iload_n 1, 1) := by decide +kernel
theorem dX5_row_110 : decode cX5_row 110 = .ok (.iaload, 1) := by decide +kernel
theorem dX5_row_111 : decode cX5_row 111 = .ok (.iadd, 1) := by decide +kernel
theorem dX5_row_112 : decode cX5_row 112 = .ok (.iload_n 2, 1) := by decide +kernel
theorem dX5_row_113 : decode cX5_row 113 = .ok (.iastore, 1) := by decide +kernel
theorem dX5_row_114 : decode cX5_row 114 = .ok (.aload_n 0, 1) := by decide +kernel
theorem dX5_row_115 : decode cX5_row 115 = .ok (.getfield 22, 3) := by decide +kernel
theorem dX5_row_118 : decode cX5_row 118 = .ok (.bipush 24, 2) := by decide +kernel
theorem dX5_row_120 : decode cX5_row 120 = .ok (.iload_n 1, 1) := by decide +kernel
theorem dX5_row_121 : decode cX5_row 121 = .ok (.imul, 1) := by decide +kernel
theorem dX5_row_122 : decode cX5_row 122 = .ok (.aload_n 0, 1) := by decide +kernel
theorem dX5_row_123 : decode cX5_row 123 = .ok (.getfield 16, 3) := by decide +kernel
theorem dX5_row_126 : decode cX5_row 126 = .ok (.iload_n 1, 1) := by decide +kernel
theorem dX5_row_127 : decode cX5_row 127 = .ok (.iaload, 1) := by decide +kernel
theorem dX5_row_128 : decode cX5_row 128 = .ok (.iadd, 1) := by decide +kernel
theorem dX5_row_129 : decode cX5_row 129 = .ok (.iload_n 3, 1) := by decide +kernel
theorem dX5_row_130 : decode cX5_row 130 = .ok (.iastore, 1) := by decide +kernel
theorem dX5_row_131 : decode cX5_row 131 = .ok (.aload_n 0, 1) := by decide +kernel
theorem dX5_row_132 : decode cX5_row 132 = .ok (.getfield 16, 3) := by decide +kernel
theorem dX5_row_135 : decode cX5_row 135 = .ok (.iload_n 1, 1) := by decide +kernel
theorem dX5_row_136 : decode cX5_row 136 = .ok (.dup2, 1) := by decide +kernel
theorem dX5_row_137 : decode cX5_row 137 = .ok (.iaload, 1) := by decide +kernel
theorem dX5_row_138 : decode cX5_row 138 = .ok (.iconst 1, 1) := by decide +kernel
theorem dX5_row_139 : decode cX5_row 139 = .ok (.iadd, 1) := by decide +kernel
theorem dX5_row_140 : decode cX5_row 140 = .ok (.iastore, 1) := by decide +kernel
theorem dX5_row_141 : decode cX5_row 141 = .ok (.aload_n 0, 1) := by decide +kernel
theorem dX5_row_142 : decode cX5_row 142 = .ok (.getfield 16, 3) := by decide +kernel
theorem dX5_row_145 : decode cX5_row 145 = .ok (.iload_n 1, 1) := by decide +kernel
theorem dX5_row_146 : decode cX5_row 146 = .ok (.iaload, 1) := by decide +kernel
theorem dX5_row_147 : decode cX5_row 147 = .ok (.ireturn, 1) := by decide +kernel
theorem dX5_emptied_0 : decode cX5_emptied 0 = .ok (.aload_n 0, 1) := by decide +kernel
theorem dX5_emptied_1 : decode cX5_emptied 1 = .ok (.iload_n 1, 1) := by decide +kernel
theorem dX5_emptied_2 : decode cX5_emptied 2 = .ok (.invokevirtual 83, 3) := by decide +kernel
theorem dX5_emptied_5 : decode cX5_emptied 5 = .ok (.ifCond .eq 20, 3) := by decide +kernel
theorem dX5_emptied_8 : decode cX5_emptied 8 = .ok (.iload_n 2, 1) := by decide +kernel
theorem dX5_emptied_9 : decode cX5_emptied 9 = .ok (.invokestatic 87, 3) := by decide +kernel
theorem dX5_emptied_12 : decode cX5_emptied 12 = .ok (.ifCond .eq 13, 3) := by decide +kernel
theorem dX5_emptied_15 : decode cX5_emptied 15 = .ok (.iload_n 3, 1) := by decide +kernel
theorem dX5_emptied_16 : decode cX5_emptied 16 = .ok (.iconst 0, 1) := by decide +kernel
theorem dX5_emptied_17 : decode cX5_emptied 17 = .ok (.ldc 90, 2) := by decide +kernel
theorem dX5_emptied_19 : decode cX5_emptied 19 = .ok (.invokestatic 79, 3) := by decide +kernel
theorem dX5_emptied_22 : decode cX5_emptied 22 = .ok (.ifCond .ne 5, 3) := by decide +kernel
theorem dX5_emptied_25 : decode cX5_emptied 25 = .ok (.iconst (-1), 1) := by decide +kernel
theorem dX5_emptied_26 : decode cX5_emptied 26 = .ok (.ireturn, 1) := by decide +kernel
theorem dX5_emptied_27 : decode cX5_emptied 27 = .ok (.iconst 0, 1) := by decide +kernel
theorem dX5_emptied_28 : decode cX5_emptied 28 = .ok (.istore 4, 2) := by decide +kernel
theorem dX5_emptied_30 : decode cX5_emptied 30 = .ok (.iload 4, 2) := by decide +kernel
theorem dX5_emptied_32 : decode cX5_emptied 32 = .ok (.aload_n 0, 1) := by decide +kernel
theorem dX5_emptied_33 : decode cX5_emptied 33 = .ok (.getfield 25, 3) := by decide +kernel
theorem dX5_emptied_36 : decode cX5_emptied 36 = .ok (.iload_n 1, 1) := by decide +kernel
theorem dX5_emptied_37 : decode cX5_emptied 37 = .ok (.iaload, 1) := by decide +kernel
theorem dX5_emptied_38 : decode cX5_emptied 38 = .ok (.if_icmp .ge 45, 3) := by decide +kernel
theorem dX5_emptied_41 : decode cX5_emptied 41 = .ok (.aload_n 0, 1) := by decide +kernel
theorem dX5_emptied_42 : decode cX5_emptied 42 = .ok (.getfield 28, 3) := by decide +kernel
theorem dX5_emptied_45 : decode cX5_emptied 45 = .ok (.bipush 8, 2) := by decide +kernel
theorem dX5_emptied_47 : decode cX5_emptied 47 = .ok (.iload_n 1, 1) := by decide +kernel
theorem dX5_emptied_48 : decode cX5_emptied 48 = .ok (.imul, 1) := by decide +kernel
theorem dX5_emptied_49 : decode cX5_emptied 49 = .ok (.iload 4, 2) := by decide +kernel
theorem dX5_emptied_51 : decode cX5_emptied 51 = .ok (.iadd, 1) := by decide +kernel
theorem dX5_emptied_52 : decode cX5_emptied 52 = .ok (.iaload, 1) := by decide +kernel
theorem dX5_emptied_53 : decode cX5_emptied 53 = .ok (.iload_n 2, 1) := by decide +kernel
theorem dX5_emptied_54 : decode cX5_emptied 54 = .ok (.if_icmp .ne 23, 3) := by decide +kernel
theorem dX5_emptied_57 : decode cX5_emptied 57 = .ok (.aload_n 0, 1) := by decide +kernel
theorem dX5_emptied_58 : decode cX5_emptied 58 = .ok (.getfield 31, 3) := by decide +kernel
theorem dX5_emptied_61 : decode cX5_emptied 61 = .ok (.bipush 8, 2) := by decide +kernel
theorem dX5_emptied_63 : decode cX5_emptied 63 = .ok (.iload_n 1, 1) := by decide +kernel
theorem dX5_emptied_64 : decode cX5_emptied 64 = .ok (.imul, 1) := by decide +kernel
theorem dX5_emptied_65 : decode cX5_emptied 65 = .ok (.iload 4, 2) := by decide +kernel
theorem dX5_emptied_67 : decode cX5_emptied 67 = .ok (.iadd, 1) := by decide +kernel
theorem dX5_emptied_68 : decode cX5_emptied 68 = .ok (.iload_n 3, 1) := by decide +kernel
theorem dX5_emptied_69 : decode cX5_emptied 69 = .ok (.iastore, 1) := by decide +kernel
theorem dX5_emptied_70 : decode cX5_emptied 70 = .ok (.aload_n 0, 1) := by decide +kernel
theorem dX5_emptied_71 : decode cX5_emptied 71 = .ok (.getfield 25, 3) := by decide +kernel
theorem dX5_emptied_74 : decode cX5_emptied 74 = .ok (.iload_n 1, 1) := by decide +kernel
theorem dX5_emptied_75 : decode cX5_emptied 75 = .ok (.iaload, 1) := by decide +kernel
theorem dX5_emptied_76 : decode cX5_emptied 76 = .ok (.ireturn, 1) := by decide +kernel
theorem dX5_emptied_77 : decode cX5_emptied 77 = .ok (.iinc 4 1, 3) := by decide +kernel
theorem dX5_emptied_80 : decode cX5_emptied 80 = .ok (.goto (-50), 3) := by decide +kernel
theorem dX5_emptied_83 : decode cX5_emptied 83 = .ok (.aload_n 0, 1) := by decide +kernel
theorem dX5_emptied_84 : decode cX5_emptied 84 = .ok (.getfield 25, 3) := by decide +kernel
theorem dX5_emptied_87 : decode cX5_emptied 87 = .ok (.iload_n 1, 1) := by decide +kernel
theorem dX5_emptied_88 : decode cX5_emptied 88 = .ok (.iaload, 1) := by decide +kernel
theorem dX5_emptied_89 : decode cX5_emptied 89 = .ok (.bipush 8, 2) := by decide +kernel
theorem dX5_emptied_91 : decode cX5_emptied 91 = .ok (.if_icmp .ne 5, 3) := by decide +kernel
theorem dX5_emptied_94 : decode cX5_emptied 94 = .ok (.iconst (-1), 1) := by decide +kernel
theorem dX5_emptied_95 : decode cX5_emptied 95 = .ok (.ireturn, 1) := by decide +kernel
theorem dX5_emptied_96 : decode cX5_emptied 96 = .ok (.aload_n 0, 1) := by decide +kernel
theorem dX5_emptied_97 : decode cX5_emptied 97 = .ok (.getfield 28, 3) := by decide +kernel
theorem dX5_emptied_100 : decode cX5_emptied 100 = .ok (.bipush 8, 2) := by decide +kernel
theorem dX5_emptied_102 : decode cX5_emptied 102 = .ok (.iload_n 1, 1) := by decide +kernel
theorem dX5_emptied_103 : decode cX5_emptied 103 = .ok (.imul, 1) := by decide +kernel
theorem dX5_emptied_104 : decode cX5_emptied 104 = .ok (.aload_n 0, 1) := by decide +kernel
theorem dX5_emptied_105 : decode cX5_emptied 105 = .ok (.getfield 25, 3) := by decide +kernel
theorem dX5_emptied_108 : decode cX5_emptied 108 = .ok (.iload_n 1, 1) := by decide +kernel
theorem dX5_emptied_109 : decode cX5_emptied 109 = .ok (.iaload, 1) := by decide +kernel
theorem dX5_emptied_110 : decode cX5_emptied 110 = .ok (.iadd, 1) := by decide +kernel
theorem dX5_emptied_111 : decode cX5_emptied 111 = .ok (.iload_n 2, 1) := by decide +kernel
theorem dX5_emptied_112 : decode cX5_emptied 112 = .ok (.iastore, 1) := by decide +kernel
theorem dX5_emptied_113 : decode cX5_emptied 113 = .ok (.aload_n 0, 1) := by decide +kernel
theorem dX5_emptied_114 : decode cX5_emptied 114 = .ok (.getfield 31, 3) := by decide +kernel
theorem dX5_emptied_117 : decode cX5_emptied 117 = .ok (.bipush 8, 2) := by decide +kernel
theorem dX5_emptied_119 : decode cX5_emptied 119 = .ok (.iload_n 1, 1) := by decide +kernel
theorem dX5_emptied_120 : decode cX5_emptied 120 = .ok (.imul, 1) := by decide +kernel
theorem dX5_emptied_121 : decode cX5_emptied 121 = .ok (.aload_n 0, 1) := by decide +kernel
theorem dX5_emptied_122 : decode cX5_emptied 122 = .ok (.getfield 25, 3) := by decide +kernel
theorem dX5_emptied_125 : decode cX5_emptied 125 = .ok (.iload_n 1, 1) := by decide +kernel
theorem dX5_emptied_126 : decode cX5_emptied 126 = .ok (.iaload, 1) := by decide +kernel
theorem dX5_emptied_127 : decode cX5_emptied 127 = .ok (.iadd, 1) := by decide +kernel
theorem dX5_emptied_128 : decode cX5_emptied 128 = .ok (.iload_n 3, 1) := by decide +kernel
theorem dX5_emptied_129 : decode cX5_emptied 129 = .ok (.iastore, 1) := by decide +kernel
theorem dX5_emptied_130 : decode cX5_emptied 130 = .ok (.aload_n 0, 1) := by decide +kernel
theorem dX5_emptied_131 : decode cX5_emptied 131 = .ok (.getfield 25, 3) := by decide +kernel
theorem dX5_emptied_134 : decode cX5_emptied 134 = .ok (.iload_n 1, 1) := by decide +kernel
theorem dX5_emptied_135 : decode cX5_emptied 135 = .ok (.dup2, 1) := by decide +kernel
theorem dX5_emptied_136 : decode cX5_emptied 136 = .ok (.iaload, 1) := by decide +kernel
theorem dX5_emptied_137 : decode cX5_emptied 137 = .ok (.iconst 1, 1) := by decide +kernel
theorem dX5_emptied_138 : decode cX5_emptied 138 = .ok (.iadd, 1) := by decide +kernel
theorem dX5_emptied_139 : decode cX5_emptied 139 = .ok (.iastore, 1) := by decide +kernel
theorem dX5_emptied_140 : decode cX5_emptied 140 = .ok (.aload_n 0, 1) := by decide +kernel
theorem dX5_emptied_141 : decode cX5_emptied 141 = .ok (.getfield 25, 3) := by decide +kernel
theorem dX5_emptied_144 : decode cX5_emptied 144 = .ok (.iload_n 1, 1) := by decide +kernel
theorem dX5_emptied_145 : decode cX5_emptied 145 = .ok (.iaload, 1) := by decide +kernel
theorem dX5_emptied_146 : decode cX5_emptied 146 = .ok (.ireturn, 1) := by decide +kernel
theorem dX5_fade_0 : decode cX5_fade 0 = .ok (.iload_n 1, 1) := by decide +kernel
theorem dX5_fade_1 : decode cX5_fade 1 = .ok (.iconst 1, 1) := by decide +kernel
theorem dX5_fade_2 : decode cX5_fade 2 = .ok (.iload_n 2, 1) := by decide +kernel
theorem dX5_fade_3 : decode cX5_fade 3 = .ok (.invokestatic 79, 3) := by decide +kernel
theorem dX5_fade_6 : decode cX5_fade 6 = .ok (.ifCond .eq 9, 3) := by decide +kernel
theorem dX5_fade_9 : decode cX5_fade 9 = .ok (.iload_n 2, 1) := by decide +kernel
theorem dX5_fade_10 : decode cX5_fade 10 = .ok (.bipush 9, 2) := by decide +kernel
theorem dX5_fade_12 : decode cX5_fade 12 = .ok (.if_icmp .le 5, 3) := by decide +kernel
theorem dX5_fade_15 : decode cX5_fade 15 = .ok (.iconst 0, 1) := by decide +kernel
theorem dX5_fade_16 : decode cX5_fade 16 = .ok (.ireturn, 1) := by decide +kernel
theorem dX5_fade_17 : decode cX5_fade 17 = .ok (.aload_n 0, 1) := by decide +kernel
theorem dX5_fade_18 : decode cX5_fade 18 = .ok (.iload_n 1, 1) := by decide +kernel
theorem dX5_fade_19 : decode cX5_fade 19 = .ok (.putfield 34, 3) := by decide +kernel
theorem dX5_fade_22 : decode cX5_fade 22 = .ok (.aload_n 0, 1) := by decide +kernel
theorem dX5_fade_23 : decode cX5_fade 23 = .ok (.iload_n 2, 1) := by decide +kernel
theorem dX5_fade_24 : decode cX5_fade 24 = .ok (.putfield 38, 3) := by decide +kernel
theorem dX5_fade_27 : decode cX5_fade 27 = .ok (.iconst 1, 1) := by decide +kernel
theorem dX5_fade_28 : decode cX5_fade 28 = .ok (.ireturn, 1) := by decide +kernel
theorem dX5_holiday_0 : decode cX5_holiday 0 = .ok (.iload_n 1, 1) := by decide +kernel
theorem dX5_holiday_1 : decode cX5_holiday 1 = .ok (.invokestatic 91, 3) := by decide +kernel
theorem dX5_holiday_4 : decode cX5_holiday 4 = .ok (.ifCond .ne 5, 3) := by decide +kernel
theorem dX5_holiday_7 : decode cX5_holiday 7 = .ok (.iconst 0, 1) := by decide +kernel
theorem dX5_holiday_8 : decode cX5_holiday 8 = .ok (.ireturn, 1) := by decide +kernel
theorem dX5_holiday_9 : decode cX5_holiday 9 = .ok (.aload_n 0, 1) := by decide +kernel
theorem dX5_holiday_10 : decode cX5_holiday 10 = .ok (.getfield 41, 3) := by decide +kernel
theorem dX5_holiday_13 : decode cX5_holiday 13 = .ok (.iload_n 1, 1) := by decide +kernel
theorem dX5_holiday_14 : decode cX5_holiday 14 = .ok (.iload_n 2, 1) := by decide +kernel
theorem dX5_holiday_15 : decode cX5_holiday 15 = .ok (.bastore, 1) := by decide +kernel
theorem dX5_holiday_16 : decode cX5_holiday 16 = .ok (.iconst 1, 1) := by decide +kernel
theorem dX5_holiday_17 : decode cX5_holiday 17 = .ok (.ireturn, 1) := by decide +kernel
theorem dX5_quiet_0 : decode cX5_quiet 0 = .ok (.iload_n 1, 1) := by decide +kernel
theorem dX5_quiet_1 : decode cX5_quiet 1 = .ok (.iconst 0, 1) := by decide +kernel
theorem dX5_quiet_2 : decode cX5_quiet 2 = .ok (.sipush 1000, 3) := by decide +kernel
theorem dX5_quiet_5 : decode cX5_quiet 5 = .ok (.invokestatic 79, 3) := by decide +kernel
theorem dX5_quiet_8 : decode cX5_quiet 8 = .ok (.ifCond .ne 5, 3) := by decide +kernel
theorem dX5_quiet_11 : decode cX5_quiet 11 = .ok (.iconst 0, 1) := by decide +kernel
theorem dX5_quiet_12 : decode cX5_quiet 12 = .ok (.ireturn, 1) := by decide +kernel
theorem dX5_quiet_13 : decode cX5_quiet 13 = .ok (.aload_n 0, 1) := by decide +kernel
theorem dX5_quiet_14 : decode cX5_quiet 14 = .ok (.iload_n 1, 1) := by decide +kernel
theorem dX5_quiet_15 : decode cX5_quiet 15 = .ok (.putfield 45, 3) := by decide +kernel
theorem dX5_quiet_18 : decode cX5_quiet 18 = .ok (.iconst 1, 1) := by decide +kernel
theorem dX5_quiet_19 : decode cX5_quiet 19 = .ok (.ireturn, 1) := by decide +kernel
theorem dX5_cost_0 : decode cX5_cost 0 = .ok (.iload_n 1, 1) := by decide +kernel
theorem dX5_cost_1 : decode cX5_cost 1 = .ok (.iconst 0, 1) := by decide +kernel
theorem dX5_cost_2 : decode cX5_cost 2 = .ok (.sipush 1000, 3) := by decide +kernel
theorem dX5_cost_5 : decode cX5_cost 5 = .ok (.invokestatic 79, 3) := by decide +kernel
theorem dX5_cost_8 : decode cX5_cost 8 = .ok (.ifCond .eq 14, 3) := by decide +kernel
theorem dX5_cost_11 : decode cX5_cost 11 = .ok (.iload_n 2, 1) := by decide +kernel
theorem dX5_cost_12 : decode cX5_cost 12 = .ok (.iconst 0, 1) := by decide +kernel
theorem dX5_cost_13 : decode cX5_cost 13 = .ok (.sipush 1000, 3) := by decide +kernel
theorem dX5_cost_16 : decode cX5_cost 16 = .ok (.invokestatic 79, 3) := by decide +kernel
theorem dX5_cost_19 : decode cX5_cost 19 = .ok (.ifCond .ne 5, 3) := by decide +kernel
theorem dX5_cost_22 : decode cX5_cost 22 = .ok (.iconst 0, 1) := by decide +kernel
theorem dX5_cost_23 : decode cX5_cost 23 = .ok (.ireturn, 1) := by decide +kernel
theorem dX5_cost_24 : decode cX5_cost 24 = .ok (.aload_n 0, 1) := by decide +kernel
theorem dX5_cost_25 : decode cX5_cost 25 = .ok (.iload_n 1, 1) := by decide +kernel
theorem dX5_cost_26 : decode cX5_cost 26 = .ok (.putfield 48, 3) := by decide +kernel
theorem dX5_cost_29 : decode cX5_cost 29 = .ok (.aload_n 0, 1) := by decide +kernel
theorem dX5_cost_30 : decode cX5_cost 30 = .ok (.iload_n 2, 1) := by decide +kernel
theorem dX5_cost_31 : decode cX5_cost 31 = .ok (.putfield 51, 3) := by decide +kernel
theorem dX5_cost_34 : decode cX5_cost 34 = .ok (.iconst 1, 1) := by decide +kernel
theorem dX5_cost_35 : decode cX5_cost 35 = .ok (.ireturn, 1) := by decide +kernel
theorem dX5_weekdayOf_0 : decode cX5_weekdayOf 0 = .ok (.aload_n 0, 1) := by decide +kernel
theorem dX5_weekdayOf_1 : decode cX5_weekdayOf 1 = .ok (.getfield 41, 3) := by decide +kernel
theorem dX5_weekdayOf_4 : decode cX5_weekdayOf 4 = .ok (.iload_n 1, 1) := by decide +kernel
theorem dX5_weekdayOf_5 : decode cX5_weekdayOf 5 = .ok (.baload, 1) := by decide +kernel
theorem dX5_weekdayOf_6 : decode cX5_weekdayOf 6 = .ok (.ifCond .eq 8, 3) := by decide +kernel
theorem dX5_weekdayOf_9 : decode cX5_weekdayOf 9 = .ok (.bipush 6, 2) := by decide +kernel
theorem dX5_weekdayOf_11 : decode cX5_weekdayOf 11 = .ok (.goto 7, 3) := by decide +kernel
theorem dX5_weekdayOf_14 : decode cX5_weekdayOf 14 = .ok (.iload_n 1, 1) := by decide +kernel
theorem dX5_weekdayOf_15 : decode cX5_weekdayOf 15 = .ok (.bipush 7, 2) := by decide +kernel
theorem dX5_weekdayOf_17 : decode cX5_weekdayOf 17 = .ok (.irem, 1) := by decide +kernel
theorem dX5_weekdayOf_18 : decode cX5_weekdayOf 18 = .ok (.ireturn, 1) := by decide +kernel
theorem dX5_place_0 : decode cX5_place 0 = .ok (.aload_n 0, 1) := by decide +kernel
theorem dX5_place_1 : decode cX5_place 1 = .ok (.getfield 94, 3) := by decide +kernel
theorem dX5_place_4 : decode cX5_place 4 = .ok (.istore 4, 2) := by decide +kernel
theorem dX5_place_6 : decode cX5_place 6 = .ok (.iload 4, 2) := by decide +kernel
theorem dX5_place_8 : decode cX5_place 8 = .ok (.ifCond .le 87, 3) := by decide +kernel
theorem dX5_place_11 : decode cX5_place 11 = .ok (.aload_n 0, 1) := by decide +kernel
theorem dX5_place_12 : decode cX5_place 12 = .ok (.getfield 54, 3) := by decide +kernel
theorem dX5_place_15 : decode cX5_place 15 = .ok (.iload 4, 2) := by decide +kernel
theorem dX5_place_17 : decode cX5_place 17 = .ok (.iconst 1, 1) := by decide +kernel
theorem dX5_place_18 : decode cX5_place 18 = .ok (.isub, 1) := by decide +kernel
theorem dX5_place_19 : decode cX5_place 19 = .ok (.iaload, 1) := by decide +kernel
theorem dX5_place_20 : decode cX5_place 20 = .ok (.iload_n 1, 1) := by decide +kernel
theorem dX5_place_21 : decode cX5_place 21 = .ok (.if_icmp .gt 20, 3) := by decide +kernel
theorem dX5_place_24 : decode cX5_place 24 = .ok (.aload_n 0, 1) := by decide +kernel
theorem dX5_place_25 : decode cX5_place 25 = .ok (.getfield 54, 3) := by decide +kernel
theorem dX5_place_28 : decode cX5_place 28 = .ok (.iload 4, 2) := by decide +kernel
theorem dX5_place_30 : decode cX5_place 30 = .ok (.iconst 1, 1) := by decide +kernel
theorem dX5_place_31 : decode cX5_place 31 = .ok (.isub, 1) := by decide +kernel
theorem dX5_place_32 : decode cX5_place 32 = .ok (.iaload, 1) := by decide +kernel
theorem dX5_place_33 : decode cX5_place 33 = .ok (.iload_n 1, 1) := by decide +kernel
theorem dX5_place_34 : decode cX5_place 34 = .ok (.if_icmp .ne 61, 3) := by decide +kernel
theorem dX5_place_37 : decode cX5_place 37 = .ok (.iload_n 3, 1) := by decide +kernel
theorem dX5_place_38 : decode cX5_place 38 = .ok (.ifCond .ne 57, 3) := by decide +kernel
theorem dX5_place_41 : decode cX5_place 41 = .ok (.aload_n 0, 1) := by decide +kernel
theorem dX5_place_42 : decode cX5_place 42 = .ok (.getfield 54, 3) := by decide +kernel
theorem dX5_place_45 : decode cX5_place 45 = .ok (.iload 4, 2) := by decide +kernel
theorem dX5_place_47 : decode cX5_place 47 = .ok (.aload_n 0, 1) := by decide +kernel
theorem dX5_place_48 : decode cX5_place 48 = .ok (.getfield 54, 3) := by decide +kernel
theorem dX5_place_51 : decode cX5_place 51 = .ok (.iload 4, 2) := by decide +kernel
theorem dX5_place_53 : decode cX5_place 53 = .ok (.iconst 1, 1) := by decide +kernel
theorem dX5_place_54 : decode cX5_place 54 = .ok (.isub, 1) := by decide +kernel
theorem dX5_place_55 : decode cX5_place 55 = .ok (.iaload, 1) := by decide +kernel
theorem dX5_place_56 : decode cX5_place 56 = .ok (.iastore, 1) := by decide +kernel
theorem dX5_place_57 : decode cX5_place 57 = .ok (.aload_n 0, 1) := by decide +kernel
theorem dX5_place_58 : decode cX5_place 58 = .ok (.getfield 57, 3) := by decide +kernel
theorem dX5_place_61 : decode cX5_place 61 = .ok (.iload 4, 2) := by decide +kernel
theorem dX5_place_63 : decode cX5_place 63 = .ok (.aload_n 0, 1) := by decide +kernel
theorem dX5_place_64 : decode cX5_place 64 = .ok (.getfield 57, 3) := by decide +kernel
theorem dX5_place_67 : decode cX5_place 67 = .ok (.iload 4, 2) := by decide +kernel
theorem dX5_place_69 : decode cX5_place 69 = .ok (.iconst 1, 1) := by decide +kernel
theorem dX5_place_70 : decode cX5_place 70 = .ok (.isub, 1) := by decide +kernel
theorem dX5_place_71 : decode cX5_place 71 = .ok (.iaload, 1) := by decide +kernel
theorem dX5_place_72 : decode cX5_place 72 = .ok (.iastore, 1) := by decide +kernel
theorem dX5_place_73 : decode cX5_place 73 = .ok (.aload_n 0, 1) := by decide +kernel
theorem dX5_place_74 : decode cX5_place 74 = .ok (.getfield 60, 3) := by decide +kernel
theorem dX5_place_77 : decode cX5_place 77 = .ok (.iload 4, 2) := by decide +kernel
theorem dX5_place_79 : decode cX5_place 79 = .ok (.aload_n 0, 1) := by decide +kernel
theorem dX5_place_80 : decode cX5_place 80 = .ok (.getfield 60, 3) := by decide +kernel
theorem dX5_place_83 : decode cX5_place 83 = .ok (.iload 4, 2) := by decide +kernel
theorem dX5_place_85 : decode cX5_place 85 = .ok (.iconst 1, 1) := by decide +kernel
theorem dX5_place_86 : decode cX5_place 86 = .ok (.isub, 1) := by decide +kernel
theorem dX5_place_87 : decode cX5_place 87 = .ok (.baload, 1) := by decide +kernel
theorem dX5_place_88 : decode cX5_place 88 = .ok (.bastore, 1) := by decide +kernel
theorem dX5_place_89 : decode cX5_place 89 = .ok (.iinc 4 (-1), 3) := by decide +kernel
theorem dX5_place_92 : decode cX5_place 92 = .ok (.goto (-86), 3) := by decide +kernel
theorem dX5_place_95 : decode cX5_place 95 = .ok (.aload_n 0, 1) := by decide +kernel
theorem dX5_place_96 : decode cX5_place 96 = .ok (.getfield 54, 3) := by decide +kernel
theorem dX5_place_99 : decode cX5_place 99 = .ok (.iload 4, 2) := by decide +kernel
theorem dX5_place_101 : decode cX5_place 101 = .ok (.iload_n 1, 1) := by decide +kernel
theorem dX5_place_102 : decode cX5_place 102 = .ok (.iastore, 1) := by decide +kernel
theorem dX5_place_103 : decode cX5_place 103 = .ok (.aload_n 0, 1) := by decide +kernel
theorem dX5_place_104 : decode cX5_place 104 = .ok (.getfield 57, 3) := by decide +kernel
theorem dX5_place_107 : decode cX5_place 107 = .ok (.iload 4, 2) := by decide +kernel
theorem dX5_place_109 : decode cX5_place 109 = .ok (.iload_n 2, 1) := by decide +kernel
theorem dX5_place_110 : decode cX5_place 110 = .ok (.iastore, 1) := by decide +kernel
theorem dX5_place_111 : decode cX5_place 111 = .ok (.aload_n 0, 1) := by decide +kernel
theorem dX5_place_112 : decode cX5_place 112 = .ok (.getfield 60, 3) := by decide +kernel
theorem dX5_place_115 : decode cX5_place 115 = .ok (.iload 4, 2) := by decide +kernel
theorem dX5_place_117 : decode cX5_place 117 = .ok (.iload_n 3, 1) := by decide +kernel
theorem dX5_place_118 : decode cX5_place 118 = .ok (.bastore, 1) := by decide +kernel
theorem dX5_place_119 : decode cX5_place 119 = .ok (.aload_n 0, 1) := by decide +kernel
theorem dX5_place_120 : decode cX5_place 120 = .ok (.dup, 1) := by decide +kernel
theorem dX5_place_121 : decode cX5_place 121 = .ok (.getfield 94, 3) := by decide +kernel
theorem dX5_place_124 : decode cX5_place 124 = .ok (.iconst 1, 1) := by decide +kernel
theorem dX5_place_125 : decode cX5_place 125 = .ok (.iadd, 1) := by decide +kernel
theorem dX5_place_126 : decode cX5_place 126 = .ok (.putfield 94, 3) := by decide +kernel
theorem dX5_place_129 : decode cX5_place 129 = .ok (.return_, 1) := by decide +kernel
theorem dX5_layOut_0 : decode cX5_layOut 0 = .ok (.aload_n 0, 1) := by decide +kernel
theorem dX5_layOut_1 : decode cX5_layOut 1 = .ok (.iconst 0, 1) := by decide +kernel
theorem dX5_layOut_2 : decode cX5_layOut 2 = .ok (.putfield 94, 3) := by decide +kernel
theorem dX5_layOut_5 : decode cX5_layOut 5 = .ok (.iconst 0, 1) := by decide +kernel
theorem dX5_layOut_6 : decode cX5_layOut 6 = .ok (.istore_n 2, 1) := by decide +kernel
theorem dX5_layOut_7 : decode cX5_layOut 7 = .ok (.iload_n 2, 1) := by decide +kernel
theorem dX5_layOut_8 : decode cX5_layOut 8 = .ok (.aload_n 0, 1) := by decide +kernel
theorem dX5_layOut_9 : decode cX5_layOut 9 = .ok (.getfield 16, 3) := by decide +kernel
theorem dX5_layOut_12 : decode cX5_layOut 12 = .ok (.iload_n 1, 1) := by decide +kernel
theorem dX5_layOut_13 : decode cX5_layOut 13 = .ok (.iaload, 1) := by decide +kernel
theorem dX5_layOut_14 : decode cX5_layOut 14 = .ok (.if_icmp .ge 36, 3) := by decide +kernel
theorem dX5_layOut_17 : decode cX5_layOut 17 = .ok (.aload_n 0, 1) := by decide +kernel
theorem dX5_layOut_18 : decode cX5_layOut 18 = .ok (.aload_n 0, 1) := by decide +kernel
theorem dX5_layOut_19 : decode cX5_layOut 19 = .ok (.getfield 19, 3) := by decide +kernel
theorem dX5_layOut_22 : decode cX5_layOut 22 = .ok (.bipush 24, 2) := by decide +kernel
theorem dX5_layOut_24 : decode cX5_layOut 24 = .ok (.iload_n 1, 1) := by decide +kernel
theorem dX5_layOut_25 : decode cX5_layOut 25 = .ok (.imul, 1) := by decide +kernel
theorem dX5_layOut_26 : decode cX5_layOut 26 = .ok (.iload_n 2, 1) := by decide +kernel
theorem dX5_layOut_27 : decode cX5_layOut 27 = .ok (.iadd, 1) := by decide +kernel
theorem dX5_layOut_28 : decode cX5_layOut 28 = .ok (.iaload, 1) := by decide +kernel
theorem dX5_layOut_29 : decode cX5_layOut 29 = .ok (.aload_n 0, 1) := by decide +kernel
theorem dX5_layOut_30 : decode cX5_layOut 30 = .ok (.getfield 22, 3) := by decide +kernel
theorem dX5_layOut_33 : decode cX5_layOut 33 = .ok (.bipush 24, 2) := by decide +kernel
theorem dX5_layOut_35 : decode cX5_layOut 35 = .ok (.iload_n 1, 1) := by decide +kernel
theorem dX5_layOut_36 : decode cX5_layOut 36 = .ok (.imul, 1) := by decide +kernel
theorem dX5_layOut_37 : decode cX5_layOut 37 = .ok (.iload_n 2, 1) := by decide +kernel
theorem dX5_layOut_38 : decode cX5_layOut 38 = .ok (.iadd, 1) := by decide +kernel
theorem dX5_layOut_39 : decode cX5_layOut 39 = .ok (.iaload, 1) := by decide +kernel
theorem dX5_layOut_40 : decode cX5_layOut 40 = .ok (.iconst 0, 1) := by decide +kernel
theorem dX5_layOut_41 : decode cX5_layOut 41 = .ok (.invokevirtual 97, 3) := by decide +kernel
theorem dX5_layOut_44 : decode cX5_layOut 44 = .ok (.iinc 2 1, 3) := by decide +kernel
theorem dX5_layOut_47 : decode cX5_layOut 47 = .ok (.goto (-40), 3) := by decide +kernel
theorem dX5_layOut_50 : decode cX5_layOut 50 = .ok (.iconst 0, 1) := by decide +kernel
theorem dX5_layOut_51 : decode cX5_layOut 51 = .ok (.istore_n 2, 1) := by decide +kernel
theorem dX5_layOut_52 : decode cX5_layOut 52 = .ok (.iload_n 2, 1) := by decide +kernel
theorem dX5_layOut_53 : decode cX5_layOut 53 = .ok (.aload_n 0, 1) := by decide +kernel
theorem dX5_layOut_54 : decode cX5_layOut 54 = .ok (.getfield 25, 3) := by decide +kernel
theorem dX5_layOut_57 : decode cX5_layOut 57 = .ok (.iload_n 1, 1) := by decide +kernel
theorem dX5_layOut_58 : decode cX5_layOut 58 = .ok (.iaload, 1) := by decide +kernel
theorem dX5_layOut_59 : decode cX5_layOut 59 = .ok (.if_icmp .ge 26, 3) := by decide +kernel
theorem dX5_layOut_62 : decode cX5_layOut 62 = .ok (.aload_n 0, 1) := by decide +kernel
theorem dX5_layOut_63 : decode cX5_layOut 63 = .ok (.aload_n 0, 1) := by decide +kernel
theorem dX5_layOut_64 : decode cX5_layOut 64 = .ok (.getfield 28, 3) := by decide +kernel
theorem dX5_layOut_67 : decode cX5_layOut 67 = .ok (.bipush 8, 2) := by decide +kernel
theorem dX5_layOut_69 : decode cX5_layOut 69 = .ok (.iload_n 1, 1) := by decide +kernel
theorem dX5_layOut_70 : decode cX5_layOut 70 = .ok (.imul, 1) := by decide +kernel
theorem dX5_layOut_71 : decode cX5_layOut 71 = .ok (.iload_n 2, 1) := by decide +kernel
theorem dX5_layOut_72 : decode cX5_layOut 72 = .ok (.iadd, 1) := by decide +kernel
theorem dX5_layOut_73 : decode cX5_layOut 73 = .ok (.iaload, 1) := by decide +kernel
theorem dX5_layOut_74 : decode cX5_layOut 74 = .ok (.iconst 0, 1) := by decide +kernel
theorem dX5_layOut_75 : decode cX5_layOut 75 = .ok (.iconst 1, 1) := by decide +kernel
theorem dX5_layOut_76 : decode cX5_layOut 76 = .ok (.invokevirtual 97, 3) := by decide +kernel
theorem dX5_layOut_79 : decode cX5_layOut 79 = .ok (.iinc 2 1, 3) := by decide +kernel
theorem dX5_layOut_82 : decode cX5_layOut 82 = .ok (.goto (-30), 3) := by decide +kernel
theorem dX5_layOut_85 : decode cX5_layOut 85 = .ok (.iconst (-1), 1) := by decide +kernel
theorem dX5_layOut_86 : decode cX5_layOut 86 = .ok (.istore_n 2, 1) := by decide +kernel
theorem dX5_layOut_87 : decode cX5_layOut 87 = .ok (.iconst 0, 1) := by decide +kernel
theorem dX5_layOut_88 : decode cX5_layOut 88 = .ok (.istore_n 3, 1) := by decide +kernel
theorem dX5_layOut_89 : decode cX5_layOut 89 = .ok (.iload_n 3, 1) := by decide +kernel
theorem dX5_layOut_90 : decode cX5_layOut 90 = .ok (.aload_n 0, 1) := by decide +kernel
theorem dX5_layOut_91 : decode cX5_layOut 91 = .ok (.getfield 94, 3) := by decide +kernel
theorem dX5_layOut_94 : decode cX5_layOut 94 = .ok (.if_icmp .ge 137, 3) := by decide +kernel
theorem dX5_layOut_97 : decode cX5_layOut 97 = .ok (.aload_n 0, 1) := by decide +kernel
theorem dX5_layOut_98 : decode cX5_layOut 98 = .ok (.getfield 63, 3) := by decide +kernel
theorem dX5_layOut_101 : decode cX5_layOut 101 = .ok (.iload_n 3, 1) := by decide +kernel
theorem dX5_layOut_102 : decode cX5_layOut 102 = .ok (.aload_n 0, 1) := by decide +kernel
theorem dX5_layOut_103 : decode cX5_layOut 103 = .ok (.getfield 60, 3) := by decide +kernel
theorem dX5_layOut_106 : decode cX5_layOut 106 = .ok (.iload_n 3, 1) := by decide +kernel
theorem dX5_layOut_107 : decode cX5_layOut 107 = .ok (.baload, 1) := by decide +kernel
theorem dX5_layOut_108 : decode cX5_layOut 108 = .ok (.ifCond .ne 26, 3) := by decide +kernel
theorem dX5_layOut_111 : decode cX5_layOut 111 = .ok (.iload_n 2, 1) := by decide +kernel
theorem dX5_layOut_112 : decode cX5_layOut 112 = .ok (.ifCond .lt 22, 3) := by decide +kernel
theorem dX5_layOut_115 : decode cX5_layOut 115 = .ok (.aload_n 0, 1) := by decide +kernel
theorem dX5_layOut_116 : decode cX5_layOut 116 = .ok (.getfield 57, 3) := by decide +kernel
theorem dX5_layOut_119 : decode cX5_layOut 119 = .ok (.iload_n 3, 1) := by decide +kernel
theorem dX5_layOut_120 : decode cX5_layOut 120 = .ok (.iaload, 1) := by decide +kernel
theorem dX5_layOut_121 : decode cX5_layOut 121 = .ok (.aload_n 0, 1) := by decide +kernel
theorem dX5_layOut_122 : decode cX5_layOut 122 = .ok (.getfield 57, 3) := by decide +kernel
theorem dX5_layOut_125 : decode cX5_layOut 125 = .ok (.iload_n 2, 1) := by decide +kernel
theorem dX5_layOut_126 : decode cX5_layOut 126 = .ok (.iaload, 1) := by decide +kernel
theorem dX5_layOut_127 : decode cX5_layOut 127 = .ok (.if_icmp .ge 7, 3) := by decide +kernel
theorem dX5_layOut_130 : decode cX5_layOut 130 = .ok (.iconst 1, 1) := by decide +kernel
theorem dX5_layOut_131 : decode cX5_layOut 131 = .ok (.goto 4, 3) := by decide +kernel
theorem dX5_layOut_134 : decode cX5_layOut 134 = .ok (.iconst 0, 1) := by decide +kernel
theorem dX5_layOut_135 : decode cX5_layOut 135 = .ok (.bastore, 1) := by decide +kernel
theorem dX5_layOut_136 : decode cX5_layOut 136 = .ok (.aload_n 0, 1) := by decide +kernel
theorem dX5_layOut_137 : decode cX5_layOut 137 = .ok (.getfield 60, 3) := by decide +kernel
theorem dX5_layOut_140 : decode cX5_layOut 140 = .ok (.iload_n 3, 1) := by decide +kernel
theorem dX5_layOut_141 : decode cX5_layOut 141 = .ok (.baload, 1) := by decide +kernel
theorem dX5_layOut_142 : decode cX5_layOut 142 = .ok (.ifCond .ne 20, 3) := by decide +kernel
theorem dX5_layOut_145 : decode cX5_layOut 145 = .ok (.aload_n 0, 1) := by decide +kernel
theorem dX5_layOut_146 : decode cX5_layOut 146 = .ok (.getfield 63, 3) := by decide +kernel
theorem dX5_layOut_149 : decode cX5_layOut 149 = .ok (.iload_n 3, 1) := by decide +kernel
theorem dX5_layOut_150 : decode cX5_layOut 150 = .ok (.baload, 1) := by decide +kernel
theorem dX5_layOut_151 : decode cX5_layOut 151 = .ok (.ifCond .ne 11, 3) := by decide +kernel
theorem dX5_layOut_154 : decode cX5_layOut 154 = .ok (.iload_n 2, 1) := by decide +kernel
theorem dX5_layOut_155 : decode cX5_layOut 155 = .ok (.ifCond .lt 7, 3) := by decide +kernel
theorem dX5_layOut_158 : decode cX5_layOut 158 = .ok (.iconst 1, 1) := by decide +kernel
theorem dX5_layOut_159 : decode cX5_layOut 159 = .ok (.goto 4, 3) := by decide +kernel
theorem dX5_layOut_162 : decode cX5_layOut 162 = .ok (.iconst 0, 1) := by decide +kernel
theorem dX5_layOut_163 : decode cX5_layOut 163 = .ok (.istore 4, 2) := by decide +kernel
theorem dX5_layOut_165 : decode cX5_layOut 165 = .ok (.aload_n 0, 1) := by decide +kernel
theorem dX5_layOut_166 : decode cX5_layOut 166 = .ok (.getfield 66, 3) := by decide +kernel
theorem dX5_layOut_169 : decode cX5_layOut 169 = .ok (.iload_n 3, 1) := by decide +kernel
theorem dX5_layOut_170 : decode cX5_layOut 170 = .ok (.iload 4, 2) := by decide +kernel
theorem dX5_layOut_172 : decode cX5_layOut 172 = .ok (.ifCond .eq 36, 3) := by decide +kernel
theorem dX5_layOut_175 : decode cX5_layOut 175 = .ok (.aload_n 0, 1) := by decide +kernel
theorem dX5_layOut_176 : decode cX5_layOut 176 = .ok (.getfield 57, 3) := by decide +kernel
theorem dX5_layOut_179 : decode cX5_layOut 179 = .ok (.iload_n 3, 1) := by decide +kernel
theorem dX5_layOut_180 : decode cX5_layOut 180 = .ok (.iaload, 1) := by decide +kernel
theorem dX5_layOut_181 : decode cX5_layOut 181 = .ok (.aload_n 0, 1) := by decide +kernel
theorem dX5_layOut_182 : decode cX5_layOut 182 = .ok (.getfield 57, 3) := by decide +kernel
theorem dX5_layOut_185 : decode cX5_layOut 185 = .ok (.iload_n 2, 1) := by decide +kernel
theorem dX5_layOut_186 : decode cX5_layOut 186 = .ok (.iaload, 1) := by decide +kernel
theorem dX5_layOut_187 : decode cX5_layOut 187 = .ok (.isub, 1) := by decide +kernel
theorem dX5_layOut_188 : decode cX5_layOut 188 = .ok (.bipush 24, 2) := by decide +kernel
theorem dX5_layOut_190 : decode cX5_layOut 190 = .ok (.imul, 1) := by decide +kernel
theorem dX5_layOut_191 : decode cX5_layOut 191 = .ok (.aload_n 0, 1) := by decide +kernel
theorem dX5_layOut_192 : decode cX5_layOut 192 = .ok (.getfield 54, 3) := by decide +kernel
theorem dX5_layOut_195 : decode cX5_layOut 195 = .ok (.iload_n 3, 1) := by decide +kernel
theorem dX5_layOut_196 : decode cX5_layOut 196 = .ok (.iaload, 1) := by decide +kernel
theorem dX5_layOut_197 : decode cX5_layOut 197 = .ok (.aload_n 0, 1) := by decide +kernel
theorem dX5_layOut_198 : decode cX5_layOut 198 = .ok (.getfield 54, 3) := by decide +kernel
theorem dX5_layOut_201 : decode cX5_layOut 201 = .ok (.iload_n 2, 1) := by decide +kernel
theorem dX5_layOut_202 : decode cX5_layOut 202 = .ok (.iaload, 1) := by decide +kernel
theorem dX5_layOut_203 : decode cX5_layOut 203 = .ok (.isub, 1) := by decide +kernel
theorem dX5_layOut_204 : decode cX5_layOut 204 = .ok (.idiv, 1) := by decide +kernel
theorem dX5_layOut_205 : decode cX5_layOut 205 = .ok (.goto 4, 3) := by decide +kernel
theorem dX5_layOut_208 : decode cX5_layOut 208 = .ok (.iconst (-1), 1) := by decide +kernel
theorem dX5_layOut_209 : decode cX5_layOut 209 = .ok (.iastore, 1) := by decide +kernel
theorem dX5_layOut_210 : decode cX5_layOut 210 = .ok (.aload_n 0, 1) := by decide +kernel
theorem dX5_layOut_211 : decode cX5_layOut 211 = .ok (.getfield 63, 3) := by decide +kernel
theorem dX5_layOut_214 : decode cX5_layOut 214 = .ok (.iload_n 3, 1) := by decide +kernel
theorem dX5_layOut_215 : decode cX5_layOut 215 = .ok (.baload, 1) := by decide +kernel
theorem dX5_layOut_216 : decode cX5_layOut 216 = .ok (.ifCond .eq 7, 3) := by decide +kernel
theorem dX5_layOut_219 : decode cX5_layOut 219 = .ok (.iload_n 2, 1) := by decide +kernel
theorem dX5_layOut_220 : decode cX5_layOut 220 = .ok (.goto 4, 3) := by decide +kernel
theorem dX5_layOut_223 : decode cX5_layOut 223 = .ok (.iload_n 3, 1) := by decide +kernel
theorem dX5_layOut_224 : decode cX5_layOut 224 = .ok (.istore_n 2, 1) := by decide +kernel
theorem dX5_layOut_225 : decode cX5_layOut 225 = .ok (.iinc 3 1, 3) := by decide +kernel
theorem dX5_layOut_228 : decode cX5_layOut 228 = .ok (.goto (-139), 3) := by decide +kernel
theorem dX5_layOut_231 : decode cX5_layOut 231 = .ok (.return_, 1) := by decide +kernel
theorem dX5_weightOf_0 : decode cX5_weightOf 0 = .ok (.iconst 1, 1) := by decide +kernel
theorem dX5_weightOf_1 : decode cX5_weightOf 1 = .ok (.istore_n 2, 1) := by decide +kernel
theorem dX5_weightOf_2 : decode cX5_weightOf 2 = .ok (.iconst 0, 1) := by decide +kernel
theorem dX5_weightOf_3 : decode cX5_weightOf 3 = .ok (.istore_n 3, 1) := by decide +kernel
theorem dX5_weightOf_4 : decode cX5_weightOf 4 = .ok (.iload_n 3, 1) := by decide +kernel
theorem dX5_weightOf_5 : decode cX5_weightOf 5 = .ok (.bipush 7, 2) := by decide +kernel
theorem dX5_weightOf_7 : decode cX5_weightOf 7 = .ok (.if_icmp .ge 28, 3) := by decide +kernel
theorem dX5_weightOf_10 : decode cX5_weightOf 10 = .ok (.iload_n 2, 1) := by decide +kernel
theorem dX5_weightOf_11 : decode cX5_weightOf 11 = .ok (.iload_n 3, 1) := by decide +kernel
theorem dX5_weightOf_12 : decode cX5_weightOf 12 = .ok (.iload_n 1, 1) := by decide +kernel
theorem dX5_weightOf_13 : decode cX5_weightOf 13 = .ok (.if_icmp .ge 10, 3) := by decide +kernel
