theorem dX5_weightOf_16 : decode cX5_weightOf 16 = .ok (.aload_n 0, 1) := by decide +kernel
theorem dX5_weightOf_17 : decode cX5_weightOf 17 = .ok (.getfield 34, 3) := by decide +kernel
theorem dX5_weightOf_20 : decode cX5_weightOf 20 = .ok (.goto 7, 3) := by decide +kernel
theorem dX5_weightOf_23 : decode cX5_weightOf 23 = .ok (.aload_n 0, 1) := by decide +kernel
theorem dX5_weightOf_24 : decode cX5_weightOf 24 = .ok (.getfield 38, 3) := by decide +kernel
theorem dX5_weightOf_27 : decode cX5_weightOf 27 = .ok (.imul, 1) := by decide +kernel
theorem dX5_weightOf_28 : decode cX5_weightOf 28 = .ok (.istore_n 2, 1) := by decide +kernel
theorem dX5_weightOf_29 : decode cX5_weightOf 29 = .ok (.iinc 3 1, 3) := by decide +kernel
theorem dX5_weightOf_32 : decode cX5_weightOf 32 = .ok (.goto (-28), 3) := by decide +kernel
theorem dX5_weightOf_35 : decode cX5_weightOf 35 = .ok (.iload_n 2, 1) := by decide +kernel
theorem dX5_weightOf_36 : decode cX5_weightOf 36 = .ok (.ireturn, 1) := by decide +kernel
theorem dX5_weight_0 : decode cX5_weight 0 = .ok (.iload_n 1, 1) := by decide +kernel
theorem dX5_weight_1 : decode cX5_weight 1 = .ok (.iconst 0, 1) := by decide +kernel
theorem dX5_weight_2 : decode cX5_weight 2 = .ok (.bipush 7, 2) := by decide +kernel
theorem dX5_weight_4 : decode cX5_weight 4 = .ok (.invokestatic 79, 3) := by decide +kernel
theorem dX5_weight_7 : decode cX5_weight 7 = .ok (.ifCond .eq 11, 3) := by decide +kernel
theorem dX5_weight_10 : decode cX5_weight 10 = .ok (.aload_n 0, 1) := by decide +kernel
theorem dX5_weight_11 : decode cX5_weight 11 = .ok (.iload_n 1, 1) := by decide +kernel
theorem dX5_weight_12 : decode cX5_weight 12 = .ok (.invokevirtual 101, 3) := by decide +kernel
theorem dX5_weight_15 : decode cX5_weight 15 = .ok (.goto 4, 3) := by decide +kernel
theorem dX5_weight_18 : decode cX5_weight 18 = .ok (.iconst (-1), 1) := by decide +kernel
theorem dX5_weight_19 : decode cX5_weight 19 = .ok (.ireturn, 1) := by decide +kernel
theorem dX5_meanOf_0 : decode cX5_meanOf 0 = .ok (.aload_n 0, 1) := by decide +kernel
theorem dX5_meanOf_1 : decode cX5_meanOf 1 = .ok (.iload_n 1, 1) := by decide +kernel
theorem dX5_meanOf_2 : decode cX5_meanOf 2 = .ok (.invokevirtual 105, 3) := by decide +kernel
theorem dX5_meanOf_5 : decode cX5_meanOf 5 = .ok (.lconst 0, 1) := by decide +kernel
theorem dX5_meanOf_6 : decode cX5_meanOf 6 = .ok (.lstore_n 3, 1) := by decide +kernel
theorem dX5_meanOf_7 : decode cX5_meanOf 7 = .ok (.lconst 0, 1) := by decide +kernel
theorem dX5_meanOf_8 : decode cX5_meanOf 8 = .ok (.lstore 5, 2) := by decide +kernel
theorem dX5_meanOf_10 : decode cX5_meanOf 10 = .ok (.iconst 0, 1) := by decide +kernel
theorem dX5_meanOf_11 : decode cX5_meanOf 11 = .ok (.istore 7, 2) := by decide +kernel
theorem dX5_meanOf_13 : decode cX5_meanOf 13 = .ok (.aload_n 0, 1) := by decide +kernel
theorem dX5_meanOf_14 : decode cX5_meanOf 14 = .ok (.getfield 94, 3) := by decide +kernel
theorem dX5_meanOf_17 : decode cX5_meanOf 17 = .ok (.iconst 1, 1) := by decide +kernel
theorem dX5_meanOf_18 : decode cX5_meanOf 18 = .ok (.isub, 1) := by decide +kernel
theorem dX5_meanOf_19 : decode cX5_meanOf 19 = .ok (.istore 8, 2) := by decide +kernel
theorem dX5_meanOf_21 : decode cX5_meanOf 21 = .ok (.iload 8, 2) := by decide +kernel
theorem dX5_meanOf_23 : decode cX5_meanOf 23 = .ok (.ifCond .lt 78, 3) := by decide +kernel
theorem dX5_meanOf_26 : decode cX5_meanOf 26 = .ok (.iload 7, 2) := by decide +kernel
theorem dX5_meanOf_28 : decode cX5_meanOf 28 = .ok (.bipush 8, 2) := by decide +kernel
theorem dX5_meanOf_30 : decode cX5_meanOf 30 = .ok (.if_icmp .ge 71, 3) := by decide +kernel
theorem dX5_meanOf_33 : decode cX5_meanOf 33 = .ok (.aload_n 0, 1) := by decide +kernel
theorem dX5_meanOf_34 : decode cX5_meanOf 34 = .ok (.getfield 66, 3) := by decide +kernel
theorem dX5_meanOf_37 : decode cX5_meanOf 37 = .ok (.iload 8, 2) := by decide +kernel
theorem dX5_meanOf_39 : decode cX5_meanOf 39 = .ok (.iaload, 1) := by decide +kernel
theorem dX5_meanOf_40 : decode cX5_meanOf 40 = .ok (.ifCond .lt 55, 3) := by decide +kernel
theorem dX5_meanOf_43 : decode cX5_meanOf 43 = .ok (.aload_n 0, 1) := by decide +kernel
theorem dX5_meanOf_44 : decode cX5_meanOf 44 = .ok (.aload_n 0, 1) := by decide +kernel
theorem dX5_meanOf_45 : decode cX5_meanOf 45 = .ok (.getfield 54, 3) := by decide +kernel
theorem dX5_meanOf_48 : decode cX5_meanOf 48 = .ok (.iload 8, 2) := by decide +kernel
theorem dX5_meanOf_50 : decode cX5_meanOf 50 = .ok (.iaload, 1) := by decide +kernel
theorem dX5_meanOf_51 : decode cX5_meanOf 51 = .ok (.bipush 24, 2) := by decide +kernel
theorem dX5_meanOf_53 : decode cX5_meanOf 53 = .ok (.idiv, 1) := by decide +kernel
theorem dX5_meanOf_54 : decode cX5_meanOf 54 = .ok (.invokevirtual 109, 3) := by decide +kernel
theorem dX5_meanOf_57 : decode cX5_meanOf 57 = .ok (.iload_n 2, 1) := by decide +kernel
theorem dX5_meanOf_58 : decode cX5_meanOf 58 = .ok (.if_icmp .ne 37, 3) := by decide +kernel
theorem dX5_meanOf_61 : decode cX5_meanOf 61 = .ok (.lload_n 3, 1) := by decide +kernel
theorem dX5_meanOf_62 : decode cX5_meanOf 62 = .ok (.aload_n 0, 1) := by decide +kernel
theorem dX5_meanOf_63 : decode cX5_meanOf 63 = .ok (.iload 7, 2) := by decide +kernel
theorem dX5_meanOf_65 : decode cX5_meanOf 65 = .ok (.invokevirtual 101, 3) := by decide +kernel
theorem dX5_meanOf_68 : decode cX5_meanOf 68 = .ok (.i2l, 1) := by decide +kernel
theorem dX5_meanOf_69 : decode cX5_meanOf 69 = .ok (.aload_n 0, 1) := by decide +kernel
theorem dX5_meanOf_70 : decode cX5_meanOf 70 = .ok (.getfield 66, 3) := by decide +kernel
theorem dX5_meanOf_73 : decode cX5_meanOf 73 = .ok (.iload 8, 2) := by decide +kernel
theorem dX5_meanOf_75 : decode cX5_meanOf 75 = .ok (.iaload, 1) := by decide +kernel
theorem dX5_meanOf_76 : decode cX5_meanOf 76 = .ok (.i2l, 1) := by decide +kernel
theorem dX5_meanOf_77 : decode cX5_meanOf 77 = .ok (.lmul, 1) := by decide +kernel
theorem dX5_meanOf_78 : decode cX5_meanOf 78 = .ok (.ladd, 1) := by decide +kernel
theorem dX5_meanOf_79 : decode cX5_meanOf 79 = .ok (.lstore_n 3, 1) := by decide +kernel
theorem dX5_meanOf_80 : decode cX5_meanOf 80 = .ok (.lload 5, 2) := by decide +kernel
theorem dX5_meanOf_82 : decode cX5_meanOf 82 = .ok (.aload_n 0, 1) := by decide +kernel
theorem dX5_meanOf_83 : decode cX5_meanOf 83 = .ok (.iload 7, 2) := by decide +kernel
theorem dX5_meanOf_85 : decode cX5_meanOf 85 = .ok (.invokevirtual 101, 3) := by decide +kernel
theorem dX5_meanOf_88 : decode cX5_meanOf 88 = .ok (.i2l, 1) := by decide +kernel
theorem dX5_meanOf_89 : decode cX5_meanOf 89 = .ok (.ladd, 1) := by decide +kernel
theorem dX5_meanOf_90 : decode cX5_meanOf 90 = .ok (.lstore 5, 2) := by decide +kernel
theorem dX5_meanOf_92 : decode cX5_meanOf 92 = .ok (.iinc 7 1, 3) := by decide +kernel
theorem dX5_meanOf_95 : decode cX5_meanOf 95 = .ok (.iinc 8 (-1), 3) := by decide +kernel
theorem dX5_meanOf_98 : decode cX5_meanOf 98 = .ok (.goto (-77), 3) := by decide +kernel
theorem dX5_meanOf_101 : decode cX5_meanOf 101 = .ok (.iload 7, 2) := by decide +kernel
theorem dX5_meanOf_103 : decode cX5_meanOf 103 = .ok (.ifCond .ne 7, 3) := by decide +kernel
theorem dX5_meanOf_106 : decode cX5_meanOf 106 = .ok (.iconst (-1), 1) := by decide +kernel
theorem dX5_meanOf_107 : decode cX5_meanOf 107 = .ok (.goto 8, 3) := by decide +kernel
theorem dX5_meanOf_110 : decode cX5_meanOf 110 = .ok (.lload_n 3, 1) := by decide +kernel
theorem dX5_meanOf_111 : decode cX5_meanOf 111 = .ok (.lload 5, 2) := by decide +kernel
theorem dX5_meanOf_113 : decode cX5_meanOf 113 = .ok (.ldiv, 1) := by decide +kernel
theorem dX5_meanOf_114 : decode cX5_meanOf 114 = .ok (.l2i, 1) := by decide +kernel
theorem dX5_meanOf_115 : decode cX5_meanOf 115 = .ok (.ireturn, 1) := by decide +kernel
theorem dX5_mean_0 : decode cX5_mean 0 = .ok (.aload_n 0, 1) := by decide +kernel
theorem dX5_mean_1 : decode cX5_mean 1 = .ok (.iload_n 1, 1) := by decide +kernel
theorem dX5_mean_2 : decode cX5_mean 2 = .ok (.invokevirtual 83, 3) := by decide +kernel
theorem dX5_mean_5 : decode cX5_mean 5 = .ok (.ifCond .eq 22, 3) := by decide +kernel
theorem dX5_mean_8 : decode cX5_mean 8 = .ok (.iload_n 2, 1) := by decide +kernel
theorem dX5_mean_9 : decode cX5_mean 9 = .ok (.iconst 0, 1) := by decide +kernel
theorem dX5_mean_10 : decode cX5_mean 10 = .ok (.bipush 6, 2) := by decide +kernel
theorem dX5_mean_12 : decode cX5_mean 12 = .ok (.invokestatic 79, 3) := by decide +kernel
theorem dX5_mean_15 : decode cX5_mean 15 = .ok (.ifCond .eq 12, 3) := by decide +kernel
theorem dX5_mean_18 : decode cX5_mean 18 = .ok (.aload_n 0, 1) := by decide +kernel
theorem dX5_mean_19 : decode cX5_mean 19 = .ok (.iload_n 1, 1) := by decide +kernel
theorem dX5_mean_20 : decode cX5_mean 20 = .ok (.iload_n 2, 1) := by decide +kernel
theorem dX5_mean_21 : decode cX5_mean 21 = .ok (.invokevirtual 112, 3) := by decide +kernel
theorem dX5_mean_24 : decode cX5_mean 24 = .ok (.goto 4, 3) := by decide +kernel
theorem dX5_mean_27 : decode cX5_mean 27 = .ok (.iconst (-1), 1) := by decide +kernel
theorem dX5_mean_28 : decode cX5_mean 28 = .ok (.ireturn, 1) := by decide +kernel
theorem dX5_rateOf_0 : decode cX5_rateOf 0 = .ok (.aload_n 0, 1) := by decide +kernel
theorem dX5_rateOf_1 : decode cX5_rateOf 1 = .ok (.iload_n 1, 1) := by decide +kernel
theorem dX5_rateOf_2 : decode cX5_rateOf 2 = .ok (.iload_n 2, 1) := by decide +kernel
theorem dX5_rateOf_3 : decode cX5_rateOf 3 = .ok (.invokevirtual 112, 3) := by decide +kernel
theorem dX5_rateOf_6 : decode cX5_rateOf 6 = .ok (.istore_n 3, 1) := by decide +kernel
theorem dX5_rateOf_7 : decode cX5_rateOf 7 = .ok (.iload_n 3, 1) := by decide +kernel
theorem dX5_rateOf_8 : decode cX5_rateOf 8 = .ok (.ifCond .lt 5, 3) := by decide +kernel
theorem dX5_rateOf_11 : decode cX5_rateOf 11 = .ok (.iload_n 3, 1) := by decide +kernel
theorem dX5_rateOf_12 : decode cX5_rateOf 12 = .ok (.ireturn, 1) := by decide +kernel
theorem dX5_rateOf_13 : decode cX5_rateOf 13 = .ok (.iconst 0, 1) := by decide +kernel
theorem dX5_rateOf_14 : decode cX5_rateOf 14 = .ok (.istore 4, 2) := by decide +kernel
theorem dX5_rateOf_16 : decode cX5_rateOf 16 = .ok (.iconst 0, 1) := by decide +kernel
theorem dX5_rateOf_17 : decode cX5_rateOf 17 = .ok (.istore 5, 2) := by decide +kernel
theorem dX5_rateOf_19 : decode cX5_rateOf 19 = .ok (.iconst 0, 1) := by decide +kernel
theorem dX5_rateOf_20 : decode cX5_rateOf 20 = .ok (.istore 6, 2) := by decide +kernel
theorem dX5_rateOf_22 : decode cX5_rateOf 22 = .ok (.iload 6, 2) := by decide +kernel
theorem dX5_rateOf_24 : decode cX5_rateOf 24 = .ok (.aload_n 0, 1) := by decide +kernel
theorem dX5_rateOf_25 : decode cX5_rateOf 25 = .ok (.getfield 76, 3) := by decide +kernel
theorem dX5_rateOf_28 : decode cX5_rateOf 28 = .ok (.if_icmp .ge 69, 3) := by decide +kernel
theorem dX5_rateOf_31 : decode cX5_rateOf 31 = .ok (.aload_n 0, 1) := by decide +kernel
theorem dX5_rateOf_32 : decode cX5_rateOf 32 = .ok (.getfield 7, 3) := by decide +kernel
theorem dX5_rateOf_35 : decode cX5_rateOf 35 = .ok (.iload 6, 2) := by decide +kernel
theorem dX5_rateOf_37 : decode cX5_rateOf 37 = .ok (.iaload, 1) := by decide +kernel
theorem dX5_rateOf_38 : decode cX5_rateOf 38 = .ok (.aload_n 0, 1) := by decide +kernel
theorem dX5_rateOf_39 : decode cX5_rateOf 39 = .ok (.getfield 7, 3) := by decide +kernel
theorem dX5_rateOf_42 : decode cX5_rateOf 42 = .ok (.iload_n 1, 1) := by decide +kernel
theorem dX5_rateOf_43 : decode cX5_rateOf 43 = .ok (.iaload, 1) := by decide +kernel
theorem dX5_rateOf_44 : decode cX5_rateOf 44 = .ok (.if_icmp .ne 13, 3) := by decide +kernel
theorem dX5_rateOf_47 : decode cX5_rateOf 47 = .ok (.aload_n 0, 1) := by decide +kernel
theorem dX5_rateOf_48 : decode cX5_rateOf 48 = .ok (.iload 6, 2) := by decide +kernel
theorem dX5_rateOf_50 : decode cX5_rateOf 50 = .ok (.iload_n 2, 1) := by decide +kernel
theorem dX5_rateOf_51 : decode cX5_rateOf 51 = .ok (.invokevirtual 112, 3) := by decide +kernel
theorem dX5_rateOf_54 : decode cX5_rateOf 54 = .ok (.goto 4, 3) := by decide +kernel
theorem dX5_rateOf_57 : decode cX5_rateOf 57 = .ok (.iconst (-1), 1) := by decide +kernel
theorem dX5_rateOf_58 : decode cX5_rateOf 58 = .ok (.istore 7, 2) := by decide +kernel
theorem dX5_rateOf_60 : decode cX5_rateOf 60 = .ok (.iload 4, 2) := by decide +kernel
theorem dX5_rateOf_62 : decode cX5_rateOf 62 = .ok (.iload 7, 2) := by decide +kernel
theorem dX5_rateOf_64 : decode cX5_rateOf 64 = .ok (.ifCond .lt 8, 3) := by decide +kernel
theorem dX5_rateOf_67 : decode cX5_rateOf 67 = .ok (.iload 7, 2) := by decide +kernel
theorem dX5_rateOf_69 : decode cX5_rateOf 69 = .ok (.goto 4, 3) := by decide +kernel
theorem dX5_rateOf_72 : decode cX5_rateOf 72 = .ok (.iconst 0, 1) := by decide +kernel
theorem dX5_rateOf_73 : decode cX5_rateOf 73 = .ok (.iadd, 1) := by decide +kernel
theorem dX5_rateOf_74 : decode cX5_rateOf 74 = .ok (.istore 4, 2) := by decide +kernel
theorem dX5_rateOf_76 : decode cX5_rateOf 76 = .ok (.iload 5, 2) := by decide +kernel
theorem dX5_rateOf_78 : decode cX5_rateOf 78 = .ok (.iload 7, 2) := by decide +kernel
theorem dX5_rateOf_80 : decode cX5_rateOf 80 = .ok (.ifCond .lt 7, 3) := by decide +kernel
theorem dX5_rateOf_83 : decode cX5_rateOf 83 = .ok (.iconst 1, 1) := by decide +kernel
theorem dX5_rateOf_84 : decode cX5_rateOf 84 = .ok (.goto 4, 3) := by decide +kernel
theorem dX5_rateOf_87 : decode cX5_rateOf 87 = .ok (.iconst 0, 1) := by decide +kernel
theorem dX5_rateOf_88 : decode cX5_rateOf 88 = .ok (.iadd, 1) := by decide +kernel
theorem dX5_rateOf_89 : decode cX5_rateOf 89 = .ok (.istore 5, 2) := by decide +kernel
theorem dX5_rateOf_91 : decode cX5_rateOf 91 = .ok (.iinc 6 1, 3) := by decide +kernel
theorem dX5_rateOf_94 : decode cX5_rateOf 94 = .ok (.goto (-72), 3) := by decide +kernel
theorem dX5_rateOf_97 : decode cX5_rateOf 97 = .ok (.iload 5, 2) := by decide +kernel
theorem dX5_rateOf_99 : decode cX5_rateOf 99 = .ok (.ifCond .ne 8, 3) := by decide +kernel
theorem dX5_rateOf_102 : decode cX5_rateOf 102 = .ok (.bipush 100, 2) := by decide +kernel
theorem dX5_rateOf_104 : decode cX5_rateOf 104 = .ok (.goto 8, 3) := by decide +kernel
theorem dX5_rateOf_107 : decode cX5_rateOf 107 = .ok (.iload 4, 2) := by decide +kernel
theorem dX5_rateOf_109 : decode cX5_rateOf 109 = .ok (.iload 5, 2) := by decide +kernel
theorem dX5_rateOf_111 : decode cX5_rateOf 111 = .ok (.idiv, 1) := by decide +kernel
theorem dX5_rateOf_112 : decode cX5_rateOf 112 = .ok (.ireturn, 1) := by decide +kernel
theorem dX5_rate_0 : decode cX5_rate 0 = .ok (.aload_n 0, 1) := by decide +kernel
theorem dX5_rate_1 : decode cX5_rate 1 = .ok (.iload_n 1, 1) := by decide +kernel
theorem dX5_rate_2 : decode cX5_rate 2 = .ok (.invokevirtual 83, 3) := by decide +kernel
theorem dX5_rate_5 : decode cX5_rate 5 = .ok (.ifCond .eq 23, 3) := by decide +kernel
theorem dX5_rate_8 : decode cX5_rate 8 = .ok (.iload_n 2, 1) := by decide +kernel
theorem dX5_rate_9 : decode cX5_rate 9 = .ok (.invokestatic 91, 3) := by decide +kernel
theorem dX5_rate_12 : decode cX5_rate 12 = .ok (.ifCond .eq 16, 3) := by decide +kernel
theorem dX5_rate_15 : decode cX5_rate 15 = .ok (.aload_n 0, 1) := by decide +kernel
theorem dX5_rate_16 : decode cX5_rate 16 = .ok (.iload_n 1, 1) := by decide +kernel
theorem dX5_rate_17 : decode cX5_rate 17 = .ok (.aload_n 0, 1) := by decide +kernel
theorem dX5_rate_18 : decode cX5_rate 18 = .ok (.iload_n 2, 1) := by decide +kernel
theorem dX5_rate_19 : decode cX5_rate 19 = .ok (.invokevirtual 109, 3) := by decide +kernel
theorem dX5_rate_22 : decode cX5_rate 22 = .ok (.invokevirtual 116, 3) := by decide +kernel
theorem dX5_rate_25 : decode cX5_rate 25 = .ok (.goto 4, 3) := by decide +kernel
theorem dX5_rate_28 : decode cX5_rate 28 = .ok (.iconst (-1), 1) := by decide +kernel
theorem dX5_rate_29 : decode cX5_rate 29 = .ok (.ireturn, 1) := by decide +kernel
theorem dX5_prepare_0 : decode cX5_prepare 0 = .ok (.iconst 0, 1) := by decide +kernel
theorem dX5_prepare_1 : decode cX5_prepare 1 = .ok (.istore_n 2, 1) := by decide +kernel
theorem dX5_prepare_2 : decode cX5_prepare 2 = .ok (.iload_n 2, 1) := by decide +kernel
theorem dX5_prepare_3 : decode cX5_prepare 3 = .ok (.bipush 7, 2) := by decide +kernel
theorem dX5_prepare_5 : decode cX5_prepare 5 = .ok (.if_icmp .ge 21, 3) := by decide +kernel
theorem dX5_prepare_8 : decode cX5_prepare 8 = .ok (.aload_n 0, 1) := by decide +kernel
theorem dX5_prepare_9 : decode cX5_prepare 9 = .ok (.getfield 69, 3) := by decide +kernel
theorem dX5_prepare_12 : decode cX5_prepare 12 = .ok (.iload_n 2, 1) := by decide +kernel
theorem dX5_prepare_13 : decode cX5_prepare 13 = .ok (.aload_n 0, 1) := by decide +kernel
theorem dX5_prepare_14 : decode cX5_prepare 14 = .ok (.iload_n 1, 1) := by decide +kernel
theorem dX5_prepare_15 : decode cX5_prepare 15 = .ok (.iload_n 2, 1) := by decide +kernel
theorem dX5_prepare_16 : decode cX5_prepare 16 = .ok (.invokevirtual 116, 3) := by decide +kernel
theorem dX5_prepare_19 : decode cX5_prepare 19 = .ok (.iastore, 1) := by decide +kernel
theorem dX5_prepare_20 : decode cX5_prepare 20 = .ok (.iinc 2 1, 3) := by decide +kernel
theorem dX5_prepare_23 : decode cX5_prepare 23 = .ok (.goto (-21), 3) := by decide +kernel
theorem dX5_prepare_26 : decode cX5_prepare 26 = .ok (.iconst 0, 1) := by decide +kernel
theorem dX5_prepare_27 : decode cX5_prepare 27 = .ok (.istore_n 2, 1) := by decide +kernel
theorem dX5_prepare_28 : decode cX5_prepare 28 = .ok (.iload_n 2, 1) := by decide +kernel
theorem dX5_prepare_29 : decode cX5_prepare 29 = .ok (.sipush 10000, 3) := by decide +kernel
theorem dX5_prepare_32 : decode cX5_prepare 32 = .ok (.if_icmp .ge 38, 3) := by decide +kernel
theorem dX5_prepare_35 : decode cX5_prepare 35 = .ok (.aload_n 0, 1) := by decide +kernel
theorem dX5_prepare_36 : decode cX5_prepare 36 = .ok (.getfield 72, 3) := by decide +kernel
theorem dX5_prepare_39 : decode cX5_prepare 39 = .ok (.iload_n 2, 1) := by decide +kernel
theorem dX5_prepare_40 : decode cX5_prepare 40 = .ok (.iconst 1, 1) := by decide +kernel
theorem dX5_prepare_41 : decode cX5_prepare 41 = .ok (.iadd, 1) := by decide +kernel
theorem dX5_prepare_42 : decode cX5_prepare 42 = .ok (.aload_n 0, 1) := by decide +kernel
theorem dX5_prepare_43 : decode cX5_prepare 43 = .ok (.getfield 72, 3) := by decide +kernel
theorem dX5_prepare_46 : decode cX5_prepare 46 = .ok (.iload_n 2, 1) := by decide +kernel
theorem dX5_prepare_47 : decode cX5_prepare 47 = .ok (.laload, 1) := by decide +kernel
theorem dX5_prepare_48 : decode cX5_prepare 48 = .ok (.aload_n 0, 1) := by decide +kernel
theorem dX5_prepare_49 : decode cX5_prepare 49 = .ok (.getfield 69, 3) := by decide +kernel
theorem dX5_prepare_52 : decode cX5_prepare 52 = .ok (.aload_n 0, 1) := by decide +kernel
theorem dX5_prepare_53 : decode cX5_prepare 53 = .ok (.iload_n 2, 1) := by decide +kernel
theorem dX5_prepare_54 : decode cX5_prepare 54 = .ok (.bipush 24, 2) := by decide +kernel
theorem dX5_prepare_56 : decode cX5_prepare 56 = .ok (.idiv, 1) := by decide +kernel
theorem dX5_prepare_57 : decode cX5_prepare 57 = .ok (.invokevirtual 109, 3) := by decide +kernel
theorem dX5_prepare_60 : decode cX5_prepare 60 = .ok (.iaload, 1) := by decide +kernel
theorem dX5_prepare_61 : decode cX5_prepare 61 = .ok (.i2l, 1) := by decide +kernel
theorem dX5_prepare_62 : decode cX5_prepare 62 = .ok (.ladd, 1) := by decide +kernel
theorem dX5_prepare_63 : decode cX5_prepare 63 = .ok (.lastore, 1) := by decide +kernel
theorem dX5_prepare_64 : decode cX5_prepare 64 = .ok (.iinc 2 1, 3) := by decide +kernel
theorem dX5_prepare_67 : decode cX5_prepare 67 = .ok (.goto (-39), 3) := by decide +kernel
theorem dX5_prepare_70 : decode cX5_prepare 70 = .ok (.aload_n 0, 1) := by decide +kernel
theorem dX5_prepare_71 : decode cX5_prepare 71 = .ok (.iload_n 1, 1) := by decide +kernel
theorem dX5_prepare_72 : decode cX5_prepare 72 = .ok (.invokevirtual 105, 3) := by decide +kernel
theorem dX5_prepare_75 : decode cX5_prepare 75 = .ok (.return_, 1) := by decide +kernel
theorem dX5_expectedBy_0 : decode cX5_expectedBy 0 = .ok (.iconst (-1), 1) := by decide +kernel
theorem dX5_expectedBy_1 : decode cX5_expectedBy 1 = .ok (.istore_n 3, 1) := by decide +kernel
theorem dX5_expectedBy_2 : decode cX5_expectedBy 2 = .ok (.iconst 0, 1) := by decide +kernel
theorem dX5_expectedBy_3 : decode cX5_expectedBy 3 = .ok (.istore 4, 2) := by decide +kernel
theorem dX5_expectedBy_5 : decode cX5_expectedBy 5 = .ok (.iload 4, 2) := by decide +kernel
theorem dX5_expectedBy_7 : decode cX5_expectedBy 7 = .ok (.iload_n 1, 1) := by decide +kernel
theorem dX5_expectedBy_8 : decode cX5_expectedBy 8 = .ok (.if_icmp .ge 37, 3) := by decide +kernel
theorem dX5_expectedBy_11 : decode cX5_expectedBy 11 = .ok (.aload_n 0, 1) := by decide +kernel
theorem dX5_expectedBy_12 : decode cX5_expectedBy 12 = .ok (.getfield 63, 3) := by decide +kernel
theorem dX5_expectedBy_15 : decode cX5_expectedBy 15 = .ok (.iload 4, 2) := by decide +kernel
theorem dX5_expectedBy_17 : decode cX5_expectedBy 17 = .ok (.baload, 1) := by decide +kernel
theorem dX5_expectedBy_18 : decode cX5_expectedBy 18 = .ok (.ifCond .ne 19, 3) := by decide +kernel
theorem dX5_expectedBy_21 : decode cX5_expectedBy 21 = .ok (.aload_n 0, 1) := by decide +kernel
theorem dX5_expectedBy_22 : decode cX5_expectedBy 22 = .ok (.getfield 54, 3) := by decide +kernel
theorem dX5_expectedBy_25 : decode cX5_expectedBy 25 = .ok (.iload 4, 2) := by decide +kernel
theorem dX5_expectedBy_27 : decode cX5_expectedBy 27 = .ok (.iaload, 1) := by decide +kernel
theorem dX5_expectedBy_28 : decode cX5_expectedBy 28 = .ok (.iload_n 2, 1) := by decide +kernel
theorem dX5_expectedBy_29 : decode cX5_expectedBy 29 = .ok (.if_icmp .gt 8, 3) := by decide +kernel
theorem dX5_expectedBy_32 : decode cX5_expectedBy 32 = .ok (.iload 4, 2) := by decide +kernel
theorem dX5_expectedBy_34 : decode cX5_expectedBy 34 = .ok (.goto 4, 3) := by decide +kernel
theorem dX5_expectedBy_37 : decode cX5_expectedBy 37 = .ok (.iload_n 3, 1) := by decide +kernel
theorem dX5_expectedBy_38 : decode cX5_expectedBy 38 = .ok (.istore_n 3, 1) := by decide +kernel
theorem dX5_expectedBy_39 : decode cX5_expectedBy 39 = .ok (.iinc 4 1, 3) := by decide +kernel
theorem dX5_expectedBy_42 : decode cX5_expectedBy 42 = .ok (.goto (-37), 3) := by decide +kernel
theorem dX5_expectedBy_45 : decode cX5_expectedBy 45 = .ok (.iload_n 3, 1) := by decide +kernel
theorem dX5_expectedBy_46 : decode cX5_expectedBy 46 = .ok (.ifCond .ge 7, 3) := by decide +kernel
theorem dX5_expectedBy_49 : decode cX5_expectedBy 49 = .ok (.lconst 0, 1) := by decide +kernel
theorem dX5_expectedBy_50 : decode cX5_expectedBy 50 = .ok (.goto 14, 3) := by decide +kernel
theorem dX5_expectedBy_53 : decode cX5_expectedBy 53 = .ok (.aload_n 0, 1) := by decide +kernel
theorem dX5_expectedBy_54 : decode cX5_expectedBy 54 = .ok (.getfield 72, 3) := by decide +kernel
theorem dX5_expectedBy_57 : decode cX5_expectedBy 57 = .ok (.aload_n 0, 1) := by decide +kernel
theorem dX5_expectedBy_58 : decode cX5_expectedBy 58 = .ok (.getfield 54, 3) := by decide +kernel
theorem dX5_expectedBy_61 : decode cX5_expectedBy 61 = .ok (.iload_n 3, 1) := by decide +kernel
theorem dX5_expectedBy_62 : decode cX5_expectedBy 62 = .ok (.iaload, 1) := by decide +kernel
theorem dX5_expectedBy_63 : decode cX5_expectedBy 63 = .ok (.laload, 1) := by decide +kernel
theorem dX5_expectedBy_64 : decode cX5_expectedBy 64 = .ok (.lstore 4, 2) := by decide +kernel
theorem dX5_expectedBy_66 : decode cX5_expectedBy 66 = .ok (.iload_n 3, 1) := by decide +kernel
theorem dX5_expectedBy_67 : decode cX5_expectedBy 67 = .ok (.ifCond .ge 7, 3) := by decide +kernel
theorem dX5_expectedBy_70 : decode cX5_expectedBy 70 = .ok (.lconst 0, 1) := by decide +kernel
theorem dX5_expectedBy_71 : decode cX5_expectedBy 71 = .ok (.goto 10, 3) := by decide +kernel
theorem dX5_expectedBy_74 : decode cX5_expectedBy 74 = .ok (.aload_n 0, 1) := by decide +kernel
theorem dX5_expectedBy_75 : decode cX5_expectedBy 75 = .ok (.getfield 57, 3) := by decide +kernel
theorem dX5_expectedBy_78 : decode cX5_expectedBy 78 = .ok (.iload_n 3, 1) := by decide +kernel
theorem dX5_expectedBy_79 : decode cX5_expectedBy 79 = .ok (.iaload, 1) := by decide +kernel
theorem dX5_expectedBy_80 : decode cX5_expectedBy 80 = .ok (.i2l, 1) := by decide +kernel
theorem dX5_expectedBy_81 : decode cX5_expectedBy 81 = .ok (.lstore 6, 2) := by decide +kernel
theorem dX5_expectedBy_83 : decode cX5_expectedBy 83 = .ok (.ldc2_w 119, 3) := by decide +kernel
theorem dX5_expectedBy_86 : decode cX5_expectedBy 86 = .ok (.lload 6, 2) := by decide +kernel
theorem dX5_expectedBy_88 : decode cX5_expectedBy 88 = .ok (.lmul, 1) := by decide +kernel
theorem dX5_expectedBy_89 : decode cX5_expectedBy 89 = .ok (.aload_n 0, 1) := by decide +kernel
theorem dX5_expectedBy_90 : decode cX5_expectedBy 90 = .ok (.getfield 72, 3) := by decide +kernel
theorem dX5_expectedBy_93 : decode cX5_expectedBy 93 = .ok (.iload_n 2, 1) := by decide +kernel
theorem dX5_expectedBy_94 : decode cX5_expectedBy 94 = .ok (.laload, 1) := by decide +kernel
theorem dX5_expectedBy_95 : decode cX5_expectedBy 95 = .ok (.ladd, 1) := by decide +kernel
theorem dX5_expectedBy_96 : decode cX5_expectedBy 96 = .ok (.lload 4, 2) := by decide +kernel
theorem dX5_expectedBy_98 : decode cX5_expectedBy 98 = .ok (.lsub, 1) := by decide +kernel
theorem dX5_expectedBy_99 : decode cX5_expectedBy 99 = .ok (.ldc2_w 119, 3) := by decide +kernel
theorem dX5_expectedBy_102 : decode cX5_expectedBy 102 = .ok (.ldiv, 1) := by decide +kernel
theorem dX5_expectedBy_103 : decode cX5_expectedBy 103 = .ok (.lreturn, 1) := by decide +kernel
theorem dX5_expected_0 : decode cX5_expected 0 = .ok (.aload_n 0, 1) := by decide +kernel
theorem dX5_expected_1 : decode cX5_expected 1 = .ok (.iload_n 1, 1) := by decide +kernel
theorem dX5_expected_2 : decode cX5_expected 2 = .ok (.invokevirtual 83, 3) := by decide +kernel
theorem dX5_expected_5 : decode cX5_expected 5 = .ok (.ifCond .eq 10, 3) := by decide +kernel
theorem dX5_expected_8 : decode cX5_expected 8 = .ok (.iload_n 2, 1) := by decide +kernel
theorem dX5_expected_9 : decode cX5_expected 9 = .ok (.invokestatic 87, 3) := by decide +kernel
theorem dX5_expected_12 : decode cX5_expected 12 = .ok (.ifCond .ne 7, 3) := by decide +kernel
theorem dX5_expected_15 : decode cX5_expected 15 = .ok (.ldc2_w 121, 3) := by decide +kernel
theorem dX5_expected_18 : decode cX5_expected 18 = .ok (.lreturn, 1) := by decide +kernel
theorem dX5_expected_19 : decode cX5_expected 19 = .ok (.aload_n 0, 1) := by decide +kernel
theorem dX5_expected_20 : decode cX5_expected 20 = .ok (.iload_n 1, 1) := by decide +kernel
theorem dX5_expected_21 : decode cX5_expected 21 = .ok (.invokevirtual 123, 3) := by decide +kernel
theorem dX5_expected_24 : decode cX5_expected 24 = .ok (.aload_n 0, 1) := by decide +kernel
theorem dX5_expected_25 : decode cX5_expected 25 = .ok (.aload_n 0, 1) := by decide +kernel
theorem dX5_expected_26 : decode cX5_expected 26 = .ok (.getfield 94, 3) := by decide +kernel
theorem dX5_expected_29 : decode cX5_expected 29 = .ok (.iload_n 2, 1) := by decide +kernel
theorem dX5_expected_30 : decode cX5_expected 30 = .ok (.invokevirtual 126, 3) := by decide +kernel
theorem dX5_expected_33 : decode cX5_expected 33 = .ok (.lreturn, 1) := by decide +kernel
theorem dX5_wrong_0 : decode cX5_wrong 0 = .ok (.aload_n 0, 1) := by decide +kernel
theorem dX5_wrong_1 : decode cX5_wrong 1 = .ok (.iload_n 1, 1) := by decide +kernel
theorem dX5_wrong_2 : decode cX5_wrong 2 = .ok (.invokevirtual 83, 3) := by decide +kernel
theorem dX5_wrong_5 : decode cX5_wrong 5 = .ok (.ifCond .ne 5, 3) := by decide +kernel
theorem dX5_wrong_8 : decode cX5_wrong 8 = .ok (.iconst (-1), 1) := by decide +kernel
theorem dX5_wrong_9 : decode cX5_wrong 9 = .ok (.ireturn, 1) := by decide +kernel
theorem dX5_wrong_10 : decode cX5_wrong 10 = .ok (.aload_n 0, 1) := by decide +kernel
theorem dX5_wrong_11 : decode cX5_wrong 11 = .ok (.iload_n 1, 1) := by decide +kernel
theorem dX5_wrong_12 : decode cX5_wrong 12 = .ok (.invokevirtual 105, 3) := by decide +kernel
theorem dX5_wrong_15 : decode cX5_wrong 15 = .ok (.iconst 0, 1) := by decide +kernel
theorem dX5_wrong_16 : decode cX5_wrong 16 = .ok (.istore_n 3, 1) := by decide +kernel
theorem dX5_wrong_17 : decode cX5_wrong 17 = .ok (.iconst 0, 1) := by decide +kernel
theorem dX5_wrong_18 : decode cX5_wrong 18 = .ok (.istore 4, 2) := by decide +kernel
theorem dX5_wrong_20 : decode cX5_wrong 20 = .ok (.iload 4, 2) := by decide +kernel
theorem dX5_wrong_22 : decode cX5_wrong 22 = .ok (.aload_n 0, 1) := by decide +kernel
theorem dX5_wrong_23 : decode cX5_wrong 23 = .ok (.getfield 94, 3) := by decide +kernel
theorem dX5_wrong_26 : decode cX5_wrong 26 = .ok (.if_icmp .ge 35, 3) := by decide +kernel
theorem dX5_wrong_29 : decode cX5_wrong 29 = .ok (.aload_n 0, 1) := by decide +kernel
theorem dX5_wrong_30 : decode cX5_wrong 30 = .ok (.getfield 63, 3) := by decide +kernel
theorem dX5_wrong_33 : decode cX5_wrong 33 = .ok (.iload 4, 2) := by decide +kernel
theorem dX5_wrong_35 : decode cX5_wrong 35 = .ok (.baload, 1) := by decide +kernel
theorem dX5_wrong_36 : decode cX5_wrong 36 = .ok (.ifCond .eq 19, 3) := by decide +kernel
theorem dX5_wrong_39 : decode cX5_wrong 39 = .ok (.iload_n 3, 1) := by decide +kernel
theorem dX5_wrong_40 : decode cX5_wrong 40 = .ok (.iload_n 2, 1) := by decide +kernel
theorem dX5_wrong_41 : decode cX5_wrong 41 = .ok (.if_icmp .ne 11, 3) := by decide +kernel
theorem dX5_wrong_44 : decode cX5_wrong 44 = .ok (.aload_n 0, 1) := by decide +kernel
theorem dX5_wrong_45 : decode cX5_wrong 45 = .ok (.getfield 54, 3) := by decide +kernel
theorem dX5_wrong_48 : decode cX5_wrong 48 = .ok (.iload 4, 2) := by decide +kernel
theorem dX5_wrong_50 : decode cX5_wrong 50 = .ok (.iaload, 1) := by decide +kernel
theorem dX5_wrong_51 : decode cX5_wrong 51 = .ok (.ireturn, 1) := by decide +kernel
theorem dX5_wrong_52 : decode cX5_wrong 52 = .ok (.iinc 3 1, 3) := by decide +kernel
theorem dX5_wrong_55 : decode cX5_wrong 55 = .ok (.iinc 4 1, 3) := by decide +kernel
theorem dX5_wrong_58 : decode cX5_wrong 58 = .ok (.goto (-38), 3) := by decide +kernel
theorem dX5_wrong_61 : decode cX5_wrong 61 = .ok (.iconst (-1), 1) := by decide +kernel
theorem dX5_wrong_62 : decode cX5_wrong 62 = .ok (.ireturn, 1) := by decide +kernel
theorem dX5_isSilent_0 : decode cX5_isSilent 0 = .ok (.iconst 1, 1) := by decide +kernel
theorem dX5_isSilent_1 : decode cX5_isSilent 1 = .ok (.istore_n 3, 1) := by decide +kernel
theorem dX5_isSilent_2 : decode cX5_isSilent 2 = .ok (.iconst 0, 1) := by decide +kernel
theorem dX5_isSilent_3 : decode cX5_isSilent 3 = .ok (.istore 4, 2) := by decide +kernel
theorem dX5_isSilent_5 : decode cX5_isSilent 5 = .ok (.iload 4, 2) := by decide +kernel
theorem dX5_isSilent_7 : decode cX5_isSilent 7 = .ok (.aload_n 0, 1) := by decide +kernel
theorem dX5_isSilent_8 : decode cX5_isSilent 8 = .ok (.getfield 16, 3) := by decide +kernel
theorem dX5_isSilent_11 : decode cX5_isSilent 11 = .ok (.iload_n 1, 1) := by decide +kernel
theorem dX5_isSilent_12 : decode cX5_isSilent 12 = .ok (.iaload, 1) := by decide +kernel
theorem dX5_isSilent_13 : decode cX5_isSilent 13 = .ok (.if_icmp .ge 48, 3) := by decide +kernel
theorem dX5_isSilent_16 : decode cX5_isSilent 16 = .ok (.iload_n 2, 1) := by decide +kernel
theorem dX5_isSilent_17 : decode cX5_isSilent 17 = .ok (.aload_n 0, 1) := by decide +kernel
theorem dX5_isSilent_18 : decode cX5_isSilent 18 = .ok (.getfield 19, 3) := by decide +kernel
theorem dX5_isSilent_21 : decode cX5_isSilent 21 = .ok (.bipush 24, 2) := by decide +kernel
theorem dX5_isSilent_23 : decode cX5_isSilent 23 = .ok (.iload_n 1, 1) := by decide +kernel
theorem dX5_isSilent_24 : decode cX5_isSilent 24 = .ok (.imul, 1) := by decide +kernel
theorem dX5_isSilent_25 : decode cX5_isSilent 25 = .ok (.iload 4, 2) := by decide +kernel
theorem dX5_isSilent_27 : decode cX5_isSilent 27 = .ok (.iadd, 1) := by decide +kernel
theorem dX5_isSilent_28 : decode cX5_isSilent 28 = .ok (.iaload, 1) := by decide +kernel
theorem dX5_isSilent_29 : decode cX5_isSilent 29 = .ok (.isub, 1) := by decide +kernel
theorem dX5_isSilent_30 : decode cX5_isSilent 30 = .ok (.istore 5, 2) := by decide +kernel
theorem dX5_isSilent_32 : decode cX5_isSilent 32 = .ok (.iload_n 3, 1) := by decide +kernel
theorem dX5_isSilent_33 : decode cX5_isSilent 33 = .ok (.ifCond .eq 20, 3) := by decide +kernel
theorem dX5_isSilent_36 : decode cX5_isSilent 36 = .ok (.iload 5, 2) := by decide +kernel
theorem dX5_isSilent_38 : decode cX5_isSilent 38 = .ok (.iconst 0, 1) := by decide +kernel
theorem dX5_isSilent_39 : decode cX5_isSilent 39 = .ok (.aload_n 0, 1) := by decide +kernel
theorem dX5_isSilent_40 : decode cX5_isSilent 40 = .ok (.getfield 45, 3) := by decide +kernel
theorem dX5_isSilent_43 : decode cX5_isSilent 43 = .ok (.invokestatic 79, 3) := by decide +kernel
theorem dX5_isSilent_46 : decode cX5_isSilent 46 = .ok (.ifCond .ne 7, 3) := by decide +kernel
theorem dX5_isSilent_49 : decode cX5_isSilent 49 = .ok (.iconst 1, 1) := by decide +kernel
theorem dX5_isSilent_50 : decode cX5_isSilent 50 = .ok (.goto 4, 3) := by decide +kernel
theorem dX5_isSilent_53 : decode cX5_isSilent 53 = .ok (.iconst 0, 1) := by decide +kernel
theorem dX5_isSilent_54 : decode cX5_isSilent 54 = .ok (.istore_n 3, 1) := by decide +kernel
theorem dX5_isSilent_55 : decode cX5_isSilent 55 = .ok (.iinc 4 1, 3) := by decide +kernel
theorem dX5_isSilent_58 : decode cX5_isSilent 58 = .ok (.goto (-53), 3) := by decide +kernel
theorem dX5_isSilent_61 : decode cX5_isSilent 61 = .ok (.iload_n 3, 1) := by decide +kernel
theorem dX5_isSilent_62 : decode cX5_isSilent 62 = .ok (.ireturn, 1) := by decide +kernel
theorem dX5_silent_0 : decode cX5_silent 0 = .ok (.iconst 0, 1) := by decide +kernel
theorem dX5_silent_1 : decode cX5_silent 1 = .ok (.istore_n 3, 1) := by decide +kernel
theorem dX5_silent_2 : decode cX5_silent 2 = .ok (.iconst 0, 1) := by decide +kernel
theorem dX5_silent_3 : decode cX5_silent 3 = .ok (.istore 4, 2) := by decide +kernel
theorem dX5_silent_5 : decode cX5_silent 5 = .ok (.iload 4, 2) := by decide +kernel
theorem dX5_silent_7 : decode cX5_silent 7 = .ok (.aload_n 0, 1) := by decide +kernel
theorem dX5_silent_8 : decode cX5_silent 8 = .ok (.getfield 76, 3) := by decide +kernel
theorem dX5_silent_11 : decode cX5_silent 11 = .ok (.if_icmp .ge 37, 3) := by decide +kernel
theorem dX5_silent_14 : decode cX5_silent 14 = .ok (.iload_n 1, 1) := by decide +kernel
theorem dX5_silent_15 : decode cX5_silent 15 = .ok (.invokestatic 87, 3) := by decide +kernel
theorem dX5_silent_18 : decode cX5_silent 18 = .ok (.ifCond .eq 30, 3) := by decide +kernel
theorem dX5_silent_21 : decode cX5_silent 21 = .ok (.aload_n 0, 1) := by decide +kernel
theorem dX5_silent_22 : decode cX5_silent 22 = .ok (.iload 4, 2) := by decide +kernel
theorem dX5_silent_24 : decode cX5_silent 24 = .ok (.iload_n 1, 1) := by decide +kernel
theorem dX5_silent_25 : decode cX5_silent 25 = .ok (.invokevirtual 130, 3) := by decide +kernel
theorem dX5_silent_28 : decode cX5_silent 28 = .ok (.ifCond .eq 14, 3) := by decide +kernel
theorem dX5_silent_31 : decode cX5_silent 31 = .ok (.iload_n 3, 1) := by decide +kernel
theorem dX5_silent_32 : decode cX5_silent 32 = .ok (.iload_n 2, 1) := by decide +kernel
theorem dX5_silent_33 : decode cX5_silent 33 = .ok (.if_icmp .ne 6, 3) := by decide +kernel
theorem dX5_silent_36 : decode cX5_silent 36 = .ok (.iload 4, 2) := by decide +kernel
theorem dX5_silent_38 : decode cX5_silent 38 = .ok (.ireturn, 1) := by decide +kernel
theorem dX5_silent_39 : decode cX5_silent 39 = .ok (.iinc 3 1, 3) := by decide +kernel
theorem dX5_silent_42 : decode cX5_silent 42 = .ok (.iinc 4 1, 3) := by decide +kernel
theorem dX5_silent_45 : decode cX5_silent 45 = .ok (.goto (-40), 3) := by decide +kernel
theorem dX5_silent_48 : decode cX5_silent 48 = .ok (.iconst (-1), 1) := by decide +kernel
theorem dX5_silent_49 : decode cX5_silent 49 = .ok (.ireturn, 1) := by decide +kernel
theorem dX5_over_0 : decode cX5_over 0 = .ok (.iconst 0, 1) := by decide +kernel
theorem dX5_over_1 : decode cX5_over 1 = .ok (.istore_n 3, 1) := by decide +kernel
theorem dX5_over_2 : decode cX5_over 2 = .ok (.iconst 0, 1) := by decide +kernel
theorem dX5_over_3 : decode cX5_over 3 = .ok (.istore 4, 2) := by decide +kernel
theorem dX5_over_5 : decode cX5_over 5 = .ok (.iload 4, 2) := by decide +kernel
theorem dX5_over_7 : decode cX5_over 7 = .ok (.aload_n 0, 1) := by decide +kernel
theorem dX5_over_8 : decode cX5_over 8 = .ok (.getfield 76, 3) := by decide +kernel
theorem dX5_over_11 : decode cX5_over 11 = .ok (.if_icmp .ge 41, 3) := by decide +kernel
theorem dX5_over_14 : decode cX5_over 14 = .ok (.iload_n 1, 1) := by decide +kernel
theorem dX5_over_15 : decode cX5_over 15 = .ok (.invokestatic 87, 3) := by decide +kernel
theorem dX5_over_18 : decode cX5_over 18 = .ok (.ifCond .eq 34, 3) := by decide +kernel
theorem dX5_over_21 : decode cX5_over 21 = .ok (.aload_n 0, 1) := by decide +kernel
theorem dX5_over_22 : decode cX5_over 22 = .ok (.iload 4, 2) := by decide +kernel
theorem dX5_over_24 : decode cX5_over 24 = .ok (.iload_n 1, 1) := by decide +kernel
theorem dX5_over_25 : decode cX5_over 25 = .ok (.invokevirtual 134, 3) := by decide +kernel
theorem dX5_over_28 : decode cX5_over 28 = .ok (.ldc2_w 137, 3) := by decide +kernel
theorem dX5_over_31 : decode cX5_over 31 = .ok (.lcmp, 1) := by decide +kernel
theorem dX5_over_32 : decode cX5_over 32 = .ok (.ifCond .lt 14, 3) := by decide +kernel
theorem dX5_over_35 : decode cX5_over 35 = .ok (.iload_n 3, 1) := by decide +kernel
theorem dX5_over_36 : decode cX5_over 36 = .ok (.iload_n 2, 1) := by decide +kernel
theorem dX5_over_37 : decode cX5_over 37 = .ok (.if_icmp .ne 6, 3) := by decide +kernel
theorem dX5_over_40 : decode cX5_over 40 = .ok (.iload 4, 2) := by decide +kernel
theorem dX5_over_42 : decode cX5_over 42 = .ok (.ireturn, 1) := by decide +kernel
theorem dX5_over_43 : decode cX5_over 43 = .ok (.iinc 3 1, 3) := by decide +kernel
theorem dX5_over_46 : decode cX5_over 46 = .ok (.iinc 4 1, 3) := by decide +kernel
theorem dX5_over_49 : decode cX5_over 49 = .ok (.goto (-44), 3) := by decide +kernel
theorem dX5_over_52 : decode cX5_over 52 = .ok (.iconst (-1), 1) := by decide +kernel
theorem dX5_over_53 : decode cX5_over 53 = .ok (.ireturn, 1) := by decide +kernel
theorem dX5_costOn_0 : decode cX5_costOn 0 = .ok (.aload_n 0, 1) := by decide +kernel
theorem dX5_costOn_1 : decode cX5_costOn 1 = .ok (.aload_n 0, 1) := by decide +kernel
theorem dX5_costOn_2 : decode cX5_costOn 2 = .ok (.getfield 94, 3) := by decide +kernel
theorem dX5_costOn_5 : decode cX5_costOn 5 = .ok (.bipush 24, 2) := by decide +kernel
theorem dX5_costOn_7 : decode cX5_costOn 7 = .ok (.iload_n 1, 1) := by decide +kernel
theorem dX5_costOn_8 : decode cX5_costOn 8 = .ok (.imul, 1) := by decide +kernel
theorem dX5_costOn_9 : decode cX5_costOn 9 = .ok (.invokevirtual 126, 3) := by decide +kernel
theorem dX5_costOn_12 : decode cX5_costOn 12 = .ok (.lstore_n 2, 1) := by decide +kernel
theorem dX5_costOn_13 : decode cX5_costOn 13 = .ok (.lload_n 2, 1) := by decide +kernel
theorem dX5_costOn_14 : decode cX5_costOn 14 = .ok (.ldc2_w 137, 3) := by decide +kernel
theorem dX5_costOn_17 : decode cX5_costOn 17 = .ok (.lcmp, 1) := by decide +kernel
theorem dX5_costOn_18 : decode cX5_costOn 18 = .ok (.ifCond .ge 17, 3) := by decide +kernel
theorem dX5_costOn_21 : decode cX5_costOn 21 = .ok (.ldc2_w 137, 3) := by decide +kernel
theorem dX5_costOn_24 : decode cX5_costOn 24 = .ok (.lload_n 2, 1) := by decide +kernel
theorem dX5_costOn_25 : decode cX5_costOn 25 = .ok (.lsub, 1) := by decide +kernel
theorem dX5_costOn_26 : decode cX5_costOn 26 = .ok (.aload_n 0, 1) := by decide +kernel
theorem dX5_costOn_27 : decode cX5_costOn 27 = .ok (.getfield 48, 3) := by decide +kernel
theorem dX5_costOn_30 : decode cX5_costOn 30 = .ok (.i2l, 1) := by decide +kernel
theorem dX5_costOn_31 : decode cX5_costOn 31 = .ok (.lmul, 1) := by decide +kernel
theorem dX5_costOn_32 : decode cX5_costOn 32 = .ok (.goto 14, 3) := by decide +kernel
theorem dX5_costOn_35 : decode cX5_costOn 35 = .ok (.lload_n 2, 1) := by decide +kernel
theorem dX5_costOn_36 : decode cX5_costOn 36 = .ok (.ldc2_w 137, 3) := by decide +kernel
theorem dX5_costOn_39 : decode cX5_costOn 39 = .ok (.lsub, 1) := by decide +kernel
theorem dX5_costOn_40 : decode cX5_costOn 40 = .ok (.aload_n 0, 1) := by decide +kernel
theorem dX5_costOn_41 : decode cX5_costOn 41 = .ok (.getfield 51, 3) := by decide +kernel
theorem dX5_costOn_44 : decode cX5_costOn 44 = .ok (.i2l, 1) := by decide +kernel
theorem dX5_costOn_45 : decode cX5_costOn 45 = .ok (.lmul, 1) := by decide +kernel
theorem dX5_costOn_46 : decode cX5_costOn 46 = .ok (.lreturn, 1) := by decide +kernel
theorem dX5_costOf_0 : decode cX5_costOf 0 = .ok (.aload_n 0, 1) := by decide +kernel
theorem dX5_costOf_1 : decode cX5_costOf 1 = .ok (.iload_n 1, 1) := by decide +kernel
theorem dX5_costOf_2 : decode cX5_costOf 2 = .ok (.invokevirtual 83, 3) := by decide +kernel
theorem dX5_costOf_5 : decode cX5_costOf 5 = .ok (.ifCond .eq 10, 3) := by decide +kernel
theorem dX5_costOf_8 : decode cX5_costOf 8 = .ok (.iload_n 2, 1) := by decide +kernel
theorem dX5_costOf_9 : decode cX5_costOf 9 = .ok (.invokestatic 91, 3) := by decide +kernel
theorem dX5_costOf_12 : decode cX5_costOf 12 = .ok (.ifCond .ne 7, 3) := by decide +kernel
theorem dX5_costOf_15 : decode cX5_costOf 15 = .ok (.ldc2_w 121, 3) := by decide +kernel
theorem dX5_costOf_18 : decode cX5_costOf 18 = .ok (.lreturn, 1) := by decide +kernel
theorem dX5_costOf_19 : decode cX5_costOf 19 = .ok (.aload_n 0, 1) := by decide +kernel
theorem dX5_costOf_20 : decode cX5_costOf 20 = .ok (.iload_n 1, 1) := by decide +kernel
theorem dX5_costOf_21 : decode cX5_costOf 21 = .ok (.invokevirtual 123, 3) := by decide +kernel
theorem dX5_costOf_24 : decode cX5_costOf 24 = .ok (.aload_n 0, 1) := by decide +kernel
theorem dX5_costOf_25 : decode cX5_costOf 25 = .ok (.iload_n 2, 1) := by decide +kernel
theorem dX5_costOf_26 : decode cX5_costOf 26 = .ok (.invokevirtual 139, 3) := by decide +kernel
theorem dX5_costOf_29 : decode cX5_costOf 29 = .ok (.lreturn, 1) := by decide +kernel
theorem dX5_day_0 : decode cX5_day 0 = .ok (.aload_n 0, 1) := by decide +kernel
theorem dX5_day_1 : decode cX5_day 1 = .ok (.iload_n 1, 1) := by decide +kernel
theorem dX5_day_2 : decode cX5_day 2 = .ok (.invokevirtual 83, 3) := by decide +kernel
theorem dX5_day_5 : decode cX5_day 5 = .ok (.ifCond .eq 22, 3) := by decide +kernel
theorem dX5_day_8 : decode cX5_day 8 = .ok (.iload_n 2, 1) := by decide +kernel
theorem dX5_day_9 : decode cX5_day 9 = .ok (.invokestatic 91, 3) := by decide +kernel
theorem dX5_day_12 : decode cX5_day 12 = .ok (.ifCond .eq 15, 3) := by decide +kernel
theorem dX5_day_15 : decode cX5_day 15 = .ok (.iload_n 3, 1) := by decide +kernel
theorem dX5_day_16 : decode cX5_day 16 = .ok (.invokestatic 91, 3) := by decide +kernel
theorem dX5_day_19 : decode cX5_day 19 = .ok (.ifCond .eq 8, 3) := by decide +kernel
theorem dX5_day_22 : decode cX5_day 22 = .ok (.iload_n 2, 1) := by decide +kernel
theorem dX5_day_23 : decode cX5_day 23 = .ok (.iload_n 3, 1) := by decide +kernel
theorem dX5_day_24 : decode cX5_day 24 = .ok (.if_icmp .le 5, 3) := by decide +kernel
theorem dX5_day_27 : decode cX5_day 27 = .ok (.iconst (-1), 1) := by decide +kernel
theorem dX5_day_28 : decode cX5_day 28 = .ok (.ireturn, 1) := by decide +kernel
theorem dX5_day_29 : decode cX5_day 29 = .ok (.aload_n 0, 1) := by decide +kernel
theorem dX5_day_30 : decode cX5_day 30 = .ok (.iload_n 1, 1) := by decide +kernel
theorem dX5_day_31 : decode cX5_day 31 = .ok (.invokevirtual 123, 3) := by decide +kernel
theorem dX5_day_34 : decode cX5_day 34 = .ok (.iload_n 2, 1) := by decide +kernel
theorem dX5_day_35 : decode cX5_day 35 = .ok (.istore 4, 2) := by decide +kernel
theorem dX5_day_37 : decode cX5_day 37 = .ok (.iload_n 2, 1) := by decide +kernel
theorem dX5_day_38 : decode cX5_day 38 = .ok (.iconst 1, 1) := by decide +kernel
theorem dX5_day_39 : decode cX5_day 39 = .ok (.iadd, 1) := by decide +kernel
theorem dX5_day_40 : decode cX5_day 40 = .ok (.istore 5, 2) := by decide +kernel
theorem dX5_day_42 : decode cX5_day 42 = .ok (.iload 5, 2) := by decide +kernel
theorem dX5_day_44 : decode cX5_day 44 = .ok (.iload_n 3, 1) := by decide +kernel
theorem dX5_day_45 : decode cX5_day 45 = .ok (.if_icmp .gt 34, 3) := by decide +kernel
theorem dX5_day_48 : decode cX5_day 48 = .ok (.aload_n 0, 1) := by decide +kernel
theorem dX5_day_49 : decode cX5_day 49 = .ok (.iload 5, 2) := by decide +kernel
theorem dX5_day_51 : decode cX5_day 51 = .ok (.invokevirtual 139, 3) := by decide +kernel
theorem dX5_day_54 : decode cX5_day 54 = .ok (.aload_n 0, 1) := by decide +kernel
theorem dX5_day_55 : decode cX5_day 55 = .ok (.iload 4, 2) := by decide +kernel
theorem dX5_day_57 : decode cX5_day 57 = .ok (.invokevirtual 139, 3) := by decide +kernel
theorem dX5_day_60 : decode cX5_day 60 = .ok (.lcmp, 1) := by decide +kernel
theorem dX5_day_61 : decode cX5_day 61 = .ok (.ifCond .ge 8, 3) := by decide +kernel
theorem dX5_day_64 : decode cX5_day 64 = .ok (.iload 5, 2) := by decide +kernel
theorem dX5_day_66 : decode cX5_day 66 = .ok (.goto 5, 3) := by decide +kernel
theorem dX5_day_69 : decode cX5_day 69 = .ok (.iload 4, 2) := by decide +kernel
theorem dX5_day_71 : decode cX5_day 71 = .ok (.istore 4, 2) := by decide +kernel
theorem dX5_day_73 : decode cX5_day 73 = .ok (.iinc 5 1, 3) := by decide +kernel
theorem dX5_day_76 : decode cX5_day 76 = .ok (.goto (-34), 3) := by decide +kernel
theorem dX5_day_79 : decode cX5_day 79 = .ok (.iload 4, 2) := by decide +kernel
theorem dX5_day_81 : decode cX5_day 81 = .ok (.ireturn, 1) := by decide +kernel
theorem dX5_check_0 : decode cX5_check 0 = .ok (.aload_n 0, 1) := by decide +kernel
theorem dX5_check_1 : decode cX5_check 1 = .ok (.iload_n 1, 1) := by decide +kernel
theorem dX5_check_2 : decode cX5_check 2 = .ok (.invokevirtual 83, 3) := by decide +kernel
theorem dX5_check_5 : decode cX5_check 5 = .ok (.ifCond .eq 17, 3) := by decide +kernel
theorem dX5_check_8 : decode cX5_check 8 = .ok (.iload_n 2, 1) := by decide +kernel
theorem dX5_check_9 : decode cX5_check 9 = .ok (.ifCond .lt 13, 3) := by decide +kernel
theorem dX5_check_12 : decode cX5_check 12 = .ok (.iload_n 2, 1) := by decide +kernel
theorem dX5_check_13 : decode cX5_check 13 = .ok (.aload_n 0, 1) := by decide +kernel
theorem dX5_check_14 : decode cX5_check 14 = .ok (.getfield 25, 3) := by decide +kernel
theorem dX5_check_17 : decode cX5_check 17 = .ok (.iload_n 1, 1) := by decide +kernel
theorem dX5_check_18 : decode cX5_check 18 = .ok (.iaload, 1) := by decide +kernel
theorem dX5_check_19 : decode cX5_check 19 = .ok (.if_icmp .lt 7, 3) := by decide +kernel
theorem dX5_check_22 : decode cX5_check 22 = .ok (.ldc2_w 143, 3) := by decide +kernel
theorem dX5_check_25 : decode cX5_check 25 = .ok (.lreturn, 1) := by decide +kernel
theorem dX5_check_26 : decode cX5_check 26 = .ok (.aload_n 0, 1) := by decide +kernel
theorem dX5_check_27 : decode cX5_check 27 = .ok (.iload_n 1, 1) := by decide +kernel
theorem dX5_check_28 : decode cX5_check 28 = .ok (.invokevirtual 123, 3) := by decide +kernel
theorem dX5_check_31 : decode cX5_check 31 = .ok (.iconst 0, 1) := by decide +kernel
theorem dX5_check_32 : decode cX5_check 32 = .ok (.istore_n 3, 1) := by decide +kernel
theorem dX5_check_33 : decode cX5_check 33 = .ok (.iconst 0, 1) := by decide +kernel
theorem dX5_check_34 : decode cX5_check 34 = .ok (.istore 4, 2) := by decide +kernel
theorem dX5_check_36 : decode cX5_check 36 = .ok (.aload_n 0, 1) := by decide +kernel
theorem dX5_check_37 : decode cX5_check 37 = .ok (.getfield 60, 3) := by decide +kernel
theorem dX5_check_40 : decode cX5_check 40 = .ok (.iload 4, 2) := by decide +kernel
theorem dX5_check_42 : decode cX5_check 42 = .ok (.baload, 1) := by decide +kernel
theorem dX5_check_43 : decode cX5_check 43 = .ok (.ifCond .eq 8, 3) := by decide +kernel
theorem dX5_check_46 : decode cX5_check 46 = .ok (.iload_n 3, 1) := by decide +kernel
theorem dX5_check_47 : decode cX5_check 47 = .ok (.iload_n 2, 1) := by decide +kernel
theorem dX5_check_48 : decode cX5_check 48 = .ok (.if_icmp .ge 27, 3) := by decide +kernel
theorem dX5_check_51 : decode cX5_check 51 = .ok (.iload_n 3, 1) := by decide +kernel
theorem dX5_check_52 : decode cX5_check 52 = .ok (.aload_n 0, 1) := by decide +kernel
theorem dX5_check_53 : decode cX5_check 53 = .ok (.getfield 60, 3) := by decide +kernel
theorem dX5_check_56 : decode cX5_check 56 = .ok (.iload 4, 2) := by decide +kernel
theorem dX5_check_58 : decode cX5_check 58 = .ok (.baload, 1) := by decide +kernel
theorem dX5_check_59 : decode cX5_check 59 = .ok (.ifCond .eq 7, 3) := by decide +kernel
theorem dX5_check_62 : decode cX5_check 62 = .ok (.iconst 1, 1) := by decide +kernel
theorem dX5_check_63 : decode cX5_check 63 = .ok (.goto 4, 3) := by decide +kernel
theorem dX5_check_66 : decode cX5_check 66 = .ok (.iconst 0, 1) := by decide +kernel
theorem dX5_check_67 : decode cX5_check 67 = .ok (.iadd, 1) := by decide +kernel
theorem dX5_check_68 : decode cX5_check 68 = .ok (.istore_n 3, 1) := by decide +kernel
theorem dX5_check_69 : decode cX5_check 69 = .ok (.iinc 4 1, 3) := by decide +kernel
theorem dX5_check_72 : decode cX5_check 72 = .ok (.goto (-36), 3) := by decide +kernel
theorem dX5_check_75 : decode cX5_check 75 = .ok (.iconst 0, 1) := by decide +kernel
theorem dX5_check_76 : decode cX5_check 76 = .ok (.istore 5, 2) := by decide +kernel
theorem dX5_check_78 : decode cX5_check 78 = .ok (.iconst 0, 1) := by decide +kernel
theorem dX5_check_79 : decode cX5_check 79 = .ok (.istore 6, 2) := by decide +kernel
theorem dX5_check_81 : decode cX5_check 81 = .ok (.iload 6, 2) := by decide +kernel
theorem dX5_check_83 : decode cX5_check 83 = .ok (.aload_n 0, 1) := by decide +kernel
theorem dX5_check_84 : decode cX5_check 84 = .ok (.getfield 25, 3) := by decide +kernel
theorem dX5_check_87 : decode cX5_check 87 = .ok (.iload_n 1, 1) := by decide +kernel
theorem dX5_check_88 : decode cX5_check 88 = .ok (.iaload, 1) := by decide +kernel
theorem dX5_check_89 : decode cX5_check 89 = .ok (.if_icmp .ge 50, 3) := by decide +kernel
theorem dX5_check_92 : decode cX5_check 92 = .ok (.aload_n 0, 1) := by decide +kernel
theorem dX5_check_93 : decode cX5_check 93 = .ok (.getfield 28, 3) := by decide +kernel
theorem dX5_check_96 : decode cX5_check 96 = .ok (.bipush 8, 2) := by decide +kernel
theorem dX5_check_98 : decode cX5_check 98 = .ok (.iload_n 1, 1) := by decide +kernel
theorem dX5_check_99 : decode cX5_check 99 = .ok (.imul, 1) := by decide +kernel
theorem dX5_check_100 : decode cX5_check 100 = .ok (.iload 6, 2) := by decide +kernel
theorem dX5_check_102 : decode cX5_check 102 = .ok (.iadd, 1) := by decide +kernel
theorem dX5_check_103 : decode cX5_check 103 = .ok (.iaload, 1) := by decide +kernel
theorem dX5_check_104 : decode cX5_check 104 = .ok (.aload_n 0, 1) := by decide +kernel
theorem dX5_check_105 : decode cX5_check 105 = .ok (.getfield 54, 3) := by decide +kernel
theorem dX5_check_108 : decode cX5_check 108 = .ok (.iload 4, 2) := by decide +kernel
theorem dX5_check_110 : decode cX5_check 110 = .ok (.iaload, 1) := by decide +kernel
theorem dX5_check_111 : decode cX5_check 111 = .ok (.if_icmp .ne 18, 3) := by decide +kernel
theorem dX5_check_114 : decode cX5_check 114 = .ok (.aload_n 0, 1) := by decide +kernel
theorem dX5_check_115 : decode cX5_check 115 = .ok (.getfield 31, 3) := by decide +kernel
theorem dX5_check_118 : decode cX5_check 118 = .ok (.bipush 8, 2) := by decide +kernel
theorem dX5_check_120 : decode cX5_check 120 = .ok (.iload_n 1, 1) := by decide +kernel
theorem dX5_check_121 : decode cX5_check 121 = .ok (.imul, 1) := by decide +kernel
theorem dX5_check_122 : decode cX5_check 122 = .ok (.iload 6, 2) := by decide +kernel
theorem dX5_check_124 : decode cX5_check 124 = .ok (.iadd, 1) := by decide +kernel
theorem dX5_check_125 : decode cX5_check 125 = .ok (.iaload, 1) := by decide +kernel
theorem dX5_check_126 : decode cX5_check 126 = .ok (.goto 5, 3) := by decide +kernel
theorem dX5_check_129 : decode cX5_check 129 = .ok (.iload 5, 2) := by decide +kernel
theorem dX5_check_131 : decode cX5_check 131 = .ok (.istore 5, 2) := by decide +kernel
theorem dX5_check_133 : decode cX5_check 133 = .ok (.iinc 6 1, 3) := by decide +kernel
theorem dX5_check_136 : decode cX5_check 136 = .ok (.goto (-55), 3) := by decide +kernel
theorem dX5_check_139 : decode cX5_check 139 = .ok (.iload 5, 2) := by decide +kernel
theorem dX5_check_141 : decode cX5_check 141 = .ok (.i2l, 1) := by decide +kernel
theorem dX5_check_142 : decode cX5_check 142 = .ok (.aload_n 0, 1) := by decide +kernel
theorem dX5_check_143 : decode cX5_check 143 = .ok (.iload 4, 2) := by decide +kernel
theorem dX5_check_145 : decode cX5_check 145 = .ok (.aload_n 0, 1) := by decide +kernel
theorem dX5_check_146 : decode cX5_check 146 = .ok (.getfield 54, 3) := by decide +kernel
theorem dX5_check_149 : decode cX5_check 149 = .ok (.iload 4, 2) := by decide +kernel
theorem dX5_check_151 : decode cX5_check 151 = .ok (.iaload, 1) := by decide +kernel
theorem dX5_check_152 : decode cX5_check 152 = .ok (.invokevirtual 126, 3) := by decide +kernel
theorem dX5_check_155 : decode cX5_check 155 = .ok (.aload_n 0, 1) := by decide +kernel
theorem dX5_check_156 : decode cX5_check 156 = .ok (.getfield 13, 3) := by decide +kernel
theorem dX5_check_159 : decode cX5_check 159 = .ok (.iload_n 1, 1) := by decide +kernel
theorem dX5_check_160 : decode cX5_check 160 = .ok (.iaload, 1) := by decide +kernel
theorem dX5_check_161 : decode cX5_check 161 = .ok (.i2l, 1) := by decide +kernel
theorem dX5_check_162 : decode cX5_check 162 = .ok (.lmul, 1) := by decide +kernel
theorem dX5_check_163 : decode cX5_check 163 = .ok (.ldc2_w 137, 3) := by decide +kernel
theorem dX5_check_166 : decode cX5_check 166 = .ok (.ldiv, 1) := by decide +kernel
theorem dX5_check_167 : decode cX5_check 167 = .ok (.lsub, 1) := by decide +kernel
theorem dX5_check_168 : decode cX5_check 168 = .ok (.lreturn, 1) := by decide +kernel
