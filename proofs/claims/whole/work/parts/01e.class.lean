theorem dX4_init_0 : decode cX4_init 0 = .ok (.aload_n 0, 1) := by decide +kernel
theorem dX4_init_1 : decode cX4_init 1 = .ok (.invokespecial 1, 3) := by decide +kernel
theorem dX4_init_4 : decode cX4_init 4 = .ok (.aload_n 0, 1) := by decide +kernel
theorem dX4_init_5 : decode cX4_init 5 = .ok (.new 7, 3) := by decide +kernel
theorem dX4_init_8 : decode cX4_init 8 = .ok (.dup, 1) := by decide +kernel
theorem dX4_init_9 : decode cX4_init 9 = .ok (.invokespecial 9, 3) := by decide +kernel
theorem dX4_init_12 : decode cX4_init 12 = .ok (.putfield 10, 3) := by decide +kernel
theorem dX4_init_15 : decode cX4_init 15 = .ok (.aload_n 0, 1) := by decide +kernel
theorem dX4_init_16 : decode cX4_init 16 = .ok (.new 16, 3) := by decide +kernel
theorem dX4_init_19 : decode cX4_init 19 = .ok (.dup, 1) := by decide +kernel
theorem dX4_init_20 : decode cX4_init 20 = .ok (.invokespecial 18, 3) := by decide +kernel
theorem dX4_init_23 : decode cX4_init 23 = .ok (.putfield 19, 3) := by decide +kernel
theorem dX4_init_26 : decode cX4_init 26 = .ok (.aload_n 0, 1) := by decide +kernel
theorem dX4_init_27 : decode cX4_init 27 = .ok (.new 23, 3) := by decide +kernel
theorem dX4_init_30 : decode cX4_init 30 = .ok (.dup, 1) := by decide +kernel
theorem dX4_init_31 : decode cX4_init 31 = .ok (.invokespecial 25, 3) := by decide +kernel
theorem dX4_init_34 : decode cX4_init 34 = .ok (.putfield 26, 3) := by decide +kernel
theorem dX4_init_37 : decode cX4_init 37 = .ok (.aload_n 0, 1) := by decide +kernel
theorem dX4_init_38 : decode cX4_init 38 = .ok (.bipush 8, 2) := by decide +kernel
theorem dX4_init_40 : decode cX4_init 40 = .ok (.anewarray 30, 3) := by decide +kernel
theorem dX4_init_43 : decode cX4_init 43 = .ok (.putfield 32, 3) := by decide +kernel
theorem dX4_init_46 : decode cX4_init 46 = .ok (.aload_n 0, 1) := by decide +kernel
theorem dX4_init_47 : decode cX4_init 47 = .ok (.iconst 0, 1) := by decide +kernel
theorem dX4_init_48 : decode cX4_init 48 = .ok (.putfield 36, 3) := by decide +kernel
theorem dX4_init_51 : decode cX4_init 51 = .ok (.aload_n 0, 1) := by decide +kernel
theorem dX4_init_52 : decode cX4_init 52 = .ok (.bipush 72, 2) := by decide +kernel
theorem dX4_init_54 : decode cX4_init 54 = .ok (.putfield 40, 3) := by decide +kernel
theorem dX4_init_57 : decode cX4_init 57 = .ok (.aload_n 0, 1) := by decide +kernel
theorem dX4_init_58 : decode cX4_init 58 = .ok (.iconst 1, 1) := by decide +kernel
theorem dX4_init_59 : decode cX4_init 59 = .ok (.putfield 43, 3) := by decide +kernel
theorem dX4_init_62 : decode cX4_init 62 = .ok (.aload_n 0, 1) := by decide +kernel
theorem dX4_init_63 : decode cX4_init 63 = .ok (.iconst 1, 1) := by decide +kernel
theorem dX4_init_64 : decode cX4_init 64 = .ok (.putfield 46, 3) := by decide +kernel
theorem dX4_init_67 : decode cX4_init 67 = .ok (.return_, 1) := by decide +kernel
theorem dX4_bin_0 : decode cX4_bin 0 = .ok (.aload_n 0, 1) := by decide +kernel
theorem dX4_bin_1 : decode cX4_bin 1 = .ok (.getfield 36, 3) := by decide +kernel
theorem dX4_bin_4 : decode cX4_bin 4 = .ok (.bipush 8, 2) := by decide +kernel
theorem dX4_bin_6 : decode cX4_bin 6 = .ok (.if_icmp .ge 23, 3) := by decide +kernel
theorem dX4_bin_9 : decode cX4_bin 9 = .ok (.iload_n 1, 1) := by decide +kernel
theorem dX4_bin_10 : decode cX4_bin 10 = .ok (.iconst 0, 1) := by decide +kernel
theorem dX4_bin_11 : decode cX4_bin 11 = .ok (.iconst 3, 1) := by decide +kernel
theorem dX4_bin_12 : decode cX4_bin 12 = .ok (.invokestatic 49, 3) := by decide +kernel
theorem dX4_bin_15 : decode cX4_bin 15 = .ok (.ifCond .eq 14, 3) := by decide +kernel
theorem dX4_bin_18 : decode cX4_bin 18 = .ok (.iload_n 2, 1) := by decide +kernel
theorem dX4_bin_19 : decode cX4_bin 19 = .ok (.iconst 1, 1) := by decide +kernel
theorem dX4_bin_20 : decode cX4_bin 20 = .ok (.sipush 10000, 3) := by decide +kernel
theorem dX4_bin_23 : decode cX4_bin 23 = .ok (.invokestatic 49, 3) := by decide +kernel
theorem dX4_bin_26 : decode cX4_bin 26 = .ok (.ifCond .ne 5, 3) := by decide +kernel
theorem dX4_bin_29 : decode cX4_bin 29 = .ok (.iconst (-1), 1) := by decide +kernel
theorem dX4_bin_30 : decode cX4_bin 30 = .ok (.ireturn, 1) := by decide +kernel
theorem dX4_bin_31 : decode cX4_bin 31 = .ok (.aload_n 0, 1) := by decide +kernel
theorem dX4_bin_32 : decode cX4_bin 32 = .ok (.getfield 32, 3) := by decide +kernel
theorem dX4_bin_35 : decode cX4_bin 35 = .ok (.aload_n 0, 1) := by decide +kernel
theorem dX4_bin_36 : decode cX4_bin 36 = .ok (.getfield 36, 3) := by decide +kernel
theorem dX4_bin_39 : decode cX4_bin 39 = .ok (.new 30, 3) := by decide +kernel
theorem dX4_bin_42 : decode cX4_bin 42 = .ok (.dup, 1) := by decide +kernel
theorem dX4_bin_43 : decode cX4_bin 43 = .ok (.iload_n 1, 1) := by decide +kernel
theorem dX4_bin_44 : decode cX4_bin 44 = .ok (.iload_n 2, 1) := by decide +kernel
theorem dX4_bin_45 : decode cX4_bin 45 = .ok (.invokespecial 53, 3) := by decide +kernel
theorem dX4_bin_48 : decode cX4_bin 48 = .ok (.aastore, 1) := by decide +kernel
theorem dX4_bin_49 : decode cX4_bin 49 = .ok (.aload_n 0, 1) := by decide +kernel
theorem dX4_bin_50 : decode cX4_bin 50 = .ok (.dup, 1) := by decide +kernel
theorem dX4_bin_51 : decode cX4_bin 51 = .ok (.getfield 36, 3) := by decide +kernel
theorem dX4_bin_54 : decode cX4_bin 54 = .ok (.iconst 1, 1) := by decide +kernel
theorem dX4_bin_55 : decode cX4_bin 55 = .ok (.iadd, 1) := by decide +kernel
theorem dX4_bin_56 : decode cX4_bin 56 = .ok (.putfield 36, 3) := by decide +kernel
theorem dX4_bin_59 : decode cX4_bin 59 = .ok (.aload_n 0, 1) := by decide +kernel
theorem dX4_bin_60 : decode cX4_bin 60 = .ok (.getfield 36, 3) := by decide +kernel
theorem dX4_bin_63 : decode cX4_bin 63 = .ok (.iconst 1, 1) := by decide +kernel
theorem dX4_bin_64 : decode cX4_bin 64 = .ok (.isub, 1) := by decide +kernel
theorem dX4_bin_65 : decode cX4_bin 65 = .ok (.ireturn, 1) := by decide +kernel
theorem dX4_row_0 : decode cX4_row 0 = .ok (.aload_n 0, 1) := by decide +kernel
theorem dX4_row_1 : decode cX4_row 1 = .ok (.iload_n 1, 1) := by decide +kernel
theorem dX4_row_2 : decode cX4_row 2 = .ok (.invokevirtual 56, 3) := by decide +kernel
theorem dX4_row_5 : decode cX4_row 5 = .ok (.astore 4, 2) := by decide +kernel
theorem dX4_row_7 : decode cX4_row 7 = .ok (.aload 4, 2) := by decide +kernel
theorem dX4_row_9 : decode cX4_row 9 = .ok (.ifnull 21, 3) := by decide +kernel
theorem dX4_row_12 : decode cX4_row 12 = .ok (.iload_n 2, 1) := by decide +kernel
theorem dX4_row_13 : decode cX4_row 13 = .ok (.invokestatic 60, 3) := by decide +kernel
theorem dX4_row_16 : decode cX4_row 16 = .ok (.ifCond .eq 14, 3) := by decide +kernel
theorem dX4_row_19 : decode cX4_row 19 = .ok (.iload_n 3, 1) := by decide +kernel
theorem dX4_row_20 : decode cX4_row 20 = .ok (.iconst 0, 1) := by decide +kernel
theorem dX4_row_21 : decode cX4_row 21 = .ok (.sipush 1500, 3) := by decide +kernel
theorem dX4_row_24 : decode cX4_row 24 = .ok (.invokestatic 49, 3) := by decide +kernel
theorem dX4_row_27 : decode cX4_row 27 = .ok (.ifCond .ne 5, 3) := by decide +kernel
theorem dX4_row_30 : decode cX4_row 30 = .ok (.iconst (-1), 1) := by decide +kernel
theorem dX4_row_31 : decode cX4_row 31 = .ok (.ireturn, 1) := by decide +kernel
theorem dX4_row_32 : decode cX4_row 32 = .ok (.aload 4, 2) := by decide +kernel
theorem dX4_row_34 : decode cX4_row 34 = .ok (.iload_n 2, 1) := by decide +kernel
theorem dX4_row_35 : decode cX4_row 35 = .ok (.iload_n 3, 1) := by decide +kernel
theorem dX4_row_36 : decode cX4_row 36 = .ok (.invokevirtual 64, 3) := by decide +kernel
theorem dX4_row_39 : decode cX4_row 39 = .ok (.ireturn, 1) := by decide +kernel
theorem dX4_emptied_0 : decode cX4_emptied 0 = .ok (.aload_n 0, 1) := by decide +kernel
theorem dX4_emptied_1 : decode cX4_emptied 1 = .ok (.iload_n 1, 1) := by decide +kernel
theorem dX4_emptied_2 : decode cX4_emptied 2 = .ok (.invokevirtual 56, 3) := by decide +kernel
theorem dX4_emptied_5 : decode cX4_emptied 5 = .ok (.astore 4, 2) := by decide +kernel
theorem dX4_emptied_7 : decode cX4_emptied 7 = .ok (.aload 4, 2) := by decide +kernel
theorem dX4_emptied_9 : decode cX4_emptied 9 = .ok (.ifnull 20, 3) := by decide +kernel
theorem dX4_emptied_12 : decode cX4_emptied 12 = .ok (.iload_n 2, 1) := by decide +kernel
theorem dX4_emptied_13 : decode cX4_emptied 13 = .ok (.invokestatic 60, 3) := by decide +kernel
theorem dX4_emptied_16 : decode cX4_emptied 16 = .ok (.ifCond .eq 13, 3) := by decide +kernel
theorem dX4_emptied_19 : decode cX4_emptied 19 = .ok (.iload_n 3, 1) := by decide +kernel
theorem dX4_emptied_20 : decode cX4_emptied 20 = .ok (.iconst 0, 1) := by decide +kernel
theorem dX4_emptied_21 : decode cX4_emptied 21 = .ok (.ldc 68, 2) := by decide +kernel
theorem dX4_emptied_23 : decode cX4_emptied 23 = .ok (.invokestatic 49, 3) := by decide +kernel
theorem dX4_emptied_26 : decode cX4_emptied 26 = .ok (.ifCond .ne 5, 3) := by decide +kernel
theorem dX4_emptied_29 : decode cX4_emptied 29 = .ok (.iconst (-1), 1) := by decide +kernel
theorem dX4_emptied_30 : decode cX4_emptied 30 = .ok (.ireturn, 1) := by decide +kernel
theorem dX4_emptied_31 : decode cX4_emptied 31 = .ok (.aload 4, 2) := by decide +kernel
theorem dX4_emptied_33 : decode cX4_emptied 33 = .ok (.iload_n 2, 1) := by decide +kernel
theorem dX4_emptied_34 : decode cX4_emptied 34 = .ok (.iload_n 3, 1) := by decide +kernel
theorem dX4_emptied_35 : decode cX4_emptied 35 = .ok (.invokevirtual 69, 3) := by decide +kernel
theorem dX4_emptied_38 : decode cX4_emptied 38 = .ok (.ireturn, 1) := by decide +kernel
theorem dX4_fade_0 : decode cX4_fade 0 = .ok (.iload_n 1, 1) := by decide +kernel
theorem dX4_fade_1 : decode cX4_fade 1 = .ok (.iconst 1, 1) := by decide +kernel
theorem dX4_fade_2 : decode cX4_fade 2 = .ok (.bipush 9, 2) := by decide +kernel
theorem dX4_fade_4 : decode cX4_fade 4 = .ok (.invokestatic 49, 3) := by decide +kernel
theorem dX4_fade_7 : decode cX4_fade 7 = .ok (.ifCond .eq 18, 3) := by decide +kernel
theorem dX4_fade_10 : decode cX4_fade 10 = .ok (.iload_n 2, 1) := by decide +kernel
theorem dX4_fade_11 : decode cX4_fade 11 = .ok (.iconst 1, 1) := by decide +kernel
theorem dX4_fade_12 : decode cX4_fade 12 = .ok (.bipush 9, 2) := by decide +kernel
theorem dX4_fade_14 : decode cX4_fade 14 = .ok (.invokestatic 49, 3) := by decide +kernel
theorem dX4_fade_17 : decode cX4_fade 17 = .ok (.ifCond .eq 8, 3) := by decide +kernel
theorem dX4_fade_20 : decode cX4_fade 20 = .ok (.iload_n 1, 1) := by decide +kernel
theorem dX4_fade_21 : decode cX4_fade 21 = .ok (.iload_n 2, 1) := by decide +kernel
theorem dX4_fade_22 : decode cX4_fade 22 = .ok (.if_icmp .le 5, 3) := by decide +kernel
theorem dX4_fade_25 : decode cX4_fade 25 = .ok (.iconst 0, 1) := by decide +kernel
theorem dX4_fade_26 : decode cX4_fade 26 = .ok (.ireturn, 1) := by decide +kernel
theorem dX4_fade_27 : decode cX4_fade 27 = .ok (.aload_n 0, 1) := by decide +kernel
theorem dX4_fade_28 : decode cX4_fade 28 = .ok (.getfield 19, 3) := by decide +kernel
theorem dX4_fade_31 : decode cX4_fade 31 = .ok (.iload_n 1, 1) := by decide +kernel
theorem dX4_fade_32 : decode cX4_fade 32 = .ok (.iload_n 2, 1) := by decide +kernel
theorem dX4_fade_33 : decode cX4_fade 33 = .ok (.invokevirtual 72, 3) := by decide +kernel
theorem dX4_fade_36 : decode cX4_fade 36 = .ok (.iconst 1, 1) := by decide +kernel
theorem dX4_fade_37 : decode cX4_fade 37 = .ok (.ireturn, 1) := by decide +kernel
theorem dX4_holiday_0 : decode cX4_holiday 0 = .ok (.iload_n 1, 1) := by decide +kernel
theorem dX4_holiday_1 : decode cX4_holiday 1 = .ok (.invokestatic 75, 3) := by decide +kernel
theorem dX4_holiday_4 : decode cX4_holiday 4 = .ok (.ifCond .ne 5, 3) := by decide +kernel
theorem dX4_holiday_7 : decode cX4_holiday 7 = .ok (.iconst 0, 1) := by decide +kernel
theorem dX4_holiday_8 : decode cX4_holiday 8 = .ok (.ireturn, 1) := by decide +kernel
theorem dX4_holiday_9 : decode cX4_holiday 9 = .ok (.aload_n 0, 1) := by decide +kernel
theorem dX4_holiday_10 : decode cX4_holiday 10 = .ok (.getfield 10, 3) := by decide +kernel
theorem dX4_holiday_13 : decode cX4_holiday 13 = .ok (.iload_n 1, 1) := by decide +kernel
theorem dX4_holiday_14 : decode cX4_holiday 14 = .ok (.iload_n 2, 1) := by decide +kernel
theorem dX4_holiday_15 : decode cX4_holiday 15 = .ok (.invokevirtual 78, 3) := by decide +kernel
theorem dX4_holiday_18 : decode cX4_holiday 18 = .ok (.iconst 1, 1) := by decide +kernel
theorem dX4_holiday_19 : decode cX4_holiday 19 = .ok (.ireturn, 1) := by decide +kernel
theorem dX4_mean_0 : decode cX4_mean 0 = .ok (.aload_n 0, 1) := by decide +kernel
theorem dX4_mean_1 : decode cX4_mean 1 = .ok (.iload_n 1, 1) := by decide +kernel
theorem dX4_mean_2 : decode cX4_mean 2 = .ok (.invokevirtual 56, 3) := by decide +kernel
theorem dX4_mean_5 : decode cX4_mean 5 = .ok (.astore_n 3, 1) := by decide +kernel
theorem dX4_mean_6 : decode cX4_mean 6 = .ok (.aload_n 3, 1) := by decide +kernel
theorem dX4_mean_7 : decode cX4_mean 7 = .ok (.ifnull 13, 3) := by decide +kernel
theorem dX4_mean_10 : decode cX4_mean 10 = .ok (.iload_n 2, 1) := by decide +kernel
theorem dX4_mean_11 : decode cX4_mean 11 = .ok (.iconst 0, 1) := by decide +kernel
theorem dX4_mean_12 : decode cX4_mean 12 = .ok (.bipush 6, 2) := by decide +kernel
theorem dX4_mean_14 : decode cX4_mean 14 = .ok (.invokestatic 49, 3) := by decide +kernel
theorem dX4_mean_17 : decode cX4_mean 17 = .ok (.ifCond .ne 5, 3) := by decide +kernel
theorem dX4_mean_20 : decode cX4_mean 20 = .ok (.iconst (-1), 1) := by decide +kernel
theorem dX4_mean_21 : decode cX4_mean 21 = .ok (.ireturn, 1) := by decide +kernel
theorem dX4_mean_22 : decode cX4_mean 22 = .ok (.aload_n 3, 1) := by decide +kernel
theorem dX4_mean_23 : decode cX4_mean 23 = .ok (.iload_n 2, 1) := by decide +kernel
theorem dX4_mean_24 : decode cX4_mean 24 = .ok (.aload_n 0, 1) := by decide +kernel
theorem dX4_mean_25 : decode cX4_mean 25 = .ok (.getfield 10, 3) := by decide +kernel
theorem dX4_mean_28 : decode cX4_mean 28 = .ok (.aload_n 0, 1) := by decide +kernel
theorem dX4_mean_29 : decode cX4_mean 29 = .ok (.getfield 19, 3) := by decide +kernel
theorem dX4_mean_32 : decode cX4_mean 32 = .ok (.invokevirtual 82, 3) := by decide +kernel
theorem dX4_mean_35 : decode cX4_mean 35 = .ok (.ireturn, 1) := by decide +kernel
theorem dX4_rate_0 : decode cX4_rate 0 = .ok (.aload_n 0, 1) := by decide +kernel
theorem dX4_rate_1 : decode cX4_rate 1 = .ok (.iload_n 1, 1) := by decide +kernel
theorem dX4_rate_2 : decode cX4_rate 2 = .ok (.invokevirtual 56, 3) := by decide +kernel
theorem dX4_rate_5 : decode cX4_rate 5 = .ok (.astore_n 3, 1) := by decide +kernel
theorem dX4_rate_6 : decode cX4_rate 6 = .ok (.aload_n 3, 1) := by decide +kernel
theorem dX4_rate_7 : decode cX4_rate 7 = .ok (.ifnull 10, 3) := by decide +kernel
theorem dX4_rate_10 : decode cX4_rate 10 = .ok (.iload_n 2, 1) := by decide +kernel
theorem dX4_rate_11 : decode cX4_rate 11 = .ok (.invokestatic 75, 3) := by decide +kernel
theorem dX4_rate_14 : decode cX4_rate 14 = .ok (.ifCond .ne 5, 3) := by decide +kernel
theorem dX4_rate_17 : decode cX4_rate 17 = .ok (.iconst (-1), 1) := by decide +kernel
theorem dX4_rate_18 : decode cX4_rate 18 = .ok (.ireturn, 1) := by decide +kernel
theorem dX4_rate_19 : decode cX4_rate 19 = .ok (.aload_n 0, 1) := by decide +kernel
theorem dX4_rate_20 : decode cX4_rate 20 = .ok (.aload_n 3, 1) := by decide +kernel
theorem dX4_rate_21 : decode cX4_rate 21 = .ok (.aload_n 0, 1) := by decide +kernel
theorem dX4_rate_22 : decode cX4_rate 22 = .ok (.getfield 10, 3) := by decide +kernel
theorem dX4_rate_25 : decode cX4_rate 25 = .ok (.iload_n 2, 1) := by decide +kernel
theorem dX4_rate_26 : decode cX4_rate 26 = .ok (.invokevirtual 86, 3) := by decide +kernel
theorem dX4_rate_29 : decode cX4_rate 29 = .ok (.invokevirtual 90, 3) := by decide +kernel
theorem dX4_rate_32 : decode cX4_rate 32 = .ok (.ireturn, 1) := by decide +kernel
theorem dX4_weight_0 : decode cX4_weight 0 = .ok (.iload_n 1, 1) := by decide +kernel
theorem dX4_weight_1 : decode cX4_weight 1 = .ok (.iconst 0, 1) := by decide +kernel
theorem dX4_weight_2 : decode cX4_weight 2 = .ok (.bipush 7, 2) := by decide +kernel
theorem dX4_weight_4 : decode cX4_weight 4 = .ok (.invokestatic 49, 3) := by decide +kernel
theorem dX4_weight_7 : decode cX4_weight 7 = .ok (.ifCond .eq 14, 3) := by decide +kernel
theorem dX4_weight_10 : decode cX4_weight 10 = .ok (.aload_n 0, 1) := by decide +kernel
theorem dX4_weight_11 : decode cX4_weight 11 = .ok (.getfield 19, 3) := by decide +kernel
theorem dX4_weight_14 : decode cX4_weight 14 = .ok (.iload_n 1, 1) := by decide +kernel
theorem dX4_weight_15 : decode cX4_weight 15 = .ok (.invokevirtual 94, 3) := by decide +kernel
theorem dX4_weight_18 : decode cX4_weight 18 = .ok (.goto 4, 3) := by decide +kernel
theorem dX4_weight_21 : decode cX4_weight 21 = .ok (.iconst (-1), 1) := by decide +kernel
theorem dX4_weight_22 : decode cX4_weight 22 = .ok (.ireturn, 1) := by decide +kernel
theorem dX4_expected_0 : decode cX4_expected 0 = .ok (.aload_n 0, 1) := by decide +kernel
theorem dX4_expected_1 : decode cX4_expected 1 = .ok (.iload_n 1, 1) := by decide +kernel
theorem dX4_expected_2 : decode cX4_expected 2 = .ok (.invokevirtual 56, 3) := by decide +kernel
theorem dX4_expected_5 : decode cX4_expected 5 = .ok (.astore_n 3, 1) := by decide +kernel
theorem dX4_expected_6 : decode cX4_expected 6 = .ok (.aload_n 3, 1) := by decide +kernel
theorem dX4_expected_7 : decode cX4_expected 7 = .ok (.ifnull 10, 3) := by decide +kernel
theorem dX4_expected_10 : decode cX4_expected 10 = .ok (.iload_n 2, 1) := by decide +kernel
theorem dX4_expected_11 : decode cX4_expected 11 = .ok (.invokestatic 60, 3) := by decide +kernel
theorem dX4_expected_14 : decode cX4_expected 14 = .ok (.ifCond .ne 7, 3) := by decide +kernel
theorem dX4_expected_17 : decode cX4_expected 17 = .ok (.ldc2_w 97, 3) := by decide +kernel
theorem dX4_expected_20 : decode cX4_expected 20 = .ok (.lreturn, 1) := by decide +kernel
theorem dX4_expected_21 : decode cX4_expected 21 = .ok (.aload_n 0, 1) := by decide +kernel
theorem dX4_expected_22 : decode cX4_expected 22 = .ok (.aload_n 3, 1) := by decide +kernel
theorem dX4_expected_23 : decode cX4_expected 23 = .ok (.invokevirtual 99, 3) := by decide +kernel
theorem dX4_expected_26 : decode cX4_expected 26 = .ok (.aload_n 0, 1) := by decide +kernel
theorem dX4_expected_27 : decode cX4_expected 27 = .ok (.getfield 26, 3) := by decide +kernel
theorem dX4_expected_30 : decode cX4_expected 30 = .ok (.aload_n 3, 1) := by decide +kernel
theorem dX4_expected_31 : decode cX4_expected 31 = .ok (.iload_n 2, 1) := by decide +kernel
theorem dX4_expected_32 : decode cX4_expected 32 = .ok (.invokevirtual 103, 3) := by decide +kernel
theorem dX4_expected_35 : decode cX4_expected 35 = .ok (.lreturn, 1) := by decide +kernel
theorem dX4_wrong_0 : decode cX4_wrong 0 = .ok (.aload_n 0, 1) := by decide +kernel
theorem dX4_wrong_1 : decode cX4_wrong 1 = .ok (.iload_n 1, 1) := by decide +kernel
theorem dX4_wrong_2 : decode cX4_wrong 2 = .ok (.invokevirtual 56, 3) := by decide +kernel
theorem dX4_wrong_5 : decode cX4_wrong 5 = .ok (.astore_n 3, 1) := by decide +kernel
theorem dX4_wrong_6 : decode cX4_wrong 6 = .ok (.aload_n 3, 1) := by decide +kernel
theorem dX4_wrong_7 : decode cX4_wrong 7 = .ok (.ifnonnull 7, 3) := by decide +kernel
theorem dX4_wrong_10 : decode cX4_wrong 10 = .ok (.iconst (-1), 1) := by decide +kernel
theorem dX4_wrong_11 : decode cX4_wrong 11 = .ok (.goto 8, 3) := by decide +kernel
theorem dX4_wrong_14 : decode cX4_wrong 14 = .ok (.aload_n 3, 1) := by decide +kernel
theorem dX4_wrong_15 : decode cX4_wrong 15 = .ok (.iload_n 2, 1) := by decide +kernel
theorem dX4_wrong_16 : decode cX4_wrong 16 = .ok (.invokevirtual 107, 3) := by decide +kernel
theorem dX4_wrong_19 : decode cX4_wrong 19 = .ok (.ireturn, 1) := by decide +kernel
theorem dX4_quiet_0 : decode cX4_quiet 0 = .ok (.iload_n 1, 1) := by decide +kernel
theorem dX4_quiet_1 : decode cX4_quiet 1 = .ok (.iconst 0, 1) := by decide +kernel
theorem dX4_quiet_2 : decode cX4_quiet 2 = .ok (.sipush 1000, 3) := by decide +kernel
theorem dX4_quiet_5 : decode cX4_quiet 5 = .ok (.invokestatic 49, 3) := by decide +kernel
theorem dX4_quiet_8 : decode cX4_quiet 8 = .ok (.ifCond .ne 5, 3) := by decide +kernel
theorem dX4_quiet_11 : decode cX4_quiet 11 = .ok (.iconst 0, 1) := by decide +kernel
theorem dX4_quiet_12 : decode cX4_quiet 12 = .ok (.ireturn, 1) := by decide +kernel
theorem dX4_quiet_13 : decode cX4_quiet 13 = .ok (.aload_n 0, 1) := by decide +kernel
theorem dX4_quiet_14 : decode cX4_quiet 14 = .ok (.iload_n 1, 1) := by decide +kernel
theorem dX4_quiet_15 : decode cX4_quiet 15 = .ok (.putfield 40, 3) := by decide +kernel
theorem dX4_quiet_18 : decode cX4_quiet 18 = .ok (.iconst 1, 1) := by decide +kernel
theorem dX4_quiet_19 : decode cX4_quiet 19 = .ok (.ireturn, 1) := by decide +kernel
theorem dX4_silent_0 : decode cX4_silent 0 = .ok (.iload_n 1, 1) := by decide +kernel
theorem dX4_silent_1 : decode cX4_silent 1 = .ok (.invokestatic 60, 3) := by decide +kernel
theorem dX4_silent_4 : decode cX4_silent 4 = .ok (.ifCond .ne 5, 3) := by decide +kernel
theorem dX4_silent_7 : decode cX4_silent 7 = .ok (.iconst (-1), 1) := by decide +kernel
theorem dX4_silent_8 : decode cX4_silent 8 = .ok (.ireturn, 1) := by decide +kernel
theorem dX4_silent_9 : decode cX4_silent 9 = .ok (.iconst 0, 1) := by decide +kernel
theorem dX4_silent_10 : decode cX4_silent 10 = .ok (.istore_n 3, 1) := by decide +kernel
theorem dX4_silent_11 : decode cX4_silent 11 = .ok (.iconst 0, 1) := by decide +kernel
theorem dX4_silent_12 : decode cX4_silent 12 = .ok (.istore 4, 2) := by decide +kernel
theorem dX4_silent_14 : decode cX4_silent 14 = .ok (.iload 4, 2) := by decide +kernel
theorem dX4_silent_16 : decode cX4_silent 16 = .ok (.aload_n 0, 1) := by decide +kernel
theorem dX4_silent_17 : decode cX4_silent 17 = .ok (.getfield 36, 3) := by decide +kernel
theorem dX4_silent_20 : decode cX4_silent 20 = .ok (.if_icmp .ge 40, 3) := by decide +kernel
theorem dX4_silent_23 : decode cX4_silent 23 = .ok (.aload_n 0, 1) := by decide +kernel
theorem dX4_silent_24 : decode cX4_silent 24 = .ok (.getfield 32, 3) := by decide +kernel
theorem dX4_silent_27 : decode cX4_silent 27 = .ok (.iload 4, 2) := by decide +kernel
theorem dX4_silent_29 : decode cX4_silent 29 = .ok (.aaload, 1) := by decide +kernel
theorem dX4_silent_30 : decode cX4_silent 30 = .ok (.iload_n 1, 1) := by decide +kernel
theorem dX4_silent_31 : decode cX4_silent 31 = .ok (.aload_n 0, 1) := by decide +kernel
theorem dX4_silent_32 : decode cX4_silent 32 = .ok (.getfield 40, 3) := by decide +kernel
theorem dX4_silent_35 : decode cX4_silent 35 = .ok (.isub, 1) := by decide +kernel
theorem dX4_silent_36 : decode cX4_silent 36 = .ok (.iload_n 1, 1) := by decide +kernel
theorem dX4_silent_37 : decode cX4_silent 37 = .ok (.invokevirtual 110, 3) := by decide +kernel
theorem dX4_silent_40 : decode cX4_silent 40 = .ok (.ifCond .ne 14, 3) := by decide +kernel
theorem dX4_silent_43 : decode cX4_silent 43 = .ok (.iload_n 3, 1) := by decide +kernel
theorem dX4_silent_44 : decode cX4_silent 44 = .ok (.iload_n 2, 1) := by decide +kernel
theorem dX4_silent_45 : decode cX4_silent 45 = .ok (.if_icmp .ne 6, 3) := by decide +kernel
theorem dX4_silent_48 : decode cX4_silent 48 = .ok (.iload 4, 2) := by decide +kernel
theorem dX4_silent_50 : decode cX4_silent 50 = .ok (.ireturn, 1) := by decide +kernel
theorem dX4_silent_51 : decode cX4_silent 51 = .ok (.iinc 3 1, 3) := by decide +kernel
theorem dX4_silent_54 : decode cX4_silent 54 = .ok (.iinc 4 1, 3) := by decide +kernel
theorem dX4_silent_57 : decode cX4_silent 57 = .ok (.goto (-43), 3) := by decide +kernel
theorem dX4_silent_60 : decode cX4_silent 60 = .ok (.iconst (-1), 1) := by decide +kernel
theorem dX4_silent_61 : decode cX4_silent 61 = .ok (.ireturn, 1) := by decide +kernel
theorem dX4_over_0 : decode cX4_over 0 = .ok (.iload_n 1, 1) := by decide +kernel
theorem dX4_over_1 : decode cX4_over 1 = .ok (.invokestatic 60, 3) := by decide +kernel
theorem dX4_over_4 : decode cX4_over 4 = .ok (.ifCond .ne 5, 3) := by decide +kernel
theorem dX4_over_7 : decode cX4_over 7 = .ok (.iconst (-1), 1) := by decide +kernel
theorem dX4_over_8 : decode cX4_over 8 = .ok (.ireturn, 1) := by decide +kernel
theorem dX4_over_9 : decode cX4_over 9 = .ok (.iconst 0, 1) := by decide +kernel
theorem dX4_over_10 : decode cX4_over 10 = .ok (.istore_n 3, 1) := by decide +kernel
theorem dX4_over_11 : decode cX4_over 11 = .ok (.iconst 0, 1) := by decide +kernel
theorem dX4_over_12 : decode cX4_over 12 = .ok (.istore 4, 2) := by decide +kernel
theorem dX4_over_14 : decode cX4_over 14 = .ok (.iload 4, 2) := by decide +kernel
theorem dX4_over_16 : decode cX4_over 16 = .ok (.aload_n 0, 1) := by decide +kernel
theorem dX4_over_17 : decode cX4_over 17 = .ok (.getfield 36, 3) := by decide +kernel
theorem dX4_over_20 : decode cX4_over 20 = .ok (.if_icmp .ge 53, 3) := by decide +kernel
theorem dX4_over_23 : decode cX4_over 23 = .ok (.aload_n 0, 1) := by decide +kernel
theorem dX4_over_24 : decode cX4_over 24 = .ok (.aload_n 0, 1) := by decide +kernel
theorem dX4_over_25 : decode cX4_over 25 = .ok (.getfield 32, 3) := by decide +kernel
theorem dX4_over_28 : decode cX4_over 28 = .ok (.iload 4, 2) := by decide +kernel
theorem dX4_over_30 : decode cX4_over 30 = .ok (.aaload, 1) := by decide +kernel
theorem dX4_over_31 : decode cX4_over 31 = .ok (.invokevirtual 99, 3) := by decide +kernel
theorem dX4_over_34 : decode cX4_over 34 = .ok (.aload_n 0, 1) := by decide +kernel
theorem dX4_over_35 : decode cX4_over 35 = .ok (.getfield 26, 3) := by decide +kernel
theorem dX4_over_38 : decode cX4_over 38 = .ok (.aload_n 0, 1) := by decide +kernel
theorem dX4_over_39 : decode cX4_over 39 = .ok (.getfield 32, 3) := by decide +kernel
theorem dX4_over_42 : decode cX4_over 42 = .ok (.iload 4, 2) := by decide +kernel
theorem dX4_over_44 : decode cX4_over 44 = .ok (.aaload, 1) := by decide +kernel
theorem dX4_over_45 : decode cX4_over 45 = .ok (.iload_n 1, 1) := by decide +kernel
theorem dX4_over_46 : decode cX4_over 46 = .ok (.invokevirtual 103, 3) := by decide +kernel
theorem dX4_over_49 : decode cX4_over 49 = .ok (.ldc2_w 114, 3) := by decide +kernel
theorem dX4_over_52 : decode cX4_over 52 = .ok (.lcmp, 1) := by decide +kernel
theorem dX4_over_53 : decode cX4_over 53 = .ok (.ifCond .lt 14, 3) := by decide +kernel
theorem dX4_over_56 : decode cX4_over 56 = .ok (.iload_n 3, 1) := by decide +kernel
theorem dX4_over_57 : decode cX4_over 57 = .ok (.iload_n 2, 1) := by decide +kernel
theorem dX4_over_58 : decode cX4_over 58 = .ok (.if_icmp .ne 6, 3) := by decide +kernel
theorem dX4_over_61 : decode cX4_over 61 = .ok (.iload 4, 2) := by decide +kernel
theorem dX4_over_63 : decode cX4_over 63 = .ok (.ireturn, 1) := by decide +kernel
theorem dX4_over_64 : decode cX4_over 64 = .ok (.iinc 3 1, 3) := by decide +kernel
theorem dX4_over_67 : decode cX4_over 67 = .ok (.iinc 4 1, 3) := by decide +kernel
theorem dX4_over_70 : decode cX4_over 70 = .ok (.goto (-56), 3) := by decide +kernel
theorem dX4_over_73 : decode cX4_over 73 = .ok (.iconst (-1), 1) := by decide +kernel
theorem dX4_over_74 : decode cX4_over 74 = .ok (.ireturn, 1) := by decide +kernel
theorem dX4_cost_0 : decode cX4_cost 0 = .ok (.iload_n 1, 1) := by decide +kernel
theorem dX4_cost_1 : decode cX4_cost 1 = .ok (.iconst 0, 1) := by decide +kernel
theorem dX4_cost_2 : decode cX4_cost 2 = .ok (.sipush 1000, 3) := by decide +kernel
theorem dX4_cost_5 : decode cX4_cost 5 = .ok (.invokestatic 49, 3) := by decide +kernel
theorem dX4_cost_8 : decode cX4_cost 8 = .ok (.ifCond .eq 14, 3) := by decide +kernel
theorem dX4_cost_11 : decode cX4_cost 11 = .ok (.iload_n 2, 1) := by decide +kernel
theorem dX4_cost_12 : decode cX4_cost 12 = .ok (.iconst 0, 1) := by decide +kernel
theorem dX4_cost_13 : decode cX4_cost 13 = .ok (.sipush 1000, 3) := by decide +kernel
theorem dX4_cost_16 : decode cX4_cost 16 = .ok (.invokestatic 49, 3) := by decide +kernel
theorem dX4_cost_19 : decode cX4_cost 19 = .ok (.ifCond .ne 5, 3) := by decide +kernel
theorem dX4_cost_22 : decode cX4_cost 22 = .ok (.iconst 0, 1) := by decide +kernel
theorem dX4_cost_23 : decode cX4_cost 23 = .ok (.ireturn, 1) := by decide +kernel
theorem dX4_cost_24 : decode cX4_cost 24 = .ok (.aload_n 0, 1) := by decide +kernel
theorem dX4_cost_25 : decode cX4_cost 25 = .ok (.iload_n 1, 1) := by decide +kernel
theorem dX4_cost_26 : decode cX4_cost 26 = .ok (.putfield 43, 3) := by decide +kernel
theorem dX4_cost_29 : decode cX4_cost 29 = .ok (.aload_n 0, 1) := by decide +kernel
theorem dX4_cost_30 : decode cX4_cost 30 = .ok (.iload_n 2, 1) := by decide +kernel
theorem dX4_cost_31 : decode cX4_cost 31 = .ok (.putfield 46, 3) := by decide +kernel
theorem dX4_cost_34 : decode cX4_cost 34 = .ok (.iconst 1, 1) := by decide +kernel
theorem dX4_cost_35 : decode cX4_cost 35 = .ok (.ireturn, 1) := by decide +kernel
theorem dX4_costOf_0 : decode cX4_costOf 0 = .ok (.aload_n 0, 1) := by decide +kernel
theorem dX4_costOf_1 : decode cX4_costOf 1 = .ok (.iload_n 1, 1) := by decide +kernel
theorem dX4_costOf_2 : decode cX4_costOf 2 = .ok (.invokevirtual 56, 3) := by decide +kernel
theorem dX4_costOf_5 : decode cX4_costOf 5 = .ok (.astore_n 3, 1) := by decide +kernel
theorem dX4_costOf_6 : decode cX4_costOf 6 = .ok (.aload_n 3, 1) := by decide +kernel
theorem dX4_costOf_7 : decode cX4_costOf 7 = .ok (.ifnull 10, 3) := by decide +kernel
theorem dX4_costOf_10 : decode cX4_costOf 10 = .ok (.iload_n 2, 1) := by decide +kernel
theorem dX4_costOf_11 : decode cX4_costOf 11 = .ok (.invokestatic 75, 3) := by decide +kernel
theorem dX4_costOf_14 : decode cX4_costOf 14 = .ok (.ifCond .ne 7, 3) := by decide +kernel
theorem dX4_costOf_17 : decode cX4_costOf 17 = .ok (.ldc2_w 97, 3) := by decide +kernel
theorem dX4_costOf_20 : decode cX4_costOf 20 = .ok (.lreturn, 1) := by decide +kernel
theorem dX4_costOf_21 : decode cX4_costOf 21 = .ok (.aload_n 0, 1) := by decide +kernel
theorem dX4_costOf_22 : decode cX4_costOf 22 = .ok (.aload_n 3, 1) := by decide +kernel
theorem dX4_costOf_23 : decode cX4_costOf 23 = .ok (.invokevirtual 99, 3) := by decide +kernel
theorem dX4_costOf_26 : decode cX4_costOf 26 = .ok (.aload_n 0, 1) := by decide +kernel
theorem dX4_costOf_27 : decode cX4_costOf 27 = .ok (.aload_n 3, 1) := by decide +kernel
theorem dX4_costOf_28 : decode cX4_costOf 28 = .ok (.iload_n 2, 1) := by decide +kernel
theorem dX4_costOf_29 : decode cX4_costOf 29 = .ok (.invokevirtual 116, 3) := by decide +kernel
theorem dX4_costOf_32 : decode cX4_costOf 32 = .ok (.lreturn, 1) := by decide +kernel
theorem dX4_day_0 : decode cX4_day 0 = .ok (.aload_n 0, 1) := by decide +kernel
theorem dX4_day_1 : decode cX4_day 1 = .ok (.iload_n 1, 1) := by decide +kernel
theorem dX4_day_2 : decode cX4_day 2 = .ok (.invokevirtual 56, 3) := by decide +kernel
theorem dX4_day_5 : decode cX4_day 5 = .ok (.astore 4, 2) := by decide +kernel
theorem dX4_day_7 : decode cX4_day 7 = .ok (.aload 4, 2) := by decide +kernel
theorem dX4_day_9 : decode cX4_day 9 = .ok (.ifnull 22, 3) := by decide +kernel
theorem dX4_day_12 : decode cX4_day 12 = .ok (.iload_n 2, 1) := by decide +kernel
theorem dX4_day_13 : decode cX4_day 13 = .ok (.invokestatic 75, 3) := by decide +kernel
theorem dX4_day_16 : decode cX4_day 16 = .ok (.ifCond .eq 15, 3) := by decide +kernel
theorem dX4_day_19 : decode cX4_day 19 = .ok (.iload_n 3, 1) := by decide +kernel
theorem dX4_day_20 : decode cX4_day 20 = .ok (.invokestatic 75, 3) := by decide +kernel
theorem dX4_day_23 : decode cX4_day 23 = .ok (.ifCond .eq 8, 3) := by decide +kernel
theorem dX4_day_26 : decode cX4_day 26 = .ok (.iload_n 2, 1) := by decide +kernel
theorem dX4_day_27 : decode cX4_day 27 = .ok (.iload_n 3, 1) := by decide +kernel
theorem dX4_day_28 : decode cX4_day 28 = .ok (.if_icmp .le 5, 3) := by decide +kernel
theorem dX4_day_31 : decode cX4_day 31 = .ok (.iconst (-1), 1) := by decide +kernel
theorem dX4_day_32 : decode cX4_day 32 = .ok (.ireturn, 1) := by decide +kernel
theorem dX4_day_33 : decode cX4_day 33 = .ok (.aload_n 0, 1) := by decide +kernel
theorem dX4_day_34 : decode cX4_day 34 = .ok (.aload 4, 2) := by decide +kernel
theorem dX4_day_36 : decode cX4_day 36 = .ok (.invokevirtual 99, 3) := by decide +kernel
theorem dX4_day_39 : decode cX4_day 39 = .ok (.iload_n 2, 1) := by decide +kernel
theorem dX4_day_40 : decode cX4_day 40 = .ok (.istore 5, 2) := by decide +kernel
theorem dX4_day_42 : decode cX4_day 42 = .ok (.aload_n 0, 1) := by decide +kernel
theorem dX4_day_43 : decode cX4_day 43 = .ok (.aload 4, 2) := by decide +kernel
theorem dX4_day_45 : decode cX4_day 45 = .ok (.iload_n 2, 1) := by decide +kernel
theorem dX4_day_46 : decode cX4_day 46 = .ok (.invokevirtual 116, 3) := by decide +kernel
theorem dX4_day_49 : decode cX4_day 49 = .ok (.lstore 6, 2) := by decide +kernel
theorem dX4_day_51 : decode cX4_day 51 = .ok (.iload_n 2, 1) := by decide +kernel
theorem dX4_day_52 : decode cX4_day 52 = .ok (.iconst 1, 1) := by decide +kernel
theorem dX4_day_53 : decode cX4_day 53 = .ok (.iadd, 1) := by decide +kernel
theorem dX4_day_54 : decode cX4_day 54 = .ok (.istore 8, 2) := by decide +kernel
theorem dX4_day_56 : decode cX4_day 56 = .ok (.iload 8, 2) := by decide +kernel
theorem dX4_day_58 : decode cX4_day 58 = .ok (.iload_n 3, 1) := by decide +kernel
theorem dX4_day_59 : decode cX4_day 59 = .ok (.if_icmp .gt 35, 3) := by decide +kernel
theorem dX4_day_62 : decode cX4_day 62 = .ok (.aload_n 0, 1) := by decide +kernel
theorem dX4_day_63 : decode cX4_day 63 = .ok (.aload 4, 2) := by decide +kernel
theorem dX4_day_65 : decode cX4_day 65 = .ok (.iload 8, 2) := by decide +kernel
theorem dX4_day_67 : decode cX4_day 67 = .ok (.invokevirtual 116, 3) := by decide +kernel
theorem dX4_day_70 : decode cX4_day 70 = .ok (.lstore 9, 2) := by decide +kernel
theorem dX4_day_72 : decode cX4_day 72 = .ok (.lload 9, 2) := by decide +kernel
theorem dX4_day_74 : decode cX4_day 74 = .ok (.lload 6, 2) := by decide +kernel
theorem dX4_day_76 : decode cX4_day 76 = .ok (.lcmp, 1) := by decide +kernel
theorem dX4_day_77 : decode cX4_day 77 = .ok (.ifCond .ge 11, 3) := by decide +kernel
theorem dX4_day_80 : decode cX4_day 80 = .ok (.iload 8, 2) := by decide +kernel
theorem dX4_day_82 : decode cX4_day 82 = .ok (.istore 5, 2) := by decide +kernel
theorem dX4_day_84 : decode cX4_day 84 = .ok (.lload 9, 2) := by decide +kernel
theorem dX4_day_86 : decode cX4_day 86 = .ok (.lstore 6, 2) := by decide +kernel
theorem dX4_day_88 : decode cX4_day 88 = .ok (.iinc 8 1, 3) := by decide +kernel
theorem dX4_day_91 : decode cX4_day 91 = .ok (.goto (-35), 3) := by decide +kernel
theorem dX4_day_94 : decode cX4_day 94 = .ok (.iload 5, 2) := by decide +kernel
theorem dX4_day_96 : decode cX4_day 96 = .ok (.ireturn, 1) := by decide +kernel
theorem dX4_check_0 : decode cX4_check 0 = .ok (.aload_n 0, 1) := by decide +kernel
theorem dX4_check_1 : decode cX4_check 1 = .ok (.iload_n 1, 1) := by decide +kernel
theorem dX4_check_2 : decode cX4_check 2 = .ok (.invokevirtual 56, 3) := by decide +kernel
theorem dX4_check_5 : decode cX4_check 5 = .ok (.astore_n 3, 1) := by decide +kernel
theorem dX4_check_6 : decode cX4_check 6 = .ok (.aload_n 3, 1) := by decide +kernel
theorem dX4_check_7 : decode cX4_check 7 = .ok (.ifnonnull 7, 3) := by decide +kernel
theorem dX4_check_10 : decode cX4_check 10 = .ok (.iconst (-1), 1) := by decide +kernel
theorem dX4_check_11 : decode cX4_check 11 = .ok (.goto 8, 3) := by decide +kernel
theorem dX4_check_14 : decode cX4_check 14 = .ok (.aload_n 3, 1) := by decide +kernel
theorem dX4_check_15 : decode cX4_check 15 = .ok (.iload_n 2, 1) := by decide +kernel
theorem dX4_check_16 : decode cX4_check 16 = .ok (.invokevirtual 119, 3) := by decide +kernel
theorem dX4_check_19 : decode cX4_check 19 = .ok (.istore 4, 2) := by decide +kernel
theorem dX4_check_21 : decode cX4_check 21 = .ok (.aload_n 3, 1) := by decide +kernel
theorem dX4_check_22 : decode cX4_check 22 = .ok (.ifnull 9, 3) := by decide +kernel
theorem dX4_check_25 : decode cX4_check 25 = .ok (.iload 4, 2) := by decide +kernel
theorem dX4_check_27 : decode cX4_check 27 = .ok (.iconst (-1), 1) := by decide +kernel
theorem dX4_check_28 : decode cX4_check 28 = .ok (.if_icmp .ne 7, 3) := by decide +kernel
theorem dX4_check_31 : decode cX4_check 31 = .ok (.ldc2_w 124, 3) := by decide +kernel
theorem dX4_check_34 : decode cX4_check 34 = .ok (.lreturn, 1) := by decide +kernel
theorem dX4_check_35 : decode cX4_check 35 = .ok (.aload_n 0, 1) := by decide +kernel
theorem dX4_check_36 : decode cX4_check 36 = .ok (.aload_n 3, 1) := by decide +kernel
theorem dX4_check_37 : decode cX4_check 37 = .ok (.invokevirtual 99, 3) := by decide +kernel
theorem dX4_check_40 : decode cX4_check 40 = .ok (.aload_n 0, 1) := by decide +kernel
theorem dX4_check_41 : decode cX4_check 41 = .ok (.getfield 26, 3) := by decide +kernel
theorem dX4_check_44 : decode cX4_check 44 = .ok (.aload_n 3, 1) := by decide +kernel
theorem dX4_check_45 : decode cX4_check 45 = .ok (.iload 4, 2) := by decide +kernel
theorem dX4_check_47 : decode cX4_check 47 = .ok (.invokevirtual 126, 3) := by decide +kernel
theorem dX4_check_50 : decode cX4_check 50 = .ok (.lstore 5, 2) := by decide +kernel
theorem dX4_check_52 : decode cX4_check 52 = .ok (.aload_n 3, 1) := by decide +kernel
theorem dX4_check_53 : decode cX4_check 53 = .ok (.iload 4, 2) := by decide +kernel
theorem dX4_check_55 : decode cX4_check 55 = .ok (.invokevirtual 129, 3) := by decide +kernel
theorem dX4_check_58 : decode cX4_check 58 = .ok (.i2l, 1) := by decide +kernel
theorem dX4_check_59 : decode cX4_check 59 = .ok (.lload 5, 2) := by decide +kernel
theorem dX4_check_61 : decode cX4_check 61 = .ok (.aload_n 3, 1) := by decide +kernel
theorem dX4_check_62 : decode cX4_check 62 = .ok (.invokevirtual 132, 3) := by decide +kernel
theorem dX4_check_65 : decode cX4_check 65 = .ok (.i2l, 1) := by decide +kernel
theorem dX4_check_66 : decode cX4_check 66 = .ok (.lmul, 1) := by decide +kernel
theorem dX4_check_67 : decode cX4_check 67 = .ok (.ldc2_w 114, 3) := by decide +kernel
theorem dX4_check_70 : decode cX4_check 70 = .ok (.ldiv, 1) := by decide +kernel
theorem dX4_check_71 : decode cX4_check 71 = .ok (.lsub, 1) := by decide +kernel
theorem dX4_check_72 : decode cX4_check 72 = .ok (.lreturn, 1) := by decide +kernel
theorem dX4_isWithin_0 : decode cX4_isWithin 0 = .ok (.iload_n 0, 1) := by decide +kernel
theorem dX4_isWithin_1 : decode cX4_isWithin 1 = .ok (.iload_n 1, 1) := by decide +kernel
theorem dX4_isWithin_2 : decode cX4_isWithin 2 = .ok (.if_icmp .lt 12, 3) := by decide +kernel
theorem dX4_isWithin_5 : decode cX4_isWithin 5 = .ok (.iload_n 0, 1) := by decide +kernel
theorem dX4_isWithin_6 : decode cX4_isWithin 6 = .ok (.iload_n 2, 1) := by decide +kernel
theorem dX4_isWithin_7 : decode cX4_isWithin 7 = .ok (.if_icmp .gt 7, 3) := by decide +kernel
theorem dX4_isWithin_10 : decode cX4_isWithin 10 = .ok (.iconst 1, 1) := by decide +kernel
theorem dX4_isWithin_11 : decode cX4_isWithin 11 = .ok (.goto 4, 3) := by decide +kernel
theorem dX4_isWithin_14 : decode cX4_isWithin 14 = .ok (.iconst 0, 1) := by decide +kernel
theorem dX4_isWithin_15 : decode cX4_isWithin 15 = .ok (.ireturn, 1) := by decide +kernel
theorem dX4_isHour_0 : decode cX4_isHour 0 = .ok (.iload_n 0, 1) := by decide +kernel
theorem dX4_isHour_1 : decode cX4_isHour 1 = .ok (.iconst 0, 1) := by decide +kernel
theorem dX4_isHour_2 : decode cX4_isHour 2 = .ok (.sipush 9999, 3) := by decide +kernel
theorem dX4_isHour_5 : decode cX4_isHour 5 = .ok (.invokestatic 49, 3) := by decide +kernel
theorem dX4_isHour_8 : decode cX4_isHour 8 = .ok (.ireturn, 1) := by decide +kernel
theorem dX4_isDay_0 : decode cX4_isDay 0 = .ok (.iload_n 0, 1) := by decide +kernel
theorem dX4_isDay_1 : decode cX4_isDay 1 = .ok (.iconst 0, 1) := by decide +kernel
theorem dX4_isDay_2 : decode cX4_isDay 2 = .ok (.sipush 416, 3) := by decide +kernel
theorem dX4_isDay_5 : decode cX4_isDay 5 = .ok (.invokestatic 49, 3) := by decide +kernel
theorem dX4_isDay_8 : decode cX4_isDay 8 = .ok (.ireturn, 1) := by decide +kernel
theorem dX4_binOf_0 : decode cX4_binOf 0 = .ok (.iload_n 1, 1) := by decide +kernel
theorem dX4_binOf_1 : decode cX4_binOf 1 = .ok (.iconst 0, 1) := by decide +kernel
theorem dX4_binOf_2 : decode cX4_binOf 2 = .ok (.aload_n 0, 1) := by decide +kernel
theorem dX4_binOf_3 : decode cX4_binOf 3 = .ok (.getfield 36, 3) := by decide +kernel
theorem dX4_binOf_6 : decode cX4_binOf 6 = .ok (.iconst 1, 1) := by decide +kernel
theorem dX4_binOf_7 : decode cX4_binOf 7 = .ok (.isub, 1) := by decide +kernel
theorem dX4_binOf_8 : decode cX4_binOf 8 = .ok (.invokestatic 49, 3) := by decide +kernel
theorem dX4_binOf_11 : decode cX4_binOf 11 = .ok (.ifCond .eq 12, 3) := by decide +kernel
theorem dX4_binOf_14 : decode cX4_binOf 14 = .ok (.aload_n 0, 1) := by decide +kernel
theorem dX4_binOf_15 : decode cX4_binOf 15 = .ok (.getfield 32, 3) := by decide +kernel
theorem dX4_binOf_18 : decode cX4_binOf 18 = .ok (.iload_n 1, 1) := by decide +kernel
theorem dX4_binOf_19 : decode cX4_binOf 19 = .ok (.aaload, 1) := by decide +kernel
theorem dX4_binOf_20 : decode cX4_binOf 20 = .ok (.goto 4, 3) := by decide +kernel
theorem dX4_binOf_23 : decode cX4_binOf 23 = .ok (.aconst_null, 1) := by decide +kernel
theorem dX4_binOf_24 : decode cX4_binOf 24 = .ok (.areturn, 1) := by decide +kernel
theorem dX4_rateOn_0 : decode cX4_rateOn 0 = .ok (.aload_n 1, 1) := by decide +kernel
theorem dX4_rateOn_1 : decode cX4_rateOn 1 = .ok (.iload_n 2, 1) := by decide +kernel
theorem dX4_rateOn_2 : decode cX4_rateOn 2 = .ok (.aload_n 0, 1) := by decide +kernel
theorem dX4_rateOn_3 : decode cX4_rateOn 3 = .ok (.getfield 10, 3) := by decide +kernel
theorem dX4_rateOn_6 : decode cX4_rateOn 6 = .ok (.aload_n 0, 1) := by decide +kernel
theorem dX4_rateOn_7 : decode cX4_rateOn 7 = .ok (.getfield 19, 3) := by decide +kernel
theorem dX4_rateOn_10 : decode cX4_rateOn 10 = .ok (.invokevirtual 82, 3) := by decide +kernel
theorem dX4_rateOn_13 : decode cX4_rateOn 13 = .ok (.istore_n 3, 1) := by decide +kernel
theorem dX4_rateOn_14 : decode cX4_rateOn 14 = .ok (.iload_n 3, 1) := by decide +kernel
theorem dX4_rateOn_15 : decode cX4_rateOn 15 = .ok (.iconst (-1), 1) := by decide +kernel
theorem dX4_rateOn_16 : decode cX4_rateOn 16 = .ok (.if_icmp .eq 7, 3) := by decide +kernel
theorem dX4_rateOn_19 : decode cX4_rateOn 19 = .ok (.iload_n 3, 1) := by decide +kernel
theorem dX4_rateOn_20 : decode cX4_rateOn 20 = .ok (.goto 12, 3) := by decide +kernel
theorem dX4_rateOn_23 : decode cX4_rateOn 23 = .ok (.aload_n 0, 1) := by decide +kernel
theorem dX4_rateOn_24 : decode cX4_rateOn 24 = .ok (.aload_n 1, 1) := by decide +kernel
theorem dX4_rateOn_25 : decode cX4_rateOn 25 = .ok (.invokevirtual 136, 3) := by decide +kernel
theorem dX4_rateOn_28 : decode cX4_rateOn 28 = .ok (.iload_n 2, 1) := by decide +kernel
theorem dX4_rateOn_29 : decode cX4_rateOn 29 = .ok (.invokevirtual 139, 3) := by decide +kernel
theorem dX4_rateOn_32 : decode cX4_rateOn 32 = .ok (.ireturn, 1) := by decide +kernel
theorem dX4_streetRateOn_0 : decode cX4_streetRateOn 0 = .ok (.lconst 0, 1) := by decide +kernel
theorem dX4_streetRateOn_1 : decode cX4_streetRateOn 1 = .ok (.lstore_n 3, 1) := by decide +kernel
theorem dX4_streetRateOn_2 : decode cX4_streetRateOn 2 = .ok (.iconst 0, 1) := by decide +kernel
theorem dX4_streetRateOn_3 : decode cX4_streetRateOn 3 = .ok (.istore 5, 2) := by decide +kernel
theorem dX4_streetRateOn_5 : decode cX4_streetRateOn 5 = .ok (.iconst 0, 1) := by decide +kernel
theorem dX4_streetRateOn_6 : decode cX4_streetRateOn 6 = .ok (.istore 6, 2) := by decide +kernel
theorem dX4_streetRateOn_8 : decode cX4_streetRateOn 8 = .ok (.iload 6, 2) := by decide +kernel
theorem dX4_streetRateOn_10 : decode cX4_streetRateOn 10 = .ok (.aload_n 0, 1) := by decide +kernel
theorem dX4_streetRateOn_11 : decode cX4_streetRateOn 11 = .ok (.getfield 36, 3) := by decide +kernel
theorem dX4_streetRateOn_14 : decode cX4_streetRateOn 14 = .ok (.if_icmp .ge 63, 3) := by decide +kernel
theorem dX4_streetRateOn_17 : decode cX4_streetRateOn 17 = .ok (.aload_n 0, 1) := by decide +kernel
theorem dX4_streetRateOn_18 : decode cX4_streetRateOn 18 = .ok (.getfield 32, 3) := by decide +kernel
theorem dX4_streetRateOn_21 : decode cX4_streetRateOn 21 = .ok (.iload 6, 2) := by decide +kernel
theorem dX4_streetRateOn_23 : decode cX4_streetRateOn 23 = .ok (.aaload, 1) := by decide +kernel
theorem dX4_streetRateOn_24 : decode cX4_streetRateOn 24 = .ok (.invokevirtual 136, 3) := by decide +kernel
theorem dX4_streetRateOn_27 : decode cX4_streetRateOn 27 = .ok (.iload_n 1, 1) := by decide +kernel
theorem dX4_streetRateOn_28 : decode cX4_streetRateOn 28 = .ok (.if_icmp .ne 25, 3) := by decide +kernel
theorem dX4_streetRateOn_31 : decode cX4_streetRateOn 31 = .ok (.aload_n 0, 1) := by decide +kernel
theorem dX4_streetRateOn_32 : decode cX4_streetRateOn 32 = .ok (.getfield 32, 3) := by decide +kernel
theorem dX4_streetRateOn_35 : decode cX4_streetRateOn 35 = .ok (.iload 6, 2) := by decide +kernel
theorem dX4_streetRateOn_37 : decode cX4_streetRateOn 37 = .ok (.aaload, 1) := by decide +kernel
theorem dX4_streetRateOn_38 : decode cX4_streetRateOn 38 = .ok (.iload_n 2, 1) := by decide +kernel
theorem dX4_streetRateOn_39 : decode cX4_streetRateOn 39 = .ok (.aload_n 0, 1) := by decide +kernel
theorem dX4_streetRateOn_40 : decode cX4_streetRateOn 40 = .ok (.getfield 10, 3) := by decide +kernel
theorem dX4_streetRateOn_43 : decode cX4_streetRateOn 43 = .ok (.aload_n 0, 1) := by decide +kernel
theorem dX4_streetRateOn_44 : decode cX4_streetRateOn 44 = .ok (.getfield 19, 3) := by decide +kernel
theorem dX4_streetRateOn_47 : decode cX4_streetRateOn 47 = .ok (.invokevirtual 82, 3) := by decide +kernel
theorem dX4_streetRateOn_50 : decode cX4_streetRateOn 50 = .ok (.goto 4, 3) := by decide +kernel
theorem dX4_streetRateOn_53 : decode cX4_streetRateOn 53 = .ok (.iconst (-1), 1) := by decide +kernel
theorem dX4_streetRateOn_54 : decode cX4_streetRateOn 54 = .ok (.istore 7, 2) := by decide +kernel
theorem dX4_streetRateOn_56 : decode cX4_streetRateOn 56 = .ok (.iload 7, 2) := by decide +kernel
theorem dX4_streetRateOn_58 : decode cX4_streetRateOn 58 = .ok (.iconst (-1), 1) := by decide +kernel
theorem dX4_streetRateOn_59 : decode cX4_streetRateOn 59 = .ok (.if_icmp .eq 12, 3) := by decide +kernel
theorem dX4_streetRateOn_62 : decode cX4_streetRateOn 62 = .ok (.lload_n 3, 1) := by decide +kernel
theorem dX4_streetRateOn_63 : decode cX4_streetRateOn 63 = .ok (.iload 7, 2) := by decide +kernel
theorem dX4_streetRateOn_65 : decode cX4_streetRateOn 65 = .ok (.i2l, 1) := by decide +kernel
theorem dX4_streetRateOn_66 : decode cX4_streetRateOn 66 = .ok (.ladd, 1) := by decide +kernel
theorem dX4_streetRateOn_67 : decode cX4_streetRateOn 67 = .ok (.lstore_n 3, 1) := by decide +kernel
theorem dX4_streetRateOn_68 : decode cX4_streetRateOn 68 = .ok (.iinc 5 1, 3) := by decide +kernel
theorem dX4_streetRateOn_71 : decode cX4_streetRateOn 71 = .ok (.iinc 6 1, 3) := by decide +kernel
theorem dX4_streetRateOn_74 : decode cX4_streetRateOn 74 = .ok (.goto (-66), 3) := by decide +kernel
theorem dX4_streetRateOn_77 : decode cX4_streetRateOn 77 = .ok (.iload 5, 2) := by decide +kernel
theorem dX4_streetRateOn_79 : decode cX4_streetRateOn 79 = .ok (.ifCond .le 12, 3) := by decide +kernel
theorem dX4_streetRateOn_82 : decode cX4_streetRateOn 82 = .ok (.lload_n 3, 1) := by decide +kernel
theorem dX4_streetRateOn_83 : decode cX4_streetRateOn 83 = .ok (.iload 5, 2) := by decide +kernel
theorem dX4_streetRateOn_85 : decode cX4_streetRateOn 85 = .ok (.i2l, 1) := by decide +kernel
theorem dX4_streetRateOn_86 : decode cX4_streetRateOn 86 = .ok (.ldiv, 1) := by decide +kernel
theorem dX4_streetRateOn_87 : decode cX4_streetRateOn 87 = .ok (.l2i, 1) := by decide +kernel
theorem dX4_streetRateOn_88 : decode cX4_streetRateOn 88 = .ok (.goto 5, 3) := by decide +kernel
theorem dX4_streetRateOn_91 : decode cX4_streetRateOn 91 = .ok (.bipush 100, 2) := by decide +kernel
theorem dX4_streetRateOn_93 : decode cX4_streetRateOn 93 = .ok (.ireturn, 1) := by decide +kernel
theorem dX4_lookAhead_0 : decode cX4_lookAhead 0 = .ok (.iconst 0, 1) := by decide +kernel
theorem dX4_lookAhead_1 : decode cX4_lookAhead 1 = .ok (.istore_n 2, 1) := by decide +kernel
theorem dX4_lookAhead_2 : decode cX4_lookAhead 2 = .ok (.iload_n 2, 1) := by decide +kernel
theorem dX4_lookAhead_3 : decode cX4_lookAhead 3 = .ok (.bipush 7, 2) := by decide +kernel
theorem dX4_lookAhead_5 : decode cX4_lookAhead 5 = .ok (.if_icmp .ge 23, 3) := by decide +kernel
theorem dX4_lookAhead_8 : decode cX4_lookAhead 8 = .ok (.aload_n 0, 1) := by decide +kernel
theorem dX4_lookAhead_9 : decode cX4_lookAhead 9 = .ok (.getfield 26, 3) := by decide +kernel
theorem dX4_lookAhead_12 : decode cX4_lookAhead 12 = .ok (.iload_n 2, 1) := by decide +kernel
theorem dX4_lookAhead_13 : decode cX4_lookAhead 13 = .ok (.aload_n 0, 1) := by decide +kernel
theorem dX4_lookAhead_14 : decode cX4_lookAhead 14 = .ok (.aload_n 1, 1) := by decide +kernel
theorem dX4_lookAhead_15 : decode cX4_lookAhead 15 = .ok (.iload_n 2, 1) := by decide +kernel
theorem dX4_lookAhead_16 : decode cX4_lookAhead 16 = .ok (.invokevirtual 90, 3) := by decide +kernel
theorem dX4_lookAhead_19 : decode cX4_lookAhead 19 = .ok (.invokevirtual 142, 3) := by decide +kernel
theorem dX4_lookAhead_22 : decode cX4_lookAhead 22 = .ok (.iinc 2 1, 3) := by decide +kernel
theorem dX4_lookAhead_25 : decode cX4_lookAhead 25 = .ok (.goto (-23), 3) := by decide +kernel
theorem dX4_lookAhead_28 : decode cX4_lookAhead 28 = .ok (.aload_n 0, 1) := by decide +kernel
theorem dX4_lookAhead_29 : decode cX4_lookAhead 29 = .ok (.getfield 26, 3) := by decide +kernel
theorem dX4_lookAhead_32 : decode cX4_lookAhead 32 = .ok (.aload_n 0, 1) := by decide +kernel
theorem dX4_lookAhead_33 : decode cX4_lookAhead 33 = .ok (.getfield 10, 3) := by decide +kernel
theorem dX4_lookAhead_36 : decode cX4_lookAhead 36 = .ok (.invokevirtual 145, 3) := by decide +kernel
theorem dX4_lookAhead_39 : decode cX4_lookAhead 39 = .ok (.return_, 1) := by decide +kernel
theorem dX4_centsOn_0 : decode cX4_centsOn 0 = .ok (.aload_n 0, 1) := by decide +kernel
theorem dX4_centsOn_1 : decode cX4_centsOn 1 = .ok (.getfield 26, 3) := by decide +kernel
theorem dX4_centsOn_4 : decode cX4_centsOn 4 = .ok (.aload_n 1, 1) := by decide +kernel
theorem dX4_centsOn_5 : decode cX4_centsOn 5 = .ok (.iload_n 2, 1) := by decide +kernel
theorem dX4_centsOn_6 : decode cX4_centsOn 6 = .ok (.bipush 24, 2) := by decide +kernel
theorem dX4_centsOn_8 : decode cX4_centsOn 8 = .ok (.imul, 1) := by decide +kernel
theorem dX4_centsOn_9 : decode cX4_centsOn 9 = .ok (.invokevirtual 103, 3) := by decide +kernel
theorem dX4_centsOn_12 : decode cX4_centsOn 12 = .ok (.lstore_n 3, 1) := by decide +kernel
theorem dX4_centsOn_13 : decode cX4_centsOn 13 = .ok (.lload_n 3, 1) := by decide +kernel
theorem dX4_centsOn_14 : decode cX4_centsOn 14 = .ok (.ldc2_w 114, 3) := by decide +kernel
theorem dX4_centsOn_17 : decode cX4_centsOn 17 = .ok (.lcmp, 1) := by decide +kernel
theorem dX4_centsOn_18 : decode cX4_centsOn 18 = .ok (.ifCond .ge 17, 3) := by decide +kernel
theorem dX4_centsOn_21 : decode cX4_centsOn 21 = .ok (.ldc2_w 114, 3) := by decide +kernel
theorem dX4_centsOn_24 : decode cX4_centsOn 24 = .ok (.lload_n 3, 1) := by decide +kernel
theorem dX4_centsOn_25 : decode cX4_centsOn 25 = .ok (.lsub, 1) := by decide +kernel
theorem dX4_centsOn_26 : decode cX4_centsOn 26 = .ok (.aload_n 0, 1) := by decide +kernel
theorem dX4_centsOn_27 : decode cX4_centsOn 27 = .ok (.getfield 43, 3) := by decide +kernel
theorem dX4_centsOn_30 : decode cX4_centsOn 30 = .ok (.i2l, 1) := by decide +kernel
theorem dX4_centsOn_31 : decode cX4_centsOn 31 = .ok (.lmul, 1) := by decide +kernel
theorem dX4_centsOn_32 : decode cX4_centsOn 32 = .ok (.goto 14, 3) := by decide +kernel
theorem dX4_centsOn_35 : decode cX4_centsOn 35 = .ok (.lload_n 3, 1) := by decide +kernel
theorem dX4_centsOn_36 : decode cX4_centsOn 36 = .ok (.ldc2_w 114, 3) := by decide +kernel
theorem dX4_centsOn_39 : decode cX4_centsOn 39 = .ok (.lsub, 1) := by decide +kernel
theorem dX4_centsOn_40 : decode cX4_centsOn 40 = .ok (.aload_n 0, 1) := by decide +kernel
theorem dX4_centsOn_41 : decode cX4_centsOn 41 = .ok (.getfield 46, 3) := by decide +kernel
theorem dX4_centsOn_44 : decode cX4_centsOn 44 = .ok (.i2l, 1) := by decide +kernel
theorem dX4_centsOn_45 : decode cX4_centsOn 45 = .ok (.lmul, 1) := by decide +kernel
theorem dX4_centsOn_46 : decode cX4_centsOn 46 = .ok (.lreturn, 1) := by decide +kernel
