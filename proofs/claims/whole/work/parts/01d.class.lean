theorem dX0_init_0 : decode cX0_init 0 = .ok (.aload_n 0, 1) := by decide +kernel
theorem dX0_init_1 : decode cX0_init 1 = .ok (.invokespecial 5, 3) := by decide +kernel
theorem dX0_init_4 : decode cX0_init 4 = .ok (.aload_n 0, 1) := by decide +kernel
theorem dX0_init_5 : decode cX0_init 5 = .ok (.iload_n 1, 1) := by decide +kernel
theorem dX0_init_6 : decode cX0_init 6 = .ok (.putfield 11, 3) := by decide +kernel
theorem dX0_init_9 : decode cX0_init 9 = .ok (.aload_n 0, 1) := by decide +kernel
theorem dX0_init_10 : decode cX0_init 10 = .ok (.iload_n 2, 1) := by decide +kernel
theorem dX0_init_11 : decode cX0_init 11 = .ok (.putfield 15, 3) := by decide +kernel
theorem dX0_init_14 : decode cX0_init 14 = .ok (.aload_n 0, 1) := by decide +kernel
theorem dX0_init_15 : decode cX0_init 15 = .ok (.bipush 32, 2) := by decide +kernel
theorem dX0_init_17 : decode cX0_init 17 = .ok (.newarray .int, 2) := by decide +kernel
theorem dX0_init_19 : decode cX0_init 19 = .ok (.putfield 18, 3) := by decide +kernel
theorem dX0_init_22 : decode cX0_init 22 = .ok (.aload_n 0, 1) := by decide +kernel
theorem dX0_init_23 : decode cX0_init 23 = .ok (.bipush 32, 2) := by decide +kernel
theorem dX0_init_25 : decode cX0_init 25 = .ok (.newarray .int, 2) := by decide +kernel
theorem dX0_init_27 : decode cX0_init 27 = .ok (.putfield 22, 3) := by decide +kernel
theorem dX0_init_30 : decode cX0_init 30 = .ok (.aload_n 0, 1) := by decide +kernel
theorem dX0_init_31 : decode cX0_init 31 = .ok (.bipush 32, 2) := by decide +kernel
theorem dX0_init_33 : decode cX0_init 33 = .ok (.newarray .boolean, 2) := by decide +kernel
theorem dX0_init_35 : decode cX0_init 35 = .ok (.putfield 25, 3) := by decide +kernel
theorem dX0_init_38 : decode cX0_init 38 = .ok (.aload_n 0, 1) := by decide +kernel
theorem dX0_init_39 : decode cX0_init 39 = .ok (.bipush 32, 2) := by decide +kernel
theorem dX0_init_41 : decode cX0_init 41 = .ok (.newarray .int, 2) := by decide +kernel
theorem dX0_init_43 : decode cX0_init 43 = .ok (.putfield 29, 3) := by decide +kernel
theorem dX0_init_46 : decode cX0_init 46 = .ok (.aload_n 0, 1) := by decide +kernel
theorem dX0_init_47 : decode cX0_init 47 = .ok (.iconst 0, 1) := by decide +kernel
theorem dX0_init_48 : decode cX0_init 48 = .ok (.putfield 32, 3) := by decide +kernel
theorem dX0_init_51 : decode cX0_init 51 = .ok (.aload_n 0, 1) := by decide +kernel
theorem dX0_init_52 : decode cX0_init 52 = .ok (.iconst 0, 1) := by decide +kernel
theorem dX0_init_53 : decode cX0_init 53 = .ok (.putfield 35, 3) := by decide +kernel
theorem dX0_init_56 : decode cX0_init 56 = .ok (.return_, 1) := by decide +kernel
theorem dX0_placeOfRow_0 : decode cX0_placeOfRow 0 = .ok (.iconst 2, 1) := by decide +kernel
theorem dX0_placeOfRow_1 : decode cX0_placeOfRow 1 = .ok (.iload_n 0, 1) := by decide +kernel
theorem dX0_placeOfRow_2 : decode cX0_placeOfRow 2 = .ok (.imul, 1) := by decide +kernel
theorem dX0_placeOfRow_3 : decode cX0_placeOfRow 3 = .ok (.ireturn, 1) := by decide +kernel
theorem dX0_placeOfEmptying_0 : decode cX0_placeOfEmptying 0 = .ok (.iconst 2, 1) := by decide +kernel
theorem dX0_placeOfEmptying_1 : decode cX0_placeOfEmptying 1 = .ok (.iload_n 0, 1) := by decide +kernel
theorem dX0_placeOfEmptying_2 : decode cX0_placeOfEmptying 2 = .ok (.imul, 1) := by decide +kernel
theorem dX0_placeOfEmptying_3 : decode cX0_placeOfEmptying 3 = .ok (.iconst 1, 1) := by decide +kernel
theorem dX0_placeOfEmptying_4 : decode cX0_placeOfEmptying 4 = .ok (.iadd, 1) := by decide +kernel
theorem dX0_placeOfEmptying_5 : decode cX0_placeOfEmptying 5 = .ok (.ireturn, 1) := by decide +kernel
theorem dX0_streetNumber_0 : decode cX0_streetNumber 0 = .ok (.aload_n 0, 1) := by decide +kernel
theorem dX0_streetNumber_1 : decode cX0_streetNumber 1 = .ok (.getfield 11, 3) := by decide +kernel
theorem dX0_streetNumber_4 : decode cX0_streetNumber 4 = .ok (.ireturn, 1) := by decide +kernel
theorem dX0_roomInKilograms_0 : decode cX0_roomInKilograms 0 = .ok (.aload_n 0, 1) := by decide +kernel
theorem dX0_roomInKilograms_1 : decode cX0_roomInKilograms 1 = .ok (.getfield 15, 3) := by decide +kernel
theorem dX0_roomInKilograms_4 : decode cX0_roomInKilograms 4 = .ok (.ireturn, 1) := by decide +kernel
theorem dX0_placeAt_0 : decode cX0_placeAt 0 = .ok (.aload_n 0, 1) := by decide +kernel
theorem dX0_placeAt_1 : decode cX0_placeAt 1 = .ok (.getfield 18, 3) := by decide +kernel
theorem dX0_placeAt_4 : decode cX0_placeAt 4 = .ok (.iload_n 1, 1) := by decide +kernel
theorem dX0_placeAt_5 : decode cX0_placeAt 5 = .ok (.iaload, 1) := by decide +kernel
theorem dX0_placeAt_6 : decode cX0_placeAt 6 = .ok (.ireturn, 1) := by decide +kernel
theorem dX0_hourAt_0 : decode cX0_hourAt 0 = .ok (.aload_n 0, 1) := by decide +kernel
theorem dX0_hourAt_1 : decode cX0_hourAt 1 = .ok (.getfield 18, 3) := by decide +kernel
theorem dX0_hourAt_4 : decode cX0_hourAt 4 = .ok (.iload_n 1, 1) := by decide +kernel
theorem dX0_hourAt_5 : decode cX0_hourAt 5 = .ok (.iaload, 1) := by decide +kernel
theorem dX0_hourAt_6 : decode cX0_hourAt 6 = .ok (.iconst 2, 1) := by decide +kernel
theorem dX0_hourAt_7 : decode cX0_hourAt 7 = .ok (.idiv, 1) := by decide +kernel
theorem dX0_hourAt_8 : decode cX0_hourAt 8 = .ok (.ireturn, 1) := by decide +kernel
theorem dX0_amountAt_0 : decode cX0_amountAt 0 = .ok (.aload_n 0, 1) := by decide +kernel
theorem dX0_amountAt_1 : decode cX0_amountAt 1 = .ok (.getfield 22, 3) := by decide +kernel
theorem dX0_amountAt_4 : decode cX0_amountAt 4 = .ok (.iload_n 1, 1) := by decide +kernel
theorem dX0_amountAt_5 : decode cX0_amountAt 5 = .ok (.iaload, 1) := by decide +kernel
theorem dX0_amountAt_6 : decode cX0_amountAt 6 = .ok (.ireturn, 1) := by decide +kernel
theorem dX0_shareAt_0 : decode cX0_shareAt 0 = .ok (.aload_n 0, 1) := by decide +kernel
theorem dX0_shareAt_1 : decode cX0_shareAt 1 = .ok (.iload_n 1, 1) := by decide +kernel
theorem dX0_shareAt_2 : decode cX0_shareAt 2 = .ok (.invokevirtual 38, 3) := by decide +kernel
theorem dX0_shareAt_5 : decode cX0_shareAt 5 = .ok (.ifCond .eq 12, 3) := by decide +kernel
theorem dX0_shareAt_8 : decode cX0_shareAt 8 = .ok (.aload_n 0, 1) := by decide +kernel
theorem dX0_shareAt_9 : decode cX0_shareAt 9 = .ok (.getfield 22, 3) := by decide +kernel
theorem dX0_shareAt_12 : decode cX0_shareAt 12 = .ok (.iload_n 1, 1) := by decide +kernel
theorem dX0_shareAt_13 : decode cX0_shareAt 13 = .ok (.iaload, 1) := by decide +kernel
theorem dX0_shareAt_14 : decode cX0_shareAt 14 = .ok (.goto 4, 3) := by decide +kernel
theorem dX0_shareAt_17 : decode cX0_shareAt 17 = .ok (.iconst 0, 1) := by decide +kernel
theorem dX0_shareAt_18 : decode cX0_shareAt 18 = .ok (.ireturn, 1) := by decide +kernel
theorem dX0_putRow_0 : decode cX0_putRow 0 = .ok (.iload_n 1, 1) := by decide +kernel
theorem dX0_putRow_1 : decode cX0_putRow 1 = .ok (.invokestatic 42, 3) := by decide +kernel
theorem dX0_putRow_4 : decode cX0_putRow 4 = .ok (.istore_n 3, 1) := by decide +kernel
theorem dX0_putRow_5 : decode cX0_putRow 5 = .ok (.aload_n 0, 1) := by decide +kernel
theorem dX0_putRow_6 : decode cX0_putRow 6 = .ok (.iload_n 3, 1) := by decide +kernel
theorem dX0_putRow_7 : decode cX0_putRow 7 = .ok (.invokevirtual 46, 3) := by decide +kernel
theorem dX0_putRow_10 : decode cX0_putRow 10 = .ok (.istore 4, 2) := by decide +kernel
theorem dX0_putRow_12 : decode cX0_putRow 12 = .ok (.aload_n 0, 1) := by decide +kernel
theorem dX0_putRow_13 : decode cX0_putRow 13 = .ok (.iload 4, 2) := by decide +kernel
theorem dX0_putRow_15 : decode cX0_putRow 15 = .ok (.iload_n 3, 1) := by decide +kernel
theorem dX0_putRow_16 : decode cX0_putRow 16 = .ok (.invokevirtual 49, 3) := by decide +kernel
theorem dX0_putRow_19 : decode cX0_putRow 19 = .ok (.ifCond .ne 31, 3) := by decide +kernel
theorem dX0_putRow_22 : decode cX0_putRow 22 = .ok (.aload_n 0, 1) := by decide +kernel
theorem dX0_putRow_23 : decode cX0_putRow 23 = .ok (.getfield 35, 3) := by decide +kernel
theorem dX0_putRow_26 : decode cX0_putRow 26 = .ok (.bipush 24, 2) := by decide +kernel
theorem dX0_putRow_28 : decode cX0_putRow 28 = .ok (.if_icmp .lt 5, 3) := by decide +kernel
theorem dX0_putRow_31 : decode cX0_putRow 31 = .ok (.iconst (-1), 1) := by decide +kernel
theorem dX0_putRow_32 : decode cX0_putRow 32 = .ok (.ireturn, 1) := by decide +kernel
theorem dX0_putRow_33 : decode cX0_putRow 33 = .ok (.aload_n 0, 1) := by decide +kernel
theorem dX0_putRow_34 : decode cX0_putRow 34 = .ok (.iload 4, 2) := by decide +kernel
theorem dX0_putRow_36 : decode cX0_putRow 36 = .ok (.iload_n 3, 1) := by decide +kernel
theorem dX0_putRow_37 : decode cX0_putRow 37 = .ok (.invokevirtual 53, 3) := by decide +kernel
theorem dX0_putRow_40 : decode cX0_putRow 40 = .ok (.aload_n 0, 1) := by decide +kernel
theorem dX0_putRow_41 : decode cX0_putRow 41 = .ok (.dup, 1) := by decide +kernel
theorem dX0_putRow_42 : decode cX0_putRow 42 = .ok (.getfield 35, 3) := by decide +kernel
theorem dX0_putRow_45 : decode cX0_putRow 45 = .ok (.iconst 1, 1) := by decide +kernel
theorem dX0_putRow_46 : decode cX0_putRow 46 = .ok (.iadd, 1) := by decide +kernel
theorem dX0_putRow_47 : decode cX0_putRow 47 = .ok (.putfield 35, 3) := by decide +kernel
theorem dX0_putRow_50 : decode cX0_putRow 50 = .ok (.aload_n 0, 1) := by decide +kernel
theorem dX0_putRow_51 : decode cX0_putRow 51 = .ok (.getfield 22, 3) := by decide +kernel
theorem dX0_putRow_54 : decode cX0_putRow 54 = .ok (.iload 4, 2) := by decide +kernel
theorem dX0_putRow_56 : decode cX0_putRow 56 = .ok (.iload_n 2, 1) := by decide +kernel
theorem dX0_putRow_57 : decode cX0_putRow 57 = .ok (.iastore, 1) := by decide +kernel
theorem dX0_putRow_58 : decode cX0_putRow 58 = .ok (.aload_n 0, 1) := by decide +kernel
theorem dX0_putRow_59 : decode cX0_putRow 59 = .ok (.invokevirtual 57, 3) := by decide +kernel
theorem dX0_putRow_62 : decode cX0_putRow 62 = .ok (.aload_n 0, 1) := by decide +kernel
theorem dX0_putRow_63 : decode cX0_putRow 63 = .ok (.getfield 35, 3) := by decide +kernel
theorem dX0_putRow_66 : decode cX0_putRow 66 = .ok (.ireturn, 1) := by decide +kernel
theorem dX0_putEmptying_0 : decode cX0_putEmptying 0 = .ok (.iload_n 1, 1) := by decide +kernel
theorem dX0_putEmptying_1 : decode cX0_putEmptying 1 = .ok (.invokestatic 60, 3) := by decide +kernel
theorem dX0_putEmptying_4 : decode cX0_putEmptying 4 = .ok (.istore_n 3, 1) := by decide +kernel
theorem dX0_putEmptying_5 : decode cX0_putEmptying 5 = .ok (.aload_n 0, 1) := by decide +kernel
theorem dX0_putEmptying_6 : decode cX0_putEmptying 6 = .ok (.iload_n 3, 1) := by decide +kernel
theorem dX0_putEmptying_7 : decode cX0_putEmptying 7 = .ok (.invokevirtual 46, 3) := by decide +kernel
theorem dX0_putEmptying_10 : decode cX0_putEmptying 10 = .ok (.istore 4, 2) := by decide +kernel
theorem dX0_putEmptying_12 : decode cX0_putEmptying 12 = .ok (.aload_n 0, 1) := by decide +kernel
theorem dX0_putEmptying_13 : decode cX0_putEmptying 13 = .ok (.iload 4, 2) := by decide +kernel
theorem dX0_putEmptying_15 : decode cX0_putEmptying 15 = .ok (.iload_n 3, 1) := by decide +kernel
theorem dX0_putEmptying_16 : decode cX0_putEmptying 16 = .ok (.invokevirtual 49, 3) := by decide +kernel
theorem dX0_putEmptying_19 : decode cX0_putEmptying 19 = .ok (.ifCond .ne 26, 3) := by decide +kernel
theorem dX0_putEmptying_22 : decode cX0_putEmptying 22 = .ok (.aload_n 0, 1) := by decide +kernel
theorem dX0_putEmptying_23 : decode cX0_putEmptying 23 = .ok (.getfield 32, 3) := by decide +kernel
theorem dX0_putEmptying_26 : decode cX0_putEmptying 26 = .ok (.aload_n 0, 1) := by decide +kernel
theorem dX0_putEmptying_27 : decode cX0_putEmptying 27 = .ok (.getfield 35, 3) := by decide +kernel
theorem dX0_putEmptying_30 : decode cX0_putEmptying 30 = .ok (.isub, 1) := by decide +kernel
theorem dX0_putEmptying_31 : decode cX0_putEmptying 31 = .ok (.bipush 8, 2) := by decide +kernel
theorem dX0_putEmptying_33 : decode cX0_putEmptying 33 = .ok (.if_icmp .lt 5, 3) := by decide +kernel
theorem dX0_putEmptying_36 : decode cX0_putEmptying 36 = .ok (.iconst (-1), 1) := by decide +kernel
theorem dX0_putEmptying_37 : decode cX0_putEmptying 37 = .ok (.ireturn, 1) := by decide +kernel
theorem dX0_putEmptying_38 : decode cX0_putEmptying 38 = .ok (.aload_n 0, 1) := by decide +kernel
theorem dX0_putEmptying_39 : decode cX0_putEmptying 39 = .ok (.iload 4, 2) := by decide +kernel
theorem dX0_putEmptying_41 : decode cX0_putEmptying 41 = .ok (.iload_n 3, 1) := by decide +kernel
theorem dX0_putEmptying_42 : decode cX0_putEmptying 42 = .ok (.invokevirtual 53, 3) := by decide +kernel
theorem dX0_putEmptying_45 : decode cX0_putEmptying 45 = .ok (.aload_n 0, 1) := by decide +kernel
theorem dX0_putEmptying_46 : decode cX0_putEmptying 46 = .ok (.getfield 22, 3) := by decide +kernel
theorem dX0_putEmptying_49 : decode cX0_putEmptying 49 = .ok (.iload 4, 2) := by decide +kernel
theorem dX0_putEmptying_51 : decode cX0_putEmptying 51 = .ok (.iload_n 2, 1) := by decide +kernel
theorem dX0_putEmptying_52 : decode cX0_putEmptying 52 = .ok (.iastore, 1) := by decide +kernel
theorem dX0_putEmptying_53 : decode cX0_putEmptying 53 = .ok (.aload_n 0, 1) := by decide +kernel
theorem dX0_putEmptying_54 : decode cX0_putEmptying 54 = .ok (.invokevirtual 57, 3) := by decide +kernel
theorem dX0_putEmptying_57 : decode cX0_putEmptying 57 = .ok (.aload_n 0, 1) := by decide +kernel
theorem dX0_putEmptying_58 : decode cX0_putEmptying 58 = .ok (.getfield 32, 3) := by decide +kernel
theorem dX0_putEmptying_61 : decode cX0_putEmptying 61 = .ok (.aload_n 0, 1) := by decide +kernel
theorem dX0_putEmptying_62 : decode cX0_putEmptying 62 = .ok (.getfield 35, 3) := by decide +kernel
theorem dX0_putEmptying_65 : decode cX0_putEmptying 65 = .ok (.isub, 1) := by decide +kernel
theorem dX0_putEmptying_66 : decode cX0_putEmptying 66 = .ok (.ireturn, 1) := by decide +kernel
theorem dX0_hourOfWrong_0 : decode cX0_hourOfWrong 0 = .ok (.iconst 0, 1) := by decide +kernel
theorem dX0_hourOfWrong_1 : decode cX0_hourOfWrong 1 = .ok (.istore_n 2, 1) := by decide +kernel
theorem dX0_hourOfWrong_2 : decode cX0_hourOfWrong 2 = .ok (.iconst 0, 1) := by decide +kernel
theorem dX0_hourOfWrong_3 : decode cX0_hourOfWrong 3 = .ok (.istore_n 3, 1) := by decide +kernel
theorem dX0_hourOfWrong_4 : decode cX0_hourOfWrong 4 = .ok (.iload_n 3, 1) := by decide +kernel
theorem dX0_hourOfWrong_5 : decode cX0_hourOfWrong 5 = .ok (.aload_n 0, 1) := by decide +kernel
theorem dX0_hourOfWrong_6 : decode cX0_hourOfWrong 6 = .ok (.getfield 32, 3) := by decide +kernel
theorem dX0_hourOfWrong_9 : decode cX0_hourOfWrong 9 = .ok (.if_icmp .ge 32, 3) := by decide +kernel
theorem dX0_hourOfWrong_12 : decode cX0_hourOfWrong 12 = .ok (.aload_n 0, 1) := by decide +kernel
theorem dX0_hourOfWrong_13 : decode cX0_hourOfWrong 13 = .ok (.getfield 25, 3) := by decide +kernel
theorem dX0_hourOfWrong_16 : decode cX0_hourOfWrong 16 = .ok (.iload_n 3, 1) := by decide +kernel
theorem dX0_hourOfWrong_17 : decode cX0_hourOfWrong 17 = .ok (.baload, 1) := by decide +kernel
theorem dX0_hourOfWrong_18 : decode cX0_hourOfWrong 18 = .ok (.ifCond .eq 17, 3) := by decide +kernel
theorem dX0_hourOfWrong_21 : decode cX0_hourOfWrong 21 = .ok (.iload_n 2, 1) := by decide +kernel
theorem dX0_hourOfWrong_22 : decode cX0_hourOfWrong 22 = .ok (.iload_n 1, 1) := by decide +kernel
theorem dX0_hourOfWrong_23 : decode cX0_hourOfWrong 23 = .ok (.if_icmp .ne 9, 3) := by decide +kernel
theorem dX0_hourOfWrong_26 : decode cX0_hourOfWrong 26 = .ok (.aload_n 0, 1) := by decide +kernel
theorem dX0_hourOfWrong_27 : decode cX0_hourOfWrong 27 = .ok (.iload_n 3, 1) := by decide +kernel
theorem dX0_hourOfWrong_28 : decode cX0_hourOfWrong 28 = .ok (.invokevirtual 63, 3) := by decide +kernel
theorem dX0_hourOfWrong_31 : decode cX0_hourOfWrong 31 = .ok (.ireturn, 1) := by decide +kernel
theorem dX0_hourOfWrong_32 : decode cX0_hourOfWrong 32 = .ok (.iinc 2 1, 3) := by decide +kernel
theorem dX0_hourOfWrong_35 : decode cX0_hourOfWrong 35 = .ok (.iinc 3 1, 3) := by decide +kernel
theorem dX0_hourOfWrong_38 : decode cX0_hourOfWrong 38 = .ok (.goto (-34), 3) := by decide +kernel
theorem dX0_hourOfWrong_41 : decode cX0_hourOfWrong 41 = .ok (.iconst (-1), 1) := by decide +kernel
theorem dX0_hourOfWrong_42 : decode cX0_hourOfWrong 42 = .ok (.ireturn, 1) := by decide +kernel
theorem dX0_indexOfEmptying_0 : decode cX0_indexOfEmptying 0 = .ok (.iconst 0, 1) := by decide +kernel
theorem dX0_indexOfEmptying_1 : decode cX0_indexOfEmptying 1 = .ok (.istore_n 2, 1) := by decide +kernel
theorem dX0_indexOfEmptying_2 : decode cX0_indexOfEmptying 2 = .ok (.iconst 0, 1) := by decide +kernel
theorem dX0_indexOfEmptying_3 : decode cX0_indexOfEmptying 3 = .ok (.istore_n 3, 1) := by decide +kernel
theorem dX0_indexOfEmptying_4 : decode cX0_indexOfEmptying 4 = .ok (.iload_n 3, 1) := by decide +kernel
theorem dX0_indexOfEmptying_5 : decode cX0_indexOfEmptying 5 = .ok (.aload_n 0, 1) := by decide +kernel
theorem dX0_indexOfEmptying_6 : decode cX0_indexOfEmptying 6 = .ok (.getfield 32, 3) := by decide +kernel
theorem dX0_indexOfEmptying_9 : decode cX0_indexOfEmptying 9 = .ok (.if_icmp .ge 27, 3) := by decide +kernel
theorem dX0_indexOfEmptying_12 : decode cX0_indexOfEmptying 12 = .ok (.aload_n 0, 1) := by decide +kernel
theorem dX0_indexOfEmptying_13 : decode cX0_indexOfEmptying 13 = .ok (.iload_n 3, 1) := by decide +kernel
theorem dX0_indexOfEmptying_14 : decode cX0_indexOfEmptying 14 = .ok (.invokevirtual 38, 3) := by decide +kernel
theorem dX0_indexOfEmptying_17 : decode cX0_indexOfEmptying 17 = .ok (.ifCond .ne 13, 3) := by decide +kernel
theorem dX0_indexOfEmptying_20 : decode cX0_indexOfEmptying 20 = .ok (.iload_n 2, 1) := by decide +kernel
theorem dX0_indexOfEmptying_21 : decode cX0_indexOfEmptying 21 = .ok (.iload_n 1, 1) := by decide +kernel
theorem dX0_indexOfEmptying_22 : decode cX0_indexOfEmptying 22 = .ok (.if_icmp .ne 5, 3) := by decide +kernel
theorem dX0_indexOfEmptying_25 : decode cX0_indexOfEmptying 25 = .ok (.iload_n 3, 1) := by decide +kernel
theorem dX0_indexOfEmptying_26 : decode cX0_indexOfEmptying 26 = .ok (.ireturn, 1) := by decide +kernel
theorem dX0_indexOfEmptying_27 : decode cX0_indexOfEmptying 27 = .ok (.iinc 2 1, 3) := by decide +kernel
theorem dX0_indexOfEmptying_30 : decode cX0_indexOfEmptying 30 = .ok (.iinc 3 1, 3) := by decide +kernel
theorem dX0_indexOfEmptying_33 : decode cX0_indexOfEmptying 33 = .ok (.goto (-29), 3) := by decide +kernel
theorem dX0_indexOfEmptying_36 : decode cX0_indexOfEmptying 36 = .ok (.iconst (-1), 1) := by decide +kernel
theorem dX0_indexOfEmptying_37 : decode cX0_indexOfEmptying 37 = .ok (.ireturn, 1) := by decide +kernel
theorem dX0_hasRowWithin_0 : decode cX0_hasRowWithin 0 = .ok (.iconst 0, 1) := by decide +kernel
theorem dX0_hasRowWithin_1 : decode cX0_hasRowWithin 1 = .ok (.istore_n 3, 1) := by decide +kernel
theorem dX0_hasRowWithin_2 : decode cX0_hasRowWithin 2 = .ok (.iload_n 3, 1) := by decide +kernel
theorem dX0_hasRowWithin_3 : decode cX0_hasRowWithin 3 = .ok (.aload_n 0, 1) := by decide +kernel
theorem dX0_hasRowWithin_4 : decode cX0_hasRowWithin 4 = .ok (.getfield 32, 3) := by decide +kernel
theorem dX0_hasRowWithin_7 : decode cX0_hasRowWithin 7 = .ok (.if_icmp .ge 32, 3) := by decide +kernel
theorem dX0_hasRowWithin_10 : decode cX0_hasRowWithin 10 = .ok (.aload_n 0, 1) := by decide +kernel
theorem dX0_hasRowWithin_11 : decode cX0_hasRowWithin 11 = .ok (.iload_n 3, 1) := by decide +kernel
theorem dX0_hasRowWithin_12 : decode cX0_hasRowWithin 12 = .ok (.invokevirtual 38, 3) := by decide +kernel
theorem dX0_hasRowWithin_15 : decode cX0_hasRowWithin 15 = .ok (.ifCond .eq 18, 3) := by decide +kernel
theorem dX0_hasRowWithin_18 : decode cX0_hasRowWithin 18 = .ok (.aload_n 0, 1) := by decide +kernel
theorem dX0_hasRowWithin_19 : decode cX0_hasRowWithin 19 = .ok (.iload_n 3, 1) := by decide +kernel
theorem dX0_hasRowWithin_20 : decode cX0_hasRowWithin 20 = .ok (.invokevirtual 63, 3) := by decide +kernel
theorem dX0_hasRowWithin_23 : decode cX0_hasRowWithin 23 = .ok (.iload_n 1, 1) := by decide +kernel
theorem dX0_hasRowWithin_24 : decode cX0_hasRowWithin 24 = .ok (.iload_n 2, 1) := by decide +kernel
theorem dX0_hasRowWithin_25 : decode cX0_hasRowWithin 25 = .ok (.invokestatic 66, 3) := by decide +kernel
theorem dX0_hasRowWithin_28 : decode cX0_hasRowWithin 28 = .ok (.ifCond .eq 5, 3) := by decide +kernel
theorem dX0_hasRowWithin_31 : decode cX0_hasRowWithin 31 = .ok (.iconst 1, 1) := by decide +kernel
theorem dX0_hasRowWithin_32 : decode cX0_hasRowWithin 32 = .ok (.ireturn, 1) := by decide +kernel
theorem dX0_hasRowWithin_33 : decode cX0_hasRowWithin 33 = .ok (.iinc 3 1, 3) := by decide +kernel
theorem dX0_hasRowWithin_36 : decode cX0_hasRowWithin 36 = .ok (.goto (-34), 3) := by decide +kernel
theorem dX0_hasRowWithin_39 : decode cX0_hasRowWithin 39 = .ok (.iconst 0, 1) := by decide +kernel
theorem dX0_hasRowWithin_40 : decode cX0_hasRowWithin 40 = .ok (.ireturn, 1) := by decide +kernel
theorem dX0_latestUpTo_0 : decode cX0_latestUpTo 0 = .ok (.aload_n 0, 1) := by decide +kernel
theorem dX0_latestUpTo_1 : decode cX0_latestUpTo 1 = .ok (.getfield 32, 3) := by decide +kernel
theorem dX0_latestUpTo_4 : decode cX0_latestUpTo 4 = .ok (.iconst 1, 1) := by decide +kernel
theorem dX0_latestUpTo_5 : decode cX0_latestUpTo 5 = .ok (.isub, 1) := by decide +kernel
theorem dX0_latestUpTo_6 : decode cX0_latestUpTo 6 = .ok (.istore_n 2, 1) := by decide +kernel
theorem dX0_latestUpTo_7 : decode cX0_latestUpTo 7 = .ok (.iload_n 2, 1) := by decide +kernel
theorem dX0_latestUpTo_8 : decode cX0_latestUpTo 8 = .ok (.ifCond .lt 30, 3) := by decide +kernel
theorem dX0_latestUpTo_11 : decode cX0_latestUpTo 11 = .ok (.aload_n 0, 1) := by decide +kernel
theorem dX0_latestUpTo_12 : decode cX0_latestUpTo 12 = .ok (.getfield 18, 3) := by decide +kernel
theorem dX0_latestUpTo_15 : decode cX0_latestUpTo 15 = .ok (.iload_n 2, 1) := by decide +kernel
theorem dX0_latestUpTo_16 : decode cX0_latestUpTo 16 = .ok (.iaload, 1) := by decide +kernel
theorem dX0_latestUpTo_17 : decode cX0_latestUpTo 17 = .ok (.iload_n 1, 1) := by decide +kernel
theorem dX0_latestUpTo_18 : decode cX0_latestUpTo 18 = .ok (.if_icmp .gt 14, 3) := by decide +kernel
theorem dX0_latestUpTo_21 : decode cX0_latestUpTo 21 = .ok (.aload_n 0, 1) := by decide +kernel
theorem dX0_latestUpTo_22 : decode cX0_latestUpTo 22 = .ok (.getfield 25, 3) := by decide +kernel
theorem dX0_latestUpTo_25 : decode cX0_latestUpTo 25 = .ok (.iload_n 2, 1) := by decide +kernel
theorem dX0_latestUpTo_26 : decode cX0_latestUpTo 26 = .ok (.baload, 1) := by decide +kernel
theorem dX0_latestUpTo_27 : decode cX0_latestUpTo 27 = .ok (.ifCond .ne 5, 3) := by decide +kernel
theorem dX0_latestUpTo_30 : decode cX0_latestUpTo 30 = .ok (.iload_n 2, 1) := by decide +kernel
theorem dX0_latestUpTo_31 : decode cX0_latestUpTo 31 = .ok (.ireturn, 1) := by decide +kernel
theorem dX0_latestUpTo_32 : decode cX0_latestUpTo 32 = .ok (.iinc 2 (-1), 3) := by decide +kernel
theorem dX0_latestUpTo_35 : decode cX0_latestUpTo 35 = .ok (.goto (-28), 3) := by decide +kernel
theorem dX0_latestUpTo_38 : decode cX0_latestUpTo 38 = .ok (.iconst (-1), 1) := by decide +kernel
theorem dX0_latestUpTo_39 : decode cX0_latestUpTo 39 = .ok (.ireturn, 1) := by decide +kernel
theorem dX0_meanOn_0 : decode cX0_meanOn 0 = .ok (.lconst 0, 1) := by decide +kernel
theorem dX0_meanOn_1 : decode cX0_meanOn 1 = .ok (.lstore 4, 2) := by decide +kernel
theorem dX0_meanOn_3 : decode cX0_meanOn 3 = .ok (.lconst 0, 1) := by decide +kernel
theorem dX0_meanOn_4 : decode cX0_meanOn 4 = .ok (.lstore 6, 2) := by decide +kernel
theorem dX0_meanOn_6 : decode cX0_meanOn 6 = .ok (.iconst 0, 1) := by decide +kernel
theorem dX0_meanOn_7 : decode cX0_meanOn 7 = .ok (.istore 8, 2) := by decide +kernel
theorem dX0_meanOn_9 : decode cX0_meanOn 9 = .ok (.aload_n 0, 1) := by decide +kernel
theorem dX0_meanOn_10 : decode cX0_meanOn 10 = .ok (.getfield 32, 3) := by decide +kernel
theorem dX0_meanOn_13 : decode cX0_meanOn 13 = .ok (.iconst 1, 1) := by decide +kernel
theorem dX0_meanOn_14 : decode cX0_meanOn 14 = .ok (.isub, 1) := by decide +kernel
theorem dX0_meanOn_15 : decode cX0_meanOn 15 = .ok (.istore 9, 2) := by decide +kernel
theorem dX0_meanOn_17 : decode cX0_meanOn 17 = .ok (.iload 9, 2) := by decide +kernel
theorem dX0_meanOn_19 : decode cX0_meanOn 19 = .ok (.ifCond .lt 79, 3) := by decide +kernel
theorem dX0_meanOn_22 : decode cX0_meanOn 22 = .ok (.iload 8, 2) := by decide +kernel
theorem dX0_meanOn_24 : decode cX0_meanOn 24 = .ok (.bipush 8, 2) := by decide +kernel
theorem dX0_meanOn_26 : decode cX0_meanOn 26 = .ok (.if_icmp .ge 72, 3) := by decide +kernel
theorem dX0_meanOn_29 : decode cX0_meanOn 29 = .ok (.aload_n 0, 1) := by decide +kernel
theorem dX0_meanOn_30 : decode cX0_meanOn 30 = .ok (.getfield 29, 3) := by decide +kernel
theorem dX0_meanOn_33 : decode cX0_meanOn 33 = .ok (.iload 9, 2) := by decide +kernel
theorem dX0_meanOn_35 : decode cX0_meanOn 35 = .ok (.iaload, 1) := by decide +kernel
theorem dX0_meanOn_36 : decode cX0_meanOn 36 = .ok (.iconst (-1), 1) := by decide +kernel
theorem dX0_meanOn_37 : decode cX0_meanOn 37 = .ok (.if_icmp .eq 55, 3) := by decide +kernel
theorem dX0_meanOn_40 : decode cX0_meanOn 40 = .ok (.aload_n 2, 1) := by decide +kernel
theorem dX0_meanOn_41 : decode cX0_meanOn 41 = .ok (.aload_n 0, 1) := by decide +kernel
theorem dX0_meanOn_42 : decode cX0_meanOn 42 = .ok (.iload 9, 2) := by decide +kernel
theorem dX0_meanOn_44 : decode cX0_meanOn 44 = .ok (.invokevirtual 63, 3) := by decide +kernel
theorem dX0_meanOn_47 : decode cX0_meanOn 47 = .ok (.bipush 24, 2) := by decide +kernel
theorem dX0_meanOn_49 : decode cX0_meanOn 49 = .ok (.idiv, 1) := by decide +kernel
theorem dX0_meanOn_50 : decode cX0_meanOn 50 = .ok (.invokevirtual 70, 3) := by decide +kernel
theorem dX0_meanOn_53 : decode cX0_meanOn 53 = .ok (.iload_n 1, 1) := by decide +kernel
theorem dX0_meanOn_54 : decode cX0_meanOn 54 = .ok (.if_icmp .ne 38, 3) := by decide +kernel
theorem dX0_meanOn_57 : decode cX0_meanOn 57 = .ok (.aload_n 3, 1) := by decide +kernel
theorem dX0_meanOn_58 : decode cX0_meanOn 58 = .ok (.iload 8, 2) := by decide +kernel
theorem dX0_meanOn_60 : decode cX0_meanOn 60 = .ok (.invokevirtual 75, 3) := by decide +kernel
theorem dX0_meanOn_63 : decode cX0_meanOn 63 = .ok (.i2l, 1) := by decide +kernel
theorem dX0_meanOn_64 : decode cX0_meanOn 64 = .ok (.lstore 10, 2) := by decide +kernel
theorem dX0_meanOn_66 : decode cX0_meanOn 66 = .ok (.lload 4, 2) := by decide +kernel
theorem dX0_meanOn_68 : decode cX0_meanOn 68 = .ok (.aload_n 0, 1) := by decide +kernel
theorem dX0_meanOn_69 : decode cX0_meanOn 69 = .ok (.getfield 29, 3) := by decide +kernel
theorem dX0_meanOn_72 : decode cX0_meanOn 72 = .ok (.iload 9, 2) := by decide +kernel
theorem dX0_meanOn_74 : decode cX0_meanOn 74 = .ok (.iaload, 1) := by decide +kernel
theorem dX0_meanOn_75 : decode cX0_meanOn 75 = .ok (.i2l, 1) := by decide +kernel
theorem dX0_meanOn_76 : decode cX0_meanOn 76 = .ok (.lload 10, 2) := by decide +kernel
theorem dX0_meanOn_78 : decode cX0_meanOn 78 = .ok (.lmul, 1) := by decide +kernel
theorem dX0_meanOn_79 : decode cX0_meanOn 79 = .ok (.ladd, 1) := by decide +kernel
theorem dX0_meanOn_80 : decode cX0_meanOn 80 = .ok (.lstore 4, 2) := by decide +kernel
theorem dX0_meanOn_82 : decode cX0_meanOn 82 = .ok (.lload 6, 2) := by decide +kernel
theorem dX0_meanOn_84 : decode cX0_meanOn 84 = .ok (.lload 10, 2) := by decide +kernel
theorem dX0_meanOn_86 : decode cX0_meanOn 86 = .ok (.ladd, 1) := by decide +kernel
theorem dX0_meanOn_87 : decode cX0_meanOn 87 = .ok (.lstore 6, 2) := by decide +kernel
theorem dX0_meanOn_89 : decode cX0_meanOn 89 = .ok (.iinc 8 1, 3) := by decide +kernel
theorem dX0_meanOn_92 : decode cX0_meanOn 92 = .ok (.iinc 9 (-1), 3) := by decide +kernel
theorem dX0_meanOn_95 : decode cX0_meanOn 95 = .ok (.goto (-78), 3) := by decide +kernel
theorem dX0_meanOn_98 : decode cX0_meanOn 98 = .ok (.lload 6, 2) := by decide +kernel
theorem dX0_meanOn_100 : decode cX0_meanOn 100 = .ok (.lconst 0, 1) := by decide +kernel
theorem dX0_meanOn_101 : decode cX0_meanOn 101 = .ok (.lcmp, 1) := by decide +kernel
theorem dX0_meanOn_102 : decode cX0_meanOn 102 = .ok (.ifCond .le 12, 3) := by decide +kernel
theorem dX0_meanOn_105 : decode cX0_meanOn 105 = .ok (.lload 4, 2) := by decide +kernel
theorem dX0_meanOn_107 : decode cX0_meanOn 107 = .ok (.lload 6, 2) := by decide +kernel
theorem dX0_meanOn_109 : decode cX0_meanOn 109 = .ok (.ldiv, 1) := by decide +kernel
theorem dX0_meanOn_110 : decode cX0_meanOn 110 = .ok (.l2i, 1) := by decide +kernel
theorem dX0_meanOn_111 : decode cX0_meanOn 111 = .ok (.goto 4, 3) := by decide +kernel
theorem dX0_meanOn_114 : decode cX0_meanOn 114 = .ok (.iconst (-1), 1) := by decide +kernel
theorem dX0_meanOn_115 : decode cX0_meanOn 115 = .ok (.ireturn, 1) := by decide +kernel
theorem dX0_isRow_0 : decode cX0_isRow 0 = .ok (.aload_n 0, 1) := by decide +kernel
theorem dX0_isRow_1 : decode cX0_isRow 1 = .ok (.getfield 18, 3) := by decide +kernel
theorem dX0_isRow_4 : decode cX0_isRow 4 = .ok (.iload_n 1, 1) := by decide +kernel
theorem dX0_isRow_5 : decode cX0_isRow 5 = .ok (.iaload, 1) := by decide +kernel
theorem dX0_isRow_6 : decode cX0_isRow 6 = .ok (.iconst 2, 1) := by decide +kernel
theorem dX0_isRow_7 : decode cX0_isRow 7 = .ok (.irem, 1) := by decide +kernel
theorem dX0_isRow_8 : decode cX0_isRow 8 = .ok (.ifCond .ne 7, 3) := by decide +kernel
theorem dX0_isRow_11 : decode cX0_isRow 11 = .ok (.iconst 1, 1) := by decide +kernel
theorem dX0_isRow_12 : decode cX0_isRow 12 = .ok (.goto 4, 3) := by decide +kernel
theorem dX0_isRow_15 : decode cX0_isRow 15 = .ok (.iconst 0, 1) := by decide +kernel
theorem dX0_isRow_16 : decode cX0_isRow 16 = .ok (.ireturn, 1) := by decide +kernel
theorem dX0_indexFor_0 : decode cX0_indexFor 0 = .ok (.iconst 0, 1) := by decide +kernel
theorem dX0_indexFor_1 : decode cX0_indexFor 1 = .ok (.istore_n 2, 1) := by decide +kernel
theorem dX0_indexFor_2 : decode cX0_indexFor 2 = .ok (.iload_n 2, 1) := by decide +kernel
theorem dX0_indexFor_3 : decode cX0_indexFor 3 = .ok (.aload_n 0, 1) := by decide +kernel
theorem dX0_indexFor_4 : decode cX0_indexFor 4 = .ok (.getfield 32, 3) := by decide +kernel
theorem dX0_indexFor_7 : decode cX0_indexFor 7 = .ok (.if_icmp .ge 19, 3) := by decide +kernel
theorem dX0_indexFor_10 : decode cX0_indexFor 10 = .ok (.aload_n 0, 1) := by decide +kernel
theorem dX0_indexFor_11 : decode cX0_indexFor 11 = .ok (.getfield 18, 3) := by decide +kernel
theorem dX0_indexFor_14 : decode cX0_indexFor 14 = .ok (.iload_n 2, 1) := by decide +kernel
theorem dX0_indexFor_15 : decode cX0_indexFor 15 = .ok (.iaload, 1) := by decide +kernel
theorem dX0_indexFor_16 : decode cX0_indexFor 16 = .ok (.iload_n 1, 1) := by decide +kernel
theorem dX0_indexFor_17 : decode cX0_indexFor 17 = .ok (.if_icmp .ge 9, 3) := by decide +kernel
theorem dX0_indexFor_20 : decode cX0_indexFor 20 = .ok (.iinc 2 1, 3) := by decide +kernel
theorem dX0_indexFor_23 : decode cX0_indexFor 23 = .ok (.goto (-21), 3) := by decide +kernel
theorem dX0_indexFor_26 : decode cX0_indexFor 26 = .ok (.iload_n 2, 1) := by decide +kernel
theorem dX0_indexFor_27 : decode cX0_indexFor 27 = .ok (.ireturn, 1) := by decide +kernel
theorem dX0_isTaken_0 : decode cX0_isTaken 0 = .ok (.iload_n 1, 1) := by decide +kernel
theorem dX0_isTaken_1 : decode cX0_isTaken 1 = .ok (.aload_n 0, 1) := by decide +kernel
theorem dX0_isTaken_2 : decode cX0_isTaken 2 = .ok (.getfield 32, 3) := by decide +kernel
theorem dX0_isTaken_5 : decode cX0_isTaken 5 = .ok (.if_icmp .ge 17, 3) := by decide +kernel
theorem dX0_isTaken_8 : decode cX0_isTaken 8 = .ok (.aload_n 0, 1) := by decide +kernel
theorem dX0_isTaken_9 : decode cX0_isTaken 9 = .ok (.getfield 18, 3) := by decide +kernel
theorem dX0_isTaken_12 : decode cX0_isTaken 12 = .ok (.iload_n 1, 1) := by decide +kernel
theorem dX0_isTaken_13 : decode cX0_isTaken 13 = .ok (.iaload, 1) := by decide +kernel
theorem dX0_isTaken_14 : decode cX0_isTaken 14 = .ok (.iload_n 2, 1) := by decide +kernel
theorem dX0_isTaken_15 : decode cX0_isTaken 15 = .ok (.if_icmp .ne 7, 3) := by decide +kernel
theorem dX0_isTaken_18 : decode cX0_isTaken 18 = .ok (.iconst 1, 1) := by decide +kernel
theorem dX0_isTaken_19 : decode cX0_isTaken 19 = .ok (.goto 4, 3) := by decide +kernel
theorem dX0_isTaken_22 : decode cX0_isTaken 22 = .ok (.iconst 0, 1) := by decide +kernel
theorem dX0_isTaken_23 : decode cX0_isTaken 23 = .ok (.ireturn, 1) := by decide +kernel
theorem dX0_open_0 : decode cX0_open 0 = .ok (.aload_n 0, 1) := by decide +kernel
theorem dX0_open_1 : decode cX0_open 1 = .ok (.getfield 32, 3) := by decide +kernel
theorem dX0_open_4 : decode cX0_open 4 = .ok (.istore_n 3, 1) := by decide +kernel
theorem dX0_open_5 : decode cX0_open 5 = .ok (.iload_n 3, 1) := by decide +kernel
theorem dX0_open_6 : decode cX0_open 6 = .ok (.iload_n 1, 1) := by decide +kernel
theorem dX0_open_7 : decode cX0_open 7 = .ok (.if_icmp .le 37, 3) := by decide +kernel
theorem dX0_open_10 : decode cX0_open 10 = .ok (.aload_n 0, 1) := by decide +kernel
theorem dX0_open_11 : decode cX0_open 11 = .ok (.getfield 18, 3) := by decide +kernel
theorem dX0_open_14 : decode cX0_open 14 = .ok (.iload_n 3, 1) := by decide +kernel
theorem dX0_open_15 : decode cX0_open 15 = .ok (.aload_n 0, 1) := by decide +kernel
theorem dX0_open_16 : decode cX0_open 16 = .ok (.getfield 18, 3) := by decide +kernel
theorem dX0_open_19 : decode cX0_open 19 = .ok (.iload_n 3, 1) := by decide +kernel
theorem dX0_open_20 : decode cX0_open 20 = .ok (.iconst 1, 1) := by decide +kernel
theorem dX0_open_21 : decode cX0_open 21 = .ok (.isub, 1) := by decide +kernel
theorem dX0_open_22 : decode cX0_open 22 = .ok (.iaload, 1) := by decide +kernel
theorem dX0_open_23 : decode cX0_open 23 = .ok (.iastore, 1) := by decide +kernel
theorem dX0_open_24 : decode cX0_open 24 = .ok (.aload_n 0, 1) := by decide +kernel
theorem dX0_open_25 : decode cX0_open 25 = .ok (.getfield 22, 3) := by decide +kernel
theorem dX0_open_28 : decode cX0_open 28 = .ok (.iload_n 3, 1) := by decide +kernel
theorem dX0_open_29 : decode cX0_open 29 = .ok (.aload_n 0, 1) := by decide +kernel
theorem dX0_open_30 : decode cX0_open 30 = .ok (.getfield 22, 3) := by decide +kernel
theorem dX0_open_33 : decode cX0_open 33 = .ok (.iload_n 3, 1) := by decide +kernel
theorem dX0_open_34 : decode cX0_open 34 = .ok (.iconst 1, 1) := by decide +kernel
theorem dX0_open_35 : decode cX0_open 35 = .ok (.isub, 1) := by decide +kernel
theorem dX0_open_36 : decode cX0_open 36 = .ok (.iaload, 1) := by decide +kernel
theorem dX0_open_37 : decode cX0_open 37 = .ok (.iastore, 1) := by decide +kernel
theorem dX0_open_38 : decode cX0_open 38 = .ok (.iinc 3 (-1), 3) := by decide +kernel
theorem dX0_open_41 : decode cX0_open 41 = .ok (.goto (-36), 3) := by decide +kernel
theorem dX0_open_44 : decode cX0_open 44 = .ok (.aload_n 0, 1) := by decide +kernel
theorem dX0_open_45 : decode cX0_open 45 = .ok (.getfield 18, 3) := by decide +kernel
theorem dX0_open_48 : decode cX0_open 48 = .ok (.iload_n 1, 1) := by decide +kernel
theorem dX0_open_49 : decode cX0_open 49 = .ok (.iload_n 2, 1) := by decide +kernel
theorem dX0_open_50 : decode cX0_open 50 = .ok (.iastore, 1) := by decide +kernel
theorem dX0_open_51 : decode cX0_open 51 = .ok (.aload_n 0, 1) := by decide +kernel
theorem dX0_open_52 : decode cX0_open 52 = .ok (.dup, 1) := by decide +kernel
theorem dX0_open_53 : decode cX0_open 53 = .ok (.getfield 32, 3) := by decide +kernel
theorem dX0_open_56 : decode cX0_open 56 = .ok (.iconst 1, 1) := by decide +kernel
theorem dX0_open_57 : decode cX0_open 57 = .ok (.iadd, 1) := by decide +kernel
theorem dX0_open_58 : decode cX0_open 58 = .ok (.putfield 32, 3) := by decide +kernel
theorem dX0_open_61 : decode cX0_open 61 = .ok (.return_, 1) := by decide +kernel
theorem dX0_judge_0 : decode cX0_judge 0 = .ok (.iconst (-1), 1) := by decide +kernel
theorem dX0_judge_1 : decode cX0_judge 1 = .ok (.istore_n 1, 1) := by decide +kernel
theorem dX0_judge_2 : decode cX0_judge 2 = .ok (.iconst 0, 1) := by decide +kernel
theorem dX0_judge_3 : decode cX0_judge 3 = .ok (.istore_n 2, 1) := by decide +kernel
theorem dX0_judge_4 : decode cX0_judge 4 = .ok (.iload_n 2, 1) := by decide +kernel
theorem dX0_judge_5 : decode cX0_judge 5 = .ok (.aload_n 0, 1) := by decide +kernel
theorem dX0_judge_6 : decode cX0_judge 6 = .ok (.getfield 32, 3) := by decide +kernel
theorem dX0_judge_9 : decode cX0_judge 9 = .ok (.if_icmp .ge 96, 3) := by decide +kernel
theorem dX0_judge_12 : decode cX0_judge 12 = .ok (.aload_n 0, 1) := by decide +kernel
theorem dX0_judge_13 : decode cX0_judge 13 = .ok (.iload_n 2, 1) := by decide +kernel
theorem dX0_judge_14 : decode cX0_judge 14 = .ok (.invokevirtual 38, 3) := by decide +kernel
theorem dX0_judge_17 : decode cX0_judge 17 = .ok (.ifCond .eq 12, 3) := by decide +kernel
theorem dX0_judge_20 : decode cX0_judge 20 = .ok (.iload_n 1, 1) := by decide +kernel
theorem dX0_judge_21 : decode cX0_judge 21 = .ok (.iconst (-1), 1) := by decide +kernel
theorem dX0_judge_22 : decode cX0_judge 22 = .ok (.if_icmp .eq 7, 3) := by decide +kernel
theorem dX0_judge_25 : decode cX0_judge 25 = .ok (.iconst 1, 1) := by decide +kernel
theorem dX0_judge_26 : decode cX0_judge 26 = .ok (.goto 4, 3) := by decide +kernel
theorem dX0_judge_29 : decode cX0_judge 29 = .ok (.iconst 0, 1) := by decide +kernel
theorem dX0_judge_30 : decode cX0_judge 30 = .ok (.istore_n 3, 1) := by decide +kernel
theorem dX0_judge_31 : decode cX0_judge 31 = .ok (.aload_n 0, 1) := by decide +kernel
theorem dX0_judge_32 : decode cX0_judge 32 = .ok (.getfield 25, 3) := by decide +kernel
theorem dX0_judge_35 : decode cX0_judge 35 = .ok (.iload_n 2, 1) := by decide +kernel
theorem dX0_judge_36 : decode cX0_judge 36 = .ok (.iload_n 3, 1) := by decide +kernel
theorem dX0_judge_37 : decode cX0_judge 37 = .ok (.ifCond .eq 20, 3) := by decide +kernel
theorem dX0_judge_40 : decode cX0_judge 40 = .ok (.aload_n 0, 1) := by decide +kernel
theorem dX0_judge_41 : decode cX0_judge 41 = .ok (.iload_n 2, 1) := by decide +kernel
theorem dX0_judge_42 : decode cX0_judge 42 = .ok (.invokevirtual 80, 3) := by decide +kernel
theorem dX0_judge_45 : decode cX0_judge 45 = .ok (.aload_n 0, 1) := by decide +kernel
theorem dX0_judge_46 : decode cX0_judge 46 = .ok (.iload_n 1, 1) := by decide +kernel
theorem dX0_judge_47 : decode cX0_judge 47 = .ok (.invokevirtual 80, 3) := by decide +kernel
theorem dX0_judge_50 : decode cX0_judge 50 = .ok (.if_icmp .ge 7, 3) := by decide +kernel
theorem dX0_judge_53 : decode cX0_judge 53 = .ok (.iconst 1, 1) := by decide +kernel
theorem dX0_judge_54 : decode cX0_judge 54 = .ok (.goto 4, 3) := by decide +kernel
theorem dX0_judge_57 : decode cX0_judge 57 = .ok (.iconst 0, 1) := by decide +kernel
theorem dX0_judge_58 : decode cX0_judge 58 = .ok (.bastore, 1) := by decide +kernel
theorem dX0_judge_59 : decode cX0_judge 59 = .ok (.aload_n 0, 1) := by decide +kernel
theorem dX0_judge_60 : decode cX0_judge 60 = .ok (.getfield 29, 3) := by decide +kernel
theorem dX0_judge_63 : decode cX0_judge 63 = .ok (.iload_n 2, 1) := by decide +kernel
theorem dX0_judge_64 : decode cX0_judge 64 = .ok (.iload_n 3, 1) := by decide +kernel
theorem dX0_judge_65 : decode cX0_judge 65 = .ok (.ifCond .eq 21, 3) := by decide +kernel
theorem dX0_judge_68 : decode cX0_judge 68 = .ok (.aload_n 0, 1) := by decide +kernel
theorem dX0_judge_69 : decode cX0_judge 69 = .ok (.getfield 25, 3) := by decide +kernel
theorem dX0_judge_72 : decode cX0_judge 72 = .ok (.iload_n 2, 1) := by decide +kernel
theorem dX0_judge_73 : decode cX0_judge 73 = .ok (.baload, 1) := by decide +kernel
theorem dX0_judge_74 : decode cX0_judge 74 = .ok (.ifCond .ne 12, 3) := by decide +kernel
theorem dX0_judge_77 : decode cX0_judge 77 = .ok (.aload_n 0, 1) := by decide +kernel
theorem dX0_judge_78 : decode cX0_judge 78 = .ok (.iload_n 1, 1) := by decide +kernel
theorem dX0_judge_79 : decode cX0_judge 79 = .ok (.iload_n 2, 1) := by decide +kernel
theorem dX0_judge_80 : decode cX0_judge 80 = .ok (.invokevirtual 83, 3) := by decide +kernel
theorem dX0_judge_83 : decode cX0_judge 83 = .ok (.goto 4, 3) := by decide +kernel
theorem dX0_judge_86 : decode cX0_judge 86 = .ok (.iconst (-1), 1) := by decide +kernel
theorem dX0_judge_87 : decode cX0_judge 87 = .ok (.iastore, 1) := by decide +kernel
theorem dX0_judge_88 : decode cX0_judge 88 = .ok (.aload_n 0, 1) := by decide +kernel
theorem dX0_judge_89 : decode cX0_judge 89 = .ok (.getfield 25, 3) := by decide +kernel
theorem dX0_judge_92 : decode cX0_judge 92 = .ok (.iload_n 2, 1) := by decide +kernel
theorem dX0_judge_93 : decode cX0_judge 93 = .ok (.baload, 1) := by decide +kernel
theorem dX0_judge_94 : decode cX0_judge 94 = .ok (.ifCond .ne 5, 3) := by decide +kernel
theorem dX0_judge_97 : decode cX0_judge 97 = .ok (.iload_n 2, 1) := by decide +kernel
theorem dX0_judge_98 : decode cX0_judge 98 = .ok (.istore_n 1, 1) := by decide +kernel
theorem dX0_judge_99 : decode cX0_judge 99 = .ok (.iinc 2 1, 3) := by decide +kernel
theorem dX0_judge_102 : decode cX0_judge 102 = .ok (.goto (-98), 3) := by decide +kernel
theorem dX0_judge_105 : decode cX0_judge 105 = .ok (.return_, 1) := by decide +kernel
theorem dX0_gainFrom_0 : decode cX0_gainFrom 0 = .ok (.aload_n 0, 1) := by decide +kernel
theorem dX0_gainFrom_1 : decode cX0_gainFrom 1 = .ok (.iload_n 2, 1) := by decide +kernel
theorem dX0_gainFrom_2 : decode cX0_gainFrom 2 = .ok (.invokevirtual 63, 3) := by decide +kernel
theorem dX0_gainFrom_5 : decode cX0_gainFrom 5 = .ok (.aload_n 0, 1) := by decide +kernel
theorem dX0_gainFrom_6 : decode cX0_gainFrom 6 = .ok (.iload_n 1, 1) := by decide +kernel
theorem dX0_gainFrom_7 : decode cX0_gainFrom 7 = .ok (.invokevirtual 63, 3) := by decide +kernel
theorem dX0_gainFrom_10 : decode cX0_gainFrom 10 = .ok (.isub, 1) := by decide +kernel
theorem dX0_gainFrom_11 : decode cX0_gainFrom 11 = .ok (.istore_n 3, 1) := by decide +kernel
theorem dX0_gainFrom_12 : decode cX0_gainFrom 12 = .ok (.iload_n 3, 1) := by decide +kernel
theorem dX0_gainFrom_13 : decode cX0_gainFrom 13 = .ok (.ifCond .le 22, 3) := by decide +kernel
theorem dX0_gainFrom_16 : decode cX0_gainFrom 16 = .ok (.aload_n 0, 1) := by decide +kernel
theorem dX0_gainFrom_17 : decode cX0_gainFrom 17 = .ok (.iload_n 2, 1) := by decide +kernel
theorem dX0_gainFrom_18 : decode cX0_gainFrom 18 = .ok (.invokevirtual 80, 3) := by decide +kernel
theorem dX0_gainFrom_21 : decode cX0_gainFrom 21 = .ok (.aload_n 0, 1) := by decide +kernel
theorem dX0_gainFrom_22 : decode cX0_gainFrom 22 = .ok (.iload_n 1, 1) := by decide +kernel
theorem dX0_gainFrom_23 : decode cX0_gainFrom 23 = .ok (.invokevirtual 80, 3) := by decide +kernel
theorem dX0_gainFrom_26 : decode cX0_gainFrom 26 = .ok (.isub, 1) := by decide +kernel
theorem dX0_gainFrom_27 : decode cX0_gainFrom 27 = .ok (.bipush 24, 2) := by decide +kernel
theorem dX0_gainFrom_29 : decode cX0_gainFrom 29 = .ok (.imul, 1) := by decide +kernel
theorem dX0_gainFrom_30 : decode cX0_gainFrom 30 = .ok (.iload_n 3, 1) := by decide +kernel
theorem dX0_gainFrom_31 : decode cX0_gainFrom 31 = .ok (.idiv, 1) := by decide +kernel
theorem dX0_gainFrom_32 : decode cX0_gainFrom 32 = .ok (.goto 4, 3) := by decide +kernel
theorem dX0_gainFrom_35 : decode cX0_gainFrom 35 = .ok (.iconst (-1), 1) := by decide +kernel
theorem dX0_gainFrom_36 : decode cX0_gainFrom 36 = .ok (.ireturn, 1) := by decide +kernel
theorem dX1_init_0 : decode cX1_init 0 = .ok (.aload_n 0, 1) := by decide +kernel
theorem dX1_init_1 : decode cX1_init 1 = .ok (.invokespecial 3, 3) := by decide +kernel
theorem dX1_init_4 : decode cX1_init 4 = .ok (.aload_n 0, 1) := by decide +kernel
theorem dX1_init_5 : decode cX1_init 5 = .ok (.sipush 417, 3) := by decide +kernel
theorem dX1_init_8 : decode cX1_init 8 = .ok (.newarray .boolean, 2) := by decide +kernel
theorem dX1_init_10 : decode cX1_init 10 = .ok (.putfield 9, 3) := by decide +kernel
theorem dX1_init_13 : decode cX1_init 13 = .ok (.return_, 1) := by decide +kernel
theorem dX1_mark_0 : decode cX1_mark 0 = .ok (.aload_n 0, 1) := by decide +kernel
theorem dX1_mark_1 : decode cX1_mark 1 = .ok (.getfield 9, 3) := by decide +kernel
theorem dX1_mark_4 : decode cX1_mark 4 = .ok (.iload_n 1, 1) := by decide +kernel
theorem dX1_mark_5 : decode cX1_mark 5 = .ok (.iload_n 2, 1) := by decide +kernel
theorem dX1_mark_6 : decode cX1_mark 6 = .ok (.bastore, 1) := by decide +kernel
theorem dX1_mark_7 : decode cX1_mark 7 = .ok (.return_, 1) := by decide +kernel
theorem dX1_weekdayOf_0 : decode cX1_weekdayOf 0 = .ok (.aload_n 0, 1) := by decide +kernel
theorem dX1_weekdayOf_1 : decode cX1_weekdayOf 1 = .ok (.getfield 9, 3) := by decide +kernel
theorem dX1_weekdayOf_4 : decode cX1_weekdayOf 4 = .ok (.iload_n 1, 1) := by decide +kernel
theorem dX1_weekdayOf_5 : decode cX1_weekdayOf 5 = .ok (.baload, 1) := by decide +kernel
theorem dX1_weekdayOf_6 : decode cX1_weekdayOf 6 = .ok (.ifCond .eq 8, 3) := by decide +kernel
theorem dX1_weekdayOf_9 : decode cX1_weekdayOf 9 = .ok (.bipush 6, 2) := by decide +kernel
theorem dX1_weekdayOf_11 : decode cX1_weekdayOf 11 = .ok (.goto 7, 3) := by decide +kernel
theorem dX1_weekdayOf_14 : decode cX1_weekdayOf 14 = .ok (.iload_n 1, 1) := by decide +kernel
theorem dX1_weekdayOf_15 : decode cX1_weekdayOf 15 = .ok (.bipush 7, 2) := by decide +kernel
theorem dX1_weekdayOf_17 : decode cX1_weekdayOf 17 = .ok (.irem, 1) := by decide +kernel
theorem dX1_weekdayOf_18 : decode cX1_weekdayOf 18 = .ok (.ireturn, 1) := by decide +kernel
theorem dX2_init_0 : decode cX2_init 0 = .ok (.aload_n 0, 1) := by decide +kernel
theorem dX2_init_1 : decode cX2_init 1 = .ok (.invokespecial 3, 3) := by decide +kernel
theorem dX2_init_4 : decode cX2_init 4 = .ok (.aload_n 0, 1) := by decide +kernel
theorem dX2_init_5 : decode cX2_init 5 = .ok (.bipush 8, 2) := by decide +kernel
theorem dX2_init_7 : decode cX2_init 7 = .ok (.newarray .int, 2) := by decide +kernel
theorem dX2_init_9 : decode cX2_init 9 = .ok (.putfield 9, 3) := by decide +kernel
theorem dX2_init_12 : decode cX2_init 12 = .ok (.aload_n 0, 1) := by decide +kernel
theorem dX2_init_13 : decode cX2_init 13 = .ok (.iconst 1, 1) := by decide +kernel
theorem dX2_init_14 : decode cX2_init 14 = .ok (.iconst 2, 1) := by decide +kernel
theorem dX2_init_15 : decode cX2_init 15 = .ok (.invokevirtual 15, 3) := by decide +kernel
theorem dX2_init_18 : decode cX2_init 18 = .ok (.return_, 1) := by decide +kernel
theorem dX2_setTo_0 : decode cX2_setTo 0 = .ok (.iconst 0, 1) := by decide +kernel
theorem dX2_setTo_1 : decode cX2_setTo 1 = .ok (.istore_n 3, 1) := by decide +kernel
theorem dX2_setTo_2 : decode cX2_setTo 2 = .ok (.iload_n 3, 1) := by decide +kernel
theorem dX2_setTo_3 : decode cX2_setTo 3 = .ok (.bipush 8, 2) := by decide +kernel
theorem dX2_setTo_5 : decode cX2_setTo 5 = .ok (.if_icmp .ge 52, 3) := by decide +kernel
theorem dX2_setTo_8 : decode cX2_setTo 8 = .ok (.iconst 1, 1) := by decide +kernel
theorem dX2_setTo_9 : decode cX2_setTo 9 = .ok (.istore 4, 2) := by decide +kernel
theorem dX2_setTo_11 : decode cX2_setTo 11 = .ok (.iconst 0, 1) := by decide +kernel
theorem dX2_setTo_12 : decode cX2_setTo 12 = .ok (.istore 5, 2) := by decide +kernel
theorem dX2_setTo_14 : decode cX2_setTo 14 = .ok (.iload 5, 2) := by decide +kernel
theorem dX2_setTo_16 : decode cX2_setTo 16 = .ok (.bipush 7, 2) := by decide +kernel
theorem dX2_setTo_18 : decode cX2_setTo 18 = .ok (.if_icmp .ge 25, 3) := by decide +kernel
theorem dX2_setTo_21 : decode cX2_setTo 21 = .ok (.iload 4, 2) := by decide +kernel
theorem dX2_setTo_23 : decode cX2_setTo 23 = .ok (.iload 5, 2) := by decide +kernel
theorem dX2_setTo_25 : decode cX2_setTo 25 = .ok (.iload_n 3, 1) := by decide +kernel
theorem dX2_setTo_26 : decode cX2_setTo 26 = .ok (.if_icmp .ge 7, 3) := by decide +kernel
theorem dX2_setTo_29 : decode cX2_setTo 29 = .ok (.iload_n 1, 1) := by decide +kernel
theorem dX2_setTo_30 : decode cX2_setTo 30 = .ok (.goto 4, 3) := by decide +kernel
theorem dX2_setTo_33 : decode cX2_setTo 33 = .ok (.iload_n 2, 1) := by decide +kernel
theorem dX2_setTo_34 : decode cX2_setTo 34 = .ok (.imul, 1) := by decide +kernel
theorem dX2_setTo_35 : decode cX2_setTo 35 = .ok (.istore 4, 2) := by decide +kernel
theorem dX2_setTo_37 : decode cX2_setTo 37 = .ok (.iinc 5 1, 3) := by decide +kernel
theorem dX2_setTo_40 : decode cX2_setTo 40 = .ok (.goto (-26), 3) := by decide +kernel
theorem dX2_setTo_43 : decode cX2_setTo 43 = .ok (.aload_n 0, 1) := by decide +kernel
theorem dX2_setTo_44 : decode cX2_setTo 44 = .ok (.getfield 9, 3) := by decide +kernel
theorem dX2_setTo_47 : decode cX2_setTo 47 = .ok (.iload_n 3, 1) := by decide +kernel
theorem dX2_setTo_48 : decode cX2_setTo 48 = .ok (.iload 4, 2) := by decide +kernel
theorem dX2_setTo_50 : decode cX2_setTo 50 = .ok (.iastore, 1) := by decide +kernel
theorem dX2_setTo_51 : decode cX2_setTo 51 = .ok (.iinc 3 1, 3) := by decide +kernel
theorem dX2_setTo_54 : decode cX2_setTo 54 = .ok (.goto (-52), 3) := by decide +kernel
theorem dX2_setTo_57 : decode cX2_setTo 57 = .ok (.return_, 1) := by decide +kernel
theorem dX2_weightOf_0 : decode cX2_weightOf 0 = .ok (.aload_n 0, 1) := by decide +kernel
theorem dX2_weightOf_1 : decode cX2_weightOf 1 = .ok (.getfield 9, 3) := by decide +kernel
theorem dX2_weightOf_4 : decode cX2_weightOf 4 = .ok (.iload_n 1, 1) := by decide +kernel
theorem dX2_weightOf_5 : decode cX2_weightOf 5 = .ok (.iaload, 1) := by decide +kernel
theorem dX2_weightOf_6 : decode cX2_weightOf 6 = .ok (.ireturn, 1) := by decide +kernel
theorem dX3_init_0 : decode cX3_init 0 = .ok (.aload_n 0, 1) := by decide +kernel
theorem dX3_init_1 : decode cX3_init 1 = .ok (.invokespecial 3, 3) := by decide +kernel
theorem dX3_init_4 : decode cX3_init 4 = .ok (.aload_n 0, 1) := by decide +kernel
theorem dX3_init_5 : decode cX3_init 5 = .ok (.bipush 7, 2) := by decide +kernel
theorem dX3_init_7 : decode cX3_init 7 = .ok (.newarray .int, 2) := by decide +kernel
theorem dX3_init_9 : decode cX3_init 9 = .ok (.putfield 9, 3) := by decide +kernel
theorem dX3_init_12 : decode cX3_init 12 = .ok (.aload_n 0, 1) := by decide +kernel
theorem dX3_init_13 : decode cX3_init 13 = .ok (.sipush 418, 3) := by decide +kernel
theorem dX3_init_16 : decode cX3_init 16 = .ok (.newarray .int, 2) := by decide +kernel
theorem dX3_init_18 : decode cX3_init 18 = .ok (.putfield 15, 3) := by decide +kernel
theorem dX3_init_21 : decode cX3_init 21 = .ok (.return_, 1) := by decide +kernel
theorem dX3_setRate_0 : decode cX3_setRate 0 = .ok (.aload_n 0, 1) := by decide +kernel
theorem dX3_setRate_1 : decode cX3_setRate 1 = .ok (.getfield 9, 3) := by decide +kernel
theorem dX3_setRate_4 : decode cX3_setRate 4 = .ok (.iload_n 1, 1) := by decide +kernel
theorem dX3_setRate_5 : decode cX3_setRate 5 = .ok (.iload_n 2, 1) := by decide +kernel
theorem dX3_setRate_6 : decode cX3_setRate 6 = .ok (.iastore, 1) := by decide +kernel
theorem dX3_setRate_7 : decode cX3_setRate 7 = .ok (.return_, 1) := by decide +kernel
theorem dX3_sumUp_0 : decode cX3_sumUp 0 = .ok (.iconst 0, 1) := by decide +kernel
theorem dX3_sumUp_1 : decode cX3_sumUp 1 = .ok (.istore_n 2, 1) := by decide +kernel
theorem dX3_sumUp_2 : decode cX3_sumUp 2 = .ok (.iload_n 2, 1) := by decide +kernel
theorem dX3_sumUp_3 : decode cX3_sumUp 3 = .ok (.sipush 417, 3) := by decide +kernel
theorem dX3_sumUp_6 : decode cX3_sumUp 6 = .ok (.if_icmp .ge 34, 3) := by decide +kernel
theorem dX3_sumUp_9 : decode cX3_sumUp 9 = .ok (.aload_n 0, 1) := by decide +kernel
theorem dX3_sumUp_10 : decode cX3_sumUp 10 = .ok (.getfield 15, 3) := by decide +kernel
theorem dX3_sumUp_13 : decode cX3_sumUp 13 = .ok (.iload_n 2, 1) := by decide +kernel
theorem dX3_sumUp_14 : decode cX3_sumUp 14 = .ok (.iconst 1, 1) := by decide +kernel
theorem dX3_sumUp_15 : decode cX3_sumUp 15 = .ok (.iadd, 1) := by decide +kernel
theorem dX3_sumUp_16 : decode cX3_sumUp 16 = .ok (.aload_n 0, 1) := by decide +kernel
theorem dX3_sumUp_17 : decode cX3_sumUp 17 = .ok (.getfield 15, 3) := by decide +kernel
theorem dX3_sumUp_20 : decode cX3_sumUp 20 = .ok (.iload_n 2, 1) := by decide +kernel
theorem dX3_sumUp_21 : decode cX3_sumUp 21 = .ok (.iaload, 1) := by decide +kernel
theorem dX3_sumUp_22 : decode cX3_sumUp 22 = .ok (.aload_n 0, 1) := by decide +kernel
theorem dX3_sumUp_23 : decode cX3_sumUp 23 = .ok (.getfield 9, 3) := by decide +kernel
theorem dX3_sumUp_26 : decode cX3_sumUp 26 = .ok (.aload_n 1, 1) := by decide +kernel
theorem dX3_sumUp_27 : decode cX3_sumUp 27 = .ok (.iload_n 2, 1) := by decide +kernel
theorem dX3_sumUp_28 : decode cX3_sumUp 28 = .ok (.invokevirtual 18, 3) := by decide +kernel
theorem dX3_sumUp_31 : decode cX3_sumUp 31 = .ok (.iaload, 1) := by decide +kernel
theorem dX3_sumUp_32 : decode cX3_sumUp 32 = .ok (.iadd, 1) := by decide +kernel
theorem dX3_sumUp_33 : decode cX3_sumUp 33 = .ok (.iastore, 1) := by decide +kernel
theorem dX3_sumUp_34 : decode cX3_sumUp 34 = .ok (.iinc 2 1, 3) := by decide +kernel
theorem dX3_sumUp_37 : decode cX3_sumUp 37 = .ok (.goto (-35), 3) := by decide +kernel
theorem dX3_sumUp_40 : decode cX3_sumUp 40 = .ok (.return_, 1) := by decide +kernel
theorem dX3_shareAt_0 : decode cX3_shareAt 0 = .ok (.aload_n 0, 1) := by decide +kernel
theorem dX3_shareAt_1 : decode cX3_shareAt 1 = .ok (.aload_n 1, 1) := by decide +kernel
theorem dX3_shareAt_2 : decode cX3_shareAt 2 = .ok (.aload_n 1, 1) := by decide +kernel
theorem dX3_shareAt_3 : decode cX3_shareAt 3 = .ok (.iload_n 2, 1) := by decide +kernel
theorem dX3_shareAt_4 : decode cX3_shareAt 4 = .ok (.invokestatic 24, 3) := by decide +kernel
theorem dX3_shareAt_7 : decode cX3_shareAt 7 = .ok (.invokevirtual 29, 3) := by decide +kernel
theorem dX3_shareAt_10 : decode cX3_shareAt 10 = .ok (.iload_n 2, 1) := by decide +kernel
theorem dX3_shareAt_11 : decode cX3_shareAt 11 = .ok (.invokevirtual 32, 3) := by decide +kernel
theorem dX3_shareAt_14 : decode cX3_shareAt 14 = .ok (.lreturn, 1) := by decide +kernel
theorem dX3_shareBefore_0 : decode cX3_shareBefore 0 = .ok (.aload_n 0, 1) := by decide +kernel
theorem dX3_shareBefore_1 : decode cX3_shareBefore 1 = .ok (.aload_n 1, 1) := by decide +kernel
theorem dX3_shareBefore_2 : decode cX3_shareBefore 2 = .ok (.aload_n 1, 1) := by decide +kernel
theorem dX3_shareBefore_3 : decode cX3_shareBefore 3 = .ok (.aload_n 1, 1) := by decide +kernel
theorem dX3_shareBefore_4 : decode cX3_shareBefore 4 = .ok (.iload_n 2, 1) := by decide +kernel
theorem dX3_shareBefore_5 : decode cX3_shareBefore 5 = .ok (.invokevirtual 36, 3) := by decide +kernel
theorem dX3_shareBefore_8 : decode cX3_shareBefore 8 = .ok (.iconst 1, 1) := by decide +kernel
theorem dX3_shareBefore_9 : decode cX3_shareBefore 9 = .ok (.isub, 1) := by decide +kernel
theorem dX3_shareBefore_10 : decode cX3_shareBefore 10 = .ok (.invokevirtual 29, 3) := by decide +kernel
theorem dX3_shareBefore_13 : decode cX3_shareBefore 13 = .ok (.aload_n 1, 1) := by decide +kernel
theorem dX3_shareBefore_14 : decode cX3_shareBefore 14 = .ok (.iload_n 2, 1) := by decide +kernel
theorem dX3_shareBefore_15 : decode cX3_shareBefore 15 = .ok (.invokevirtual 39, 3) := by decide +kernel
theorem dX3_shareBefore_18 : decode cX3_shareBefore 18 = .ok (.invokevirtual 32, 3) := by decide +kernel
theorem dX3_shareBefore_21 : decode cX3_shareBefore 21 = .ok (.lreturn, 1) := by decide +kernel
theorem dX3_shareBy_0 : decode cX3_shareBy 0 = .ok (.iload_n 2, 1) := by decide +kernel
theorem dX3_shareBy_1 : decode cX3_shareBy 1 = .ok (.iconst (-1), 1) := by decide +kernel
theorem dX3_shareBy_2 : decode cX3_shareBy 2 = .ok (.if_icmp .ne 7, 3) := by decide +kernel
theorem dX3_shareBy_5 : decode cX3_shareBy 5 = .ok (.iconst 0, 1) := by decide +kernel
theorem dX3_shareBy_6 : decode cX3_shareBy 6 = .ok (.goto 8, 3) := by decide +kernel
theorem dX3_shareBy_9 : decode cX3_shareBy 9 = .ok (.aload_n 1, 1) := by decide +kernel
theorem dX3_shareBy_10 : decode cX3_shareBy 10 = .ok (.iload_n 2, 1) := by decide +kernel
theorem dX3_shareBy_11 : decode cX3_shareBy 11 = .ok (.invokevirtual 39, 3) := by decide +kernel
theorem dX3_shareBy_14 : decode cX3_shareBy 14 = .ok (.istore 4, 2) := by decide +kernel
theorem dX3_shareBy_16 : decode cX3_shareBy 16 = .ok (.iload_n 2, 1) := by decide +kernel
theorem dX3_shareBy_17 : decode cX3_shareBy 17 = .ok (.iconst (-1), 1) := by decide +kernel
theorem dX3_shareBy_18 : decode cX3_shareBy 18 = .ok (.if_icmp .ne 7, 3) := by decide +kernel
theorem dX3_shareBy_21 : decode cX3_shareBy 21 = .ok (.lconst 0, 1) := by decide +kernel
theorem dX3_shareBy_22 : decode cX3_shareBy 22 = .ok (.goto 9, 3) := by decide +kernel
theorem dX3_shareBy_25 : decode cX3_shareBy 25 = .ok (.aload_n 1, 1) := by decide +kernel
theorem dX3_shareBy_26 : decode cX3_shareBy 26 = .ok (.iload_n 2, 1) := by decide +kernel
theorem dX3_shareBy_27 : decode cX3_shareBy 27 = .ok (.invokevirtual 42, 3) := by decide +kernel
theorem dX3_shareBy_30 : decode cX3_shareBy 30 = .ok (.i2l, 1) := by decide +kernel
theorem dX3_shareBy_31 : decode cX3_shareBy 31 = .ok (.lstore 5, 2) := by decide +kernel
theorem dX3_shareBy_33 : decode cX3_shareBy 33 = .ok (.ldc2_w 45, 3) := by decide +kernel
theorem dX3_shareBy_36 : decode cX3_shareBy 36 = .ok (.lload 5, 2) := by decide +kernel
theorem dX3_shareBy_38 : decode cX3_shareBy 38 = .ok (.lmul, 1) := by decide +kernel
theorem dX3_shareBy_39 : decode cX3_shareBy 39 = .ok (.aload_n 0, 1) := by decide +kernel
theorem dX3_shareBy_40 : decode cX3_shareBy 40 = .ok (.iload_n 3, 1) := by decide +kernel
theorem dX3_shareBy_41 : decode cX3_shareBy 41 = .ok (.invokevirtual 47, 3) := by decide +kernel
theorem dX3_shareBy_44 : decode cX3_shareBy 44 = .ok (.ladd, 1) := by decide +kernel
theorem dX3_shareBy_45 : decode cX3_shareBy 45 = .ok (.aload_n 0, 1) := by decide +kernel
theorem dX3_shareBy_46 : decode cX3_shareBy 46 = .ok (.iload 4, 2) := by decide +kernel
theorem dX3_shareBy_48 : decode cX3_shareBy 48 = .ok (.invokevirtual 47, 3) := by decide +kernel
theorem dX3_shareBy_51 : decode cX3_shareBy 51 = .ok (.lsub, 1) := by decide +kernel
theorem dX3_shareBy_52 : decode cX3_shareBy 52 = .ok (.ldc2_w 45, 3) := by decide +kernel
theorem dX3_shareBy_55 : decode cX3_shareBy 55 = .ok (.ldiv, 1) := by decide +kernel
theorem dX3_shareBy_56 : decode cX3_shareBy 56 = .ok (.lreturn, 1) := by decide +kernel
theorem dX3_gainUpTo_0 : decode cX3_gainUpTo 0 = .ok (.iload_n 1, 1) := by decide +kernel
theorem dX3_gainUpTo_1 : decode cX3_gainUpTo 1 = .ok (.bipush 24, 2) := by decide +kernel
theorem dX3_gainUpTo_3 : decode cX3_gainUpTo 3 = .ok (.idiv, 1) := by decide +kernel
theorem dX3_gainUpTo_4 : decode cX3_gainUpTo 4 = .ok (.istore_n 2, 1) := by decide +kernel
theorem dX3_gainUpTo_5 : decode cX3_gainUpTo 5 = .ok (.aload_n 0, 1) := by decide +kernel
theorem dX3_gainUpTo_6 : decode cX3_gainUpTo 6 = .ok (.getfield 15, 3) := by decide +kernel
theorem dX3_gainUpTo_9 : decode cX3_gainUpTo 9 = .ok (.iload_n 2, 1) := by decide +kernel
theorem dX3_gainUpTo_10 : decode cX3_gainUpTo 10 = .ok (.iconst 1, 1) := by decide +kernel
theorem dX3_gainUpTo_11 : decode cX3_gainUpTo 11 = .ok (.iadd, 1) := by decide +kernel
theorem dX3_gainUpTo_12 : decode cX3_gainUpTo 12 = .ok (.iaload, 1) := by decide +kernel
theorem dX3_gainUpTo_13 : decode cX3_gainUpTo 13 = .ok (.aload_n 0, 1) := by decide +kernel
theorem dX3_gainUpTo_14 : decode cX3_gainUpTo 14 = .ok (.getfield 15, 3) := by decide +kernel
theorem dX3_gainUpTo_17 : decode cX3_gainUpTo 17 = .ok (.iload_n 2, 1) := by decide +kernel
theorem dX3_gainUpTo_18 : decode cX3_gainUpTo 18 = .ok (.iaload, 1) := by decide +kernel
theorem dX3_gainUpTo_19 : decode cX3_gainUpTo 19 = .ok (.isub, 1) := by decide +kernel
theorem dX3_gainUpTo_20 : decode cX3_gainUpTo 20 = .ok (.i2l, 1) := by decide +kernel
theorem dX3_gainUpTo_21 : decode cX3_gainUpTo 21 = .ok (.lstore_n 3, 1) := by decide +kernel
theorem dX3_gainUpTo_22 : decode cX3_gainUpTo 22 = .ok (.ldc2_w 45, 3) := by decide +kernel
theorem dX3_gainUpTo_25 : decode cX3_gainUpTo 25 = .ok (.aload_n 0, 1) := by decide +kernel
theorem dX3_gainUpTo_26 : decode cX3_gainUpTo 26 = .ok (.getfield 15, 3) := by decide +kernel
theorem dX3_gainUpTo_29 : decode cX3_gainUpTo 29 = .ok (.iload_n 2, 1) := by decide +kernel
theorem dX3_gainUpTo_30 : decode cX3_gainUpTo 30 = .ok (.iaload, 1) := by decide +kernel
theorem dX3_gainUpTo_31 : decode cX3_gainUpTo 31 = .ok (.i2l, 1) := by decide +kernel
theorem dX3_gainUpTo_32 : decode cX3_gainUpTo 32 = .ok (.lmul, 1) := by decide +kernel
theorem dX3_gainUpTo_33 : decode cX3_gainUpTo 33 = .ok (.iload_n 1, 1) := by decide +kernel
theorem dX3_gainUpTo_34 : decode cX3_gainUpTo 34 = .ok (.bipush 24, 2) := by decide +kernel
theorem dX3_gainUpTo_36 : decode cX3_gainUpTo 36 = .ok (.irem, 1) := by decide +kernel
theorem dX3_gainUpTo_37 : decode cX3_gainUpTo 37 = .ok (.i2l, 1) := by decide +kernel
theorem dX3_gainUpTo_38 : decode cX3_gainUpTo 38 = .ok (.lload_n 3, 1) := by decide +kernel
theorem dX3_gainUpTo_39 : decode cX3_gainUpTo 39 = .ok (.lmul, 1) := by decide +kernel
theorem dX3_gainUpTo_40 : decode cX3_gainUpTo 40 = .ok (.ladd, 1) := by decide +kernel
theorem dX3_gainUpTo_41 : decode cX3_gainUpTo 41 = .ok (.lreturn, 1) := by decide +kernel
