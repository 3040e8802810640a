theorem dX0_weighRow_0 : decode cX0_weighRow 0 = .ok (.aload_n 0, 1) := by decide +kernel
theorem dX0_weighRow_1 : decode cX0_weighRow 1 = .ok (.getfield 11, 3) := by decide +kernel
theorem dX0_weighRow_4 : decode cX0_weighRow 4 = .ok (.iload_n 1, 1) := by decide +kernel
theorem dX0_weighRow_5 : decode cX0_weighRow 5 = .ok (.aaload, 1) := by decide +kernel
theorem dX0_weighRow_6 : decode cX0_weighRow 6 = .ok (.astore_n 2, 1) := by decide +kernel
theorem dX0_weighRow_7 : decode cX0_weighRow 7 = .ok (.aload_n 2, 1) := by decide +kernel
theorem dX0_weighRow_8 : decode cX0_weighRow 8 = .ok (.iconst 1, 1) := by decide +kernel
theorem dX0_weighRow_9 : decode cX0_weighRow 9 = .ok (.iaload, 1) := by decide +kernel
theorem dX0_weighRow_10 : decode cX0_weighRow 10 = .ok (.iconst 2, 1) := by decide +kernel
theorem dX0_weighRow_11 : decode cX0_weighRow 11 = .ok (.if_icmp .ne 12, 3) := by decide +kernel
theorem dX0_weighRow_14 : decode cX0_weighRow 14 = .ok (.aload_n 2, 1) := by decide +kernel
theorem dX0_weighRow_15 : decode cX0_weighRow 15 = .ok (.iconst 2, 1) := by decide +kernel
theorem dX0_weighRow_16 : decode cX0_weighRow 16 = .ok (.iconst 1, 1) := by decide +kernel
theorem dX0_weighRow_17 : decode cX0_weighRow 17 = .ok (.iastore, 1) := by decide +kernel
theorem dX0_weighRow_18 : decode cX0_weighRow 18 = .ok (.aload_n 2, 1) := by decide +kernel
theorem dX0_weighRow_19 : decode cX0_weighRow 19 = .ok (.iconst 3, 1) := by decide +kernel
theorem dX0_weighRow_20 : decode cX0_weighRow 20 = .ok (.iconst 1, 1) := by decide +kernel
theorem dX0_weighRow_21 : decode cX0_weighRow 21 = .ok (.iastore, 1) := by decide +kernel
theorem dX0_weighRow_22 : decode cX0_weighRow 22 = .ok (.return_, 1) := by decide +kernel
theorem dX0_weighRow_23 : decode cX0_weighRow 23 = .ok (.aload_n 2, 1) := by decide +kernel
theorem dX0_weighRow_24 : decode cX0_weighRow 24 = .ok (.iconst 1, 1) := by decide +kernel
theorem dX0_weighRow_25 : decode cX0_weighRow 25 = .ok (.iaload, 1) := by decide +kernel
theorem dX0_weighRow_26 : decode cX0_weighRow 26 = .ok (.iconst 1, 1) := by decide +kernel
theorem dX0_weighRow_27 : decode cX0_weighRow 27 = .ok (.if_icmp .ne 8, 3) := by decide +kernel
theorem dX0_weighRow_30 : decode cX0_weighRow 30 = .ok (.bipush 22, 2) := by decide +kernel
theorem dX0_weighRow_32 : decode cX0_weighRow 32 = .ok (.goto 5, 3) := by decide +kernel
theorem dX0_weighRow_35 : decode cX0_weighRow 35 = .ok (.bipush 21, 2) := by decide +kernel
theorem dX0_weighRow_37 : decode cX0_weighRow 37 = .ok (.istore_n 3, 1) := by decide +kernel
theorem dX0_weighRow_38 : decode cX0_weighRow 38 = .ok (.aload_n 2, 1) := by decide +kernel
theorem dX0_weighRow_39 : decode cX0_weighRow 39 = .ok (.iconst 2, 1) := by decide +kernel
theorem dX0_weighRow_40 : decode cX0_weighRow 40 = .ok (.aload_n 2, 1) := by decide +kernel
theorem dX0_weighRow_41 : decode cX0_weighRow 41 = .ok (.iconst 0, 1) := by decide +kernel
theorem dX0_weighRow_42 : decode cX0_weighRow 42 = .ok (.iaload, 1) := by decide +kernel
theorem dX0_weighRow_43 : decode cX0_weighRow 43 = .ok (.aload_n 2, 1) := by decide +kernel
theorem dX0_weighRow_44 : decode cX0_weighRow 44 = .ok (.iload_n 3, 1) := by decide +kernel
theorem dX0_weighRow_45 : decode cX0_weighRow 45 = .ok (.iaload, 1) := by decide +kernel
theorem dX0_weighRow_46 : decode cX0_weighRow 46 = .ok (.imul, 1) := by decide +kernel
theorem dX0_weighRow_47 : decode cX0_weighRow 47 = .ok (.iastore, 1) := by decide +kernel
theorem dX0_weighRow_48 : decode cX0_weighRow 48 = .ok (.aload_n 2, 1) := by decide +kernel
theorem dX0_weighRow_49 : decode cX0_weighRow 49 = .ok (.iconst 2, 1) := by decide +kernel
theorem dX0_weighRow_50 : decode cX0_weighRow 50 = .ok (.iaload, 1) := by decide +kernel
theorem dX0_weighRow_51 : decode cX0_weighRow 51 = .ok (.istore 4, 2) := by decide +kernel
theorem dX0_weighRow_53 : decode cX0_weighRow 53 = .ok (.iconst 0, 1) := by decide +kernel
theorem dX0_weighRow_54 : decode cX0_weighRow 54 = .ok (.istore 5, 2) := by decide +kernel
theorem dX0_weighRow_56 : decode cX0_weighRow 56 = .ok (.iload 5, 2) := by decide +kernel
theorem dX0_weighRow_58 : decode cX0_weighRow 58 = .ok (.iconst 4, 1) := by decide +kernel
theorem dX0_weighRow_59 : decode cX0_weighRow 59 = .ok (.if_icmp .ge 31, 3) := by decide +kernel
theorem dX0_weighRow_62 : decode cX0_weighRow 62 = .ok (.iload 4, 2) := by decide +kernel
theorem dX0_weighRow_64 : decode cX0_weighRow 64 = .ok (.aload_n 2, 1) := by decide +kernel
theorem dX0_weighRow_65 : decode cX0_weighRow 65 = .ok (.bipush 8, 2) := by decide +kernel
theorem dX0_weighRow_67 : decode cX0_weighRow 67 = .ok (.iload 5, 2) := by decide +kernel
theorem dX0_weighRow_69 : decode cX0_weighRow 69 = .ok (.iadd, 1) := by decide +kernel
theorem dX0_weighRow_70 : decode cX0_weighRow 70 = .ok (.iaload, 1) := by decide +kernel
theorem dX0_weighRow_71 : decode cX0_weighRow 71 = .ok (.aload_n 0, 1) := by decide +kernel
theorem dX0_weighRow_72 : decode cX0_weighRow 72 = .ok (.getfield 11, 3) := by decide +kernel
theorem dX0_weighRow_75 : decode cX0_weighRow 75 = .ok (.iload 5, 2) := by decide +kernel
theorem dX0_weighRow_77 : decode cX0_weighRow 77 = .ok (.aaload, 1) := by decide +kernel
theorem dX0_weighRow_78 : decode cX0_weighRow 78 = .ok (.iload_n 3, 1) := by decide +kernel
theorem dX0_weighRow_79 : decode cX0_weighRow 79 = .ok (.iaload, 1) := by decide +kernel
theorem dX0_weighRow_80 : decode cX0_weighRow 80 = .ok (.imul, 1) := by decide +kernel
theorem dX0_weighRow_81 : decode cX0_weighRow 81 = .ok (.iadd, 1) := by decide +kernel
theorem dX0_weighRow_82 : decode cX0_weighRow 82 = .ok (.istore 4, 2) := by decide +kernel
theorem dX0_weighRow_84 : decode cX0_weighRow 84 = .ok (.iinc 5 1, 3) := by decide +kernel
theorem dX0_weighRow_87 : decode cX0_weighRow 87 = .ok (.goto (-31), 3) := by decide +kernel
theorem dX0_weighRow_90 : decode cX0_weighRow 90 = .ok (.aload_n 2, 1) := by decide +kernel
theorem dX0_weighRow_91 : decode cX0_weighRow 91 = .ok (.iconst 3, 1) := by decide +kernel
theorem dX0_weighRow_92 : decode cX0_weighRow 92 = .ok (.iload 4, 2) := by decide +kernel
theorem dX0_weighRow_94 : decode cX0_weighRow 94 = .ok (.iastore, 1) := by decide +kernel
theorem dX0_weighRow_95 : decode cX0_weighRow 95 = .ok (.return_, 1) := by decide +kernel
theorem dX0_change_0 : decode cX0_change 0 = .ok (.aload_n 0, 1) := by decide +kernel
theorem dX0_change_1 : decode cX0_change 1 = .ok (.getfield 11, 3) := by decide +kernel
theorem dX0_change_4 : decode cX0_change 4 = .ok (.iload_n 1, 1) := by decide +kernel
theorem dX0_change_5 : decode cX0_change 5 = .ok (.aaload, 1) := by decide +kernel
theorem dX0_change_6 : decode cX0_change 6 = .ok (.iload_n 2, 1) := by decide +kernel
theorem dX0_change_7 : decode cX0_change 7 = .ok (.iaload, 1) := by decide +kernel
theorem dX0_change_8 : decode cX0_change 8 = .ok (.istore 4, 2) := by decide +kernel
theorem dX0_change_10 : decode cX0_change 10 = .ok (.aload_n 0, 1) := by decide +kernel
theorem dX0_change_11 : decode cX0_change 11 = .ok (.getfield 11, 3) := by decide +kernel
theorem dX0_change_14 : decode cX0_change 14 = .ok (.iload_n 1, 1) := by decide +kernel
theorem dX0_change_15 : decode cX0_change 15 = .ok (.aaload, 1) := by decide +kernel
theorem dX0_change_16 : decode cX0_change 16 = .ok (.iload_n 2, 1) := by decide +kernel
theorem dX0_change_17 : decode cX0_change 17 = .ok (.iload_n 3, 1) := by decide +kernel
theorem dX0_change_18 : decode cX0_change 18 = .ok (.iastore, 1) := by decide +kernel
theorem dX0_change_19 : decode cX0_change 19 = .ok (.iconst 0, 1) := by decide +kernel
theorem dX0_change_20 : decode cX0_change 20 = .ok (.istore 5, 2) := by decide +kernel
theorem dX0_change_22 : decode cX0_change 22 = .ok (.iload 5, 2) := by decide +kernel
theorem dX0_change_24 : decode cX0_change 24 = .ok (.iconst 4, 1) := by decide +kernel
theorem dX0_change_25 : decode cX0_change 25 = .ok (.if_icmp .ge 15, 3) := by decide +kernel
theorem dX0_change_28 : decode cX0_change 28 = .ok (.aload_n 0, 1) := by decide +kernel
theorem dX0_change_29 : decode cX0_change 29 = .ok (.iload 5, 2) := by decide +kernel
theorem dX0_change_31 : decode cX0_change 31 = .ok (.invokevirtual 16, 3) := by decide +kernel
theorem dX0_change_34 : decode cX0_change 34 = .ok (.iinc 5 1, 3) := by decide +kernel
theorem dX0_change_37 : decode cX0_change 37 = .ok (.goto (-15), 3) := by decide +kernel
theorem dX0_change_40 : decode cX0_change 40 = .ok (.iload 4, 2) := by decide +kernel
theorem dX0_change_42 : decode cX0_change 42 = .ok (.ireturn, 1) := by decide +kernel
theorem dX0_copyRows_0 : decode cX0_copyRows 0 = .ok (.iload_n 2, 1) := by decide +kernel
theorem dX0_copyRows_1 : decode cX0_copyRows 1 = .ok (.istore 4, 2) := by decide +kernel
theorem dX0_copyRows_3 : decode cX0_copyRows 3 = .ok (.iload 4, 2) := by decide +kernel
theorem dX0_copyRows_5 : decode cX0_copyRows 5 = .ok (.iload_n 3, 1) := by decide +kernel
theorem dX0_copyRows_6 : decode cX0_copyRows 6 = .ok (.if_icmp .ge 36, 3) := by decide +kernel
theorem dX0_copyRows_9 : decode cX0_copyRows 9 = .ok (.iload 4, 2) := by decide +kernel
theorem dX0_copyRows_11 : decode cX0_copyRows 11 = .ok (.iconst 4, 1) := by decide +kernel
theorem dX0_copyRows_12 : decode cX0_copyRows 12 = .ok (.if_icmp .ge 30, 3) := by decide +kernel
theorem dX0_copyRows_15 : decode cX0_copyRows 15 = .ok (.aload_n 1, 1) := by decide +kernel
theorem dX0_copyRows_16 : decode cX0_copyRows 16 = .ok (.getfield 11, 3) := by decide +kernel
theorem dX0_copyRows_19 : decode cX0_copyRows 19 = .ok (.iload 4, 2) := by decide +kernel
theorem dX0_copyRows_21 : decode cX0_copyRows 21 = .ok (.aaload, 1) := by decide +kernel
theorem dX0_copyRows_22 : decode cX0_copyRows 22 = .ok (.iconst 0, 1) := by decide +kernel
theorem dX0_copyRows_23 : decode cX0_copyRows 23 = .ok (.aload_n 0, 1) := by decide +kernel
theorem dX0_copyRows_24 : decode cX0_copyRows 24 = .ok (.getfield 11, 3) := by decide +kernel
theorem dX0_copyRows_27 : decode cX0_copyRows 27 = .ok (.iload 4, 2) := by decide +kernel
theorem dX0_copyRows_29 : decode cX0_copyRows 29 = .ok (.aaload, 1) := by decide +kernel
theorem dX0_copyRows_30 : decode cX0_copyRows 30 = .ok (.iconst 0, 1) := by decide +kernel
theorem dX0_copyRows_31 : decode cX0_copyRows 31 = .ok (.bipush 23, 2) := by decide +kernel
theorem dX0_copyRows_33 : decode cX0_copyRows 33 = .ok (.invokestatic 20, 3) := by decide +kernel
theorem dX0_copyRows_36 : decode cX0_copyRows 36 = .ok (.iinc 4 1, 3) := by decide +kernel
theorem dX0_copyRows_39 : decode cX0_copyRows 39 = .ok (.goto (-36), 3) := by decide +kernel
theorem dX0_copyRows_42 : decode cX0_copyRows 42 = .ok (.return_, 1) := by decide +kernel
theorem dX0_tableCell_0 : decode cX0_tableCell 0 = .ok (.aload_n 0, 1) := by decide +kernel
theorem dX0_tableCell_1 : decode cX0_tableCell 1 = .ok (.getfield 11, 3) := by decide +kernel
theorem dX0_tableCell_4 : decode cX0_tableCell 4 = .ok (.iload_n 2, 1) := by decide +kernel
theorem dX0_tableCell_5 : decode cX0_tableCell 5 = .ok (.aaload, 1) := by decide +kernel
theorem dX0_tableCell_6 : decode cX0_tableCell 6 = .ok (.astore_n 3, 1) := by decide +kernel
theorem dX0_tableCell_7 : decode cX0_tableCell 7 = .ok (.iload_n 2, 1) := by decide +kernel
theorem dX0_tableCell_8 : decode cX0_tableCell 8 = .ok (.iload_n 1, 1) := by decide +kernel
theorem dX0_tableCell_9 : decode cX0_tableCell 9 = .ok (.if_icmp .ne 9, 3) := by decide +kernel
theorem dX0_tableCell_12 : decode cX0_tableCell 12 = .ok (.aload_n 3, 1) := by decide +kernel
theorem dX0_tableCell_13 : decode cX0_tableCell 13 = .ok (.iconst 0, 1) := by decide +kernel
theorem dX0_tableCell_14 : decode cX0_tableCell 14 = .ok (.iaload, 1) := by decide +kernel
theorem dX0_tableCell_15 : decode cX0_tableCell 15 = .ok (.goto 4, 3) := by decide +kernel
theorem dX0_tableCell_18 : decode cX0_tableCell 18 = .ok (.iconst 0, 1) := by decide +kernel
theorem dX0_tableCell_19 : decode cX0_tableCell 19 = .ok (.istore 4, 2) := by decide +kernel
theorem dX0_tableCell_21 : decode cX0_tableCell 21 = .ok (.aload_n 3, 1) := by decide +kernel
theorem dX0_tableCell_22 : decode cX0_tableCell 22 = .ok (.iconst 4, 1) := by decide +kernel
theorem dX0_tableCell_23 : decode cX0_tableCell 23 = .ok (.iload_n 1, 1) := by decide +kernel
theorem dX0_tableCell_24 : decode cX0_tableCell 24 = .ok (.iadd, 1) := by decide +kernel
theorem dX0_tableCell_25 : decode cX0_tableCell 25 = .ok (.iaload, 1) := by decide +kernel
theorem dX0_tableCell_26 : decode cX0_tableCell 26 = .ok (.istore 5, 2) := by decide +kernel
theorem dX0_tableCell_28 : decode cX0_tableCell 28 = .ok (.aload_n 3, 1) := by decide +kernel
theorem dX0_tableCell_29 : decode cX0_tableCell 29 = .ok (.iconst 1, 1) := by decide +kernel
theorem dX0_tableCell_30 : decode cX0_tableCell 30 = .ok (.iaload, 1) := by decide +kernel
theorem dX0_tableCell_31 : decode cX0_tableCell 31 = .ok (.iconst 2, 1) := by decide +kernel
theorem dX0_tableCell_32 : decode cX0_tableCell 32 = .ok (.if_icmp .ne 16, 3) := by decide +kernel
theorem dX0_tableCell_35 : decode cX0_tableCell 35 = .ok (.iload 4, 2) := by decide +kernel
theorem dX0_tableCell_37 : decode cX0_tableCell 37 = .ok (.aload_n 3, 1) := by decide +kernel
theorem dX0_tableCell_38 : decode cX0_tableCell 38 = .ok (.bipush 8, 2) := by decide +kernel
theorem dX0_tableCell_40 : decode cX0_tableCell 40 = .ok (.iload_n 1, 1) := by decide +kernel
theorem dX0_tableCell_41 : decode cX0_tableCell 41 = .ok (.iadd, 1) := by decide +kernel
theorem dX0_tableCell_42 : decode cX0_tableCell 42 = .ok (.iaload, 1) := by decide +kernel
theorem dX0_tableCell_43 : decode cX0_tableCell 43 = .ok (.iadd, 1) := by decide +kernel
theorem dX0_tableCell_44 : decode cX0_tableCell 44 = .ok (.iload 5, 2) := by decide +kernel
theorem dX0_tableCell_46 : decode cX0_tableCell 46 = .ok (.isub, 1) := by decide +kernel
theorem dX0_tableCell_47 : decode cX0_tableCell 47 = .ok (.ireturn, 1) := by decide +kernel
theorem dX0_tableCell_48 : decode cX0_tableCell 48 = .ok (.iload 4, 2) := by decide +kernel
theorem dX0_tableCell_50 : decode cX0_tableCell 50 = .ok (.aload_n 3, 1) := by decide +kernel
theorem dX0_tableCell_51 : decode cX0_tableCell 51 = .ok (.iconst 3, 1) := by decide +kernel
theorem dX0_tableCell_52 : decode cX0_tableCell 52 = .ok (.iaload, 1) := by decide +kernel
theorem dX0_tableCell_53 : decode cX0_tableCell 53 = .ok (.imul, 1) := by decide +kernel
theorem dX0_tableCell_54 : decode cX0_tableCell 54 = .ok (.iload 5, 2) := by decide +kernel
theorem dX0_tableCell_56 : decode cX0_tableCell 56 = .ok (.aload_n 3, 1) := by decide +kernel
theorem dX0_tableCell_57 : decode cX0_tableCell 57 = .ok (.iconst 2, 1) := by decide +kernel
theorem dX0_tableCell_58 : decode cX0_tableCell 58 = .ok (.iaload, 1) := by decide +kernel
theorem dX0_tableCell_59 : decode cX0_tableCell 59 = .ok (.imul, 1) := by decide +kernel
theorem dX0_tableCell_60 : decode cX0_tableCell 60 = .ok (.isub, 1) := by decide +kernel
theorem dX0_tableCell_61 : decode cX0_tableCell 61 = .ok (.ireturn, 1) := by decide +kernel
theorem dX2_placeOfEmits_0 : decode cX2_placeOfEmits 0 = .ok (.bipush 12, 2) := by decide +kernel
theorem dX2_placeOfEmits_2 : decode cX2_placeOfEmits 2 = .ok (.iconst 3, 1) := by decide +kernel
theorem dX2_placeOfEmits_3 : decode cX2_placeOfEmits 3 = .ok (.iload_n 1, 1) := by decide +kernel
theorem dX2_placeOfEmits_4 : decode cX2_placeOfEmits 4 = .ok (.imul, 1) := by decide +kernel
theorem dX2_placeOfEmits_5 : decode cX2_placeOfEmits 5 = .ok (.iadd, 1) := by decide +kernel
theorem dX2_placeOfEmits_6 : decode cX2_placeOfEmits 6 = .ok (.iload_n 0, 1) := by decide +kernel
theorem dX2_placeOfEmits_7 : decode cX2_placeOfEmits 7 = .ok (.iadd, 1) := by decide +kernel
theorem dX2_placeOfEmits_8 : decode cX2_placeOfEmits 8 = .ok (.ireturn, 1) := by decide +kernel
theorem dX0_emission_0 : decode cX0_emission 0 = .ok (.aload_n 0, 1) := by decide +kernel
theorem dX0_emission_1 : decode cX0_emission 1 = .ok (.getfield 11, 3) := by decide +kernel
theorem dX0_emission_4 : decode cX0_emission 4 = .ok (.iload_n 1, 1) := by decide +kernel
theorem dX0_emission_5 : decode cX0_emission 5 = .ok (.aaload, 1) := by decide +kernel
theorem dX0_emission_6 : decode cX0_emission 6 = .ok (.iload_n 2, 1) := by decide +kernel
theorem dX0_emission_7 : decode cX0_emission 7 = .ok (.iload_n 3, 1) := by decide +kernel
theorem dX0_emission_8 : decode cX0_emission 8 = .ok (.invokestatic 26, 3) := by decide +kernel
theorem dX0_emission_11 : decode cX0_emission 11 = .ok (.iaload, 1) := by decide +kernel
theorem dX0_emission_12 : decode cX0_emission 12 = .ok (.aload_n 0, 1) := by decide +kernel
theorem dX0_emission_13 : decode cX0_emission 13 = .ok (.getfield 11, 3) := by decide +kernel
theorem dX0_emission_16 : decode cX0_emission 16 = .ok (.iload_n 1, 1) := by decide +kernel
theorem dX0_emission_17 : decode cX0_emission 17 = .ok (.aaload, 1) := by decide +kernel
theorem dX0_emission_18 : decode cX0_emission 18 = .ok (.iconst 2, 1) := by decide +kernel
theorem dX0_emission_19 : decode cX0_emission 19 = .ok (.iaload, 1) := by decide +kernel
theorem dX0_emission_20 : decode cX0_emission 20 = .ok (.imul, 1) := by decide +kernel
theorem dX0_emission_21 : decode cX0_emission 21 = .ok (.i2l, 1) := by decide +kernel
theorem dX0_emission_22 : decode cX0_emission 22 = .ok (.lreturn, 1) := by decide +kernel
theorem dX0_hasByProducts_0 : decode cX0_hasByProducts 0 = .ok (.iconst 0, 1) := by decide +kernel
theorem dX0_hasByProducts_1 : decode cX0_hasByProducts 1 = .ok (.istore_n 2, 1) := by decide +kernel
theorem dX0_hasByProducts_2 : decode cX0_hasByProducts 2 = .ok (.iload_n 2, 1) := by decide +kernel
theorem dX0_hasByProducts_3 : decode cX0_hasByProducts 3 = .ok (.iconst 4, 1) := by decide +kernel
theorem dX0_hasByProducts_4 : decode cX0_hasByProducts 4 = .ok (.if_icmp .ge 25, 3) := by decide +kernel
theorem dX0_hasByProducts_7 : decode cX0_hasByProducts 7 = .ok (.aload_n 0, 1) := by decide +kernel
theorem dX0_hasByProducts_8 : decode cX0_hasByProducts 8 = .ok (.getfield 11, 3) := by decide +kernel
theorem dX0_hasByProducts_11 : decode cX0_hasByProducts 11 = .ok (.iload_n 1, 1) := by decide +kernel
theorem dX0_hasByProducts_12 : decode cX0_hasByProducts 12 = .ok (.aaload, 1) := by decide +kernel
theorem dX0_hasByProducts_13 : decode cX0_hasByProducts 13 = .ok (.bipush 8, 2) := by decide +kernel
theorem dX0_hasByProducts_15 : decode cX0_hasByProducts 15 = .ok (.iload_n 2, 1) := by decide +kernel
theorem dX0_hasByProducts_16 : decode cX0_hasByProducts 16 = .ok (.iadd, 1) := by decide +kernel
theorem dX0_hasByProducts_17 : decode cX0_hasByProducts 17 = .ok (.iaload, 1) := by decide +kernel
theorem dX0_hasByProducts_18 : decode cX0_hasByProducts 18 = .ok (.ifCond .le 5, 3) := by decide +kernel
theorem dX0_hasByProducts_21 : decode cX0_hasByProducts 21 = .ok (.iconst 1, 1) := by decide +kernel
theorem dX0_hasByProducts_22 : decode cX0_hasByProducts 22 = .ok (.ireturn, 1) := by decide +kernel
theorem dX0_hasByProducts_23 : decode cX0_hasByProducts 23 = .ok (.iinc 2 1, 3) := by decide +kernel
theorem dX0_hasByProducts_26 : decode cX0_hasByProducts 26 = .ok (.goto (-24), 3) := by decide +kernel
theorem dX0_hasByProducts_29 : decode cX0_hasByProducts 29 = .ok (.iconst 0, 1) := by decide +kernel
theorem dX0_hasByProducts_30 : decode cX0_hasByProducts 30 = .ok (.ireturn, 1) := by decide +kernel
theorem dJ9_min_7cf53_0 : decode cJ9_min_7cf53 0 = .ok (.iload_n 0, 1) := by decide +kernel
theorem dJ9_min_7cf53_1 : decode cJ9_min_7cf53 1 = .ok (.iload_n 1, 1) := by decide +kernel
theorem dJ9_min_7cf53_2 : decode cJ9_min_7cf53 2 = .ok (.if_icmp .gt 7, 3) := by decide +kernel
theorem dJ9_min_7cf53_5 : decode cJ9_min_7cf53 5 = .ok (.iload_n 0, 1) := by decide +kernel
theorem dJ9_min_7cf53_6 : decode cJ9_min_7cf53 6 = .ok (.goto 4, 3) := by decide +kernel
theorem dJ9_min_7cf53_9 : decode cJ9_min_7cf53 9 = .ok (.iload_n 1, 1) := by decide +kernel
theorem dJ9_min_7cf53_10 : decode cJ9_min_7cf53 10 = .ok (.ireturn, 1) := by decide +kernel
theorem dJ6_bitCount_0f7a4_0 : decode cJ6_bitCount_0f7a4 0 = .ok (.iload_n 0, 1) := by decide +kernel
theorem dJ6_bitCount_0f7a4_1 : decode cJ6_bitCount_0f7a4 1 = .ok (.iload_n 0, 1) := by decide +kernel
theorem dJ6_bitCount_0f7a4_2 : decode cJ6_bitCount_0f7a4 2 = .ok (.iconst 1, 1) := by decide +kernel
theorem dJ6_bitCount_0f7a4_3 : decode cJ6_bitCount_0f7a4 3 = .ok (.iushr, 1) := by decide +kernel
theorem dJ6_bitCount_0f7a4_4 : decode cJ6_bitCount_0f7a4 4 = .ok (.ldc_w 265, 3) := by decide +kernel
theorem dJ6_bitCount_0f7a4_7 : decode cJ6_bitCount_0f7a4 7 = .ok (.iand, 1) := by decide +kernel
theorem dJ6_bitCount_0f7a4_8 : decode cJ6_bitCount_0f7a4 8 = .ok (.isub, 1) := by decide +kernel
theorem dJ6_bitCount_0f7a4_9 : decode cJ6_bitCount_0f7a4 9 = .ok (.istore_n 0, 1) := by decide +kernel
theorem dJ6_bitCount_0f7a4_10 : decode cJ6_bitCount_0f7a4 10 = .ok (.iload_n 0, 1) := by decide +kernel
theorem dJ6_bitCount_0f7a4_11 : decode cJ6_bitCount_0f7a4 11 = .ok (.ldc_w 266, 3) := by decide +kernel
theorem dJ6_bitCount_0f7a4_14 : decode cJ6_bitCount_0f7a4 14 = .ok (.iand, 1) := by decide +kernel
theorem dJ6_bitCount_0f7a4_15 : decode cJ6_bitCount_0f7a4 15 = .ok (.iload_n 0, 1) := by decide +kernel
theorem dJ6_bitCount_0f7a4_16 : decode cJ6_bitCount_0f7a4 16 = .ok (.iconst 2, 1) := by decide +kernel
theorem dJ6_bitCount_0f7a4_17 : decode cJ6_bitCount_0f7a4 17 = .ok (.iushr, 1) := by decide +kernel
theorem dJ6_bitCount_0f7a4_18 : decode cJ6_bitCount_0f7a4 18 = .ok (.ldc_w 266, 3) := by decide +kernel
theorem dJ6_bitCount_0f7a4_21 : decode cJ6_bitCount_0f7a4 21 = .ok (.iand, 1) := by decide +kernel
theorem dJ6_bitCount_0f7a4_22 : decode cJ6_bitCount_0f7a4 22 = .ok (.iadd, 1) := by decide +kernel
theorem dJ6_bitCount_0f7a4_23 : decode cJ6_bitCount_0f7a4 23 = .ok (.istore_n 0, 1) := by decide +kernel
theorem dJ6_bitCount_0f7a4_24 : decode cJ6_bitCount_0f7a4 24 = .ok (.iload_n 0, 1) := by decide +kernel
theorem dJ6_bitCount_0f7a4_25 : decode cJ6_bitCount_0f7a4 25 = .ok (.iload_n 0, 1) := by decide +kernel
theorem dJ6_bitCount_0f7a4_26 : decode cJ6_bitCount_0f7a4 26 = .ok (.iconst 4, 1) := by decide +kernel
theorem dJ6_bitCount_0f7a4_27 : decode cJ6_bitCount_0f7a4 27 = .ok (.iushr, 1) := by decide +kernel
theorem dJ6_bitCount_0f7a4_28 : decode cJ6_bitCount_0f7a4 28 = .ok (.iadd, 1) := by decide +kernel
theorem dJ6_bitCount_0f7a4_29 : decode cJ6_bitCount_0f7a4 29 = .ok (.ldc_w 267, 3) := by decide +kernel
theorem dJ6_bitCount_0f7a4_32 : decode cJ6_bitCount_0f7a4 32 = .ok (.iand, 1) := by decide +kernel
theorem dJ6_bitCount_0f7a4_33 : decode cJ6_bitCount_0f7a4 33 = .ok (.istore_n 0, 1) := by decide +kernel
theorem dJ6_bitCount_0f7a4_34 : decode cJ6_bitCount_0f7a4 34 = .ok (.iload_n 0, 1) := by decide +kernel
theorem dJ6_bitCount_0f7a4_35 : decode cJ6_bitCount_0f7a4 35 = .ok (.iload_n 0, 1) := by decide +kernel
theorem dJ6_bitCount_0f7a4_36 : decode cJ6_bitCount_0f7a4 36 = .ok (.bipush 8, 2) := by decide +kernel
theorem dJ6_bitCount_0f7a4_38 : decode cJ6_bitCount_0f7a4 38 = .ok (.iushr, 1) := by decide +kernel
theorem dJ6_bitCount_0f7a4_39 : decode cJ6_bitCount_0f7a4 39 = .ok (.iadd, 1) := by decide +kernel
theorem dJ6_bitCount_0f7a4_40 : decode cJ6_bitCount_0f7a4 40 = .ok (.istore_n 0, 1) := by decide +kernel
theorem dJ6_bitCount_0f7a4_41 : decode cJ6_bitCount_0f7a4 41 = .ok (.iload_n 0, 1) := by decide +kernel
theorem dJ6_bitCount_0f7a4_42 : decode cJ6_bitCount_0f7a4 42 = .ok (.iload_n 0, 1) := by decide +kernel
theorem dJ6_bitCount_0f7a4_43 : decode cJ6_bitCount_0f7a4 43 = .ok (.bipush 16, 2) := by decide +kernel
theorem dJ6_bitCount_0f7a4_45 : decode cJ6_bitCount_0f7a4 45 = .ok (.iushr, 1) := by decide +kernel
theorem dJ6_bitCount_0f7a4_46 : decode cJ6_bitCount_0f7a4 46 = .ok (.iadd, 1) := by decide +kernel
theorem dJ6_bitCount_0f7a4_47 : decode cJ6_bitCount_0f7a4 47 = .ok (.istore_n 0, 1) := by decide +kernel
theorem dJ6_bitCount_0f7a4_48 : decode cJ6_bitCount_0f7a4 48 = .ok (.iload_n 0, 1) := by decide +kernel
theorem dJ6_bitCount_0f7a4_49 : decode cJ6_bitCount_0f7a4 49 = .ok (.bipush 63, 2) := by decide +kernel
theorem dJ6_bitCount_0f7a4_51 : decode cJ6_bitCount_0f7a4 51 = .ok (.iand, 1) := by decide +kernel
theorem dJ6_bitCount_0f7a4_52 : decode cJ6_bitCount_0f7a4 52 = .ok (.ireturn, 1) := by decide +kernel
theorem dX1_minorOf_0 : decode cX1_minorOf 0 = .ok (.iload_n 1, 1) := by decide +kernel
theorem dX1_minorOf_1 : decode cX1_minorOf 1 = .ok (.invokestatic 76, 3) := by decide +kernel
theorem dX1_minorOf_4 : decode cX1_minorOf 4 = .ok (.iconst 1, 1) := by decide +kernel
theorem dX1_minorOf_5 : decode cX1_minorOf 5 = .ok (.isub, 1) := by decide +kernel
theorem dX1_minorOf_6 : decode cX1_minorOf 6 = .ok (.istore_n 2, 1) := by decide +kernel
theorem dX1_minorOf_7 : decode cX1_minorOf 7 = .ok (.lconst 0, 1) := by decide +kernel
theorem dX1_minorOf_8 : decode cX1_minorOf 8 = .ok (.lstore_n 3, 1) := by decide +kernel
theorem dX1_minorOf_9 : decode cX1_minorOf 9 = .ok (.iconst 0, 1) := by decide +kernel
theorem dX1_minorOf_10 : decode cX1_minorOf 10 = .ok (.istore 5, 2) := by decide +kernel
theorem dX1_minorOf_12 : decode cX1_minorOf 12 = .ok (.iload 5, 2) := by decide +kernel
theorem dX1_minorOf_14 : decode cX1_minorOf 14 = .ok (.aload_n 0, 1) := by decide +kernel
theorem dX1_minorOf_15 : decode cX1_minorOf 15 = .ok (.getfield 33, 3) := by decide +kernel
theorem dX1_minorOf_18 : decode cX1_minorOf 18 = .ok (.if_icmp .ge 79, 3) := by decide +kernel
theorem dX1_minorOf_21 : decode cX1_minorOf 21 = .ok (.iload_n 1, 1) := by decide +kernel
theorem dX1_minorOf_22 : decode cX1_minorOf 22 = .ok (.iload 5, 2) := by decide +kernel
theorem dX1_minorOf_24 : decode cX1_minorOf 24 = .ok (.ishr, 1) := by decide +kernel
theorem dX1_minorOf_25 : decode cX1_minorOf 25 = .ok (.iconst 1, 1) := by decide +kernel
theorem dX1_minorOf_26 : decode cX1_minorOf 26 = .ok (.iand, 1) := by decide +kernel
theorem dX1_minorOf_27 : decode cX1_minorOf 27 = .ok (.iconst 1, 1) := by decide +kernel
theorem dX1_minorOf_28 : decode cX1_minorOf 28 = .ok (.if_icmp .ne 63, 3) := by decide +kernel
theorem dX1_minorOf_31 : decode cX1_minorOf 31 = .ok (.aload_n 0, 1) := by decide +kernel
theorem dX1_minorOf_32 : decode cX1_minorOf 32 = .ok (.getfield 24, 3) := by decide +kernel
theorem dX1_minorOf_35 : decode cX1_minorOf 35 = .ok (.iload_n 2, 1) := by decide +kernel
theorem dX1_minorOf_36 : decode cX1_minorOf 36 = .ok (.aaload, 1) := by decide +kernel
theorem dX1_minorOf_37 : decode cX1_minorOf 37 = .ok (.iload 5, 2) := by decide +kernel
theorem dX1_minorOf_39 : decode cX1_minorOf 39 = .ok (.laload, 1) := by decide +kernel
theorem dX1_minorOf_40 : decode cX1_minorOf 40 = .ok (.aload_n 0, 1) := by decide +kernel
theorem dX1_minorOf_41 : decode cX1_minorOf 41 = .ok (.getfield 30, 3) := by decide +kernel
theorem dX1_minorOf_44 : decode cX1_minorOf 44 = .ok (.iload_n 1, 1) := by decide +kernel
theorem dX1_minorOf_45 : decode cX1_minorOf 45 = .ok (.iconst 1, 1) := by decide +kernel
theorem dX1_minorOf_46 : decode cX1_minorOf 46 = .ok (.iload 5, 2) := by decide +kernel
theorem dX1_minorOf_48 : decode cX1_minorOf 48 = .ok (.ishl, 1) := by decide +kernel
theorem dX1_minorOf_49 : decode cX1_minorOf 49 = .ok (.isub, 1) := by decide +kernel
theorem dX1_minorOf_50 : decode cX1_minorOf 50 = .ok (.laload, 1) := by decide +kernel
theorem dX1_minorOf_51 : decode cX1_minorOf 51 = .ok (.lmul, 1) := by decide +kernel
theorem dX1_minorOf_52 : decode cX1_minorOf 52 = .ok (.lstore 6, 2) := by decide +kernel
theorem dX1_minorOf_54 : decode cX1_minorOf 54 = .ok (.iload_n 1, 1) := by decide +kernel
theorem dX1_minorOf_55 : decode cX1_minorOf 55 = .ok (.iload 5, 2) := by decide +kernel
theorem dX1_minorOf_57 : decode cX1_minorOf 57 = .ok (.iconst 1, 1) := by decide +kernel
theorem dX1_minorOf_58 : decode cX1_minorOf 58 = .ok (.iadd, 1) := by decide +kernel
theorem dX1_minorOf_59 : decode cX1_minorOf 59 = .ok (.ishr, 1) := by decide +kernel
theorem dX1_minorOf_60 : decode cX1_minorOf 60 = .ok (.invokestatic 76, 3) := by decide +kernel
theorem dX1_minorOf_63 : decode cX1_minorOf 63 = .ok (.iconst 1, 1) := by decide +kernel
theorem dX1_minorOf_64 : decode cX1_minorOf 64 = .ok (.iand, 1) := by decide +kernel
theorem dX1_minorOf_65 : decode cX1_minorOf 65 = .ok (.ifCond .ne 7, 3) := by decide +kernel
theorem dX1_minorOf_68 : decode cX1_minorOf 68 = .ok (.iconst 1, 1) := by decide +kernel
theorem dX1_minorOf_69 : decode cX1_minorOf 69 = .ok (.goto 4, 3) := by decide +kernel
theorem dX1_minorOf_72 : decode cX1_minorOf 72 = .ok (.iconst 0, 1) := by decide +kernel
theorem dX1_minorOf_73 : decode cX1_minorOf 73 = .ok (.istore 8, 2) := by decide +kernel
theorem dX1_minorOf_75 : decode cX1_minorOf 75 = .ok (.lload_n 3, 1) := by decide +kernel
theorem dX1_minorOf_76 : decode cX1_minorOf 76 = .ok (.iload 8, 2) := by decide +kernel
theorem dX1_minorOf_78 : decode cX1_minorOf 78 = .ok (.ifCond .eq 8, 3) := by decide +kernel
theorem dX1_minorOf_81 : decode cX1_minorOf 81 = .ok (.lload 6, 2) := by decide +kernel
theorem dX1_minorOf_83 : decode cX1_minorOf 83 = .ok (.goto 6, 3) := by decide +kernel
theorem dX1_minorOf_86 : decode cX1_minorOf 86 = .ok (.lload 6, 2) := by decide +kernel
theorem dX1_minorOf_88 : decode cX1_minorOf 88 = .ok (.lneg, 1) := by decide +kernel
theorem dX1_minorOf_89 : decode cX1_minorOf 89 = .ok (.ladd, 1) := by decide +kernel
theorem dX1_minorOf_90 : decode cX1_minorOf 90 = .ok (.lstore_n 3, 1) := by decide +kernel
theorem dX1_minorOf_91 : decode cX1_minorOf 91 = .ok (.iinc 5 1, 3) := by decide +kernel
theorem dX1_minorOf_94 : decode cX1_minorOf 94 = .ok (.goto (-82), 3) := by decide +kernel
theorem dX1_minorOf_97 : decode cX1_minorOf 97 = .ok (.lload_n 3, 1) := by decide +kernel
theorem dX1_minorOf_98 : decode cX1_minorOf 98 = .ok (.lreturn, 1) := by decide +kernel
theorem dX1_determinantOfTable_0 : decode cX1_determinantOfTable 0 = .ok (.aload_n 0, 1) := by decide +kernel
theorem dX1_determinantOfTable_1 : decode cX1_determinantOfTable 1 = .ok (.getfield 30, 3) := by decide +kernel
theorem dX1_determinantOfTable_4 : decode cX1_determinantOfTable 4 = .ok (.iconst 0, 1) := by decide +kernel
theorem dX1_determinantOfTable_5 : decode cX1_determinantOfTable 5 = .ok (.lconst 1, 1) := by decide +kernel
theorem dX1_determinantOfTable_6 : decode cX1_determinantOfTable 6 = .ok (.lastore, 1) := by decide +kernel
theorem dX1_determinantOfTable_7 : decode cX1_determinantOfTable 7 = .ok (.iconst 1, 1) := by decide +kernel
theorem dX1_determinantOfTable_8 : decode cX1_determinantOfTable 8 = .ok (.istore_n 1, 1) := by decide +kernel
theorem dX1_determinantOfTable_9 : decode cX1_determinantOfTable 9 = .ok (.iload_n 1, 1) := by decide +kernel
theorem dX1_determinantOfTable_10 : decode cX1_determinantOfTable 10 = .ok (.iconst 1, 1) := by decide +kernel
theorem dX1_determinantOfTable_11 : decode cX1_determinantOfTable 11 = .ok (.aload_n 0, 1) := by decide +kernel
theorem dX1_determinantOfTable_12 : decode cX1_determinantOfTable 12 = .ok (.getfield 33, 3) := by decide +kernel
theorem dX1_determinantOfTable_15 : decode cX1_determinantOfTable 15 = .ok (.ishl, 1) := by decide +kernel
theorem dX1_determinantOfTable_16 : decode cX1_determinantOfTable 16 = .ok (.if_icmp .ge 20, 3) := by decide +kernel
theorem dX1_determinantOfTable_19 : decode cX1_determinantOfTable 19 = .ok (.aload_n 0, 1) := by decide +kernel
theorem dX1_determinantOfTable_20 : decode cX1_determinantOfTable 20 = .ok (.getfield 30, 3) := by decide +kernel
theorem dX1_determinantOfTable_23 : decode cX1_determinantOfTable 23 = .ok (.iload_n 1, 1) := by decide +kernel
theorem dX1_determinantOfTable_24 : decode cX1_determinantOfTable 24 = .ok (.aload_n 0, 1) := by decide +kernel
theorem dX1_determinantOfTable_25 : decode cX1_determinantOfTable 25 = .ok (.iload_n 1, 1) := by decide +kernel
theorem dX1_determinantOfTable_26 : decode cX1_determinantOfTable 26 = .ok (.invokevirtual 72, 3) := by decide +kernel
theorem dX1_determinantOfTable_29 : decode cX1_determinantOfTable 29 = .ok (.lastore, 1) := by decide +kernel
theorem dX1_determinantOfTable_30 : decode cX1_determinantOfTable 30 = .ok (.iinc 1 1, 3) := by decide +kernel
theorem dX1_determinantOfTable_33 : decode cX1_determinantOfTable 33 = .ok (.goto (-24), 3) := by decide +kernel
theorem dX1_determinantOfTable_36 : decode cX1_determinantOfTable 36 = .ok (.aload_n 0, 1) := by decide +kernel
theorem dX1_determinantOfTable_37 : decode cX1_determinantOfTable 37 = .ok (.getfield 30, 3) := by decide +kernel
theorem dX1_determinantOfTable_40 : decode cX1_determinantOfTable 40 = .ok (.iconst 1, 1) := by decide +kernel
theorem dX1_determinantOfTable_41 : decode cX1_determinantOfTable 41 = .ok (.aload_n 0, 1) := by decide +kernel
theorem dX1_determinantOfTable_42 : decode cX1_determinantOfTable 42 = .ok (.getfield 33, 3) := by decide +kernel
theorem dX1_determinantOfTable_45 : decode cX1_determinantOfTable 45 = .ok (.ishl, 1) := by decide +kernel
theorem dX1_determinantOfTable_46 : decode cX1_determinantOfTable 46 = .ok (.iconst 1, 1) := by decide +kernel
theorem dX1_determinantOfTable_47 : decode cX1_determinantOfTable 47 = .ok (.isub, 1) := by decide +kernel
theorem dX1_determinantOfTable_48 : decode cX1_determinantOfTable 48 = .ok (.laload, 1) := by decide +kernel
theorem dX1_determinantOfTable_49 : decode cX1_determinantOfTable 49 = .ok (.lreturn, 1) := by decide +kernel
theorem dX1_layTable_0 : decode cX1_layTable 0 = .ok (.aload_n 0, 1) := by decide +kernel
theorem dX1_layTable_1 : decode cX1_layTable 1 = .ok (.iload_n 2, 1) := by decide +kernel
theorem dX1_layTable_2 : decode cX1_layTable 2 = .ok (.iconst 4, 1) := by decide +kernel
theorem dX1_layTable_3 : decode cX1_layTable 3 = .ok (.invokestatic 37, 3) := by decide +kernel
theorem dX1_layTable_6 : decode cX1_layTable 6 = .ok (.putfield 33, 3) := by decide +kernel
theorem dX1_layTable_9 : decode cX1_layTable 9 = .ok (.iconst 0, 1) := by decide +kernel
theorem dX1_layTable_10 : decode cX1_layTable 10 = .ok (.istore_n 3, 1) := by decide +kernel
theorem dX1_layTable_11 : decode cX1_layTable 11 = .ok (.iload_n 3, 1) := by decide +kernel
theorem dX1_layTable_12 : decode cX1_layTable 12 = .ok (.aload_n 0, 1) := by decide +kernel
theorem dX1_layTable_13 : decode cX1_layTable 13 = .ok (.getfield 33, 3) := by decide +kernel
theorem dX1_layTable_16 : decode cX1_layTable 16 = .ok (.if_icmp .ge 44, 3) := by decide +kernel
theorem dX1_layTable_19 : decode cX1_layTable 19 = .ok (.iconst 0, 1) := by decide +kernel
theorem dX1_layTable_20 : decode cX1_layTable 20 = .ok (.istore 4, 2) := by decide +kernel
theorem dX1_layTable_22 : decode cX1_layTable 22 = .ok (.iload 4, 2) := by decide +kernel
theorem dX1_layTable_24 : decode cX1_layTable 24 = .ok (.aload_n 0, 1) := by decide +kernel
theorem dX1_layTable_25 : decode cX1_layTable 25 = .ok (.getfield 33, 3) := by decide +kernel
theorem dX1_layTable_28 : decode cX1_layTable 28 = .ok (.if_icmp .ge 26, 3) := by decide +kernel
theorem dX1_layTable_31 : decode cX1_layTable 31 = .ok (.aload_n 0, 1) := by decide +kernel
theorem dX1_layTable_32 : decode cX1_layTable 32 = .ok (.getfield 24, 3) := by decide +kernel
theorem dX1_layTable_35 : decode cX1_layTable 35 = .ok (.iload_n 3, 1) := by decide +kernel
theorem dX1_layTable_36 : decode cX1_layTable 36 = .ok (.aaload, 1) := by decide +kernel
theorem dX1_layTable_37 : decode cX1_layTable 37 = .ok (.iload 4, 2) := by decide +kernel
theorem dX1_layTable_39 : decode cX1_layTable 39 = .ok (.aload_n 1, 1) := by decide +kernel
theorem dX1_layTable_40 : decode cX1_layTable 40 = .ok (.iload_n 3, 1) := by decide +kernel
theorem dX1_layTable_41 : decode cX1_layTable 41 = .ok (.iload 4, 2) := by decide +kernel
theorem dX1_layTable_43 : decode cX1_layTable 43 = .ok (.invokevirtual 43, 3) := by decide +kernel
theorem dX1_layTable_46 : decode cX1_layTable 46 = .ok (.i2l, 1) := by decide +kernel
theorem dX1_layTable_47 : decode cX1_layTable 47 = .ok (.lastore, 1) := by decide +kernel
theorem dX1_layTable_48 : decode cX1_layTable 48 = .ok (.iinc 4 1, 3) := by decide +kernel
theorem dX1_layTable_51 : decode cX1_layTable 51 = .ok (.goto (-29), 3) := by decide +kernel
theorem dX1_layTable_54 : decode cX1_layTable 54 = .ok (.iinc 3 1, 3) := by decide +kernel
theorem dX1_layTable_57 : decode cX1_layTable 57 = .ok (.goto (-46), 3) := by decide +kernel
theorem dX1_layTable_60 : decode cX1_layTable 60 = .ok (.aload_n 0, 1) := by decide +kernel
theorem dX1_layTable_61 : decode cX1_layTable 61 = .ok (.aload_n 0, 1) := by decide +kernel
theorem dX1_layTable_62 : decode cX1_layTable 62 = .ok (.invokevirtual 48, 3) := by decide +kernel
theorem dX1_layTable_65 : decode cX1_layTable 65 = .ok (.putfield 19, 3) := by decide +kernel
theorem dX1_layTable_68 : decode cX1_layTable 68 = .ok (.return_, 1) := by decide +kernel
theorem dJ9_abs_067f4_0 : decode cJ9_abs_067f4 0 = .ok (.lload_n 0, 1) := by decide +kernel
theorem dJ9_abs_067f4_1 : decode cJ9_abs_067f4 1 = .ok (.lconst 0, 1) := by decide +kernel
theorem dJ9_abs_067f4_2 : decode cJ9_abs_067f4 2 = .ok (.lcmp, 1) := by decide +kernel
theorem dJ9_abs_067f4_3 : decode cJ9_abs_067f4 3 = .ok (.ifCond .ge 8, 3) := by decide +kernel
theorem dJ9_abs_067f4_6 : decode cJ9_abs_067f4 6 = .ok (.lload_n 0, 1) := by decide +kernel
theorem dJ9_abs_067f4_7 : decode cJ9_abs_067f4 7 = .ok (.lneg, 1) := by decide +kernel
theorem dJ9_abs_067f4_8 : decode cJ9_abs_067f4 8 = .ok (.goto 4, 3) := by decide +kernel
theorem dJ9_abs_067f4_11 : decode cJ9_abs_067f4 11 = .ok (.lload_n 0, 1) := by decide +kernel
theorem dJ9_abs_067f4_12 : decode cJ9_abs_067f4 12 = .ok (.lreturn, 1) := by decide +kernel
theorem dX1_determinantWithColumn_0 : decode cX1_determinantWithColumn 0 = .ok (.iconst 0, 1) := by decide +kernel
theorem dX1_determinantWithColumn_1 : decode cX1_determinantWithColumn 1 = .ok (.istore_n 3, 1) := by decide +kernel
theorem dX1_determinantWithColumn_2 : decode cX1_determinantWithColumn 2 = .ok (.iload_n 3, 1) := by decide +kernel
theorem dX1_determinantWithColumn_3 : decode cX1_determinantWithColumn 3 = .ok (.aload_n 0, 1) := by decide +kernel
theorem dX1_determinantWithColumn_4 : decode cX1_determinantWithColumn 4 = .ok (.getfield 33, 3) := by decide +kernel
theorem dX1_determinantWithColumn_7 : decode cX1_determinantWithColumn 7 = .ok (.if_icmp .ge 45, 3) := by decide +kernel
theorem dX1_determinantWithColumn_10 : decode cX1_determinantWithColumn 10 = .ok (.aload_n 0, 1) := by decide +kernel
theorem dX1_determinantWithColumn_11 : decode cX1_determinantWithColumn 11 = .ok (.getfield 27, 3) := by decide +kernel
theorem dX1_determinantWithColumn_14 : decode cX1_determinantWithColumn 14 = .ok (.iload_n 3, 1) := by decide +kernel
theorem dX1_determinantWithColumn_15 : decode cX1_determinantWithColumn 15 = .ok (.aload_n 0, 1) := by decide +kernel
theorem dX1_determinantWithColumn_16 : decode cX1_determinantWithColumn 16 = .ok (.getfield 24, 3) := by decide +kernel
theorem dX1_determinantWithColumn_19 : decode cX1_determinantWithColumn 19 = .ok (.iload_n 3, 1) := by decide +kernel
theorem dX1_determinantWithColumn_20 : decode cX1_determinantWithColumn 20 = .ok (.aaload, 1) := by decide +kernel
theorem dX1_determinantWithColumn_21 : decode cX1_determinantWithColumn 21 = .ok (.iload_n 1, 1) := by decide +kernel
theorem dX1_determinantWithColumn_22 : decode cX1_determinantWithColumn 22 = .ok (.laload, 1) := by decide +kernel
theorem dX1_determinantWithColumn_23 : decode cX1_determinantWithColumn 23 = .ok (.lastore, 1) := by decide +kernel
theorem dX1_determinantWithColumn_24 : decode cX1_determinantWithColumn 24 = .ok (.aload_n 0, 1) := by decide +kernel
theorem dX1_determinantWithColumn_25 : decode cX1_determinantWithColumn 25 = .ok (.getfield 24, 3) := by decide +kernel
theorem dX1_determinantWithColumn_28 : decode cX1_determinantWithColumn 28 = .ok (.iload_n 3, 1) := by decide +kernel
theorem dX1_determinantWithColumn_29 : decode cX1_determinantWithColumn 29 = .ok (.aaload, 1) := by decide +kernel
theorem dX1_determinantWithColumn_30 : decode cX1_determinantWithColumn 30 = .ok (.iload_n 1, 1) := by decide +kernel
theorem dX1_determinantWithColumn_31 : decode cX1_determinantWithColumn 31 = .ok (.iload_n 3, 1) := by decide +kernel
theorem dX1_determinantWithColumn_32 : decode cX1_determinantWithColumn 32 = .ok (.aload_n 2, 1) := by decide +kernel
theorem dX1_determinantWithColumn_33 : decode cX1_determinantWithColumn 33 = .ok (.arraylength, 1) := by decide +kernel
theorem dX1_determinantWithColumn_34 : decode cX1_determinantWithColumn 34 = .ok (.if_icmp .ge 10, 3) := by decide +kernel
theorem dX1_determinantWithColumn_37 : decode cX1_determinantWithColumn 37 = .ok (.aload_n 2, 1) := by decide +kernel
theorem dX1_determinantWithColumn_38 : decode cX1_determinantWithColumn 38 = .ok (.iload_n 3, 1) := by decide +kernel
theorem dX1_determinantWithColumn_39 : decode cX1_determinantWithColumn 39 = .ok (.iaload, 1) := by decide +kernel
theorem dX1_determinantWithColumn_40 : decode cX1_determinantWithColumn 40 = .ok (.i2l, 1) := by decide +kernel
theorem dX1_determinantWithColumn_41 : decode cX1_determinantWithColumn 41 = .ok (.goto 4, 3) := by decide +kernel
theorem dX1_determinantWithColumn_44 : decode cX1_determinantWithColumn 44 = .ok (.lconst 0, 1) := by decide +kernel
theorem dX1_determinantWithColumn_45 : decode cX1_determinantWithColumn 45 = .ok (.lastore, 1) := by decide +kernel
theorem dX1_determinantWithColumn_46 : decode cX1_determinantWithColumn 46 = .ok (.iinc 3 1, 3) := by decide +kernel
theorem dX1_determinantWithColumn_49 : decode cX1_determinantWithColumn 49 = .ok (.goto (-47), 3) := by decide +kernel
theorem dX1_determinantWithColumn_52 : decode cX1_determinantWithColumn 52 = .ok (.aload_n 0, 1) := by decide +kernel
theorem dX1_determinantWithColumn_53 : decode cX1_determinantWithColumn 53 = .ok (.invokevirtual 48, 3) := by decide +kernel
theorem dX1_determinantWithColumn_56 : decode cX1_determinantWithColumn 56 = .ok (.lstore_n 3, 1) := by decide +kernel
theorem dX1_determinantWithColumn_57 : decode cX1_determinantWithColumn 57 = .ok (.iconst 0, 1) := by decide +kernel
theorem dX1_determinantWithColumn_58 : decode cX1_determinantWithColumn 58 = .ok (.istore 5, 2) := by decide +kernel
theorem dX1_determinantWithColumn_60 : decode cX1_determinantWithColumn 60 = .ok (.iload 5, 2) := by decide +kernel
theorem dX1_determinantWithColumn_62 : decode cX1_determinantWithColumn 62 = .ok (.aload_n 0, 1) := by decide +kernel
theorem dX1_determinantWithColumn_63 : decode cX1_determinantWithColumn 63 = .ok (.getfield 33, 3) := by decide +kernel
theorem dX1_determinantWithColumn_66 : decode cX1_determinantWithColumn 66 = .ok (.if_icmp .ge 25, 3) := by decide +kernel
theorem dX1_determinantWithColumn_69 : decode cX1_determinantWithColumn 69 = .ok (.aload_n 0, 1) := by decide +kernel
theorem dX1_determinantWithColumn_70 : decode cX1_determinantWithColumn 70 = .ok (.getfield 24, 3) := by decide +kernel
theorem dX1_determinantWithColumn_73 : decode cX1_determinantWithColumn 73 = .ok (.iload 5, 2) := by decide +kernel
theorem dX1_determinantWithColumn_75 : decode cX1_determinantWithColumn 75 = .ok (.aaload, 1) := by decide +kernel
theorem dX1_determinantWithColumn_76 : decode cX1_determinantWithColumn 76 = .ok (.iload_n 1, 1) := by decide +kernel
theorem dX1_determinantWithColumn_77 : decode cX1_determinantWithColumn 77 = .ok (.aload_n 0, 1) := by decide +kernel
theorem dX1_determinantWithColumn_78 : decode cX1_determinantWithColumn 78 = .ok (.getfield 27, 3) := by decide +kernel
theorem dX1_determinantWithColumn_81 : decode cX1_determinantWithColumn 81 = .ok (.iload 5, 2) := by decide +kernel
theorem dX1_determinantWithColumn_83 : decode cX1_determinantWithColumn 83 = .ok (.laload, 1) := by decide +kernel
theorem dX1_determinantWithColumn_84 : decode cX1_determinantWithColumn 84 = .ok (.lastore, 1) := by decide +kernel
theorem dX1_determinantWithColumn_85 : decode cX1_determinantWithColumn 85 = .ok (.iinc 5 1, 3) := by decide +kernel
theorem dX1_determinantWithColumn_88 : decode cX1_determinantWithColumn 88 = .ok (.goto (-28), 3) := by decide +kernel
theorem dX1_determinantWithColumn_91 : decode cX1_determinantWithColumn 91 = .ok (.lload_n 3, 1) := by decide +kernel
theorem dX1_determinantWithColumn_92 : decode cX1_determinantWithColumn 92 = .ok (.lreturn, 1) := by decide +kernel
theorem dX1_solve_0 : decode cX1_solve 0 = .ok (.aload_n 0, 1) := by decide +kernel
theorem dX1_solve_1 : decode cX1_solve 1 = .ok (.aload_n 1, 1) := by decide +kernel
theorem dX1_solve_2 : decode cX1_solve 2 = .ok (.iload_n 2, 1) := by decide +kernel
theorem dX1_solve_3 : decode cX1_solve 3 = .ok (.invokevirtual 52, 3) := by decide +kernel
theorem dX1_solve_6 : decode cX1_solve 6 = .ok (.aload_n 0, 1) := by decide +kernel
theorem dX1_solve_7 : decode cX1_solve 7 = .ok (.getfield 19, 3) := by decide +kernel
theorem dX1_solve_10 : decode cX1_solve 10 = .ok (.lconst 0, 1) := by decide +kernel
theorem dX1_solve_11 : decode cX1_solve 11 = .ok (.lcmp, 1) := by decide +kernel
theorem dX1_solve_12 : decode cX1_solve 12 = .ok (.ifCond .ne 5, 3) := by decide +kernel
theorem dX1_solve_15 : decode cX1_solve 15 = .ok (.iconst 0, 1) := by decide +kernel
theorem dX1_solve_16 : decode cX1_solve 16 = .ok (.ireturn, 1) := by decide +kernel
theorem dX1_solve_17 : decode cX1_solve 17 = .ok (.aload_n 0, 1) := by decide +kernel
theorem dX1_solve_18 : decode cX1_solve 18 = .ok (.aload_n 0, 1) := by decide +kernel
theorem dX1_solve_19 : decode cX1_solve 19 = .ok (.getfield 19, 3) := by decide +kernel
theorem dX1_solve_22 : decode cX1_solve 22 = .ok (.invokestatic 56, 3) := by decide +kernel
theorem dX1_solve_25 : decode cX1_solve 25 = .ok (.putfield 15, 3) := by decide +kernel
theorem dX1_solve_28 : decode cX1_solve 28 = .ok (.iconst 0, 1) := by decide +kernel
theorem dX1_solve_29 : decode cX1_solve 29 = .ok (.istore 4, 2) := by decide +kernel
theorem dX1_solve_31 : decode cX1_solve 31 = .ok (.iload 4, 2) := by decide +kernel
theorem dX1_solve_33 : decode cX1_solve 33 = .ok (.aload_n 0, 1) := by decide +kernel
theorem dX1_solve_34 : decode cX1_solve 34 = .ok (.getfield 33, 3) := by decide +kernel
theorem dX1_solve_37 : decode cX1_solve 37 = .ok (.if_icmp .ge 42, 3) := by decide +kernel
theorem dX1_solve_40 : decode cX1_solve 40 = .ok (.aload_n 0, 1) := by decide +kernel
theorem dX1_solve_41 : decode cX1_solve 41 = .ok (.iload 4, 2) := by decide +kernel
theorem dX1_solve_43 : decode cX1_solve 43 = .ok (.aload_n 3, 1) := by decide +kernel
theorem dX1_solve_44 : decode cX1_solve 44 = .ok (.invokevirtual 60, 3) := by decide +kernel
theorem dX1_solve_47 : decode cX1_solve 47 = .ok (.lstore 5, 2) := by decide +kernel
theorem dX1_solve_49 : decode cX1_solve 49 = .ok (.aload_n 0, 1) := by decide +kernel
theorem dX1_solve_50 : decode cX1_solve 50 = .ok (.getfield 9, 3) := by decide +kernel
theorem dX1_solve_53 : decode cX1_solve 53 = .ok (.iload 4, 2) := by decide +kernel
theorem dX1_solve_55 : decode cX1_solve 55 = .ok (.aload_n 0, 1) := by decide +kernel
theorem dX1_solve_56 : decode cX1_solve 56 = .ok (.getfield 19, 3) := by decide +kernel
theorem dX1_solve_59 : decode cX1_solve 59 = .ok (.lconst 0, 1) := by decide +kernel
theorem dX1_solve_60 : decode cX1_solve 60 = .ok (.lcmp, 1) := by decide +kernel
theorem dX1_solve_61 : decode cX1_solve 61 = .ok (.ifCond .ge 9, 3) := by decide +kernel
theorem dX1_solve_64 : decode cX1_solve 64 = .ok (.lload 5, 2) := by decide +kernel
theorem dX1_solve_66 : decode cX1_solve 66 = .ok (.lneg, 1) := by decide +kernel
theorem dX1_solve_67 : decode cX1_solve 67 = .ok (.goto 5, 3) := by decide +kernel
theorem dX1_solve_70 : decode cX1_solve 70 = .ok (.lload 5, 2) := by decide +kernel
theorem dX1_solve_72 : decode cX1_solve 72 = .ok (.lastore, 1) := by decide +kernel
theorem dX1_solve_73 : decode cX1_solve 73 = .ok (.iinc 4 1, 3) := by decide +kernel
theorem dX1_solve_76 : decode cX1_solve 76 = .ok (.goto (-45), 3) := by decide +kernel
theorem dX1_solve_79 : decode cX1_solve 79 = .ok (.iconst 1, 1) := by decide +kernel
theorem dX1_solve_80 : decode cX1_solve 80 = .ok (.ireturn, 1) := by decide +kernel
theorem dX1_brought_0 : decode cX1_brought 0 = .ok (.aload_n 1, 1) := by decide +kernel
theorem dX1_brought_1 : decode cX1_brought 1 = .ok (.iload_n 3, 1) := by decide +kernel
theorem dX1_brought_2 : decode cX1_brought 2 = .ok (.iload_n 2, 1) := by decide +kernel
theorem dX1_brought_3 : decode cX1_brought 3 = .ok (.iload 4, 2) := by decide +kernel
theorem dX1_brought_5 : decode cX1_brought 5 = .ok (.invokevirtual 64, 3) := by decide +kernel
theorem dX1_brought_8 : decode cX1_brought 8 = .ok (.aload_n 0, 1) := by decide +kernel
theorem dX1_brought_9 : decode cX1_brought 9 = .ok (.getfield 9, 3) := by decide +kernel
theorem dX1_brought_12 : decode cX1_brought 12 = .ok (.iload_n 3, 1) := by decide +kernel
theorem dX1_brought_13 : decode cX1_brought 13 = .ok (.laload, 1) := by decide +kernel
theorem dX1_brought_14 : decode cX1_brought 14 = .ok (.lmul, 1) := by decide +kernel
theorem dX1_brought_15 : decode cX1_brought 15 = .ok (.lreturn, 1) := by decide +kernel
theorem dX1_sumOfEmissions_0 : decode cX1_sumOfEmissions 0 = .ok (.lconst 0, 1) := by decide +kernel
theorem dX1_sumOfEmissions_1 : decode cX1_sumOfEmissions 1 = .ok (.lstore 4, 2) := by decide +kernel
theorem dX1_sumOfEmissions_3 : decode cX1_sumOfEmissions 3 = .ok (.iconst 0, 1) := by decide +kernel
theorem dX1_sumOfEmissions_4 : decode cX1_sumOfEmissions 4 = .ok (.istore 6, 2) := by decide +kernel
theorem dX1_sumOfEmissions_6 : decode cX1_sumOfEmissions 6 = .ok (.iload 6, 2) := by decide +kernel
theorem dX1_sumOfEmissions_8 : decode cX1_sumOfEmissions 8 = .ok (.aload_n 0, 1) := by decide +kernel
theorem dX1_sumOfEmissions_9 : decode cX1_sumOfEmissions 9 = .ok (.getfield 33, 3) := by decide +kernel
theorem dX1_sumOfEmissions_12 : decode cX1_sumOfEmissions 12 = .ok (.if_icmp .ge 45, 3) := by decide +kernel
theorem dX1_sumOfEmissions_15 : decode cX1_sumOfEmissions 15 = .ok (.aload_n 0, 1) := by decide +kernel
theorem dX1_sumOfEmissions_16 : decode cX1_sumOfEmissions 16 = .ok (.getfield 9, 3) := by decide +kernel
theorem dX1_sumOfEmissions_19 : decode cX1_sumOfEmissions 19 = .ok (.iload 6, 2) := by decide +kernel
theorem dX1_sumOfEmissions_21 : decode cX1_sumOfEmissions 21 = .ok (.laload, 1) := by decide +kernel
theorem dX1_sumOfEmissions_22 : decode cX1_sumOfEmissions 22 = .ok (.lconst 0, 1) := by decide +kernel
theorem dX1_sumOfEmissions_23 : decode cX1_sumOfEmissions 23 = .ok (.lcmp, 1) := by decide +kernel
theorem dX1_sumOfEmissions_24 : decode cX1_sumOfEmissions 24 = .ok (.ifCond .ge 9, 3) := by decide +kernel
theorem dX1_sumOfEmissions_27 : decode cX1_sumOfEmissions 27 = .ok (.iconst 2, 1) := by decide +kernel
theorem dX1_sumOfEmissions_28 : decode cX1_sumOfEmissions 28 = .ok (.iload_n 3, 1) := by decide +kernel
theorem dX1_sumOfEmissions_29 : decode cX1_sumOfEmissions 29 = .ok (.isub, 1) := by decide +kernel
theorem dX1_sumOfEmissions_30 : decode cX1_sumOfEmissions 30 = .ok (.goto 4, 3) := by decide +kernel
theorem dX1_sumOfEmissions_33 : decode cX1_sumOfEmissions 33 = .ok (.iload_n 3, 1) := by decide +kernel
theorem dX1_sumOfEmissions_34 : decode cX1_sumOfEmissions 34 = .ok (.istore 7, 2) := by decide +kernel
theorem dX1_sumOfEmissions_36 : decode cX1_sumOfEmissions 36 = .ok (.lload 4, 2) := by decide +kernel
theorem dX1_sumOfEmissions_38 : decode cX1_sumOfEmissions 38 = .ok (.aload_n 0, 1) := by decide +kernel
theorem dX1_sumOfEmissions_39 : decode cX1_sumOfEmissions 39 = .ok (.aload_n 1, 1) := by decide +kernel
theorem dX1_sumOfEmissions_40 : decode cX1_sumOfEmissions 40 = .ok (.iload_n 2, 1) := by decide +kernel
theorem dX1_sumOfEmissions_41 : decode cX1_sumOfEmissions 41 = .ok (.iload 6, 2) := by decide +kernel
theorem dX1_sumOfEmissions_43 : decode cX1_sumOfEmissions 43 = .ok (.iload 7, 2) := by decide +kernel
theorem dX1_sumOfEmissions_45 : decode cX1_sumOfEmissions 45 = .ok (.invokevirtual 68, 3) := by decide +kernel
theorem dX1_sumOfEmissions_48 : decode cX1_sumOfEmissions 48 = .ok (.ladd, 1) := by decide +kernel
theorem dX1_sumOfEmissions_49 : decode cX1_sumOfEmissions 49 = .ok (.lstore 4, 2) := by decide +kernel
theorem dX1_sumOfEmissions_51 : decode cX1_sumOfEmissions 51 = .ok (.iinc 6 1, 3) := by decide +kernel
theorem dX1_sumOfEmissions_54 : decode cX1_sumOfEmissions 54 = .ok (.goto (-48), 3) := by decide +kernel
theorem dX1_sumOfEmissions_57 : decode cX1_sumOfEmissions 57 = .ok (.lload 4, 2) := by decide +kernel
theorem dX1_sumOfEmissions_59 : decode cX1_sumOfEmissions 59 = .ok (.lreturn, 1) := by decide +kernel
theorem dJ9_floorDiv_f86c9_0 : decode cJ9_floorDiv_f86c9 0 = .ok (.lload_n 0, 1) := by decide +kernel
theorem dJ9_floorDiv_f86c9_1 : decode cJ9_floorDiv_f86c9 1 = .ok (.lload_n 2, 1) := by decide +kernel
theorem dJ9_floorDiv_f86c9_2 : decode cJ9_floorDiv_f86c9 2 = .ok (.ldiv, 1) := by decide +kernel
theorem dJ9_floorDiv_f86c9_3 : decode cJ9_floorDiv_f86c9 3 = .ok (.lstore 4, 2) := by decide +kernel
theorem dJ9_floorDiv_f86c9_5 : decode cJ9_floorDiv_f86c9 5 = .ok (.lload_n 0, 1) := by decide +kernel
theorem dJ9_floorDiv_f86c9_6 : decode cJ9_floorDiv_f86c9 6 = .ok (.lload_n 2, 1) := by decide +kernel
theorem dJ9_floorDiv_f86c9_7 : decode cJ9_floorDiv_f86c9 7 = .ok (.lxor, 1) := by decide +kernel
theorem dJ9_floorDiv_f86c9_8 : decode cJ9_floorDiv_f86c9 8 = .ok (.lconst 0, 1) := by decide +kernel
theorem dJ9_floorDiv_f86c9_9 : decode cJ9_floorDiv_f86c9 9 = .ok (.lcmp, 1) := by decide +kernel
theorem dJ9_floorDiv_f86c9_10 : decode cJ9_floorDiv_f86c9 10 = .ok (.ifCond .ge 17, 3) := by decide +kernel
theorem dJ9_floorDiv_f86c9_13 : decode cJ9_floorDiv_f86c9 13 = .ok (.lload 4, 2) := by decide +kernel
theorem dJ9_floorDiv_f86c9_15 : decode cJ9_floorDiv_f86c9 15 = .ok (.lload_n 2, 1) := by decide +kernel
theorem dJ9_floorDiv_f86c9_16 : decode cJ9_floorDiv_f86c9 16 = .ok (.lmul, 1) := by decide +kernel
theorem dJ9_floorDiv_f86c9_17 : decode cJ9_floorDiv_f86c9 17 = .ok (.lload_n 0, 1) := by decide +kernel
theorem dJ9_floorDiv_f86c9_18 : decode cJ9_floorDiv_f86c9 18 = .ok (.lcmp, 1) := by decide +kernel
theorem dJ9_floorDiv_f86c9_19 : decode cJ9_floorDiv_f86c9 19 = .ok (.ifCond .eq 8, 3) := by decide +kernel
theorem dJ9_floorDiv_f86c9_22 : decode cJ9_floorDiv_f86c9 22 = .ok (.lload 4, 2) := by decide +kernel
theorem dJ9_floorDiv_f86c9_24 : decode cJ9_floorDiv_f86c9 24 = .ok (.lconst 1, 1) := by decide +kernel
theorem dJ9_floorDiv_f86c9_25 : decode cJ9_floorDiv_f86c9 25 = .ok (.lsub, 1) := by decide +kernel
theorem dJ9_floorDiv_f86c9_26 : decode cJ9_floorDiv_f86c9 26 = .ok (.lreturn, 1) := by decide +kernel
theorem dJ9_floorDiv_f86c9_27 : decode cJ9_floorDiv_f86c9 27 = .ok (.lload 4, 2) := by decide +kernel
theorem dJ9_floorDiv_f86c9_29 : decode cJ9_floorDiv_f86c9 29 = .ok (.lreturn, 1) := by decide +kernel
theorem wq_0 : Cond.fieldLink RX0 11 "CradleNets$Book" "rows" "[[I" ∈ mTbl := by decide +kernel
theorem wq_1 : Cond.initialized RX0 ∈ mTbl := by decide +kernel
theorem wq_2 : Cond.code yX0_weighRow cX0_weighRow 6 none ∈ mTbl := by decide +kernel
theorem wq_3 : Cond.methodLink RX0 16 yX0_weighRow ∈ mTbl := by decide +kernel
theorem wq_4 : Cond.instanceMethod yX0_weighRow ∈ mTbl := by decide +kernel
theorem wq_5 : Cond.selects RX0 yX0_weighRow yX0_weighRow ∈ mTbl := by decide +kernel
theorem wq_6 : Cond.methodLink RX0 20 arraycopyName ∈ mTbl := by decide +kernel
theorem wq_7 : Cond.native arraycopyName ∈ mTbl := by decide +kernel
theorem wq_8 : Cond.static arraycopyName ∈ mTbl := by decide +kernel
theorem wq_9 : Cond.initialized "java/lang/System" ∈ mTbl := by decide +kernel
theorem wq_10 : Cond.initialized RX2 ∈ mTbl := by decide +kernel
theorem wq_11 : Cond.code yX2_placeOfEmits cX2_placeOfEmits 2 (some .int) ∈ mTbl := by decide +kernel
theorem wq_12 : Cond.static yX2_placeOfEmits ∈ mTbl := by decide +kernel
theorem wq_13 : Cond.constant RJ6 265 (1431655765) ∈ mTbl := by decide +kernel
theorem wq_14 : Cond.constant RJ6 266 (858993459) ∈ mTbl := by decide +kernel
theorem wq_15 : Cond.constant RJ6 267 (252645135) ∈ mTbl := by decide +kernel
theorem wq_16 : Cond.fieldLink RX1 33 "CradleNets$Net" "size" "I" ∈ mTbl := by decide +kernel
theorem wq_17 : Cond.fieldLink RX1 24 "CradleNets$Net" "table" "[[J" ∈ mTbl := by decide +kernel
theorem wq_18 : Cond.fieldLink RX1 30 "CradleNets$Net" "minors" "[J" ∈ mTbl := by decide +kernel
theorem wq_19 : Cond.initialized RJ6 ∈ mTbl := by decide +kernel
theorem wq_20 : Cond.code yJ6_bitCount_0f7a4 cJ6_bitCount_0f7a4 1 (some .int) ∈ mTbl := by decide +kernel
theorem wq_21 : Cond.methodLink RX1 76 yJ6_bitCount_0f7a4 ∈ mTbl := by decide +kernel
theorem wq_22 : Cond.static yJ6_bitCount_0f7a4 ∈ mTbl := by decide +kernel
theorem wq_23 : Cond.initialized RX1 ∈ mTbl := by decide +kernel
theorem wq_24 : Cond.code yX1_minorOf cX1_minorOf 9 (some .long) ∈ mTbl := by decide +kernel
theorem wq_25 : Cond.methodLink RX1 72 yX1_minorOf ∈ mTbl := by decide +kernel
theorem wq_26 : Cond.instanceMethod yX1_minorOf ∈ mTbl := by decide +kernel
theorem wq_27 : Cond.selects RX1 yX1_minorOf yX1_minorOf ∈ mTbl := by decide +kernel
theorem wq_28 : Cond.fieldLink RX1 19 "CradleNets$Net" "determinant" "J" ∈ mTbl := by decide +kernel
theorem wq_29 : Cond.initialized RJ9 ∈ mTbl := by decide +kernel
theorem wq_30 : Cond.code yJ9_min_7cf53 cJ9_min_7cf53 2 (some .int) ∈ mTbl := by decide +kernel
theorem wq_31 : Cond.methodLink RX1 37 yJ9_min_7cf53 ∈ mTbl := by decide +kernel
theorem wq_32 : Cond.static yJ9_min_7cf53 ∈ mTbl := by decide +kernel
theorem wq_33 : Cond.code yX0_tableCell cX0_tableCell 6 (some .int) ∈ mTbl := by decide +kernel
theorem wq_34 : Cond.methodLink RX1 43 yX0_tableCell ∈ mTbl := by decide +kernel
theorem wq_35 : Cond.instanceMethod yX0_tableCell ∈ mTbl := by decide +kernel
theorem wq_36 : Cond.selects RX0 yX0_tableCell yX0_tableCell ∈ mTbl := by decide +kernel
theorem wq_37 : Cond.code yX1_determinantOfTable cX1_determinantOfTable 2 (some .long) ∈ mTbl := by decide +kernel
theorem wq_38 : Cond.methodLink RX1 48 yX1_determinantOfTable ∈ mTbl := by decide +kernel
theorem wq_39 : Cond.instanceMethod yX1_determinantOfTable ∈ mTbl := by decide +kernel
theorem wq_40 : Cond.selects RX1 yX1_determinantOfTable yX1_determinantOfTable ∈ mTbl := by decide +kernel
theorem wq_41 : Cond.fieldLink RX1 27 "CradleNets$Net" "column" "[J" ∈ mTbl := by decide +kernel
theorem wq_42 : Cond.fieldLink RX1 15 "CradleNets$Net" "below" "J" ∈ mTbl := by decide +kernel
theorem wq_43 : Cond.fieldLink RX1 9 "CradleNets$Net" "rounds" "[J" ∈ mTbl := by decide +kernel
theorem wq_44 : Cond.code yX1_layTable cX1_layTable 5 none ∈ mTbl := by decide +kernel
theorem wq_45 : Cond.methodLink RX1 52 yX1_layTable ∈ mTbl := by decide +kernel
theorem wq_46 : Cond.instanceMethod yX1_layTable ∈ mTbl := by decide +kernel
theorem wq_47 : Cond.selects RX1 yX1_layTable yX1_layTable ∈ mTbl := by decide +kernel
theorem wq_48 : Cond.code yJ9_abs_067f4 cJ9_abs_067f4 2 (some .long) ∈ mTbl := by decide +kernel
theorem wq_49 : Cond.methodLink RX1 56 yJ9_abs_067f4 ∈ mTbl := by decide +kernel
theorem wq_50 : Cond.static yJ9_abs_067f4 ∈ mTbl := by decide +kernel
theorem wq_51 : Cond.code yX1_determinantWithColumn cX1_determinantWithColumn 6 (some .long) ∈ mTbl := by decide +kernel
theorem wq_52 : Cond.methodLink RX1 60 yX1_determinantWithColumn ∈ mTbl := by decide +kernel
theorem wq_53 : Cond.instanceMethod yX1_determinantWithColumn ∈ mTbl := by decide +kernel
theorem wq_54 : Cond.selects RX1 yX1_determinantWithColumn yX1_determinantWithColumn ∈ mTbl := by decide +kernel
theorem wq_55 : Cond.code yX0_emission cX0_emission 4 (some .long) ∈ mTbl := by decide +kernel
theorem wq_56 : Cond.methodLink RX1 64 yX0_emission ∈ mTbl := by decide +kernel
theorem wq_57 : Cond.instanceMethod yX0_emission ∈ mTbl := by decide +kernel
theorem wq_58 : Cond.selects RX0 yX0_emission yX0_emission ∈ mTbl := by decide +kernel
theorem wq_59 : Cond.code yX1_brought cX1_brought 5 (some .long) ∈ mTbl := by decide +kernel
theorem wq_60 : Cond.methodLink RX1 68 yX1_brought ∈ mTbl := by decide +kernel
theorem wq_61 : Cond.instanceMethod yX1_brought ∈ mTbl := by decide +kernel
theorem wq_62 : Cond.selects RX1 yX1_brought yX1_brought ∈ mTbl := by decide +kernel
/-! X0 weighRow -/
def tbX0_weighRow : List (Nat × mR) := [(0, r_aload 1 0), (1, r_getf 4 0 0), (4, r_iload 5 1), (5, r_aald 6), (6, r_astore 7 2), (7, r_aload 8 2), (8, r_ic 9 1), (9, r_iald 10), (10, r_ic 11 2), (11, r_cne 14 23), (14, r_aload 15 2), (15, r_ic 16 2), (16, r_ic 17 1), (17, r_iast 18), (18, r_aload 19 2), (19, r_ic 20 3), (20, r_ic 21 1), (21, r_iast 22), (23, r_aload 24 2), (24, r_ic 25 1), (25, r_iald 26), (26, r_ic 27 1), (27, r_cne 30 35), (30, r_ic 32 22), (32, r_goto 37), (35, r_ic 37 21), (37, r_istore 38 3), (38, r_aload 39 2), (39, r_ic 40 2), (40, r_aload 41 2), (41, r_ic 42 0), (42, r_iald 43), (43, r_aload 44 2), (44, r_iload 45 3), (45, r_iald 46), (46, r_ii 47 (fun x y => x * y)), (47, r_iast 48), (48, r_aload 49 2), (49, r_ic 50 2), (50, r_iald 51), (51, r_istore 53 4), (53, r_ic 54 0), (54, r_istore 56 5), (56, r_iload 58 5), (58, r_ic 59 4), (59, r_cge 62 90), (62, r_iload 64 4), (64, r_aload 65 2), (65, r_ic 67 8), (67, r_iload 69 5), (69, r_ii 70 (fun x y => x + y)), (70, r_iald 71), (71, r_aload 72 0), (72, r_getf 75 0 0), (75, r_iload 77 5), (77, r_aald 78), (78, r_iload 79 3), (79, r_iald 80), (80, r_ii 81 (fun x y => x * y)), (81, r_ii 82 (fun x y => x + y)), (82, r_istore 84 4), (84, r_iinc 87 5 1), (87, r_goto 56), (90, r_aload 91 2), (91, r_ic 92 3), (92, r_iload 94 4), (94, r_iast 95)]
theorem tkX0_weighRow : ∀ q ∈ tbX0_weighRow, mOk cX0_weighRow RX0 6 q.1 q.2 := by
  unfold tbX0_weighRow
  refine mcons (ok_aload_n dX0_weighRow_0 rfl) ?_
  refine mcons (ok_getf 0 dX0_weighRow_1 rfl mX0 (by decide) wq_0 rfl) ?_
  refine mcons (ok_iload_n dX0_weighRow_4 rfl) ?_
  refine mcons (ok_aald dX0_weighRow_5) ?_
  refine mcons (ok_astore_n dX0_weighRow_6 rfl (by decide)) ?_
  refine mcons (ok_aload_n dX0_weighRow_7 rfl) ?_
  refine mcons (ok_iconst dX0_weighRow_8 (by decide)) ?_
  refine mcons (ok_iald dX0_weighRow_9) ?_
  refine mcons (ok_iconst dX0_weighRow_10 (by decide)) ?_
  refine mcons (ok_cne dX0_weighRow_11 (by decide)) ?_
  refine mcons (ok_aload_n dX0_weighRow_14 rfl) ?_
  refine mcons (ok_iconst dX0_weighRow_15 (by decide)) ?_
  refine mcons (ok_iconst dX0_weighRow_16 (by decide)) ?_
  refine mcons (ok_iast dX0_weighRow_17) ?_
  refine mcons (ok_aload_n dX0_weighRow_18 rfl) ?_
  refine mcons (ok_iconst dX0_weighRow_19 (by decide)) ?_
  refine mcons (ok_iconst dX0_weighRow_20 (by decide)) ?_
  refine mcons (ok_iast dX0_weighRow_21) ?_
  refine mcons (ok_aload_n dX0_weighRow_23 rfl) ?_
  refine mcons (ok_iconst dX0_weighRow_24 (by decide)) ?_
  refine mcons (ok_iald dX0_weighRow_25) ?_
  refine mcons (ok_iconst dX0_weighRow_26 (by decide)) ?_
  refine mcons (ok_cne dX0_weighRow_27 (by decide)) ?_
  refine mcons (ok_bipush dX0_weighRow_30 (by decide)) ?_
  refine mcons (ok_goto dX0_weighRow_32 (by decide)) ?_
  refine mcons (ok_bipush dX0_weighRow_35 (by decide)) ?_
  refine mcons (ok_istore_n dX0_weighRow_37 rfl (by decide)) ?_
  refine mcons (ok_aload_n dX0_weighRow_38 rfl) ?_
  refine mcons (ok_iconst dX0_weighRow_39 (by decide)) ?_
  refine mcons (ok_aload_n dX0_weighRow_40 rfl) ?_
  refine mcons (ok_iconst dX0_weighRow_41 (by decide)) ?_
  refine mcons (ok_iald dX0_weighRow_42) ?_
  refine mcons (ok_aload_n dX0_weighRow_43 rfl) ?_
  refine mcons (ok_iload_n dX0_weighRow_44 rfl) ?_
  refine mcons (ok_iald dX0_weighRow_45) ?_
  refine mcons (ok_imul dX0_weighRow_46) ?_
  refine mcons (ok_iast dX0_weighRow_47) ?_
  refine mcons (ok_aload_n dX0_weighRow_48 rfl) ?_
  refine mcons (ok_iconst dX0_weighRow_49 (by decide)) ?_
  refine mcons (ok_iald dX0_weighRow_50) ?_
  refine mcons (ok_istore dX0_weighRow_51 (by decide)) ?_
  refine mcons (ok_iconst dX0_weighRow_53 (by decide)) ?_
  refine mcons (ok_istore dX0_weighRow_54 (by decide)) ?_
  refine mcons (ok_iload dX0_weighRow_56) ?_
  refine mcons (ok_iconst dX0_weighRow_58 (by decide)) ?_
  refine mcons (ok_cge dX0_weighRow_59 (by decide)) ?_
  refine mcons (ok_iload dX0_weighRow_62) ?_
  refine mcons (ok_aload_n dX0_weighRow_64 rfl) ?_
  refine mcons (ok_bipush dX0_weighRow_65 (by decide)) ?_
  refine mcons (ok_iload dX0_weighRow_67) ?_
  refine mcons (ok_iadd dX0_weighRow_69) ?_
  refine mcons (ok_iald dX0_weighRow_70) ?_
  refine mcons (ok_aload_n dX0_weighRow_71 rfl) ?_
  refine mcons (ok_getf 0 dX0_weighRow_72 rfl mX0 (by decide) wq_0 rfl) ?_
  refine mcons (ok_iload dX0_weighRow_75) ?_
  refine mcons (ok_aald dX0_weighRow_77) ?_
  refine mcons (ok_iload_n dX0_weighRow_78 rfl) ?_
  refine mcons (ok_iald dX0_weighRow_79) ?_
  refine mcons (ok_imul dX0_weighRow_80) ?_
  refine mcons (ok_iadd dX0_weighRow_81) ?_
  refine mcons (ok_istore dX0_weighRow_82 (by decide)) ?_
  refine mcons (ok_iinc dX0_weighRow_84 (by decide) (by decide)) ?_
  refine mcons (ok_goto dX0_weighRow_87 (by decide)) ?_
  refine mcons (ok_aload_n dX0_weighRow_90 rfl) ?_
  refine mcons (ok_iconst dX0_weighRow_91 (by decide)) ?_
  refine mcons (ok_iload dX0_weighRow_92) ?_
  refine mcons (ok_iast dX0_weighRow_94) ?_
  exact mnil
abbrev KX0_weighRow (l : Launch) (D : va_G) (ca : Nat → ClassId) (ad : Nat → Nat) : List Value → mW → Option Value → mW → Prop := mC l 0 yX0_weighRow cX0_weighRow 6 none D ca ad
def CFX0_weighRow (l : Launch) (D : va_G) (ca : Nat → ClassId) (ad : Nat → Nat) (G : mS → Prop) : Prop := True
theorem PX0_weighRow {l : Launch} {D : va_G} {ca : Nat → ClassId} {ad : Nat → Nat} {av : List Value} {w : mW} {w2 : mW} (hlen : (lg_sl av).length ≤ 6) (body : ∀ G : mS → Prop, mTb G tbX0_weighRow → CFX0_weighRow l D ca ad G → mRet G none w2 [22, 95] → G (0, lv_args 0 av, [], w)) : KX0_weighRow l D ca ad av w none w2 :=
  mPackV [22, 95] (by decide +kernel) hlen tkX0_weighRow (fun p e s m args below meth c A Q hX => trivial) (List.forall_mem_cons.mpr ⟨dX0_weighRow_22, List.forall_mem_cons.mpr ⟨dX0_weighRow_95, fun _ h => absurd h List.not_mem_nil⟩⟩) body
/-! X0 change -/
def tbX0_change : List (Nat × mR) := [(0, r_aload 1 0), (1, r_getf 4 0 0), (4, r_iload 5 1), (5, r_aald 6), (6, r_iload 7 2), (7, r_iald 8), (8, r_istore 10 4), (10, r_aload 11 0), (11, r_getf 14 0 0), (14, r_iload 15 1), (15, r_aald 16), (16, r_iload 17 2), (17, r_iload 18 3), (18, r_iast 19), (19, r_ic 20 0), (20, r_istore 22 5), (22, r_iload 24 5), (24, r_ic 25 4), (25, r_cge 28 40), (28, r_aload 29 0), (29, r_iload 31 5), (34, r_iinc 37 5 1), (37, r_goto 22), (40, r_iload 42 4)]
theorem tkX0_change : ∀ q ∈ tbX0_change, mOk cX0_change RX0 6 q.1 q.2 := by
  unfold tbX0_change
  refine mcons (ok_aload_n dX0_change_0 rfl) ?_
  refine mcons (ok_getf 0 dX0_change_1 rfl mX0 (by decide) wq_0 rfl) ?_
  refine mcons (ok_iload_n dX0_change_4 rfl) ?_
  refine mcons (ok_aald dX0_change_5) ?_
  refine mcons (ok_iload_n dX0_change_6 rfl) ?_
  refine mcons (ok_iald dX0_change_7) ?_
  refine mcons (ok_istore dX0_change_8 (by decide)) ?_
  refine mcons (ok_aload_n dX0_change_10 rfl) ?_
  refine mcons (ok_getf 0 dX0_change_11 rfl mX0 (by decide) wq_0 rfl) ?_
  refine mcons (ok_iload_n dX0_change_14 rfl) ?_
  refine mcons (ok_aald dX0_change_15) ?_
  refine mcons (ok_iload_n dX0_change_16 rfl) ?_
  refine mcons (ok_iload_n dX0_change_17 rfl) ?_
  refine mcons (ok_iast dX0_change_18) ?_
  refine mcons (ok_iconst dX0_change_19 (by decide)) ?_
  refine mcons (ok_istore dX0_change_20 (by decide)) ?_
  refine mcons (ok_iload dX0_change_22) ?_
  refine mcons (ok_iconst dX0_change_24 (by decide)) ?_
  refine mcons (ok_cge dX0_change_25 (by decide)) ?_
  refine mcons (ok_aload_n dX0_change_28 rfl) ?_
  refine mcons (ok_iload dX0_change_29) ?_
  refine mcons (ok_iinc dX0_change_34 (by decide) (by decide)) ?_
  refine mcons (ok_goto dX0_change_37 (by decide)) ?_
  refine mcons (ok_iload dX0_change_40) ?_
  exact mnil
abbrev KX0_change (l : Launch) (D : va_G) (ca : Nat → ClassId) (ad : Nat → Nat) : List Value → mW → Option Value → mW → Prop := mC l 1 yX0_change cX0_change 6 (some .int) D ca ad
def CFX0_change (l : Launch) (D : va_G) (ca : Nat → ClassId) (ad : Nat → Nat) (G : mS → Prop) : Prop := mCallV G (KX0_weighRow l D ca ad) 31 0 1
theorem PX0_change {l : Launch} {D : va_G} {ca : Nat → ClassId} {ad : Nat → Nat} {av : List Value} {w : mW} {x : Int32} {w2 : mW} (hlen : (lg_sl av).length ≤ 6) (body : ∀ G : mS → Prop, mTb G tbX0_change → CFX0_change l D ca ad G → mRet G (some (.int x)) w2 [42] → G (0, lv_args 0 av, [], w)) : KX0_change l D ca ad av w (some (.int x)) w2 :=
  mPackI [42] (by decide +kernel) hlen tkX0_change (fun p e s m args below meth c A Q hX => mCallV_ok (T := TX0) (N := 1) hX dX0_change_31 rfl ⟨wq_3, wq_1, wq_2, by decide +kernel, by decide +kernel, by decide +kernel⟩ wq_4 wq_5 (by decide) (by decide)) (List.forall_mem_cons.mpr ⟨dX0_change_42, fun _ h => absurd h List.not_mem_nil⟩) body
/-! X0 copyRows -/
def tbX0_copyRows : List (Nat × mR) := [(0, r_iload 1 2), (1, r_istore 3 4), (3, r_iload 5 4), (5, r_iload 6 3), (6, r_cge 9 42), (9, r_iload 11 4), (11, r_ic 12 4), (12, r_cge 15 42), (15, r_aload 16 1), (16, r_getf 19 0 0), (19, r_iload 21 4), (21, r_aald 22), (22, r_ic 23 0), (23, r_aload 24 0), (24, r_getf 27 0 0), (27, r_iload 29 4), (29, r_aald 30), (30, r_ic 31 0), (31, r_ic 33 23), (36, r_iinc 39 4 1), (39, r_goto 3)]
theorem tkX0_copyRows : ∀ q ∈ tbX0_copyRows, mOk cX0_copyRows RX0 5 q.1 q.2 := by
  unfold tbX0_copyRows
  refine mcons (ok_iload_n dX0_copyRows_0 rfl) ?_
  refine mcons (ok_istore dX0_copyRows_1 (by decide)) ?_
  refine mcons (ok_iload dX0_copyRows_3) ?_
  refine mcons (ok_iload_n dX0_copyRows_5 rfl) ?_
  refine mcons (ok_cge dX0_copyRows_6 (by decide)) ?_
  refine mcons (ok_iload dX0_copyRows_9) ?_
  refine mcons (ok_iconst dX0_copyRows_11 (by decide)) ?_
  refine mcons (ok_cge dX0_copyRows_12 (by decide)) ?_
  refine mcons (ok_aload_n dX0_copyRows_15 rfl) ?_
  refine mcons (ok_getf 0 dX0_copyRows_16 rfl mX0 (by decide) wq_0 rfl) ?_
  refine mcons (ok_iload dX0_copyRows_19) ?_
  refine mcons (ok_aald dX0_copyRows_21) ?_
  refine mcons (ok_iconst dX0_copyRows_22 (by decide)) ?_
  refine mcons (ok_aload_n dX0_copyRows_23 rfl) ?_
  refine mcons (ok_getf 0 dX0_copyRows_24 rfl mX0 (by decide) wq_0 rfl) ?_
  refine mcons (ok_iload dX0_copyRows_27) ?_
  refine mcons (ok_aald dX0_copyRows_29) ?_
  refine mcons (ok_iconst dX0_copyRows_30 (by decide)) ?_
  refine mcons (ok_bipush dX0_copyRows_31 (by decide)) ?_
  refine mcons (ok_iinc dX0_copyRows_36 (by decide) (by decide)) ?_
  refine mcons (ok_goto dX0_copyRows_39 (by decide)) ?_
  exact mnil
abbrev KX0_copyRows (l : Launch) (D : va_G) (ca : Nat → ClassId) (ad : Nat → Nat) : List Value → mW → Option Value → mW → Prop := mC l 2 yX0_copyRows cX0_copyRows 5 none D ca ad
def CFX0_copyRows (l : Launch) (D : va_G) (ca : Nat → ClassId) (ad : Nat → Nat) (G : mS → Prop) : Prop := mCopy G 33
theorem PX0_copyRows {l : Launch} {D : va_G} {ca : Nat → ClassId} {ad : Nat → Nat} {av : List Value} {w : mW} {w2 : mW} (hlen : (lg_sl av).length ≤ 5) (body : ∀ G : mS → Prop, mTb G tbX0_copyRows → CFX0_copyRows l D ca ad G → mRet G none w2 [42] → G (0, lv_args 0 av, [], w)) : KX0_copyRows l D ca ad av w none w2 :=
  mPackV [42] (by decide +kernel) hlen tkX0_copyRows (fun p e s m args below meth c A Q hX => mCopy_ok hX dX0_copyRows_33 wq_6 wq_7 wq_8 wq_9 (by decide) (by decide)) (List.forall_mem_cons.mpr ⟨dX0_copyRows_42, fun _ h => absurd h List.not_mem_nil⟩) body
/-! X0 tableCell -/
def tbX0_tableCell : List (Nat × mR) := [(0, r_aload 1 0), (1, r_getf 4 0 0), (4, r_iload 5 2), (5, r_aald 6), (6, r_astore 7 3), (7, r_iload 8 2), (8, r_iload 9 1), (9, r_cne 12 18), (12, r_aload 13 3), (13, r_ic 14 0), (14, r_iald 15), (15, r_goto 19), (18, r_ic 19 0), (19, r_istore 21 4), (21, r_aload 22 3), (22, r_ic 23 4), (23, r_iload 24 1), (24, r_ii 25 (fun x y => x + y)), (25, r_iald 26), (26, r_istore 28 5), (28, r_aload 29 3), (29, r_ic 30 1), (30, r_iald 31), (31, r_ic 32 2), (32, r_cne 35 48), (35, r_iload 37 4), (37, r_aload 38 3), (38, r_ic 40 8), (40, r_iload 41 1), (41, r_ii 42 (fun x y => x + y)), (42, r_iald 43), (43, r_ii 44 (fun x y => x + y)), (44, r_iload 46 5), (46, r_ii 47 (fun x y => x - y)), (48, r_iload 50 4), (50, r_aload 51 3), (51, r_ic 52 3), (52, r_iald 53), (53, r_ii 54 (fun x y => x * y)), (54, r_iload 56 5), (56, r_aload 57 3), (57, r_ic 58 2), (58, r_iald 59), (59, r_ii 60 (fun x y => x * y)), (60, r_ii 61 (fun x y => x - y))]
theorem tkX0_tableCell : ∀ q ∈ tbX0_tableCell, mOk cX0_tableCell RX0 6 q.1 q.2 := by
  unfold tbX0_tableCell
  refine mcons (ok_aload_n dX0_tableCell_0 rfl) ?_
  refine mcons (ok_getf 0 dX0_tableCell_1 rfl mX0 (by decide) wq_0 rfl) ?_
  refine mcons (ok_iload_n dX0_tableCell_4 rfl) ?_
  refine mcons (ok_aald dX0_tableCell_5) ?_
  refine mcons (ok_astore_n dX0_tableCell_6 rfl (by decide)) ?_
  refine mcons (ok_iload_n dX0_tableCell_7 rfl) ?_
  refine mcons (ok_iload_n dX0_tableCell_8 rfl) ?_
  refine mcons (ok_cne dX0_tableCell_9 (by decide)) ?_
  refine mcons (ok_aload_n dX0_tableCell_12 rfl) ?_
  refine mcons (ok_iconst dX0_tableCell_13 (by decide)) ?_
  refine mcons (ok_iald dX0_tableCell_14) ?_
  refine mcons (ok_goto dX0_tableCell_15 (by decide)) ?_
  refine mcons (ok_iconst dX0_tableCell_18 (by decide)) ?_
  refine mcons (ok_istore dX0_tableCell_19 (by decide)) ?_
  refine mcons (ok_aload_n dX0_tableCell_21 rfl) ?_
  refine mcons (ok_iconst dX0_tableCell_22 (by decide)) ?_
  refine mcons (ok_iload_n dX0_tableCell_23 rfl) ?_
  refine mcons (ok_iadd dX0_tableCell_24) ?_
  refine mcons (ok_iald dX0_tableCell_25) ?_
  refine mcons (ok_istore dX0_tableCell_26 (by decide)) ?_
  refine mcons (ok_aload_n dX0_tableCell_28 rfl) ?_
  refine mcons (ok_iconst dX0_tableCell_29 (by decide)) ?_
  refine mcons (ok_iald dX0_tableCell_30) ?_
  refine mcons (ok_iconst dX0_tableCell_31 (by decide)) ?_
  refine mcons (ok_cne dX0_tableCell_32 (by decide)) ?_
  refine mcons (ok_iload dX0_tableCell_35) ?_
  refine mcons (ok_aload_n dX0_tableCell_37 rfl) ?_
  refine mcons (ok_bipush dX0_tableCell_38 (by decide)) ?_
  refine mcons (ok_iload_n dX0_tableCell_40 rfl) ?_
  refine mcons (ok_iadd dX0_tableCell_41) ?_
  refine mcons (ok_iald dX0_tableCell_42) ?_
  refine mcons (ok_iadd dX0_tableCell_43) ?_
  refine mcons (ok_iload dX0_tableCell_44) ?_
  refine mcons (ok_isub dX0_tableCell_46) ?_
  refine mcons (ok_iload dX0_tableCell_48) ?_
  refine mcons (ok_aload_n dX0_tableCell_50 rfl) ?_
  refine mcons (ok_iconst dX0_tableCell_51 (by decide)) ?_
  refine mcons (ok_iald dX0_tableCell_52) ?_
  refine mcons (ok_imul dX0_tableCell_53) ?_
  refine mcons (ok_iload dX0_tableCell_54) ?_
  refine mcons (ok_aload_n dX0_tableCell_56 rfl) ?_
  refine mcons (ok_iconst dX0_tableCell_57 (by decide)) ?_
  refine mcons (ok_iald dX0_tableCell_58) ?_
  refine mcons (ok_imul dX0_tableCell_59) ?_
  refine mcons (ok_isub dX0_tableCell_60) ?_
  exact mnil
abbrev KX0_tableCell (l : Launch) (D : va_G) (ca : Nat → ClassId) (ad : Nat → Nat) : List Value → mW → Option Value → mW → Prop := mC l 0 yX0_tableCell cX0_tableCell 6 (some .int) D ca ad
def CFX0_tableCell (l : Launch) (D : va_G) (ca : Nat → ClassId) (ad : Nat → Nat) (G : mS → Prop) : Prop := True
theorem PX0_tableCell {l : Launch} {D : va_G} {ca : Nat → ClassId} {ad : Nat → Nat} {av : List Value} {w : mW} {x : Int32} {w2 : mW} (hlen : (lg_sl av).length ≤ 6) (body : ∀ G : mS → Prop, mTb G tbX0_tableCell → CFX0_tableCell l D ca ad G → mRet G (some (.int x)) w2 [47, 61] → G (0, lv_args 0 av, [], w)) : KX0_tableCell l D ca ad av w (some (.int x)) w2 :=
  mPackI [47, 61] (by decide +kernel) hlen tkX0_tableCell (fun p e s m args below meth c A Q hX => trivial) (List.forall_mem_cons.mpr ⟨dX0_tableCell_47, List.forall_mem_cons.mpr ⟨dX0_tableCell_61, fun _ h => absurd h List.not_mem_nil⟩⟩) body
/-! X2 placeOfEmits -/
def tbX2_placeOfEmits : List (Nat × mR) := [(0, r_ic 2 12), (2, r_ic 3 3), (3, r_iload 4 1), (4, r_ii 5 (fun x y => x * y)), (5, r_ii 6 (fun x y => x + y)), (6, r_iload 7 0), (7, r_ii 8 (fun x y => x + y))]
theorem tkX2_placeOfEmits : ∀ q ∈ tbX2_placeOfEmits, mOk cX2_placeOfEmits RX2 2 q.1 q.2 := by
  unfold tbX2_placeOfEmits
  refine mcons (ok_bipush dX2_placeOfEmits_0 (by decide)) ?_
  refine mcons (ok_iconst dX2_placeOfEmits_2 (by decide)) ?_
  refine mcons (ok_iload_n dX2_placeOfEmits_3 rfl) ?_
  refine mcons (ok_imul dX2_placeOfEmits_4) ?_
  refine mcons (ok_iadd dX2_placeOfEmits_5) ?_
  refine mcons (ok_iload_n dX2_placeOfEmits_6 rfl) ?_
  refine mcons (ok_iadd dX2_placeOfEmits_7) ?_
  exact mnil
abbrev KX2_placeOfEmits (l : Launch) (D : va_G) (ca : Nat → ClassId) (ad : Nat → Nat) : List Value → mW → Option Value → mW → Prop := mC l 0 yX2_placeOfEmits cX2_placeOfEmits 2 (some .int) D ca ad
def CFX2_placeOfEmits (l : Launch) (D : va_G) (ca : Nat → ClassId) (ad : Nat → Nat) (G : mS → Prop) : Prop := True
theorem PX2_placeOfEmits {l : Launch} {D : va_G} {ca : Nat → ClassId} {ad : Nat → Nat} {av : List Value} {w : mW} {x : Int32} {w2 : mW} (hlen : (lg_sl av).length ≤ 2) (body : ∀ G : mS → Prop, mTb G tbX2_placeOfEmits → CFX2_placeOfEmits l D ca ad G → mRet G (some (.int x)) w2 [8] → G (0, lv_args 0 av, [], w)) : KX2_placeOfEmits l D ca ad av w (some (.int x)) w2 :=
  mPackI [8] (by decide +kernel) hlen tkX2_placeOfEmits (fun p e s m args below meth c A Q hX => trivial) (List.forall_mem_cons.mpr ⟨dX2_placeOfEmits_8, fun _ h => absurd h List.not_mem_nil⟩) body
/-! X0 emission -/
def tbX0_emission : List (Nat × mR) := [(0, r_aload 1 0), (1, r_getf 4 0 0), (4, r_iload 5 1), (5, r_aald 6), (6, r_iload 7 2), (7, r_iload 8 3), (11, r_iald 12), (12, r_aload 13 0), (13, r_getf 16 0 0), (16, r_iload 17 1), (17, r_aald 18), (18, r_ic 19 2), (19, r_iald 20), (20, r_ii 21 (fun x y => x * y)), (21, r_i2l 22)]
theorem tkX0_emission : ∀ q ∈ tbX0_emission, mOk cX0_emission RX0 4 q.1 q.2 := by
  unfold tbX0_emission
  refine mcons (ok_aload_n dX0_emission_0 rfl) ?_
  refine mcons (ok_getf 0 dX0_emission_1 rfl mX0 (by decide) wq_0 rfl) ?_
  refine mcons (ok_iload_n dX0_emission_4 rfl) ?_
  refine mcons (ok_aald dX0_emission_5) ?_
  refine mcons (ok_iload_n dX0_emission_6 rfl) ?_
  refine mcons (ok_iload_n dX0_emission_7 rfl) ?_
  refine mcons (ok_iald dX0_emission_11) ?_
  refine mcons (ok_aload_n dX0_emission_12 rfl) ?_
  refine mcons (ok_getf 0 dX0_emission_13 rfl mX0 (by decide) wq_0 rfl) ?_
  refine mcons (ok_iload_n dX0_emission_16 rfl) ?_
  refine mcons (ok_aald dX0_emission_17) ?_
  refine mcons (ok_iconst dX0_emission_18 (by decide)) ?_
  refine mcons (ok_iald dX0_emission_19) ?_
  refine mcons (ok_imul dX0_emission_20) ?_
  refine mcons (ok_i2l dX0_emission_21) ?_
  exact mnil
abbrev KX0_emission (l : Launch) (D : va_G) (ca : Nat → ClassId) (ad : Nat → Nat) : List Value → mW → Option Value → mW → Prop := mC l 1 yX0_emission cX0_emission 4 (some .long) D ca ad
def CFX0_emission (l : Launch) (D : va_G) (ca : Nat → ClassId) (ad : Nat → Nat) (G : mS → Prop) : Prop := mCallS G (KX2_placeOfEmits l D ca ad) 8 2
theorem PX0_emission {l : Launch} {D : va_G} {ca : Nat → ClassId} {ad : Nat → Nat} {av : List Value} {w : mW} {x : Int64} {w2 : mW} (hlen : (lg_sl av).length ≤ 4) (body : ∀ G : mS → Prop, mTb G tbX0_emission → CFX0_emission l D ca ad G → mRet G (some (.long x)) w2 [22] → G (0, lv_args 0 av, [], w)) : KX0_emission l D ca ad av w (some (.long x)) w2 :=
  mPackL [22] (by decide +kernel) hlen tkX0_emission (fun p e s m args below meth c A Q hX => mCallN_ok hX dX0_emission_8 wq_10 wq_11 wq_12 (by decide) (by decide)) (List.forall_mem_cons.mpr ⟨dX0_emission_22, fun _ h => absurd h List.not_mem_nil⟩) body
/-! X0 hasByProducts -/
def tbX0_hasByProducts : List (Nat × mR) := [(0, r_ic 1 0), (1, r_istore 2 2), (2, r_iload 3 2), (3, r_ic 4 4), (4, r_cge 7 29), (7, r_aload 8 0), (8, r_getf 11 0 0), (11, r_iload 12 1), (12, r_aald 13), (13, r_ic 15 8), (15, r_iload 16 2), (16, r_ii 17 (fun x y => x + y)), (17, r_iald 18), (18, r_ifle 21 23), (21, r_ic 22 1), (23, r_iinc 26 2 1), (26, r_goto 2), (29, r_ic 30 0)]
theorem tkX0_hasByProducts : ∀ q ∈ tbX0_hasByProducts, mOk cX0_hasByProducts RX0 3 q.1 q.2 := by
  unfold tbX0_hasByProducts
  refine mcons (ok_iconst dX0_hasByProducts_0 (by decide)) ?_
  refine mcons (ok_istore_n dX0_hasByProducts_1 rfl (by decide)) ?_
  refine mcons (ok_iload_n dX0_hasByProducts_2 rfl) ?_
  refine mcons (ok_iconst dX0_hasByProducts_3 (by decide)) ?_
  refine mcons (ok_cge dX0_hasByProducts_4 (by decide)) ?_
  refine mcons (ok_aload_n dX0_hasByProducts_7 rfl) ?_
  refine mcons (ok_getf 0 dX0_hasByProducts_8 rfl mX0 (by decide) wq_0 rfl) ?_
  refine mcons (ok_iload_n dX0_hasByProducts_11 rfl) ?_
  refine mcons (ok_aald dX0_hasByProducts_12) ?_
  refine mcons (ok_bipush dX0_hasByProducts_13 (by decide)) ?_
  refine mcons (ok_iload_n dX0_hasByProducts_15 rfl) ?_
  refine mcons (ok_iadd dX0_hasByProducts_16) ?_
  refine mcons (ok_iald dX0_hasByProducts_17) ?_
  refine mcons (ok_ifle dX0_hasByProducts_18 (by decide)) ?_
  refine mcons (ok_iconst dX0_hasByProducts_21 (by decide)) ?_
  refine mcons (ok_iinc dX0_hasByProducts_23 (by decide) (by decide)) ?_
  refine mcons (ok_goto dX0_hasByProducts_26 (by decide)) ?_
  refine mcons (ok_iconst dX0_hasByProducts_29 (by decide)) ?_
  exact mnil
abbrev KX0_hasByProducts (l : Launch) (D : va_G) (ca : Nat → ClassId) (ad : Nat → Nat) : List Value → mW → Option Value → mW → Prop := mC l 0 yX0_hasByProducts cX0_hasByProducts 3 (some .boolean) D ca ad
def CFX0_hasByProducts (l : Launch) (D : va_G) (ca : Nat → ClassId) (ad : Nat → Nat) (G : mS → Prop) : Prop := True
theorem PX0_hasByProducts {l : Launch} {D : va_G} {ca : Nat → ClassId} {ad : Nat → Nat} {av : List Value} {w : mW} {x : Int32} {w2 : mW} (hlen : (lg_sl av).length ≤ 3) (hx : x = 0 ∨ x = 1) (body : ∀ G : mS → Prop, mTb G tbX0_hasByProducts → CFX0_hasByProducts l D ca ad G → mRet G (some (.int x)) w2 [22, 30] → G (0, lv_args 0 av, [], w)) : KX0_hasByProducts l D ca ad av w (some (.int x)) w2 :=
  mPackZ [22, 30] (by decide +kernel) hlen tkX0_hasByProducts (fun p e s m args below meth c A Q hX => trivial) (List.forall_mem_cons.mpr ⟨dX0_hasByProducts_22, List.forall_mem_cons.mpr ⟨dX0_hasByProducts_30, fun _ h => absurd h List.not_mem_nil⟩⟩) hx body
/-! J9 min_7cf53 -/
def tbJ9_min_7cf53 : List (Nat × mR) := [(0, r_iload 1 0), (1, r_iload 2 1), (2, r_cgt 5 9), (5, r_iload 6 0), (6, r_goto 10), (9, r_iload 10 1)]
theorem tkJ9_min_7cf53 : ∀ q ∈ tbJ9_min_7cf53, mOk cJ9_min_7cf53 RJ9 2 q.1 q.2 := by
  unfold tbJ9_min_7cf53
  refine mcons (ok_iload_n dJ9_min_7cf53_0 rfl) ?_
  refine mcons (ok_iload_n dJ9_min_7cf53_1 rfl) ?_
  refine mcons (ok_cgt dJ9_min_7cf53_2 (by decide)) ?_
  refine mcons (ok_iload_n dJ9_min_7cf53_5 rfl) ?_
  refine mcons (ok_goto dJ9_min_7cf53_6 (by decide)) ?_
  refine mcons (ok_iload_n dJ9_min_7cf53_9 rfl) ?_
  exact mnil
abbrev KJ9_min_7cf53 (l : Launch) (D : va_G) (ca : Nat → ClassId) (ad : Nat → Nat) : List Value → mW → Option Value → mW → Prop := mC l 0 yJ9_min_7cf53 cJ9_min_7cf53 2 (some .int) D ca ad
def CFJ9_min_7cf53 (l : Launch) (D : va_G) (ca : Nat → ClassId) (ad : Nat → Nat) (G : mS → Prop) : Prop := True
theorem PJ9_min_7cf53 {l : Launch} {D : va_G} {ca : Nat → ClassId} {ad : Nat → Nat} {av : List Value} {w : mW} {x : Int32} {w2 : mW} (hlen : (lg_sl av).length ≤ 2) (body : ∀ G : mS → Prop, mTb G tbJ9_min_7cf53 → CFJ9_min_7cf53 l D ca ad G → mRet G (some (.int x)) w2 [10] → G (0, lv_args 0 av, [], w)) : KJ9_min_7cf53 l D ca ad av w (some (.int x)) w2 :=
  mPackI [10] (by decide +kernel) hlen tkJ9_min_7cf53 (fun p e s m args below meth c A Q hX => trivial) (List.forall_mem_cons.mpr ⟨dJ9_min_7cf53_10, fun _ h => absurd h List.not_mem_nil⟩) body
/-! J6 bitCount_0f7a4 -/
def tbJ6_bitCount_0f7a4 : List (Nat × mR) := [(0, r_iload 1 0), (1, r_iload 2 0), (2, r_ic 3 1), (3, r_ii 4 (fun x y => (x.toUInt32 >>> (y.toUInt32 &&& Int32.toUInt32 31)).toInt32)), (4, r_ic 7 (1431655765)), (7, r_ii 8 (fun x y => x &&& y)), (8, r_ii 9 (fun x y => x - y)), (9, r_istore 10 0), (10, r_iload 11 0), (11, r_ic 14 (858993459)), (14, r_ii 15 (fun x y => x &&& y)), (15, r_iload 16 0), (16, r_ic 17 2), (17, r_ii 18 (fun x y => (x.toUInt32 >>> (y.toUInt32 &&& Int32.toUInt32 31)).toInt32)), (18, r_ic 21 (858993459)), (21, r_ii 22 (fun x y => x &&& y)), (22, r_ii 23 (fun x y => x + y)), (23, r_istore 24 0), (24, r_iload 25 0), (25, r_iload 26 0), (26, r_ic 27 4), (27, r_ii 28 (fun x y => (x.toUInt32 >>> (y.toUInt32 &&& Int32.toUInt32 31)).toInt32)), (28, r_ii 29 (fun x y => x + y)), (29, r_ic 32 (252645135)), (32, r_ii 33 (fun x y => x &&& y)), (33, r_istore 34 0), (34, r_iload 35 0), (35, r_iload 36 0), (36, r_ic 38 8), (38, r_ii 39 (fun x y => (x.toUInt32 >>> (y.toUInt32 &&& Int32.toUInt32 31)).toInt32)), (39, r_ii 40 (fun x y => x + y)), (40, r_istore 41 0), (41, r_iload 42 0), (42, r_iload 43 0), (43, r_ic 45 16), (45, r_ii 46 (fun x y => (x.toUInt32 >>> (y.toUInt32 &&& Int32.toUInt32 31)).toInt32)), (46, r_ii 47 (fun x y => x + y)), (47, r_istore 48 0), (48, r_iload 49 0), (49, r_ic 51 63), (51, r_ii 52 (fun x y => x &&& y))]
theorem tkJ6_bitCount_0f7a4 : ∀ q ∈ tbJ6_bitCount_0f7a4, mOk cJ6_bitCount_0f7a4 RJ6 1 q.1 q.2 := by
  unfold tbJ6_bitCount_0f7a4
  refine mcons (ok_iload_n dJ6_bitCount_0f7a4_0 rfl) ?_
  refine mcons (ok_iload_n dJ6_bitCount_0f7a4_1 rfl) ?_
  refine mcons (ok_iconst dJ6_bitCount_0f7a4_2 (by decide)) ?_
  refine mcons (ok_iushr dJ6_bitCount_0f7a4_3) ?_
  refine mcons (ok_ldcw dJ6_bitCount_0f7a4_4 wq_13) ?_
  refine mcons (ok_iand dJ6_bitCount_0f7a4_7) ?_
  refine mcons (ok_isub dJ6_bitCount_0f7a4_8) ?_
  refine mcons (ok_istore_n dJ6_bitCount_0f7a4_9 rfl (by decide)) ?_
  refine mcons (ok_iload_n dJ6_bitCount_0f7a4_10 rfl) ?_
  refine mcons (ok_ldcw dJ6_bitCount_0f7a4_11 wq_14) ?_
  refine mcons (ok_iand dJ6_bitCount_0f7a4_14) ?_
  refine mcons (ok_iload_n dJ6_bitCount_0f7a4_15 rfl) ?_
  refine mcons (ok_iconst dJ6_bitCount_0f7a4_16 (by decide)) ?_
  refine mcons (ok_iushr dJ6_bitCount_0f7a4_17) ?_
  refine mcons (ok_ldcw dJ6_bitCount_0f7a4_18 wq_14) ?_
  refine mcons (ok_iand dJ6_bitCount_0f7a4_21) ?_
  refine mcons (ok_iadd dJ6_bitCount_0f7a4_22) ?_
  refine mcons (ok_istore_n dJ6_bitCount_0f7a4_23 rfl (by decide)) ?_
  refine mcons (ok_iload_n dJ6_bitCount_0f7a4_24 rfl) ?_
  refine mcons (ok_iload_n dJ6_bitCount_0f7a4_25 rfl) ?_
  refine mcons (ok_iconst dJ6_bitCount_0f7a4_26 (by decide)) ?_
  refine mcons (ok_iushr dJ6_bitCount_0f7a4_27) ?_
  refine mcons (ok_iadd dJ6_bitCount_0f7a4_28) ?_
  refine mcons (ok_ldcw dJ6_bitCount_0f7a4_29 wq_15) ?_
  refine mcons (ok_iand dJ6_bitCount_0f7a4_32) ?_
  refine mcons (ok_istore_n dJ6_bitCount_0f7a4_33 rfl (by decide)) ?_
  refine mcons (ok_iload_n dJ6_bitCount_0f7a4_34 rfl) ?_
  refine mcons (ok_iload_n dJ6_bitCount_0f7a4_35 rfl) ?_
  refine mcons (ok_bipush dJ6_bitCount_0f7a4_36 (by decide)) ?_
  refine mcons (ok_iushr dJ6_bitCount_0f7a4_38) ?_
  refine mcons (ok_iadd dJ6_bitCount_0f7a4_39) ?_
  refine mcons (ok_istore_n dJ6_bitCount_0f7a4_40 rfl (by decide)) ?_
  refine mcons (ok_iload_n dJ6_bitCount_0f7a4_41 rfl) ?_
  refine mcons (ok_iload_n dJ6_bitCount_0f7a4_42 rfl) ?_
  refine mcons (ok_bipush dJ6_bitCount_0f7a4_43 (by decide)) ?_
  refine mcons (ok_iushr dJ6_bitCount_0f7a4_45) ?_
  refine mcons (ok_iadd dJ6_bitCount_0f7a4_46) ?_
  refine mcons (ok_istore_n dJ6_bitCount_0f7a4_47 rfl (by decide)) ?_
  refine mcons (ok_iload_n dJ6_bitCount_0f7a4_48 rfl) ?_
  refine mcons (ok_bipush dJ6_bitCount_0f7a4_49 (by decide)) ?_
  refine mcons (ok_iand dJ6_bitCount_0f7a4_51) ?_
  exact mnil
abbrev KJ6_bitCount_0f7a4 (l : Launch) (D : va_G) (ca : Nat → ClassId) (ad : Nat → Nat) : List Value → mW → Option Value → mW → Prop := mC l 0 yJ6_bitCount_0f7a4 cJ6_bitCount_0f7a4 1 (some .int) D ca ad
def CFJ6_bitCount_0f7a4 (l : Launch) (D : va_G) (ca : Nat → ClassId) (ad : Nat → Nat) (G : mS → Prop) : Prop := True
theorem PJ6_bitCount_0f7a4 {l : Launch} {D : va_G} {ca : Nat → ClassId} {ad : Nat → Nat} {av : List Value} {w : mW} {x : Int32} {w2 : mW} (hlen : (lg_sl av).length ≤ 1) (body : ∀ G : mS → Prop, mTb G tbJ6_bitCount_0f7a4 → CFJ6_bitCount_0f7a4 l D ca ad G → mRet G (some (.int x)) w2 [52] → G (0, lv_args 0 av, [], w)) : KJ6_bitCount_0f7a4 l D ca ad av w (some (.int x)) w2 :=
  mPackI [52] (by decide +kernel) hlen tkJ6_bitCount_0f7a4 (fun p e s m args below meth c A Q hX => trivial) (List.forall_mem_cons.mpr ⟨dJ6_bitCount_0f7a4_52, fun _ h => absurd h List.not_mem_nil⟩) body
/-! X1 minorOf -/
def tbX1_minorOf : List (Nat × mR) := [(0, r_iload 1 1), (4, r_ic 5 1), (5, r_ii 6 (fun x y => x - y)), (6, r_istore 7 2), (7, r_lc 8 0), (8, r_lstore 9 3), (9, r_ic 10 0), (10, r_istore 12 5), (12, r_iload 14 5), (14, r_aload 15 0), (15, r_getf 18 1 6), (18, r_cge 21 97), (21, r_iload 22 1), (22, r_iload 24 5), (24, r_ii 25 (fun x y => x >>> (y &&& 31))), (25, r_ic 26 1), (26, r_ii 27 (fun x y => x &&& y)), (27, r_ic 28 1), (28, r_cne 31 91), (31, r_aload 32 0), (32, r_getf 35 1 3), (35, r_iload 36 2), (36, r_aald 37), (37, r_iload 39 5), (39, r_lald 40), (40, r_aload 41 0), (41, r_getf 44 1 5), (44, r_iload 45 1), (45, r_ic 46 1), (46, r_iload 48 5), (48, r_ii 49 (fun x y => x <<< (y &&& 31))), (49, r_ii 50 (fun x y => x - y)), (50, r_lald 51), (51, r_ll 52 (fun x y => x * y)), (52, r_lstore 54 6), (54, r_iload 55 1), (55, r_iload 57 5), (57, r_ic 58 1), (58, r_ii 59 (fun x y => x + y)), (59, r_ii 60 (fun x y => x >>> (y &&& 31))), (63, r_ic 64 1), (64, r_ii 65 (fun x y => x &&& y)), (65, r_ifne 68 72), (68, r_ic 69 1), (69, r_goto 73), (72, r_ic 73 0), (73, r_istore 75 8), (75, r_lload 76 3), (76, r_iload 78 8), (78, r_ifeq 81 86), (81, r_lload 83 6), (83, r_goto 89), (86, r_lload 88 6), (88, r_lneg 89), (89, r_ll 90 (fun x y => x + y)), (90, r_lstore 91 3), (91, r_iinc 94 5 1), (94, r_goto 12), (97, r_lload 98 3)]
theorem tkX1_minorOf : ∀ q ∈ tbX1_minorOf, mOk cX1_minorOf RX1 9 q.1 q.2 := by
  unfold tbX1_minorOf
  refine mcons (ok_iload_n dX1_minorOf_0 rfl) ?_
  refine mcons (ok_iconst dX1_minorOf_4 (by decide)) ?_
  refine mcons (ok_isub dX1_minorOf_5) ?_
  refine mcons (ok_istore_n dX1_minorOf_6 rfl (by decide)) ?_
  refine mcons (ok_lconst dX1_minorOf_7 (by decide)) ?_
  refine mcons (ok_lstore_n dX1_minorOf_8 rfl (by decide)) ?_
  refine mcons (ok_iconst dX1_minorOf_9 (by decide)) ?_
  refine mcons (ok_istore dX1_minorOf_10 (by decide)) ?_
  refine mcons (ok_iload dX1_minorOf_12) ?_
  refine mcons (ok_aload_n dX1_minorOf_14 rfl) ?_
  refine mcons (ok_getf 6 dX1_minorOf_15 rfl mX1 (by decide) wq_16 rfl) ?_
  refine mcons (ok_cge dX1_minorOf_18 (by decide)) ?_
  refine mcons (ok_iload_n dX1_minorOf_21 rfl) ?_
  refine mcons (ok_iload dX1_minorOf_22) ?_
  refine mcons (ok_ishr dX1_minorOf_24) ?_
  refine mcons (ok_iconst dX1_minorOf_25 (by decide)) ?_
  refine mcons (ok_iand dX1_minorOf_26) ?_
  refine mcons (ok_iconst dX1_minorOf_27 (by decide)) ?_
  refine mcons (ok_cne dX1_minorOf_28 (by decide)) ?_
  refine mcons (ok_aload_n dX1_minorOf_31 rfl) ?_
  refine mcons (ok_getf 3 dX1_minorOf_32 rfl mX1 (by decide) wq_17 rfl) ?_
  refine mcons (ok_iload_n dX1_minorOf_35 rfl) ?_
  refine mcons (ok_aald dX1_minorOf_36) ?_
  refine mcons (ok_iload dX1_minorOf_37) ?_
  refine mcons (ok_lald dX1_minorOf_39) ?_
  refine mcons (ok_aload_n dX1_minorOf_40 rfl) ?_
  refine mcons (ok_getf 5 dX1_minorOf_41 rfl mX1 (by decide) wq_18 rfl) ?_
  refine mcons (ok_iload_n dX1_minorOf_44 rfl) ?_
  refine mcons (ok_iconst dX1_minorOf_45 (by decide)) ?_
  refine mcons (ok_iload dX1_minorOf_46) ?_
  refine mcons (ok_ishl dX1_minorOf_48) ?_
  refine mcons (ok_isub dX1_minorOf_49) ?_
  refine mcons (ok_lald dX1_minorOf_50) ?_
  refine mcons (ok_lmul dX1_minorOf_51) ?_
  refine mcons (ok_lstore dX1_minorOf_52 (by decide)) ?_
  refine mcons (ok_iload_n dX1_minorOf_54 rfl) ?_
  refine mcons (ok_iload dX1_minorOf_55) ?_
  refine mcons (ok_iconst dX1_minorOf_57 (by decide)) ?_
  refine mcons (ok_iadd dX1_minorOf_58) ?_
  refine mcons (ok_ishr dX1_minorOf_59) ?_
  refine mcons (ok_iconst dX1_minorOf_63 (by decide)) ?_
  refine mcons (ok_iand dX1_minorOf_64) ?_
  refine mcons (ok_ifne dX1_minorOf_65 (by decide)) ?_
  refine mcons (ok_iconst dX1_minorOf_68 (by decide)) ?_
  refine mcons (ok_goto dX1_minorOf_69 (by decide)) ?_
  refine mcons (ok_iconst dX1_minorOf_72 (by decide)) ?_
  refine mcons (ok_istore dX1_minorOf_73 (by decide)) ?_
  refine mcons (ok_lload_n dX1_minorOf_75 rfl) ?_
  refine mcons (ok_iload dX1_minorOf_76) ?_
  refine mcons (ok_ifeq dX1_minorOf_78 (by decide)) ?_
  refine mcons (ok_lload dX1_minorOf_81) ?_
  refine mcons (ok_goto dX1_minorOf_83 (by decide)) ?_
  refine mcons (ok_lload dX1_minorOf_86) ?_
  refine mcons (ok_lneg dX1_minorOf_88) ?_
  refine mcons (ok_ladd dX1_minorOf_89) ?_
  refine mcons (ok_lstore_n dX1_minorOf_90 rfl (by decide)) ?_
  refine mcons (ok_iinc dX1_minorOf_91 (by decide) (by decide)) ?_
  refine mcons (ok_goto dX1_minorOf_94 (by decide)) ?_
  refine mcons (ok_lload_n dX1_minorOf_97 rfl) ?_
  exact mnil
abbrev KX1_minorOf (l : Launch) (D : va_G) (ca : Nat → ClassId) (ad : Nat → Nat) : List Value → mW → Option Value → mW → Prop := mC l 1 yX1_minorOf cX1_minorOf 9 (some .long) D ca ad
def CFX1_minorOf (l : Launch) (D : va_G) (ca : Nat → ClassId) (ad : Nat → Nat) (G : mS → Prop) : Prop := mCallS G (KJ6_bitCount_0f7a4 l D ca ad) 1 1 ∧ mCallS G (KJ6_bitCount_0f7a4 l D ca ad) 60 1
theorem PX1_minorOf {l : Launch} {D : va_G} {ca : Nat → ClassId} {ad : Nat → Nat} {av : List Value} {w : mW} {x : Int64} {w2 : mW} (hlen : (lg_sl av).length ≤ 9) (body : ∀ G : mS → Prop, mTb G tbX1_minorOf → CFX1_minorOf l D ca ad G → mRet G (some (.long x)) w2 [98] → G (0, lv_args 0 av, [], w)) : KX1_minorOf l D ca ad av w (some (.long x)) w2 :=
  mPackL [98] (by decide +kernel) hlen tkX1_minorOf (fun p e s m args below meth c A Q hX => ⟨mCallS_ok hX dX1_minorOf_1 ⟨wq_21, wq_19, wq_20, by decide +kernel, by decide +kernel, by decide +kernel⟩ wq_22 (by decide) (by decide), mCallS_ok hX dX1_minorOf_60 ⟨wq_21, wq_19, wq_20, by decide +kernel, by decide +kernel, by decide +kernel⟩ wq_22 (by decide) (by decide)⟩) (List.forall_mem_cons.mpr ⟨dX1_minorOf_98, fun _ h => absurd h List.not_mem_nil⟩) body
/-! X1 determinantOfTable -/
def tbX1_determinantOfTable : List (Nat × mR) := [(0, r_aload 1 0), (1, r_getf 4 1 5), (4, r_ic 5 0), (5, r_lc 6 1), (6, r_last 7), (7, r_ic 8 1), (8, r_istore 9 1), (9, r_iload 10 1), (10, r_ic 11 1), (11, r_aload 12 0), (12, r_getf 15 1 6), (15, r_ii 16 (fun x y => x <<< (y &&& 31))), (16, r_cge 19 36), (19, r_aload 20 0), (20, r_getf 23 1 5), (23, r_iload 24 1), (24, r_aload 25 0), (25, r_iload 26 1), (29, r_last 30), (30, r_iinc 33 1 1), (33, r_goto 9), (36, r_aload 37 0), (37, r_getf 40 1 5), (40, r_ic 41 1), (41, r_aload 42 0), (42, r_getf 45 1 6), (45, r_ii 46 (fun x y => x <<< (y &&& 31))), (46, r_ic 47 1), (47, r_ii 48 (fun x y => x - y)), (48, r_lald 49)]
theorem tkX1_determinantOfTable : ∀ q ∈ tbX1_determinantOfTable, mOk cX1_determinantOfTable RX1 2 q.1 q.2 := by
  unfold tbX1_determinantOfTable
  refine mcons (ok_aload_n dX1_determinantOfTable_0 rfl) ?_
  refine mcons (ok_getf 5 dX1_determinantOfTable_1 rfl mX1 (by decide) wq_18 rfl) ?_
  refine mcons (ok_iconst dX1_determinantOfTable_4 (by decide)) ?_
  refine mcons (ok_lconst dX1_determinantOfTable_5 (by decide)) ?_
  refine mcons (ok_last dX1_determinantOfTable_6) ?_
  refine mcons (ok_iconst dX1_determinantOfTable_7 (by decide)) ?_
  refine mcons (ok_istore_n dX1_determinantOfTable_8 rfl (by decide)) ?_
  refine mcons (ok_iload_n dX1_determinantOfTable_9 rfl) ?_
  refine mcons (ok_iconst dX1_determinantOfTable_10 (by decide)) ?_
  refine mcons (ok_aload_n dX1_determinantOfTable_11 rfl) ?_
  refine mcons (ok_getf 6 dX1_determinantOfTable_12 rfl mX1 (by decide) wq_16 rfl) ?_
  refine mcons (ok_ishl dX1_determinantOfTable_15) ?_
  refine mcons (ok_cge dX1_determinantOfTable_16 (by decide)) ?_
  refine mcons (ok_aload_n dX1_determinantOfTable_19 rfl) ?_
  refine mcons (ok_getf 5 dX1_determinantOfTable_20 rfl mX1 (by decide) wq_18 rfl) ?_
  refine mcons (ok_iload_n dX1_determinantOfTable_23 rfl) ?_
  refine mcons (ok_aload_n dX1_determinantOfTable_24 rfl) ?_
  refine mcons (ok_iload_n dX1_determinantOfTable_25 rfl) ?_
  refine mcons (ok_last dX1_determinantOfTable_29) ?_
  refine mcons (ok_iinc dX1_determinantOfTable_30 (by decide) (by decide)) ?_
  refine mcons (ok_goto dX1_determinantOfTable_33 (by decide)) ?_
  refine mcons (ok_aload_n dX1_determinantOfTable_36 rfl) ?_
  refine mcons (ok_getf 5 dX1_determinantOfTable_37 rfl mX1 (by decide) wq_18 rfl) ?_
  refine mcons (ok_iconst dX1_determinantOfTable_40 (by decide)) ?_
  refine mcons (ok_aload_n dX1_determinantOfTable_41 rfl) ?_
  refine mcons (ok_getf 6 dX1_determinantOfTable_42 rfl mX1 (by decide) wq_16 rfl) ?_
  refine mcons (ok_ishl dX1_determinantOfTable_45) ?_
  refine mcons (ok_iconst dX1_determinantOfTable_46 (by decide)) ?_
  refine mcons (ok_isub dX1_determinantOfTable_47) ?_
  refine mcons (ok_lald dX1_determinantOfTable_48) ?_
  exact mnil
abbrev KX1_determinantOfTable (l : Launch) (D : va_G) (ca : Nat → ClassId) (ad : Nat → Nat) : List Value → mW → Option Value → mW → Prop := mC l 2 yX1_determinantOfTable cX1_determinantOfTable 2 (some .long) D ca ad
def CFX1_determinantOfTable (l : Launch) (D : va_G) (ca : Nat → ClassId) (ad : Nat → Nat) (G : mS → Prop) : Prop := mCallV G (KX1_minorOf l D ca ad) 26 1 1
theorem PX1_determinantOfTable {l : Launch} {D : va_G} {ca : Nat → ClassId} {ad : Nat → Nat} {av : List Value} {w : mW} {x : Int64} {w2 : mW} (hlen : (lg_sl av).length ≤ 2) (body : ∀ G : mS → Prop, mTb G tbX1_determinantOfTable → CFX1_determinantOfTable l D ca ad G → mRet G (some (.long x)) w2 [49] → G (0, lv_args 0 av, [], w)) : KX1_determinantOfTable l D ca ad av w (some (.long x)) w2 :=
  mPackL [49] (by decide +kernel) hlen tkX1_determinantOfTable (fun p e s m args below meth c A Q hX => mCallV_ok (T := TX1) (N := 7) hX dX1_determinantOfTable_26 rfl ⟨wq_25, wq_23, wq_24, by decide +kernel, by decide +kernel, by decide +kernel⟩ wq_26 wq_27 (by decide) (by decide)) (List.forall_mem_cons.mpr ⟨dX1_determinantOfTable_49, fun _ h => absurd h List.not_mem_nil⟩) body
/-! X1 layTable -/
def tbX1_layTable : List (Nat × mR) := [(0, r_aload 1 0), (1, r_iload 2 2), (2, r_ic 3 4), (6, r_puti 9 1 6), (9, r_ic 10 0), (10, r_istore 11 3), (11, r_iload 12 3), (12, r_aload 13 0), (13, r_getf 16 1 6), (16, r_cge 19 60), (19, r_ic 20 0), (20, r_istore 22 4), (22, r_iload 24 4), (24, r_aload 25 0), (25, r_getf 28 1 6), (28, r_cge 31 54), (31, r_aload 32 0), (32, r_getf 35 1 3), (35, r_iload 36 3), (36, r_aald 37), (37, r_iload 39 4), (39, r_aload 40 1), (40, r_iload 41 3), (41, r_iload 43 4), (46, r_i2l 47), (47, r_last 48), (48, r_iinc 51 4 1), (51, r_goto 22), (54, r_iinc 57 3 1), (57, r_goto 11), (60, r_aload 61 0), (61, r_aload 62 0), (65, r_putl 68 1 2)]
theorem tkX1_layTable : ∀ q ∈ tbX1_layTable, mOk cX1_layTable RX1 5 q.1 q.2 := by
  unfold tbX1_layTable
  refine mcons (ok_aload_n dX1_layTable_0 rfl) ?_
  refine mcons (ok_iload_n dX1_layTable_1 rfl) ?_
  refine mcons (ok_iconst dX1_layTable_2 (by decide)) ?_
  refine mcons (ok_puti 6 dX1_layTable_6 rfl mX1 tyX1_ok nmX1 (by decide) wq_16 rfl rfl (by decide +kernel)) ?_
  refine mcons (ok_iconst dX1_layTable_9 (by decide)) ?_
  refine mcons (ok_istore_n dX1_layTable_10 rfl (by decide)) ?_
  refine mcons (ok_iload_n dX1_layTable_11 rfl) ?_
  refine mcons (ok_aload_n dX1_layTable_12 rfl) ?_
  refine mcons (ok_getf 6 dX1_layTable_13 rfl mX1 (by decide) wq_16 rfl) ?_
  refine mcons (ok_cge dX1_layTable_16 (by decide)) ?_
  refine mcons (ok_iconst dX1_layTable_19 (by decide)) ?_
  refine mcons (ok_istore dX1_layTable_20 (by decide)) ?_
  refine mcons (ok_iload dX1_layTable_22) ?_
  refine mcons (ok_aload_n dX1_layTable_24 rfl) ?_
  refine mcons (ok_getf 6 dX1_layTable_25 rfl mX1 (by decide) wq_16 rfl) ?_
  refine mcons (ok_cge dX1_layTable_28 (by decide)) ?_
  refine mcons (ok_aload_n dX1_layTable_31 rfl) ?_
  refine mcons (ok_getf 3 dX1_layTable_32 rfl mX1 (by decide) wq_17 rfl) ?_
  refine mcons (ok_iload_n dX1_layTable_35 rfl) ?_
  refine mcons (ok_aald dX1_layTable_36) ?_
  refine mcons (ok_iload dX1_layTable_37) ?_
  refine mcons (ok_aload_n dX1_layTable_39 rfl) ?_
  refine mcons (ok_iload_n dX1_layTable_40 rfl) ?_
  refine mcons (ok_iload dX1_layTable_41) ?_
  refine mcons (ok_i2l dX1_layTable_46) ?_
  refine mcons (ok_last dX1_layTable_47) ?_
  refine mcons (ok_iinc dX1_layTable_48 (by decide) (by decide)) ?_
  refine mcons (ok_goto dX1_layTable_51 (by decide)) ?_
  refine mcons (ok_iinc dX1_layTable_54 (by decide) (by decide)) ?_
  refine mcons (ok_goto dX1_layTable_57 (by decide)) ?_
  refine mcons (ok_aload_n dX1_layTable_60 rfl) ?_
  refine mcons (ok_aload_n dX1_layTable_61 rfl) ?_
  refine mcons (ok_putl 2 dX1_layTable_65 rfl mX1 tyX1_ok nmX1 (by decide) wq_28 rfl rfl (by decide +kernel)) ?_
  exact mnil
abbrev KX1_layTable (l : Launch) (D : va_G) (ca : Nat → ClassId) (ad : Nat → Nat) : List Value → mW → Option Value → mW → Prop := mC l 3 yX1_layTable cX1_layTable 5 none D ca ad
def CFX1_layTable (l : Launch) (D : va_G) (ca : Nat → ClassId) (ad : Nat → Nat) (G : mS → Prop) : Prop := mCallS G (KJ9_min_7cf53 l D ca ad) 3 2 ∧ mCallV G (KX0_tableCell l D ca ad) 43 0 2 ∧ mCallV G (KX1_determinantOfTable l D ca ad) 62 1 0
theorem PX1_layTable {l : Launch} {D : va_G} {ca : Nat → ClassId} {ad : Nat → Nat} {av : List Value} {w : mW} {w2 : mW} (hlen : (lg_sl av).length ≤ 5) (body : ∀ G : mS → Prop, mTb G tbX1_layTable → CFX1_layTable l D ca ad G → mRet G none w2 [68] → G (0, lv_args 0 av, [], w)) : KX1_layTable l D ca ad av w none w2 :=
  mPackV [68] (by decide +kernel) hlen tkX1_layTable (fun p e s m args below meth c A Q hX => ⟨mCallS_ok hX dX1_layTable_3 ⟨wq_31, wq_29, wq_30, by decide +kernel, by decide +kernel, by decide +kernel⟩ wq_32 (by decide) (by decide), mCallV_ok (T := TX0) (N := 1) hX dX1_layTable_43 rfl ⟨wq_34, wq_1, wq_33, by decide +kernel, by decide +kernel, by decide +kernel⟩ wq_35 wq_36 (by decide) (by decide), mCallV_ok (T := TX1) (N := 7) hX dX1_layTable_62 rfl ⟨wq_38, wq_23, wq_37, by decide +kernel, by decide +kernel, by decide +kernel⟩ wq_39 wq_40 (by decide) (by decide)⟩) (List.forall_mem_cons.mpr ⟨dX1_layTable_68, fun _ h => absurd h List.not_mem_nil⟩) body
/-! J9 abs_067f4 -/
def tbJ9_abs_067f4 : List (Nat × mR) := [(0, r_lload 1 0), (1, r_lc 2 0), (2, r_lcmp 3), (3, r_ifge 6 11), (6, r_lload 7 0), (7, r_lneg 8), (8, r_goto 12), (11, r_lload 12 0)]
theorem tkJ9_abs_067f4 : ∀ q ∈ tbJ9_abs_067f4, mOk cJ9_abs_067f4 RJ9 2 q.1 q.2 := by
  unfold tbJ9_abs_067f4
  refine mcons (ok_lload_n dJ9_abs_067f4_0 rfl) ?_
  refine mcons (ok_lconst dJ9_abs_067f4_1 (by decide)) ?_
  refine mcons (ok_lcmp dJ9_abs_067f4_2) ?_
  refine mcons (ok_ifge dJ9_abs_067f4_3 (by decide)) ?_
  refine mcons (ok_lload_n dJ9_abs_067f4_6 rfl) ?_
  refine mcons (ok_lneg dJ9_abs_067f4_7) ?_
  refine mcons (ok_goto dJ9_abs_067f4_8 (by decide)) ?_
  refine mcons (ok_lload_n dJ9_abs_067f4_11 rfl) ?_
  exact mnil
abbrev KJ9_abs_067f4 (l : Launch) (D : va_G) (ca : Nat → ClassId) (ad : Nat → Nat) : List Value → mW → Option Value → mW → Prop := mC l 0 yJ9_abs_067f4 cJ9_abs_067f4 2 (some .long) D ca ad
def CFJ9_abs_067f4 (l : Launch) (D : va_G) (ca : Nat → ClassId) (ad : Nat → Nat) (G : mS → Prop) : Prop := True
theorem PJ9_abs_067f4 {l : Launch} {D : va_G} {ca : Nat → ClassId} {ad : Nat → Nat} {av : List Value} {w : mW} {x : Int64} {w2 : mW} (hlen : (lg_sl av).length ≤ 2) (body : ∀ G : mS → Prop, mTb G tbJ9_abs_067f4 → CFJ9_abs_067f4 l D ca ad G → mRet G (some (.long x)) w2 [12] → G (0, lv_args 0 av, [], w)) : KJ9_abs_067f4 l D ca ad av w (some (.long x)) w2 :=
  mPackL [12] (by decide +kernel) hlen tkJ9_abs_067f4 (fun p e s m args below meth c A Q hX => trivial) (List.forall_mem_cons.mpr ⟨dJ9_abs_067f4_12, fun _ h => absurd h List.not_mem_nil⟩) body
/-! X1 determinantWithColumn -/
def tbX1_determinantWithColumn : List (Nat × mR) := [(0, r_ic 1 0), (1, r_istore 2 3), (2, r_iload 3 3), (3, r_aload 4 0), (4, r_getf 7 1 6), (7, r_cge 10 52), (10, r_aload 11 0), (11, r_getf 14 1 4), (14, r_iload 15 3), (15, r_aload 16 0), (16, r_getf 19 1 3), (19, r_iload 20 3), (20, r_aald 21), (21, r_iload 22 1), (22, r_lald 23), (23, r_last 24), (24, r_aload 25 0), (25, r_getf 28 1 3), (28, r_iload 29 3), (29, r_aald 30), (30, r_iload 31 1), (31, r_iload 32 3), (32, r_aload 33 2), (33, r_alen 34), (34, r_cge 37 44), (37, r_aload 38 2), (38, r_iload 39 3), (39, r_iald 40), (40, r_i2l 41), (41, r_goto 45), (44, r_lc 45 0), (45, r_last 46), (46, r_iinc 49 3 1), (49, r_goto 2), (52, r_aload 53 0), (56, r_lstore 57 3), (57, r_ic 58 0), (58, r_istore 60 5), (60, r_iload 62 5), (62, r_aload 63 0), (63, r_getf 66 1 6), (66, r_cge 69 91), (69, r_aload 70 0), (70, r_getf 73 1 3), (73, r_iload 75 5), (75, r_aald 76), (76, r_iload 77 1), (77, r_aload 78 0), (78, r_getf 81 1 4), (81, r_iload 83 5), (83, r_lald 84), (84, r_last 85), (85, r_iinc 88 5 1), (88, r_goto 60), (91, r_lload 92 3)]
theorem tkX1_determinantWithColumn : ∀ q ∈ tbX1_determinantWithColumn, mOk cX1_determinantWithColumn RX1 6 q.1 q.2 := by
  unfold tbX1_determinantWithColumn
  refine mcons (ok_iconst dX1_determinantWithColumn_0 (by decide)) ?_
  refine mcons (ok_istore_n dX1_determinantWithColumn_1 rfl (by decide)) ?_
  refine mcons (ok_iload_n dX1_determinantWithColumn_2 rfl) ?_
  refine mcons (ok_aload_n dX1_determinantWithColumn_3 rfl) ?_
  refine mcons (ok_getf 6 dX1_determinantWithColumn_4 rfl mX1 (by decide) wq_16 rfl) ?_
  refine mcons (ok_cge dX1_determinantWithColumn_7 (by decide)) ?_
  refine mcons (ok_aload_n dX1_determinantWithColumn_10 rfl) ?_
  refine mcons (ok_getf 4 dX1_determinantWithColumn_11 rfl mX1 (by decide) wq_41 rfl) ?_
  refine mcons (ok_iload_n dX1_determinantWithColumn_14 rfl) ?_
  refine mcons (ok_aload_n dX1_determinantWithColumn_15 rfl) ?_
  refine mcons (ok_getf 3 dX1_determinantWithColumn_16 rfl mX1 (by decide) wq_17 rfl) ?_
  refine mcons (ok_iload_n dX1_determinantWithColumn_19 rfl) ?_
  refine mcons (ok_aald dX1_determinantWithColumn_20) ?_
  refine mcons (ok_iload_n dX1_determinantWithColumn_21 rfl) ?_
  refine mcons (ok_lald dX1_determinantWithColumn_22) ?_
  refine mcons (ok_last dX1_determinantWithColumn_23) ?_
  refine mcons (ok_aload_n dX1_determinantWithColumn_24 rfl) ?_
  refine mcons (ok_getf 3 dX1_determinantWithColumn_25 rfl mX1 (by decide) wq_17 rfl) ?_
  refine mcons (ok_iload_n dX1_determinantWithColumn_28 rfl) ?_
  refine mcons (ok_aald dX1_determinantWithColumn_29) ?_
  refine mcons (ok_iload_n dX1_determinantWithColumn_30 rfl) ?_
  refine mcons (ok_iload_n dX1_determinantWithColumn_31 rfl) ?_
  refine mcons (ok_aload_n dX1_determinantWithColumn_32 rfl) ?_
  refine mcons (ok_alen dX1_determinantWithColumn_33) ?_
  refine mcons (ok_cge dX1_determinantWithColumn_34 (by decide)) ?_
  refine mcons (ok_aload_n dX1_determinantWithColumn_37 rfl) ?_
  refine mcons (ok_iload_n dX1_determinantWithColumn_38 rfl) ?_
  refine mcons (ok_iald dX1_determinantWithColumn_39) ?_
  refine mcons (ok_i2l dX1_determinantWithColumn_40) ?_
  refine mcons (ok_goto dX1_determinantWithColumn_41 (by decide)) ?_
  refine mcons (ok_lconst dX1_determinantWithColumn_44 (by decide)) ?_
  refine mcons (ok_last dX1_determinantWithColumn_45) ?_
  refine mcons (ok_iinc dX1_determinantWithColumn_46 (by decide) (by decide)) ?_
  refine mcons (ok_goto dX1_determinantWithColumn_49 (by decide)) ?_
  refine mcons (ok_aload_n dX1_determinantWithColumn_52 rfl) ?_
  refine mcons (ok_lstore_n dX1_determinantWithColumn_56 rfl (by decide)) ?_
  refine mcons (ok_iconst dX1_determinantWithColumn_57 (by decide)) ?_
  refine mcons (ok_istore dX1_determinantWithColumn_58 (by decide)) ?_
  refine mcons (ok_iload dX1_determinantWithColumn_60) ?_
  refine mcons (ok_aload_n dX1_determinantWithColumn_62 rfl) ?_
  refine mcons (ok_getf 6 dX1_determinantWithColumn_63 rfl mX1 (by decide) wq_16 rfl) ?_
  refine mcons (ok_cge dX1_determinantWithColumn_66 (by decide)) ?_
  refine mcons (ok_aload_n dX1_determinantWithColumn_69 rfl) ?_
  refine mcons (ok_getf 3 dX1_determinantWithColumn_70 rfl mX1 (by decide) wq_17 rfl) ?_
  refine mcons (ok_iload dX1_determinantWithColumn_73) ?_
  refine mcons (ok_aald dX1_determinantWithColumn_75) ?_
  refine mcons (ok_iload_n dX1_determinantWithColumn_76 rfl) ?_
  refine mcons (ok_aload_n dX1_determinantWithColumn_77 rfl) ?_
  refine mcons (ok_getf 4 dX1_determinantWithColumn_78 rfl mX1 (by decide) wq_41 rfl) ?_
  refine mcons (ok_iload dX1_determinantWithColumn_81) ?_
  refine mcons (ok_lald dX1_determinantWithColumn_83) ?_
  refine mcons (ok_last dX1_determinantWithColumn_84) ?_
  refine mcons (ok_iinc dX1_determinantWithColumn_85 (by decide) (by decide)) ?_
  refine mcons (ok_goto dX1_determinantWithColumn_88 (by decide)) ?_
  refine mcons (ok_lload_n dX1_determinantWithColumn_91 rfl) ?_
  exact mnil
abbrev KX1_determinantWithColumn (l : Launch) (D : va_G) (ca : Nat → ClassId) (ad : Nat → Nat) : List Value → mW → Option Value → mW → Prop := mC l 3 yX1_determinantWithColumn cX1_determinantWithColumn 6 (some .long) D ca ad
def CFX1_determinantWithColumn (l : Launch) (D : va_G) (ca : Nat → ClassId) (ad : Nat → Nat) (G : mS → Prop) : Prop := mCallV G (KX1_determinantOfTable l D ca ad) 53 1 0
theorem PX1_determinantWithColumn {l : Launch} {D : va_G} {ca : Nat → ClassId} {ad : Nat → Nat} {av : List Value} {w : mW} {x : Int64} {w2 : mW} (hlen : (lg_sl av).length ≤ 6) (body : ∀ G : mS → Prop, mTb G tbX1_determinantWithColumn → CFX1_determinantWithColumn l D ca ad G → mRet G (some (.long x)) w2 [92] → G (0, lv_args 0 av, [], w)) : KX1_determinantWithColumn l D ca ad av w (some (.long x)) w2 :=
  mPackL [92] (by decide +kernel) hlen tkX1_determinantWithColumn (fun p e s m args below meth c A Q hX => mCallV_ok (T := TX1) (N := 7) hX dX1_determinantWithColumn_53 rfl ⟨wq_38, wq_23, wq_37, by decide +kernel, by decide +kernel, by decide +kernel⟩ wq_39 wq_40 (by decide) (by decide)) (List.forall_mem_cons.mpr ⟨dX1_determinantWithColumn_92, fun _ h => absurd h List.not_mem_nil⟩) body
/-! X1 solve -/
def tbX1_solve : List (Nat × mR) := [(0, r_aload 1 0), (1, r_aload 2 1), (2, r_iload 3 2), (6, r_aload 7 0), (7, r_getf 10 1 2), (10, r_lc 11 0), (11, r_lcmp 12), (12, r_ifne 15 17), (15, r_ic 16 0), (17, r_aload 18 0), (18, r_aload 19 0), (19, r_getf 22 1 2), (25, r_putl 28 1 1), (28, r_ic 29 0), (29, r_istore 31 4), (31, r_iload 33 4), (33, r_aload 34 0), (34, r_getf 37 1 6), (37, r_cge 40 79), (40, r_aload 41 0), (41, r_iload 43 4), (43, r_aload 44 3), (47, r_lstore 49 5), (49, r_aload 50 0), (50, r_getf 53 1 0), (53, r_iload 55 4), (55, r_aload 56 0), (56, r_getf 59 1 2), (59, r_lc 60 0), (60, r_lcmp 61), (61, r_ifge 64 70), (64, r_lload 66 5), (66, r_lneg 67), (67, r_goto 72), (70, r_lload 72 5), (72, r_last 73), (73, r_iinc 76 4 1), (76, r_goto 31), (79, r_ic 80 1)]
theorem tkX1_solve : ∀ q ∈ tbX1_solve, mOk cX1_solve RX1 7 q.1 q.2 := by
  unfold tbX1_solve
  refine mcons (ok_aload_n dX1_solve_0 rfl) ?_
  refine mcons (ok_aload_n dX1_solve_1 rfl) ?_
  refine mcons (ok_iload_n dX1_solve_2 rfl) ?_
  refine mcons (ok_aload_n dX1_solve_6 rfl) ?_
  refine mcons (ok_getf 2 dX1_solve_7 rfl mX1 (by decide) wq_28 rfl) ?_
  refine mcons (ok_lconst dX1_solve_10 (by decide)) ?_
  refine mcons (ok_lcmp dX1_solve_11) ?_
  refine mcons (ok_ifne dX1_solve_12 (by decide)) ?_
  refine mcons (ok_iconst dX1_solve_15 (by decide)) ?_
  refine mcons (ok_aload_n dX1_solve_17 rfl) ?_
  refine mcons (ok_aload_n dX1_solve_18 rfl) ?_
  refine mcons (ok_getf 2 dX1_solve_19 rfl mX1 (by decide) wq_28 rfl) ?_
  refine mcons (ok_putl 1 dX1_solve_25 rfl mX1 tyX1_ok nmX1 (by decide) wq_42 rfl rfl (by decide +kernel)) ?_
  refine mcons (ok_iconst dX1_solve_28 (by decide)) ?_
  refine mcons (ok_istore dX1_solve_29 (by decide)) ?_
  refine mcons (ok_iload dX1_solve_31) ?_
  refine mcons (ok_aload_n dX1_solve_33 rfl) ?_
  refine mcons (ok_getf 6 dX1_solve_34 rfl mX1 (by decide) wq_16 rfl) ?_
  refine mcons (ok_cge dX1_solve_37 (by decide)) ?_
  refine mcons (ok_aload_n dX1_solve_40 rfl) ?_
  refine mcons (ok_iload dX1_solve_41) ?_
  refine mcons (ok_aload_n dX1_solve_43 rfl) ?_
  refine mcons (ok_lstore dX1_solve_47 (by decide)) ?_
  refine mcons (ok_aload_n dX1_solve_49 rfl) ?_
  refine mcons (ok_getf 0 dX1_solve_50 rfl mX1 (by decide) wq_43 rfl) ?_
  refine mcons (ok_iload dX1_solve_53) ?_
  refine mcons (ok_aload_n dX1_solve_55 rfl) ?_
  refine mcons (ok_getf 2 dX1_solve_56 rfl mX1 (by decide) wq_28 rfl) ?_
  refine mcons (ok_lconst dX1_solve_59 (by decide)) ?_
  refine mcons (ok_lcmp dX1_solve_60) ?_
  refine mcons (ok_ifge dX1_solve_61 (by decide)) ?_
  refine mcons (ok_lload dX1_solve_64) ?_
  refine mcons (ok_lneg dX1_solve_66) ?_
  refine mcons (ok_goto dX1_solve_67 (by decide)) ?_
  refine mcons (ok_lload dX1_solve_70) ?_
  refine mcons (ok_last dX1_solve_72) ?_
  refine mcons (ok_iinc dX1_solve_73 (by decide) (by decide)) ?_
  refine mcons (ok_goto dX1_solve_76 (by decide)) ?_
  refine mcons (ok_iconst dX1_solve_79 (by decide)) ?_
  exact mnil
abbrev KX1_solve (l : Launch) (D : va_G) (ca : Nat → ClassId) (ad : Nat → Nat) : List Value → mW → Option Value → mW → Prop := mC l 4 yX1_solve cX1_solve 7 (some .boolean) D ca ad
def CFX1_solve (l : Launch) (D : va_G) (ca : Nat → ClassId) (ad : Nat → Nat) (G : mS → Prop) : Prop := mCallV G (KX1_layTable l D ca ad) 3 1 2 ∧ mCallS G (KJ9_abs_067f4 l D ca ad) 22 1 ∧ mCallV G (KX1_determinantWithColumn l D ca ad) 44 1 2
theorem PX1_solve {l : Launch} {D : va_G} {ca : Nat → ClassId} {ad : Nat → Nat} {av : List Value} {w : mW} {x : Int32} {w2 : mW} (hlen : (lg_sl av).length ≤ 7) (hx : x = 0 ∨ x = 1) (body : ∀ G : mS → Prop, mTb G tbX1_solve → CFX1_solve l D ca ad G → mRet G (some (.int x)) w2 [16, 80] → G (0, lv_args 0 av, [], w)) : KX1_solve l D ca ad av w (some (.int x)) w2 :=
  mPackZ [16, 80] (by decide +kernel) hlen tkX1_solve (fun p e s m args below meth c A Q hX => ⟨mCallV_ok (T := TX1) (N := 7) hX dX1_solve_3 rfl ⟨wq_45, wq_23, wq_44, by decide +kernel, by decide +kernel, by decide +kernel⟩ wq_46 wq_47 (by decide) (by decide), mCallS_ok hX dX1_solve_22 ⟨wq_49, wq_29, wq_48, by decide +kernel, by decide +kernel, by decide +kernel⟩ wq_50 (by decide) (by decide), mCallV_ok (T := TX1) (N := 7) hX dX1_solve_44 rfl ⟨wq_52, wq_23, wq_51, by decide +kernel, by decide +kernel, by decide +kernel⟩ wq_53 wq_54 (by decide) (by decide)⟩) (List.forall_mem_cons.mpr ⟨dX1_solve_16, List.forall_mem_cons.mpr ⟨dX1_solve_80, fun _ h => absurd h List.not_mem_nil⟩⟩) hx body
/-! X1 brought -/
def tbX1_brought : List (Nat × mR) := [(0, r_aload 1 1), (1, r_iload 2 3), (2, r_iload 3 2), (3, r_iload 5 4), (8, r_aload 9 0), (9, r_getf 12 1 0), (12, r_iload 13 3), (13, r_lald 14), (14, r_ll 15 (fun x y => x * y))]
theorem tkX1_brought : ∀ q ∈ tbX1_brought, mOk cX1_brought RX1 5 q.1 q.2 := by
  unfold tbX1_brought
  refine mcons (ok_aload_n dX1_brought_0 rfl) ?_
  refine mcons (ok_iload_n dX1_brought_1 rfl) ?_
  refine mcons (ok_iload_n dX1_brought_2 rfl) ?_
  refine mcons (ok_iload dX1_brought_3) ?_
  refine mcons (ok_aload_n dX1_brought_8 rfl) ?_
  refine mcons (ok_getf 0 dX1_brought_9 rfl mX1 (by decide) wq_43 rfl) ?_
  refine mcons (ok_iload_n dX1_brought_12 rfl) ?_
  refine mcons (ok_lald dX1_brought_13) ?_
  refine mcons (ok_lmul dX1_brought_14) ?_
  exact mnil
abbrev KX1_brought (l : Launch) (D : va_G) (ca : Nat → ClassId) (ad : Nat → Nat) : List Value → mW → Option Value → mW → Prop := mC l 2 yX1_brought cX1_brought 5 (some .long) D ca ad
def CFX1_brought (l : Launch) (D : va_G) (ca : Nat → ClassId) (ad : Nat → Nat) (G : mS → Prop) : Prop := mCallV G (KX0_emission l D ca ad) 5 0 3
theorem PX1_brought {l : Launch} {D : va_G} {ca : Nat → ClassId} {ad : Nat → Nat} {av : List Value} {w : mW} {x : Int64} {w2 : mW} (hlen : (lg_sl av).length ≤ 5) (body : ∀ G : mS → Prop, mTb G tbX1_brought → CFX1_brought l D ca ad G → mRet G (some (.long x)) w2 [15] → G (0, lv_args 0 av, [], w)) : KX1_brought l D ca ad av w (some (.long x)) w2 :=
  mPackL [15] (by decide +kernel) hlen tkX1_brought (fun p e s m args below meth c A Q hX => mCallV_ok (T := TX0) (N := 1) hX dX1_brought_5 rfl ⟨wq_56, wq_1, wq_55, by decide +kernel, by decide +kernel, by decide +kernel⟩ wq_57 wq_58 (by decide) (by decide)) (List.forall_mem_cons.mpr ⟨dX1_brought_15, fun _ h => absurd h List.not_mem_nil⟩) body
/-! X1 sumOfEmissions -/
def tbX1_sumOfEmissions : List (Nat × mR) := [(0, r_lc 1 0), (1, r_lstore 3 4), (3, r_ic 4 0), (4, r_istore 6 6), (6, r_iload 8 6), (8, r_aload 9 0), (9, r_getf 12 1 6), (12, r_cge 15 57), (15, r_aload 16 0), (16, r_getf 19 1 0), (19, r_iload 21 6), (21, r_lald 22), (22, r_lc 23 0), (23, r_lcmp 24), (24, r_ifge 27 33), (27, r_ic 28 2), (28, r_iload 29 3), (29, r_ii 30 (fun x y => x - y)), (30, r_goto 34), (33, r_iload 34 3), (34, r_istore 36 7), (36, r_lload 38 4), (38, r_aload 39 0), (39, r_aload 40 1), (40, r_iload 41 2), (41, r_iload 43 6), (43, r_iload 45 7), (48, r_ll 49 (fun x y => x + y)), (49, r_lstore 51 4), (51, r_iinc 54 6 1), (54, r_goto 6), (57, r_lload 59 4)]
theorem tkX1_sumOfEmissions : ∀ q ∈ tbX1_sumOfEmissions, mOk cX1_sumOfEmissions RX1 8 q.1 q.2 := by
  unfold tbX1_sumOfEmissions
  refine mcons (ok_lconst dX1_sumOfEmissions_0 (by decide)) ?_
  refine mcons (ok_lstore dX1_sumOfEmissions_1 (by decide)) ?_
  refine mcons (ok_iconst dX1_sumOfEmissions_3 (by decide)) ?_
  refine mcons (ok_istore dX1_sumOfEmissions_4 (by decide)) ?_
  refine mcons (ok_iload dX1_sumOfEmissions_6) ?_
  refine mcons (ok_aload_n dX1_sumOfEmissions_8 rfl) ?_
  refine mcons (ok_getf 6 dX1_sumOfEmissions_9 rfl mX1 (by decide) wq_16 rfl) ?_
  refine mcons (ok_cge dX1_sumOfEmissions_12 (by decide)) ?_
  refine mcons (ok_aload_n dX1_sumOfEmissions_15 rfl) ?_
  refine mcons (ok_getf 0 dX1_sumOfEmissions_16 rfl mX1 (by decide) wq_43 rfl) ?_
  refine mcons (ok_iload dX1_sumOfEmissions_19) ?_
  refine mcons (ok_lald dX1_sumOfEmissions_21) ?_
  refine mcons (ok_lconst dX1_sumOfEmissions_22 (by decide)) ?_
  refine mcons (ok_lcmp dX1_sumOfEmissions_23) ?_
  refine mcons (ok_ifge dX1_sumOfEmissions_24 (by decide)) ?_
  refine mcons (ok_iconst dX1_sumOfEmissions_27 (by decide)) ?_
  refine mcons (ok_iload_n dX1_sumOfEmissions_28 rfl) ?_
  refine mcons (ok_isub dX1_sumOfEmissions_29) ?_
  refine mcons (ok_goto dX1_sumOfEmissions_30 (by decide)) ?_
  refine mcons (ok_iload_n dX1_sumOfEmissions_33 rfl) ?_
  refine mcons (ok_istore dX1_sumOfEmissions_34 (by decide)) ?_
  refine mcons (ok_lload dX1_sumOfEmissions_36) ?_
  refine mcons (ok_aload_n dX1_sumOfEmissions_38 rfl) ?_
  refine mcons (ok_aload_n dX1_sumOfEmissions_39 rfl) ?_
  refine mcons (ok_iload_n dX1_sumOfEmissions_40 rfl) ?_
  refine mcons (ok_iload dX1_sumOfEmissions_41) ?_
  refine mcons (ok_iload dX1_sumOfEmissions_43) ?_
  refine mcons (ok_ladd dX1_sumOfEmissions_48) ?_
  refine mcons (ok_lstore dX1_sumOfEmissions_49 (by decide)) ?_
  refine mcons (ok_iinc dX1_sumOfEmissions_51 (by decide) (by decide)) ?_
  refine mcons (ok_goto dX1_sumOfEmissions_54 (by decide)) ?_
  refine mcons (ok_lload dX1_sumOfEmissions_57) ?_
  exact mnil
abbrev KX1_sumOfEmissions (l : Launch) (D : va_G) (ca : Nat → ClassId) (ad : Nat → Nat) : List Value → mW → Option Value → mW → Prop := mC l 3 yX1_sumOfEmissions cX1_sumOfEmissions 8 (some .long) D ca ad
def CFX1_sumOfEmissions (l : Launch) (D : va_G) (ca : Nat → ClassId) (ad : Nat → Nat) (G : mS → Prop) : Prop := mCallV G (KX1_brought l D ca ad) 45 1 4
theorem PX1_sumOfEmissions {l : Launch} {D : va_G} {ca : Nat → ClassId} {ad : Nat → Nat} {av : List Value} {w : mW} {x : Int64} {w2 : mW} (hlen : (lg_sl av).length ≤ 8) (body : ∀ G : mS → Prop, mTb G tbX1_sumOfEmissions → CFX1_sumOfEmissions l D ca ad G → mRet G (some (.long x)) w2 [59] → G (0, lv_args 0 av, [], w)) : KX1_sumOfEmissions l D ca ad av w (some (.long x)) w2 :=
  mPackL [59] (by decide +kernel) hlen tkX1_sumOfEmissions (fun p e s m args below meth c A Q hX => mCallV_ok (T := TX1) (N := 7) hX dX1_sumOfEmissions_45 rfl ⟨wq_60, wq_23, wq_59, by decide +kernel, by decide +kernel, by decide +kernel⟩ wq_61 wq_62 (by decide) (by decide)) (List.forall_mem_cons.mpr ⟨dX1_sumOfEmissions_59, fun _ h => absurd h List.not_mem_nil⟩) body
/-! J9 floorDiv_f86c9 -/
def tbJ9_floorDiv_f86c9 : List (Nat × mR) := [(0, r_lload 1 0), (1, r_lload 2 2), (2, r_lld 3 (fun x y => x / y)), (3, r_lstore 5 4), (5, r_lload 6 0), (6, r_lload 7 2), (7, r_ll 8 (fun x y => x ^^^ y)), (8, r_lc 9 0), (9, r_lcmp 10), (10, r_ifge 13 27), (13, r_lload 15 4), (15, r_lload 16 2), (16, r_ll 17 (fun x y => x * y)), (17, r_lload 18 0), (18, r_lcmp 19), (19, r_ifeq 22 27), (22, r_lload 24 4), (24, r_lc 25 1), (25, r_ll 26 (fun x y => x - y)), (27, r_lload 29 4)]
theorem tkJ9_floorDiv_f86c9 : ∀ q ∈ tbJ9_floorDiv_f86c9, mOk cJ9_floorDiv_f86c9 RJ9 6 q.1 q.2 := by
  unfold tbJ9_floorDiv_f86c9
  refine mcons (ok_lload_n dJ9_floorDiv_f86c9_0 rfl) ?_
  refine mcons (ok_lload_n dJ9_floorDiv_f86c9_1 rfl) ?_
  refine mcons (ok_ldiv dJ9_floorDiv_f86c9_2) ?_
  refine mcons (ok_lstore dJ9_floorDiv_f86c9_3 (by decide)) ?_
  refine mcons (ok_lload_n dJ9_floorDiv_f86c9_5 rfl) ?_
  refine mcons (ok_lload_n dJ9_floorDiv_f86c9_6 rfl) ?_
  refine mcons (ok_lxor dJ9_floorDiv_f86c9_7) ?_
  refine mcons (ok_lconst dJ9_floorDiv_f86c9_8 (by decide)) ?_
  refine mcons (ok_lcmp dJ9_floorDiv_f86c9_9) ?_
  refine mcons (ok_ifge dJ9_floorDiv_f86c9_10 (by decide)) ?_
  refine mcons (ok_lload dJ9_floorDiv_f86c9_13) ?_
  refine mcons (ok_lload_n dJ9_floorDiv_f86c9_15 rfl) ?_
  refine mcons (ok_lmul dJ9_floorDiv_f86c9_16) ?_
  refine mcons (ok_lload_n dJ9_floorDiv_f86c9_17 rfl) ?_
  refine mcons (ok_lcmp dJ9_floorDiv_f86c9_18) ?_
  refine mcons (ok_ifeq dJ9_floorDiv_f86c9_19 (by decide)) ?_
  refine mcons (ok_lload dJ9_floorDiv_f86c9_22) ?_
  refine mcons (ok_lconst dJ9_floorDiv_f86c9_24 (by decide)) ?_
  refine mcons (ok_lsub dJ9_floorDiv_f86c9_25) ?_
  refine mcons (ok_lload dJ9_floorDiv_f86c9_27) ?_
  exact mnil
abbrev KJ9_floorDiv_f86c9 (l : Launch) (D : va_G) (ca : Nat → ClassId) (ad : Nat → Nat) : List Value → mW → Option Value → mW → Prop := mC l 0 yJ9_floorDiv_f86c9 cJ9_floorDiv_f86c9 6 (some .long) D ca ad
def CFJ9_floorDiv_f86c9 (l : Launch) (D : va_G) (ca : Nat → ClassId) (ad : Nat → Nat) (G : mS → Prop) : Prop := True
theorem PJ9_floorDiv_f86c9 {l : Launch} {D : va_G} {ca : Nat → ClassId} {ad : Nat → Nat} {av : List Value} {w : mW} {x : Int64} {w2 : mW} (hlen : (lg_sl av).length ≤ 6) (body : ∀ G : mS → Prop, mTb G tbJ9_floorDiv_f86c9 → CFJ9_floorDiv_f86c9 l D ca ad G → mRet G (some (.long x)) w2 [26, 29] → G (0, lv_args 0 av, [], w)) : KJ9_floorDiv_f86c9 l D ca ad av w (some (.long x)) w2 :=
  mPackL [26, 29] (by decide +kernel) hlen tkJ9_floorDiv_f86c9 (fun p e s m args below meth c A Q hX => trivial) (List.forall_mem_cons.mpr ⟨dJ9_floorDiv_f86c9_26, List.forall_mem_cons.mpr ⟨dJ9_floorDiv_f86c9_29, fun _ h => absurd h List.not_mem_nil⟩⟩) body
