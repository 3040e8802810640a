theorem dX2_making_0 : decode cX2_making 0 = .ok (.aload_n 0, 1) := by decide +kernel
theorem dX2_making_1 : decode cX2_making 1 = .ok (.getfield 43, 3) := by decide +kernel
theorem dX2_making_4 : decode cX2_making 4 = .ok (.ifCond .le 6, 3) := by decide +kernel
theorem dX2_making_7 : decode cX2_making 7 = .ok (.bipush (-103), 2) := by decide +kernel
theorem dX2_making_9 : decode cX2_making 9 = .ok (.ireturn, 1) := by decide +kernel
theorem dX2_making_10 : decode cX2_making 10 = .ok (.aload_n 0, 1) := by decide +kernel
theorem dX2_making_11 : decode cX2_making 11 = .ok (.getfield 39, 3) := by decide +kernel
theorem dX2_making_14 : decode cX2_making 14 = .ok (.iconst 4, 1) := by decide +kernel
theorem dX2_making_15 : decode cX2_making 15 = .ok (.if_icmp .lt 6, 3) := by decide +kernel
theorem dX2_making_18 : decode cX2_making 18 = .ok (.bipush (-105), 2) := by decide +kernel
theorem dX2_making_20 : decode cX2_making 20 = .ok (.ireturn, 1) := by decide +kernel
theorem dX2_making_21 : decode cX2_making 21 = .ok (.aload_n 0, 1) := by decide +kernel
theorem dX2_making_22 : decode cX2_making 22 = .ok (.dup, 1) := by decide +kernel
theorem dX2_making_23 : decode cX2_making 23 = .ok (.getfield 39, 3) := by decide +kernel
theorem dX2_making_26 : decode cX2_making 26 = .ok (.iconst 1, 1) := by decide +kernel
theorem dX2_making_27 : decode cX2_making 27 = .ok (.iadd, 1) := by decide +kernel
theorem dX2_making_28 : decode cX2_making 28 = .ok (.putfield 39, 3) := by decide +kernel
theorem dX2_making_31 : decode cX2_making 31 = .ok (.aload_n 0, 1) := by decide +kernel
theorem dX2_making_32 : decode cX2_making 32 = .ok (.getfield 39, 3) := by decide +kernel
theorem dX2_making_35 : decode cX2_making 35 = .ok (.iconst 1, 1) := by decide +kernel
theorem dX2_making_36 : decode cX2_making 36 = .ok (.isub, 1) := by decide +kernel
theorem dX2_making_37 : decode cX2_making 37 = .ok (.ireturn, 1) := by decide +kernel
theorem dX2_isMaking_0 : decode cX2_isMaking 0 = .ok (.iload_n 1, 1) := by decide +kernel
theorem dX2_isMaking_1 : decode cX2_isMaking 1 = .ok (.ifCond .lt 15, 3) := by decide +kernel
theorem dX2_isMaking_4 : decode cX2_isMaking 4 = .ok (.iload_n 1, 1) := by decide +kernel
theorem dX2_isMaking_5 : decode cX2_isMaking 5 = .ok (.aload_n 0, 1) := by decide +kernel
theorem dX2_isMaking_6 : decode cX2_isMaking 6 = .ok (.getfield 39, 3) := by decide +kernel
theorem dX2_isMaking_9 : decode cX2_isMaking 9 = .ok (.if_icmp .ge 7, 3) := by decide +kernel
theorem dX2_isMaking_12 : decode cX2_isMaking 12 = .ok (.iconst 1, 1) := by decide +kernel
theorem dX2_isMaking_13 : decode cX2_isMaking 13 = .ok (.goto 4, 3) := by decide +kernel
theorem dX2_isMaking_16 : decode cX2_isMaking 16 = .ok (.iconst 0, 1) := by decide +kernel
theorem dX2_isMaking_17 : decode cX2_isMaking 17 = .ok (.ireturn, 1) := by decide +kernel
theorem dX2_isWithin_0 : decode cX2_isWithin 0 = .ok (.iload_n 0, 1) := by decide +kernel
theorem dX2_isWithin_1 : decode cX2_isWithin 1 = .ok (.iload_n 1, 1) := by decide +kernel
theorem dX2_isWithin_2 : decode cX2_isWithin 2 = .ok (.if_icmp .lt 12, 3) := by decide +kernel
theorem dX2_isWithin_5 : decode cX2_isWithin 5 = .ok (.iload_n 0, 1) := by decide +kernel
theorem dX2_isWithin_6 : decode cX2_isWithin 6 = .ok (.iload_n 2, 1) := by decide +kernel
theorem dX2_isWithin_7 : decode cX2_isWithin 7 = .ok (.if_icmp .gt 7, 3) := by decide +kernel
theorem dX2_isWithin_10 : decode cX2_isWithin 10 = .ok (.iconst 1, 1) := by decide +kernel
theorem dX2_isWithin_11 : decode cX2_isWithin 11 = .ok (.goto 4, 3) := by decide +kernel
theorem dX2_isWithin_14 : decode cX2_isWithin 14 = .ok (.iconst 0, 1) := by decide +kernel
theorem dX2_isWithin_15 : decode cX2_isWithin 15 = .ok (.ireturn, 1) := by decide +kernel
theorem dX2_out_0 : decode cX2_out 0 = .ok (.aload_n 0, 1) := by decide +kernel
theorem dX2_out_1 : decode cX2_out 1 = .ok (.iload_n 1, 1) := by decide +kernel
theorem dX2_out_2 : decode cX2_out 2 = .ok (.invokevirtual 46, 3) := by decide +kernel
theorem dX2_out_5 : decode cX2_out 5 = .ok (.ifCond .ne 6, 3) := by decide +kernel
theorem dX2_out_8 : decode cX2_out 8 = .ok (.bipush (-101), 2) := by decide +kernel
theorem dX2_out_10 : decode cX2_out 10 = .ok (.ireturn, 1) := by decide +kernel
theorem dX2_out_11 : decode cX2_out 11 = .ok (.iload_n 2, 1) := by decide +kernel
theorem dX2_out_12 : decode cX2_out 12 = .ok (.iconst 1, 1) := by decide +kernel
theorem dX2_out_13 : decode cX2_out 13 = .ok (.bipush 6, 2) := by decide +kernel
theorem dX2_out_15 : decode cX2_out 15 = .ok (.invokestatic 50, 3) := by decide +kernel
theorem dX2_out_18 : decode cX2_out 18 = .ok (.ifCond .ne 6, 3) := by decide +kernel
theorem dX2_out_21 : decode cX2_out 21 = .ok (.bipush (-102), 2) := by decide +kernel
theorem dX2_out_23 : decode cX2_out 23 = .ok (.ireturn, 1) := by decide +kernel
theorem dX2_out_24 : decode cX2_out 24 = .ok (.aload_n 0, 1) := by decide +kernel
theorem dX2_out_25 : decode cX2_out 25 = .ok (.getfield 10, 3) := by decide +kernel
theorem dX2_out_28 : decode cX2_out 28 = .ok (.iload_n 1, 1) := by decide +kernel
theorem dX2_out_29 : decode cX2_out 29 = .ok (.iconst 0, 1) := by decide +kernel
theorem dX2_out_30 : decode cX2_out 30 = .ok (.iload_n 2, 1) := by decide +kernel
theorem dX2_out_31 : decode cX2_out 31 = .ok (.invokevirtual 54, 3) := by decide +kernel
theorem dX2_out_34 : decode cX2_out 34 = .ok (.ireturn, 1) := by decide +kernel
theorem dX2_needs_0 : decode cX2_needs 0 = .ok (.aload_n 0, 1) := by decide +kernel
theorem dX2_needs_1 : decode cX2_needs 1 = .ok (.iload_n 1, 1) := by decide +kernel
theorem dX2_needs_2 : decode cX2_needs 2 = .ok (.invokevirtual 46, 3) := by decide +kernel
theorem dX2_needs_5 : decode cX2_needs 5 = .ok (.ifCond .eq 11, 3) := by decide +kernel
theorem dX2_needs_8 : decode cX2_needs 8 = .ok (.aload_n 0, 1) := by decide +kernel
theorem dX2_needs_9 : decode cX2_needs 9 = .ok (.iload_n 2, 1) := by decide +kernel
theorem dX2_needs_10 : decode cX2_needs 10 = .ok (.invokevirtual 46, 3) := by decide +kernel
theorem dX2_needs_13 : decode cX2_needs 13 = .ok (.ifCond .ne 6, 3) := by decide +kernel
theorem dX2_needs_16 : decode cX2_needs 16 = .ok (.bipush (-101), 2) := by decide +kernel
theorem dX2_needs_18 : decode cX2_needs 18 = .ok (.ireturn, 1) := by decide +kernel
theorem dX2_needs_19 : decode cX2_needs 19 = .ok (.iload_n 3, 1) := by decide +kernel
theorem dX2_needs_20 : decode cX2_needs 20 = .ok (.iconst 0, 1) := by decide +kernel
theorem dX2_needs_21 : decode cX2_needs 21 = .ok (.bipush 6, 2) := by decide +kernel
theorem dX2_needs_23 : decode cX2_needs 23 = .ok (.invokestatic 50, 3) := by decide +kernel
theorem dX2_needs_26 : decode cX2_needs 26 = .ok (.ifCond .ne 6, 3) := by decide +kernel
theorem dX2_needs_29 : decode cX2_needs 29 = .ok (.bipush (-102), 2) := by decide +kernel
theorem dX2_needs_31 : decode cX2_needs 31 = .ok (.ireturn, 1) := by decide +kernel
theorem dX2_needs_32 : decode cX2_needs 32 = .ok (.aload_n 0, 1) := by decide +kernel
theorem dX2_needs_33 : decode cX2_needs 33 = .ok (.getfield 10, 3) := by decide +kernel
theorem dX2_needs_36 : decode cX2_needs 36 = .ok (.iload_n 1, 1) := by decide +kernel
theorem dX2_needs_37 : decode cX2_needs 37 = .ok (.iconst 4, 1) := by decide +kernel
theorem dX2_needs_38 : decode cX2_needs 38 = .ok (.iload_n 2, 1) := by decide +kernel
theorem dX2_needs_39 : decode cX2_needs 39 = .ok (.iadd, 1) := by decide +kernel
theorem dX2_needs_40 : decode cX2_needs 40 = .ok (.iload_n 3, 1) := by decide +kernel
theorem dX2_needs_41 : decode cX2_needs 41 = .ok (.invokevirtual 54, 3) := by decide +kernel
theorem dX2_needs_44 : decode cX2_needs 44 = .ok (.ireturn, 1) := by decide +kernel
theorem dX2_by_0 : decode cX2_by 0 = .ok (.aload_n 0, 1) := by decide +kernel
theorem dX2_by_1 : decode cX2_by 1 = .ok (.iload_n 1, 1) := by decide +kernel
theorem dX2_by_2 : decode cX2_by 2 = .ok (.invokevirtual 46, 3) := by decide +kernel
theorem dX2_by_5 : decode cX2_by 5 = .ok (.ifCond .eq 11, 3) := by decide +kernel
theorem dX2_by_8 : decode cX2_by 8 = .ok (.aload_n 0, 1) := by decide +kernel
theorem dX2_by_9 : decode cX2_by 9 = .ok (.iload_n 2, 1) := by decide +kernel
theorem dX2_by_10 : decode cX2_by 10 = .ok (.invokevirtual 46, 3) := by decide +kernel
theorem dX2_by_13 : decode cX2_by 13 = .ok (.ifCond .ne 6, 3) := by decide +kernel
theorem dX2_by_16 : decode cX2_by 16 = .ok (.bipush (-101), 2) := by decide +kernel
theorem dX2_by_18 : decode cX2_by 18 = .ok (.ireturn, 1) := by decide +kernel
theorem dX2_by_19 : decode cX2_by 19 = .ok (.iload_n 3, 1) := by decide +kernel
theorem dX2_by_20 : decode cX2_by 20 = .ok (.iconst 0, 1) := by decide +kernel
theorem dX2_by_21 : decode cX2_by 21 = .ok (.bipush 6, 2) := by decide +kernel
theorem dX2_by_23 : decode cX2_by 23 = .ok (.invokestatic 50, 3) := by decide +kernel
theorem dX2_by_26 : decode cX2_by 26 = .ok (.ifCond .eq 8, 3) := by decide +kernel
theorem dX2_by_29 : decode cX2_by 29 = .ok (.iload_n 1, 1) := by decide +kernel
theorem dX2_by_30 : decode cX2_by 30 = .ok (.iload_n 2, 1) := by decide +kernel
theorem dX2_by_31 : decode cX2_by 31 = .ok (.if_icmp .ne 6, 3) := by decide +kernel
theorem dX2_by_34 : decode cX2_by 34 = .ok (.bipush (-102), 2) := by decide +kernel
theorem dX2_by_36 : decode cX2_by 36 = .ok (.ireturn, 1) := by decide +kernel
theorem dX2_by_37 : decode cX2_by 37 = .ok (.aload_n 0, 1) := by decide +kernel
theorem dX2_by_38 : decode cX2_by 38 = .ok (.getfield 10, 3) := by decide +kernel
theorem dX2_by_41 : decode cX2_by 41 = .ok (.iload_n 1, 1) := by decide +kernel
theorem dX2_by_42 : decode cX2_by 42 = .ok (.bipush 8, 2) := by decide +kernel
theorem dX2_by_44 : decode cX2_by 44 = .ok (.iload_n 2, 1) := by decide +kernel
theorem dX2_by_45 : decode cX2_by 45 = .ok (.iadd, 1) := by decide +kernel
theorem dX2_by_46 : decode cX2_by 46 = .ok (.iload_n 3, 1) := by decide +kernel
theorem dX2_by_47 : decode cX2_by 47 = .ok (.invokevirtual 54, 3) := by decide +kernel
theorem dX2_by_50 : decode cX2_by 50 = .ok (.ireturn, 1) := by decide +kernel
theorem dX2_isStuff_0 : decode cX2_isStuff 0 = .ok (.iload_n 0, 1) := by decide +kernel
theorem dX2_isStuff_1 : decode cX2_isStuff 1 = .ok (.ifCond .lt 12, 3) := by decide +kernel
theorem dX2_isStuff_4 : decode cX2_isStuff 4 = .ok (.iload_n 0, 1) := by decide +kernel
theorem dX2_isStuff_5 : decode cX2_isStuff 5 = .ok (.iconst 3, 1) := by decide +kernel
theorem dX2_isStuff_6 : decode cX2_isStuff 6 = .ok (.if_icmp .ge 7, 3) := by decide +kernel
theorem dX2_isStuff_9 : decode cX2_isStuff 9 = .ok (.iconst 1, 1) := by decide +kernel
theorem dX2_isStuff_10 : decode cX2_isStuff 10 = .ok (.goto 4, 3) := by decide +kernel
theorem dX2_isStuff_13 : decode cX2_isStuff 13 = .ok (.iconst 0, 1) := by decide +kernel
theorem dX2_isStuff_14 : decode cX2_isStuff 14 = .ok (.ireturn, 1) := by decide +kernel
theorem dX2_emits_0 : decode cX2_emits 0 = .ok (.aload_n 0, 1) := by decide +kernel
theorem dX2_emits_1 : decode cX2_emits 1 = .ok (.iload_n 1, 1) := by decide +kernel
theorem dX2_emits_2 : decode cX2_emits 2 = .ok (.invokevirtual 46, 3) := by decide +kernel
theorem dX2_emits_5 : decode cX2_emits 5 = .ok (.ifCond .eq 10, 3) := by decide +kernel
theorem dX2_emits_8 : decode cX2_emits 8 = .ok (.iload_n 2, 1) := by decide +kernel
theorem dX2_emits_9 : decode cX2_emits 9 = .ok (.invokestatic 58, 3) := by decide +kernel
theorem dX2_emits_12 : decode cX2_emits 12 = .ok (.ifCond .ne 6, 3) := by decide +kernel
theorem dX2_emits_15 : decode cX2_emits 15 = .ok (.bipush (-101), 2) := by decide +kernel
theorem dX2_emits_17 : decode cX2_emits 17 = .ok (.ireturn, 1) := by decide +kernel
theorem dX2_emits_18 : decode cX2_emits 18 = .ok (.iload_n 3, 1) := by decide +kernel
theorem dX2_emits_19 : decode cX2_emits 19 = .ok (.iconst 0, 1) := by decide +kernel
theorem dX2_emits_20 : decode cX2_emits 20 = .ok (.bipush 100, 2) := by decide +kernel
theorem dX2_emits_22 : decode cX2_emits 22 = .ok (.invokestatic 50, 3) := by decide +kernel
theorem dX2_emits_25 : decode cX2_emits 25 = .ok (.ifCond .eq 14, 3) := by decide +kernel
theorem dX2_emits_28 : decode cX2_emits 28 = .ok (.iload 5, 2) := by decide +kernel
theorem dX2_emits_30 : decode cX2_emits 30 = .ok (.iconst 0, 1) := by decide +kernel
theorem dX2_emits_31 : decode cX2_emits 31 = .ok (.bipush 100, 2) := by decide +kernel
theorem dX2_emits_33 : decode cX2_emits 33 = .ok (.invokestatic 50, 3) := by decide +kernel
theorem dX2_emits_36 : decode cX2_emits 36 = .ok (.ifCond .ne 6, 3) := by decide +kernel
theorem dX2_emits_39 : decode cX2_emits 39 = .ok (.bipush (-102), 2) := by decide +kernel
theorem dX2_emits_41 : decode cX2_emits 41 = .ok (.ireturn, 1) := by decide +kernel
theorem dX2_emits_42 : decode cX2_emits 42 = .ok (.iload 4, 2) := by decide +kernel
theorem dX2_emits_44 : decode cX2_emits 44 = .ok (.iload_n 3, 1) := by decide +kernel
theorem dX2_emits_45 : decode cX2_emits 45 = .ok (.iload 5, 2) := by decide +kernel
theorem dX2_emits_47 : decode cX2_emits 47 = .ok (.invokestatic 50, 3) := by decide +kernel
theorem dX2_emits_50 : decode cX2_emits 50 = .ok (.ifCond .ne 6, 3) := by decide +kernel
theorem dX2_emits_53 : decode cX2_emits 53 = .ok (.bipush (-102), 2) := by decide +kernel
theorem dX2_emits_55 : decode cX2_emits 55 = .ok (.ireturn, 1) := by decide +kernel
theorem dX2_emits_56 : decode cX2_emits 56 = .ok (.aload_n 0, 1) := by decide +kernel
theorem dX2_emits_57 : decode cX2_emits 57 = .ok (.getfield 10, 3) := by decide +kernel
theorem dX2_emits_60 : decode cX2_emits 60 = .ok (.iload_n 1, 1) := by decide +kernel
theorem dX2_emits_61 : decode cX2_emits 61 = .ok (.iload_n 2, 1) := by decide +kernel
theorem dX2_emits_62 : decode cX2_emits 62 = .ok (.iconst 0, 1) := by decide +kernel
theorem dX2_emits_63 : decode cX2_emits 63 = .ok (.invokestatic 61, 3) := by decide +kernel
theorem dX2_emits_66 : decode cX2_emits 66 = .ok (.iload_n 3, 1) := by decide +kernel
theorem dX2_emits_67 : decode cX2_emits 67 = .ok (.invokevirtual 54, 3) := by decide +kernel
theorem dX2_emits_70 : decode cX2_emits 70 = .ok (.pop, 1) := by decide +kernel
theorem dX2_emits_71 : decode cX2_emits 71 = .ok (.aload_n 0, 1) := by decide +kernel
theorem dX2_emits_72 : decode cX2_emits 72 = .ok (.getfield 10, 3) := by decide +kernel
theorem dX2_emits_75 : decode cX2_emits 75 = .ok (.iload_n 1, 1) := by decide +kernel
theorem dX2_emits_76 : decode cX2_emits 76 = .ok (.iload_n 2, 1) := by decide +kernel
theorem dX2_emits_77 : decode cX2_emits 77 = .ok (.iconst 1, 1) := by decide +kernel
theorem dX2_emits_78 : decode cX2_emits 78 = .ok (.invokestatic 61, 3) := by decide +kernel
theorem dX2_emits_81 : decode cX2_emits 81 = .ok (.iload 4, 2) := by decide +kernel
theorem dX2_emits_83 : decode cX2_emits 83 = .ok (.invokevirtual 54, 3) := by decide +kernel
theorem dX2_emits_86 : decode cX2_emits 86 = .ok (.pop, 1) := by decide +kernel
theorem dX2_emits_87 : decode cX2_emits 87 = .ok (.aload_n 0, 1) := by decide +kernel
theorem dX2_emits_88 : decode cX2_emits 88 = .ok (.getfield 10, 3) := by decide +kernel
theorem dX2_emits_91 : decode cX2_emits 91 = .ok (.iload_n 1, 1) := by decide +kernel
theorem dX2_emits_92 : decode cX2_emits 92 = .ok (.iload_n 2, 1) := by decide +kernel
theorem dX2_emits_93 : decode cX2_emits 93 = .ok (.iconst 2, 1) := by decide +kernel
theorem dX2_emits_94 : decode cX2_emits 94 = .ok (.invokestatic 61, 3) := by decide +kernel
theorem dX2_emits_97 : decode cX2_emits 97 = .ok (.iload 5, 2) := by decide +kernel
theorem dX2_emits_99 : decode cX2_emits 99 = .ok (.invokevirtual 54, 3) := by decide +kernel
theorem dX2_emits_102 : decode cX2_emits 102 = .ok (.pop, 1) := by decide +kernel
theorem dX2_emits_103 : decode cX2_emits 103 = .ok (.iconst 1, 1) := by decide +kernel
theorem dX2_emits_104 : decode cX2_emits 104 = .ok (.ireturn, 1) := by decide +kernel
theorem dX2_good_0 : decode cX2_good 0 = .ok (.aload_n 0, 1) := by decide +kernel
theorem dX2_good_1 : decode cX2_good 1 = .ok (.iload_n 1, 1) := by decide +kernel
theorem dX2_good_2 : decode cX2_good 2 = .ok (.invokevirtual 46, 3) := by decide +kernel
theorem dX2_good_5 : decode cX2_good 5 = .ok (.ifCond .ne 6, 3) := by decide +kernel
theorem dX2_good_8 : decode cX2_good 8 = .ok (.bipush (-101), 2) := by decide +kernel
theorem dX2_good_10 : decode cX2_good 10 = .ok (.ireturn, 1) := by decide +kernel
theorem dX2_good_11 : decode cX2_good 11 = .ok (.iload_n 2, 1) := by decide +kernel
theorem dX2_good_12 : decode cX2_good 12 = .ok (.iconst 1, 1) := by decide +kernel
theorem dX2_good_13 : decode cX2_good 13 = .ok (.iconst 5, 1) := by decide +kernel
theorem dX2_good_14 : decode cX2_good 14 = .ok (.invokestatic 50, 3) := by decide +kernel
theorem dX2_good_17 : decode cX2_good 17 = .ok (.ifCond .eq 12, 3) := by decide +kernel
theorem dX2_good_20 : decode cX2_good 20 = .ok (.iload_n 3, 1) := by decide +kernel
theorem dX2_good_21 : decode cX2_good 21 = .ok (.iconst 1, 1) := by decide +kernel
theorem dX2_good_22 : decode cX2_good 22 = .ok (.iconst 5, 1) := by decide +kernel
theorem dX2_good_23 : decode cX2_good 23 = .ok (.invokestatic 50, 3) := by decide +kernel
theorem dX2_good_26 : decode cX2_good 26 = .ok (.ifCond .ne 6, 3) := by decide +kernel
theorem dX2_good_29 : decode cX2_good 29 = .ok (.bipush (-102), 2) := by decide +kernel
theorem dX2_good_31 : decode cX2_good 31 = .ok (.ireturn, 1) := by decide +kernel
theorem dX2_good_32 : decode cX2_good 32 = .ok (.aload_n 0, 1) := by decide +kernel
theorem dX2_good_33 : decode cX2_good 33 = .ok (.getfield 10, 3) := by decide +kernel
theorem dX2_good_36 : decode cX2_good 36 = .ok (.iload_n 1, 1) := by decide +kernel
theorem dX2_good_37 : decode cX2_good 37 = .ok (.bipush 21, 2) := by decide +kernel
theorem dX2_good_39 : decode cX2_good 39 = .ok (.iload_n 2, 1) := by decide +kernel
theorem dX2_good_40 : decode cX2_good 40 = .ok (.invokevirtual 54, 3) := by decide +kernel
theorem dX2_good_43 : decode cX2_good 43 = .ok (.pop, 1) := by decide +kernel
theorem dX2_good_44 : decode cX2_good 44 = .ok (.aload_n 0, 1) := by decide +kernel
theorem dX2_good_45 : decode cX2_good 45 = .ok (.getfield 10, 3) := by decide +kernel
theorem dX2_good_48 : decode cX2_good 48 = .ok (.iload_n 1, 1) := by decide +kernel
theorem dX2_good_49 : decode cX2_good 49 = .ok (.bipush 22, 2) := by decide +kernel
theorem dX2_good_51 : decode cX2_good 51 = .ok (.iload_n 3, 1) := by decide +kernel
theorem dX2_good_52 : decode cX2_good 52 = .ok (.invokevirtual 54, 3) := by decide +kernel
theorem dX2_good_55 : decode cX2_good 55 = .ok (.pop, 1) := by decide +kernel
theorem dX2_good_56 : decode cX2_good 56 = .ok (.iconst 1, 1) := by decide +kernel
theorem dX2_good_57 : decode cX2_good 57 = .ok (.ireturn, 1) := by decide +kernel
theorem dX2_rule_0 : decode cX2_rule 0 = .ok (.aload_n 0, 1) := by decide +kernel
theorem dX2_rule_1 : decode cX2_rule 1 = .ok (.iload_n 1, 1) := by decide +kernel
theorem dX2_rule_2 : decode cX2_rule 2 = .ok (.invokevirtual 46, 3) := by decide +kernel
theorem dX2_rule_5 : decode cX2_rule 5 = .ok (.ifCond .ne 6, 3) := by decide +kernel
theorem dX2_rule_8 : decode cX2_rule 8 = .ok (.bipush (-101), 2) := by decide +kernel
theorem dX2_rule_10 : decode cX2_rule 10 = .ok (.ireturn, 1) := by decide +kernel
theorem dX2_rule_11 : decode cX2_rule 11 = .ok (.iload_n 2, 1) := by decide +kernel
theorem dX2_rule_12 : decode cX2_rule 12 = .ok (.iconst 0, 1) := by decide +kernel
theorem dX2_rule_13 : decode cX2_rule 13 = .ok (.iconst 2, 1) := by decide +kernel
theorem dX2_rule_14 : decode cX2_rule 14 = .ok (.invokestatic 50, 3) := by decide +kernel
theorem dX2_rule_17 : decode cX2_rule 17 = .ok (.ifCond .ne 6, 3) := by decide +kernel
theorem dX2_rule_20 : decode cX2_rule 20 = .ok (.bipush (-102), 2) := by decide +kernel
theorem dX2_rule_22 : decode cX2_rule 22 = .ok (.ireturn, 1) := by decide +kernel
theorem dX2_rule_23 : decode cX2_rule 23 = .ok (.aload_n 0, 1) := by decide +kernel
theorem dX2_rule_24 : decode cX2_rule 24 = .ok (.getfield 10, 3) := by decide +kernel
theorem dX2_rule_27 : decode cX2_rule 27 = .ok (.iload_n 1, 1) := by decide +kernel
theorem dX2_rule_28 : decode cX2_rule 28 = .ok (.iconst 1, 1) := by decide +kernel
theorem dX2_rule_29 : decode cX2_rule 29 = .ok (.iload_n 2, 1) := by decide +kernel
theorem dX2_rule_30 : decode cX2_rule 30 = .ok (.invokevirtual 54, 3) := by decide +kernel
theorem dX2_rule_33 : decode cX2_rule 33 = .ok (.ireturn, 1) := by decide +kernel
theorem dX2_told_0 : decode cX2_told 0 = .ok (.aload_n 0, 1) := by decide +kernel
theorem dX2_told_1 : decode cX2_told 1 = .ok (.iload_n 1, 1) := by decide +kernel
theorem dX2_told_2 : decode cX2_told 2 = .ok (.invokevirtual 46, 3) := by decide +kernel
theorem dX2_told_5 : decode cX2_told 5 = .ok (.ifCond .ne 6, 3) := by decide +kernel
theorem dX2_told_8 : decode cX2_told 8 = .ok (.bipush (-101), 2) := by decide +kernel
theorem dX2_told_10 : decode cX2_told 10 = .ok (.ireturn, 1) := by decide +kernel
theorem dX2_told_11 : decode cX2_told 11 = .ok (.iload_n 2, 1) := by decide +kernel
theorem dX2_told_12 : decode cX2_told 12 = .ok (.iconst 0, 1) := by decide +kernel
theorem dX2_told_13 : decode cX2_told 13 = .ok (.bipush 22, 2) := by decide +kernel
theorem dX2_told_15 : decode cX2_told 15 = .ok (.invokestatic 50, 3) := by decide +kernel
theorem dX2_told_18 : decode cX2_told 18 = .ok (.ifCond .ne 6, 3) := by decide +kernel
theorem dX2_told_21 : decode cX2_told 21 = .ok (.bipush (-102), 2) := by decide +kernel
theorem dX2_told_23 : decode cX2_told 23 = .ok (.ireturn, 1) := by decide +kernel
theorem dX2_told_24 : decode cX2_told 24 = .ok (.aload_n 0, 1) := by decide +kernel
theorem dX2_told_25 : decode cX2_told 25 = .ok (.getfield 10, 3) := by decide +kernel
theorem dX2_told_28 : decode cX2_told 28 = .ok (.getfield 65, 3) := by decide +kernel
theorem dX2_told_31 : decode cX2_told 31 = .ok (.iload_n 1, 1) := by decide +kernel
theorem dX2_told_32 : decode cX2_told 32 = .ok (.aaload, 1) := by decide +kernel
theorem dX2_told_33 : decode cX2_told 33 = .ok (.iload_n 2, 1) := by decide +kernel
theorem dX2_told_34 : decode cX2_told 34 = .ok (.iaload, 1) := by decide +kernel
theorem dX2_told_35 : decode cX2_told 35 = .ok (.ireturn, 1) := by decide +kernel
theorem dX2_entry_0 : decode cX2_entry 0 = .ok (.aload_n 0, 1) := by decide +kernel
theorem dX2_entry_1 : decode cX2_entry 1 = .ok (.iload_n 1, 1) := by decide +kernel
theorem dX2_entry_2 : decode cX2_entry 2 = .ok (.invokevirtual 46, 3) := by decide +kernel
theorem dX2_entry_5 : decode cX2_entry 5 = .ok (.ifCond .eq 11, 3) := by decide +kernel
theorem dX2_entry_8 : decode cX2_entry 8 = .ok (.aload_n 0, 1) := by decide +kernel
theorem dX2_entry_9 : decode cX2_entry 9 = .ok (.iload_n 2, 1) := by decide +kernel
theorem dX2_entry_10 : decode cX2_entry 10 = .ok (.invokevirtual 46, 3) := by decide +kernel
theorem dX2_entry_13 : decode cX2_entry 13 = .ok (.ifCond .ne 6, 3) := by decide +kernel
theorem dX2_entry_16 : decode cX2_entry 16 = .ok (.ldc 68, 2) := by decide +kernel
theorem dX2_entry_18 : decode cX2_entry 18 = .ok (.ireturn, 1) := by decide +kernel
theorem dX2_entry_19 : decode cX2_entry 19 = .ok (.aload_n 0, 1) := by decide +kernel
theorem dX2_entry_20 : decode cX2_entry 20 = .ok (.getfield 10, 3) := by decide +kernel
theorem dX2_entry_23 : decode cX2_entry 23 = .ok (.iload_n 1, 1) := by decide +kernel
theorem dX2_entry_24 : decode cX2_entry 24 = .ok (.iload_n 2, 1) := by decide +kernel
theorem dX2_entry_25 : decode cX2_entry 25 = .ok (.invokevirtual 69, 3) := by decide +kernel
theorem dX2_entry_28 : decode cX2_entry 28 = .ok (.ireturn, 1) := by decide +kernel
theorem dX2_worth_0 : decode cX2_worth 0 = .ok (.aload_n 0, 1) := by decide +kernel
theorem dX2_worth_1 : decode cX2_worth 1 = .ok (.getfield 26, 3) := by decide +kernel
theorem dX2_worth_4 : decode cX2_worth 4 = .ok (.aload_n 0, 1) := by decide +kernel
theorem dX2_worth_5 : decode cX2_worth 5 = .ok (.getfield 10, 3) := by decide +kernel
theorem dX2_worth_8 : decode cX2_worth 8 = .ok (.aload_n 0, 1) := by decide +kernel
theorem dX2_worth_9 : decode cX2_worth 9 = .ok (.getfield 39, 3) := by decide +kernel
theorem dX2_worth_12 : decode cX2_worth 12 = .ok (.invokevirtual 72, 3) := by decide +kernel
theorem dX2_worth_15 : decode cX2_worth 15 = .ok (.aload_n 0, 1) := by decide +kernel
theorem dX2_worth_16 : decode cX2_worth 16 = .ok (.getfield 26, 3) := by decide +kernel
theorem dX2_worth_19 : decode cX2_worth 19 = .ok (.getfield 76, 3) := by decide +kernel
theorem dX2_worth_22 : decode cX2_worth 22 = .ok (.lreturn, 1) := by decide +kernel
theorem dX2_isBasket_0 : decode cX2_isBasket 0 = .ok (.iload_n 0, 1) := by decide +kernel
theorem dX2_isBasket_1 : decode cX2_isBasket 1 = .ok (.ifCond .lt 12, 3) := by decide +kernel
theorem dX2_isBasket_4 : decode cX2_isBasket 4 = .ok (.iload_n 0, 1) := by decide +kernel
theorem dX2_isBasket_5 : decode cX2_isBasket 5 = .ok (.iconst 4, 1) := by decide +kernel
theorem dX2_isBasket_6 : decode cX2_isBasket 6 = .ok (.if_icmp .ge 7, 3) := by decide +kernel
theorem dX2_isBasket_9 : decode cX2_isBasket 9 = .ok (.iconst 1, 1) := by decide +kernel
theorem dX2_isBasket_10 : decode cX2_isBasket 10 = .ok (.goto 4, 3) := by decide +kernel
theorem dX2_isBasket_13 : decode cX2_isBasket 13 = .ok (.iconst 0, 1) := by decide +kernel
theorem dX2_isBasket_14 : decode cX2_isBasket 14 = .ok (.ireturn, 1) := by decide +kernel
theorem dX2_put_0 : decode cX2_put 0 = .ok (.iload_n 1, 1) := by decide +kernel
theorem dX2_put_1 : decode cX2_put 1 = .ok (.invokestatic 80, 3) := by decide +kernel
theorem dX2_put_4 : decode cX2_put 4 = .ok (.ifCond .eq 11, 3) := by decide +kernel
theorem dX2_put_7 : decode cX2_put 7 = .ok (.aload_n 0, 1) := by decide +kernel
theorem dX2_put_8 : decode cX2_put 8 = .ok (.iload_n 2, 1) := by decide +kernel
theorem dX2_put_9 : decode cX2_put 9 = .ok (.invokevirtual 46, 3) := by decide +kernel
theorem dX2_put_12 : decode cX2_put 12 = .ok (.ifCond .ne 6, 3) := by decide +kernel
theorem dX2_put_15 : decode cX2_put 15 = .ok (.bipush (-101), 2) := by decide +kernel
theorem dX2_put_17 : decode cX2_put 17 = .ok (.ireturn, 1) := by decide +kernel
theorem dX2_put_18 : decode cX2_put 18 = .ok (.iload_n 3, 1) := by decide +kernel
theorem dX2_put_19 : decode cX2_put 19 = .ok (.iconst 0, 1) := by decide +kernel
theorem dX2_put_20 : decode cX2_put 20 = .ok (.bipush 20, 2) := by decide +kernel
theorem dX2_put_22 : decode cX2_put 22 = .ok (.invokestatic 50, 3) := by decide +kernel
theorem dX2_put_25 : decode cX2_put 25 = .ok (.ifCond .ne 6, 3) := by decide +kernel
theorem dX2_put_28 : decode cX2_put 28 = .ok (.bipush (-102), 2) := by decide +kernel
theorem dX2_put_30 : decode cX2_put 30 = .ok (.ireturn, 1) := by decide +kernel
theorem dX2_put_31 : decode cX2_put 31 = .ok (.aload_n 0, 1) := by decide +kernel
theorem dX2_put_32 : decode cX2_put 32 = .ok (.getfield 32, 3) := by decide +kernel
theorem dX2_put_35 : decode cX2_put 35 = .ok (.iload_n 1, 1) := by decide +kernel
theorem dX2_put_36 : decode cX2_put 36 = .ok (.aaload, 1) := by decide +kernel
theorem dX2_put_37 : decode cX2_put 37 = .ok (.iload_n 2, 1) := by decide +kernel
theorem dX2_put_38 : decode cX2_put 38 = .ok (.iaload, 1) := by decide +kernel
theorem dX2_put_39 : decode cX2_put 39 = .ok (.istore 4, 2) := by decide +kernel
theorem dX2_put_41 : decode cX2_put 41 = .ok (.aload_n 0, 1) := by decide +kernel
theorem dX2_put_42 : decode cX2_put 42 = .ok (.getfield 32, 3) := by decide +kernel
theorem dX2_put_45 : decode cX2_put 45 = .ok (.iload_n 1, 1) := by decide +kernel
theorem dX2_put_46 : decode cX2_put 46 = .ok (.aaload, 1) := by decide +kernel
theorem dX2_put_47 : decode cX2_put 47 = .ok (.iload_n 2, 1) := by decide +kernel
theorem dX2_put_48 : decode cX2_put 48 = .ok (.iload_n 3, 1) := by decide +kernel
theorem dX2_put_49 : decode cX2_put 49 = .ok (.iastore, 1) := by decide +kernel
theorem dX2_put_50 : decode cX2_put 50 = .ok (.iload 4, 2) := by decide +kernel
theorem dX2_put_52 : decode cX2_put 52 = .ok (.ireturn, 1) := by decide +kernel
theorem dX2_thousandths_0 : decode cX2_thousandths 0 = .ok (.lload_n 2, 1) := by decide +kernel
theorem dX2_thousandths_1 : decode cX2_thousandths 1 = .ok (.lconst 0, 1) := by decide +kernel
theorem dX2_thousandths_2 : decode cX2_thousandths 2 = .ok (.lcmp, 1) := by decide +kernel
theorem dX2_thousandths_3 : decode cX2_thousandths 3 = .ok (.ifCond .ne 7, 3) := by decide +kernel
theorem dX2_thousandths_6 : decode cX2_thousandths 6 = .ok (.ldc2_w 89, 3) := by decide +kernel
theorem dX2_thousandths_9 : decode cX2_thousandths 9 = .ok (.lreturn, 1) := by decide +kernel
theorem dX2_thousandths_10 : decode cX2_thousandths 10 = .ok (.ldc2_w 157, 3) := by decide +kernel
theorem dX2_thousandths_13 : decode cX2_thousandths 13 = .ok (.lload_n 0, 1) := by decide +kernel
theorem dX2_thousandths_14 : decode cX2_thousandths 14 = .ok (.lmul, 1) := by decide +kernel
theorem dX2_thousandths_15 : decode cX2_thousandths 15 = .ok (.lload_n 2, 1) := by decide +kernel
theorem dX2_thousandths_16 : decode cX2_thousandths 16 = .ok (.invokestatic 159, 3) := by decide +kernel
theorem dX2_thousandths_19 : decode cX2_thousandths 19 = .ok (.lreturn, 1) := by decide +kernel
theorem dX2_runs_0 : decode cX2_runs 0 = .ok (.iload_n 1, 1) := by decide +kernel
theorem dX2_runs_1 : decode cX2_runs 1 = .ok (.invokestatic 80, 3) := by decide +kernel
theorem dX2_runs_4 : decode cX2_runs 4 = .ok (.ifCond .eq 11, 3) := by decide +kernel
theorem dX2_runs_7 : decode cX2_runs 7 = .ok (.aload_n 0, 1) := by decide +kernel
theorem dX2_runs_8 : decode cX2_runs 8 = .ok (.iload_n 2, 1) := by decide +kernel
theorem dX2_runs_9 : decode cX2_runs 9 = .ok (.invokevirtual 46, 3) := by decide +kernel
theorem dX2_runs_12 : decode cX2_runs 12 = .ok (.ifCond .ne 7, 3) := by decide +kernel
theorem dX2_runs_15 : decode cX2_runs 15 = .ok (.ldc2_w 83, 3) := by decide +kernel
theorem dX2_runs_18 : decode cX2_runs 18 = .ok (.lreturn, 1) := by decide +kernel
theorem dX2_runs_19 : decode cX2_runs 19 = .ok (.aload_n 0, 1) := by decide +kernel
theorem dX2_runs_20 : decode cX2_runs 20 = .ok (.getfield 26, 3) := by decide +kernel
theorem dX2_runs_23 : decode cX2_runs 23 = .ok (.aload_n 0, 1) := by decide +kernel
theorem dX2_runs_24 : decode cX2_runs 24 = .ok (.getfield 10, 3) := by decide +kernel
theorem dX2_runs_27 : decode cX2_runs 27 = .ok (.aload_n 0, 1) := by decide +kernel
theorem dX2_runs_28 : decode cX2_runs 28 = .ok (.getfield 39, 3) := by decide +kernel
theorem dX2_runs_31 : decode cX2_runs 31 = .ok (.aload_n 0, 1) := by decide +kernel
theorem dX2_runs_32 : decode cX2_runs 32 = .ok (.getfield 32, 3) := by decide +kernel
theorem dX2_runs_35 : decode cX2_runs 35 = .ok (.iload_n 1, 1) := by decide +kernel
theorem dX2_runs_36 : decode cX2_runs 36 = .ok (.aaload, 1) := by decide +kernel
theorem dX2_runs_37 : decode cX2_runs 37 = .ok (.invokevirtual 85, 3) := by decide +kernel
theorem dX2_runs_40 : decode cX2_runs 40 = .ok (.ifCond .ne 7, 3) := by decide +kernel
theorem dX2_runs_43 : decode cX2_runs 43 = .ok (.ldc2_w 89, 3) := by decide +kernel
theorem dX2_runs_46 : decode cX2_runs 46 = .ok (.lreturn, 1) := by decide +kernel
theorem dX2_runs_47 : decode cX2_runs 47 = .ok (.aload_n 0, 1) := by decide +kernel
theorem dX2_runs_48 : decode cX2_runs 48 = .ok (.getfield 26, 3) := by decide +kernel
theorem dX2_runs_51 : decode cX2_runs 51 = .ok (.getfield 91, 3) := by decide +kernel
theorem dX2_runs_54 : decode cX2_runs 54 = .ok (.iload_n 2, 1) := by decide +kernel
theorem dX2_runs_55 : decode cX2_runs 55 = .ok (.laload, 1) := by decide +kernel
theorem dX2_runs_56 : decode cX2_runs 56 = .ok (.aload_n 0, 1) := by decide +kernel
theorem dX2_runs_57 : decode cX2_runs 57 = .ok (.getfield 10, 3) := by decide +kernel
theorem dX2_runs_60 : decode cX2_runs 60 = .ok (.getfield 65, 3) := by decide +kernel
theorem dX2_runs_63 : decode cX2_runs 63 = .ok (.iload_n 2, 1) := by decide +kernel
theorem dX2_runs_64 : decode cX2_runs 64 = .ok (.aaload, 1) := by decide +kernel
theorem dX2_runs_65 : decode cX2_runs 65 = .ok (.iconst 3, 1) := by decide +kernel
theorem dX2_runs_66 : decode cX2_runs 66 = .ok (.iaload, 1) := by decide +kernel
theorem dX2_runs_67 : decode cX2_runs 67 = .ok (.i2l, 1) := by decide +kernel
theorem dX2_runs_68 : decode cX2_runs 68 = .ok (.lmul, 1) := by decide +kernel
theorem dX2_runs_69 : decode cX2_runs 69 = .ok (.aload_n 0, 1) := by decide +kernel
theorem dX2_runs_70 : decode cX2_runs 70 = .ok (.getfield 26, 3) := by decide +kernel
theorem dX2_runs_73 : decode cX2_runs 73 = .ok (.getfield 95, 3) := by decide +kernel
theorem dX2_runs_76 : decode cX2_runs 76 = .ok (.invokestatic 98, 3) := by decide +kernel
theorem dX2_runs_79 : decode cX2_runs 79 = .ok (.lreturn, 1) := by decide +kernel
theorem dX2_greatestCommonDivisor_0 : decode cX2_greatestCommonDivisor 0 = .ok (.lload_n 0, 1) := by decide +kernel
theorem dX2_greatestCommonDivisor_1 : decode cX2_greatestCommonDivisor 1 = .ok (.lstore 4, 2) := by decide +kernel
theorem dX2_greatestCommonDivisor_3 : decode cX2_greatestCommonDivisor 3 = .ok (.lload_n 2, 1) := by decide +kernel
theorem dX2_greatestCommonDivisor_4 : decode cX2_greatestCommonDivisor 4 = .ok (.lstore 6, 2) := by decide +kernel
theorem dX2_greatestCommonDivisor_6 : decode cX2_greatestCommonDivisor 6 = .ok (.iconst 0, 1) := by decide +kernel
theorem dX2_greatestCommonDivisor_7 : decode cX2_greatestCommonDivisor 7 = .ok (.istore 8, 2) := by decide +kernel
theorem dX2_greatestCommonDivisor_9 : decode cX2_greatestCommonDivisor 9 = .ok (.iload 8, 2) := by decide +kernel
theorem dX2_greatestCommonDivisor_11 : decode cX2_greatestCommonDivisor 11 = .ok (.sipush 1000, 3) := by decide +kernel
theorem dX2_greatestCommonDivisor_14 : decode cX2_greatestCommonDivisor 14 = .ok (.if_icmp .ge 31, 3) := by decide +kernel
theorem dX2_greatestCommonDivisor_17 : decode cX2_greatestCommonDivisor 17 = .ok (.lload 6, 2) := by decide +kernel
theorem dX2_greatestCommonDivisor_19 : decode cX2_greatestCommonDivisor 19 = .ok (.lconst 0, 1) := by decide +kernel
theorem dX2_greatestCommonDivisor_20 : decode cX2_greatestCommonDivisor 20 = .ok (.lcmp, 1) := by decide +kernel
theorem dX2_greatestCommonDivisor_21 : decode cX2_greatestCommonDivisor 21 = .ok (.ifCond .eq 24, 3) := by decide +kernel
theorem dX2_greatestCommonDivisor_24 : decode cX2_greatestCommonDivisor 24 = .ok (.lload 4, 2) := by decide +kernel
theorem dX2_greatestCommonDivisor_26 : decode cX2_greatestCommonDivisor 26 = .ok (.lload 6, 2) := by decide +kernel
theorem dX2_greatestCommonDivisor_28 : decode cX2_greatestCommonDivisor 28 = .ok (.lrem, 1) := by decide +kernel
theorem dX2_greatestCommonDivisor_29 : decode cX2_greatestCommonDivisor 29 = .ok (.lstore 9, 2) := by decide +kernel
theorem dX2_greatestCommonDivisor_31 : decode cX2_greatestCommonDivisor 31 = .ok (.lload 6, 2) := by decide +kernel
theorem dX2_greatestCommonDivisor_33 : decode cX2_greatestCommonDivisor 33 = .ok (.lstore 4, 2) := by decide +kernel
theorem dX2_greatestCommonDivisor_35 : decode cX2_greatestCommonDivisor 35 = .ok (.lload 9, 2) := by decide +kernel
theorem dX2_greatestCommonDivisor_37 : decode cX2_greatestCommonDivisor 37 = .ok (.lstore 6, 2) := by decide +kernel
theorem dX2_greatestCommonDivisor_39 : decode cX2_greatestCommonDivisor 39 = .ok (.iinc 8 1, 3) := by decide +kernel
theorem dX2_greatestCommonDivisor_42 : decode cX2_greatestCommonDivisor 42 = .ok (.goto (-33), 3) := by decide +kernel
theorem dX2_greatestCommonDivisor_45 : decode cX2_greatestCommonDivisor 45 = .ok (.lload 4, 2) := by decide +kernel
theorem dX2_greatestCommonDivisor_47 : decode cX2_greatestCommonDivisor 47 = .ok (.lreturn, 1) := by decide +kernel
theorem dX2_inLowestTerms_0 : decode cX2_inLowestTerms 0 = .ok (.lload_n 2, 1) := by decide +kernel
theorem dX2_inLowestTerms_1 : decode cX2_inLowestTerms 1 = .ok (.invokestatic 164, 3) := by decide +kernel
theorem dX2_inLowestTerms_4 : decode cX2_inLowestTerms 4 = .ok (.lload 4, 2) := by decide +kernel
theorem dX2_inLowestTerms_6 : decode cX2_inLowestTerms 6 = .ok (.invokestatic 164, 3) := by decide +kernel
theorem dX2_inLowestTerms_9 : decode cX2_inLowestTerms 9 = .ok (.invokestatic 168, 3) := by decide +kernel
theorem dX2_inLowestTerms_12 : decode cX2_inLowestTerms 12 = .ok (.lstore 6, 2) := by decide +kernel
theorem dX2_inLowestTerms_14 : decode cX2_inLowestTerms 14 = .ok (.lload 6, 2) := by decide +kernel
theorem dX2_inLowestTerms_16 : decode cX2_inLowestTerms 16 = .ok (.lconst 0, 1) := by decide +kernel
theorem dX2_inLowestTerms_17 : decode cX2_inLowestTerms 17 = .ok (.lcmp, 1) := by decide +kernel
theorem dX2_inLowestTerms_18 : decode cX2_inLowestTerms 18 = .ok (.ifCond .ne 7, 3) := by decide +kernel
theorem dX2_inLowestTerms_21 : decode cX2_inLowestTerms 21 = .ok (.lload_n 0, 1) := by decide +kernel
theorem dX2_inLowestTerms_22 : decode cX2_inLowestTerms 22 = .ok (.goto 7, 3) := by decide +kernel
theorem dX2_inLowestTerms_25 : decode cX2_inLowestTerms 25 = .ok (.lload_n 0, 1) := by decide +kernel
theorem dX2_inLowestTerms_26 : decode cX2_inLowestTerms 26 = .ok (.lload 6, 2) := by decide +kernel
theorem dX2_inLowestTerms_28 : decode cX2_inLowestTerms 28 = .ok (.ldiv, 1) := by decide +kernel
theorem dX2_inLowestTerms_29 : decode cX2_inLowestTerms 29 = .ok (.lreturn, 1) := by decide +kernel
theorem dX2_total_0 : decode cX2_total 0 = .ok (.iload_n 1, 1) := by decide +kernel
theorem dX2_total_1 : decode cX2_total 1 = .ok (.invokestatic 80, 3) := by decide +kernel
theorem dX2_total_4 : decode cX2_total 4 = .ok (.ifCond .eq 10, 3) := by decide +kernel
theorem dX2_total_7 : decode cX2_total 7 = .ok (.iload_n 2, 1) := by decide +kernel
theorem dX2_total_8 : decode cX2_total 8 = .ok (.invokestatic 58, 3) := by decide +kernel
theorem dX2_total_11 : decode cX2_total 11 = .ok (.ifCond .ne 7, 3) := by decide +kernel
theorem dX2_total_14 : decode cX2_total 14 = .ok (.ldc2_w 83, 3) := by decide +kernel
theorem dX2_total_17 : decode cX2_total 17 = .ok (.lreturn, 1) := by decide +kernel
theorem dX2_total_18 : decode cX2_total 18 = .ok (.iload_n 3, 1) := by decide +kernel
theorem dX2_total_19 : decode cX2_total 19 = .ok (.iconst 0, 1) := by decide +kernel
theorem dX2_total_20 : decode cX2_total 20 = .ok (.iconst 2, 1) := by decide +kernel
theorem dX2_total_21 : decode cX2_total 21 = .ok (.invokestatic 50, 3) := by decide +kernel
theorem dX2_total_24 : decode cX2_total 24 = .ok (.ifCond .eq 13, 3) := by decide +kernel
theorem dX2_total_27 : decode cX2_total 27 = .ok (.iload 4, 2) := by decide +kernel
theorem dX2_total_29 : decode cX2_total 29 = .ok (.iconst 0, 1) := by decide +kernel
theorem dX2_total_30 : decode cX2_total 30 = .ok (.iconst 1, 1) := by decide +kernel
theorem dX2_total_31 : decode cX2_total 31 = .ok (.invokestatic 50, 3) := by decide +kernel
theorem dX2_total_34 : decode cX2_total 34 = .ok (.ifCond .ne 7, 3) := by decide +kernel
theorem dX2_total_37 : decode cX2_total 37 = .ok (.ldc2_w 102, 3) := by decide +kernel
theorem dX2_total_40 : decode cX2_total 40 = .ok (.lreturn, 1) := by decide +kernel
theorem dX2_total_41 : decode cX2_total 41 = .ok (.aload_n 0, 1) := by decide +kernel
theorem dX2_total_42 : decode cX2_total 42 = .ok (.getfield 26, 3) := by decide +kernel
theorem dX2_total_45 : decode cX2_total 45 = .ok (.aload_n 0, 1) := by decide +kernel
theorem dX2_total_46 : decode cX2_total 46 = .ok (.getfield 10, 3) := by decide +kernel
theorem dX2_total_49 : decode cX2_total 49 = .ok (.aload_n 0, 1) := by decide +kernel
theorem dX2_total_50 : decode cX2_total 50 = .ok (.getfield 39, 3) := by decide +kernel
theorem dX2_total_53 : decode cX2_total 53 = .ok (.aload_n 0, 1) := by decide +kernel
theorem dX2_total_54 : decode cX2_total 54 = .ok (.getfield 32, 3) := by decide +kernel
theorem dX2_total_57 : decode cX2_total 57 = .ok (.iload_n 1, 1) := by decide +kernel
theorem dX2_total_58 : decode cX2_total 58 = .ok (.aaload, 1) := by decide +kernel
theorem dX2_total_59 : decode cX2_total 59 = .ok (.invokevirtual 85, 3) := by decide +kernel
theorem dX2_total_62 : decode cX2_total 62 = .ok (.ifCond .ne 7, 3) := by decide +kernel
theorem dX2_total_65 : decode cX2_total 65 = .ok (.ldc2_w 89, 3) := by decide +kernel
theorem dX2_total_68 : decode cX2_total 68 = .ok (.lreturn, 1) := by decide +kernel
theorem dX2_total_69 : decode cX2_total 69 = .ok (.aload_n 0, 1) := by decide +kernel
theorem dX2_total_70 : decode cX2_total 70 = .ok (.getfield 26, 3) := by decide +kernel
theorem dX2_total_73 : decode cX2_total 73 = .ok (.aload_n 0, 1) := by decide +kernel
theorem dX2_total_74 : decode cX2_total 74 = .ok (.getfield 10, 3) := by decide +kernel
theorem dX2_total_77 : decode cX2_total 77 = .ok (.iload_n 2, 1) := by decide +kernel
theorem dX2_total_78 : decode cX2_total 78 = .ok (.iload_n 3, 1) := by decide +kernel
theorem dX2_total_79 : decode cX2_total 79 = .ok (.invokevirtual 104, 3) := by decide +kernel
theorem dX2_total_82 : decode cX2_total 82 = .ok (.lstore 5, 2) := by decide +kernel
theorem dX2_total_84 : decode cX2_total 84 = .ok (.iload 4, 2) := by decide +kernel
theorem dX2_total_86 : decode cX2_total 86 = .ok (.ifCond .ne 8, 3) := by decide +kernel
theorem dX2_total_89 : decode cX2_total 89 = .ok (.lload 5, 2) := by decide +kernel
theorem dX2_total_91 : decode cX2_total 91 = .ok (.goto 10, 3) := by decide +kernel
theorem dX2_total_94 : decode cX2_total 94 = .ok (.aload_n 0, 1) := by decide +kernel
theorem dX2_total_95 : decode cX2_total 95 = .ok (.getfield 26, 3) := by decide +kernel
theorem dX2_total_98 : decode cX2_total 98 = .ok (.getfield 95, 3) := by decide +kernel
theorem dX2_total_101 : decode cX2_total 101 = .ok (.lload 5, 2) := by decide +kernel
theorem dX2_total_103 : decode cX2_total 103 = .ok (.aload_n 0, 1) := by decide +kernel
theorem dX2_total_104 : decode cX2_total 104 = .ok (.getfield 26, 3) := by decide +kernel
theorem dX2_total_107 : decode cX2_total 107 = .ok (.getfield 95, 3) := by decide +kernel
theorem dX2_total_110 : decode cX2_total 110 = .ok (.invokestatic 108, 3) := by decide +kernel
theorem dX2_total_113 : decode cX2_total 113 = .ok (.lreturn, 1) := by decide +kernel
theorem dX2_share_0 : decode cX2_share 0 = .ok (.iload_n 1, 1) := by decide +kernel
theorem dX2_share_1 : decode cX2_share 1 = .ok (.invokestatic 80, 3) := by decide +kernel
theorem dX2_share_4 : decode cX2_share 4 = .ok (.ifCond .eq 18, 3) := by decide +kernel
theorem dX2_share_7 : decode cX2_share 7 = .ok (.iload_n 2, 1) := by decide +kernel
theorem dX2_share_8 : decode cX2_share 8 = .ok (.invokestatic 58, 3) := by decide +kernel
theorem dX2_share_11 : decode cX2_share 11 = .ok (.ifCond .eq 11, 3) := by decide +kernel
theorem dX2_share_14 : decode cX2_share 14 = .ok (.aload_n 0, 1) := by decide +kernel
theorem dX2_share_15 : decode cX2_share 15 = .ok (.iload_n 3, 1) := by decide +kernel
theorem dX2_share_16 : decode cX2_share 16 = .ok (.invokevirtual 46, 3) := by decide +kernel
theorem dX2_share_19 : decode cX2_share 19 = .ok (.ifCond .ne 7, 3) := by decide +kernel
theorem dX2_share_22 : decode cX2_share 22 = .ok (.ldc2_w 83, 3) := by decide +kernel
theorem dX2_share_25 : decode cX2_share 25 = .ok (.lreturn, 1) := by decide +kernel
theorem dX2_share_26 : decode cX2_share 26 = .ok (.aload_n 0, 1) := by decide +kernel
theorem dX2_share_27 : decode cX2_share 27 = .ok (.getfield 26, 3) := by decide +kernel
theorem dX2_share_30 : decode cX2_share 30 = .ok (.aload_n 0, 1) := by decide +kernel
theorem dX2_share_31 : decode cX2_share 31 = .ok (.getfield 10, 3) := by decide +kernel
theorem dX2_share_34 : decode cX2_share 34 = .ok (.aload_n 0, 1) := by decide +kernel
theorem dX2_share_35 : decode cX2_share 35 = .ok (.getfield 39, 3) := by decide +kernel
theorem dX2_share_38 : decode cX2_share 38 = .ok (.aload_n 0, 1) := by decide +kernel
theorem dX2_share_39 : decode cX2_share 39 = .ok (.getfield 32, 3) := by decide +kernel
theorem dX2_share_42 : decode cX2_share 42 = .ok (.iload_n 1, 1) := by decide +kernel
theorem dX2_share_43 : decode cX2_share 43 = .ok (.aaload, 1) := by decide +kernel
theorem dX2_share_44 : decode cX2_share 44 = .ok (.invokevirtual 85, 3) := by decide +kernel
theorem dX2_share_47 : decode cX2_share 47 = .ok (.ifCond .ne 7, 3) := by decide +kernel
theorem dX2_share_50 : decode cX2_share 50 = .ok (.ldc2_w 89, 3) := by decide +kernel
theorem dX2_share_53 : decode cX2_share 53 = .ok (.lreturn, 1) := by decide +kernel
theorem dX2_share_54 : decode cX2_share 54 = .ok (.aload_n 0, 1) := by decide +kernel
theorem dX2_share_55 : decode cX2_share 55 = .ok (.getfield 26, 3) := by decide +kernel
theorem dX2_share_58 : decode cX2_share 58 = .ok (.aload_n 0, 1) := by decide +kernel
theorem dX2_share_59 : decode cX2_share 59 = .ok (.getfield 10, 3) := by decide +kernel
theorem dX2_share_62 : decode cX2_share 62 = .ok (.iload_n 2, 1) := by decide +kernel
theorem dX2_share_63 : decode cX2_share 63 = .ok (.iload_n 3, 1) := by decide +kernel
theorem dX2_share_64 : decode cX2_share 64 = .ok (.iconst 1, 1) := by decide +kernel
theorem dX2_share_65 : decode cX2_share 65 = .ok (.invokevirtual 112, 3) := by decide +kernel
theorem dX2_share_68 : decode cX2_share 68 = .ok (.aload_n 0, 1) := by decide +kernel
theorem dX2_share_69 : decode cX2_share 69 = .ok (.getfield 26, 3) := by decide +kernel
theorem dX2_share_72 : decode cX2_share 72 = .ok (.getfield 95, 3) := by decide +kernel
theorem dX2_share_75 : decode cX2_share 75 = .ok (.invokestatic 98, 3) := by decide +kernel
theorem dX2_share_78 : decode cX2_share 78 = .ok (.lreturn, 1) := by decide +kernel
theorem dX2_isMakingOrNone_0 : decode cX2_isMakingOrNone 0 = .ok (.iload_n 1, 1) := by decide +kernel
theorem dX2_isMakingOrNone_1 : decode cX2_isMakingOrNone 1 = .ok (.iconst (-1), 1) := by decide +kernel
theorem dX2_isMakingOrNone_2 : decode cX2_isMakingOrNone 2 = .ok (.if_icmp .eq 11, 3) := by decide +kernel
theorem dX2_isMakingOrNone_5 : decode cX2_isMakingOrNone 5 = .ok (.aload_n 0, 1) := by decide +kernel
theorem dX2_isMakingOrNone_6 : decode cX2_isMakingOrNone 6 = .ok (.iload_n 1, 1) := by decide +kernel
theorem dX2_isMakingOrNone_7 : decode cX2_isMakingOrNone 7 = .ok (.invokevirtual 46, 3) := by decide +kernel
theorem dX2_isMakingOrNone_10 : decode cX2_isMakingOrNone 10 = .ok (.ifCond .eq 7, 3) := by decide +kernel
theorem dX2_isMakingOrNone_13 : decode cX2_isMakingOrNone 13 = .ok (.iconst 1, 1) := by decide +kernel
theorem dX2_isMakingOrNone_14 : decode cX2_isMakingOrNone 14 = .ok (.goto 4, 3) := by decide +kernel
theorem dX2_isMakingOrNone_17 : decode cX2_isMakingOrNone 17 = .ok (.iconst 0, 1) := by decide +kernel
theorem dX2_isMakingOrNone_18 : decode cX2_isMakingOrNone 18 = .ok (.ireturn, 1) := by decide +kernel
theorem dX2_stepBelow_0 : decode cX2_stepBelow 0 = .ok (.iload_n 1, 1) := by decide +kernel
theorem dX2_stepBelow_1 : decode cX2_stepBelow 1 = .ok (.iconst (-1), 1) := by decide +kernel
theorem dX2_stepBelow_2 : decode cX2_stepBelow 2 = .ok (.if_icmp .ne 7, 3) := by decide +kernel
theorem dX2_stepBelow_5 : decode cX2_stepBelow 5 = .ok (.lconst 1, 1) := by decide +kernel
theorem dX2_stepBelow_6 : decode cX2_stepBelow 6 = .ok (.goto 13, 3) := by decide +kernel
theorem dX2_stepBelow_9 : decode cX2_stepBelow 9 = .ok (.aload_n 0, 1) := by decide +kernel
theorem dX2_stepBelow_10 : decode cX2_stepBelow 10 = .ok (.getfield 10, 3) := by decide +kernel
theorem dX2_stepBelow_13 : decode cX2_stepBelow 13 = .ok (.iload_n 1, 1) := by decide +kernel
theorem dX2_stepBelow_14 : decode cX2_stepBelow 14 = .ok (.iload_n 1, 1) := by decide +kernel
theorem dX2_stepBelow_15 : decode cX2_stepBelow 15 = .ok (.invokevirtual 69, 3) := by decide +kernel
theorem dX2_stepBelow_18 : decode cX2_stepBelow 18 = .ok (.i2l, 1) := by decide +kernel
theorem dX2_stepBelow_19 : decode cX2_stepBelow 19 = .ok (.lreturn, 1) := by decide +kernel
theorem dX2_stepAbove_0 : decode cX2_stepAbove 0 = .ok (.iload_n 1, 1) := by decide +kernel
theorem dX2_stepAbove_1 : decode cX2_stepAbove 1 = .ok (.iconst (-1), 1) := by decide +kernel
theorem dX2_stepAbove_2 : decode cX2_stepAbove 2 = .ok (.if_icmp .eq 8, 3) := by decide +kernel
theorem dX2_stepAbove_5 : decode cX2_stepAbove 5 = .ok (.iload_n 2, 1) := by decide +kernel
theorem dX2_stepAbove_6 : decode cX2_stepAbove 6 = .ok (.iconst (-1), 1) := by decide +kernel
theorem dX2_stepAbove_7 : decode cX2_stepAbove 7 = .ok (.if_icmp .ne 7, 3) := by decide +kernel
theorem dX2_stepAbove_10 : decode cX2_stepAbove 10 = .ok (.lconst 1, 1) := by decide +kernel
theorem dX2_stepAbove_11 : decode cX2_stepAbove 11 = .ok (.goto 14, 3) := by decide +kernel
theorem dX2_stepAbove_14 : decode cX2_stepAbove 14 = .ok (.aload_n 0, 1) := by decide +kernel
theorem dX2_stepAbove_15 : decode cX2_stepAbove 15 = .ok (.getfield 10, 3) := by decide +kernel
theorem dX2_stepAbove_18 : decode cX2_stepAbove 18 = .ok (.iload_n 2, 1) := by decide +kernel
theorem dX2_stepAbove_19 : decode cX2_stepAbove 19 = .ok (.iload_n 1, 1) := by decide +kernel
theorem dX2_stepAbove_20 : decode cX2_stepAbove 20 = .ok (.invokevirtual 69, 3) := by decide +kernel
theorem dX2_stepAbove_23 : decode cX2_stepAbove 23 = .ok (.ineg, 1) := by decide +kernel
theorem dX2_stepAbove_24 : decode cX2_stepAbove 24 = .ok (.i2l, 1) := by decide +kernel
theorem dX2_stepAbove_25 : decode cX2_stepAbove 25 = .ok (.lreturn, 1) := by decide +kernel
theorem dX2_way_0 : decode cX2_way 0 = .ok (.iload_n 1, 1) := by decide +kernel
theorem dX2_way_1 : decode cX2_way 1 = .ok (.invokestatic 80, 3) := by decide +kernel
theorem dX2_way_4 : decode cX2_way 4 = .ok (.ifCond .eq 18, 3) := by decide +kernel
theorem dX2_way_7 : decode cX2_way 7 = .ok (.iload_n 2, 1) := by decide +kernel
theorem dX2_way_8 : decode cX2_way 8 = .ok (.invokestatic 58, 3) := by decide +kernel
theorem dX2_way_11 : decode cX2_way 11 = .ok (.ifCond .eq 11, 3) := by decide +kernel
theorem dX2_way_14 : decode cX2_way 14 = .ok (.aload_n 0, 1) := by decide +kernel
theorem dX2_way_15 : decode cX2_way 15 = .ok (.iload_n 3, 1) := by decide +kernel
theorem dX2_way_16 : decode cX2_way 16 = .ok (.invokevirtual 46, 3) := by decide +kernel
theorem dX2_way_19 : decode cX2_way 19 = .ok (.ifCond .ne 7, 3) := by decide +kernel
theorem dX2_way_22 : decode cX2_way 22 = .ok (.ldc2_w 83, 3) := by decide +kernel
theorem dX2_way_25 : decode cX2_way 25 = .ok (.lreturn, 1) := by decide +kernel
theorem dX2_way_26 : decode cX2_way 26 = .ok (.aload_n 0, 1) := by decide +kernel
theorem dX2_way_27 : decode cX2_way 27 = .ok (.iload 4, 2) := by decide +kernel
theorem dX2_way_29 : decode cX2_way 29 = .ok (.invokevirtual 116, 3) := by decide +kernel
theorem dX2_way_32 : decode cX2_way 32 = .ok (.ifCond .eq 12, 3) := by decide +kernel
theorem dX2_way_35 : decode cX2_way 35 = .ok (.aload_n 0, 1) := by decide +kernel
theorem dX2_way_36 : decode cX2_way 36 = .ok (.iload 5, 2) := by decide +kernel
theorem dX2_way_38 : decode cX2_way 38 = .ok (.invokevirtual 116, 3) := by decide +kernel
theorem dX2_way_41 : decode cX2_way 41 = .ok (.ifCond .ne 7, 3) := by decide +kernel
theorem dX2_way_44 : decode cX2_way 44 = .ok (.ldc2_w 83, 3) := by decide +kernel
theorem dX2_way_47 : decode cX2_way 47 = .ok (.lreturn, 1) := by decide +kernel
theorem dX2_way_48 : decode cX2_way 48 = .ok (.iload 4, 2) := by decide +kernel
theorem dX2_way_50 : decode cX2_way 50 = .ok (.iconst (-1), 1) := by decide +kernel
theorem dX2_way_51 : decode cX2_way 51 = .ok (.if_icmp .ne 9, 3) := by decide +kernel
theorem dX2_way_54 : decode cX2_way 54 = .ok (.iload 5, 2) := by decide +kernel
theorem dX2_way_56 : decode cX2_way 56 = .ok (.iconst (-1), 1) := by decide +kernel
theorem dX2_way_57 : decode cX2_way 57 = .ok (.if_icmp .ne 22, 3) := by decide +kernel
theorem dX2_way_60 : decode cX2_way 60 = .ok (.iload_n 3, 1) := by decide +kernel
theorem dX2_way_61 : decode cX2_way 61 = .ok (.iload 4, 2) := by decide +kernel
theorem dX2_way_63 : decode cX2_way 63 = .ok (.if_icmp .eq 16, 3) := by decide +kernel
theorem dX2_way_66 : decode cX2_way 66 = .ok (.iload 5, 2) := by decide +kernel
theorem dX2_way_68 : decode cX2_way 68 = .ok (.iconst (-1), 1) := by decide +kernel
theorem dX2_way_69 : decode cX2_way 69 = .ok (.if_icmp .eq 14, 3) := by decide +kernel
theorem dX2_way_72 : decode cX2_way 72 = .ok (.iload 4, 2) := by decide +kernel
theorem dX2_way_74 : decode cX2_way 74 = .ok (.iload 5, 2) := by decide +kernel
theorem dX2_way_76 : decode cX2_way 76 = .ok (.if_icmp .ne 7, 3) := by decide +kernel
theorem dX2_way_79 : decode cX2_way 79 = .ok (.ldc2_w 102, 3) := by decide +kernel
theorem dX2_way_82 : decode cX2_way 82 = .ok (.lreturn, 1) := by decide +kernel
theorem dX2_way_83 : decode cX2_way 83 = .ok (.aload_n 0, 1) := by decide +kernel
theorem dX2_way_84 : decode cX2_way 84 = .ok (.getfield 10, 3) := by decide +kernel
theorem dX2_way_87 : decode cX2_way 87 = .ok (.iload_n 3, 1) := by decide +kernel
theorem dX2_way_88 : decode cX2_way 88 = .ok (.iload_n 3, 1) := by decide +kernel
theorem dX2_way_89 : decode cX2_way 89 = .ok (.invokevirtual 69, 3) := by decide +kernel
theorem dX2_way_92 : decode cX2_way 92 = .ok (.i2l, 1) := by decide +kernel
theorem dX2_way_93 : decode cX2_way 93 = .ok (.aload_n 0, 1) := by decide +kernel
theorem dX2_way_94 : decode cX2_way 94 = .ok (.iload 4, 2) := by decide +kernel
theorem dX2_way_96 : decode cX2_way 96 = .ok (.invokevirtual 119, 3) := by decide +kernel
theorem dX2_way_99 : decode cX2_way 99 = .ok (.lmul, 1) := by decide +kernel
theorem dX2_way_100 : decode cX2_way 100 = .ok (.aload_n 0, 1) := by decide +kernel
theorem dX2_way_101 : decode cX2_way 101 = .ok (.iload 5, 2) := by decide +kernel
theorem dX2_way_103 : decode cX2_way 103 = .ok (.invokevirtual 119, 3) := by decide +kernel
theorem dX2_way_106 : decode cX2_way 106 = .ok (.lmul, 1) := by decide +kernel
theorem dX2_way_107 : decode cX2_way 107 = .ok (.lstore 6, 2) := by decide +kernel
theorem dX2_way_109 : decode cX2_way 109 = .ok (.lload 6, 2) := by decide +kernel
theorem dX2_way_111 : decode cX2_way 111 = .ok (.lconst 0, 1) := by decide +kernel
theorem dX2_way_112 : decode cX2_way 112 = .ok (.lcmp, 1) := by decide +kernel
theorem dX2_way_113 : decode cX2_way 113 = .ok (.ifCond .ne 7, 3) := by decide +kernel
theorem dX2_way_116 : decode cX2_way 116 = .ok (.ldc2_w 89, 3) := by decide +kernel
theorem dX2_way_119 : decode cX2_way 119 = .ok (.lreturn, 1) := by decide +kernel
theorem dX2_way_120 : decode cX2_way 120 = .ok (.iload 5, 2) := by decide +kernel
theorem dX2_way_122 : decode cX2_way 122 = .ok (.iconst (-1), 1) := by decide +kernel
theorem dX2_way_123 : decode cX2_way 123 = .ok (.if_icmp .eq 8, 3) := by decide +kernel
theorem dX2_way_126 : decode cX2_way 126 = .ok (.iload 5, 2) := by decide +kernel
theorem dX2_way_128 : decode cX2_way 128 = .ok (.goto 15, 3) := by decide +kernel
theorem dX2_way_131 : decode cX2_way 131 = .ok (.iload 4, 2) := by decide +kernel
theorem dX2_way_133 : decode cX2_way 133 = .ok (.iconst (-1), 1) := by decide +kernel
theorem dX2_way_134 : decode cX2_way 134 = .ok (.if_icmp .eq 8, 3) := by decide +kernel
theorem dX2_way_137 : decode cX2_way 137 = .ok (.iload 4, 2) := by decide +kernel
theorem dX2_way_139 : decode cX2_way 139 = .ok (.goto 4, 3) := by decide +kernel
theorem dX2_way_142 : decode cX2_way 142 = .ok (.iload_n 3, 1) := by decide +kernel
theorem dX2_way_143 : decode cX2_way 143 = .ok (.istore 8, 2) := by decide +kernel
theorem dX2_way_145 : decode cX2_way 145 = .ok (.aload_n 0, 1) := by decide +kernel
theorem dX2_way_146 : decode cX2_way 146 = .ok (.getfield 32, 3) := by decide +kernel
theorem dX2_way_149 : decode cX2_way 149 = .ok (.iload_n 1, 1) := by decide +kernel
theorem dX2_way_150 : decode cX2_way 150 = .ok (.aaload, 1) := by decide +kernel
theorem dX2_way_151 : decode cX2_way 151 = .ok (.iload_n 3, 1) := by decide +kernel
theorem dX2_way_152 : decode cX2_way 152 = .ok (.iaload, 1) := by decide +kernel
theorem dX2_way_153 : decode cX2_way 153 = .ok (.i2l, 1) := by decide +kernel
theorem dX2_way_154 : decode cX2_way 154 = .ok (.aload_n 0, 1) := by decide +kernel
theorem dX2_way_155 : decode cX2_way 155 = .ok (.iload_n 3, 1) := by decide +kernel
theorem dX2_way_156 : decode cX2_way 156 = .ok (.iload 4, 2) := by decide +kernel
theorem dX2_way_158 : decode cX2_way 158 = .ok (.invokevirtual 123, 3) := by decide +kernel
theorem dX2_way_161 : decode cX2_way 161 = .ok (.lmul, 1) := by decide +kernel
theorem dX2_way_162 : decode cX2_way 162 = .ok (.aload_n 0, 1) := by decide +kernel
theorem dX2_way_163 : decode cX2_way 163 = .ok (.iload 4, 2) := by decide +kernel
theorem dX2_way_165 : decode cX2_way 165 = .ok (.iload 5, 2) := by decide +kernel
theorem dX2_way_167 : decode cX2_way 167 = .ok (.invokevirtual 123, 3) := by decide +kernel
theorem dX2_way_170 : decode cX2_way 170 = .ok (.lmul, 1) := by decide +kernel
theorem dX2_way_171 : decode cX2_way 171 = .ok (.lstore 9, 2) := by decide +kernel
theorem dX2_way_173 : decode cX2_way 173 = .ok (.lload 9, 2) := by decide +kernel
theorem dX2_way_175 : decode cX2_way 175 = .ok (.aload_n 0, 1) := by decide +kernel
theorem dX2_way_176 : decode cX2_way 176 = .ok (.getfield 10, 3) := by decide +kernel
theorem dX2_way_179 : decode cX2_way 179 = .ok (.iload 8, 2) := by decide +kernel
theorem dX2_way_181 : decode cX2_way 181 = .ok (.iload_n 2, 1) := by decide +kernel
theorem dX2_way_182 : decode cX2_way 182 = .ok (.iconst 1, 1) := by decide +kernel
theorem dX2_way_183 : decode cX2_way 183 = .ok (.invokevirtual 127, 3) := by decide +kernel
theorem dX2_way_186 : decode cX2_way 186 = .ok (.lmul, 1) := by decide +kernel
theorem dX2_way_187 : decode cX2_way 187 = .ok (.lload 6, 2) := by decide +kernel
theorem dX2_way_189 : decode cX2_way 189 = .ok (.invokestatic 98, 3) := by decide +kernel
theorem dX2_way_192 : decode cX2_way 192 = .ok (.lreturn, 1) := by decide +kernel
theorem dX2_sure_0 : decode cX2_sure 0 = .ok (.iload_n 1, 1) := by decide +kernel
theorem dX2_sure_1 : decode cX2_sure 1 = .ok (.invokestatic 80, 3) := by decide +kernel
theorem dX2_sure_4 : decode cX2_sure 4 = .ok (.ifCond .eq 17, 3) := by decide +kernel
theorem dX2_sure_7 : decode cX2_sure 7 = .ok (.iload_n 2, 1) := by decide +kernel
theorem dX2_sure_8 : decode cX2_sure 8 = .ok (.invokestatic 80, 3) := by decide +kernel
theorem dX2_sure_11 : decode cX2_sure 11 = .ok (.ifCond .eq 10, 3) := by decide +kernel
theorem dX2_sure_14 : decode cX2_sure 14 = .ok (.iload_n 3, 1) := by decide +kernel
theorem dX2_sure_15 : decode cX2_sure 15 = .ok (.invokestatic 58, 3) := by decide +kernel
theorem dX2_sure_18 : decode cX2_sure 18 = .ok (.ifCond .ne 6, 3) := by decide +kernel
theorem dX2_sure_21 : decode cX2_sure 21 = .ok (.bipush (-101), 2) := by decide +kernel
theorem dX2_sure_23 : decode cX2_sure 23 = .ok (.ireturn, 1) := by decide +kernel
theorem dX2_sure_24 : decode cX2_sure 24 = .ok (.iconst 0, 1) := by decide +kernel
theorem dX2_sure_25 : decode cX2_sure 25 = .ok (.istore 4, 2) := by decide +kernel
theorem dX2_sure_27 : decode cX2_sure 27 = .ok (.iload 4, 2) := by decide +kernel
theorem dX2_sure_29 : decode cX2_sure 29 = .ok (.iconst 4, 1) := by decide +kernel
theorem dX2_sure_30 : decode cX2_sure 30 = .ok (.if_icmp .ge 35, 3) := by decide +kernel
theorem dX2_sure_33 : decode cX2_sure 33 = .ok (.aload_n 0, 1) := by decide +kernel
theorem dX2_sure_34 : decode cX2_sure 34 = .ok (.getfield 35, 3) := by decide +kernel
theorem dX2_sure_37 : decode cX2_sure 37 = .ok (.iload 4, 2) := by decide +kernel
theorem dX2_sure_39 : decode cX2_sure 39 = .ok (.aload_n 0, 1) := by decide +kernel
theorem dX2_sure_40 : decode cX2_sure 40 = .ok (.getfield 32, 3) := by decide +kernel
theorem dX2_sure_43 : decode cX2_sure 43 = .ok (.iload_n 1, 1) := by decide +kernel
theorem dX2_sure_44 : decode cX2_sure 44 = .ok (.aaload, 1) := by decide +kernel
theorem dX2_sure_45 : decode cX2_sure 45 = .ok (.iload 4, 2) := by decide +kernel
theorem dX2_sure_47 : decode cX2_sure 47 = .ok (.iaload, 1) := by decide +kernel
theorem dX2_sure_48 : decode cX2_sure 48 = .ok (.aload_n 0, 1) := by decide +kernel
theorem dX2_sure_49 : decode cX2_sure 49 = .ok (.getfield 32, 3) := by decide +kernel
theorem dX2_sure_52 : decode cX2_sure 52 = .ok (.iload_n 2, 1) := by decide +kernel
theorem dX2_sure_53 : decode cX2_sure 53 = .ok (.aaload, 1) := by decide +kernel
theorem dX2_sure_54 : decode cX2_sure 54 = .ok (.iload 4, 2) := by decide +kernel
theorem dX2_sure_56 : decode cX2_sure 56 = .ok (.iaload, 1) := by decide +kernel
theorem dX2_sure_57 : decode cX2_sure 57 = .ok (.isub, 1) := by decide +kernel
theorem dX2_sure_58 : decode cX2_sure 58 = .ok (.iastore, 1) := by decide +kernel
theorem dX2_sure_59 : decode cX2_sure 59 = .ok (.iinc 4 1, 3) := by decide +kernel
theorem dX2_sure_62 : decode cX2_sure 62 = .ok (.goto (-35), 3) := by decide +kernel
theorem dX2_sure_65 : decode cX2_sure 65 = .ok (.aload_n 0, 1) := by decide +kernel
theorem dX2_sure_66 : decode cX2_sure 66 = .ok (.getfield 26, 3) := by decide +kernel
theorem dX2_sure_69 : decode cX2_sure 69 = .ok (.aload_n 0, 1) := by decide +kernel
theorem dX2_sure_70 : decode cX2_sure 70 = .ok (.getfield 10, 3) := by decide +kernel
theorem dX2_sure_73 : decode cX2_sure 73 = .ok (.aload_n 0, 1) := by decide +kernel
theorem dX2_sure_74 : decode cX2_sure 74 = .ok (.getfield 39, 3) := by decide +kernel
theorem dX2_sure_77 : decode cX2_sure 77 = .ok (.aload_n 0, 1) := by decide +kernel
theorem dX2_sure_78 : decode cX2_sure 78 = .ok (.getfield 35, 3) := by decide +kernel
theorem dX2_sure_81 : decode cX2_sure 81 = .ok (.invokevirtual 85, 3) := by decide +kernel
theorem dX2_sure_84 : decode cX2_sure 84 = .ok (.ifCond .ne 6, 3) := by decide +kernel
theorem dX2_sure_87 : decode cX2_sure 87 = .ok (.bipush (-104), 2) := by decide +kernel
theorem dX2_sure_89 : decode cX2_sure 89 = .ok (.ireturn, 1) := by decide +kernel
theorem dX2_sure_90 : decode cX2_sure 90 = .ok (.aload_n 0, 1) := by decide +kernel
theorem dX2_sure_91 : decode cX2_sure 91 = .ok (.getfield 26, 3) := by decide +kernel
theorem dX2_sure_94 : decode cX2_sure 94 = .ok (.aload_n 0, 1) := by decide +kernel
theorem dX2_sure_95 : decode cX2_sure 95 = .ok (.getfield 10, 3) := by decide +kernel
theorem dX2_sure_98 : decode cX2_sure 98 = .ok (.iload_n 3, 1) := by decide +kernel
theorem dX2_sure_99 : decode cX2_sure 99 = .ok (.iconst 2, 1) := by decide +kernel
theorem dX2_sure_100 : decode cX2_sure 100 = .ok (.invokevirtual 104, 3) := by decide +kernel
theorem dX2_sure_103 : decode cX2_sure 103 = .ok (.lconst 0, 1) := by decide +kernel
theorem dX2_sure_104 : decode cX2_sure 104 = .ok (.lcmp, 1) := by decide +kernel
theorem dX2_sure_105 : decode cX2_sure 105 = .ok (.ifCond .gt 7, 3) := by decide +kernel
theorem dX2_sure_108 : decode cX2_sure 108 = .ok (.iconst 1, 1) := by decide +kernel
theorem dX2_sure_109 : decode cX2_sure 109 = .ok (.goto 4, 3) := by decide +kernel
theorem dX2_sure_112 : decode cX2_sure 112 = .ok (.iconst 0, 1) := by decide +kernel
theorem dX2_sure_113 : decode cX2_sure 113 = .ok (.ireturn, 1) := by decide +kernel
theorem dX2_most_0 : decode cX2_most 0 = .ok (.iload_n 1, 1) := by decide +kernel
theorem dX2_most_1 : decode cX2_most 1 = .ok (.invokestatic 80, 3) := by decide +kernel
theorem dX2_most_4 : decode cX2_most 4 = .ok (.ifCond .eq 10, 3) := by decide +kernel
theorem dX2_most_7 : decode cX2_most 7 = .ok (.iload_n 2, 1) := by decide +kernel
theorem dX2_most_8 : decode cX2_most 8 = .ok (.invokestatic 58, 3) := by decide +kernel
theorem dX2_most_11 : decode cX2_most 11 = .ok (.ifCond .ne 6, 3) := by decide +kernel
theorem dX2_most_14 : decode cX2_most 14 = .ok (.bipush (-101), 2) := by decide +kernel
theorem dX2_most_16 : decode cX2_most 16 = .ok (.ireturn, 1) := by decide +kernel
theorem dX2_most_17 : decode cX2_most 17 = .ok (.aload_n 0, 1) := by decide +kernel
theorem dX2_most_18 : decode cX2_most 18 = .ok (.getfield 26, 3) := by decide +kernel
theorem dX2_most_21 : decode cX2_most 21 = .ok (.aload_n 0, 1) := by decide +kernel
theorem dX2_most_22 : decode cX2_most 22 = .ok (.getfield 10, 3) := by decide +kernel
theorem dX2_most_25 : decode cX2_most 25 = .ok (.aload_n 0, 1) := by decide +kernel
theorem dX2_most_26 : decode cX2_most 26 = .ok (.getfield 39, 3) := by decide +kernel
theorem dX2_most_29 : decode cX2_most 29 = .ok (.aload_n 0, 1) := by decide +kernel
theorem dX2_most_30 : decode cX2_most 30 = .ok (.getfield 32, 3) := by decide +kernel
theorem dX2_most_33 : decode cX2_most 33 = .ok (.iload_n 1, 1) := by decide +kernel
theorem dX2_most_34 : decode cX2_most 34 = .ok (.aaload, 1) := by decide +kernel
theorem dX2_most_35 : decode cX2_most 35 = .ok (.invokevirtual 85, 3) := by decide +kernel
theorem dX2_most_38 : decode cX2_most 38 = .ok (.ifCond .ne 6, 3) := by decide +kernel
theorem dX2_most_41 : decode cX2_most 41 = .ok (.bipush (-104), 2) := by decide +kernel
theorem dX2_most_43 : decode cX2_most 43 = .ok (.ireturn, 1) := by decide +kernel
theorem dX2_most_44 : decode cX2_most 44 = .ok (.iconst (-1), 1) := by decide +kernel
theorem dX2_most_45 : decode cX2_most 45 = .ok (.istore_n 3, 1) := by decide +kernel
theorem dX2_most_46 : decode cX2_most 46 = .ok (.lconst 0, 1) := by decide +kernel
theorem dX2_most_47 : decode cX2_most 47 = .ok (.lstore 4, 2) := by decide +kernel
theorem dX2_most_49 : decode cX2_most 49 = .ok (.iconst 0, 1) := by decide +kernel
theorem dX2_most_50 : decode cX2_most 50 = .ok (.istore 6, 2) := by decide +kernel
theorem dX2_most_52 : decode cX2_most 52 = .ok (.iload 6, 2) := by decide +kernel
theorem dX2_most_54 : decode cX2_most 54 = .ok (.aload_n 0, 1) := by decide +kernel
theorem dX2_most_55 : decode cX2_most 55 = .ok (.getfield 39, 3) := by decide +kernel
theorem dX2_most_58 : decode cX2_most 58 = .ok (.if_icmp .ge 46, 3) := by decide +kernel
theorem dX2_most_61 : decode cX2_most 61 = .ok (.aload_n 0, 1) := by decide +kernel
theorem dX2_most_62 : decode cX2_most 62 = .ok (.getfield 26, 3) := by decide +kernel
theorem dX2_most_65 : decode cX2_most 65 = .ok (.aload_n 0, 1) := by decide +kernel
theorem dX2_most_66 : decode cX2_most 66 = .ok (.getfield 10, 3) := by decide +kernel
theorem dX2_most_69 : decode cX2_most 69 = .ok (.iload_n 2, 1) := by decide +kernel
theorem dX2_most_70 : decode cX2_most 70 = .ok (.iload 6, 2) := by decide +kernel
theorem dX2_most_72 : decode cX2_most 72 = .ok (.iconst 1, 1) := by decide +kernel
theorem dX2_most_73 : decode cX2_most 73 = .ok (.invokevirtual 112, 3) := by decide +kernel
theorem dX2_most_76 : decode cX2_most 76 = .ok (.lstore 7, 2) := by decide +kernel
theorem dX2_most_78 : decode cX2_most 78 = .ok (.iload_n 3, 1) := by decide +kernel
theorem dX2_most_79 : decode cX2_most 79 = .ok (.iconst (-1), 1) := by decide +kernel
theorem dX2_most_80 : decode cX2_most 80 = .ok (.if_icmp .eq 11, 3) := by decide +kernel
theorem dX2_most_83 : decode cX2_most 83 = .ok (.lload 7, 2) := by decide +kernel
theorem dX2_most_85 : decode cX2_most 85 = .ok (.lload 4, 2) := by decide +kernel
theorem dX2_most_87 : decode cX2_most 87 = .ok (.lcmp, 1) := by decide +kernel
theorem dX2_most_88 : decode cX2_most 88 = .ok (.ifCond .le 10, 3) := by decide +kernel
theorem dX2_most_91 : decode cX2_most 91 = .ok (.iload 6, 2) := by decide +kernel
theorem dX2_most_93 : decode cX2_most 93 = .ok (.istore_n 3, 1) := by decide +kernel
theorem dX2_most_94 : decode cX2_most 94 = .ok (.lload 7, 2) := by decide +kernel
theorem dX2_most_96 : decode cX2_most 96 = .ok (.lstore 4, 2) := by decide +kernel
theorem dX2_most_98 : decode cX2_most 98 = .ok (.iinc 6 1, 3) := by decide +kernel
theorem dX2_most_101 : decode cX2_most 101 = .ok (.goto (-49), 3) := by decide +kernel
theorem dX2_most_104 : decode cX2_most 104 = .ok (.iload_n 3, 1) := by decide +kernel
theorem dX2_most_105 : decode cX2_most 105 = .ok (.ireturn, 1) := by decide +kernel
theorem dX2_turned_0 : decode cX2_turned 0 = .ok (.iload_n 1, 1) := by decide +kernel
theorem dX2_turned_1 : decode cX2_turned 1 = .ok (.invokestatic 80, 3) := by decide +kernel
theorem dX2_turned_4 : decode cX2_turned 4 = .ok (.ifCond .ne 6, 3) := by decide +kernel
theorem dX2_turned_7 : decode cX2_turned 7 = .ok (.bipush (-101), 2) := by decide +kernel
theorem dX2_turned_9 : decode cX2_turned 9 = .ok (.ireturn, 1) := by decide +kernel
theorem dX2_turned_10 : decode cX2_turned 10 = .ok (.aload_n 0, 1) := by decide +kernel
theorem dX2_turned_11 : decode cX2_turned 11 = .ok (.getfield 26, 3) := by decide +kernel
theorem dX2_turned_14 : decode cX2_turned 14 = .ok (.aload_n 0, 1) := by decide +kernel
theorem dX2_turned_15 : decode cX2_turned 15 = .ok (.getfield 10, 3) := by decide +kernel
theorem dX2_turned_18 : decode cX2_turned 18 = .ok (.aload_n 0, 1) := by decide +kernel
theorem dX2_turned_19 : decode cX2_turned 19 = .ok (.getfield 39, 3) := by decide +kernel
theorem dX2_turned_22 : decode cX2_turned 22 = .ok (.aload_n 0, 1) := by decide +kernel
theorem dX2_turned_23 : decode cX2_turned 23 = .ok (.getfield 32, 3) := by decide +kernel
theorem dX2_turned_26 : decode cX2_turned 26 = .ok (.iload_n 1, 1) := by decide +kernel
theorem dX2_turned_27 : decode cX2_turned 27 = .ok (.aaload, 1) := by decide +kernel
theorem dX2_turned_28 : decode cX2_turned 28 = .ok (.invokevirtual 85, 3) := by decide +kernel
theorem dX2_turned_31 : decode cX2_turned 31 = .ok (.ifCond .ne 6, 3) := by decide +kernel
theorem dX2_turned_34 : decode cX2_turned 34 = .ok (.bipush (-104), 2) := by decide +kernel
theorem dX2_turned_36 : decode cX2_turned 36 = .ok (.ireturn, 1) := by decide +kernel
theorem dX2_turned_37 : decode cX2_turned 37 = .ok (.iconst 0, 1) := by decide +kernel
theorem dX2_turned_38 : decode cX2_turned 38 = .ok (.istore_n 2, 1) := by decide +kernel
theorem dX2_turned_39 : decode cX2_turned 39 = .ok (.iload_n 2, 1) := by decide +kernel
theorem dX2_turned_40 : decode cX2_turned 40 = .ok (.aload_n 0, 1) := by decide +kernel
theorem dX2_turned_41 : decode cX2_turned 41 = .ok (.getfield 39, 3) := by decide +kernel
theorem dX2_turned_44 : decode cX2_turned 44 = .ok (.if_icmp .ge 25, 3) := by decide +kernel
theorem dX2_turned_47 : decode cX2_turned 47 = .ok (.aload_n 0, 1) := by decide +kernel
theorem dX2_turned_48 : decode cX2_turned 48 = .ok (.getfield 26, 3) := by decide +kernel
theorem dX2_turned_51 : decode cX2_turned 51 = .ok (.getfield 91, 3) := by decide +kernel
theorem dX2_turned_54 : decode cX2_turned 54 = .ok (.iload_n 2, 1) := by decide +kernel
theorem dX2_turned_55 : decode cX2_turned 55 = .ok (.laload, 1) := by decide +kernel
theorem dX2_turned_56 : decode cX2_turned 56 = .ok (.lconst 0, 1) := by decide +kernel
theorem dX2_turned_57 : decode cX2_turned 57 = .ok (.lcmp, 1) := by decide +kernel
theorem dX2_turned_58 : decode cX2_turned 58 = .ok (.ifCond .ge 5, 3) := by decide +kernel
theorem dX2_turned_61 : decode cX2_turned 61 = .ok (.iload_n 2, 1) := by decide +kernel
theorem dX2_turned_62 : decode cX2_turned 62 = .ok (.ireturn, 1) := by decide +kernel
theorem dX2_turned_63 : decode cX2_turned 63 = .ok (.iinc 2 1, 3) := by decide +kernel
theorem dX2_turned_66 : decode cX2_turned 66 = .ok (.goto (-27), 3) := by decide +kernel
theorem dX2_turned_69 : decode cX2_turned 69 = .ok (.iconst (-1), 1) := by decide +kernel
theorem dX2_turned_70 : decode cX2_turned 70 = .ok (.ireturn, 1) := by decide +kernel
theorem dX2_keep_0 : decode cX2_keep 0 = .ok (.aload_n 0, 1) := by decide +kernel
theorem dX2_keep_1 : decode cX2_keep 1 = .ok (.getfield 43, 3) := by decide +kernel
theorem dX2_keep_4 : decode cX2_keep 4 = .ok (.bipush 6, 2) := by decide +kernel
theorem dX2_keep_6 : decode cX2_keep 6 = .ok (.if_icmp .lt 6, 3) := by decide +kernel
theorem dX2_keep_9 : decode cX2_keep 9 = .ok (.bipush (-105), 2) := by decide +kernel
theorem dX2_keep_11 : decode cX2_keep 11 = .ok (.ireturn, 1) := by decide +kernel
theorem dX2_keep_12 : decode cX2_keep 12 = .ok (.aload_n 0, 1) := by decide +kernel
theorem dX2_keep_13 : decode cX2_keep 13 = .ok (.getfield 19, 3) := by decide +kernel
theorem dX2_keep_16 : decode cX2_keep 16 = .ok (.aload_n 0, 1) := by decide +kernel
theorem dX2_keep_17 : decode cX2_keep 17 = .ok (.getfield 43, 3) := by decide +kernel
theorem dX2_keep_20 : decode cX2_keep 20 = .ok (.aaload, 1) := by decide +kernel
theorem dX2_keep_21 : decode cX2_keep 21 = .ok (.aload_n 0, 1) := by decide +kernel
theorem dX2_keep_22 : decode cX2_keep 22 = .ok (.getfield 10, 3) := by decide +kernel
theorem dX2_keep_25 : decode cX2_keep 25 = .ok (.iconst 0, 1) := by decide +kernel
theorem dX2_keep_26 : decode cX2_keep 26 = .ok (.iconst 4, 1) := by decide +kernel
theorem dX2_keep_27 : decode cX2_keep 27 = .ok (.invokevirtual 131, 3) := by decide +kernel
theorem dX2_keep_30 : decode cX2_keep 30 = .ok (.aload_n 0, 1) := by decide +kernel
theorem dX2_keep_31 : decode cX2_keep 31 = .ok (.dup, 1) := by decide +kernel
theorem dX2_keep_32 : decode cX2_keep 32 = .ok (.getfield 43, 3) := by decide +kernel
theorem dX2_keep_35 : decode cX2_keep 35 = .ok (.iconst 1, 1) := by decide +kernel
theorem dX2_keep_36 : decode cX2_keep 36 = .ok (.iadd, 1) := by decide +kernel
theorem dX2_keep_37 : decode cX2_keep 37 = .ok (.putfield 43, 3) := by decide +kernel
theorem dX2_keep_40 : decode cX2_keep 40 = .ok (.aload_n 0, 1) := by decide +kernel
theorem dX2_keep_41 : decode cX2_keep 41 = .ok (.getfield 43, 3) := by decide +kernel
theorem dX2_keep_44 : decode cX2_keep 44 = .ok (.iconst 1, 1) := by decide +kernel
theorem dX2_keep_45 : decode cX2_keep 45 = .ok (.isub, 1) := by decide +kernel
theorem dX2_keep_46 : decode cX2_keep 46 = .ok (.ireturn, 1) := by decide +kernel
theorem dX2_isVersion_0 : decode cX2_isVersion 0 = .ok (.iload_n 1, 1) := by decide +kernel
theorem dX2_isVersion_1 : decode cX2_isVersion 1 = .ok (.ifCond .lt 15, 3) := by decide +kernel
theorem dX2_isVersion_4 : decode cX2_isVersion 4 = .ok (.iload_n 1, 1) := by decide +kernel
theorem dX2_isVersion_5 : decode cX2_isVersion 5 = .ok (.aload_n 0, 1) := by decide +kernel
theorem dX2_isVersion_6 : decode cX2_isVersion 6 = .ok (.getfield 43, 3) := by decide +kernel
theorem dX2_isVersion_9 : decode cX2_isVersion 9 = .ok (.if_icmp .ge 7, 3) := by decide +kernel
theorem dX2_isVersion_12 : decode cX2_isVersion 12 = .ok (.iconst 1, 1) := by decide +kernel
theorem dX2_isVersion_13 : decode cX2_isVersion 13 = .ok (.goto 4, 3) := by decide +kernel
theorem dX2_isVersion_16 : decode cX2_isVersion 16 = .ok (.iconst 0, 1) := by decide +kernel
theorem dX2_isVersion_17 : decode cX2_isVersion 17 = .ok (.ireturn, 1) := by decide +kernel
theorem dX2_recall_0 : decode cX2_recall 0 = .ok (.aload_n 0, 1) := by decide +kernel
theorem dX2_recall_1 : decode cX2_recall 1 = .ok (.iload_n 1, 1) := by decide +kernel
theorem dX2_recall_2 : decode cX2_recall 2 = .ok (.invokevirtual 135, 3) := by decide +kernel
theorem dX2_recall_5 : decode cX2_recall 5 = .ok (.ifCond .ne 6, 3) := by decide +kernel
theorem dX2_recall_8 : decode cX2_recall 8 = .ok (.bipush (-101), 2) := by decide +kernel
theorem dX2_recall_10 : decode cX2_recall 10 = .ok (.ireturn, 1) := by decide +kernel
theorem dX2_recall_11 : decode cX2_recall 11 = .ok (.aload_n 0, 1) := by decide +kernel
theorem dX2_recall_12 : decode cX2_recall 12 = .ok (.getfield 10, 3) := by decide +kernel
theorem dX2_recall_15 : decode cX2_recall 15 = .ok (.aload_n 0, 1) := by decide +kernel
theorem dX2_recall_16 : decode cX2_recall 16 = .ok (.getfield 19, 3) := by decide +kernel
theorem dX2_recall_19 : decode cX2_recall 19 = .ok (.iload_n 1, 1) := by decide +kernel
theorem dX2_recall_20 : decode cX2_recall 20 = .ok (.aaload, 1) := by decide +kernel
theorem dX2_recall_21 : decode cX2_recall 21 = .ok (.iconst 0, 1) := by decide +kernel
theorem dX2_recall_22 : decode cX2_recall 22 = .ok (.iconst 4, 1) := by decide +kernel
theorem dX2_recall_23 : decode cX2_recall 23 = .ok (.invokevirtual 131, 3) := by decide +kernel
theorem dX2_recall_26 : decode cX2_recall 26 = .ok (.iconst 1, 1) := by decide +kernel
theorem dX2_recall_27 : decode cX2_recall 27 = .ok (.ireturn, 1) := by decide +kernel
theorem dX2_mixedTotal_0 : decode cX2_mixedTotal 0 = .ok (.aload_n 0, 1) := by decide +kernel
theorem dX2_mixedTotal_1 : decode cX2_mixedTotal 1 = .ok (.getfield 16, 3) := by decide +kernel
theorem dX2_mixedTotal_4 : decode cX2_mixedTotal 4 = .ok (.aload_n 0, 1) := by decide +kernel
theorem dX2_mixedTotal_5 : decode cX2_mixedTotal 5 = .ok (.getfield 10, 3) := by decide +kernel
theorem dX2_mixedTotal_8 : decode cX2_mixedTotal 8 = .ok (.iconst 0, 1) := by decide +kernel
theorem dX2_mixedTotal_9 : decode cX2_mixedTotal 9 = .ok (.iload_n 2, 1) := by decide +kernel
theorem dX2_mixedTotal_10 : decode cX2_mixedTotal 10 = .ok (.invokevirtual 131, 3) := by decide +kernel
theorem dX2_mixedTotal_13 : decode cX2_mixedTotal 13 = .ok (.aload_n 0, 1) := by decide +kernel
theorem dX2_mixedTotal_14 : decode cX2_mixedTotal 14 = .ok (.getfield 16, 3) := by decide +kernel
theorem dX2_mixedTotal_17 : decode cX2_mixedTotal 17 = .ok (.aload_n 0, 1) := by decide +kernel
theorem dX2_mixedTotal_18 : decode cX2_mixedTotal 18 = .ok (.getfield 19, 3) := by decide +kernel
theorem dX2_mixedTotal_21 : decode cX2_mixedTotal 21 = .ok (.iload_n 1, 1) := by decide +kernel
theorem dX2_mixedTotal_22 : decode cX2_mixedTotal 22 = .ok (.aaload, 1) := by decide +kernel
theorem dX2_mixedTotal_23 : decode cX2_mixedTotal 23 = .ok (.iload_n 2, 1) := by decide +kernel
theorem dX2_mixedTotal_24 : decode cX2_mixedTotal 24 = .ok (.iconst 4, 1) := by decide +kernel
theorem dX2_mixedTotal_25 : decode cX2_mixedTotal 25 = .ok (.invokevirtual 131, 3) := by decide +kernel
theorem dX2_mixedTotal_28 : decode cX2_mixedTotal 28 = .ok (.aload_n 0, 1) := by decide +kernel
theorem dX2_mixedTotal_29 : decode cX2_mixedTotal 29 = .ok (.getfield 26, 3) := by decide +kernel
theorem dX2_mixedTotal_32 : decode cX2_mixedTotal 32 = .ok (.aload_n 0, 1) := by decide +kernel
theorem dX2_mixedTotal_33 : decode cX2_mixedTotal 33 = .ok (.getfield 16, 3) := by decide +kernel
theorem dX2_mixedTotal_36 : decode cX2_mixedTotal 36 = .ok (.aload_n 0, 1) := by decide +kernel
theorem dX2_mixedTotal_37 : decode cX2_mixedTotal 37 = .ok (.getfield 39, 3) := by decide +kernel
theorem dX2_mixedTotal_40 : decode cX2_mixedTotal 40 = .ok (.aload_n 0, 1) := by decide +kernel
theorem dX2_mixedTotal_41 : decode cX2_mixedTotal 41 = .ok (.getfield 32, 3) := by decide +kernel
theorem dX2_mixedTotal_44 : decode cX2_mixedTotal 44 = .ok (.iload_n 3, 1) := by decide +kernel
theorem dX2_mixedTotal_45 : decode cX2_mixedTotal 45 = .ok (.aaload, 1) := by decide +kernel
theorem dX2_mixedTotal_46 : decode cX2_mixedTotal 46 = .ok (.invokevirtual 85, 3) := by decide +kernel
theorem dX2_mixedTotal_49 : decode cX2_mixedTotal 49 = .ok (.ifCond .ne 7, 3) := by decide +kernel
theorem dX2_mixedTotal_52 : decode cX2_mixedTotal 52 = .ok (.ldc2_w 89, 3) := by decide +kernel
theorem dX2_mixedTotal_55 : decode cX2_mixedTotal 55 = .ok (.lreturn, 1) := by decide +kernel
theorem dX2_mixedTotal_56 : decode cX2_mixedTotal 56 = .ok (.aload_n 0, 1) := by decide +kernel
theorem dX2_mixedTotal_57 : decode cX2_mixedTotal 57 = .ok (.getfield 26, 3) := by decide +kernel
theorem dX2_mixedTotal_60 : decode cX2_mixedTotal 60 = .ok (.aload_n 0, 1) := by decide +kernel
theorem dX2_mixedTotal_61 : decode cX2_mixedTotal 61 = .ok (.getfield 16, 3) := by decide +kernel
theorem dX2_mixedTotal_64 : decode cX2_mixedTotal 64 = .ok (.iload 4, 2) := by decide +kernel
theorem dX2_mixedTotal_66 : decode cX2_mixedTotal 66 = .ok (.iconst 1, 1) := by decide +kernel
theorem dX2_mixedTotal_67 : decode cX2_mixedTotal 67 = .ok (.invokevirtual 104, 3) := by decide +kernel
theorem dX2_mixedTotal_70 : decode cX2_mixedTotal 70 = .ok (.aload_n 0, 1) := by decide +kernel
theorem dX2_mixedTotal_71 : decode cX2_mixedTotal 71 = .ok (.getfield 26, 3) := by decide +kernel
theorem dX2_mixedTotal_74 : decode cX2_mixedTotal 74 = .ok (.getfield 95, 3) := by decide +kernel
theorem dX2_mixedTotal_77 : decode cX2_mixedTotal 77 = .ok (.invokestatic 98, 3) := by decide +kernel
theorem dX2_mixedTotal_80 : decode cX2_mixedTotal 80 = .ok (.lreturn, 1) := by decide +kernel
theorem dX2_blame_0 : decode cX2_blame 0 = .ok (.aload_n 0, 1) := by decide +kernel
theorem dX2_blame_1 : decode cX2_blame 1 = .ok (.iload_n 1, 1) := by decide +kernel
theorem dX2_blame_2 : decode cX2_blame 2 = .ok (.invokevirtual 135, 3) := by decide +kernel
theorem dX2_blame_5 : decode cX2_blame 5 = .ok (.ifCond .eq 26, 3) := by decide +kernel
theorem dX2_blame_8 : decode cX2_blame 8 = .ok (.iload_n 2, 1) := by decide +kernel
theorem dX2_blame_9 : decode cX2_blame 9 = .ok (.invokestatic 80, 3) := by decide +kernel
theorem dX2_blame_12 : decode cX2_blame 12 = .ok (.ifCond .eq 19, 3) := by decide +kernel
theorem dX2_blame_15 : decode cX2_blame 15 = .ok (.iload_n 3, 1) := by decide +kernel
theorem dX2_blame_16 : decode cX2_blame 16 = .ok (.invokestatic 58, 3) := by decide +kernel
theorem dX2_blame_19 : decode cX2_blame 19 = .ok (.ifCond .eq 12, 3) := by decide +kernel
theorem dX2_blame_22 : decode cX2_blame 22 = .ok (.aload_n 0, 1) := by decide +kernel
theorem dX2_blame_23 : decode cX2_blame 23 = .ok (.iload 4, 2) := by decide +kernel
theorem dX2_blame_25 : decode cX2_blame 25 = .ok (.invokevirtual 46, 3) := by decide +kernel
theorem dX2_blame_28 : decode cX2_blame 28 = .ok (.ifCond .ne 7, 3) := by decide +kernel
theorem dX2_blame_31 : decode cX2_blame 31 = .ok (.ldc2_w 83, 3) := by decide +kernel
theorem dX2_blame_34 : decode cX2_blame 34 = .ok (.lreturn, 1) := by decide +kernel
theorem dX2_blame_35 : decode cX2_blame 35 = .ok (.aload_n 0, 1) := by decide +kernel
theorem dX2_blame_36 : decode cX2_blame 36 = .ok (.iload_n 1, 1) := by decide +kernel
theorem dX2_blame_37 : decode cX2_blame 37 = .ok (.iload 4, 2) := by decide +kernel
theorem dX2_blame_39 : decode cX2_blame 39 = .ok (.iconst 1, 1) := by decide +kernel
theorem dX2_blame_40 : decode cX2_blame 40 = .ok (.iadd, 1) := by decide +kernel
theorem dX2_blame_41 : decode cX2_blame 41 = .ok (.iload_n 2, 1) := by decide +kernel
theorem dX2_blame_42 : decode cX2_blame 42 = .ok (.iload_n 3, 1) := by decide +kernel
theorem dX2_blame_43 : decode cX2_blame 43 = .ok (.invokevirtual 138, 3) := by decide +kernel
theorem dX2_blame_46 : decode cX2_blame 46 = .ok (.lstore 5, 2) := by decide +kernel
theorem dX2_blame_48 : decode cX2_blame 48 = .ok (.aload_n 0, 1) := by decide +kernel
theorem dX2_blame_49 : decode cX2_blame 49 = .ok (.iload_n 1, 1) := by decide +kernel
theorem dX2_blame_50 : decode cX2_blame 50 = .ok (.iload 4, 2) := by decide +kernel
theorem dX2_blame_52 : decode cX2_blame 52 = .ok (.iload_n 2, 1) := by decide +kernel
theorem dX2_blame_53 : decode cX2_blame 53 = .ok (.iload_n 3, 1) := by decide +kernel
theorem dX2_blame_54 : decode cX2_blame 54 = .ok (.invokevirtual 138, 3) := by decide +kernel
theorem dX2_blame_57 : decode cX2_blame 57 = .ok (.lstore 7, 2) := by decide +kernel
theorem dX2_blame_59 : decode cX2_blame 59 = .ok (.lload 5, 2) := by decide +kernel
theorem dX2_blame_61 : decode cX2_blame 61 = .ok (.ldc2_w 89, 3) := by decide +kernel
theorem dX2_blame_64 : decode cX2_blame 64 = .ok (.lcmp, 1) := by decide +kernel
theorem dX2_blame_65 : decode cX2_blame 65 = .ok (.ifCond .eq 12, 3) := by decide +kernel
theorem dX2_blame_68 : decode cX2_blame 68 = .ok (.lload 7, 2) := by decide +kernel
theorem dX2_blame_70 : decode cX2_blame 70 = .ok (.ldc2_w 89, 3) := by decide +kernel
theorem dX2_blame_73 : decode cX2_blame 73 = .ok (.lcmp, 1) := by decide +kernel
theorem dX2_blame_74 : decode cX2_blame 74 = .ok (.ifCond .ne 7, 3) := by decide +kernel
theorem dX2_blame_77 : decode cX2_blame 77 = .ok (.ldc2_w 89, 3) := by decide +kernel
theorem dX2_blame_80 : decode cX2_blame 80 = .ok (.lreturn, 1) := by decide +kernel
theorem dX2_blame_81 : decode cX2_blame 81 = .ok (.lload 5, 2) := by decide +kernel
theorem dX2_blame_83 : decode cX2_blame 83 = .ok (.lload 7, 2) := by decide +kernel
theorem dX2_blame_85 : decode cX2_blame 85 = .ok (.lsub, 1) := by decide +kernel
theorem dX2_blame_86 : decode cX2_blame 86 = .ok (.lreturn, 1) := by decide +kernel
theorem dX2_makingsWithByProducts_0 : decode cX2_makingsWithByProducts 0 = .ok (.iconst 0, 1) := by decide +kernel
theorem dX2_makingsWithByProducts_1 : decode cX2_makingsWithByProducts 1 = .ok (.istore_n 1, 1) := by decide +kernel
theorem dX2_makingsWithByProducts_2 : decode cX2_makingsWithByProducts 2 = .ok (.iconst 0, 1) := by decide +kernel
theorem dX2_makingsWithByProducts_3 : decode cX2_makingsWithByProducts 3 = .ok (.istore_n 2, 1) := by decide +kernel
theorem dX2_makingsWithByProducts_4 : decode cX2_makingsWithByProducts 4 = .ok (.iload_n 2, 1) := by decide +kernel
theorem dX2_makingsWithByProducts_5 : decode cX2_makingsWithByProducts 5 = .ok (.aload_n 0, 1) := by decide +kernel
theorem dX2_makingsWithByProducts_6 : decode cX2_makingsWithByProducts 6 = .ok (.getfield 39, 3) := by decide +kernel
theorem dX2_makingsWithByProducts_9 : decode cX2_makingsWithByProducts 9 = .ok (.if_icmp .ge 23, 3) := by decide +kernel
theorem dX2_makingsWithByProducts_12 : decode cX2_makingsWithByProducts 12 = .ok (.aload_n 0, 1) := by decide +kernel
theorem dX2_makingsWithByProducts_13 : decode cX2_makingsWithByProducts 13 = .ok (.getfield 10, 3) := by decide +kernel
theorem dX2_makingsWithByProducts_16 : decode cX2_makingsWithByProducts 16 = .ok (.iload_n 2, 1) := by decide +kernel
theorem dX2_makingsWithByProducts_17 : decode cX2_makingsWithByProducts 17 = .ok (.invokevirtual 171, 3) := by decide +kernel
theorem dX2_makingsWithByProducts_20 : decode cX2_makingsWithByProducts 20 = .ok (.ifCond .eq 6, 3) := by decide +kernel
theorem dX2_makingsWithByProducts_23 : decode cX2_makingsWithByProducts 23 = .ok (.iinc 1 1, 3) := by decide +kernel
theorem dX2_makingsWithByProducts_26 : decode cX2_makingsWithByProducts 26 = .ok (.iinc 2 1, 3) := by decide +kernel
theorem dX2_makingsWithByProducts_29 : decode cX2_makingsWithByProducts 29 = .ok (.goto (-25), 3) := by decide +kernel
theorem dX2_makingsWithByProducts_32 : decode cX2_makingsWithByProducts 32 = .ok (.iload_n 1, 1) := by decide +kernel
theorem dX2_makingsWithByProducts_33 : decode cX2_makingsWithByProducts 33 = .ok (.ireturn, 1) := by decide +kernel
theorem dX2_entriesNotZero_0 : decode cX2_entriesNotZero 0 = .ok (.iconst 0, 1) := by decide +kernel
theorem dX2_entriesNotZero_1 : decode cX2_entriesNotZero 1 = .ok (.istore_n 1, 1) := by decide +kernel
theorem dX2_entriesNotZero_2 : decode cX2_entriesNotZero 2 = .ok (.iconst 0, 1) := by decide +kernel
theorem dX2_entriesNotZero_3 : decode cX2_entriesNotZero 3 = .ok (.istore_n 2, 1) := by decide +kernel
theorem dX2_entriesNotZero_4 : decode cX2_entriesNotZero 4 = .ok (.iload_n 2, 1) := by decide +kernel
theorem dX2_entriesNotZero_5 : decode cX2_entriesNotZero 5 = .ok (.aload_n 0, 1) := by decide +kernel
theorem dX2_entriesNotZero_6 : decode cX2_entriesNotZero 6 = .ok (.getfield 39, 3) := by decide +kernel
theorem dX2_entriesNotZero_9 : decode cX2_entriesNotZero 9 = .ok (.if_icmp .ge 40, 3) := by decide +kernel
theorem dX2_entriesNotZero_12 : decode cX2_entriesNotZero 12 = .ok (.iconst 0, 1) := by decide +kernel
theorem dX2_entriesNotZero_13 : decode cX2_entriesNotZero 13 = .ok (.istore_n 3, 1) := by decide +kernel
theorem dX2_entriesNotZero_14 : decode cX2_entriesNotZero 14 = .ok (.iload_n 3, 1) := by decide +kernel
theorem dX2_entriesNotZero_15 : decode cX2_entriesNotZero 15 = .ok (.aload_n 0, 1) := by decide +kernel
theorem dX2_entriesNotZero_16 : decode cX2_entriesNotZero 16 = .ok (.getfield 39, 3) := by decide +kernel
theorem dX2_entriesNotZero_19 : decode cX2_entriesNotZero 19 = .ok (.if_icmp .ge 24, 3) := by decide +kernel
theorem dX2_entriesNotZero_22 : decode cX2_entriesNotZero 22 = .ok (.aload_n 0, 1) := by decide +kernel
theorem dX2_entriesNotZero_23 : decode cX2_entriesNotZero 23 = .ok (.getfield 10, 3) := by decide +kernel
theorem dX2_entriesNotZero_26 : decode cX2_entriesNotZero 26 = .ok (.iload_n 2, 1) := by decide +kernel
theorem dX2_entriesNotZero_27 : decode cX2_entriesNotZero 27 = .ok (.iload_n 3, 1) := by decide +kernel
theorem dX2_entriesNotZero_28 : decode cX2_entriesNotZero 28 = .ok (.invokevirtual 69, 3) := by decide +kernel
theorem dX2_entriesNotZero_31 : decode cX2_entriesNotZero 31 = .ok (.ifCond .eq 6, 3) := by decide +kernel
theorem dX2_entriesNotZero_34 : decode cX2_entriesNotZero 34 = .ok (.iinc 1 1, 3) := by decide +kernel
theorem dX2_entriesNotZero_37 : decode cX2_entriesNotZero 37 = .ok (.iinc 3 1, 3) := by decide +kernel
theorem dX2_entriesNotZero_40 : decode cX2_entriesNotZero 40 = .ok (.goto (-26), 3) := by decide +kernel
theorem dX2_entriesNotZero_43 : decode cX2_entriesNotZero 43 = .ok (.iinc 2 1, 3) := by decide +kernel
theorem dX2_entriesNotZero_46 : decode cX2_entriesNotZero 46 = .ok (.goto (-42), 3) := by decide +kernel
theorem dX2_entriesNotZero_49 : decode cX2_entriesNotZero 49 = .ok (.iload_n 1, 1) := by decide +kernel
theorem dX2_entriesNotZero_50 : decode cX2_entriesNotZero 50 = .ok (.ireturn, 1) := by decide +kernel
theorem dX2_count_0 : decode cX2_count 0 = .ok (.iload_n 1, 1) := by decide +kernel
theorem dX2_count_1 : decode cX2_count 1 = .ok (.tableswitch 51 0 3 #[31, 36, 41, 46], 31) := by decide +kernel
theorem dX2_count_32 : decode cX2_count 32 = .ok (.aload_n 0, 1) := by decide +kernel
theorem dX2_count_33 : decode cX2_count 33 = .ok (.getfield 39, 3) := by decide +kernel
theorem dX2_count_36 : decode cX2_count 36 = .ok (.ireturn, 1) := by decide +kernel
theorem dX2_count_37 : decode cX2_count 37 = .ok (.aload_n 0, 1) := by decide +kernel
theorem dX2_count_38 : decode cX2_count 38 = .ok (.getfield 43, 3) := by decide +kernel
theorem dX2_count_41 : decode cX2_count 41 = .ok (.ireturn, 1) := by decide +kernel
theorem dX2_count_42 : decode cX2_count 42 = .ok (.aload_n 0, 1) := by decide +kernel
theorem dX2_count_43 : decode cX2_count 43 = .ok (.invokevirtual 142, 3) := by decide +kernel
theorem dX2_count_46 : decode cX2_count 46 = .ok (.ireturn, 1) := by decide +kernel
theorem dX2_count_47 : decode cX2_count 47 = .ok (.aload_n 0, 1) := by decide +kernel
theorem dX2_count_48 : decode cX2_count 48 = .ok (.invokevirtual 146, 3) := by decide +kernel
theorem dX2_count_51 : decode cX2_count 51 = .ok (.ireturn, 1) := by decide +kernel
theorem dX2_count_52 : decode cX2_count 52 = .ok (.bipush (-102), 2) := by decide +kernel
theorem dX2_count_54 : decode cX2_count 54 = .ok (.ireturn, 1) := by decide +kernel
theorem dX2_digest_0 : decode cX2_digest 0 = .ok (.ldc2_w 149, 3) := by decide +kernel
theorem dX2_digest_3 : decode cX2_digest 3 = .ok (.lstore_n 1, 1) := by decide +kernel
theorem dX2_digest_4 : decode cX2_digest 4 = .ok (.iconst 0, 1) := by decide +kernel
theorem dX2_digest_5 : decode cX2_digest 5 = .ok (.istore_n 3, 1) := by decide +kernel
theorem dX2_digest_6 : decode cX2_digest 6 = .ok (.iload_n 3, 1) := by decide +kernel
theorem dX2_digest_7 : decode cX2_digest 7 = .ok (.aload_n 0, 1) := by decide +kernel
theorem dX2_digest_8 : decode cX2_digest 8 = .ok (.getfield 39, 3) := by decide +kernel
theorem dX2_digest_11 : decode cX2_digest 11 = .ok (.if_icmp .ge 45, 3) := by decide +kernel
theorem dX2_digest_14 : decode cX2_digest 14 = .ok (.iconst 0, 1) := by decide +kernel
theorem dX2_digest_15 : decode cX2_digest 15 = .ok (.istore 4, 2) := by decide +kernel
theorem dX2_digest_17 : decode cX2_digest 17 = .ok (.iload 4, 2) := by decide +kernel
theorem dX2_digest_19 : decode cX2_digest 19 = .ok (.bipush 23, 2) := by decide +kernel
theorem dX2_digest_21 : decode cX2_digest 21 = .ok (.if_icmp .ge 29, 3) := by decide +kernel
theorem dX2_digest_24 : decode cX2_digest 24 = .ok (.ldc2_w 151, 3) := by decide +kernel
theorem dX2_digest_27 : decode cX2_digest 27 = .ok (.lload_n 1, 1) := by decide +kernel
theorem dX2_digest_28 : decode cX2_digest 28 = .ok (.lmul, 1) := by decide +kernel
theorem dX2_digest_29 : decode cX2_digest 29 = .ok (.aload_n 0, 1) := by decide +kernel
theorem dX2_digest_30 : decode cX2_digest 30 = .ok (.getfield 10, 3) := by decide +kernel
theorem dX2_digest_33 : decode cX2_digest 33 = .ok (.getfield 65, 3) := by decide +kernel
theorem dX2_digest_36 : decode cX2_digest 36 = .ok (.iload_n 3, 1) := by decide +kernel
theorem dX2_digest_37 : decode cX2_digest 37 = .ok (.aaload, 1) := by decide +kernel
theorem dX2_digest_38 : decode cX2_digest 38 = .ok (.iload 4, 2) := by decide +kernel
theorem dX2_digest_40 : decode cX2_digest 40 = .ok (.iaload, 1) := by decide +kernel
theorem dX2_digest_41 : decode cX2_digest 41 = .ok (.i2l, 1) := by decide +kernel
theorem dX2_digest_42 : decode cX2_digest 42 = .ok (.ladd, 1) := by decide +kernel
theorem dX2_digest_43 : decode cX2_digest 43 = .ok (.lstore_n 1, 1) := by decide +kernel
theorem dX2_digest_44 : decode cX2_digest 44 = .ok (.iinc 4 1, 3) := by decide +kernel
theorem dX2_digest_47 : decode cX2_digest 47 = .ok (.goto (-30), 3) := by decide +kernel
theorem dX2_digest_50 : decode cX2_digest 50 = .ok (.iinc 3 1, 3) := by decide +kernel
theorem dX2_digest_53 : decode cX2_digest 53 = .ok (.goto (-47), 3) := by decide +kernel
theorem dX2_digest_56 : decode cX2_digest 56 = .ok (.iconst 0, 1) := by decide +kernel
theorem dX2_digest_57 : decode cX2_digest 57 = .ok (.istore_n 3, 1) := by decide +kernel
theorem dX2_digest_58 : decode cX2_digest 58 = .ok (.iload_n 3, 1) := by decide +kernel
theorem dX2_digest_59 : decode cX2_digest 59 = .ok (.iconst 4, 1) := by decide +kernel
theorem dX2_digest_60 : decode cX2_digest 60 = .ok (.if_icmp .ge 44, 3) := by decide +kernel
theorem dX2_digest_63 : decode cX2_digest 63 = .ok (.iconst 0, 1) := by decide +kernel
theorem dX2_digest_64 : decode cX2_digest 64 = .ok (.istore 4, 2) := by decide +kernel
theorem dX2_digest_66 : decode cX2_digest 66 = .ok (.iload 4, 2) := by decide +kernel
theorem dX2_digest_68 : decode cX2_digest 68 = .ok (.aload_n 0, 1) := by decide +kernel
theorem dX2_digest_69 : decode cX2_digest 69 = .ok (.getfield 39, 3) := by decide +kernel
theorem dX2_digest_72 : decode cX2_digest 72 = .ok (.if_icmp .ge 26, 3) := by decide +kernel
theorem dX2_digest_75 : decode cX2_digest 75 = .ok (.ldc2_w 151, 3) := by decide +kernel
theorem dX2_digest_78 : decode cX2_digest 78 = .ok (.lload_n 1, 1) := by decide +kernel
theorem dX2_digest_79 : decode cX2_digest 79 = .ok (.lmul, 1) := by decide +kernel
theorem dX2_digest_80 : decode cX2_digest 80 = .ok (.aload_n 0, 1) := by decide +kernel
theorem dX2_digest_81 : decode cX2_digest 81 = .ok (.getfield 32, 3) := by decide +kernel
theorem dX2_digest_84 : decode cX2_digest 84 = .ok (.iload_n 3, 1) := by decide +kernel
theorem dX2_digest_85 : decode cX2_digest 85 = .ok (.aaload, 1) := by decide +kernel
theorem dX2_digest_86 : decode cX2_digest 86 = .ok (.iload 4, 2) := by decide +kernel
theorem dX2_digest_88 : decode cX2_digest 88 = .ok (.iaload, 1) := by decide +kernel
theorem dX2_digest_89 : decode cX2_digest 89 = .ok (.i2l, 1) := by decide +kernel
theorem dX2_digest_90 : decode cX2_digest 90 = .ok (.ladd, 1) := by decide +kernel
theorem dX2_digest_91 : decode cX2_digest 91 = .ok (.lstore_n 1, 1) := by decide +kernel
theorem dX2_digest_92 : decode cX2_digest 92 = .ok (.iinc 4 1, 3) := by decide +kernel
theorem dX2_digest_95 : decode cX2_digest 95 = .ok (.goto (-29), 3) := by decide +kernel
theorem dX2_digest_98 : decode cX2_digest 98 = .ok (.iinc 3 1, 3) := by decide +kernel
theorem dX2_digest_101 : decode cX2_digest 101 = .ok (.goto (-43), 3) := by decide +kernel
theorem dX2_digest_104 : decode cX2_digest 104 = .ok (.ldc2_w 151, 3) := by decide +kernel
theorem dX2_digest_107 : decode cX2_digest 107 = .ok (.lload_n 1, 1) := by decide +kernel
theorem dX2_digest_108 : decode cX2_digest 108 = .ok (.lmul, 1) := by decide +kernel
theorem dX2_digest_109 : decode cX2_digest 109 = .ok (.aload_n 0, 1) := by decide +kernel
theorem dX2_digest_110 : decode cX2_digest 110 = .ok (.getfield 43, 3) := by decide +kernel
theorem dX2_digest_113 : decode cX2_digest 113 = .ok (.i2l, 1) := by decide +kernel
theorem dX2_digest_114 : decode cX2_digest 114 = .ok (.ladd, 1) := by decide +kernel
theorem dX2_digest_115 : decode cX2_digest 115 = .ok (.lstore_n 1, 1) := by decide +kernel
theorem dX2_digest_116 : decode cX2_digest 116 = .ok (.ldc2_w 151, 3) := by decide +kernel
theorem dX2_digest_119 : decode cX2_digest 119 = .ok (.lload_n 1, 1) := by decide +kernel
theorem dX2_digest_120 : decode cX2_digest 120 = .ok (.lmul, 1) := by decide +kernel
theorem dX2_digest_121 : decode cX2_digest 121 = .ok (.aload_n 0, 1) := by decide +kernel
theorem dX2_digest_122 : decode cX2_digest 122 = .ok (.invokevirtual 153, 3) := by decide +kernel
theorem dX2_digest_125 : decode cX2_digest 125 = .ok (.ladd, 1) := by decide +kernel
theorem dX2_digest_126 : decode cX2_digest 126 = .ok (.lreturn, 1) := by decide +kernel
theorem wq_63 : Cond.fieldLink RX2 43 "CradleNets" "versions" "I" ∈ mTbl := by decide +kernel
theorem wq_64 : Cond.fieldLink RX2 39 "CradleNets" "makings" "I" ∈ mTbl := by decide +kernel
theorem wq_65 : Cond.fieldLink RX2 10 "CradleNets" "now" "LCradleNets$Book;" ∈ mTbl := by decide +kernel
theorem wq_66 : Cond.code yX2_isMaking cX2_isMaking 2 (some .boolean) ∈ mTbl := by decide +kernel
theorem wq_67 : Cond.methodLink RX2 46 yX2_isMaking ∈ mTbl := by decide +kernel
theorem wq_68 : Cond.instanceMethod yX2_isMaking ∈ mTbl := by decide +kernel
theorem wq_69 : Cond.selects RX2 yX2_isMaking yX2_isMaking ∈ mTbl := by decide +kernel
theorem wq_70 : Cond.code yX2_isWithin cX2_isWithin 3 (some .boolean) ∈ mTbl := by decide +kernel
theorem wq_71 : Cond.methodLink RX2 50 yX2_isWithin ∈ mTbl := by decide +kernel
theorem wq_72 : Cond.static yX2_isWithin ∈ mTbl := by decide +kernel
theorem wq_73 : Cond.code yX0_change cX0_change 6 (some .int) ∈ mTbl := by decide +kernel
theorem wq_74 : Cond.methodLink RX2 54 yX0_change ∈ mTbl := by decide +kernel
theorem wq_75 : Cond.instanceMethod yX0_change ∈ mTbl := by decide +kernel
theorem wq_76 : Cond.selects RX0 yX0_change yX0_change ∈ mTbl := by decide +kernel
theorem wq_77 : Cond.code yX2_isStuff cX2_isStuff 1 (some .boolean) ∈ mTbl := by decide +kernel
theorem wq_78 : Cond.methodLink RX2 58 yX2_isStuff ∈ mTbl := by decide +kernel
theorem wq_79 : Cond.static yX2_isStuff ∈ mTbl := by decide +kernel
theorem wq_80 : Cond.methodLink RX2 61 yX2_placeOfEmits ∈ mTbl := by decide +kernel
theorem wq_81 : Cond.fieldLink RX2 65 "CradleNets$Book" "rows" "[[I" ∈ mTbl := by decide +kernel
theorem wq_82 : Cond.constant RX2 68 (-1000000) ∈ mTbl := by decide +kernel
theorem wq_83 : Cond.methodLink RX2 69 yX0_tableCell ∈ mTbl := by decide +kernel
theorem wq_84 : Cond.fieldLink RX2 26 "CradleNets" "net" "LCradleNets$Net;" ∈ mTbl := by decide +kernel
theorem wq_85 : Cond.fieldLink RX2 76 "CradleNets$Net" "determinant" "J" ∈ mTbl := by decide +kernel
theorem wq_86 : Cond.methodLink RX2 72 yX1_layTable ∈ mTbl := by decide +kernel
theorem wq_87 : Cond.fieldLink RX2 32 "CradleNets" "held" "[[I" ∈ mTbl := by decide +kernel
theorem wq_88 : Cond.code yX2_isBasket cX2_isBasket 1 (some .boolean) ∈ mTbl := by decide +kernel
theorem wq_89 : Cond.methodLink RX2 80 yX2_isBasket ∈ mTbl := by decide +kernel
theorem wq_90 : Cond.static yX2_isBasket ∈ mTbl := by decide +kernel
theorem wq_91 : Cond.constantLong RX2 89 (-9000000000000000004) ∈ mTbl := by decide +kernel
theorem wq_92 : Cond.constantLong RX2 157 (1000) ∈ mTbl := by decide +kernel
theorem wq_93 : Cond.code yJ9_floorDiv_f86c9 cJ9_floorDiv_f86c9 6 (some .long) ∈ mTbl := by decide +kernel
theorem wq_94 : Cond.methodLink RX2 159 yJ9_floorDiv_f86c9 ∈ mTbl := by decide +kernel
theorem wq_95 : Cond.static yJ9_floorDiv_f86c9 ∈ mTbl := by decide +kernel
theorem wq_96 : Cond.constantLong RX2 83 (-9000000000000000001) ∈ mTbl := by decide +kernel
theorem wq_97 : Cond.fieldLink RX2 91 "CradleNets$Net" "rounds" "[J" ∈ mTbl := by decide +kernel
theorem wq_98 : Cond.fieldLink RX2 95 "CradleNets$Net" "below" "J" ∈ mTbl := by decide +kernel
theorem wq_99 : Cond.code yX1_solve cX1_solve 7 (some .boolean) ∈ mTbl := by decide +kernel
theorem wq_100 : Cond.methodLink RX2 85 yX1_solve ∈ mTbl := by decide +kernel
theorem wq_101 : Cond.instanceMethod yX1_solve ∈ mTbl := by decide +kernel
theorem wq_102 : Cond.selects RX1 yX1_solve yX1_solve ∈ mTbl := by decide +kernel
theorem wq_103 : Cond.code yX2_thousandths cX2_thousandths 4 (some .long) ∈ mTbl := by decide +kernel
theorem wq_104 : Cond.methodLink RX2 98 yX2_thousandths ∈ mTbl := by decide +kernel
theorem wq_105 : Cond.static yX2_thousandths ∈ mTbl := by decide +kernel
theorem wq_106 : Cond.methodLink RX2 164 yJ9_abs_067f4 ∈ mTbl := by decide +kernel
theorem wq_107 : Cond.code yX2_greatestCommonDivisor cX2_greatestCommonDivisor 11 (some .long) ∈ mTbl := by decide +kernel
theorem wq_108 : Cond.methodLink RX2 168 yX2_greatestCommonDivisor ∈ mTbl := by decide +kernel
theorem wq_109 : Cond.static yX2_greatestCommonDivisor ∈ mTbl := by decide +kernel
theorem wq_110 : Cond.constantLong RX2 102 (-9000000000000000002) ∈ mTbl := by decide +kernel
theorem wq_111 : Cond.code yX1_sumOfEmissions cX1_sumOfEmissions 8 (some .long) ∈ mTbl := by decide +kernel
theorem wq_112 : Cond.methodLink RX2 104 yX1_sumOfEmissions ∈ mTbl := by decide +kernel
theorem wq_113 : Cond.instanceMethod yX1_sumOfEmissions ∈ mTbl := by decide +kernel
theorem wq_114 : Cond.selects RX1 yX1_sumOfEmissions yX1_sumOfEmissions ∈ mTbl := by decide +kernel
theorem wq_115 : Cond.code yX2_inLowestTerms cX2_inLowestTerms 8 (some .long) ∈ mTbl := by decide +kernel
theorem wq_116 : Cond.methodLink RX2 108 yX2_inLowestTerms ∈ mTbl := by decide +kernel
theorem wq_117 : Cond.static yX2_inLowestTerms ∈ mTbl := by decide +kernel
theorem wq_118 : Cond.methodLink RX2 112 yX1_brought ∈ mTbl := by decide +kernel
theorem wq_119 : Cond.code yX2_isMakingOrNone cX2_isMakingOrNone 2 (some .boolean) ∈ mTbl := by decide +kernel
theorem wq_120 : Cond.methodLink RX2 116 yX2_isMakingOrNone ∈ mTbl := by decide +kernel
theorem wq_121 : Cond.instanceMethod yX2_isMakingOrNone ∈ mTbl := by decide +kernel
theorem wq_122 : Cond.selects RX2 yX2_isMakingOrNone yX2_isMakingOrNone ∈ mTbl := by decide +kernel
theorem wq_123 : Cond.code yX2_stepBelow cX2_stepBelow 2 (some .long) ∈ mTbl := by decide +kernel
theorem wq_124 : Cond.methodLink RX2 119 yX2_stepBelow ∈ mTbl := by decide +kernel
theorem wq_125 : Cond.instanceMethod yX2_stepBelow ∈ mTbl := by decide +kernel
theorem wq_126 : Cond.selects RX2 yX2_stepBelow yX2_stepBelow ∈ mTbl := by decide +kernel
theorem wq_127 : Cond.code yX2_stepAbove cX2_stepAbove 3 (some .long) ∈ mTbl := by decide +kernel
theorem wq_128 : Cond.methodLink RX2 123 yX2_stepAbove ∈ mTbl := by decide +kernel
theorem wq_129 : Cond.instanceMethod yX2_stepAbove ∈ mTbl := by decide +kernel
theorem wq_130 : Cond.selects RX2 yX2_stepAbove yX2_stepAbove ∈ mTbl := by decide +kernel
theorem wq_131 : Cond.methodLink RX2 127 yX0_emission ∈ mTbl := by decide +kernel
theorem wq_132 : Cond.fieldLink RX2 35 "CradleNets" "difference" "[I" ∈ mTbl := by decide +kernel
theorem wq_133 : Cond.fieldLink RX2 19 "CradleNets" "kept" "[LCradleNets$Book;" ∈ mTbl := by decide +kernel
theorem wq_134 : Cond.code yX0_copyRows cX0_copyRows 5 none ∈ mTbl := by decide +kernel
theorem wq_135 : Cond.methodLink RX2 131 yX0_copyRows ∈ mTbl := by decide +kernel
theorem wq_136 : Cond.instanceMethod yX0_copyRows ∈ mTbl := by decide +kernel
theorem wq_137 : Cond.selects RX0 yX0_copyRows yX0_copyRows ∈ mTbl := by decide +kernel
theorem wq_138 : Cond.code yX2_isVersion cX2_isVersion 2 (some .boolean) ∈ mTbl := by decide +kernel
theorem wq_139 : Cond.methodLink RX2 135 yX2_isVersion ∈ mTbl := by decide +kernel
theorem wq_140 : Cond.instanceMethod yX2_isVersion ∈ mTbl := by decide +kernel
theorem wq_141 : Cond.selects RX2 yX2_isVersion yX2_isVersion ∈ mTbl := by decide +kernel
theorem wq_142 : Cond.fieldLink RX2 16 "CradleNets" "mixed" "LCradleNets$Book;" ∈ mTbl := by decide +kernel
theorem wq_143 : Cond.code yX2_mixedTotal cX2_mixedTotal 5 (some .long) ∈ mTbl := by decide +kernel
theorem wq_144 : Cond.methodLink RX2 138 yX2_mixedTotal ∈ mTbl := by decide +kernel
theorem wq_145 : Cond.instanceMethod yX2_mixedTotal ∈ mTbl := by decide +kernel
theorem wq_146 : Cond.selects RX2 yX2_mixedTotal yX2_mixedTotal ∈ mTbl := by decide +kernel
theorem wq_147 : Cond.code yX0_hasByProducts cX0_hasByProducts 3 (some .boolean) ∈ mTbl := by decide +kernel
theorem wq_148 : Cond.methodLink RX2 171 yX0_hasByProducts ∈ mTbl := by decide +kernel
theorem wq_149 : Cond.instanceMethod yX0_hasByProducts ∈ mTbl := by decide +kernel
theorem wq_150 : Cond.selects RX0 yX0_hasByProducts yX0_hasByProducts ∈ mTbl := by decide +kernel
theorem wq_151 : Cond.code yX2_makingsWithByProducts cX2_makingsWithByProducts 3 (some .int) ∈ mTbl := by decide +kernel
theorem wq_152 : Cond.methodLink RX2 142 yX2_makingsWithByProducts ∈ mTbl := by decide +kernel
theorem wq_153 : Cond.instanceMethod yX2_makingsWithByProducts ∈ mTbl := by decide +kernel
theorem wq_154 : Cond.selects RX2 yX2_makingsWithByProducts yX2_makingsWithByProducts ∈ mTbl := by decide +kernel
theorem wq_155 : Cond.code yX2_entriesNotZero cX2_entriesNotZero 4 (some .int) ∈ mTbl := by decide +kernel
theorem wq_156 : Cond.methodLink RX2 146 yX2_entriesNotZero ∈ mTbl := by decide +kernel
theorem wq_157 : Cond.instanceMethod yX2_entriesNotZero ∈ mTbl := by decide +kernel
theorem wq_158 : Cond.selects RX2 yX2_entriesNotZero yX2_entriesNotZero ∈ mTbl := by decide +kernel
theorem wq_159 : Cond.constantLong RX2 149 (151) ∈ mTbl := by decide +kernel
theorem wq_160 : Cond.constantLong RX2 151 (31) ∈ mTbl := by decide +kernel
theorem wq_161 : Cond.code yX2_worth cX2_worth 1 (some .long) ∈ mTbl := by decide +kernel
theorem wq_162 : Cond.methodLink RX2 153 yX2_worth ∈ mTbl := by decide +kernel
theorem wq_163 : Cond.instanceMethod yX2_worth ∈ mTbl := by decide +kernel
theorem wq_164 : Cond.selects RX2 yX2_worth yX2_worth ∈ mTbl := by decide +kernel
/-! X2 making -/
def tbX2_making : List (Nat × mR) := [(0, r_aload 1 0), (1, r_getf 4 2 7), (4, r_ifle 7 10), (7, r_ic 9 (-103)), (10, r_aload 11 0), (11, r_getf 14 2 6), (14, r_ic 15 4), (15, r_clt 18 21), (18, r_ic 20 (-105)), (21, r_aload 22 0), (22, r_dup 23), (23, r_getf 26 2 6), (26, r_ic 27 1), (27, r_ii 28 (fun x y => x + y)), (28, r_puti 31 2 6), (31, r_aload 32 0), (32, r_getf 35 2 6), (35, r_ic 36 1), (36, r_ii 37 (fun x y => x - y))]
theorem tkX2_making : ∀ q ∈ tbX2_making, mOk cX2_making RX2 1 q.1 q.2 := by
  unfold tbX2_making
  refine mcons (ok_aload_n dX2_making_0 rfl) ?_
  refine mcons (ok_getf 7 dX2_making_1 rfl mX2 (by decide) wq_63 rfl) ?_
  refine mcons (ok_ifle dX2_making_4 (by decide)) ?_
  refine mcons (ok_bipush dX2_making_7 (by decide)) ?_
  refine mcons (ok_aload_n dX2_making_10 rfl) ?_
  refine mcons (ok_getf 6 dX2_making_11 rfl mX2 (by decide) wq_64 rfl) ?_
  refine mcons (ok_iconst dX2_making_14 (by decide)) ?_
  refine mcons (ok_clt dX2_making_15 (by decide)) ?_
  refine mcons (ok_bipush dX2_making_18 (by decide)) ?_
  refine mcons (ok_aload_n dX2_making_21 rfl) ?_
  refine mcons (ok_dup dX2_making_22) ?_
  refine mcons (ok_getf 6 dX2_making_23 rfl mX2 (by decide) wq_64 rfl) ?_
  refine mcons (ok_iconst dX2_making_26 (by decide)) ?_
  refine mcons (ok_iadd dX2_making_27) ?_
  refine mcons (ok_puti 6 dX2_making_28 rfl mX2 tyX2_ok nmX2 (by decide) wq_64 rfl rfl (by decide +kernel)) ?_
  refine mcons (ok_aload_n dX2_making_31 rfl) ?_
  refine mcons (ok_getf 6 dX2_making_32 rfl mX2 (by decide) wq_64 rfl) ?_
  refine mcons (ok_iconst dX2_making_35 (by decide)) ?_
  refine mcons (ok_isub dX2_making_36) ?_
  exact mnil
abbrev KX2_making (l : Launch) (D : va_G) (ca : Nat → ClassId) (ad : Nat → Nat) : List Value → mW → Option Value → mW → Prop := mC l 0 yX2_making cX2_making 1 (some .int) D ca ad
def CFX2_making (l : Launch) (D : va_G) (ca : Nat → ClassId) (ad : Nat → Nat) (G : mS → Prop) : Prop := True
theorem PX2_making {l : Launch} {D : va_G} {ca : Nat → ClassId} {ad : Nat → Nat} {av : List Value} {w : mW} {x : Int32} {w2 : mW} (hlen : (lg_sl av).length ≤ 1) (body : ∀ G : mS → Prop, mTb G tbX2_making → CFX2_making l D ca ad G → mRet G (some (.int x)) w2 [9, 20, 37] → G (0, lv_args 0 av, [], w)) : KX2_making l D ca ad av w (some (.int x)) w2 :=
  mPackI [9, 20, 37] (by decide +kernel) hlen tkX2_making (fun p e s m args below meth c A Q hX => trivial) (List.forall_mem_cons.mpr ⟨dX2_making_9, List.forall_mem_cons.mpr ⟨dX2_making_20, List.forall_mem_cons.mpr ⟨dX2_making_37, fun _ h => absurd h List.not_mem_nil⟩⟩⟩) body
/-! X2 isMaking -/
def tbX2_isMaking : List (Nat × mR) := [(0, r_iload 1 1), (1, r_iflt 4 16), (4, r_iload 5 1), (5, r_aload 6 0), (6, r_getf 9 2 6), (9, r_cge 12 16), (12, r_ic 13 1), (13, r_goto 17), (16, r_ic 17 0)]
theorem tkX2_isMaking : ∀ q ∈ tbX2_isMaking, mOk cX2_isMaking RX2 2 q.1 q.2 := by
  unfold tbX2_isMaking
  refine mcons (ok_iload_n dX2_isMaking_0 rfl) ?_
  refine mcons (ok_iflt dX2_isMaking_1 (by decide)) ?_
  refine mcons (ok_iload_n dX2_isMaking_4 rfl) ?_
  refine mcons (ok_aload_n dX2_isMaking_5 rfl) ?_
  refine mcons (ok_getf 6 dX2_isMaking_6 rfl mX2 (by decide) wq_64 rfl) ?_
  refine mcons (ok_cge dX2_isMaking_9 (by decide)) ?_
  refine mcons (ok_iconst dX2_isMaking_12 (by decide)) ?_
  refine mcons (ok_goto dX2_isMaking_13 (by decide)) ?_
  refine mcons (ok_iconst dX2_isMaking_16 (by decide)) ?_
  exact mnil
abbrev KX2_isMaking (l : Launch) (D : va_G) (ca : Nat → ClassId) (ad : Nat → Nat) : List Value → mW → Option Value → mW → Prop := mC l 0 yX2_isMaking cX2_isMaking 2 (some .boolean) D ca ad
def CFX2_isMaking (l : Launch) (D : va_G) (ca : Nat → ClassId) (ad : Nat → Nat) (G : mS → Prop) : Prop := True
theorem PX2_isMaking {l : Launch} {D : va_G} {ca : Nat → ClassId} {ad : Nat → Nat} {av : List Value} {w : mW} {x : Int32} {w2 : mW} (hlen : (lg_sl av).length ≤ 2) (hx : x = 0 ∨ x = 1) (body : ∀ G : mS → Prop, mTb G tbX2_isMaking → CFX2_isMaking l D ca ad G → mRet G (some (.int x)) w2 [17] → G (0, lv_args 0 av, [], w)) : KX2_isMaking l D ca ad av w (some (.int x)) w2 :=
  mPackZ [17] (by decide +kernel) hlen tkX2_isMaking (fun p e s m args below meth c A Q hX => trivial) (List.forall_mem_cons.mpr ⟨dX2_isMaking_17, fun _ h => absurd h List.not_mem_nil⟩) hx body
/-! X2 isWithin -/
def tbX2_isWithin : List (Nat × mR) := [(0, r_iload 1 0), (1, r_iload 2 1), (2, r_clt 5 14), (5, r_iload 6 0), (6, r_iload 7 2), (7, r_cgt 10 14), (10, r_ic 11 1), (11, r_goto 15), (14, r_ic 15 0)]
theorem tkX2_isWithin : ∀ q ∈ tbX2_isWithin, mOk cX2_isWithin RX2 3 q.1 q.2 := by
  unfold tbX2_isWithin
  refine mcons (ok_iload_n dX2_isWithin_0 rfl) ?_
  refine mcons (ok_iload_n dX2_isWithin_1 rfl) ?_
  refine mcons (ok_clt dX2_isWithin_2 (by decide)) ?_
  refine mcons (ok_iload_n dX2_isWithin_5 rfl) ?_
  refine mcons (ok_iload_n dX2_isWithin_6 rfl) ?_
  refine mcons (ok_cgt dX2_isWithin_7 (by decide)) ?_
  refine mcons (ok_iconst dX2_isWithin_10 (by decide)) ?_
  refine mcons (ok_goto dX2_isWithin_11 (by decide)) ?_
  refine mcons (ok_iconst dX2_isWithin_14 (by decide)) ?_
  exact mnil
abbrev KX2_isWithin (l : Launch) (D : va_G) (ca : Nat → ClassId) (ad : Nat → Nat) : List Value → mW → Option Value → mW → Prop := mC l 0 yX2_isWithin cX2_isWithin 3 (some .boolean) D ca ad
def CFX2_isWithin (l : Launch) (D : va_G) (ca : Nat → ClassId) (ad : Nat → Nat) (G : mS → Prop) : Prop := True
theorem PX2_isWithin {l : Launch} {D : va_G} {ca : Nat → ClassId} {ad : Nat → Nat} {av : List Value} {w : mW} {x : Int32} {w2 : mW} (hlen : (lg_sl av).length ≤ 3) (hx : x = 0 ∨ x = 1) (body : ∀ G : mS → Prop, mTb G tbX2_isWithin → CFX2_isWithin l D ca ad G → mRet G (some (.int x)) w2 [15] → G (0, lv_args 0 av, [], w)) : KX2_isWithin l D ca ad av w (some (.int x)) w2 :=
  mPackZ [15] (by decide +kernel) hlen tkX2_isWithin (fun p e s m args below meth c A Q hX => trivial) (List.forall_mem_cons.mpr ⟨dX2_isWithin_15, fun _ h => absurd h List.not_mem_nil⟩) hx body
/-! X2 out -/
def tbX2_out : List (Nat × mR) := [(0, r_aload 1 0), (1, r_iload 2 1), (5, r_ifne 8 11), (8, r_ic 10 (-101)), (11, r_iload 12 2), (12, r_ic 13 1), (13, r_ic 15 6), (18, r_ifne 21 24), (21, r_ic 23 (-102)), (24, r_aload 25 0), (25, r_getf 28 2 0), (28, r_iload 29 1), (29, r_ic 30 0), (30, r_iload 31 2)]
theorem tkX2_out : ∀ q ∈ tbX2_out, mOk cX2_out RX2 3 q.1 q.2 := by
  unfold tbX2_out
  refine mcons (ok_aload_n dX2_out_0 rfl) ?_
  refine mcons (ok_iload_n dX2_out_1 rfl) ?_
  refine mcons (ok_ifne dX2_out_5 (by decide)) ?_
  refine mcons (ok_bipush dX2_out_8 (by decide)) ?_
  refine mcons (ok_iload_n dX2_out_11 rfl) ?_
  refine mcons (ok_iconst dX2_out_12 (by decide)) ?_
  refine mcons (ok_bipush dX2_out_13 (by decide)) ?_
  refine mcons (ok_ifne dX2_out_18 (by decide)) ?_
  refine mcons (ok_bipush dX2_out_21 (by decide)) ?_
  refine mcons (ok_aload_n dX2_out_24 rfl) ?_
  refine mcons (ok_getf 0 dX2_out_25 rfl mX2 (by decide) wq_65 rfl) ?_
  refine mcons (ok_iload_n dX2_out_28 rfl) ?_
  refine mcons (ok_iconst dX2_out_29 (by decide)) ?_
  refine mcons (ok_iload_n dX2_out_30 rfl) ?_
  exact mnil
abbrev KX2_out (l : Launch) (D : va_G) (ca : Nat → ClassId) (ad : Nat → Nat) : List Value → mW → Option Value → mW → Prop := mC l 2 yX2_out cX2_out 3 (some .int) D ca ad
def CFX2_out (l : Launch) (D : va_G) (ca : Nat → ClassId) (ad : Nat → Nat) (G : mS → Prop) : Prop := mCallV G (KX2_isMaking l D ca ad) 2 2 1 ∧ mCallS G (KX2_isWithin l D ca ad) 15 3 ∧ mCallV G (KX0_change l D ca ad) 31 0 3
theorem PX2_out {l : Launch} {D : va_G} {ca : Nat → ClassId} {ad : Nat → Nat} {av : List Value} {w : mW} {x : Int32} {w2 : mW} (hlen : (lg_sl av).length ≤ 3) (body : ∀ G : mS → Prop, mTb G tbX2_out → CFX2_out l D ca ad G → mRet G (some (.int x)) w2 [10, 23, 34] → G (0, lv_args 0 av, [], w)) : KX2_out l D ca ad av w (some (.int x)) w2 :=
  mPackI [10, 23, 34] (by decide +kernel) hlen tkX2_out (fun p e s m args below meth c A Q hX => ⟨mCallV_ok (T := TX2) (N := 8) hX dX2_out_2 rfl ⟨wq_67, wq_10, wq_66, by decide +kernel, by decide +kernel, by decide +kernel⟩ wq_68 wq_69 (by decide) (by decide), mCallS_ok hX dX2_out_15 ⟨wq_71, wq_10, wq_70, by decide +kernel, by decide +kernel, by decide +kernel⟩ wq_72 (by decide) (by decide), mCallV_ok (T := TX0) (N := 1) hX dX2_out_31 rfl ⟨wq_74, wq_1, wq_73, by decide +kernel, by decide +kernel, by decide +kernel⟩ wq_75 wq_76 (by decide) (by decide)⟩) (List.forall_mem_cons.mpr ⟨dX2_out_10, List.forall_mem_cons.mpr ⟨dX2_out_23, List.forall_mem_cons.mpr ⟨dX2_out_34, fun _ h => absurd h List.not_mem_nil⟩⟩⟩) body
/-! X2 needs -/
def tbX2_needs : List (Nat × mR) := [(0, r_aload 1 0), (1, r_iload 2 1), (5, r_ifeq 8 16), (8, r_aload 9 0), (9, r_iload 10 2), (13, r_ifne 16 19), (16, r_ic 18 (-101)), (19, r_iload 20 3), (20, r_ic 21 0), (21, r_ic 23 6), (26, r_ifne 29 32), (29, r_ic 31 (-102)), (32, r_aload 33 0), (33, r_getf 36 2 0), (36, r_iload 37 1), (37, r_ic 38 4), (38, r_iload 39 2), (39, r_ii 40 (fun x y => x + y)), (40, r_iload 41 3)]
theorem tkX2_needs : ∀ q ∈ tbX2_needs, mOk cX2_needs RX2 4 q.1 q.2 := by
  unfold tbX2_needs
  refine mcons (ok_aload_n dX2_needs_0 rfl) ?_
  refine mcons (ok_iload_n dX2_needs_1 rfl) ?_
  refine mcons (ok_ifeq dX2_needs_5 (by decide)) ?_
  refine mcons (ok_aload_n dX2_needs_8 rfl) ?_
  refine mcons (ok_iload_n dX2_needs_9 rfl) ?_
  refine mcons (ok_ifne dX2_needs_13 (by decide)) ?_
  refine mcons (ok_bipush dX2_needs_16 (by decide)) ?_
  refine mcons (ok_iload_n dX2_needs_19 rfl) ?_
  refine mcons (ok_iconst dX2_needs_20 (by decide)) ?_
  refine mcons (ok_bipush dX2_needs_21 (by decide)) ?_
  refine mcons (ok_ifne dX2_needs_26 (by decide)) ?_
  refine mcons (ok_bipush dX2_needs_29 (by decide)) ?_
  refine mcons (ok_aload_n dX2_needs_32 rfl) ?_
  refine mcons (ok_getf 0 dX2_needs_33 rfl mX2 (by decide) wq_65 rfl) ?_
  refine mcons (ok_iload_n dX2_needs_36 rfl) ?_
  refine mcons (ok_iconst dX2_needs_37 (by decide)) ?_
  refine mcons (ok_iload_n dX2_needs_38 rfl) ?_
  refine mcons (ok_iadd dX2_needs_39) ?_
  refine mcons (ok_iload_n dX2_needs_40 rfl) ?_
  exact mnil
abbrev KX2_needs (l : Launch) (D : va_G) (ca : Nat → ClassId) (ad : Nat → Nat) : List Value → mW → Option Value → mW → Prop := mC l 2 yX2_needs cX2_needs 4 (some .int) D ca ad
def CFX2_needs (l : Launch) (D : va_G) (ca : Nat → ClassId) (ad : Nat → Nat) (G : mS → Prop) : Prop := mCallV G (KX2_isMaking l D ca ad) 2 2 1 ∧ mCallV G (KX2_isMaking l D ca ad) 10 2 1 ∧ mCallS G (KX2_isWithin l D ca ad) 23 3 ∧ mCallV G (KX0_change l D ca ad) 41 0 3
theorem PX2_needs {l : Launch} {D : va_G} {ca : Nat → ClassId} {ad : Nat → Nat} {av : List Value} {w : mW} {x : Int32} {w2 : mW} (hlen : (lg_sl av).length ≤ 4) (body : ∀ G : mS → Prop, mTb G tbX2_needs → CFX2_needs l D ca ad G → mRet G (some (.int x)) w2 [18, 31, 44] → G (0, lv_args 0 av, [], w)) : KX2_needs l D ca ad av w (some (.int x)) w2 :=
  mPackI [18, 31, 44] (by decide +kernel) hlen tkX2_needs (fun p e s m args below meth c A Q hX => ⟨mCallV_ok (T := TX2) (N := 8) hX dX2_needs_2 rfl ⟨wq_67, wq_10, wq_66, by decide +kernel, by decide +kernel, by decide +kernel⟩ wq_68 wq_69 (by decide) (by decide), mCallV_ok (T := TX2) (N := 8) hX dX2_needs_10 rfl ⟨wq_67, wq_10, wq_66, by decide +kernel, by decide +kernel, by decide +kernel⟩ wq_68 wq_69 (by decide) (by decide), mCallS_ok hX dX2_needs_23 ⟨wq_71, wq_10, wq_70, by decide +kernel, by decide +kernel, by decide +kernel⟩ wq_72 (by decide) (by decide), mCallV_ok (T := TX0) (N := 1) hX dX2_needs_41 rfl ⟨wq_74, wq_1, wq_73, by decide +kernel, by decide +kernel, by decide +kernel⟩ wq_75 wq_76 (by decide) (by decide)⟩) (List.forall_mem_cons.mpr ⟨dX2_needs_18, List.forall_mem_cons.mpr ⟨dX2_needs_31, List.forall_mem_cons.mpr ⟨dX2_needs_44, fun _ h => absurd h List.not_mem_nil⟩⟩⟩) body
/-! X2 by -/
def tbX2_by : List (Nat × mR) := [(0, r_aload 1 0), (1, r_iload 2 1), (5, r_ifeq 8 16), (8, r_aload 9 0), (9, r_iload 10 2), (13, r_ifne 16 19), (16, r_ic 18 (-101)), (19, r_iload 20 3), (20, r_ic 21 0), (21, r_ic 23 6), (26, r_ifeq 29 34), (29, r_iload 30 1), (30, r_iload 31 2), (31, r_cne 34 37), (34, r_ic 36 (-102)), (37, r_aload 38 0), (38, r_getf 41 2 0), (41, r_iload 42 1), (42, r_ic 44 8), (44, r_iload 45 2), (45, r_ii 46 (fun x y => x + y)), (46, r_iload 47 3)]
theorem tkX2_by : ∀ q ∈ tbX2_by, mOk cX2_by RX2 4 q.1 q.2 := by
  unfold tbX2_by
  refine mcons (ok_aload_n dX2_by_0 rfl) ?_
  refine mcons (ok_iload_n dX2_by_1 rfl) ?_
  refine mcons (ok_ifeq dX2_by_5 (by decide)) ?_
  refine mcons (ok_aload_n dX2_by_8 rfl) ?_
  refine mcons (ok_iload_n dX2_by_9 rfl) ?_
  refine mcons (ok_ifne dX2_by_13 (by decide)) ?_
  refine mcons (ok_bipush dX2_by_16 (by decide)) ?_
  refine mcons (ok_iload_n dX2_by_19 rfl) ?_
  refine mcons (ok_iconst dX2_by_20 (by decide)) ?_
  refine mcons (ok_bipush dX2_by_21 (by decide)) ?_
  refine mcons (ok_ifeq dX2_by_26 (by decide)) ?_
  refine mcons (ok_iload_n dX2_by_29 rfl) ?_
  refine mcons (ok_iload_n dX2_by_30 rfl) ?_
  refine mcons (ok_cne dX2_by_31 (by decide)) ?_
  refine mcons (ok_bipush dX2_by_34 (by decide)) ?_
  refine mcons (ok_aload_n dX2_by_37 rfl) ?_
  refine mcons (ok_getf 0 dX2_by_38 rfl mX2 (by decide) wq_65 rfl) ?_
  refine mcons (ok_iload_n dX2_by_41 rfl) ?_
  refine mcons (ok_bipush dX2_by_42 (by decide)) ?_
  refine mcons (ok_iload_n dX2_by_44 rfl) ?_
  refine mcons (ok_iadd dX2_by_45) ?_
  refine mcons (ok_iload_n dX2_by_46 rfl) ?_
  exact mnil
abbrev KX2_by (l : Launch) (D : va_G) (ca : Nat → ClassId) (ad : Nat → Nat) : List Value → mW → Option Value → mW → Prop := mC l 2 yX2_by cX2_by 4 (some .int) D ca ad
def CFX2_by (l : Launch) (D : va_G) (ca : Nat → ClassId) (ad : Nat → Nat) (G : mS → Prop) : Prop := mCallV G (KX2_isMaking l D ca ad) 2 2 1 ∧ mCallV G (KX2_isMaking l D ca ad) 10 2 1 ∧ mCallS G (KX2_isWithin l D ca ad) 23 3 ∧ mCallV G (KX0_change l D ca ad) 47 0 3
theorem PX2_by {l : Launch} {D : va_G} {ca : Nat → ClassId} {ad : Nat → Nat} {av : List Value} {w : mW} {x : Int32} {w2 : mW} (hlen : (lg_sl av).length ≤ 4) (body : ∀ G : mS → Prop, mTb G tbX2_by → CFX2_by l D ca ad G → mRet G (some (.int x)) w2 [18, 36, 50] → G (0, lv_args 0 av, [], w)) : KX2_by l D ca ad av w (some (.int x)) w2 :=
  mPackI [18, 36, 50] (by decide +kernel) hlen tkX2_by (fun p e s m args below meth c A Q hX => ⟨mCallV_ok (T := TX2) (N := 8) hX dX2_by_2 rfl ⟨wq_67, wq_10, wq_66, by decide +kernel, by decide +kernel, by decide +kernel⟩ wq_68 wq_69 (by decide) (by decide), mCallV_ok (T := TX2) (N := 8) hX dX2_by_10 rfl ⟨wq_67, wq_10, wq_66, by decide +kernel, by decide +kernel, by decide +kernel⟩ wq_68 wq_69 (by decide) (by decide), mCallS_ok hX dX2_by_23 ⟨wq_71, wq_10, wq_70, by decide +kernel, by decide +kernel, by decide +kernel⟩ wq_72 (by decide) (by decide), mCallV_ok (T := TX0) (N := 1) hX dX2_by_47 rfl ⟨wq_74, wq_1, wq_73, by decide +kernel, by decide +kernel, by decide +kernel⟩ wq_75 wq_76 (by decide) (by decide)⟩) (List.forall_mem_cons.mpr ⟨dX2_by_18, List.forall_mem_cons.mpr ⟨dX2_by_36, List.forall_mem_cons.mpr ⟨dX2_by_50, fun _ h => absurd h List.not_mem_nil⟩⟩⟩) body
/-! X2 isStuff -/
def tbX2_isStuff : List (Nat × mR) := [(0, r_iload 1 0), (1, r_iflt 4 13), (4, r_iload 5 0), (5, r_ic 6 3), (6, r_cge 9 13), (9, r_ic 10 1), (10, r_goto 14), (13, r_ic 14 0)]
theorem tkX2_isStuff : ∀ q ∈ tbX2_isStuff, mOk cX2_isStuff RX2 1 q.1 q.2 := by
  unfold tbX2_isStuff
  refine mcons (ok_iload_n dX2_isStuff_0 rfl) ?_
  refine mcons (ok_iflt dX2_isStuff_1 (by decide)) ?_
  refine mcons (ok_iload_n dX2_isStuff_4 rfl) ?_
  refine mcons (ok_iconst dX2_isStuff_5 (by decide)) ?_
  refine mcons (ok_cge dX2_isStuff_6 (by decide)) ?_
  refine mcons (ok_iconst dX2_isStuff_9 (by decide)) ?_
  refine mcons (ok_goto dX2_isStuff_10 (by decide)) ?_
  refine mcons (ok_iconst dX2_isStuff_13 (by decide)) ?_
  exact mnil
abbrev KX2_isStuff (l : Launch) (D : va_G) (ca : Nat → ClassId) (ad : Nat → Nat) : List Value → mW → Option Value → mW → Prop := mC l 0 yX2_isStuff cX2_isStuff 1 (some .boolean) D ca ad
def CFX2_isStuff (l : Launch) (D : va_G) (ca : Nat → ClassId) (ad : Nat → Nat) (G : mS → Prop) : Prop := True
theorem PX2_isStuff {l : Launch} {D : va_G} {ca : Nat → ClassId} {ad : Nat → Nat} {av : List Value} {w : mW} {x : Int32} {w2 : mW} (hlen : (lg_sl av).length ≤ 1) (hx : x = 0 ∨ x = 1) (body : ∀ G : mS → Prop, mTb G tbX2_isStuff → CFX2_isStuff l D ca ad G → mRet G (some (.int x)) w2 [14] → G (0, lv_args 0 av, [], w)) : KX2_isStuff l D ca ad av w (some (.int x)) w2 :=
  mPackZ [14] (by decide +kernel) hlen tkX2_isStuff (fun p e s m args below meth c A Q hX => trivial) (List.forall_mem_cons.mpr ⟨dX2_isStuff_14, fun _ h => absurd h List.not_mem_nil⟩) hx body
/-! X2 emits -/
def tbX2_emits : List (Nat × mR) := [(0, r_aload 1 0), (1, r_iload 2 1), (5, r_ifeq 8 15), (8, r_iload 9 2), (12, r_ifne 15 18), (15, r_ic 17 (-101)), (18, r_iload 19 3), (19, r_ic 20 0), (20, r_ic 22 100), (25, r_ifeq 28 39), (28, r_iload 30 5), (30, r_ic 31 0), (31, r_ic 33 100), (36, r_ifne 39 42), (39, r_ic 41 (-102)), (42, r_iload 44 4), (44, r_iload 45 3), (45, r_iload 47 5), (50, r_ifne 53 56), (53, r_ic 55 (-102)), (56, r_aload 57 0), (57, r_getf 60 2 0), (60, r_iload 61 1), (61, r_iload 62 2), (62, r_ic 63 0), (66, r_iload 67 3), (70, r_pop 71), (71, r_aload 72 0), (72, r_getf 75 2 0), (75, r_iload 76 1), (76, r_iload 77 2), (77, r_ic 78 1), (81, r_iload 83 4), (86, r_pop 87), (87, r_aload 88 0), (88, r_getf 91 2 0), (91, r_iload 92 1), (92, r_iload 93 2), (93, r_ic 94 2), (97, r_iload 99 5), (102, r_pop 103), (103, r_ic 104 1)]
theorem tkX2_emits : ∀ q ∈ tbX2_emits, mOk cX2_emits RX2 6 q.1 q.2 := by
  unfold tbX2_emits
  refine mcons (ok_aload_n dX2_emits_0 rfl) ?_
  refine mcons (ok_iload_n dX2_emits_1 rfl) ?_
  refine mcons (ok_ifeq dX2_emits_5 (by decide)) ?_
  refine mcons (ok_iload_n dX2_emits_8 rfl) ?_
  refine mcons (ok_ifne dX2_emits_12 (by decide)) ?_
  refine mcons (ok_bipush dX2_emits_15 (by decide)) ?_
  refine mcons (ok_iload_n dX2_emits_18 rfl) ?_
  refine mcons (ok_iconst dX2_emits_19 (by decide)) ?_
  refine mcons (ok_bipush dX2_emits_20 (by decide)) ?_
  refine mcons (ok_ifeq dX2_emits_25 (by decide)) ?_
  refine mcons (ok_iload dX2_emits_28) ?_
  refine mcons (ok_iconst dX2_emits_30 (by decide)) ?_
  refine mcons (ok_bipush dX2_emits_31 (by decide)) ?_
  refine mcons (ok_ifne dX2_emits_36 (by decide)) ?_
  refine mcons (ok_bipush dX2_emits_39 (by decide)) ?_
  refine mcons (ok_iload dX2_emits_42) ?_
  refine mcons (ok_iload_n dX2_emits_44 rfl) ?_
  refine mcons (ok_iload dX2_emits_45) ?_
  refine mcons (ok_ifne dX2_emits_50 (by decide)) ?_
  refine mcons (ok_bipush dX2_emits_53 (by decide)) ?_
  refine mcons (ok_aload_n dX2_emits_56 rfl) ?_
  refine mcons (ok_getf 0 dX2_emits_57 rfl mX2 (by decide) wq_65 rfl) ?_
  refine mcons (ok_iload_n dX2_emits_60 rfl) ?_
  refine mcons (ok_iload_n dX2_emits_61 rfl) ?_
  refine mcons (ok_iconst dX2_emits_62 (by decide)) ?_
  refine mcons (ok_iload_n dX2_emits_66 rfl) ?_
  refine mcons (ok_pop dX2_emits_70) ?_
  refine mcons (ok_aload_n dX2_emits_71 rfl) ?_
  refine mcons (ok_getf 0 dX2_emits_72 rfl mX2 (by decide) wq_65 rfl) ?_
  refine mcons (ok_iload_n dX2_emits_75 rfl) ?_
  refine mcons (ok_iload_n dX2_emits_76 rfl) ?_
  refine mcons (ok_iconst dX2_emits_77 (by decide)) ?_
  refine mcons (ok_iload dX2_emits_81) ?_
  refine mcons (ok_pop dX2_emits_86) ?_
  refine mcons (ok_aload_n dX2_emits_87 rfl) ?_
  refine mcons (ok_getf 0 dX2_emits_88 rfl mX2 (by decide) wq_65 rfl) ?_
  refine mcons (ok_iload_n dX2_emits_91 rfl) ?_
  refine mcons (ok_iload_n dX2_emits_92 rfl) ?_
  refine mcons (ok_iconst dX2_emits_93 (by decide)) ?_
  refine mcons (ok_iload dX2_emits_97) ?_
  refine mcons (ok_pop dX2_emits_102) ?_
  refine mcons (ok_iconst dX2_emits_103 (by decide)) ?_
  exact mnil
abbrev KX2_emits (l : Launch) (D : va_G) (ca : Nat → ClassId) (ad : Nat → Nat) : List Value → mW → Option Value → mW → Prop := mC l 2 yX2_emits cX2_emits 6 (some .int) D ca ad
def CFX2_emits (l : Launch) (D : va_G) (ca : Nat → ClassId) (ad : Nat → Nat) (G : mS → Prop) : Prop := mCallV G (KX2_isMaking l D ca ad) 2 2 1 ∧ mCallS G (KX2_isStuff l D ca ad) 9 1 ∧ mCallS G (KX2_isWithin l D ca ad) 22 3 ∧ mCallS G (KX2_isWithin l D ca ad) 33 3 ∧ mCallS G (KX2_isWithin l D ca ad) 47 3 ∧ mCallS G (KX2_placeOfEmits l D ca ad) 63 2 ∧ mCallV G (KX0_change l D ca ad) 67 0 3 ∧ mCallS G (KX2_placeOfEmits l D ca ad) 78 2 ∧ mCallV G (KX0_change l D ca ad) 83 0 3 ∧ mCallS G (KX2_placeOfEmits l D ca ad) 94 2 ∧ mCallV G (KX0_change l D ca ad) 99 0 3
theorem PX2_emits {l : Launch} {D : va_G} {ca : Nat → ClassId} {ad : Nat → Nat} {av : List Value} {w : mW} {x : Int32} {w2 : mW} (hlen : (lg_sl av).length ≤ 6) (body : ∀ G : mS → Prop, mTb G tbX2_emits → CFX2_emits l D ca ad G → mRet G (some (.int x)) w2 [17, 41, 55, 104] → G (0, lv_args 0 av, [], w)) : KX2_emits l D ca ad av w (some (.int x)) w2 :=
  mPackI [17, 41, 55, 104] (by decide +kernel) hlen tkX2_emits (fun p e s m args below meth c A Q hX => ⟨mCallV_ok (T := TX2) (N := 8) hX dX2_emits_2 rfl ⟨wq_67, wq_10, wq_66, by decide +kernel, by decide +kernel, by decide +kernel⟩ wq_68 wq_69 (by decide) (by decide), mCallS_ok hX dX2_emits_9 ⟨wq_78, wq_10, wq_77, by decide +kernel, by decide +kernel, by decide +kernel⟩ wq_79 (by decide) (by decide), mCallS_ok hX dX2_emits_22 ⟨wq_71, wq_10, wq_70, by decide +kernel, by decide +kernel, by decide +kernel⟩ wq_72 (by decide) (by decide), mCallS_ok hX dX2_emits_33 ⟨wq_71, wq_10, wq_70, by decide +kernel, by decide +kernel, by decide +kernel⟩ wq_72 (by decide) (by decide), mCallS_ok hX dX2_emits_47 ⟨wq_71, wq_10, wq_70, by decide +kernel, by decide +kernel, by decide +kernel⟩ wq_72 (by decide) (by decide), mCallS_ok hX dX2_emits_63 ⟨wq_80, wq_10, wq_11, by decide +kernel, by decide +kernel, by decide +kernel⟩ wq_12 (by decide) (by decide), mCallV_ok (T := TX0) (N := 1) hX dX2_emits_67 rfl ⟨wq_74, wq_1, wq_73, by decide +kernel, by decide +kernel, by decide +kernel⟩ wq_75 wq_76 (by decide) (by decide), mCallS_ok hX dX2_emits_78 ⟨wq_80, wq_10, wq_11, by decide +kernel, by decide +kernel, by decide +kernel⟩ wq_12 (by decide) (by decide), mCallV_ok (T := TX0) (N := 1) hX dX2_emits_83 rfl ⟨wq_74, wq_1, wq_73, by decide +kernel, by decide +kernel, by decide +kernel⟩ wq_75 wq_76 (by decide) (by decide), mCallS_ok hX dX2_emits_94 ⟨wq_80, wq_10, wq_11, by decide +kernel, by decide +kernel, by decide +kernel⟩ wq_12 (by decide) (by decide), mCallV_ok (T := TX0) (N := 1) hX dX2_emits_99 rfl ⟨wq_74, wq_1, wq_73, by decide +kernel, by decide +kernel, by decide +kernel⟩ wq_75 wq_76 (by decide) (by decide)⟩) (List.forall_mem_cons.mpr ⟨dX2_emits_17, List.forall_mem_cons.mpr ⟨dX2_emits_41, List.forall_mem_cons.mpr ⟨dX2_emits_55, List.forall_mem_cons.mpr ⟨dX2_emits_104, fun _ h => absurd h List.not_mem_nil⟩⟩⟩⟩) body
/-! X2 good -/
def tbX2_good : List (Nat × mR) := [(0, r_aload 1 0), (1, r_iload 2 1), (5, r_ifne 8 11), (8, r_ic 10 (-101)), (11, r_iload 12 2), (12, r_ic 13 1), (13, r_ic 14 5), (17, r_ifeq 20 29), (20, r_iload 21 3), (21, r_ic 22 1), (22, r_ic 23 5), (26, r_ifne 29 32), (29, r_ic 31 (-102)), (32, r_aload 33 0), (33, r_getf 36 2 0), (36, r_iload 37 1), (37, r_ic 39 21), (39, r_iload 40 2), (43, r_pop 44), (44, r_aload 45 0), (45, r_getf 48 2 0), (48, r_iload 49 1), (49, r_ic 51 22), (51, r_iload 52 3), (55, r_pop 56), (56, r_ic 57 1)]
theorem tkX2_good : ∀ q ∈ tbX2_good, mOk cX2_good RX2 4 q.1 q.2 := by
  unfold tbX2_good
  refine mcons (ok_aload_n dX2_good_0 rfl) ?_
  refine mcons (ok_iload_n dX2_good_1 rfl) ?_
  refine mcons (ok_ifne dX2_good_5 (by decide)) ?_
  refine mcons (ok_bipush dX2_good_8 (by decide)) ?_
  refine mcons (ok_iload_n dX2_good_11 rfl) ?_
  refine mcons (ok_iconst dX2_good_12 (by decide)) ?_
  refine mcons (ok_iconst dX2_good_13 (by decide)) ?_
  refine mcons (ok_ifeq dX2_good_17 (by decide)) ?_
  refine mcons (ok_iload_n dX2_good_20 rfl) ?_
  refine mcons (ok_iconst dX2_good_21 (by decide)) ?_
  refine mcons (ok_iconst dX2_good_22 (by decide)) ?_
  refine mcons (ok_ifne dX2_good_26 (by decide)) ?_
  refine mcons (ok_bipush dX2_good_29 (by decide)) ?_
  refine mcons (ok_aload_n dX2_good_32 rfl) ?_
  refine mcons (ok_getf 0 dX2_good_33 rfl mX2 (by decide) wq_65 rfl) ?_
  refine mcons (ok_iload_n dX2_good_36 rfl) ?_
  refine mcons (ok_bipush dX2_good_37 (by decide)) ?_
  refine mcons (ok_iload_n dX2_good_39 rfl) ?_
  refine mcons (ok_pop dX2_good_43) ?_
  refine mcons (ok_aload_n dX2_good_44 rfl) ?_
  refine mcons (ok_getf 0 dX2_good_45 rfl mX2 (by decide) wq_65 rfl) ?_
  refine mcons (ok_iload_n dX2_good_48 rfl) ?_
  refine mcons (ok_bipush dX2_good_49 (by decide)) ?_
  refine mcons (ok_iload_n dX2_good_51 rfl) ?_
  refine mcons (ok_pop dX2_good_55) ?_
  refine mcons (ok_iconst dX2_good_56 (by decide)) ?_
  exact mnil
abbrev KX2_good (l : Launch) (D : va_G) (ca : Nat → ClassId) (ad : Nat → Nat) : List Value → mW → Option Value → mW → Prop := mC l 2 yX2_good cX2_good 4 (some .int) D ca ad
def CFX2_good (l : Launch) (D : va_G) (ca : Nat → ClassId) (ad : Nat → Nat) (G : mS → Prop) : Prop := mCallV G (KX2_isMaking l D ca ad) 2 2 1 ∧ mCallS G (KX2_isWithin l D ca ad) 14 3 ∧ mCallS G (KX2_isWithin l D ca ad) 23 3 ∧ mCallV G (KX0_change l D ca ad) 40 0 3 ∧ mCallV G (KX0_change l D ca ad) 52 0 3
theorem PX2_good {l : Launch} {D : va_G} {ca : Nat → ClassId} {ad : Nat → Nat} {av : List Value} {w : mW} {x : Int32} {w2 : mW} (hlen : (lg_sl av).length ≤ 4) (body : ∀ G : mS → Prop, mTb G tbX2_good → CFX2_good l D ca ad G → mRet G (some (.int x)) w2 [10, 31, 57] → G (0, lv_args 0 av, [], w)) : KX2_good l D ca ad av w (some (.int x)) w2 :=
  mPackI [10, 31, 57] (by decide +kernel) hlen tkX2_good (fun p e s m args below meth c A Q hX => ⟨mCallV_ok (T := TX2) (N := 8) hX dX2_good_2 rfl ⟨wq_67, wq_10, wq_66, by decide +kernel, by decide +kernel, by decide +kernel⟩ wq_68 wq_69 (by decide) (by decide), mCallS_ok hX dX2_good_14 ⟨wq_71, wq_10, wq_70, by decide +kernel, by decide +kernel, by decide +kernel⟩ wq_72 (by decide) (by decide), mCallS_ok hX dX2_good_23 ⟨wq_71, wq_10, wq_70, by decide +kernel, by decide +kernel, by decide +kernel⟩ wq_72 (by decide) (by decide), mCallV_ok (T := TX0) (N := 1) hX dX2_good_40 rfl ⟨wq_74, wq_1, wq_73, by decide +kernel, by decide +kernel, by decide +kernel⟩ wq_75 wq_76 (by decide) (by decide), mCallV_ok (T := TX0) (N := 1) hX dX2_good_52 rfl ⟨wq_74, wq_1, wq_73, by decide +kernel, by decide +kernel, by decide +kernel⟩ wq_75 wq_76 (by decide) (by decide)⟩) (List.forall_mem_cons.mpr ⟨dX2_good_10, List.forall_mem_cons.mpr ⟨dX2_good_31, List.forall_mem_cons.mpr ⟨dX2_good_57, fun _ h => absurd h List.not_mem_nil⟩⟩⟩) body
/-! X2 rule -/
def tbX2_rule : List (Nat × mR) := [(0, r_aload 1 0), (1, r_iload 2 1), (5, r_ifne 8 11), (8, r_ic 10 (-101)), (11, r_iload 12 2), (12, r_ic 13 0), (13, r_ic 14 2), (17, r_ifne 20 23), (20, r_ic 22 (-102)), (23, r_aload 24 0), (24, r_getf 27 2 0), (27, r_iload 28 1), (28, r_ic 29 1), (29, r_iload 30 2)]
theorem tkX2_rule : ∀ q ∈ tbX2_rule, mOk cX2_rule RX2 3 q.1 q.2 := by
  unfold tbX2_rule
  refine mcons (ok_aload_n dX2_rule_0 rfl) ?_
  refine mcons (ok_iload_n dX2_rule_1 rfl) ?_
  refine mcons (ok_ifne dX2_rule_5 (by decide)) ?_
  refine mcons (ok_bipush dX2_rule_8 (by decide)) ?_
  refine mcons (ok_iload_n dX2_rule_11 rfl) ?_
  refine mcons (ok_iconst dX2_rule_12 (by decide)) ?_
  refine mcons (ok_iconst dX2_rule_13 (by decide)) ?_
  refine mcons (ok_ifne dX2_rule_17 (by decide)) ?_
  refine mcons (ok_bipush dX2_rule_20 (by decide)) ?_
  refine mcons (ok_aload_n dX2_rule_23 rfl) ?_
  refine mcons (ok_getf 0 dX2_rule_24 rfl mX2 (by decide) wq_65 rfl) ?_
  refine mcons (ok_iload_n dX2_rule_27 rfl) ?_
  refine mcons (ok_iconst dX2_rule_28 (by decide)) ?_
  refine mcons (ok_iload_n dX2_rule_29 rfl) ?_
  exact mnil
abbrev KX2_rule (l : Launch) (D : va_G) (ca : Nat → ClassId) (ad : Nat → Nat) : List Value → mW → Option Value → mW → Prop := mC l 2 yX2_rule cX2_rule 3 (some .int) D ca ad
def CFX2_rule (l : Launch) (D : va_G) (ca : Nat → ClassId) (ad : Nat → Nat) (G : mS → Prop) : Prop := mCallV G (KX2_isMaking l D ca ad) 2 2 1 ∧ mCallS G (KX2_isWithin l D ca ad) 14 3 ∧ mCallV G (KX0_change l D ca ad) 30 0 3
theorem PX2_rule {l : Launch} {D : va_G} {ca : Nat → ClassId} {ad : Nat → Nat} {av : List Value} {w : mW} {x : Int32} {w2 : mW} (hlen : (lg_sl av).length ≤ 3) (body : ∀ G : mS → Prop, mTb G tbX2_rule → CFX2_rule l D ca ad G → mRet G (some (.int x)) w2 [10, 22, 33] → G (0, lv_args 0 av, [], w)) : KX2_rule l D ca ad av w (some (.int x)) w2 :=
  mPackI [10, 22, 33] (by decide +kernel) hlen tkX2_rule (fun p e s m args below meth c A Q hX => ⟨mCallV_ok (T := TX2) (N := 8) hX dX2_rule_2 rfl ⟨wq_67, wq_10, wq_66, by decide +kernel, by decide +kernel, by decide +kernel⟩ wq_68 wq_69 (by decide) (by decide), mCallS_ok hX dX2_rule_14 ⟨wq_71, wq_10, wq_70, by decide +kernel, by decide +kernel, by decide +kernel⟩ wq_72 (by decide) (by decide), mCallV_ok (T := TX0) (N := 1) hX dX2_rule_30 rfl ⟨wq_74, wq_1, wq_73, by decide +kernel, by decide +kernel, by decide +kernel⟩ wq_75 wq_76 (by decide) (by decide)⟩) (List.forall_mem_cons.mpr ⟨dX2_rule_10, List.forall_mem_cons.mpr ⟨dX2_rule_22, List.forall_mem_cons.mpr ⟨dX2_rule_33, fun _ h => absurd h List.not_mem_nil⟩⟩⟩) body
/-! X2 told -/
def tbX2_told : List (Nat × mR) := [(0, r_aload 1 0), (1, r_iload 2 1), (5, r_ifne 8 11), (8, r_ic 10 (-101)), (11, r_iload 12 2), (12, r_ic 13 0), (13, r_ic 15 22), (18, r_ifne 21 24), (21, r_ic 23 (-102)), (24, r_aload 25 0), (25, r_getf 28 2 0), (28, r_getf 31 0 0), (31, r_iload 32 1), (32, r_aald 33), (33, r_iload 34 2), (34, r_iald 35)]
theorem tkX2_told : ∀ q ∈ tbX2_told, mOk cX2_told RX2 3 q.1 q.2 := by
  unfold tbX2_told
  refine mcons (ok_aload_n dX2_told_0 rfl) ?_
  refine mcons (ok_iload_n dX2_told_1 rfl) ?_
  refine mcons (ok_ifne dX2_told_5 (by decide)) ?_
  refine mcons (ok_bipush dX2_told_8 (by decide)) ?_
  refine mcons (ok_iload_n dX2_told_11 rfl) ?_
  refine mcons (ok_iconst dX2_told_12 (by decide)) ?_
  refine mcons (ok_bipush dX2_told_13 (by decide)) ?_
  refine mcons (ok_ifne dX2_told_18 (by decide)) ?_
  refine mcons (ok_bipush dX2_told_21 (by decide)) ?_
  refine mcons (ok_aload_n dX2_told_24 rfl) ?_
  refine mcons (ok_getf 0 dX2_told_25 rfl mX2 (by decide) wq_65 rfl) ?_
  refine mcons (ok_getf 0 dX2_told_28 rfl mX0 (by decide) wq_81 rfl) ?_
  refine mcons (ok_iload_n dX2_told_31 rfl) ?_
  refine mcons (ok_aald dX2_told_32) ?_
  refine mcons (ok_iload_n dX2_told_33 rfl) ?_
  refine mcons (ok_iald dX2_told_34) ?_
  exact mnil
abbrev KX2_told (l : Launch) (D : va_G) (ca : Nat → ClassId) (ad : Nat → Nat) : List Value → mW → Option Value → mW → Prop := mC l 1 yX2_told cX2_told 3 (some .int) D ca ad
def CFX2_told (l : Launch) (D : va_G) (ca : Nat → ClassId) (ad : Nat → Nat) (G : mS → Prop) : Prop := mCallV G (KX2_isMaking l D ca ad) 2 2 1 ∧ mCallS G (KX2_isWithin l D ca ad) 15 3
theorem PX2_told {l : Launch} {D : va_G} {ca : Nat → ClassId} {ad : Nat → Nat} {av : List Value} {w : mW} {x : Int32} {w2 : mW} (hlen : (lg_sl av).length ≤ 3) (body : ∀ G : mS → Prop, mTb G tbX2_told → CFX2_told l D ca ad G → mRet G (some (.int x)) w2 [10, 23, 35] → G (0, lv_args 0 av, [], w)) : KX2_told l D ca ad av w (some (.int x)) w2 :=
  mPackI [10, 23, 35] (by decide +kernel) hlen tkX2_told (fun p e s m args below meth c A Q hX => ⟨mCallV_ok (T := TX2) (N := 8) hX dX2_told_2 rfl ⟨wq_67, wq_10, wq_66, by decide +kernel, by decide +kernel, by decide +kernel⟩ wq_68 wq_69 (by decide) (by decide), mCallS_ok hX dX2_told_15 ⟨wq_71, wq_10, wq_70, by decide +kernel, by decide +kernel, by decide +kernel⟩ wq_72 (by decide) (by decide)⟩) (List.forall_mem_cons.mpr ⟨dX2_told_10, List.forall_mem_cons.mpr ⟨dX2_told_23, List.forall_mem_cons.mpr ⟨dX2_told_35, fun _ h => absurd h List.not_mem_nil⟩⟩⟩) body
/-! X2 entry -/
def tbX2_entry : List (Nat × mR) := [(0, r_aload 1 0), (1, r_iload 2 1), (5, r_ifeq 8 16), (8, r_aload 9 0), (9, r_iload 10 2), (13, r_ifne 16 19), (16, r_ic 18 (-1000000)), (19, r_aload 20 0), (20, r_getf 23 2 0), (23, r_iload 24 1), (24, r_iload 25 2)]
theorem tkX2_entry : ∀ q ∈ tbX2_entry, mOk cX2_entry RX2 3 q.1 q.2 := by
  unfold tbX2_entry
  refine mcons (ok_aload_n dX2_entry_0 rfl) ?_
  refine mcons (ok_iload_n dX2_entry_1 rfl) ?_
  refine mcons (ok_ifeq dX2_entry_5 (by decide)) ?_
  refine mcons (ok_aload_n dX2_entry_8 rfl) ?_
  refine mcons (ok_iload_n dX2_entry_9 rfl) ?_
  refine mcons (ok_ifne dX2_entry_13 (by decide)) ?_
  refine mcons (ok_ldc dX2_entry_16 wq_82) ?_
  refine mcons (ok_aload_n dX2_entry_19 rfl) ?_
  refine mcons (ok_getf 0 dX2_entry_20 rfl mX2 (by decide) wq_65 rfl) ?_
  refine mcons (ok_iload_n dX2_entry_23 rfl) ?_
  refine mcons (ok_iload_n dX2_entry_24 rfl) ?_
  exact mnil
abbrev KX2_entry (l : Launch) (D : va_G) (ca : Nat → ClassId) (ad : Nat → Nat) : List Value → mW → Option Value → mW → Prop := mC l 1 yX2_entry cX2_entry 3 (some .int) D ca ad
def CFX2_entry (l : Launch) (D : va_G) (ca : Nat → ClassId) (ad : Nat → Nat) (G : mS → Prop) : Prop := mCallV G (KX2_isMaking l D ca ad) 2 2 1 ∧ mCallV G (KX2_isMaking l D ca ad) 10 2 1 ∧ mCallV G (KX0_tableCell l D ca ad) 25 0 2
theorem PX2_entry {l : Launch} {D : va_G} {ca : Nat → ClassId} {ad : Nat → Nat} {av : List Value} {w : mW} {x : Int32} {w2 : mW} (hlen : (lg_sl av).length ≤ 3) (body : ∀ G : mS → Prop, mTb G tbX2_entry → CFX2_entry l D ca ad G → mRet G (some (.int x)) w2 [18, 28] → G (0, lv_args 0 av, [], w)) : KX2_entry l D ca ad av w (some (.int x)) w2 :=
  mPackI [18, 28] (by decide +kernel) hlen tkX2_entry (fun p e s m args below meth c A Q hX => ⟨mCallV_ok (T := TX2) (N := 8) hX dX2_entry_2 rfl ⟨wq_67, wq_10, wq_66, by decide +kernel, by decide +kernel, by decide +kernel⟩ wq_68 wq_69 (by decide) (by decide), mCallV_ok (T := TX2) (N := 8) hX dX2_entry_10 rfl ⟨wq_67, wq_10, wq_66, by decide +kernel, by decide +kernel, by decide +kernel⟩ wq_68 wq_69 (by decide) (by decide), mCallV_ok (T := TX0) (N := 1) hX dX2_entry_25 rfl ⟨wq_83, wq_1, wq_33, by decide +kernel, by decide +kernel, by decide +kernel⟩ wq_35 wq_36 (by decide) (by decide)⟩) (List.forall_mem_cons.mpr ⟨dX2_entry_18, List.forall_mem_cons.mpr ⟨dX2_entry_28, fun _ h => absurd h List.not_mem_nil⟩⟩) body
/-! X2 worth -/
def tbX2_worth : List (Nat × mR) := [(0, r_aload 1 0), (1, r_getf 4 2 3), (4, r_aload 5 0), (5, r_getf 8 2 0), (8, r_aload 9 0), (9, r_getf 12 2 6), (15, r_aload 16 0), (16, r_getf 19 2 3), (19, r_getf 22 1 2)]
theorem tkX2_worth : ∀ q ∈ tbX2_worth, mOk cX2_worth RX2 1 q.1 q.2 := by
  unfold tbX2_worth
  refine mcons (ok_aload_n dX2_worth_0 rfl) ?_
  refine mcons (ok_getf 3 dX2_worth_1 rfl mX2 (by decide) wq_84 rfl) ?_
  refine mcons (ok_aload_n dX2_worth_4 rfl) ?_
  refine mcons (ok_getf 0 dX2_worth_5 rfl mX2 (by decide) wq_65 rfl) ?_
  refine mcons (ok_aload_n dX2_worth_8 rfl) ?_
  refine mcons (ok_getf 6 dX2_worth_9 rfl mX2 (by decide) wq_64 rfl) ?_
  refine mcons (ok_aload_n dX2_worth_15 rfl) ?_
  refine mcons (ok_getf 3 dX2_worth_16 rfl mX2 (by decide) wq_84 rfl) ?_
  refine mcons (ok_getf 2 dX2_worth_19 rfl mX1 (by decide) wq_85 rfl) ?_
  exact mnil
abbrev KX2_worth (l : Launch) (D : va_G) (ca : Nat → ClassId) (ad : Nat → Nat) : List Value → mW → Option Value → mW → Prop := mC l 4 yX2_worth cX2_worth 1 (some .long) D ca ad
def CFX2_worth (l : Launch) (D : va_G) (ca : Nat → ClassId) (ad : Nat → Nat) (G : mS → Prop) : Prop := mCallV G (KX1_layTable l D ca ad) 12 1 2
theorem PX2_worth {l : Launch} {D : va_G} {ca : Nat → ClassId} {ad : Nat → Nat} {av : List Value} {w : mW} {x : Int64} {w2 : mW} (hlen : (lg_sl av).length ≤ 1) (body : ∀ G : mS → Prop, mTb G tbX2_worth → CFX2_worth l D ca ad G → mRet G (some (.long x)) w2 [22] → G (0, lv_args 0 av, [], w)) : KX2_worth l D ca ad av w (some (.long x)) w2 :=
  mPackL [22] (by decide +kernel) hlen tkX2_worth (fun p e s m args below meth c A Q hX => mCallV_ok (T := TX1) (N := 7) hX dX2_worth_12 rfl ⟨wq_86, wq_23, wq_44, by decide +kernel, by decide +kernel, by decide +kernel⟩ wq_46 wq_47 (by decide) (by decide)) (List.forall_mem_cons.mpr ⟨dX2_worth_22, fun _ h => absurd h List.not_mem_nil⟩) body
/-! X2 isBasket -/
def tbX2_isBasket : List (Nat × mR) := [(0, r_iload 1 0), (1, r_iflt 4 13), (4, r_iload 5 0), (5, r_ic 6 4), (6, r_cge 9 13), (9, r_ic 10 1), (10, r_goto 14), (13, r_ic 14 0)]
theorem tkX2_isBasket : ∀ q ∈ tbX2_isBasket, mOk cX2_isBasket RX2 1 q.1 q.2 := by
  unfold tbX2_isBasket
  refine mcons (ok_iload_n dX2_isBasket_0 rfl) ?_
  refine mcons (ok_iflt dX2_isBasket_1 (by decide)) ?_
  refine mcons (ok_iload_n dX2_isBasket_4 rfl) ?_
  refine mcons (ok_iconst dX2_isBasket_5 (by decide)) ?_
  refine mcons (ok_cge dX2_isBasket_6 (by decide)) ?_
  refine mcons (ok_iconst dX2_isBasket_9 (by decide)) ?_
  refine mcons (ok_goto dX2_isBasket_10 (by decide)) ?_
  refine mcons (ok_iconst dX2_isBasket_13 (by decide)) ?_
  exact mnil
abbrev KX2_isBasket (l : Launch) (D : va_G) (ca : Nat → ClassId) (ad : Nat → Nat) : List Value → mW → Option Value → mW → Prop := mC l 0 yX2_isBasket cX2_isBasket 1 (some .boolean) D ca ad
def CFX2_isBasket (l : Launch) (D : va_G) (ca : Nat → ClassId) (ad : Nat → Nat) (G : mS → Prop) : Prop := True
theorem PX2_isBasket {l : Launch} {D : va_G} {ca : Nat → ClassId} {ad : Nat → Nat} {av : List Value} {w : mW} {x : Int32} {w2 : mW} (hlen : (lg_sl av).length ≤ 1) (hx : x = 0 ∨ x = 1) (body : ∀ G : mS → Prop, mTb G tbX2_isBasket → CFX2_isBasket l D ca ad G → mRet G (some (.int x)) w2 [14] → G (0, lv_args 0 av, [], w)) : KX2_isBasket l D ca ad av w (some (.int x)) w2 :=
  mPackZ [14] (by decide +kernel) hlen tkX2_isBasket (fun p e s m args below meth c A Q hX => trivial) (List.forall_mem_cons.mpr ⟨dX2_isBasket_14, fun _ h => absurd h List.not_mem_nil⟩) hx body
/-! X2 put -/
def tbX2_put : List (Nat × mR) := [(0, r_iload 1 1), (4, r_ifeq 7 15), (7, r_aload 8 0), (8, r_iload 9 2), (12, r_ifne 15 18), (15, r_ic 17 (-101)), (18, r_iload 19 3), (19, r_ic 20 0), (20, r_ic 22 20), (25, r_ifne 28 31), (28, r_ic 30 (-102)), (31, r_aload 32 0), (32, r_getf 35 2 4), (35, r_iload 36 1), (36, r_aald 37), (37, r_iload 38 2), (38, r_iald 39), (39, r_istore 41 4), (41, r_aload 42 0), (42, r_getf 45 2 4), (45, r_iload 46 1), (46, r_aald 47), (47, r_iload 48 2), (48, r_iload 49 3), (49, r_iast 50), (50, r_iload 52 4)]
theorem tkX2_put : ∀ q ∈ tbX2_put, mOk cX2_put RX2 5 q.1 q.2 := by
  unfold tbX2_put
  refine mcons (ok_iload_n dX2_put_0 rfl) ?_
  refine mcons (ok_ifeq dX2_put_4 (by decide)) ?_
  refine mcons (ok_aload_n dX2_put_7 rfl) ?_
  refine mcons (ok_iload_n dX2_put_8 rfl) ?_
  refine mcons (ok_ifne dX2_put_12 (by decide)) ?_
  refine mcons (ok_bipush dX2_put_15 (by decide)) ?_
  refine mcons (ok_iload_n dX2_put_18 rfl) ?_
  refine mcons (ok_iconst dX2_put_19 (by decide)) ?_
  refine mcons (ok_bipush dX2_put_20 (by decide)) ?_
  refine mcons (ok_ifne dX2_put_25 (by decide)) ?_
  refine mcons (ok_bipush dX2_put_28 (by decide)) ?_
  refine mcons (ok_aload_n dX2_put_31 rfl) ?_
  refine mcons (ok_getf 4 dX2_put_32 rfl mX2 (by decide) wq_87 rfl) ?_
  refine mcons (ok_iload_n dX2_put_35 rfl) ?_
  refine mcons (ok_aald dX2_put_36) ?_
  refine mcons (ok_iload_n dX2_put_37 rfl) ?_
  refine mcons (ok_iald dX2_put_38) ?_
  refine mcons (ok_istore dX2_put_39 (by decide)) ?_
  refine mcons (ok_aload_n dX2_put_41 rfl) ?_
  refine mcons (ok_getf 4 dX2_put_42 rfl mX2 (by decide) wq_87 rfl) ?_
  refine mcons (ok_iload_n dX2_put_45 rfl) ?_
  refine mcons (ok_aald dX2_put_46) ?_
  refine mcons (ok_iload_n dX2_put_47 rfl) ?_
  refine mcons (ok_iload_n dX2_put_48 rfl) ?_
  refine mcons (ok_iast dX2_put_49) ?_
  refine mcons (ok_iload dX2_put_50) ?_
  exact mnil
abbrev KX2_put (l : Launch) (D : va_G) (ca : Nat → ClassId) (ad : Nat → Nat) : List Value → mW → Option Value → mW → Prop := mC l 1 yX2_put cX2_put 5 (some .int) D ca ad
def CFX2_put (l : Launch) (D : va_G) (ca : Nat → ClassId) (ad : Nat → Nat) (G : mS → Prop) : Prop := mCallS G (KX2_isBasket l D ca ad) 1 1 ∧ mCallV G (KX2_isMaking l D ca ad) 9 2 1 ∧ mCallS G (KX2_isWithin l D ca ad) 22 3
theorem PX2_put {l : Launch} {D : va_G} {ca : Nat → ClassId} {ad : Nat → Nat} {av : List Value} {w : mW} {x : Int32} {w2 : mW} (hlen : (lg_sl av).length ≤ 5) (body : ∀ G : mS → Prop, mTb G tbX2_put → CFX2_put l D ca ad G → mRet G (some (.int x)) w2 [17, 30, 52] → G (0, lv_args 0 av, [], w)) : KX2_put l D ca ad av w (some (.int x)) w2 :=
  mPackI [17, 30, 52] (by decide +kernel) hlen tkX2_put (fun p e s m args below meth c A Q hX => ⟨mCallS_ok hX dX2_put_1 ⟨wq_89, wq_10, wq_88, by decide +kernel, by decide +kernel, by decide +kernel⟩ wq_90 (by decide) (by decide), mCallV_ok (T := TX2) (N := 8) hX dX2_put_9 rfl ⟨wq_67, wq_10, wq_66, by decide +kernel, by decide +kernel, by decide +kernel⟩ wq_68 wq_69 (by decide) (by decide), mCallS_ok hX dX2_put_22 ⟨wq_71, wq_10, wq_70, by decide +kernel, by decide +kernel, by decide +kernel⟩ wq_72 (by decide) (by decide)⟩) (List.forall_mem_cons.mpr ⟨dX2_put_17, List.forall_mem_cons.mpr ⟨dX2_put_30, List.forall_mem_cons.mpr ⟨dX2_put_52, fun _ h => absurd h List.not_mem_nil⟩⟩⟩) body
/-! X2 thousandths -/
def tbX2_thousandths : List (Nat × mR) := [(0, r_lload 1 2), (1, r_lc 2 0), (2, r_lcmp 3), (3, r_ifne 6 10), (6, r_lc 9 (-9000000000000000004)), (10, r_lc 13 (1000)), (13, r_lload 14 0), (14, r_ll 15 (fun x y => x * y)), (15, r_lload 16 2)]
theorem tkX2_thousandths : ∀ q ∈ tbX2_thousandths, mOk cX2_thousandths RX2 4 q.1 q.2 := by
  unfold tbX2_thousandths
  refine mcons (ok_lload_n dX2_thousandths_0 rfl) ?_
  refine mcons (ok_lconst dX2_thousandths_1 (by decide)) ?_
  refine mcons (ok_lcmp dX2_thousandths_2) ?_
  refine mcons (ok_ifne dX2_thousandths_3 (by decide)) ?_
  refine mcons (ok_ldc2 dX2_thousandths_6 wq_91) ?_
  refine mcons (ok_ldc2 dX2_thousandths_10 wq_92) ?_
  refine mcons (ok_lload_n dX2_thousandths_13 rfl) ?_
  refine mcons (ok_lmul dX2_thousandths_14) ?_
  refine mcons (ok_lload_n dX2_thousandths_15 rfl) ?_
  exact mnil
abbrev KX2_thousandths (l : Launch) (D : va_G) (ca : Nat → ClassId) (ad : Nat → Nat) : List Value → mW → Option Value → mW → Prop := mC l 1 yX2_thousandths cX2_thousandths 4 (some .long) D ca ad
def CFX2_thousandths (l : Launch) (D : va_G) (ca : Nat → ClassId) (ad : Nat → Nat) (G : mS → Prop) : Prop := mCallS G (KJ9_floorDiv_f86c9 l D ca ad) 16 2
theorem PX2_thousandths {l : Launch} {D : va_G} {ca : Nat → ClassId} {ad : Nat → Nat} {av : List Value} {w : mW} {x : Int64} {w2 : mW} (hlen : (lg_sl av).length ≤ 4) (body : ∀ G : mS → Prop, mTb G tbX2_thousandths → CFX2_thousandths l D ca ad G → mRet G (some (.long x)) w2 [9, 19] → G (0, lv_args 0 av, [], w)) : KX2_thousandths l D ca ad av w (some (.long x)) w2 :=
  mPackL [9, 19] (by decide +kernel) hlen tkX2_thousandths (fun p e s m args below meth c A Q hX => mCallS_ok hX dX2_thousandths_16 ⟨wq_94, wq_29, wq_93, by decide +kernel, by decide +kernel, by decide +kernel⟩ wq_95 (by decide) (by decide)) (List.forall_mem_cons.mpr ⟨dX2_thousandths_9, List.forall_mem_cons.mpr ⟨dX2_thousandths_19, fun _ h => absurd h List.not_mem_nil⟩⟩) body
/-! X2 runs -/
def tbX2_runs : List (Nat × mR) := [(0, r_iload 1 1), (4, r_ifeq 7 15), (7, r_aload 8 0), (8, r_iload 9 2), (12, r_ifne 15 19), (15, r_lc 18 (-9000000000000000001)), (19, r_aload 20 0), (20, r_getf 23 2 3), (23, r_aload 24 0), (24, r_getf 27 2 0), (27, r_aload 28 0), (28, r_getf 31 2 6), (31, r_aload 32 0), (32, r_getf 35 2 4), (35, r_iload 36 1), (36, r_aald 37), (40, r_ifne 43 47), (43, r_lc 46 (-9000000000000000004)), (47, r_aload 48 0), (48, r_getf 51 2 3), (51, r_getf 54 1 0), (54, r_iload 55 2), (55, r_lald 56), (56, r_aload 57 0), (57, r_getf 60 2 0), (60, r_getf 63 0 0), (63, r_iload 64 2), (64, r_aald 65), (65, r_ic 66 3), (66, r_iald 67), (67, r_i2l 68), (68, r_ll 69 (fun x y => x * y)), (69, r_aload 70 0), (70, r_getf 73 2 3), (73, r_getf 76 1 1)]
theorem tkX2_runs : ∀ q ∈ tbX2_runs, mOk cX2_runs RX2 3 q.1 q.2 := by
  unfold tbX2_runs
  refine mcons (ok_iload_n dX2_runs_0 rfl) ?_
  refine mcons (ok_ifeq dX2_runs_4 (by decide)) ?_
  refine mcons (ok_aload_n dX2_runs_7 rfl) ?_
  refine mcons (ok_iload_n dX2_runs_8 rfl) ?_
  refine mcons (ok_ifne dX2_runs_12 (by decide)) ?_
  refine mcons (ok_ldc2 dX2_runs_15 wq_96) ?_
  refine mcons (ok_aload_n dX2_runs_19 rfl) ?_
  refine mcons (ok_getf 3 dX2_runs_20 rfl mX2 (by decide) wq_84 rfl) ?_
  refine mcons (ok_aload_n dX2_runs_23 rfl) ?_
  refine mcons (ok_getf 0 dX2_runs_24 rfl mX2 (by decide) wq_65 rfl) ?_
  refine mcons (ok_aload_n dX2_runs_27 rfl) ?_
  refine mcons (ok_getf 6 dX2_runs_28 rfl mX2 (by decide) wq_64 rfl) ?_
  refine mcons (ok_aload_n dX2_runs_31 rfl) ?_
  refine mcons (ok_getf 4 dX2_runs_32 rfl mX2 (by decide) wq_87 rfl) ?_
  refine mcons (ok_iload_n dX2_runs_35 rfl) ?_
  refine mcons (ok_aald dX2_runs_36) ?_
  refine mcons (ok_ifne dX2_runs_40 (by decide)) ?_
  refine mcons (ok_ldc2 dX2_runs_43 wq_91) ?_
  refine mcons (ok_aload_n dX2_runs_47 rfl) ?_
  refine mcons (ok_getf 3 dX2_runs_48 rfl mX2 (by decide) wq_84 rfl) ?_
  refine mcons (ok_getf 0 dX2_runs_51 rfl mX1 (by decide) wq_97 rfl) ?_
  refine mcons (ok_iload_n dX2_runs_54 rfl) ?_
  refine mcons (ok_lald dX2_runs_55) ?_
  refine mcons (ok_aload_n dX2_runs_56 rfl) ?_
  refine mcons (ok_getf 0 dX2_runs_57 rfl mX2 (by decide) wq_65 rfl) ?_
  refine mcons (ok_getf 0 dX2_runs_60 rfl mX0 (by decide) wq_81 rfl) ?_
  refine mcons (ok_iload_n dX2_runs_63 rfl) ?_
  refine mcons (ok_aald dX2_runs_64) ?_
  refine mcons (ok_iconst dX2_runs_65 (by decide)) ?_
  refine mcons (ok_iald dX2_runs_66) ?_
  refine mcons (ok_i2l dX2_runs_67) ?_
  refine mcons (ok_lmul dX2_runs_68) ?_
  refine mcons (ok_aload_n dX2_runs_69 rfl) ?_
  refine mcons (ok_getf 3 dX2_runs_70 rfl mX2 (by decide) wq_84 rfl) ?_
  refine mcons (ok_getf 1 dX2_runs_73 rfl mX1 (by decide) wq_98 rfl) ?_
  exact mnil
abbrev KX2_runs (l : Launch) (D : va_G) (ca : Nat → ClassId) (ad : Nat → Nat) : List Value → mW → Option Value → mW → Prop := mC l 5 yX2_runs cX2_runs 3 (some .long) D ca ad
def CFX2_runs (l : Launch) (D : va_G) (ca : Nat → ClassId) (ad : Nat → Nat) (G : mS → Prop) : Prop := mCallS G (KX2_isBasket l D ca ad) 1 1 ∧ mCallV G (KX2_isMaking l D ca ad) 9 2 1 ∧ mCallV G (KX1_solve l D ca ad) 37 1 3 ∧ mCallS G (KX2_thousandths l D ca ad) 76 2
theorem PX2_runs {l : Launch} {D : va_G} {ca : Nat → ClassId} {ad : Nat → Nat} {av : List Value} {w : mW} {x : Int64} {w2 : mW} (hlen : (lg_sl av).length ≤ 3) (body : ∀ G : mS → Prop, mTb G tbX2_runs → CFX2_runs l D ca ad G → mRet G (some (.long x)) w2 [18, 46, 79] → G (0, lv_args 0 av, [], w)) : KX2_runs l D ca ad av w (some (.long x)) w2 :=
  mPackL [18, 46, 79] (by decide +kernel) hlen tkX2_runs (fun p e s m args below meth c A Q hX => ⟨mCallS_ok hX dX2_runs_1 ⟨wq_89, wq_10, wq_88, by decide +kernel, by decide +kernel, by decide +kernel⟩ wq_90 (by decide) (by decide), mCallV_ok (T := TX2) (N := 8) hX dX2_runs_9 rfl ⟨wq_67, wq_10, wq_66, by decide +kernel, by decide +kernel, by decide +kernel⟩ wq_68 wq_69 (by decide) (by decide), mCallV_ok (T := TX1) (N := 7) hX dX2_runs_37 rfl ⟨wq_100, wq_23, wq_99, by decide +kernel, by decide +kernel, by decide +kernel⟩ wq_101 wq_102 (by decide) (by decide), mCallS_ok hX dX2_runs_76 ⟨wq_104, wq_10, wq_103, by decide +kernel, by decide +kernel, by decide +kernel⟩ wq_105 (by decide) (by decide)⟩) (List.forall_mem_cons.mpr ⟨dX2_runs_18, List.forall_mem_cons.mpr ⟨dX2_runs_46, List.forall_mem_cons.mpr ⟨dX2_runs_79, fun _ h => absurd h List.not_mem_nil⟩⟩⟩) body
/-! X2 greatestCommonDivisor -/
def tbX2_greatestCommonDivisor : List (Nat × mR) := [(0, r_lload 1 0), (1, r_lstore 3 4), (3, r_lload 4 2), (4, r_lstore 6 6), (6, r_ic 7 0), (7, r_istore 9 8), (9, r_iload 11 8), (11, r_ic 14 1000), (14, r_cge 17 45), (17, r_lload 19 6), (19, r_lc 20 0), (20, r_lcmp 21), (21, r_ifeq 24 45), (24, r_lload 26 4), (26, r_lload 28 6), (28, r_lld 29 (fun x y => x - x / y * y)), (29, r_lstore 31 9), (31, r_lload 33 6), (33, r_lstore 35 4), (35, r_lload 37 9), (37, r_lstore 39 6), (39, r_iinc 42 8 1), (42, r_goto 9), (45, r_lload 47 4)]
theorem tkX2_greatestCommonDivisor : ∀ q ∈ tbX2_greatestCommonDivisor, mOk cX2_greatestCommonDivisor RX2 11 q.1 q.2 := by
  unfold tbX2_greatestCommonDivisor
  refine mcons (ok_lload_n dX2_greatestCommonDivisor_0 rfl) ?_
  refine mcons (ok_lstore dX2_greatestCommonDivisor_1 (by decide)) ?_
  refine mcons (ok_lload_n dX2_greatestCommonDivisor_3 rfl) ?_
  refine mcons (ok_lstore dX2_greatestCommonDivisor_4 (by decide)) ?_
  refine mcons (ok_iconst dX2_greatestCommonDivisor_6 (by decide)) ?_
  refine mcons (ok_istore dX2_greatestCommonDivisor_7 (by decide)) ?_
  refine mcons (ok_iload dX2_greatestCommonDivisor_9) ?_
  refine mcons (ok_sipush dX2_greatestCommonDivisor_11 (by decide)) ?_
  refine mcons (ok_cge dX2_greatestCommonDivisor_14 (by decide)) ?_
  refine mcons (ok_lload dX2_greatestCommonDivisor_17) ?_
  refine mcons (ok_lconst dX2_greatestCommonDivisor_19 (by decide)) ?_
  refine mcons (ok_lcmp dX2_greatestCommonDivisor_20) ?_
  refine mcons (ok_ifeq dX2_greatestCommonDivisor_21 (by decide)) ?_
  refine mcons (ok_lload dX2_greatestCommonDivisor_24) ?_
  refine mcons (ok_lload dX2_greatestCommonDivisor_26) ?_
  refine mcons (ok_lrem dX2_greatestCommonDivisor_28) ?_
  refine mcons (ok_lstore dX2_greatestCommonDivisor_29 (by decide)) ?_
  refine mcons (ok_lload dX2_greatestCommonDivisor_31) ?_
  refine mcons (ok_lstore dX2_greatestCommonDivisor_33 (by decide)) ?_
  refine mcons (ok_lload dX2_greatestCommonDivisor_35) ?_
  refine mcons (ok_lstore dX2_greatestCommonDivisor_37 (by decide)) ?_
  refine mcons (ok_iinc dX2_greatestCommonDivisor_39 (by decide) (by decide)) ?_
  refine mcons (ok_goto dX2_greatestCommonDivisor_42 (by decide)) ?_
  refine mcons (ok_lload dX2_greatestCommonDivisor_45) ?_
  exact mnil
abbrev KX2_greatestCommonDivisor (l : Launch) (D : va_G) (ca : Nat → ClassId) (ad : Nat → Nat) : List Value → mW → Option Value → mW → Prop := mC l 0 yX2_greatestCommonDivisor cX2_greatestCommonDivisor 11 (some .long) D ca ad
def CFX2_greatestCommonDivisor (l : Launch) (D : va_G) (ca : Nat → ClassId) (ad : Nat → Nat) (G : mS → Prop) : Prop := True
theorem PX2_greatestCommonDivisor {l : Launch} {D : va_G} {ca : Nat → ClassId} {ad : Nat → Nat} {av : List Value} {w : mW} {x : Int64} {w2 : mW} (hlen : (lg_sl av).length ≤ 11) (body : ∀ G : mS → Prop, mTb G tbX2_greatestCommonDivisor → CFX2_greatestCommonDivisor l D ca ad G → mRet G (some (.long x)) w2 [47] → G (0, lv_args 0 av, [], w)) : KX2_greatestCommonDivisor l D ca ad av w (some (.long x)) w2 :=
  mPackL [47] (by decide +kernel) hlen tkX2_greatestCommonDivisor (fun p e s m args below meth c A Q hX => trivial) (List.forall_mem_cons.mpr ⟨dX2_greatestCommonDivisor_47, fun _ h => absurd h List.not_mem_nil⟩) body
/-! X2 inLowestTerms -/
def tbX2_inLowestTerms : List (Nat × mR) := [(0, r_lload 1 2), (4, r_lload 6 4), (12, r_lstore 14 6), (14, r_lload 16 6), (16, r_lc 17 0), (17, r_lcmp 18), (18, r_ifne 21 25), (21, r_lload 22 0), (22, r_goto 29), (25, r_lload 26 0), (26, r_lload 28 6), (28, r_lld 29 (fun x y => x / y))]
theorem tkX2_inLowestTerms : ∀ q ∈ tbX2_inLowestTerms, mOk cX2_inLowestTerms RX2 8 q.1 q.2 := by
  unfold tbX2_inLowestTerms
  refine mcons (ok_lload_n dX2_inLowestTerms_0 rfl) ?_
  refine mcons (ok_lload dX2_inLowestTerms_4) ?_
  refine mcons (ok_lstore dX2_inLowestTerms_12 (by decide)) ?_
  refine mcons (ok_lload dX2_inLowestTerms_14) ?_
  refine mcons (ok_lconst dX2_inLowestTerms_16 (by decide)) ?_
  refine mcons (ok_lcmp dX2_inLowestTerms_17) ?_
  refine mcons (ok_ifne dX2_inLowestTerms_18 (by decide)) ?_
  refine mcons (ok_lload_n dX2_inLowestTerms_21 rfl) ?_
  refine mcons (ok_goto dX2_inLowestTerms_22 (by decide)) ?_
  refine mcons (ok_lload_n dX2_inLowestTerms_25 rfl) ?_
  refine mcons (ok_lload dX2_inLowestTerms_26) ?_
  refine mcons (ok_ldiv dX2_inLowestTerms_28) ?_
  exact mnil
abbrev KX2_inLowestTerms (l : Launch) (D : va_G) (ca : Nat → ClassId) (ad : Nat → Nat) : List Value → mW → Option Value → mW → Prop := mC l 1 yX2_inLowestTerms cX2_inLowestTerms 8 (some .long) D ca ad
def CFX2_inLowestTerms (l : Launch) (D : va_G) (ca : Nat → ClassId) (ad : Nat → Nat) (G : mS → Prop) : Prop := mCallS G (KJ9_abs_067f4 l D ca ad) 1 1 ∧ mCallS G (KJ9_abs_067f4 l D ca ad) 6 1 ∧ mCallS G (KX2_greatestCommonDivisor l D ca ad) 9 2
theorem PX2_inLowestTerms {l : Launch} {D : va_G} {ca : Nat → ClassId} {ad : Nat → Nat} {av : List Value} {w : mW} {x : Int64} {w2 : mW} (hlen : (lg_sl av).length ≤ 8) (body : ∀ G : mS → Prop, mTb G tbX2_inLowestTerms → CFX2_inLowestTerms l D ca ad G → mRet G (some (.long x)) w2 [29] → G (0, lv_args 0 av, [], w)) : KX2_inLowestTerms l D ca ad av w (some (.long x)) w2 :=
  mPackL [29] (by decide +kernel) hlen tkX2_inLowestTerms (fun p e s m args below meth c A Q hX => ⟨mCallS_ok hX dX2_inLowestTerms_1 ⟨wq_106, wq_29, wq_48, by decide +kernel, by decide +kernel, by decide +kernel⟩ wq_50 (by decide) (by decide), mCallS_ok hX dX2_inLowestTerms_6 ⟨wq_106, wq_29, wq_48, by decide +kernel, by decide +kernel, by decide +kernel⟩ wq_50 (by decide) (by decide), mCallS_ok hX dX2_inLowestTerms_9 ⟨wq_108, wq_10, wq_107, by decide +kernel, by decide +kernel, by decide +kernel⟩ wq_109 (by decide) (by decide)⟩) (List.forall_mem_cons.mpr ⟨dX2_inLowestTerms_29, fun _ h => absurd h List.not_mem_nil⟩) body
/-! X2 total -/
def tbX2_total : List (Nat × mR) := [(0, r_iload 1 1), (4, r_ifeq 7 14), (7, r_iload 8 2), (11, r_ifne 14 18), (14, r_lc 17 (-9000000000000000001)), (18, r_iload 19 3), (19, r_ic 20 0), (20, r_ic 21 2), (24, r_ifeq 27 37), (27, r_iload 29 4), (29, r_ic 30 0), (30, r_ic 31 1), (34, r_ifne 37 41), (37, r_lc 40 (-9000000000000000002)), (41, r_aload 42 0), (42, r_getf 45 2 3), (45, r_aload 46 0), (46, r_getf 49 2 0), (49, r_aload 50 0), (50, r_getf 53 2 6), (53, r_aload 54 0), (54, r_getf 57 2 4), (57, r_iload 58 1), (58, r_aald 59), (62, r_ifne 65 69), (65, r_lc 68 (-9000000000000000004)), (69, r_aload 70 0), (70, r_getf 73 2 3), (73, r_aload 74 0), (74, r_getf 77 2 0), (77, r_iload 78 2), (78, r_iload 79 3), (82, r_lstore 84 5), (84, r_iload 86 4), (86, r_ifne 89 94), (89, r_lload 91 5), (91, r_goto 101), (94, r_aload 95 0), (95, r_getf 98 2 3), (98, r_getf 101 1 1), (101, r_lload 103 5), (103, r_aload 104 0), (104, r_getf 107 2 3), (107, r_getf 110 1 1)]
theorem tkX2_total : ∀ q ∈ tbX2_total, mOk cX2_total RX2 7 q.1 q.2 := by
  unfold tbX2_total
  refine mcons (ok_iload_n dX2_total_0 rfl) ?_
  refine mcons (ok_ifeq dX2_total_4 (by decide)) ?_
  refine mcons (ok_iload_n dX2_total_7 rfl) ?_
  refine mcons (ok_ifne dX2_total_11 (by decide)) ?_
  refine mcons (ok_ldc2 dX2_total_14 wq_96) ?_
  refine mcons (ok_iload_n dX2_total_18 rfl) ?_
  refine mcons (ok_iconst dX2_total_19 (by decide)) ?_
  refine mcons (ok_iconst dX2_total_20 (by decide)) ?_
  refine mcons (ok_ifeq dX2_total_24 (by decide)) ?_
  refine mcons (ok_iload dX2_total_27) ?_
  refine mcons (ok_iconst dX2_total_29 (by decide)) ?_
  refine mcons (ok_iconst dX2_total_30 (by decide)) ?_
  refine mcons (ok_ifne dX2_total_34 (by decide)) ?_
  refine mcons (ok_ldc2 dX2_total_37 wq_110) ?_
  refine mcons (ok_aload_n dX2_total_41 rfl) ?_
  refine mcons (ok_getf 3 dX2_total_42 rfl mX2 (by decide) wq_84 rfl) ?_
  refine mcons (ok_aload_n dX2_total_45 rfl) ?_
  refine mcons (ok_getf 0 dX2_total_46 rfl mX2 (by decide) wq_65 rfl) ?_
  refine mcons (ok_aload_n dX2_total_49 rfl) ?_
  refine mcons (ok_getf 6 dX2_total_50 rfl mX2 (by decide) wq_64 rfl) ?_
  refine mcons (ok_aload_n dX2_total_53 rfl) ?_
  refine mcons (ok_getf 4 dX2_total_54 rfl mX2 (by decide) wq_87 rfl) ?_
  refine mcons (ok_iload_n dX2_total_57 rfl) ?_
  refine mcons (ok_aald dX2_total_58) ?_
  refine mcons (ok_ifne dX2_total_62 (by decide)) ?_
  refine mcons (ok_ldc2 dX2_total_65 wq_91) ?_
  refine mcons (ok_aload_n dX2_total_69 rfl) ?_
  refine mcons (ok_getf 3 dX2_total_70 rfl mX2 (by decide) wq_84 rfl) ?_
  refine mcons (ok_aload_n dX2_total_73 rfl) ?_
  refine mcons (ok_getf 0 dX2_total_74 rfl mX2 (by decide) wq_65 rfl) ?_
  refine mcons (ok_iload_n dX2_total_77 rfl) ?_
  refine mcons (ok_iload_n dX2_total_78 rfl) ?_
  refine mcons (ok_lstore dX2_total_82 (by decide)) ?_
  refine mcons (ok_iload dX2_total_84) ?_
  refine mcons (ok_ifne dX2_total_86 (by decide)) ?_
  refine mcons (ok_lload dX2_total_89) ?_
  refine mcons (ok_goto dX2_total_91 (by decide)) ?_
  refine mcons (ok_aload_n dX2_total_94 rfl) ?_
  refine mcons (ok_getf 3 dX2_total_95 rfl mX2 (by decide) wq_84 rfl) ?_
  refine mcons (ok_getf 1 dX2_total_98 rfl mX1 (by decide) wq_98 rfl) ?_
  refine mcons (ok_lload dX2_total_101) ?_
  refine mcons (ok_aload_n dX2_total_103 rfl) ?_
  refine mcons (ok_getf 3 dX2_total_104 rfl mX2 (by decide) wq_84 rfl) ?_
  refine mcons (ok_getf 1 dX2_total_107 rfl mX1 (by decide) wq_98 rfl) ?_
  exact mnil
abbrev KX2_total (l : Launch) (D : va_G) (ca : Nat → ClassId) (ad : Nat → Nat) : List Value → mW → Option Value → mW → Prop := mC l 5 yX2_total cX2_total 7 (some .long) D ca ad
def CFX2_total (l : Launch) (D : va_G) (ca : Nat → ClassId) (ad : Nat → Nat) (G : mS → Prop) : Prop := mCallS G (KX2_isBasket l D ca ad) 1 1 ∧ mCallS G (KX2_isStuff l D ca ad) 8 1 ∧ mCallS G (KX2_isWithin l D ca ad) 21 3 ∧ mCallS G (KX2_isWithin l D ca ad) 31 3 ∧ mCallV G (KX1_solve l D ca ad) 59 1 3 ∧ mCallV G (KX1_sumOfEmissions l D ca ad) 79 1 3 ∧ mCallS G (KX2_inLowestTerms l D ca ad) 110 3
theorem PX2_total {l : Launch} {D : va_G} {ca : Nat → ClassId} {ad : Nat → Nat} {av : List Value} {w : mW} {x : Int64} {w2 : mW} (hlen : (lg_sl av).length ≤ 7) (body : ∀ G : mS → Prop, mTb G tbX2_total → CFX2_total l D ca ad G → mRet G (some (.long x)) w2 [17, 40, 68, 113] → G (0, lv_args 0 av, [], w)) : KX2_total l D ca ad av w (some (.long x)) w2 :=
  mPackL [17, 40, 68, 113] (by decide +kernel) hlen tkX2_total (fun p e s m args below meth c A Q hX => ⟨mCallS_ok hX dX2_total_1 ⟨wq_89, wq_10, wq_88, by decide +kernel, by decide +kernel, by decide +kernel⟩ wq_90 (by decide) (by decide), mCallS_ok hX dX2_total_8 ⟨wq_78, wq_10, wq_77, by decide +kernel, by decide +kernel, by decide +kernel⟩ wq_79 (by decide) (by decide), mCallS_ok hX dX2_total_21 ⟨wq_71, wq_10, wq_70, by decide +kernel, by decide +kernel, by decide +kernel⟩ wq_72 (by decide) (by decide), mCallS_ok hX dX2_total_31 ⟨wq_71, wq_10, wq_70, by decide +kernel, by decide +kernel, by decide +kernel⟩ wq_72 (by decide) (by decide), mCallV_ok (T := TX1) (N := 7) hX dX2_total_59 rfl ⟨wq_100, wq_23, wq_99, by decide +kernel, by decide +kernel, by decide +kernel⟩ wq_101 wq_102 (by decide) (by decide), mCallV_ok (T := TX1) (N := 7) hX dX2_total_79 rfl ⟨wq_112, wq_23, wq_111, by decide +kernel, by decide +kernel, by decide +kernel⟩ wq_113 wq_114 (by decide) (by decide), mCallS_ok hX dX2_total_110 ⟨wq_116, wq_10, wq_115, by decide +kernel, by decide +kernel, by decide +kernel⟩ wq_117 (by decide) (by decide)⟩) (List.forall_mem_cons.mpr ⟨dX2_total_17, List.forall_mem_cons.mpr ⟨dX2_total_40, List.forall_mem_cons.mpr ⟨dX2_total_68, List.forall_mem_cons.mpr ⟨dX2_total_113, fun _ h => absurd h List.not_mem_nil⟩⟩⟩⟩) body
/-! X2 share -/
def tbX2_share : List (Nat × mR) := [(0, r_iload 1 1), (4, r_ifeq 7 22), (7, r_iload 8 2), (11, r_ifeq 14 22), (14, r_aload 15 0), (15, r_iload 16 3), (19, r_ifne 22 26), (22, r_lc 25 (-9000000000000000001)), (26, r_aload 27 0), (27, r_getf 30 2 3), (30, r_aload 31 0), (31, r_getf 34 2 0), (34, r_aload 35 0), (35, r_getf 38 2 6), (38, r_aload 39 0), (39, r_getf 42 2 4), (42, r_iload 43 1), (43, r_aald 44), (47, r_ifne 50 54), (50, r_lc 53 (-9000000000000000004)), (54, r_aload 55 0), (55, r_getf 58 2 3), (58, r_aload 59 0), (59, r_getf 62 2 0), (62, r_iload 63 2), (63, r_iload 64 3), (64, r_ic 65 1), (68, r_aload 69 0), (69, r_getf 72 2 3), (72, r_getf 75 1 1)]
theorem tkX2_share : ∀ q ∈ tbX2_share, mOk cX2_share RX2 4 q.1 q.2 := by
  unfold tbX2_share
  refine mcons (ok_iload_n dX2_share_0 rfl) ?_
  refine mcons (ok_ifeq dX2_share_4 (by decide)) ?_
  refine mcons (ok_iload_n dX2_share_7 rfl) ?_
  refine mcons (ok_ifeq dX2_share_11 (by decide)) ?_
  refine mcons (ok_aload_n dX2_share_14 rfl) ?_
  refine mcons (ok_iload_n dX2_share_15 rfl) ?_
  refine mcons (ok_ifne dX2_share_19 (by decide)) ?_
  refine mcons (ok_ldc2 dX2_share_22 wq_96) ?_
  refine mcons (ok_aload_n dX2_share_26 rfl) ?_
  refine mcons (ok_getf 3 dX2_share_27 rfl mX2 (by decide) wq_84 rfl) ?_
  refine mcons (ok_aload_n dX2_share_30 rfl) ?_
  refine mcons (ok_getf 0 dX2_share_31 rfl mX2 (by decide) wq_65 rfl) ?_
  refine mcons (ok_aload_n dX2_share_34 rfl) ?_
  refine mcons (ok_getf 6 dX2_share_35 rfl mX2 (by decide) wq_64 rfl) ?_
  refine mcons (ok_aload_n dX2_share_38 rfl) ?_
  refine mcons (ok_getf 4 dX2_share_39 rfl mX2 (by decide) wq_87 rfl) ?_
  refine mcons (ok_iload_n dX2_share_42 rfl) ?_
  refine mcons (ok_aald dX2_share_43) ?_
  refine mcons (ok_ifne dX2_share_47 (by decide)) ?_
  refine mcons (ok_ldc2 dX2_share_50 wq_91) ?_
  refine mcons (ok_aload_n dX2_share_54 rfl) ?_
  refine mcons (ok_getf 3 dX2_share_55 rfl mX2 (by decide) wq_84 rfl) ?_
  refine mcons (ok_aload_n dX2_share_58 rfl) ?_
  refine mcons (ok_getf 0 dX2_share_59 rfl mX2 (by decide) wq_65 rfl) ?_
  refine mcons (ok_iload_n dX2_share_62 rfl) ?_
  refine mcons (ok_iload_n dX2_share_63 rfl) ?_
  refine mcons (ok_iconst dX2_share_64 (by decide)) ?_
  refine mcons (ok_aload_n dX2_share_68 rfl) ?_
  refine mcons (ok_getf 3 dX2_share_69 rfl mX2 (by decide) wq_84 rfl) ?_
  refine mcons (ok_getf 1 dX2_share_72 rfl mX1 (by decide) wq_98 rfl) ?_
  exact mnil
abbrev KX2_share (l : Launch) (D : va_G) (ca : Nat → ClassId) (ad : Nat → Nat) : List Value → mW → Option Value → mW → Prop := mC l 5 yX2_share cX2_share 4 (some .long) D ca ad
def CFX2_share (l : Launch) (D : va_G) (ca : Nat → ClassId) (ad : Nat → Nat) (G : mS → Prop) : Prop := mCallS G (KX2_isBasket l D ca ad) 1 1 ∧ mCallS G (KX2_isStuff l D ca ad) 8 1 ∧ mCallV G (KX2_isMaking l D ca ad) 16 2 1 ∧ mCallV G (KX1_solve l D ca ad) 44 1 3 ∧ mCallV G (KX1_brought l D ca ad) 65 1 4 ∧ mCallS G (KX2_thousandths l D ca ad) 75 2
theorem PX2_share {l : Launch} {D : va_G} {ca : Nat → ClassId} {ad : Nat → Nat} {av : List Value} {w : mW} {x : Int64} {w2 : mW} (hlen : (lg_sl av).length ≤ 4) (body : ∀ G : mS → Prop, mTb G tbX2_share → CFX2_share l D ca ad G → mRet G (some (.long x)) w2 [25, 53, 78] → G (0, lv_args 0 av, [], w)) : KX2_share l D ca ad av w (some (.long x)) w2 :=
  mPackL [25, 53, 78] (by decide +kernel) hlen tkX2_share (fun p e s m args below meth c A Q hX => ⟨mCallS_ok hX dX2_share_1 ⟨wq_89, wq_10, wq_88, by decide +kernel, by decide +kernel, by decide +kernel⟩ wq_90 (by decide) (by decide), mCallS_ok hX dX2_share_8 ⟨wq_78, wq_10, wq_77, by decide +kernel, by decide +kernel, by decide +kernel⟩ wq_79 (by decide) (by decide), mCallV_ok (T := TX2) (N := 8) hX dX2_share_16 rfl ⟨wq_67, wq_10, wq_66, by decide +kernel, by decide +kernel, by decide +kernel⟩ wq_68 wq_69 (by decide) (by decide), mCallV_ok (T := TX1) (N := 7) hX dX2_share_44 rfl ⟨wq_100, wq_23, wq_99, by decide +kernel, by decide +kernel, by decide +kernel⟩ wq_101 wq_102 (by decide) (by decide), mCallV_ok (T := TX1) (N := 7) hX dX2_share_65 rfl ⟨wq_118, wq_23, wq_59, by decide +kernel, by decide +kernel, by decide +kernel⟩ wq_61 wq_62 (by decide) (by decide), mCallS_ok hX dX2_share_75 ⟨wq_104, wq_10, wq_103, by decide +kernel, by decide +kernel, by decide +kernel⟩ wq_105 (by decide) (by decide)⟩) (List.forall_mem_cons.mpr ⟨dX2_share_25, List.forall_mem_cons.mpr ⟨dX2_share_53, List.forall_mem_cons.mpr ⟨dX2_share_78, fun _ h => absurd h List.not_mem_nil⟩⟩⟩) body
/-! X2 isMakingOrNone -/
def tbX2_isMakingOrNone : List (Nat × mR) := [(0, r_iload 1 1), (1, r_ic 2 (-1)), (2, r_ceq 5 13), (5, r_aload 6 0), (6, r_iload 7 1), (10, r_ifeq 13 17), (13, r_ic 14 1), (14, r_goto 18), (17, r_ic 18 0)]
theorem tkX2_isMakingOrNone : ∀ q ∈ tbX2_isMakingOrNone, mOk cX2_isMakingOrNone RX2 2 q.1 q.2 := by
  unfold tbX2_isMakingOrNone
  refine mcons (ok_iload_n dX2_isMakingOrNone_0 rfl) ?_
  refine mcons (ok_iconst dX2_isMakingOrNone_1 (by decide)) ?_
  refine mcons (ok_ceq dX2_isMakingOrNone_2 (by decide)) ?_
  refine mcons (ok_aload_n dX2_isMakingOrNone_5 rfl) ?_
  refine mcons (ok_iload_n dX2_isMakingOrNone_6 rfl) ?_
  refine mcons (ok_ifeq dX2_isMakingOrNone_10 (by decide)) ?_
  refine mcons (ok_iconst dX2_isMakingOrNone_13 (by decide)) ?_
  refine mcons (ok_goto dX2_isMakingOrNone_14 (by decide)) ?_
  refine mcons (ok_iconst dX2_isMakingOrNone_17 (by decide)) ?_
  exact mnil
abbrev KX2_isMakingOrNone (l : Launch) (D : va_G) (ca : Nat → ClassId) (ad : Nat → Nat) : List Value → mW → Option Value → mW → Prop := mC l 1 yX2_isMakingOrNone cX2_isMakingOrNone 2 (some .boolean) D ca ad
def CFX2_isMakingOrNone (l : Launch) (D : va_G) (ca : Nat → ClassId) (ad : Nat → Nat) (G : mS → Prop) : Prop := mCallV G (KX2_isMaking l D ca ad) 7 2 1
theorem PX2_isMakingOrNone {l : Launch} {D : va_G} {ca : Nat → ClassId} {ad : Nat → Nat} {av : List Value} {w : mW} {x : Int32} {w2 : mW} (hlen : (lg_sl av).length ≤ 2) (hx : x = 0 ∨ x = 1) (body : ∀ G : mS → Prop, mTb G tbX2_isMakingOrNone → CFX2_isMakingOrNone l D ca ad G → mRet G (some (.int x)) w2 [18] → G (0, lv_args 0 av, [], w)) : KX2_isMakingOrNone l D ca ad av w (some (.int x)) w2 :=
  mPackZ [18] (by decide +kernel) hlen tkX2_isMakingOrNone (fun p e s m args below meth c A Q hX => mCallV_ok (T := TX2) (N := 8) hX dX2_isMakingOrNone_7 rfl ⟨wq_67, wq_10, wq_66, by decide +kernel, by decide +kernel, by decide +kernel⟩ wq_68 wq_69 (by decide) (by decide)) (List.forall_mem_cons.mpr ⟨dX2_isMakingOrNone_18, fun _ h => absurd h List.not_mem_nil⟩) hx body
/-! X2 stepBelow -/
def tbX2_stepBelow : List (Nat × mR) := [(0, r_iload 1 1), (1, r_ic 2 (-1)), (2, r_cne 5 9), (5, r_lc 6 1), (6, r_goto 19), (9, r_aload 10 0), (10, r_getf 13 2 0), (13, r_iload 14 1), (14, r_iload 15 1), (18, r_i2l 19)]
theorem tkX2_stepBelow : ∀ q ∈ tbX2_stepBelow, mOk cX2_stepBelow RX2 2 q.1 q.2 := by
  unfold tbX2_stepBelow
  refine mcons (ok_iload_n dX2_stepBelow_0 rfl) ?_
  refine mcons (ok_iconst dX2_stepBelow_1 (by decide)) ?_
  refine mcons (ok_cne dX2_stepBelow_2 (by decide)) ?_
  refine mcons (ok_lconst dX2_stepBelow_5 (by decide)) ?_
  refine mcons (ok_goto dX2_stepBelow_6 (by decide)) ?_
  refine mcons (ok_aload_n dX2_stepBelow_9 rfl) ?_
  refine mcons (ok_getf 0 dX2_stepBelow_10 rfl mX2 (by decide) wq_65 rfl) ?_
  refine mcons (ok_iload_n dX2_stepBelow_13 rfl) ?_
  refine mcons (ok_iload_n dX2_stepBelow_14 rfl) ?_
  refine mcons (ok_i2l dX2_stepBelow_18) ?_
  exact mnil
abbrev KX2_stepBelow (l : Launch) (D : va_G) (ca : Nat → ClassId) (ad : Nat → Nat) : List Value → mW → Option Value → mW → Prop := mC l 1 yX2_stepBelow cX2_stepBelow 2 (some .long) D ca ad
def CFX2_stepBelow (l : Launch) (D : va_G) (ca : Nat → ClassId) (ad : Nat → Nat) (G : mS → Prop) : Prop := mCallV G (KX0_tableCell l D ca ad) 15 0 2
theorem PX2_stepBelow {l : Launch} {D : va_G} {ca : Nat → ClassId} {ad : Nat → Nat} {av : List Value} {w : mW} {x : Int64} {w2 : mW} (hlen : (lg_sl av).length ≤ 2) (body : ∀ G : mS → Prop, mTb G tbX2_stepBelow → CFX2_stepBelow l D ca ad G → mRet G (some (.long x)) w2 [19] → G (0, lv_args 0 av, [], w)) : KX2_stepBelow l D ca ad av w (some (.long x)) w2 :=
  mPackL [19] (by decide +kernel) hlen tkX2_stepBelow (fun p e s m args below meth c A Q hX => mCallV_ok (T := TX0) (N := 1) hX dX2_stepBelow_15 rfl ⟨wq_83, wq_1, wq_33, by decide +kernel, by decide +kernel, by decide +kernel⟩ wq_35 wq_36 (by decide) (by decide)) (List.forall_mem_cons.mpr ⟨dX2_stepBelow_19, fun _ h => absurd h List.not_mem_nil⟩) body
/-! X2 stepAbove -/
def tbX2_stepAbove : List (Nat × mR) := [(0, r_iload 1 1), (1, r_ic 2 (-1)), (2, r_ceq 5 10), (5, r_iload 6 2), (6, r_ic 7 (-1)), (7, r_cne 10 14), (10, r_lc 11 1), (11, r_goto 25), (14, r_aload 15 0), (15, r_getf 18 2 0), (18, r_iload 19 2), (19, r_iload 20 1), (23, r_ineg 24), (24, r_i2l 25)]
theorem tkX2_stepAbove : ∀ q ∈ tbX2_stepAbove, mOk cX2_stepAbove RX2 3 q.1 q.2 := by
  unfold tbX2_stepAbove
  refine mcons (ok_iload_n dX2_stepAbove_0 rfl) ?_
  refine mcons (ok_iconst dX2_stepAbove_1 (by decide)) ?_
  refine mcons (ok_ceq dX2_stepAbove_2 (by decide)) ?_
  refine mcons (ok_iload_n dX2_stepAbove_5 rfl) ?_
  refine mcons (ok_iconst dX2_stepAbove_6 (by decide)) ?_
  refine mcons (ok_cne dX2_stepAbove_7 (by decide)) ?_
  refine mcons (ok_lconst dX2_stepAbove_10 (by decide)) ?_
  refine mcons (ok_goto dX2_stepAbove_11 (by decide)) ?_
  refine mcons (ok_aload_n dX2_stepAbove_14 rfl) ?_
  refine mcons (ok_getf 0 dX2_stepAbove_15 rfl mX2 (by decide) wq_65 rfl) ?_
  refine mcons (ok_iload_n dX2_stepAbove_18 rfl) ?_
  refine mcons (ok_iload_n dX2_stepAbove_19 rfl) ?_
  refine mcons (ok_ineg dX2_stepAbove_23) ?_
  refine mcons (ok_i2l dX2_stepAbove_24) ?_
  exact mnil
abbrev KX2_stepAbove (l : Launch) (D : va_G) (ca : Nat → ClassId) (ad : Nat → Nat) : List Value → mW → Option Value → mW → Prop := mC l 1 yX2_stepAbove cX2_stepAbove 3 (some .long) D ca ad
def CFX2_stepAbove (l : Launch) (D : va_G) (ca : Nat → ClassId) (ad : Nat → Nat) (G : mS → Prop) : Prop := mCallV G (KX0_tableCell l D ca ad) 20 0 2
theorem PX2_stepAbove {l : Launch} {D : va_G} {ca : Nat → ClassId} {ad : Nat → Nat} {av : List Value} {w : mW} {x : Int64} {w2 : mW} (hlen : (lg_sl av).length ≤ 3) (body : ∀ G : mS → Prop, mTb G tbX2_stepAbove → CFX2_stepAbove l D ca ad G → mRet G (some (.long x)) w2 [25] → G (0, lv_args 0 av, [], w)) : KX2_stepAbove l D ca ad av w (some (.long x)) w2 :=
  mPackL [25] (by decide +kernel) hlen tkX2_stepAbove (fun p e s m args below meth c A Q hX => mCallV_ok (T := TX0) (N := 1) hX dX2_stepAbove_20 rfl ⟨wq_83, wq_1, wq_33, by decide +kernel, by decide +kernel, by decide +kernel⟩ wq_35 wq_36 (by decide) (by decide)) (List.forall_mem_cons.mpr ⟨dX2_stepAbove_25, fun _ h => absurd h List.not_mem_nil⟩) body
/-! X2 way -/
def tbX2_way : List (Nat × mR) := [(0, r_iload 1 1), (4, r_ifeq 7 22), (7, r_iload 8 2), (11, r_ifeq 14 22), (14, r_aload 15 0), (15, r_iload 16 3), (19, r_ifne 22 26), (22, r_lc 25 (-9000000000000000001)), (26, r_aload 27 0), (27, r_iload 29 4), (32, r_ifeq 35 44), (35, r_aload 36 0), (36, r_iload 38 5), (41, r_ifne 44 48), (44, r_lc 47 (-9000000000000000001)), (48, r_iload 50 4), (50, r_ic 51 (-1)), (51, r_cne 54 60), (54, r_iload 56 5), (56, r_ic 57 (-1)), (57, r_cne 60 79), (60, r_iload 61 3), (61, r_iload 63 4), (63, r_ceq 66 79), (66, r_iload 68 5), (68, r_ic 69 (-1)), (69, r_ceq 72 83), (72, r_iload 74 4), (74, r_iload 76 5), (76, r_cne 79 83), (79, r_lc 82 (-9000000000000000002)), (83, r_aload 84 0), (84, r_getf 87 2 0), (87, r_iload 88 3), (88, r_iload 89 3), (92, r_i2l 93), (93, r_aload 94 0), (94, r_iload 96 4), (99, r_ll 100 (fun x y => x * y)), (100, r_aload 101 0), (101, r_iload 103 5), (106, r_ll 107 (fun x y => x * y)), (107, r_lstore 109 6), (109, r_lload 111 6), (111, r_lc 112 0), (112, r_lcmp 113), (113, r_ifne 116 120), (116, r_lc 119 (-9000000000000000004)), (120, r_iload 122 5), (122, r_ic 123 (-1)), (123, r_ceq 126 131), (126, r_iload 128 5), (128, r_goto 143), (131, r_iload 133 4), (133, r_ic 134 (-1)), (134, r_ceq 137 142), (137, r_iload 139 4), (139, r_goto 143), (142, r_iload 143 3), (143, r_istore 145 8), (145, r_aload 146 0), (146, r_getf 149 2 4), (149, r_iload 150 1), (150, r_aald 151), (151, r_iload 152 3), (152, r_iald 153), (153, r_i2l 154), (154, r_aload 155 0), (155, r_iload 156 3), (156, r_iload 158 4), (161, r_ll 162 (fun x y => x * y)), (162, r_aload 163 0), (163, r_iload 165 4), (165, r_iload 167 5), (170, r_ll 171 (fun x y => x * y)), (171, r_lstore 173 9), (173, r_lload 175 9), (175, r_aload 176 0), (176, r_getf 179 2 0), (179, r_iload 181 8), (181, r_iload 182 2), (182, r_ic 183 1), (186, r_ll 187 (fun x y => x * y)), (187, r_lload 189 6)]
theorem tkX2_way : ∀ q ∈ tbX2_way, mOk cX2_way RX2 11 q.1 q.2 := by
  unfold tbX2_way
  refine mcons (ok_iload_n dX2_way_0 rfl) ?_
  refine mcons (ok_ifeq dX2_way_4 (by decide)) ?_
  refine mcons (ok_iload_n dX2_way_7 rfl) ?_
  refine mcons (ok_ifeq dX2_way_11 (by decide)) ?_
  refine mcons (ok_aload_n dX2_way_14 rfl) ?_
  refine mcons (ok_iload_n dX2_way_15 rfl) ?_
  refine mcons (ok_ifne dX2_way_19 (by decide)) ?_
  refine mcons (ok_ldc2 dX2_way_22 wq_96) ?_
  refine mcons (ok_aload_n dX2_way_26 rfl) ?_
  refine mcons (ok_iload dX2_way_27) ?_
  refine mcons (ok_ifeq dX2_way_32 (by decide)) ?_
  refine mcons (ok_aload_n dX2_way_35 rfl) ?_
  refine mcons (ok_iload dX2_way_36) ?_
  refine mcons (ok_ifne dX2_way_41 (by decide)) ?_
  refine mcons (ok_ldc2 dX2_way_44 wq_96) ?_
  refine mcons (ok_iload dX2_way_48) ?_
  refine mcons (ok_iconst dX2_way_50 (by decide)) ?_
  refine mcons (ok_cne dX2_way_51 (by decide)) ?_
  refine mcons (ok_iload dX2_way_54) ?_
  refine mcons (ok_iconst dX2_way_56 (by decide)) ?_
  refine mcons (ok_cne dX2_way_57 (by decide)) ?_
  refine mcons (ok_iload_n dX2_way_60 rfl) ?_
  refine mcons (ok_iload dX2_way_61) ?_
  refine mcons (ok_ceq dX2_way_63 (by decide)) ?_
  refine mcons (ok_iload dX2_way_66) ?_
  refine mcons (ok_iconst dX2_way_68 (by decide)) ?_
  refine mcons (ok_ceq dX2_way_69 (by decide)) ?_
  refine mcons (ok_iload dX2_way_72) ?_
  refine mcons (ok_iload dX2_way_74) ?_
  refine mcons (ok_cne dX2_way_76 (by decide)) ?_
  refine mcons (ok_ldc2 dX2_way_79 wq_110) ?_
  refine mcons (ok_aload_n dX2_way_83 rfl) ?_
  refine mcons (ok_getf 0 dX2_way_84 rfl mX2 (by decide) wq_65 rfl) ?_
  refine mcons (ok_iload_n dX2_way_87 rfl) ?_
  refine mcons (ok_iload_n dX2_way_88 rfl) ?_
  refine mcons (ok_i2l dX2_way_92) ?_
  refine mcons (ok_aload_n dX2_way_93 rfl) ?_
  refine mcons (ok_iload dX2_way_94) ?_
  refine mcons (ok_lmul dX2_way_99) ?_
  refine mcons (ok_aload_n dX2_way_100 rfl) ?_
  refine mcons (ok_iload dX2_way_101) ?_
  refine mcons (ok_lmul dX2_way_106) ?_
  refine mcons (ok_lstore dX2_way_107 (by decide)) ?_
  refine mcons (ok_lload dX2_way_109) ?_
  refine mcons (ok_lconst dX2_way_111 (by decide)) ?_
  refine mcons (ok_lcmp dX2_way_112) ?_
  refine mcons (ok_ifne dX2_way_113 (by decide)) ?_
  refine mcons (ok_ldc2 dX2_way_116 wq_91) ?_
  refine mcons (ok_iload dX2_way_120) ?_
  refine mcons (ok_iconst dX2_way_122 (by decide)) ?_
  refine mcons (ok_ceq dX2_way_123 (by decide)) ?_
  refine mcons (ok_iload dX2_way_126) ?_
  refine mcons (ok_goto dX2_way_128 (by decide)) ?_
  refine mcons (ok_iload dX2_way_131) ?_
  refine mcons (ok_iconst dX2_way_133 (by decide)) ?_
  refine mcons (ok_ceq dX2_way_134 (by decide)) ?_
  refine mcons (ok_iload dX2_way_137) ?_
  refine mcons (ok_goto dX2_way_139 (by decide)) ?_
  refine mcons (ok_iload_n dX2_way_142 rfl) ?_
  refine mcons (ok_istore dX2_way_143 (by decide)) ?_
  refine mcons (ok_aload_n dX2_way_145 rfl) ?_
  refine mcons (ok_getf 4 dX2_way_146 rfl mX2 (by decide) wq_87 rfl) ?_
  refine mcons (ok_iload_n dX2_way_149 rfl) ?_
  refine mcons (ok_aald dX2_way_150) ?_
  refine mcons (ok_iload_n dX2_way_151 rfl) ?_
  refine mcons (ok_iald dX2_way_152) ?_
  refine mcons (ok_i2l dX2_way_153) ?_
  refine mcons (ok_aload_n dX2_way_154 rfl) ?_
  refine mcons (ok_iload_n dX2_way_155 rfl) ?_
  refine mcons (ok_iload dX2_way_156) ?_
  refine mcons (ok_lmul dX2_way_161) ?_
  refine mcons (ok_aload_n dX2_way_162 rfl) ?_
  refine mcons (ok_iload dX2_way_163) ?_
  refine mcons (ok_iload dX2_way_165) ?_
  refine mcons (ok_lmul dX2_way_170) ?_
  refine mcons (ok_lstore dX2_way_171 (by decide)) ?_
  refine mcons (ok_lload dX2_way_173) ?_
  refine mcons (ok_aload_n dX2_way_175 rfl) ?_
  refine mcons (ok_getf 0 dX2_way_176 rfl mX2 (by decide) wq_65 rfl) ?_
  refine mcons (ok_iload dX2_way_179) ?_
  refine mcons (ok_iload_n dX2_way_181 rfl) ?_
  refine mcons (ok_iconst dX2_way_182 (by decide)) ?_
  refine mcons (ok_lmul dX2_way_186) ?_
  refine mcons (ok_lload dX2_way_187) ?_
  exact mnil
abbrev KX2_way (l : Launch) (D : va_G) (ca : Nat → ClassId) (ad : Nat → Nat) : List Value → mW → Option Value → mW → Prop := mC l 2 yX2_way cX2_way 11 (some .long) D ca ad
def CFX2_way (l : Launch) (D : va_G) (ca : Nat → ClassId) (ad : Nat → Nat) (G : mS → Prop) : Prop := mCallS G (KX2_isBasket l D ca ad) 1 1 ∧ mCallS G (KX2_isStuff l D ca ad) 8 1 ∧ mCallV G (KX2_isMaking l D ca ad) 16 2 1 ∧ mCallV G (KX2_isMakingOrNone l D ca ad) 29 2 1 ∧ mCallV G (KX2_isMakingOrNone l D ca ad) 38 2 1 ∧ mCallV G (KX0_tableCell l D ca ad) 89 0 2 ∧ mCallV G (KX2_stepBelow l D ca ad) 96 2 1 ∧ mCallV G (KX2_stepBelow l D ca ad) 103 2 1 ∧ mCallV G (KX2_stepAbove l D ca ad) 158 2 2 ∧ mCallV G (KX2_stepAbove l D ca ad) 167 2 2 ∧ mCallV G (KX0_emission l D ca ad) 183 0 3 ∧ mCallS G (KX2_thousandths l D ca ad) 189 2
theorem PX2_way {l : Launch} {D : va_G} {ca : Nat → ClassId} {ad : Nat → Nat} {av : List Value} {w : mW} {x : Int64} {w2 : mW} (hlen : (lg_sl av).length ≤ 11) (body : ∀ G : mS → Prop, mTb G tbX2_way → CFX2_way l D ca ad G → mRet G (some (.long x)) w2 [25, 47, 82, 119, 192] → G (0, lv_args 0 av, [], w)) : KX2_way l D ca ad av w (some (.long x)) w2 :=
  mPackL [25, 47, 82, 119, 192] (by decide +kernel) hlen tkX2_way (fun p e s m args below meth c A Q hX => ⟨mCallS_ok hX dX2_way_1 ⟨wq_89, wq_10, wq_88, by decide +kernel, by decide +kernel, by decide +kernel⟩ wq_90 (by decide) (by decide), mCallS_ok hX dX2_way_8 ⟨wq_78, wq_10, wq_77, by decide +kernel, by decide +kernel, by decide +kernel⟩ wq_79 (by decide) (by decide), mCallV_ok (T := TX2) (N := 8) hX dX2_way_16 rfl ⟨wq_67, wq_10, wq_66, by decide +kernel, by decide +kernel, by decide +kernel⟩ wq_68 wq_69 (by decide) (by decide), mCallV_ok (T := TX2) (N := 8) hX dX2_way_29 rfl ⟨wq_120, wq_10, wq_119, by decide +kernel, by decide +kernel, by decide +kernel⟩ wq_121 wq_122 (by decide) (by decide), mCallV_ok (T := TX2) (N := 8) hX dX2_way_38 rfl ⟨wq_120, wq_10, wq_119, by decide +kernel, by decide +kernel, by decide +kernel⟩ wq_121 wq_122 (by decide) (by decide), mCallV_ok (T := TX0) (N := 1) hX dX2_way_89 rfl ⟨wq_83, wq_1, wq_33, by decide +kernel, by decide +kernel, by decide +kernel⟩ wq_35 wq_36 (by decide) (by decide), mCallV_ok (T := TX2) (N := 8) hX dX2_way_96 rfl ⟨wq_124, wq_10, wq_123, by decide +kernel, by decide +kernel, by decide +kernel⟩ wq_125 wq_126 (by decide) (by decide), mCallV_ok (T := TX2) (N := 8) hX dX2_way_103 rfl ⟨wq_124, wq_10, wq_123, by decide +kernel, by decide +kernel, by decide +kernel⟩ wq_125 wq_126 (by decide) (by decide), mCallV_ok (T := TX2) (N := 8) hX dX2_way_158 rfl ⟨wq_128, wq_10, wq_127, by decide +kernel, by decide +kernel, by decide +kernel⟩ wq_129 wq_130 (by decide) (by decide), mCallV_ok (T := TX2) (N := 8) hX dX2_way_167 rfl ⟨wq_128, wq_10, wq_127, by decide +kernel, by decide +kernel, by decide +kernel⟩ wq_129 wq_130 (by decide) (by decide), mCallV_ok (T := TX0) (N := 1) hX dX2_way_183 rfl ⟨wq_131, wq_1, wq_55, by decide +kernel, by decide +kernel, by decide +kernel⟩ wq_57 wq_58 (by decide) (by decide), mCallS_ok hX dX2_way_189 ⟨wq_104, wq_10, wq_103, by decide +kernel, by decide +kernel, by decide +kernel⟩ wq_105 (by decide) (by decide)⟩) (List.forall_mem_cons.mpr ⟨dX2_way_25, List.forall_mem_cons.mpr ⟨dX2_way_47, List.forall_mem_cons.mpr ⟨dX2_way_82, List.forall_mem_cons.mpr ⟨dX2_way_119, List.forall_mem_cons.mpr ⟨dX2_way_192, fun _ h => absurd h List.not_mem_nil⟩⟩⟩⟩⟩) body
/-! X2 sure -/
def tbX2_sure : List (Nat × mR) := [(0, r_iload 1 1), (4, r_ifeq 7 21), (7, r_iload 8 2), (11, r_ifeq 14 21), (14, r_iload 15 3), (18, r_ifne 21 24), (21, r_ic 23 (-101)), (24, r_ic 25 0), (25, r_istore 27 4), (27, r_iload 29 4), (29, r_ic 30 4), (30, r_cge 33 65), (33, r_aload 34 0), (34, r_getf 37 2 5), (37, r_iload 39 4), (39, r_aload 40 0), (40, r_getf 43 2 4), (43, r_iload 44 1), (44, r_aald 45), (45, r_iload 47 4), (47, r_iald 48), (48, r_aload 49 0), (49, r_getf 52 2 4), (52, r_iload 53 2), (53, r_aald 54), (54, r_iload 56 4), (56, r_iald 57), (57, r_ii 58 (fun x y => x - y)), (58, r_iast 59), (59, r_iinc 62 4 1), (62, r_goto 27), (65, r_aload 66 0), (66, r_getf 69 2 3), (69, r_aload 70 0), (70, r_getf 73 2 0), (73, r_aload 74 0), (74, r_getf 77 2 6), (77, r_aload 78 0), (78, r_getf 81 2 5), (84, r_ifne 87 90), (87, r_ic 89 (-104)), (90, r_aload 91 0), (91, r_getf 94 2 3), (94, r_aload 95 0), (95, r_getf 98 2 0), (98, r_iload 99 3), (99, r_ic 100 2), (103, r_lc 104 0), (104, r_lcmp 105), (105, r_ifgt 108 112), (108, r_ic 109 1), (109, r_goto 113), (112, r_ic 113 0)]
theorem tkX2_sure : ∀ q ∈ tbX2_sure, mOk cX2_sure RX2 5 q.1 q.2 := by
  unfold tbX2_sure
  refine mcons (ok_iload_n dX2_sure_0 rfl) ?_
  refine mcons (ok_ifeq dX2_sure_4 (by decide)) ?_
  refine mcons (ok_iload_n dX2_sure_7 rfl) ?_
  refine mcons (ok_ifeq dX2_sure_11 (by decide)) ?_
  refine mcons (ok_iload_n dX2_sure_14 rfl) ?_
  refine mcons (ok_ifne dX2_sure_18 (by decide)) ?_
  refine mcons (ok_bipush dX2_sure_21 (by decide)) ?_
  refine mcons (ok_iconst dX2_sure_24 (by decide)) ?_
  refine mcons (ok_istore dX2_sure_25 (by decide)) ?_
  refine mcons (ok_iload dX2_sure_27) ?_
  refine mcons (ok_iconst dX2_sure_29 (by decide)) ?_
  refine mcons (ok_cge dX2_sure_30 (by decide)) ?_
  refine mcons (ok_aload_n dX2_sure_33 rfl) ?_
  refine mcons (ok_getf 5 dX2_sure_34 rfl mX2 (by decide) wq_132 rfl) ?_
  refine mcons (ok_iload dX2_sure_37) ?_
  refine mcons (ok_aload_n dX2_sure_39 rfl) ?_
  refine mcons (ok_getf 4 dX2_sure_40 rfl mX2 (by decide) wq_87 rfl) ?_
  refine mcons (ok_iload_n dX2_sure_43 rfl) ?_
  refine mcons (ok_aald dX2_sure_44) ?_
  refine mcons (ok_iload dX2_sure_45) ?_
  refine mcons (ok_iald dX2_sure_47) ?_
  refine mcons (ok_aload_n dX2_sure_48 rfl) ?_
  refine mcons (ok_getf 4 dX2_sure_49 rfl mX2 (by decide) wq_87 rfl) ?_
  refine mcons (ok_iload_n dX2_sure_52 rfl) ?_
  refine mcons (ok_aald dX2_sure_53) ?_
  refine mcons (ok_iload dX2_sure_54) ?_
  refine mcons (ok_iald dX2_sure_56) ?_
  refine mcons (ok_isub dX2_sure_57) ?_
  refine mcons (ok_iast dX2_sure_58) ?_
  refine mcons (ok_iinc dX2_sure_59 (by decide) (by decide)) ?_
  refine mcons (ok_goto dX2_sure_62 (by decide)) ?_
  refine mcons (ok_aload_n dX2_sure_65 rfl) ?_
  refine mcons (ok_getf 3 dX2_sure_66 rfl mX2 (by decide) wq_84 rfl) ?_
  refine mcons (ok_aload_n dX2_sure_69 rfl) ?_
  refine mcons (ok_getf 0 dX2_sure_70 rfl mX2 (by decide) wq_65 rfl) ?_
  refine mcons (ok_aload_n dX2_sure_73 rfl) ?_
  refine mcons (ok_getf 6 dX2_sure_74 rfl mX2 (by decide) wq_64 rfl) ?_
  refine mcons (ok_aload_n dX2_sure_77 rfl) ?_
  refine mcons (ok_getf 5 dX2_sure_78 rfl mX2 (by decide) wq_132 rfl) ?_
  refine mcons (ok_ifne dX2_sure_84 (by decide)) ?_
  refine mcons (ok_bipush dX2_sure_87 (by decide)) ?_
  refine mcons (ok_aload_n dX2_sure_90 rfl) ?_
  refine mcons (ok_getf 3 dX2_sure_91 rfl mX2 (by decide) wq_84 rfl) ?_
  refine mcons (ok_aload_n dX2_sure_94 rfl) ?_
  refine mcons (ok_getf 0 dX2_sure_95 rfl mX2 (by decide) wq_65 rfl) ?_
  refine mcons (ok_iload_n dX2_sure_98 rfl) ?_
  refine mcons (ok_iconst dX2_sure_99 (by decide)) ?_
  refine mcons (ok_lconst dX2_sure_103 (by decide)) ?_
  refine mcons (ok_lcmp dX2_sure_104) ?_
  refine mcons (ok_ifgt dX2_sure_105 (by decide)) ?_
  refine mcons (ok_iconst dX2_sure_108 (by decide)) ?_
  refine mcons (ok_goto dX2_sure_109 (by decide)) ?_
  refine mcons (ok_iconst dX2_sure_112 (by decide)) ?_
  exact mnil
abbrev KX2_sure (l : Launch) (D : va_G) (ca : Nat → ClassId) (ad : Nat → Nat) : List Value → mW → Option Value → mW → Prop := mC l 5 yX2_sure cX2_sure 5 (some .int) D ca ad
def CFX2_sure (l : Launch) (D : va_G) (ca : Nat → ClassId) (ad : Nat → Nat) (G : mS → Prop) : Prop := mCallS G (KX2_isBasket l D ca ad) 1 1 ∧ mCallS G (KX2_isBasket l D ca ad) 8 1 ∧ mCallS G (KX2_isStuff l D ca ad) 15 1 ∧ mCallV G (KX1_solve l D ca ad) 81 1 3 ∧ mCallV G (KX1_sumOfEmissions l D ca ad) 100 1 3
theorem PX2_sure {l : Launch} {D : va_G} {ca : Nat → ClassId} {ad : Nat → Nat} {av : List Value} {w : mW} {x : Int32} {w2 : mW} (hlen : (lg_sl av).length ≤ 5) (body : ∀ G : mS → Prop, mTb G tbX2_sure → CFX2_sure l D ca ad G → mRet G (some (.int x)) w2 [23, 89, 113] → G (0, lv_args 0 av, [], w)) : KX2_sure l D ca ad av w (some (.int x)) w2 :=
  mPackI [23, 89, 113] (by decide +kernel) hlen tkX2_sure (fun p e s m args below meth c A Q hX => ⟨mCallS_ok hX dX2_sure_1 ⟨wq_89, wq_10, wq_88, by decide +kernel, by decide +kernel, by decide +kernel⟩ wq_90 (by decide) (by decide), mCallS_ok hX dX2_sure_8 ⟨wq_89, wq_10, wq_88, by decide +kernel, by decide +kernel, by decide +kernel⟩ wq_90 (by decide) (by decide), mCallS_ok hX dX2_sure_15 ⟨wq_78, wq_10, wq_77, by decide +kernel, by decide +kernel, by decide +kernel⟩ wq_79 (by decide) (by decide), mCallV_ok (T := TX1) (N := 7) hX dX2_sure_81 rfl ⟨wq_100, wq_23, wq_99, by decide +kernel, by decide +kernel, by decide +kernel⟩ wq_101 wq_102 (by decide) (by decide), mCallV_ok (T := TX1) (N := 7) hX dX2_sure_100 rfl ⟨wq_112, wq_23, wq_111, by decide +kernel, by decide +kernel, by decide +kernel⟩ wq_113 wq_114 (by decide) (by decide)⟩) (List.forall_mem_cons.mpr ⟨dX2_sure_23, List.forall_mem_cons.mpr ⟨dX2_sure_89, List.forall_mem_cons.mpr ⟨dX2_sure_113, fun _ h => absurd h List.not_mem_nil⟩⟩⟩) body
/-! X2 most -/
def tbX2_most : List (Nat × mR) := [(0, r_iload 1 1), (4, r_ifeq 7 14), (7, r_iload 8 2), (11, r_ifne 14 17), (14, r_ic 16 (-101)), (17, r_aload 18 0), (18, r_getf 21 2 3), (21, r_aload 22 0), (22, r_getf 25 2 0), (25, r_aload 26 0), (26, r_getf 29 2 6), (29, r_aload 30 0), (30, r_getf 33 2 4), (33, r_iload 34 1), (34, r_aald 35), (38, r_ifne 41 44), (41, r_ic 43 (-104)), (44, r_ic 45 (-1)), (45, r_istore 46 3), (46, r_lc 47 0), (47, r_lstore 49 4), (49, r_ic 50 0), (50, r_istore 52 6), (52, r_iload 54 6), (54, r_aload 55 0), (55, r_getf 58 2 6), (58, r_cge 61 104), (61, r_aload 62 0), (62, r_getf 65 2 3), (65, r_aload 66 0), (66, r_getf 69 2 0), (69, r_iload 70 2), (70, r_iload 72 6), (72, r_ic 73 1), (76, r_lstore 78 7), (78, r_iload 79 3), (79, r_ic 80 (-1)), (80, r_ceq 83 91), (83, r_lload 85 7), (85, r_lload 87 4), (87, r_lcmp 88), (88, r_ifle 91 98), (91, r_iload 93 6), (93, r_istore 94 3), (94, r_lload 96 7), (96, r_lstore 98 4), (98, r_iinc 101 6 1), (101, r_goto 52), (104, r_iload 105 3)]
theorem tkX2_most : ∀ q ∈ tbX2_most, mOk cX2_most RX2 9 q.1 q.2 := by
  unfold tbX2_most
  refine mcons (ok_iload_n dX2_most_0 rfl) ?_
  refine mcons (ok_ifeq dX2_most_4 (by decide)) ?_
  refine mcons (ok_iload_n dX2_most_7 rfl) ?_
  refine mcons (ok_ifne dX2_most_11 (by decide)) ?_
  refine mcons (ok_bipush dX2_most_14 (by decide)) ?_
  refine mcons (ok_aload_n dX2_most_17 rfl) ?_
  refine mcons (ok_getf 3 dX2_most_18 rfl mX2 (by decide) wq_84 rfl) ?_
  refine mcons (ok_aload_n dX2_most_21 rfl) ?_
  refine mcons (ok_getf 0 dX2_most_22 rfl mX2 (by decide) wq_65 rfl) ?_
  refine mcons (ok_aload_n dX2_most_25 rfl) ?_
  refine mcons (ok_getf 6 dX2_most_26 rfl mX2 (by decide) wq_64 rfl) ?_
  refine mcons (ok_aload_n dX2_most_29 rfl) ?_
  refine mcons (ok_getf 4 dX2_most_30 rfl mX2 (by decide) wq_87 rfl) ?_
  refine mcons (ok_iload_n dX2_most_33 rfl) ?_
  refine mcons (ok_aald dX2_most_34) ?_
  refine mcons (ok_ifne dX2_most_38 (by decide)) ?_
  refine mcons (ok_bipush dX2_most_41 (by decide)) ?_
  refine mcons (ok_iconst dX2_most_44 (by decide)) ?_
  refine mcons (ok_istore_n dX2_most_45 rfl (by decide)) ?_
  refine mcons (ok_lconst dX2_most_46 (by decide)) ?_
  refine mcons (ok_lstore dX2_most_47 (by decide)) ?_
  refine mcons (ok_iconst dX2_most_49 (by decide)) ?_
  refine mcons (ok_istore dX2_most_50 (by decide)) ?_
  refine mcons (ok_iload dX2_most_52) ?_
  refine mcons (ok_aload_n dX2_most_54 rfl) ?_
  refine mcons (ok_getf 6 dX2_most_55 rfl mX2 (by decide) wq_64 rfl) ?_
  refine mcons (ok_cge dX2_most_58 (by decide)) ?_
  refine mcons (ok_aload_n dX2_most_61 rfl) ?_
  refine mcons (ok_getf 3 dX2_most_62 rfl mX2 (by decide) wq_84 rfl) ?_
  refine mcons (ok_aload_n dX2_most_65 rfl) ?_
  refine mcons (ok_getf 0 dX2_most_66 rfl mX2 (by decide) wq_65 rfl) ?_
  refine mcons (ok_iload_n dX2_most_69 rfl) ?_
  refine mcons (ok_iload dX2_most_70) ?_
  refine mcons (ok_iconst dX2_most_72 (by decide)) ?_
  refine mcons (ok_lstore dX2_most_76 (by decide)) ?_
  refine mcons (ok_iload_n dX2_most_78 rfl) ?_
  refine mcons (ok_iconst dX2_most_79 (by decide)) ?_
  refine mcons (ok_ceq dX2_most_80 (by decide)) ?_
  refine mcons (ok_lload dX2_most_83) ?_
  refine mcons (ok_lload dX2_most_85) ?_
  refine mcons (ok_lcmp dX2_most_87) ?_
  refine mcons (ok_ifle dX2_most_88 (by decide)) ?_
  refine mcons (ok_iload dX2_most_91) ?_
  refine mcons (ok_istore_n dX2_most_93 rfl (by decide)) ?_
  refine mcons (ok_lload dX2_most_94) ?_
  refine mcons (ok_lstore dX2_most_96 (by decide)) ?_
  refine mcons (ok_iinc dX2_most_98 (by decide) (by decide)) ?_
  refine mcons (ok_goto dX2_most_101 (by decide)) ?_
  refine mcons (ok_iload_n dX2_most_104 rfl) ?_
  exact mnil
abbrev KX2_most (l : Launch) (D : va_G) (ca : Nat → ClassId) (ad : Nat → Nat) : List Value → mW → Option Value → mW → Prop := mC l 5 yX2_most cX2_most 9 (some .int) D ca ad
def CFX2_most (l : Launch) (D : va_G) (ca : Nat → ClassId) (ad : Nat → Nat) (G : mS → Prop) : Prop := mCallS G (KX2_isBasket l D ca ad) 1 1 ∧ mCallS G (KX2_isStuff l D ca ad) 8 1 ∧ mCallV G (KX1_solve l D ca ad) 35 1 3 ∧ mCallV G (KX1_brought l D ca ad) 73 1 4
theorem PX2_most {l : Launch} {D : va_G} {ca : Nat → ClassId} {ad : Nat → Nat} {av : List Value} {w : mW} {x : Int32} {w2 : mW} (hlen : (lg_sl av).length ≤ 9) (body : ∀ G : mS → Prop, mTb G tbX2_most → CFX2_most l D ca ad G → mRet G (some (.int x)) w2 [16, 43, 105] → G (0, lv_args 0 av, [], w)) : KX2_most l D ca ad av w (some (.int x)) w2 :=
  mPackI [16, 43, 105] (by decide +kernel) hlen tkX2_most (fun p e s m args below meth c A Q hX => ⟨mCallS_ok hX dX2_most_1 ⟨wq_89, wq_10, wq_88, by decide +kernel, by decide +kernel, by decide +kernel⟩ wq_90 (by decide) (by decide), mCallS_ok hX dX2_most_8 ⟨wq_78, wq_10, wq_77, by decide +kernel, by decide +kernel, by decide +kernel⟩ wq_79 (by decide) (by decide), mCallV_ok (T := TX1) (N := 7) hX dX2_most_35 rfl ⟨wq_100, wq_23, wq_99, by decide +kernel, by decide +kernel, by decide +kernel⟩ wq_101 wq_102 (by decide) (by decide), mCallV_ok (T := TX1) (N := 7) hX dX2_most_73 rfl ⟨wq_118, wq_23, wq_59, by decide +kernel, by decide +kernel, by decide +kernel⟩ wq_61 wq_62 (by decide) (by decide)⟩) (List.forall_mem_cons.mpr ⟨dX2_most_16, List.forall_mem_cons.mpr ⟨dX2_most_43, List.forall_mem_cons.mpr ⟨dX2_most_105, fun _ h => absurd h List.not_mem_nil⟩⟩⟩) body
/-! X2 turned -/
def tbX2_turned : List (Nat × mR) := [(0, r_iload 1 1), (4, r_ifne 7 10), (7, r_ic 9 (-101)), (10, r_aload 11 0), (11, r_getf 14 2 3), (14, r_aload 15 0), (15, r_getf 18 2 0), (18, r_aload 19 0), (19, r_getf 22 2 6), (22, r_aload 23 0), (23, r_getf 26 2 4), (26, r_iload 27 1), (27, r_aald 28), (31, r_ifne 34 37), (34, r_ic 36 (-104)), (37, r_ic 38 0), (38, r_istore 39 2), (39, r_iload 40 2), (40, r_aload 41 0), (41, r_getf 44 2 6), (44, r_cge 47 69), (47, r_aload 48 0), (48, r_getf 51 2 3), (51, r_getf 54 1 0), (54, r_iload 55 2), (55, r_lald 56), (56, r_lc 57 0), (57, r_lcmp 58), (58, r_ifge 61 63), (61, r_iload 62 2), (63, r_iinc 66 2 1), (66, r_goto 39), (69, r_ic 70 (-1))]
theorem tkX2_turned : ∀ q ∈ tbX2_turned, mOk cX2_turned RX2 3 q.1 q.2 := by
  unfold tbX2_turned
  refine mcons (ok_iload_n dX2_turned_0 rfl) ?_
  refine mcons (ok_ifne dX2_turned_4 (by decide)) ?_
  refine mcons (ok_bipush dX2_turned_7 (by decide)) ?_
  refine mcons (ok_aload_n dX2_turned_10 rfl) ?_
  refine mcons (ok_getf 3 dX2_turned_11 rfl mX2 (by decide) wq_84 rfl) ?_
  refine mcons (ok_aload_n dX2_turned_14 rfl) ?_
  refine mcons (ok_getf 0 dX2_turned_15 rfl mX2 (by decide) wq_65 rfl) ?_
  refine mcons (ok_aload_n dX2_turned_18 rfl) ?_
  refine mcons (ok_getf 6 dX2_turned_19 rfl mX2 (by decide) wq_64 rfl) ?_
  refine mcons (ok_aload_n dX2_turned_22 rfl) ?_
  refine mcons (ok_getf 4 dX2_turned_23 rfl mX2 (by decide) wq_87 rfl) ?_
  refine mcons (ok_iload_n dX2_turned_26 rfl) ?_
  refine mcons (ok_aald dX2_turned_27) ?_
  refine mcons (ok_ifne dX2_turned_31 (by decide)) ?_
  refine mcons (ok_bipush dX2_turned_34 (by decide)) ?_
  refine mcons (ok_iconst dX2_turned_37 (by decide)) ?_
  refine mcons (ok_istore_n dX2_turned_38 rfl (by decide)) ?_
  refine mcons (ok_iload_n dX2_turned_39 rfl) ?_
  refine mcons (ok_aload_n dX2_turned_40 rfl) ?_
  refine mcons (ok_getf 6 dX2_turned_41 rfl mX2 (by decide) wq_64 rfl) ?_
  refine mcons (ok_cge dX2_turned_44 (by decide)) ?_
  refine mcons (ok_aload_n dX2_turned_47 rfl) ?_
  refine mcons (ok_getf 3 dX2_turned_48 rfl mX2 (by decide) wq_84 rfl) ?_
  refine mcons (ok_getf 0 dX2_turned_51 rfl mX1 (by decide) wq_97 rfl) ?_
  refine mcons (ok_iload_n dX2_turned_54 rfl) ?_
  refine mcons (ok_lald dX2_turned_55) ?_
  refine mcons (ok_lconst dX2_turned_56 (by decide)) ?_
  refine mcons (ok_lcmp dX2_turned_57) ?_
  refine mcons (ok_ifge dX2_turned_58 (by decide)) ?_
  refine mcons (ok_iload_n dX2_turned_61 rfl) ?_
  refine mcons (ok_iinc dX2_turned_63 (by decide) (by decide)) ?_
  refine mcons (ok_goto dX2_turned_66 (by decide)) ?_
  refine mcons (ok_iconst dX2_turned_69 (by decide)) ?_
  exact mnil
abbrev KX2_turned (l : Launch) (D : va_G) (ca : Nat → ClassId) (ad : Nat → Nat) : List Value → mW → Option Value → mW → Prop := mC l 5 yX2_turned cX2_turned 3 (some .int) D ca ad
def CFX2_turned (l : Launch) (D : va_G) (ca : Nat → ClassId) (ad : Nat → Nat) (G : mS → Prop) : Prop := mCallS G (KX2_isBasket l D ca ad) 1 1 ∧ mCallV G (KX1_solve l D ca ad) 28 1 3
theorem PX2_turned {l : Launch} {D : va_G} {ca : Nat → ClassId} {ad : Nat → Nat} {av : List Value} {w : mW} {x : Int32} {w2 : mW} (hlen : (lg_sl av).length ≤ 3) (body : ∀ G : mS → Prop, mTb G tbX2_turned → CFX2_turned l D ca ad G → mRet G (some (.int x)) w2 [9, 36, 62, 70] → G (0, lv_args 0 av, [], w)) : KX2_turned l D ca ad av w (some (.int x)) w2 :=
  mPackI [9, 36, 62, 70] (by decide +kernel) hlen tkX2_turned (fun p e s m args below meth c A Q hX => ⟨mCallS_ok hX dX2_turned_1 ⟨wq_89, wq_10, wq_88, by decide +kernel, by decide +kernel, by decide +kernel⟩ wq_90 (by decide) (by decide), mCallV_ok (T := TX1) (N := 7) hX dX2_turned_28 rfl ⟨wq_100, wq_23, wq_99, by decide +kernel, by decide +kernel, by decide +kernel⟩ wq_101 wq_102 (by decide) (by decide)⟩) (List.forall_mem_cons.mpr ⟨dX2_turned_9, List.forall_mem_cons.mpr ⟨dX2_turned_36, List.forall_mem_cons.mpr ⟨dX2_turned_62, List.forall_mem_cons.mpr ⟨dX2_turned_70, fun _ h => absurd h List.not_mem_nil⟩⟩⟩⟩) body
/-! X2 keep -/
def tbX2_keep : List (Nat × mR) := [(0, r_aload 1 0), (1, r_getf 4 2 7), (4, r_ic 6 6), (6, r_clt 9 12), (9, r_ic 11 (-105)), (12, r_aload 13 0), (13, r_getf 16 2 2), (16, r_aload 17 0), (17, r_getf 20 2 7), (20, r_aald 21), (21, r_aload 22 0), (22, r_getf 25 2 0), (25, r_ic 26 0), (26, r_ic 27 4), (30, r_aload 31 0), (31, r_dup 32), (32, r_getf 35 2 7), (35, r_ic 36 1), (36, r_ii 37 (fun x y => x + y)), (37, r_puti 40 2 7), (40, r_aload 41 0), (41, r_getf 44 2 7), (44, r_ic 45 1), (45, r_ii 46 (fun x y => x - y))]
theorem tkX2_keep : ∀ q ∈ tbX2_keep, mOk cX2_keep RX2 1 q.1 q.2 := by
  unfold tbX2_keep
  refine mcons (ok_aload_n dX2_keep_0 rfl) ?_
  refine mcons (ok_getf 7 dX2_keep_1 rfl mX2 (by decide) wq_63 rfl) ?_
  refine mcons (ok_bipush dX2_keep_4 (by decide)) ?_
  refine mcons (ok_clt dX2_keep_6 (by decide)) ?_
  refine mcons (ok_bipush dX2_keep_9 (by decide)) ?_
  refine mcons (ok_aload_n dX2_keep_12 rfl) ?_
  refine mcons (ok_getf 2 dX2_keep_13 rfl mX2 (by decide) wq_133 rfl) ?_
  refine mcons (ok_aload_n dX2_keep_16 rfl) ?_
  refine mcons (ok_getf 7 dX2_keep_17 rfl mX2 (by decide) wq_63 rfl) ?_
  refine mcons (ok_aald dX2_keep_20) ?_
  refine mcons (ok_aload_n dX2_keep_21 rfl) ?_
  refine mcons (ok_getf 0 dX2_keep_22 rfl mX2 (by decide) wq_65 rfl) ?_
  refine mcons (ok_iconst dX2_keep_25 (by decide)) ?_
  refine mcons (ok_iconst dX2_keep_26 (by decide)) ?_
  refine mcons (ok_aload_n dX2_keep_30 rfl) ?_
  refine mcons (ok_dup dX2_keep_31) ?_
  refine mcons (ok_getf 7 dX2_keep_32 rfl mX2 (by decide) wq_63 rfl) ?_
  refine mcons (ok_iconst dX2_keep_35 (by decide)) ?_
  refine mcons (ok_iadd dX2_keep_36) ?_
  refine mcons (ok_puti 7 dX2_keep_37 rfl mX2 tyX2_ok nmX2 (by decide) wq_63 rfl rfl (by decide +kernel)) ?_
  refine mcons (ok_aload_n dX2_keep_40 rfl) ?_
  refine mcons (ok_getf 7 dX2_keep_41 rfl mX2 (by decide) wq_63 rfl) ?_
  refine mcons (ok_iconst dX2_keep_44 (by decide)) ?_
  refine mcons (ok_isub dX2_keep_45) ?_
  exact mnil
abbrev KX2_keep (l : Launch) (D : va_G) (ca : Nat → ClassId) (ad : Nat → Nat) : List Value → mW → Option Value → mW → Prop := mC l 3 yX2_keep cX2_keep 1 (some .int) D ca ad
def CFX2_keep (l : Launch) (D : va_G) (ca : Nat → ClassId) (ad : Nat → Nat) (G : mS → Prop) : Prop := mCallV G (KX0_copyRows l D ca ad) 27 0 3
theorem PX2_keep {l : Launch} {D : va_G} {ca : Nat → ClassId} {ad : Nat → Nat} {av : List Value} {w : mW} {x : Int32} {w2 : mW} (hlen : (lg_sl av).length ≤ 1) (body : ∀ G : mS → Prop, mTb G tbX2_keep → CFX2_keep l D ca ad G → mRet G (some (.int x)) w2 [11, 46] → G (0, lv_args 0 av, [], w)) : KX2_keep l D ca ad av w (some (.int x)) w2 :=
  mPackI [11, 46] (by decide +kernel) hlen tkX2_keep (fun p e s m args below meth c A Q hX => mCallV_ok (T := TX0) (N := 1) hX dX2_keep_27 rfl ⟨wq_135, wq_1, wq_134, by decide +kernel, by decide +kernel, by decide +kernel⟩ wq_136 wq_137 (by decide) (by decide)) (List.forall_mem_cons.mpr ⟨dX2_keep_11, List.forall_mem_cons.mpr ⟨dX2_keep_46, fun _ h => absurd h List.not_mem_nil⟩⟩) body
/-! X2 isVersion -/
def tbX2_isVersion : List (Nat × mR) := [(0, r_iload 1 1), (1, r_iflt 4 16), (4, r_iload 5 1), (5, r_aload 6 0), (6, r_getf 9 2 7), (9, r_cge 12 16), (12, r_ic 13 1), (13, r_goto 17), (16, r_ic 17 0)]
theorem tkX2_isVersion : ∀ q ∈ tbX2_isVersion, mOk cX2_isVersion RX2 2 q.1 q.2 := by
  unfold tbX2_isVersion
  refine mcons (ok_iload_n dX2_isVersion_0 rfl) ?_
  refine mcons (ok_iflt dX2_isVersion_1 (by decide)) ?_
  refine mcons (ok_iload_n dX2_isVersion_4 rfl) ?_
  refine mcons (ok_aload_n dX2_isVersion_5 rfl) ?_
  refine mcons (ok_getf 7 dX2_isVersion_6 rfl mX2 (by decide) wq_63 rfl) ?_
  refine mcons (ok_cge dX2_isVersion_9 (by decide)) ?_
  refine mcons (ok_iconst dX2_isVersion_12 (by decide)) ?_
  refine mcons (ok_goto dX2_isVersion_13 (by decide)) ?_
  refine mcons (ok_iconst dX2_isVersion_16 (by decide)) ?_
  exact mnil
abbrev KX2_isVersion (l : Launch) (D : va_G) (ca : Nat → ClassId) (ad : Nat → Nat) : List Value → mW → Option Value → mW → Prop := mC l 0 yX2_isVersion cX2_isVersion 2 (some .boolean) D ca ad
def CFX2_isVersion (l : Launch) (D : va_G) (ca : Nat → ClassId) (ad : Nat → Nat) (G : mS → Prop) : Prop := True
theorem PX2_isVersion {l : Launch} {D : va_G} {ca : Nat → ClassId} {ad : Nat → Nat} {av : List Value} {w : mW} {x : Int32} {w2 : mW} (hlen : (lg_sl av).length ≤ 2) (hx : x = 0 ∨ x = 1) (body : ∀ G : mS → Prop, mTb G tbX2_isVersion → CFX2_isVersion l D ca ad G → mRet G (some (.int x)) w2 [17] → G (0, lv_args 0 av, [], w)) : KX2_isVersion l D ca ad av w (some (.int x)) w2 :=
  mPackZ [17] (by decide +kernel) hlen tkX2_isVersion (fun p e s m args below meth c A Q hX => trivial) (List.forall_mem_cons.mpr ⟨dX2_isVersion_17, fun _ h => absurd h List.not_mem_nil⟩) hx body
/-! X2 recall -/
def tbX2_recall : List (Nat × mR) := [(0, r_aload 1 0), (1, r_iload 2 1), (5, r_ifne 8 11), (8, r_ic 10 (-101)), (11, r_aload 12 0), (12, r_getf 15 2 0), (15, r_aload 16 0), (16, r_getf 19 2 2), (19, r_iload 20 1), (20, r_aald 21), (21, r_ic 22 0), (22, r_ic 23 4), (26, r_ic 27 1)]
theorem tkX2_recall : ∀ q ∈ tbX2_recall, mOk cX2_recall RX2 2 q.1 q.2 := by
  unfold tbX2_recall
  refine mcons (ok_aload_n dX2_recall_0 rfl) ?_
  refine mcons (ok_iload_n dX2_recall_1 rfl) ?_
  refine mcons (ok_ifne dX2_recall_5 (by decide)) ?_
  refine mcons (ok_bipush dX2_recall_8 (by decide)) ?_
  refine mcons (ok_aload_n dX2_recall_11 rfl) ?_
  refine mcons (ok_getf 0 dX2_recall_12 rfl mX2 (by decide) wq_65 rfl) ?_
  refine mcons (ok_aload_n dX2_recall_15 rfl) ?_
  refine mcons (ok_getf 2 dX2_recall_16 rfl mX2 (by decide) wq_133 rfl) ?_
  refine mcons (ok_iload_n dX2_recall_19 rfl) ?_
  refine mcons (ok_aald dX2_recall_20) ?_
  refine mcons (ok_iconst dX2_recall_21 (by decide)) ?_
  refine mcons (ok_iconst dX2_recall_22 (by decide)) ?_
  refine mcons (ok_iconst dX2_recall_26 (by decide)) ?_
  exact mnil
abbrev KX2_recall (l : Launch) (D : va_G) (ca : Nat → ClassId) (ad : Nat → Nat) : List Value → mW → Option Value → mW → Prop := mC l 3 yX2_recall cX2_recall 2 (some .int) D ca ad
def CFX2_recall (l : Launch) (D : va_G) (ca : Nat → ClassId) (ad : Nat → Nat) (G : mS → Prop) : Prop := mCallV G (KX2_isVersion l D ca ad) 2 2 1 ∧ mCallV G (KX0_copyRows l D ca ad) 23 0 3
theorem PX2_recall {l : Launch} {D : va_G} {ca : Nat → ClassId} {ad : Nat → Nat} {av : List Value} {w : mW} {x : Int32} {w2 : mW} (hlen : (lg_sl av).length ≤ 2) (body : ∀ G : mS → Prop, mTb G tbX2_recall → CFX2_recall l D ca ad G → mRet G (some (.int x)) w2 [10, 27] → G (0, lv_args 0 av, [], w)) : KX2_recall l D ca ad av w (some (.int x)) w2 :=
  mPackI [10, 27] (by decide +kernel) hlen tkX2_recall (fun p e s m args below meth c A Q hX => ⟨mCallV_ok (T := TX2) (N := 8) hX dX2_recall_2 rfl ⟨wq_139, wq_10, wq_138, by decide +kernel, by decide +kernel, by decide +kernel⟩ wq_140 wq_141 (by decide) (by decide), mCallV_ok (T := TX0) (N := 1) hX dX2_recall_23 rfl ⟨wq_135, wq_1, wq_134, by decide +kernel, by decide +kernel, by decide +kernel⟩ wq_136 wq_137 (by decide) (by decide)⟩) (List.forall_mem_cons.mpr ⟨dX2_recall_10, List.forall_mem_cons.mpr ⟨dX2_recall_27, fun _ h => absurd h List.not_mem_nil⟩⟩) body
/-! X2 mixedTotal -/
def tbX2_mixedTotal : List (Nat × mR) := [(0, r_aload 1 0), (1, r_getf 4 2 1), (4, r_aload 5 0), (5, r_getf 8 2 0), (8, r_ic 9 0), (9, r_iload 10 2), (13, r_aload 14 0), (14, r_getf 17 2 1), (17, r_aload 18 0), (18, r_getf 21 2 2), (21, r_iload 22 1), (22, r_aald 23), (23, r_iload 24 2), (24, r_ic 25 4), (28, r_aload 29 0), (29, r_getf 32 2 3), (32, r_aload 33 0), (33, r_getf 36 2 1), (36, r_aload 37 0), (37, r_getf 40 2 6), (40, r_aload 41 0), (41, r_getf 44 2 4), (44, r_iload 45 3), (45, r_aald 46), (49, r_ifne 52 56), (52, r_lc 55 (-9000000000000000004)), (56, r_aload 57 0), (57, r_getf 60 2 3), (60, r_aload 61 0), (61, r_getf 64 2 1), (64, r_iload 66 4), (66, r_ic 67 1), (70, r_aload 71 0), (71, r_getf 74 2 3), (74, r_getf 77 1 1)]
theorem tkX2_mixedTotal : ∀ q ∈ tbX2_mixedTotal, mOk cX2_mixedTotal RX2 5 q.1 q.2 := by
  unfold tbX2_mixedTotal
  refine mcons (ok_aload_n dX2_mixedTotal_0 rfl) ?_
  refine mcons (ok_getf 1 dX2_mixedTotal_1 rfl mX2 (by decide) wq_142 rfl) ?_
  refine mcons (ok_aload_n dX2_mixedTotal_4 rfl) ?_
  refine mcons (ok_getf 0 dX2_mixedTotal_5 rfl mX2 (by decide) wq_65 rfl) ?_
  refine mcons (ok_iconst dX2_mixedTotal_8 (by decide)) ?_
  refine mcons (ok_iload_n dX2_mixedTotal_9 rfl) ?_
  refine mcons (ok_aload_n dX2_mixedTotal_13 rfl) ?_
  refine mcons (ok_getf 1 dX2_mixedTotal_14 rfl mX2 (by decide) wq_142 rfl) ?_
  refine mcons (ok_aload_n dX2_mixedTotal_17 rfl) ?_
  refine mcons (ok_getf 2 dX2_mixedTotal_18 rfl mX2 (by decide) wq_133 rfl) ?_
  refine mcons (ok_iload_n dX2_mixedTotal_21 rfl) ?_
  refine mcons (ok_aald dX2_mixedTotal_22) ?_
  refine mcons (ok_iload_n dX2_mixedTotal_23 rfl) ?_
  refine mcons (ok_iconst dX2_mixedTotal_24 (by decide)) ?_
  refine mcons (ok_aload_n dX2_mixedTotal_28 rfl) ?_
  refine mcons (ok_getf 3 dX2_mixedTotal_29 rfl mX2 (by decide) wq_84 rfl) ?_
  refine mcons (ok_aload_n dX2_mixedTotal_32 rfl) ?_
  refine mcons (ok_getf 1 dX2_mixedTotal_33 rfl mX2 (by decide) wq_142 rfl) ?_
  refine mcons (ok_aload_n dX2_mixedTotal_36 rfl) ?_
  refine mcons (ok_getf 6 dX2_mixedTotal_37 rfl mX2 (by decide) wq_64 rfl) ?_
  refine mcons (ok_aload_n dX2_mixedTotal_40 rfl) ?_
  refine mcons (ok_getf 4 dX2_mixedTotal_41 rfl mX2 (by decide) wq_87 rfl) ?_
  refine mcons (ok_iload_n dX2_mixedTotal_44 rfl) ?_
  refine mcons (ok_aald dX2_mixedTotal_45) ?_
  refine mcons (ok_ifne dX2_mixedTotal_49 (by decide)) ?_
  refine mcons (ok_ldc2 dX2_mixedTotal_52 wq_91) ?_
  refine mcons (ok_aload_n dX2_mixedTotal_56 rfl) ?_
  refine mcons (ok_getf 3 dX2_mixedTotal_57 rfl mX2 (by decide) wq_84 rfl) ?_
  refine mcons (ok_aload_n dX2_mixedTotal_60 rfl) ?_
  refine mcons (ok_getf 1 dX2_mixedTotal_61 rfl mX2 (by decide) wq_142 rfl) ?_
  refine mcons (ok_iload dX2_mixedTotal_64) ?_
  refine mcons (ok_iconst dX2_mixedTotal_66 (by decide)) ?_
  refine mcons (ok_aload_n dX2_mixedTotal_70 rfl) ?_
  refine mcons (ok_getf 3 dX2_mixedTotal_71 rfl mX2 (by decide) wq_84 rfl) ?_
  refine mcons (ok_getf 1 dX2_mixedTotal_74 rfl mX1 (by decide) wq_98 rfl) ?_
  exact mnil
abbrev KX2_mixedTotal (l : Launch) (D : va_G) (ca : Nat → ClassId) (ad : Nat → Nat) : List Value → mW → Option Value → mW → Prop := mC l 5 yX2_mixedTotal cX2_mixedTotal 5 (some .long) D ca ad
def CFX2_mixedTotal (l : Launch) (D : va_G) (ca : Nat → ClassId) (ad : Nat → Nat) (G : mS → Prop) : Prop := mCallV G (KX0_copyRows l D ca ad) 10 0 3 ∧ mCallV G (KX0_copyRows l D ca ad) 25 0 3 ∧ mCallV G (KX1_solve l D ca ad) 46 1 3 ∧ mCallV G (KX1_sumOfEmissions l D ca ad) 67 1 3 ∧ mCallS G (KX2_thousandths l D ca ad) 77 2
theorem PX2_mixedTotal {l : Launch} {D : va_G} {ca : Nat → ClassId} {ad : Nat → Nat} {av : List Value} {w : mW} {x : Int64} {w2 : mW} (hlen : (lg_sl av).length ≤ 5) (body : ∀ G : mS → Prop, mTb G tbX2_mixedTotal → CFX2_mixedTotal l D ca ad G → mRet G (some (.long x)) w2 [55, 80] → G (0, lv_args 0 av, [], w)) : KX2_mixedTotal l D ca ad av w (some (.long x)) w2 :=
  mPackL [55, 80] (by decide +kernel) hlen tkX2_mixedTotal (fun p e s m args below meth c A Q hX => ⟨mCallV_ok (T := TX0) (N := 1) hX dX2_mixedTotal_10 rfl ⟨wq_135, wq_1, wq_134, by decide +kernel, by decide +kernel, by decide +kernel⟩ wq_136 wq_137 (by decide) (by decide), mCallV_ok (T := TX0) (N := 1) hX dX2_mixedTotal_25 rfl ⟨wq_135, wq_1, wq_134, by decide +kernel, by decide +kernel, by decide +kernel⟩ wq_136 wq_137 (by decide) (by decide), mCallV_ok (T := TX1) (N := 7) hX dX2_mixedTotal_46 rfl ⟨wq_100, wq_23, wq_99, by decide +kernel, by decide +kernel, by decide +kernel⟩ wq_101 wq_102 (by decide) (by decide), mCallV_ok (T := TX1) (N := 7) hX dX2_mixedTotal_67 rfl ⟨wq_112, wq_23, wq_111, by decide +kernel, by decide +kernel, by decide +kernel⟩ wq_113 wq_114 (by decide) (by decide), mCallS_ok hX dX2_mixedTotal_77 ⟨wq_104, wq_10, wq_103, by decide +kernel, by decide +kernel, by decide +kernel⟩ wq_105 (by decide) (by decide)⟩) (List.forall_mem_cons.mpr ⟨dX2_mixedTotal_55, List.forall_mem_cons.mpr ⟨dX2_mixedTotal_80, fun _ h => absurd h List.not_mem_nil⟩⟩) body
/-! X2 blame -/
def tbX2_blame : List (Nat × mR) := [(0, r_aload 1 0), (1, r_iload 2 1), (5, r_ifeq 8 31), (8, r_iload 9 2), (12, r_ifeq 15 31), (15, r_iload 16 3), (19, r_ifeq 22 31), (22, r_aload 23 0), (23, r_iload 25 4), (28, r_ifne 31 35), (31, r_lc 34 (-9000000000000000001)), (35, r_aload 36 0), (36, r_iload 37 1), (37, r_iload 39 4), (39, r_ic 40 1), (40, r_ii 41 (fun x y => x + y)), (41, r_iload 42 2), (42, r_iload 43 3), (46, r_lstore 48 5), (48, r_aload 49 0), (49, r_iload 50 1), (50, r_iload 52 4), (52, r_iload 53 2), (53, r_iload 54 3), (57, r_lstore 59 7), (59, r_lload 61 5), (61, r_lc 64 (-9000000000000000004)), (64, r_lcmp 65), (65, r_ifeq 68 77), (68, r_lload 70 7), (70, r_lc 73 (-9000000000000000004)), (73, r_lcmp 74), (74, r_ifne 77 81), (77, r_lc 80 (-9000000000000000004)), (81, r_lload 83 5), (83, r_lload 85 7), (85, r_ll 86 (fun x y => x - y))]
theorem tkX2_blame : ∀ q ∈ tbX2_blame, mOk cX2_blame RX2 9 q.1 q.2 := by
  unfold tbX2_blame
  refine mcons (ok_aload_n dX2_blame_0 rfl) ?_
  refine mcons (ok_iload_n dX2_blame_1 rfl) ?_
  refine mcons (ok_ifeq dX2_blame_5 (by decide)) ?_
  refine mcons (ok_iload_n dX2_blame_8 rfl) ?_
  refine mcons (ok_ifeq dX2_blame_12 (by decide)) ?_
  refine mcons (ok_iload_n dX2_blame_15 rfl) ?_
  refine mcons (ok_ifeq dX2_blame_19 (by decide)) ?_
  refine mcons (ok_aload_n dX2_blame_22 rfl) ?_
  refine mcons (ok_iload dX2_blame_23) ?_
  refine mcons (ok_ifne dX2_blame_28 (by decide)) ?_
  refine mcons (ok_ldc2 dX2_blame_31 wq_96) ?_
  refine mcons (ok_aload_n dX2_blame_35 rfl) ?_
  refine mcons (ok_iload_n dX2_blame_36 rfl) ?_
  refine mcons (ok_iload dX2_blame_37) ?_
  refine mcons (ok_iconst dX2_blame_39 (by decide)) ?_
  refine mcons (ok_iadd dX2_blame_40) ?_
  refine mcons (ok_iload_n dX2_blame_41 rfl) ?_
  refine mcons (ok_iload_n dX2_blame_42 rfl) ?_
  refine mcons (ok_lstore dX2_blame_46 (by decide)) ?_
  refine mcons (ok_aload_n dX2_blame_48 rfl) ?_
  refine mcons (ok_iload_n dX2_blame_49 rfl) ?_
  refine mcons (ok_iload dX2_blame_50) ?_
  refine mcons (ok_iload_n dX2_blame_52 rfl) ?_
  refine mcons (ok_iload_n dX2_blame_53 rfl) ?_
  refine mcons (ok_lstore dX2_blame_57 (by decide)) ?_
  refine mcons (ok_lload dX2_blame_59) ?_
  refine mcons (ok_ldc2 dX2_blame_61 wq_91) ?_
  refine mcons (ok_lcmp dX2_blame_64) ?_
  refine mcons (ok_ifeq dX2_blame_65 (by decide)) ?_
  refine mcons (ok_lload dX2_blame_68) ?_
  refine mcons (ok_ldc2 dX2_blame_70 wq_91) ?_
  refine mcons (ok_lcmp dX2_blame_73) ?_
  refine mcons (ok_ifne dX2_blame_74 (by decide)) ?_
  refine mcons (ok_ldc2 dX2_blame_77 wq_91) ?_
  refine mcons (ok_lload dX2_blame_81) ?_
  refine mcons (ok_lload dX2_blame_83) ?_
  refine mcons (ok_lsub dX2_blame_85) ?_
  exact mnil
abbrev KX2_blame (l : Launch) (D : va_G) (ca : Nat → ClassId) (ad : Nat → Nat) : List Value → mW → Option Value → mW → Prop := mC l 6 yX2_blame cX2_blame 9 (some .long) D ca ad
def CFX2_blame (l : Launch) (D : va_G) (ca : Nat → ClassId) (ad : Nat → Nat) (G : mS → Prop) : Prop := mCallV G (KX2_isVersion l D ca ad) 2 2 1 ∧ mCallS G (KX2_isBasket l D ca ad) 9 1 ∧ mCallS G (KX2_isStuff l D ca ad) 16 1 ∧ mCallV G (KX2_isMaking l D ca ad) 25 2 1 ∧ mCallV G (KX2_mixedTotal l D ca ad) 43 2 4 ∧ mCallV G (KX2_mixedTotal l D ca ad) 54 2 4
theorem PX2_blame {l : Launch} {D : va_G} {ca : Nat → ClassId} {ad : Nat → Nat} {av : List Value} {w : mW} {x : Int64} {w2 : mW} (hlen : (lg_sl av).length ≤ 9) (body : ∀ G : mS → Prop, mTb G tbX2_blame → CFX2_blame l D ca ad G → mRet G (some (.long x)) w2 [34, 80, 86] → G (0, lv_args 0 av, [], w)) : KX2_blame l D ca ad av w (some (.long x)) w2 :=
  mPackL [34, 80, 86] (by decide +kernel) hlen tkX2_blame (fun p e s m args below meth c A Q hX => ⟨mCallV_ok (T := TX2) (N := 8) hX dX2_blame_2 rfl ⟨wq_139, wq_10, wq_138, by decide +kernel, by decide +kernel, by decide +kernel⟩ wq_140 wq_141 (by decide) (by decide), mCallS_ok hX dX2_blame_9 ⟨wq_89, wq_10, wq_88, by decide +kernel, by decide +kernel, by decide +kernel⟩ wq_90 (by decide) (by decide), mCallS_ok hX dX2_blame_16 ⟨wq_78, wq_10, wq_77, by decide +kernel, by decide +kernel, by decide +kernel⟩ wq_79 (by decide) (by decide), mCallV_ok (T := TX2) (N := 8) hX dX2_blame_25 rfl ⟨wq_67, wq_10, wq_66, by decide +kernel, by decide +kernel, by decide +kernel⟩ wq_68 wq_69 (by decide) (by decide), mCallV_ok (T := TX2) (N := 8) hX dX2_blame_43 rfl ⟨wq_144, wq_10, wq_143, by decide +kernel, by decide +kernel, by decide +kernel⟩ wq_145 wq_146 (by decide) (by decide), mCallV_ok (T := TX2) (N := 8) hX dX2_blame_54 rfl ⟨wq_144, wq_10, wq_143, by decide +kernel, by decide +kernel, by decide +kernel⟩ wq_145 wq_146 (by decide) (by decide)⟩) (List.forall_mem_cons.mpr ⟨dX2_blame_34, List.forall_mem_cons.mpr ⟨dX2_blame_80, List.forall_mem_cons.mpr ⟨dX2_blame_86, fun _ h => absurd h List.not_mem_nil⟩⟩⟩) body
/-! X2 makingsWithByProducts -/
def tbX2_makingsWithByProducts : List (Nat × mR) := [(0, r_ic 1 0), (1, r_istore 2 1), (2, r_ic 3 0), (3, r_istore 4 2), (4, r_iload 5 2), (5, r_aload 6 0), (6, r_getf 9 2 6), (9, r_cge 12 32), (12, r_aload 13 0), (13, r_getf 16 2 0), (16, r_iload 17 2), (20, r_ifeq 23 26), (23, r_iinc 26 1 1), (26, r_iinc 29 2 1), (29, r_goto 4), (32, r_iload 33 1)]
theorem tkX2_makingsWithByProducts : ∀ q ∈ tbX2_makingsWithByProducts, mOk cX2_makingsWithByProducts RX2 3 q.1 q.2 := by
  unfold tbX2_makingsWithByProducts
  refine mcons (ok_iconst dX2_makingsWithByProducts_0 (by decide)) ?_
  refine mcons (ok_istore_n dX2_makingsWithByProducts_1 rfl (by decide)) ?_
  refine mcons (ok_iconst dX2_makingsWithByProducts_2 (by decide)) ?_
  refine mcons (ok_istore_n dX2_makingsWithByProducts_3 rfl (by decide)) ?_
  refine mcons (ok_iload_n dX2_makingsWithByProducts_4 rfl) ?_
  refine mcons (ok_aload_n dX2_makingsWithByProducts_5 rfl) ?_
  refine mcons (ok_getf 6 dX2_makingsWithByProducts_6 rfl mX2 (by decide) wq_64 rfl) ?_
  refine mcons (ok_cge dX2_makingsWithByProducts_9 (by decide)) ?_
  refine mcons (ok_aload_n dX2_makingsWithByProducts_12 rfl) ?_
  refine mcons (ok_getf 0 dX2_makingsWithByProducts_13 rfl mX2 (by decide) wq_65 rfl) ?_
  refine mcons (ok_iload_n dX2_makingsWithByProducts_16 rfl) ?_
  refine mcons (ok_ifeq dX2_makingsWithByProducts_20 (by decide)) ?_
  refine mcons (ok_iinc dX2_makingsWithByProducts_23 (by decide) (by decide)) ?_
  refine mcons (ok_iinc dX2_makingsWithByProducts_26 (by decide) (by decide)) ?_
  refine mcons (ok_goto dX2_makingsWithByProducts_29 (by decide)) ?_
  refine mcons (ok_iload_n dX2_makingsWithByProducts_32 rfl) ?_
  exact mnil
abbrev KX2_makingsWithByProducts (l : Launch) (D : va_G) (ca : Nat → ClassId) (ad : Nat → Nat) : List Value → mW → Option Value → mW → Prop := mC l 1 yX2_makingsWithByProducts cX2_makingsWithByProducts 3 (some .int) D ca ad
def CFX2_makingsWithByProducts (l : Launch) (D : va_G) (ca : Nat → ClassId) (ad : Nat → Nat) (G : mS → Prop) : Prop := mCallV G (KX0_hasByProducts l D ca ad) 17 0 1
theorem PX2_makingsWithByProducts {l : Launch} {D : va_G} {ca : Nat → ClassId} {ad : Nat → Nat} {av : List Value} {w : mW} {x : Int32} {w2 : mW} (hlen : (lg_sl av).length ≤ 3) (body : ∀ G : mS → Prop, mTb G tbX2_makingsWithByProducts → CFX2_makingsWithByProducts l D ca ad G → mRet G (some (.int x)) w2 [33] → G (0, lv_args 0 av, [], w)) : KX2_makingsWithByProducts l D ca ad av w (some (.int x)) w2 :=
  mPackI [33] (by decide +kernel) hlen tkX2_makingsWithByProducts (fun p e s m args below meth c A Q hX => mCallV_ok (T := TX0) (N := 1) hX dX2_makingsWithByProducts_17 rfl ⟨wq_148, wq_1, wq_147, by decide +kernel, by decide +kernel, by decide +kernel⟩ wq_149 wq_150 (by decide) (by decide)) (List.forall_mem_cons.mpr ⟨dX2_makingsWithByProducts_33, fun _ h => absurd h List.not_mem_nil⟩) body
/-! X2 entriesNotZero -/
def tbX2_entriesNotZero : List (Nat × mR) := [(0, r_ic 1 0), (1, r_istore 2 1), (2, r_ic 3 0), (3, r_istore 4 2), (4, r_iload 5 2), (5, r_aload 6 0), (6, r_getf 9 2 6), (9, r_cge 12 49), (12, r_ic 13 0), (13, r_istore 14 3), (14, r_iload 15 3), (15, r_aload 16 0), (16, r_getf 19 2 6), (19, r_cge 22 43), (22, r_aload 23 0), (23, r_getf 26 2 0), (26, r_iload 27 2), (27, r_iload 28 3), (31, r_ifeq 34 37), (34, r_iinc 37 1 1), (37, r_iinc 40 3 1), (40, r_goto 14), (43, r_iinc 46 2 1), (46, r_goto 4), (49, r_iload 50 1)]
theorem tkX2_entriesNotZero : ∀ q ∈ tbX2_entriesNotZero, mOk cX2_entriesNotZero RX2 4 q.1 q.2 := by
  unfold tbX2_entriesNotZero
  refine mcons (ok_iconst dX2_entriesNotZero_0 (by decide)) ?_
  refine mcons (ok_istore_n dX2_entriesNotZero_1 rfl (by decide)) ?_
  refine mcons (ok_iconst dX2_entriesNotZero_2 (by decide)) ?_
  refine mcons (ok_istore_n dX2_entriesNotZero_3 rfl (by decide)) ?_
  refine mcons (ok_iload_n dX2_entriesNotZero_4 rfl) ?_
  refine mcons (ok_aload_n dX2_entriesNotZero_5 rfl) ?_
  refine mcons (ok_getf 6 dX2_entriesNotZero_6 rfl mX2 (by decide) wq_64 rfl) ?_
  refine mcons (ok_cge dX2_entriesNotZero_9 (by decide)) ?_
  refine mcons (ok_iconst dX2_entriesNotZero_12 (by decide)) ?_
  refine mcons (ok_istore_n dX2_entriesNotZero_13 rfl (by decide)) ?_
  refine mcons (ok_iload_n dX2_entriesNotZero_14 rfl) ?_
  refine mcons (ok_aload_n dX2_entriesNotZero_15 rfl) ?_
  refine mcons (ok_getf 6 dX2_entriesNotZero_16 rfl mX2 (by decide) wq_64 rfl) ?_
  refine mcons (ok_cge dX2_entriesNotZero_19 (by decide)) ?_
  refine mcons (ok_aload_n dX2_entriesNotZero_22 rfl) ?_
  refine mcons (ok_getf 0 dX2_entriesNotZero_23 rfl mX2 (by decide) wq_65 rfl) ?_
  refine mcons (ok_iload_n dX2_entriesNotZero_26 rfl) ?_
  refine mcons (ok_iload_n dX2_entriesNotZero_27 rfl) ?_
  refine mcons (ok_ifeq dX2_entriesNotZero_31 (by decide)) ?_
  refine mcons (ok_iinc dX2_entriesNotZero_34 (by decide) (by decide)) ?_
  refine mcons (ok_iinc dX2_entriesNotZero_37 (by decide) (by decide)) ?_
  refine mcons (ok_goto dX2_entriesNotZero_40 (by decide)) ?_
  refine mcons (ok_iinc dX2_entriesNotZero_43 (by decide) (by decide)) ?_
  refine mcons (ok_goto dX2_entriesNotZero_46 (by decide)) ?_
  refine mcons (ok_iload_n dX2_entriesNotZero_49 rfl) ?_
  exact mnil
abbrev KX2_entriesNotZero (l : Launch) (D : va_G) (ca : Nat → ClassId) (ad : Nat → Nat) : List Value → mW → Option Value → mW → Prop := mC l 1 yX2_entriesNotZero cX2_entriesNotZero 4 (some .int) D ca ad
def CFX2_entriesNotZero (l : Launch) (D : va_G) (ca : Nat → ClassId) (ad : Nat → Nat) (G : mS → Prop) : Prop := mCallV G (KX0_tableCell l D ca ad) 28 0 2
theorem PX2_entriesNotZero {l : Launch} {D : va_G} {ca : Nat → ClassId} {ad : Nat → Nat} {av : List Value} {w : mW} {x : Int32} {w2 : mW} (hlen : (lg_sl av).length ≤ 4) (body : ∀ G : mS → Prop, mTb G tbX2_entriesNotZero → CFX2_entriesNotZero l D ca ad G → mRet G (some (.int x)) w2 [50] → G (0, lv_args 0 av, [], w)) : KX2_entriesNotZero l D ca ad av w (some (.int x)) w2 :=
  mPackI [50] (by decide +kernel) hlen tkX2_entriesNotZero (fun p e s m args below meth c A Q hX => mCallV_ok (T := TX0) (N := 1) hX dX2_entriesNotZero_28 rfl ⟨wq_83, wq_1, wq_33, by decide +kernel, by decide +kernel, by decide +kernel⟩ wq_35 wq_36 (by decide) (by decide)) (List.forall_mem_cons.mpr ⟨dX2_entriesNotZero_50, fun _ h => absurd h List.not_mem_nil⟩) body
/-! X2 count -/
def tbX2_count : List (Nat × mR) := [(0, r_iload 1 1), (1, r_tsw 0 3 52 [32, 37, 42, 47]), (32, r_aload 33 0), (33, r_getf 36 2 6), (37, r_aload 38 0), (38, r_getf 41 2 7), (42, r_aload 43 0), (47, r_aload 48 0), (52, r_ic 54 (-102))]
theorem tkX2_count : ∀ q ∈ tbX2_count, mOk cX2_count RX2 2 q.1 q.2 := by
  unfold tbX2_count
  refine mcons (ok_iload_n dX2_count_0 rfl) ?_
  refine mcons (ok_tsw dX2_count_1 (by decide) (by decide)) ?_
  refine mcons (ok_aload_n dX2_count_32 rfl) ?_
  refine mcons (ok_getf 6 dX2_count_33 rfl mX2 (by decide) wq_64 rfl) ?_
  refine mcons (ok_aload_n dX2_count_37 rfl) ?_
  refine mcons (ok_getf 7 dX2_count_38 rfl mX2 (by decide) wq_63 rfl) ?_
  refine mcons (ok_aload_n dX2_count_42 rfl) ?_
  refine mcons (ok_aload_n dX2_count_47 rfl) ?_
  refine mcons (ok_bipush dX2_count_52 (by decide)) ?_
  exact mnil
abbrev KX2_count (l : Launch) (D : va_G) (ca : Nat → ClassId) (ad : Nat → Nat) : List Value → mW → Option Value → mW → Prop := mC l 2 yX2_count cX2_count 2 (some .int) D ca ad
def CFX2_count (l : Launch) (D : va_G) (ca : Nat → ClassId) (ad : Nat → Nat) (G : mS → Prop) : Prop := mCallV G (KX2_makingsWithByProducts l D ca ad) 43 2 0 ∧ mCallV G (KX2_entriesNotZero l D ca ad) 48 2 0
theorem PX2_count {l : Launch} {D : va_G} {ca : Nat → ClassId} {ad : Nat → Nat} {av : List Value} {w : mW} {x : Int32} {w2 : mW} (hlen : (lg_sl av).length ≤ 2) (body : ∀ G : mS → Prop, mTb G tbX2_count → CFX2_count l D ca ad G → mRet G (some (.int x)) w2 [36, 41, 46, 51, 54] → G (0, lv_args 0 av, [], w)) : KX2_count l D ca ad av w (some (.int x)) w2 :=
  mPackI [36, 41, 46, 51, 54] (by decide +kernel) hlen tkX2_count (fun p e s m args below meth c A Q hX => ⟨mCallV_ok (T := TX2) (N := 8) hX dX2_count_43 rfl ⟨wq_152, wq_10, wq_151, by decide +kernel, by decide +kernel, by decide +kernel⟩ wq_153 wq_154 (by decide) (by decide), mCallV_ok (T := TX2) (N := 8) hX dX2_count_48 rfl ⟨wq_156, wq_10, wq_155, by decide +kernel, by decide +kernel, by decide +kernel⟩ wq_157 wq_158 (by decide) (by decide)⟩) (List.forall_mem_cons.mpr ⟨dX2_count_36, List.forall_mem_cons.mpr ⟨dX2_count_41, List.forall_mem_cons.mpr ⟨dX2_count_46, List.forall_mem_cons.mpr ⟨dX2_count_51, List.forall_mem_cons.mpr ⟨dX2_count_54, fun _ h => absurd h List.not_mem_nil⟩⟩⟩⟩⟩) body
/-! X2 digest -/
def tbX2_digest : List (Nat × mR) := [(0, r_lc 3 (151)), (3, r_lstore 4 1), (4, r_ic 5 0), (5, r_istore 6 3), (6, r_iload 7 3), (7, r_aload 8 0), (8, r_getf 11 2 6), (11, r_cge 14 56), (14, r_ic 15 0), (15, r_istore 17 4), (17, r_iload 19 4), (19, r_ic 21 23), (21, r_cge 24 50), (24, r_lc 27 (31)), (27, r_lload 28 1), (28, r_ll 29 (fun x y => x * y)), (29, r_aload 30 0), (30, r_getf 33 2 0), (33, r_getf 36 0 0), (36, r_iload 37 3), (37, r_aald 38), (38, r_iload 40 4), (40, r_iald 41), (41, r_i2l 42), (42, r_ll 43 (fun x y => x + y)), (43, r_lstore 44 1), (44, r_iinc 47 4 1), (47, r_goto 17), (50, r_iinc 53 3 1), (53, r_goto 6), (56, r_ic 57 0), (57, r_istore 58 3), (58, r_iload 59 3), (59, r_ic 60 4), (60, r_cge 63 104), (63, r_ic 64 0), (64, r_istore 66 4), (66, r_iload 68 4), (68, r_aload 69 0), (69, r_getf 72 2 6), (72, r_cge 75 98), (75, r_lc 78 (31)), (78, r_lload 79 1), (79, r_ll 80 (fun x y => x * y)), (80, r_aload 81 0), (81, r_getf 84 2 4), (84, r_iload 85 3), (85, r_aald 86), (86, r_iload 88 4), (88, r_iald 89), (89, r_i2l 90), (90, r_ll 91 (fun x y => x + y)), (91, r_lstore 92 1), (92, r_iinc 95 4 1), (95, r_goto 66), (98, r_iinc 101 3 1), (101, r_goto 58), (104, r_lc 107 (31)), (107, r_lload 108 1), (108, r_ll 109 (fun x y => x * y)), (109, r_aload 110 0), (110, r_getf 113 2 7), (113, r_i2l 114), (114, r_ll 115 (fun x y => x + y)), (115, r_lstore 116 1), (116, r_lc 119 (31)), (119, r_lload 120 1), (120, r_ll 121 (fun x y => x * y)), (121, r_aload 122 0), (125, r_ll 126 (fun x y => x + y))]
theorem tkX2_digest : ∀ q ∈ tbX2_digest, mOk cX2_digest RX2 5 q.1 q.2 := by
  unfold tbX2_digest
  refine mcons (ok_ldc2 dX2_digest_0 wq_159) ?_
  refine mcons (ok_lstore_n dX2_digest_3 rfl (by decide)) ?_
  refine mcons (ok_iconst dX2_digest_4 (by decide)) ?_
  refine mcons (ok_istore_n dX2_digest_5 rfl (by decide)) ?_
  refine mcons (ok_iload_n dX2_digest_6 rfl) ?_
  refine mcons (ok_aload_n dX2_digest_7 rfl) ?_
  refine mcons (ok_getf 6 dX2_digest_8 rfl mX2 (by decide) wq_64 rfl) ?_
  refine mcons (ok_cge dX2_digest_11 (by decide)) ?_
  refine mcons (ok_iconst dX2_digest_14 (by decide)) ?_
  refine mcons (ok_istore dX2_digest_15 (by decide)) ?_
  refine mcons (ok_iload dX2_digest_17) ?_
  refine mcons (ok_bipush dX2_digest_19 (by decide)) ?_
  refine mcons (ok_cge dX2_digest_21 (by decide)) ?_
  refine mcons (ok_ldc2 dX2_digest_24 wq_160) ?_
  refine mcons (ok_lload_n dX2_digest_27 rfl) ?_
  refine mcons (ok_lmul dX2_digest_28) ?_
  refine mcons (ok_aload_n dX2_digest_29 rfl) ?_
  refine mcons (ok_getf 0 dX2_digest_30 rfl mX2 (by decide) wq_65 rfl) ?_
  refine mcons (ok_getf 0 dX2_digest_33 rfl mX0 (by decide) wq_81 rfl) ?_
  refine mcons (ok_iload_n dX2_digest_36 rfl) ?_
  refine mcons (ok_aald dX2_digest_37) ?_
  refine mcons (ok_iload dX2_digest_38) ?_
  refine mcons (ok_iald dX2_digest_40) ?_
  refine mcons (ok_i2l dX2_digest_41) ?_
  refine mcons (ok_ladd dX2_digest_42) ?_
  refine mcons (ok_lstore_n dX2_digest_43 rfl (by decide)) ?_
  refine mcons (ok_iinc dX2_digest_44 (by decide) (by decide)) ?_
  refine mcons (ok_goto dX2_digest_47 (by decide)) ?_
  refine mcons (ok_iinc dX2_digest_50 (by decide) (by decide)) ?_
  refine mcons (ok_goto dX2_digest_53 (by decide)) ?_
  refine mcons (ok_iconst dX2_digest_56 (by decide)) ?_
  refine mcons (ok_istore_n dX2_digest_57 rfl (by decide)) ?_
  refine mcons (ok_iload_n dX2_digest_58 rfl) ?_
  refine mcons (ok_iconst dX2_digest_59 (by decide)) ?_
  refine mcons (ok_cge dX2_digest_60 (by decide)) ?_
  refine mcons (ok_iconst dX2_digest_63 (by decide)) ?_
  refine mcons (ok_istore dX2_digest_64 (by decide)) ?_
  refine mcons (ok_iload dX2_digest_66) ?_
  refine mcons (ok_aload_n dX2_digest_68 rfl) ?_
  refine mcons (ok_getf 6 dX2_digest_69 rfl mX2 (by decide) wq_64 rfl) ?_
  refine mcons (ok_cge dX2_digest_72 (by decide)) ?_
  refine mcons (ok_ldc2 dX2_digest_75 wq_160) ?_
  refine mcons (ok_lload_n dX2_digest_78 rfl) ?_
  refine mcons (ok_lmul dX2_digest_79) ?_
  refine mcons (ok_aload_n dX2_digest_80 rfl) ?_
  refine mcons (ok_getf 4 dX2_digest_81 rfl mX2 (by decide) wq_87 rfl) ?_
  refine mcons (ok_iload_n dX2_digest_84 rfl) ?_
  refine mcons (ok_aald dX2_digest_85) ?_
  refine mcons (ok_iload dX2_digest_86) ?_
  refine mcons (ok_iald dX2_digest_88) ?_
  refine mcons (ok_i2l dX2_digest_89) ?_
  refine mcons (ok_ladd dX2_digest_90) ?_
  refine mcons (ok_lstore_n dX2_digest_91 rfl (by decide)) ?_
  refine mcons (ok_iinc dX2_digest_92 (by decide) (by decide)) ?_
  refine mcons (ok_goto dX2_digest_95 (by decide)) ?_
  refine mcons (ok_iinc dX2_digest_98 (by decide) (by decide)) ?_
  refine mcons (ok_goto dX2_digest_101 (by decide)) ?_
  refine mcons (ok_ldc2 dX2_digest_104 wq_160) ?_
  refine mcons (ok_lload_n dX2_digest_107 rfl) ?_
  refine mcons (ok_lmul dX2_digest_108) ?_
  refine mcons (ok_aload_n dX2_digest_109 rfl) ?_
  refine mcons (ok_getf 7 dX2_digest_110 rfl mX2 (by decide) wq_63 rfl) ?_
  refine mcons (ok_i2l dX2_digest_113) ?_
  refine mcons (ok_ladd dX2_digest_114) ?_
  refine mcons (ok_lstore_n dX2_digest_115 rfl (by decide)) ?_
  refine mcons (ok_ldc2 dX2_digest_116 wq_160) ?_
  refine mcons (ok_lload_n dX2_digest_119 rfl) ?_
  refine mcons (ok_lmul dX2_digest_120) ?_
  refine mcons (ok_aload_n dX2_digest_121 rfl) ?_
  refine mcons (ok_ladd dX2_digest_125) ?_
  exact mnil
abbrev KX2_digest (l : Launch) (D : va_G) (ca : Nat → ClassId) (ad : Nat → Nat) : List Value → mW → Option Value → mW → Prop := mC l 5 yX2_digest cX2_digest 5 (some .long) D ca ad
def CFX2_digest (l : Launch) (D : va_G) (ca : Nat → ClassId) (ad : Nat → Nat) (G : mS → Prop) : Prop := mCallV G (KX2_worth l D ca ad) 122 2 0
theorem PX2_digest {l : Launch} {D : va_G} {ca : Nat → ClassId} {ad : Nat → Nat} {av : List Value} {w : mW} {x : Int64} {w2 : mW} (hlen : (lg_sl av).length ≤ 5) (body : ∀ G : mS → Prop, mTb G tbX2_digest → CFX2_digest l D ca ad G → mRet G (some (.long x)) w2 [126] → G (0, lv_args 0 av, [], w)) : KX2_digest l D ca ad av w (some (.long x)) w2 :=
  mPackL [126] (by decide +kernel) hlen tkX2_digest (fun p e s m args below meth c A Q hX => mCallV_ok (T := TX2) (N := 8) hX dX2_digest_122 rfl ⟨wq_162, wq_10, wq_161, by decide +kernel, by decide +kernel, by decide +kernel⟩ wq_163 wq_164 (by decide) (by decide)) (List.forall_mem_cons.mpr ⟨dX2_digest_126, fun _ h => absurd h List.not_mem_nil⟩) body
