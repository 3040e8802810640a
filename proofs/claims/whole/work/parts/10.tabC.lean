theorem dX3_in_0 : decode cX3_in 0 = .ok (.iload_n 0, 1) := by decide +kernel
theorem dX3_in_1 : decode cX3_in 1 = .ok (.iload_n 1, 1) := by decide +kernel
theorem dX3_in_2 : decode cX3_in 2 = .ok (.if_icmp .lt 12, 3) := by decide +kernel
theorem dX3_in_5 : decode cX3_in 5 = .ok (.iload_n 0, 1) := by decide +kernel
theorem dX3_in_6 : decode cX3_in 6 = .ok (.iload_n 2, 1) := by decide +kernel
theorem dX3_in_7 : decode cX3_in 7 = .ok (.if_icmp .gt 7, 3) := by decide +kernel
theorem dX3_in_10 : decode cX3_in 10 = .ok (.iconst 1, 1) := by decide +kernel
theorem dX3_in_11 : decode cX3_in 11 = .ok (.goto 4, 3) := by decide +kernel
theorem dX3_in_14 : decode cX3_in 14 = .ok (.iconst 0, 1) := by decide +kernel
theorem dX3_in_15 : decode cX3_in 15 = .ok (.ireturn, 1) := by decide +kernel
theorem dX3_isMaking_0 : decode cX3_isMaking 0 = .ok (.iload_n 1, 1) := by decide +kernel
theorem dX3_isMaking_1 : decode cX3_isMaking 1 = .ok (.iconst 0, 1) := by decide +kernel
theorem dX3_isMaking_2 : decode cX3_isMaking 2 = .ok (.aload_n 0, 1) := by decide +kernel
theorem dX3_isMaking_3 : decode cX3_isMaking 3 = .ok (.getfield 50, 3) := by decide +kernel
theorem dX3_isMaking_6 : decode cX3_isMaking 6 = .ok (.iconst 1, 1) := by decide +kernel
theorem dX3_isMaking_7 : decode cX3_isMaking 7 = .ok (.isub, 1) := by decide +kernel
theorem dX3_isMaking_8 : decode cX3_isMaking 8 = .ok (.invokestatic 54, 3) := by decide +kernel
theorem dX3_isMaking_11 : decode cX3_isMaking 11 = .ok (.ireturn, 1) := by decide +kernel
theorem dX3_isStuff_0 : decode cX3_isStuff 0 = .ok (.iload_n 0, 1) := by decide +kernel
theorem dX3_isStuff_1 : decode cX3_isStuff 1 = .ok (.iconst 0, 1) := by decide +kernel
theorem dX3_isStuff_2 : decode cX3_isStuff 2 = .ok (.iconst 2, 1) := by decide +kernel
theorem dX3_isStuff_3 : decode cX3_isStuff 3 = .ok (.invokestatic 54, 3) := by decide +kernel
theorem dX3_isStuff_6 : decode cX3_isStuff 6 = .ok (.ireturn, 1) := by decide +kernel
theorem dX3_isBasket_0 : decode cX3_isBasket 0 = .ok (.iload_n 0, 1) := by decide +kernel
theorem dX3_isBasket_1 : decode cX3_isBasket 1 = .ok (.iconst 0, 1) := by decide +kernel
theorem dX3_isBasket_2 : decode cX3_isBasket 2 = .ok (.iconst 3, 1) := by decide +kernel
theorem dX3_isBasket_3 : decode cX3_isBasket 3 = .ok (.invokestatic 54, 3) := by decide +kernel
theorem dX3_isBasket_6 : decode cX3_isBasket 6 = .ok (.ireturn, 1) := by decide +kernel
theorem dX3_making_0 : decode cX3_making 0 = .ok (.aload_n 0, 1) := by decide +kernel
theorem dX3_making_1 : decode cX3_making 1 = .ok (.getfield 58, 3) := by decide +kernel
theorem dX3_making_4 : decode cX3_making 4 = .ok (.ifCond .le 6, 3) := by decide +kernel
theorem dX3_making_7 : decode cX3_making 7 = .ok (.bipush (-103), 2) := by decide +kernel
theorem dX3_making_9 : decode cX3_making 9 = .ok (.ireturn, 1) := by decide +kernel
theorem dX3_making_10 : decode cX3_making 10 = .ok (.aload_n 0, 1) := by decide +kernel
theorem dX3_making_11 : decode cX3_making 11 = .ok (.getfield 50, 3) := by decide +kernel
theorem dX3_making_14 : decode cX3_making 14 = .ok (.iconst 4, 1) := by decide +kernel
theorem dX3_making_15 : decode cX3_making 15 = .ok (.if_icmp .ne 6, 3) := by decide +kernel
theorem dX3_making_18 : decode cX3_making 18 = .ok (.bipush (-105), 2) := by decide +kernel
theorem dX3_making_20 : decode cX3_making 20 = .ok (.ireturn, 1) := by decide +kernel
theorem dX3_making_21 : decode cX3_making 21 = .ok (.bipush 24, 2) := by decide +kernel
theorem dX3_making_23 : decode cX3_making 23 = .ok (.aload_n 0, 1) := by decide +kernel
theorem dX3_making_24 : decode cX3_making 24 = .ok (.getfield 50, 3) := by decide +kernel
theorem dX3_making_27 : decode cX3_making 27 = .ok (.iadd, 1) := by decide +kernel
theorem dX3_making_28 : decode cX3_making 28 = .ok (.istore_n 1, 1) := by decide +kernel
theorem dX3_making_29 : decode cX3_making 29 = .ok (.aload_n 0, 1) := by decide +kernel
theorem dX3_making_30 : decode cX3_making 30 = .ok (.getfield 7, 3) := by decide +kernel
theorem dX3_making_33 : decode cX3_making 33 = .ok (.iload_n 1, 1) := by decide +kernel
theorem dX3_making_34 : decode cX3_making 34 = .ok (.iconst 1, 1) := by decide +kernel
theorem dX3_making_35 : decode cX3_making 35 = .ok (.iastore, 1) := by decide +kernel
theorem dX3_making_36 : decode cX3_making 36 = .ok (.aload_n 0, 1) := by decide +kernel
theorem dX3_making_37 : decode cX3_making 37 = .ok (.getfield 13, 3) := by decide +kernel
theorem dX3_making_40 : decode cX3_making 40 = .ok (.iload_n 1, 1) := by decide +kernel
theorem dX3_making_41 : decode cX3_making 41 = .ok (.iconst 0, 1) := by decide +kernel
theorem dX3_making_42 : decode cX3_making 42 = .ok (.iastore, 1) := by decide +kernel
theorem dX3_making_43 : decode cX3_making 43 = .ok (.aload_n 0, 1) := by decide +kernel
theorem dX3_making_44 : decode cX3_making 44 = .ok (.getfield 16, 3) := by decide +kernel
theorem dX3_making_47 : decode cX3_making 47 = .ok (.iload_n 1, 1) := by decide +kernel
theorem dX3_making_48 : decode cX3_making 48 = .ok (.iconst 1, 1) := by decide +kernel
theorem dX3_making_49 : decode cX3_making 49 = .ok (.iastore, 1) := by decide +kernel
theorem dX3_making_50 : decode cX3_making 50 = .ok (.aload_n 0, 1) := by decide +kernel
theorem dX3_making_51 : decode cX3_making 51 = .ok (.getfield 19, 3) := by decide +kernel
theorem dX3_making_54 : decode cX3_making 54 = .ok (.iload_n 1, 1) := by decide +kernel
theorem dX3_making_55 : decode cX3_making 55 = .ok (.iconst 1, 1) := by decide +kernel
theorem dX3_making_56 : decode cX3_making 56 = .ok (.iastore, 1) := by decide +kernel
theorem dX3_making_57 : decode cX3_making 57 = .ok (.aload_n 0, 1) := by decide +kernel
theorem dX3_making_58 : decode cX3_making 58 = .ok (.dup, 1) := by decide +kernel
theorem dX3_making_59 : decode cX3_making 59 = .ok (.getfield 50, 3) := by decide +kernel
theorem dX3_making_62 : decode cX3_making 62 = .ok (.iconst 1, 1) := by decide +kernel
theorem dX3_making_63 : decode cX3_making 63 = .ok (.iadd, 1) := by decide +kernel
theorem dX3_making_64 : decode cX3_making 64 = .ok (.putfield 50, 3) := by decide +kernel
theorem dX3_making_67 : decode cX3_making 67 = .ok (.aload_n 0, 1) := by decide +kernel
theorem dX3_making_68 : decode cX3_making 68 = .ok (.getfield 50, 3) := by decide +kernel
theorem dX3_making_71 : decode cX3_making 71 = .ok (.iconst 1, 1) := by decide +kernel
theorem dX3_making_72 : decode cX3_making 72 = .ok (.isub, 1) := by decide +kernel
theorem dX3_making_73 : decode cX3_making 73 = .ok (.ireturn, 1) := by decide +kernel
theorem dX3_out_0 : decode cX3_out 0 = .ok (.aload_n 0, 1) := by decide +kernel
theorem dX3_out_1 : decode cX3_out 1 = .ok (.iload_n 1, 1) := by decide +kernel
theorem dX3_out_2 : decode cX3_out 2 = .ok (.invokevirtual 61, 3) := by decide +kernel
theorem dX3_out_5 : decode cX3_out 5 = .ok (.ifCond .ne 6, 3) := by decide +kernel
theorem dX3_out_8 : decode cX3_out 8 = .ok (.bipush (-101), 2) := by decide +kernel
theorem dX3_out_10 : decode cX3_out 10 = .ok (.ireturn, 1) := by decide +kernel
theorem dX3_out_11 : decode cX3_out 11 = .ok (.iload_n 2, 1) := by decide +kernel
theorem dX3_out_12 : decode cX3_out 12 = .ok (.iconst 1, 1) := by decide +kernel
theorem dX3_out_13 : decode cX3_out 13 = .ok (.bipush 6, 2) := by decide +kernel
theorem dX3_out_15 : decode cX3_out 15 = .ok (.invokestatic 54, 3) := by decide +kernel
theorem dX3_out_18 : decode cX3_out 18 = .ok (.ifCond .ne 6, 3) := by decide +kernel
theorem dX3_out_21 : decode cX3_out 21 = .ok (.bipush (-102), 2) := by decide +kernel
theorem dX3_out_23 : decode cX3_out 23 = .ok (.ireturn, 1) := by decide +kernel
theorem dX3_out_24 : decode cX3_out 24 = .ok (.aload_n 0, 1) := by decide +kernel
theorem dX3_out_25 : decode cX3_out 25 = .ok (.getfield 7, 3) := by decide +kernel
theorem dX3_out_28 : decode cX3_out 28 = .ok (.bipush 24, 2) := by decide +kernel
theorem dX3_out_30 : decode cX3_out 30 = .ok (.iload_n 1, 1) := by decide +kernel
theorem dX3_out_31 : decode cX3_out 31 = .ok (.iadd, 1) := by decide +kernel
theorem dX3_out_32 : decode cX3_out 32 = .ok (.iaload, 1) := by decide +kernel
theorem dX3_out_33 : decode cX3_out 33 = .ok (.istore_n 3, 1) := by decide +kernel
theorem dX3_out_34 : decode cX3_out 34 = .ok (.aload_n 0, 1) := by decide +kernel
theorem dX3_out_35 : decode cX3_out 35 = .ok (.getfield 7, 3) := by decide +kernel
theorem dX3_out_38 : decode cX3_out 38 = .ok (.bipush 24, 2) := by decide +kernel
theorem dX3_out_40 : decode cX3_out 40 = .ok (.iload_n 1, 1) := by decide +kernel
theorem dX3_out_41 : decode cX3_out 41 = .ok (.iadd, 1) := by decide +kernel
theorem dX3_out_42 : decode cX3_out 42 = .ok (.iload_n 2, 1) := by decide +kernel
theorem dX3_out_43 : decode cX3_out 43 = .ok (.iastore, 1) := by decide +kernel
theorem dX3_out_44 : decode cX3_out 44 = .ok (.iload_n 3, 1) := by decide +kernel
theorem dX3_out_45 : decode cX3_out 45 = .ok (.ireturn, 1) := by decide +kernel
theorem dX3_needs_0 : decode cX3_needs 0 = .ok (.aload_n 0, 1) := by decide +kernel
theorem dX3_needs_1 : decode cX3_needs 1 = .ok (.iload_n 1, 1) := by decide +kernel
theorem dX3_needs_2 : decode cX3_needs 2 = .ok (.invokevirtual 61, 3) := by decide +kernel
theorem dX3_needs_5 : decode cX3_needs 5 = .ok (.ifCond .eq 11, 3) := by decide +kernel
theorem dX3_needs_8 : decode cX3_needs 8 = .ok (.aload_n 0, 1) := by decide +kernel
theorem dX3_needs_9 : decode cX3_needs 9 = .ok (.iload_n 2, 1) := by decide +kernel
theorem dX3_needs_10 : decode cX3_needs 10 = .ok (.invokevirtual 61, 3) := by decide +kernel
theorem dX3_needs_13 : decode cX3_needs 13 = .ok (.ifCond .ne 6, 3) := by decide +kernel
theorem dX3_needs_16 : decode cX3_needs 16 = .ok (.bipush (-101), 2) := by decide +kernel
theorem dX3_needs_18 : decode cX3_needs 18 = .ok (.ireturn, 1) := by decide +kernel
theorem dX3_needs_19 : decode cX3_needs 19 = .ok (.iload_n 3, 1) := by decide +kernel
theorem dX3_needs_20 : decode cX3_needs 20 = .ok (.iconst 0, 1) := by decide +kernel
theorem dX3_needs_21 : decode cX3_needs 21 = .ok (.bipush 6, 2) := by decide +kernel
theorem dX3_needs_23 : decode cX3_needs 23 = .ok (.invokestatic 54, 3) := by decide +kernel
theorem dX3_needs_26 : decode cX3_needs 26 = .ok (.ifCond .ne 6, 3) := by decide +kernel
theorem dX3_needs_29 : decode cX3_needs 29 = .ok (.bipush (-102), 2) := by decide +kernel
theorem dX3_needs_31 : decode cX3_needs 31 = .ok (.ireturn, 1) := by decide +kernel
theorem dX3_needs_32 : decode cX3_needs 32 = .ok (.bipush 96, 2) := by decide +kernel
theorem dX3_needs_34 : decode cX3_needs 34 = .ok (.iconst 4, 1) := by decide +kernel
theorem dX3_needs_35 : decode cX3_needs 35 = .ok (.iload_n 1, 1) := by decide +kernel
theorem dX3_needs_36 : decode cX3_needs 36 = .ok (.imul, 1) := by decide +kernel
theorem dX3_needs_37 : decode cX3_needs 37 = .ok (.iadd, 1) := by decide +kernel
theorem dX3_needs_38 : decode cX3_needs 38 = .ok (.iload_n 2, 1) := by decide +kernel
theorem dX3_needs_39 : decode cX3_needs 39 = .ok (.iadd, 1) := by decide +kernel
theorem dX3_needs_40 : decode cX3_needs 40 = .ok (.istore 4, 2) := by decide +kernel
theorem dX3_needs_42 : decode cX3_needs 42 = .ok (.aload_n 0, 1) := by decide +kernel
theorem dX3_needs_43 : decode cX3_needs 43 = .ok (.getfield 22, 3) := by decide +kernel
theorem dX3_needs_46 : decode cX3_needs 46 = .ok (.iload 4, 2) := by decide +kernel
theorem dX3_needs_48 : decode cX3_needs 48 = .ok (.iaload, 1) := by decide +kernel
theorem dX3_needs_49 : decode cX3_needs 49 = .ok (.istore 5, 2) := by decide +kernel
theorem dX3_needs_51 : decode cX3_needs 51 = .ok (.aload_n 0, 1) := by decide +kernel
theorem dX3_needs_52 : decode cX3_needs 52 = .ok (.getfield 22, 3) := by decide +kernel
theorem dX3_needs_55 : decode cX3_needs 55 = .ok (.iload 4, 2) := by decide +kernel
theorem dX3_needs_57 : decode cX3_needs 57 = .ok (.iload_n 3, 1) := by decide +kernel
theorem dX3_needs_58 : decode cX3_needs 58 = .ok (.iastore, 1) := by decide +kernel
theorem dX3_needs_59 : decode cX3_needs 59 = .ok (.iload 5, 2) := by decide +kernel
theorem dX3_needs_61 : decode cX3_needs 61 = .ok (.ireturn, 1) := by decide +kernel
theorem dX3_by_0 : decode cX3_by 0 = .ok (.aload_n 0, 1) := by decide +kernel
theorem dX3_by_1 : decode cX3_by 1 = .ok (.iload_n 1, 1) := by decide +kernel
theorem dX3_by_2 : decode cX3_by 2 = .ok (.invokevirtual 61, 3) := by decide +kernel
theorem dX3_by_5 : decode cX3_by 5 = .ok (.ifCond .eq 11, 3) := by decide +kernel
theorem dX3_by_8 : decode cX3_by 8 = .ok (.aload_n 0, 1) := by decide +kernel
theorem dX3_by_9 : decode cX3_by 9 = .ok (.iload_n 2, 1) := by decide +kernel
theorem dX3_by_10 : decode cX3_by 10 = .ok (.invokevirtual 61, 3) := by decide +kernel
theorem dX3_by_13 : decode cX3_by 13 = .ok (.ifCond .ne 6, 3) := by decide +kernel
theorem dX3_by_16 : decode cX3_by 16 = .ok (.bipush (-101), 2) := by decide +kernel
theorem dX3_by_18 : decode cX3_by 18 = .ok (.ireturn, 1) := by decide +kernel
theorem dX3_by_19 : decode cX3_by 19 = .ok (.iload_n 3, 1) := by decide +kernel
theorem dX3_by_20 : decode cX3_by 20 = .ok (.iconst 0, 1) := by decide +kernel
theorem dX3_by_21 : decode cX3_by 21 = .ok (.bipush 6, 2) := by decide +kernel
theorem dX3_by_23 : decode cX3_by 23 = .ok (.invokestatic 54, 3) := by decide +kernel
theorem dX3_by_26 : decode cX3_by 26 = .ok (.ifCond .eq 8, 3) := by decide +kernel
theorem dX3_by_29 : decode cX3_by 29 = .ok (.iload_n 1, 1) := by decide +kernel
theorem dX3_by_30 : decode cX3_by 30 = .ok (.iload_n 2, 1) := by decide +kernel
theorem dX3_by_31 : decode cX3_by 31 = .ok (.if_icmp .ne 6, 3) := by decide +kernel
theorem dX3_by_34 : decode cX3_by 34 = .ok (.bipush (-102), 2) := by decide +kernel
theorem dX3_by_36 : decode cX3_by 36 = .ok (.ireturn, 1) := by decide +kernel
theorem dX3_by_37 : decode cX3_by 37 = .ok (.bipush 96, 2) := by decide +kernel
theorem dX3_by_39 : decode cX3_by 39 = .ok (.iconst 4, 1) := by decide +kernel
theorem dX3_by_40 : decode cX3_by 40 = .ok (.iload_n 1, 1) := by decide +kernel
theorem dX3_by_41 : decode cX3_by 41 = .ok (.imul, 1) := by decide +kernel
theorem dX3_by_42 : decode cX3_by 42 = .ok (.iadd, 1) := by decide +kernel
theorem dX3_by_43 : decode cX3_by 43 = .ok (.iload_n 2, 1) := by decide +kernel
theorem dX3_by_44 : decode cX3_by 44 = .ok (.iadd, 1) := by decide +kernel
theorem dX3_by_45 : decode cX3_by 45 = .ok (.istore 4, 2) := by decide +kernel
theorem dX3_by_47 : decode cX3_by 47 = .ok (.aload_n 0, 1) := by decide +kernel
theorem dX3_by_48 : decode cX3_by 48 = .ok (.getfield 25, 3) := by decide +kernel
theorem dX3_by_51 : decode cX3_by 51 = .ok (.iload 4, 2) := by decide +kernel
theorem dX3_by_53 : decode cX3_by 53 = .ok (.iaload, 1) := by decide +kernel
theorem dX3_by_54 : decode cX3_by 54 = .ok (.istore 5, 2) := by decide +kernel
theorem dX3_by_56 : decode cX3_by 56 = .ok (.aload_n 0, 1) := by decide +kernel
theorem dX3_by_57 : decode cX3_by 57 = .ok (.getfield 25, 3) := by decide +kernel
theorem dX3_by_60 : decode cX3_by 60 = .ok (.iload 4, 2) := by decide +kernel
theorem dX3_by_62 : decode cX3_by 62 = .ok (.iload_n 3, 1) := by decide +kernel
theorem dX3_by_63 : decode cX3_by 63 = .ok (.iastore, 1) := by decide +kernel
theorem dX3_by_64 : decode cX3_by 64 = .ok (.iload 5, 2) := by decide +kernel
theorem dX3_by_66 : decode cX3_by 66 = .ok (.ireturn, 1) := by decide +kernel
theorem dX3_emits_0 : decode cX3_emits 0 = .ok (.aload_n 0, 1) := by decide +kernel
theorem dX3_emits_1 : decode cX3_emits 1 = .ok (.iload_n 1, 1) := by decide +kernel
theorem dX3_emits_2 : decode cX3_emits 2 = .ok (.invokevirtual 61, 3) := by decide +kernel
theorem dX3_emits_5 : decode cX3_emits 5 = .ok (.ifCond .eq 10, 3) := by decide +kernel
theorem dX3_emits_8 : decode cX3_emits 8 = .ok (.iload_n 2, 1) := by decide +kernel
theorem dX3_emits_9 : decode cX3_emits 9 = .ok (.invokestatic 65, 3) := by decide +kernel
theorem dX3_emits_12 : decode cX3_emits 12 = .ok (.ifCond .ne 6, 3) := by decide +kernel
theorem dX3_emits_15 : decode cX3_emits 15 = .ok (.bipush (-101), 2) := by decide +kernel
theorem dX3_emits_17 : decode cX3_emits 17 = .ok (.ireturn, 1) := by decide +kernel
theorem dX3_emits_18 : decode cX3_emits 18 = .ok (.iload_n 3, 1) := by decide +kernel
theorem dX3_emits_19 : decode cX3_emits 19 = .ok (.ifCond .lt 23, 3) := by decide +kernel
theorem dX3_emits_22 : decode cX3_emits 22 = .ok (.iload 4, 2) := by decide +kernel
theorem dX3_emits_24 : decode cX3_emits 24 = .ok (.iload_n 3, 1) := by decide +kernel
theorem dX3_emits_25 : decode cX3_emits 25 = .ok (.if_icmp .lt 17, 3) := by decide +kernel
theorem dX3_emits_28 : decode cX3_emits 28 = .ok (.iload 5, 2) := by decide +kernel
theorem dX3_emits_30 : decode cX3_emits 30 = .ok (.iload 4, 2) := by decide +kernel
theorem dX3_emits_32 : decode cX3_emits 32 = .ok (.if_icmp .lt 10, 3) := by decide +kernel
theorem dX3_emits_35 : decode cX3_emits 35 = .ok (.iload 5, 2) := by decide +kernel
theorem dX3_emits_37 : decode cX3_emits 37 = .ok (.bipush 100, 2) := by decide +kernel
theorem dX3_emits_39 : decode cX3_emits 39 = .ok (.if_icmp .le 6, 3) := by decide +kernel
theorem dX3_emits_42 : decode cX3_emits 42 = .ok (.bipush (-102), 2) := by decide +kernel
theorem dX3_emits_44 : decode cX3_emits 44 = .ok (.ireturn, 1) := by decide +kernel
theorem dX3_emits_45 : decode cX3_emits 45 = .ok (.sipush 216, 3) := by decide +kernel
theorem dX3_emits_48 : decode cX3_emits 48 = .ok (.bipush 9, 2) := by decide +kernel
theorem dX3_emits_50 : decode cX3_emits 50 = .ok (.iload_n 1, 1) := by decide +kernel
theorem dX3_emits_51 : decode cX3_emits 51 = .ok (.imul, 1) := by decide +kernel
theorem dX3_emits_52 : decode cX3_emits 52 = .ok (.iadd, 1) := by decide +kernel
theorem dX3_emits_53 : decode cX3_emits 53 = .ok (.iload_n 2, 1) := by decide +kernel
theorem dX3_emits_54 : decode cX3_emits 54 = .ok (.iadd, 1) := by decide +kernel
theorem dX3_emits_55 : decode cX3_emits 55 = .ok (.istore 6, 2) := by decide +kernel
theorem dX3_emits_57 : decode cX3_emits 57 = .ok (.aload_n 0, 1) := by decide +kernel
theorem dX3_emits_58 : decode cX3_emits 58 = .ok (.getfield 28, 3) := by decide +kernel
theorem dX3_emits_61 : decode cX3_emits 61 = .ok (.iload 6, 2) := by decide +kernel
theorem dX3_emits_63 : decode cX3_emits 63 = .ok (.iload_n 3, 1) := by decide +kernel
theorem dX3_emits_64 : decode cX3_emits 64 = .ok (.iastore, 1) := by decide +kernel
theorem dX3_emits_65 : decode cX3_emits 65 = .ok (.aload_n 0, 1) := by decide +kernel
theorem dX3_emits_66 : decode cX3_emits 66 = .ok (.getfield 28, 3) := by decide +kernel
theorem dX3_emits_69 : decode cX3_emits 69 = .ok (.iload 6, 2) := by decide +kernel
theorem dX3_emits_71 : decode cX3_emits 71 = .ok (.iconst 3, 1) := by decide +kernel
theorem dX3_emits_72 : decode cX3_emits 72 = .ok (.iadd, 1) := by decide +kernel
theorem dX3_emits_73 : decode cX3_emits 73 = .ok (.iload 4, 2) := by decide +kernel
theorem dX3_emits_75 : decode cX3_emits 75 = .ok (.iastore, 1) := by decide +kernel
theorem dX3_emits_76 : decode cX3_emits 76 = .ok (.aload_n 0, 1) := by decide +kernel
theorem dX3_emits_77 : decode cX3_emits 77 = .ok (.getfield 28, 3) := by decide +kernel
theorem dX3_emits_80 : decode cX3_emits 80 = .ok (.iload 6, 2) := by decide +kernel
theorem dX3_emits_82 : decode cX3_emits 82 = .ok (.bipush 6, 2) := by decide +kernel
theorem dX3_emits_84 : decode cX3_emits 84 = .ok (.iadd, 1) := by decide +kernel
theorem dX3_emits_85 : decode cX3_emits 85 = .ok (.iload 5, 2) := by decide +kernel
theorem dX3_emits_87 : decode cX3_emits 87 = .ok (.iastore, 1) := by decide +kernel
theorem dX3_emits_88 : decode cX3_emits 88 = .ok (.iconst 1, 1) := by decide +kernel
theorem dX3_emits_89 : decode cX3_emits 89 = .ok (.ireturn, 1) := by decide +kernel
theorem dX3_good_0 : decode cX3_good 0 = .ok (.aload_n 0, 1) := by decide +kernel
theorem dX3_good_1 : decode cX3_good 1 = .ok (.iload_n 1, 1) := by decide +kernel
theorem dX3_good_2 : decode cX3_good 2 = .ok (.invokevirtual 61, 3) := by decide +kernel
theorem dX3_good_5 : decode cX3_good 5 = .ok (.ifCond .ne 6, 3) := by decide +kernel
theorem dX3_good_8 : decode cX3_good 8 = .ok (.bipush (-101), 2) := by decide +kernel
theorem dX3_good_10 : decode cX3_good 10 = .ok (.ireturn, 1) := by decide +kernel
theorem dX3_good_11 : decode cX3_good 11 = .ok (.iload_n 2, 1) := by decide +kernel
theorem dX3_good_12 : decode cX3_good 12 = .ok (.iconst 1, 1) := by decide +kernel
theorem dX3_good_13 : decode cX3_good 13 = .ok (.iconst 5, 1) := by decide +kernel
theorem dX3_good_14 : decode cX3_good 14 = .ok (.invokestatic 54, 3) := by decide +kernel
theorem dX3_good_17 : decode cX3_good 17 = .ok (.ifCond .eq 12, 3) := by decide +kernel
theorem dX3_good_20 : decode cX3_good 20 = .ok (.iload_n 3, 1) := by decide +kernel
theorem dX3_good_21 : decode cX3_good 21 = .ok (.iconst 1, 1) := by decide +kernel
theorem dX3_good_22 : decode cX3_good 22 = .ok (.iconst 5, 1) := by decide +kernel
theorem dX3_good_23 : decode cX3_good 23 = .ok (.invokestatic 54, 3) := by decide +kernel
theorem dX3_good_26 : decode cX3_good 26 = .ok (.ifCond .ne 6, 3) := by decide +kernel
theorem dX3_good_29 : decode cX3_good 29 = .ok (.bipush (-102), 2) := by decide +kernel
theorem dX3_good_31 : decode cX3_good 31 = .ok (.ireturn, 1) := by decide +kernel
theorem dX3_good_32 : decode cX3_good 32 = .ok (.aload_n 0, 1) := by decide +kernel
theorem dX3_good_33 : decode cX3_good 33 = .ok (.getfield 16, 3) := by decide +kernel
theorem dX3_good_36 : decode cX3_good 36 = .ok (.bipush 24, 2) := by decide +kernel
theorem dX3_good_38 : decode cX3_good 38 = .ok (.iload_n 1, 1) := by decide +kernel
theorem dX3_good_39 : decode cX3_good 39 = .ok (.iadd, 1) := by decide +kernel
theorem dX3_good_40 : decode cX3_good 40 = .ok (.iload_n 2, 1) := by decide +kernel
theorem dX3_good_41 : decode cX3_good 41 = .ok (.iastore, 1) := by decide +kernel
theorem dX3_good_42 : decode cX3_good 42 = .ok (.aload_n 0, 1) := by decide +kernel
theorem dX3_good_43 : decode cX3_good 43 = .ok (.getfield 19, 3) := by decide +kernel
theorem dX3_good_46 : decode cX3_good 46 = .ok (.bipush 24, 2) := by decide +kernel
theorem dX3_good_48 : decode cX3_good 48 = .ok (.iload_n 1, 1) := by decide +kernel
theorem dX3_good_49 : decode cX3_good 49 = .ok (.iadd, 1) := by decide +kernel
theorem dX3_good_50 : decode cX3_good 50 = .ok (.iload_n 3, 1) := by decide +kernel
theorem dX3_good_51 : decode cX3_good 51 = .ok (.iastore, 1) := by decide +kernel
theorem dX3_good_52 : decode cX3_good 52 = .ok (.iconst 1, 1) := by decide +kernel
theorem dX3_good_53 : decode cX3_good 53 = .ok (.ireturn, 1) := by decide +kernel
theorem dX3_rule_0 : decode cX3_rule 0 = .ok (.aload_n 0, 1) := by decide +kernel
theorem dX3_rule_1 : decode cX3_rule 1 = .ok (.iload_n 1, 1) := by decide +kernel
theorem dX3_rule_2 : decode cX3_rule 2 = .ok (.invokevirtual 61, 3) := by decide +kernel
theorem dX3_rule_5 : decode cX3_rule 5 = .ok (.ifCond .ne 6, 3) := by decide +kernel
theorem dX3_rule_8 : decode cX3_rule 8 = .ok (.bipush (-101), 2) := by decide +kernel
theorem dX3_rule_10 : decode cX3_rule 10 = .ok (.ireturn, 1) := by decide +kernel
theorem dX3_rule_11 : decode cX3_rule 11 = .ok (.iload_n 2, 1) := by decide +kernel
theorem dX3_rule_12 : decode cX3_rule 12 = .ok (.iconst 0, 1) := by decide +kernel
theorem dX3_rule_13 : decode cX3_rule 13 = .ok (.iconst 2, 1) := by decide +kernel
theorem dX3_rule_14 : decode cX3_rule 14 = .ok (.invokestatic 54, 3) := by decide +kernel
theorem dX3_rule_17 : decode cX3_rule 17 = .ok (.ifCond .ne 6, 3) := by decide +kernel
theorem dX3_rule_20 : decode cX3_rule 20 = .ok (.bipush (-102), 2) := by decide +kernel
theorem dX3_rule_22 : decode cX3_rule 22 = .ok (.ireturn, 1) := by decide +kernel
theorem dX3_rule_23 : decode cX3_rule 23 = .ok (.aload_n 0, 1) := by decide +kernel
theorem dX3_rule_24 : decode cX3_rule 24 = .ok (.getfield 13, 3) := by decide +kernel
theorem dX3_rule_27 : decode cX3_rule 27 = .ok (.bipush 24, 2) := by decide +kernel
theorem dX3_rule_29 : decode cX3_rule 29 = .ok (.iload_n 1, 1) := by decide +kernel
theorem dX3_rule_30 : decode cX3_rule 30 = .ok (.iadd, 1) := by decide +kernel
theorem dX3_rule_31 : decode cX3_rule 31 = .ok (.iaload, 1) := by decide +kernel
theorem dX3_rule_32 : decode cX3_rule 32 = .ok (.istore_n 3, 1) := by decide +kernel
theorem dX3_rule_33 : decode cX3_rule 33 = .ok (.aload_n 0, 1) := by decide +kernel
theorem dX3_rule_34 : decode cX3_rule 34 = .ok (.getfield 13, 3) := by decide +kernel
theorem dX3_rule_37 : decode cX3_rule 37 = .ok (.bipush 24, 2) := by decide +kernel
theorem dX3_rule_39 : decode cX3_rule 39 = .ok (.iload_n 1, 1) := by decide +kernel
theorem dX3_rule_40 : decode cX3_rule 40 = .ok (.iadd, 1) := by decide +kernel
theorem dX3_rule_41 : decode cX3_rule 41 = .ok (.iload_n 2, 1) := by decide +kernel
theorem dX3_rule_42 : decode cX3_rule 42 = .ok (.iastore, 1) := by decide +kernel
theorem dX3_rule_43 : decode cX3_rule 43 = .ok (.iload_n 3, 1) := by decide +kernel
theorem dX3_rule_44 : decode cX3_rule 44 = .ok (.ireturn, 1) := by decide +kernel
theorem dX3_value_0 : decode cX3_value 0 = .ok (.iload_n 3, 1) := by decide +kernel
theorem dX3_value_1 : decode cX3_value 1 = .ok (.ifCond .ne 16, 3) := by decide +kernel
theorem dX3_value_4 : decode cX3_value 4 = .ok (.aload_n 0, 1) := by decide +kernel
theorem dX3_value_5 : decode cX3_value 5 = .ok (.getfield 16, 3) := by decide +kernel
theorem dX3_value_8 : decode cX3_value 8 = .ok (.iconst 4, 1) := by decide +kernel
theorem dX3_value_9 : decode cX3_value 9 = .ok (.iload_n 1, 1) := by decide +kernel
theorem dX3_value_10 : decode cX3_value 10 = .ok (.imul, 1) := by decide +kernel
theorem dX3_value_11 : decode cX3_value 11 = .ok (.iload_n 2, 1) := by decide +kernel
theorem dX3_value_12 : decode cX3_value 12 = .ok (.iadd, 1) := by decide +kernel
theorem dX3_value_13 : decode cX3_value 13 = .ok (.iaload, 1) := by decide +kernel
theorem dX3_value_14 : decode cX3_value 14 = .ok (.goto 13, 3) := by decide +kernel
theorem dX3_value_17 : decode cX3_value 17 = .ok (.aload_n 0, 1) := by decide +kernel
theorem dX3_value_18 : decode cX3_value 18 = .ok (.getfield 19, 3) := by decide +kernel
theorem dX3_value_21 : decode cX3_value 21 = .ok (.iconst 4, 1) := by decide +kernel
theorem dX3_value_22 : decode cX3_value 22 = .ok (.iload_n 1, 1) := by decide +kernel
theorem dX3_value_23 : decode cX3_value 23 = .ok (.imul, 1) := by decide +kernel
theorem dX3_value_24 : decode cX3_value 24 = .ok (.iload_n 2, 1) := by decide +kernel
theorem dX3_value_25 : decode cX3_value 25 = .ok (.iadd, 1) := by decide +kernel
theorem dX3_value_26 : decode cX3_value 26 = .ok (.iaload, 1) := by decide +kernel
theorem dX3_value_27 : decode cX3_value 27 = .ok (.ireturn, 1) := by decide +kernel
theorem dX3_mainOf_0 : decode cX3_mainOf 0 = .ok (.aload_n 0, 1) := by decide +kernel
theorem dX3_mainOf_1 : decode cX3_mainOf 1 = .ok (.getfield 13, 3) := by decide +kernel
theorem dX3_mainOf_4 : decode cX3_mainOf 4 = .ok (.iconst 4, 1) := by decide +kernel
theorem dX3_mainOf_5 : decode cX3_mainOf 5 = .ok (.iload_n 1, 1) := by decide +kernel
theorem dX3_mainOf_6 : decode cX3_mainOf 6 = .ok (.imul, 1) := by decide +kernel
theorem dX3_mainOf_7 : decode cX3_mainOf 7 = .ok (.iload_n 2, 1) := by decide +kernel
theorem dX3_mainOf_8 : decode cX3_mainOf 8 = .ok (.iadd, 1) := by decide +kernel
theorem dX3_mainOf_9 : decode cX3_mainOf 9 = .ok (.iaload, 1) := by decide +kernel
theorem dX3_mainOf_10 : decode cX3_mainOf 10 = .ok (.istore_n 3, 1) := by decide +kernel
theorem dX3_mainOf_11 : decode cX3_mainOf 11 = .ok (.iload_n 3, 1) := by decide +kernel
theorem dX3_mainOf_12 : decode cX3_mainOf 12 = .ok (.iconst 2, 1) := by decide +kernel
theorem dX3_mainOf_13 : decode cX3_mainOf 13 = .ok (.if_icmp .ne 7, 3) := by decide +kernel
theorem dX3_mainOf_16 : decode cX3_mainOf 16 = .ok (.iconst 1, 1) := by decide +kernel
theorem dX3_mainOf_17 : decode cX3_mainOf 17 = .ok (.goto 21, 3) := by decide +kernel
theorem dX3_mainOf_20 : decode cX3_mainOf 20 = .ok (.aload_n 0, 1) := by decide +kernel
theorem dX3_mainOf_21 : decode cX3_mainOf 21 = .ok (.getfield 7, 3) := by decide +kernel
theorem dX3_mainOf_24 : decode cX3_mainOf 24 = .ok (.iconst 4, 1) := by decide +kernel
theorem dX3_mainOf_25 : decode cX3_mainOf 25 = .ok (.iload_n 1, 1) := by decide +kernel
theorem dX3_mainOf_26 : decode cX3_mainOf 26 = .ok (.imul, 1) := by decide +kernel
theorem dX3_mainOf_27 : decode cX3_mainOf 27 = .ok (.iload_n 2, 1) := by decide +kernel
theorem dX3_mainOf_28 : decode cX3_mainOf 28 = .ok (.iadd, 1) := by decide +kernel
theorem dX3_mainOf_29 : decode cX3_mainOf 29 = .ok (.iaload, 1) := by decide +kernel
theorem dX3_mainOf_30 : decode cX3_mainOf 30 = .ok (.aload_n 0, 1) := by decide +kernel
theorem dX3_mainOf_31 : decode cX3_mainOf 31 = .ok (.iload_n 1, 1) := by decide +kernel
theorem dX3_mainOf_32 : decode cX3_mainOf 32 = .ok (.iload_n 2, 1) := by decide +kernel
theorem dX3_mainOf_33 : decode cX3_mainOf 33 = .ok (.iload_n 3, 1) := by decide +kernel
theorem dX3_mainOf_34 : decode cX3_mainOf 34 = .ok (.invokevirtual 68, 3) := by decide +kernel
theorem dX3_mainOf_37 : decode cX3_mainOf 37 = .ok (.imul, 1) := by decide +kernel
theorem dX3_mainOf_38 : decode cX3_mainOf 38 = .ok (.ireturn, 1) := by decide +kernel
theorem dX3_allOf_0 : decode cX3_allOf 0 = .ok (.aload_n 0, 1) := by decide +kernel
theorem dX3_allOf_1 : decode cX3_allOf 1 = .ok (.getfield 13, 3) := by decide +kernel
theorem dX3_allOf_4 : decode cX3_allOf 4 = .ok (.iconst 4, 1) := by decide +kernel
theorem dX3_allOf_5 : decode cX3_allOf 5 = .ok (.iload_n 1, 1) := by decide +kernel
theorem dX3_allOf_6 : decode cX3_allOf 6 = .ok (.imul, 1) := by decide +kernel
theorem dX3_allOf_7 : decode cX3_allOf 7 = .ok (.iload_n 2, 1) := by decide +kernel
theorem dX3_allOf_8 : decode cX3_allOf 8 = .ok (.iadd, 1) := by decide +kernel
theorem dX3_allOf_9 : decode cX3_allOf 9 = .ok (.iaload, 1) := by decide +kernel
theorem dX3_allOf_10 : decode cX3_allOf 10 = .ok (.istore_n 3, 1) := by decide +kernel
theorem dX3_allOf_11 : decode cX3_allOf 11 = .ok (.aload_n 0, 1) := by decide +kernel
theorem dX3_allOf_12 : decode cX3_allOf 12 = .ok (.iload_n 1, 1) := by decide +kernel
theorem dX3_allOf_13 : decode cX3_allOf 13 = .ok (.iload_n 2, 1) := by decide +kernel
theorem dX3_allOf_14 : decode cX3_allOf 14 = .ok (.invokevirtual 72, 3) := by decide +kernel
theorem dX3_allOf_17 : decode cX3_allOf 17 = .ok (.istore 4, 2) := by decide +kernel
theorem dX3_allOf_19 : decode cX3_allOf 19 = .ok (.iconst 0, 1) := by decide +kernel
theorem dX3_allOf_20 : decode cX3_allOf 20 = .ok (.istore 5, 2) := by decide +kernel
theorem dX3_allOf_22 : decode cX3_allOf 22 = .ok (.iload 5, 2) := by decide +kernel
theorem dX3_allOf_24 : decode cX3_allOf 24 = .ok (.aload_n 0, 1) := by decide +kernel
theorem dX3_allOf_25 : decode cX3_allOf 25 = .ok (.getfield 50, 3) := by decide +kernel
theorem dX3_allOf_28 : decode cX3_allOf 28 = .ok (.if_icmp .ge 44, 3) := by decide +kernel
theorem dX3_allOf_31 : decode cX3_allOf 31 = .ok (.iload_n 3, 1) := by decide +kernel
theorem dX3_allOf_32 : decode cX3_allOf 32 = .ok (.iconst 2, 1) := by decide +kernel
theorem dX3_allOf_33 : decode cX3_allOf 33 = .ok (.if_icmp .ge 39, 3) := by decide +kernel
theorem dX3_allOf_36 : decode cX3_allOf 36 = .ok (.iload 4, 2) := by decide +kernel
theorem dX3_allOf_38 : decode cX3_allOf 38 = .ok (.aload_n 0, 1) := by decide +kernel
theorem dX3_allOf_39 : decode cX3_allOf 39 = .ok (.getfield 25, 3) := by decide +kernel
theorem dX3_allOf_42 : decode cX3_allOf 42 = .ok (.bipush 16, 2) := by decide +kernel
theorem dX3_allOf_44 : decode cX3_allOf 44 = .ok (.iload_n 1, 1) := by decide +kernel
theorem dX3_allOf_45 : decode cX3_allOf 45 = .ok (.imul, 1) := by decide +kernel
theorem dX3_allOf_46 : decode cX3_allOf 46 = .ok (.iconst 4, 1) := by decide +kernel
theorem dX3_allOf_47 : decode cX3_allOf 47 = .ok (.iload_n 2, 1) := by decide +kernel
theorem dX3_allOf_48 : decode cX3_allOf 48 = .ok (.imul, 1) := by decide +kernel
theorem dX3_allOf_49 : decode cX3_allOf 49 = .ok (.iadd, 1) := by decide +kernel
theorem dX3_allOf_50 : decode cX3_allOf 50 = .ok (.iload 5, 2) := by decide +kernel
theorem dX3_allOf_52 : decode cX3_allOf 52 = .ok (.iadd, 1) := by decide +kernel
theorem dX3_allOf_53 : decode cX3_allOf 53 = .ok (.iaload, 1) := by decide +kernel
theorem dX3_allOf_54 : decode cX3_allOf 54 = .ok (.aload_n 0, 1) := by decide +kernel
theorem dX3_allOf_55 : decode cX3_allOf 55 = .ok (.iload_n 1, 1) := by decide +kernel
theorem dX3_allOf_56 : decode cX3_allOf 56 = .ok (.iload 5, 2) := by decide +kernel
theorem dX3_allOf_58 : decode cX3_allOf 58 = .ok (.iload_n 3, 1) := by decide +kernel
theorem dX3_allOf_59 : decode cX3_allOf 59 = .ok (.invokevirtual 68, 3) := by decide +kernel
theorem dX3_allOf_62 : decode cX3_allOf 62 = .ok (.imul, 1) := by decide +kernel
theorem dX3_allOf_63 : decode cX3_allOf 63 = .ok (.iadd, 1) := by decide +kernel
theorem dX3_allOf_64 : decode cX3_allOf 64 = .ok (.istore 4, 2) := by decide +kernel
theorem dX3_allOf_66 : decode cX3_allOf 66 = .ok (.iinc 5 1, 3) := by decide +kernel
theorem dX3_allOf_69 : decode cX3_allOf 69 = .ok (.goto (-47), 3) := by decide +kernel
theorem dX3_allOf_72 : decode cX3_allOf 72 = .ok (.iload 4, 2) := by decide +kernel
theorem dX3_allOf_74 : decode cX3_allOf 74 = .ok (.ireturn, 1) := by decide +kernel
theorem dX3_toldOf_0 : decode cX3_toldOf 0 = .ok (.iload_n 2, 1) := by decide +kernel
theorem dX3_toldOf_1 : decode cX3_toldOf 1 = .ok (.lookupswitch 115 #[(0, 59), (1, 69), (2, 79), (3, 87), (21, 95), (22, 105)], 59) := by decide +kernel
theorem dX3_toldOf_60 : decode cX3_toldOf 60 = .ok (.aload_n 0, 1) := by decide +kernel
theorem dX3_toldOf_61 : decode cX3_toldOf 61 = .ok (.getfield 7, 3) := by decide +kernel
theorem dX3_toldOf_64 : decode cX3_toldOf 64 = .ok (.bipush 24, 2) := by decide +kernel
theorem dX3_toldOf_66 : decode cX3_toldOf 66 = .ok (.iload_n 1, 1) := by decide +kernel
theorem dX3_toldOf_67 : decode cX3_toldOf 67 = .ok (.iadd, 1) := by decide +kernel
theorem dX3_toldOf_68 : decode cX3_toldOf 68 = .ok (.iaload, 1) := by decide +kernel
theorem dX3_toldOf_69 : decode cX3_toldOf 69 = .ok (.ireturn, 1) := by decide +kernel
theorem dX3_toldOf_70 : decode cX3_toldOf 70 = .ok (.aload_n 0, 1) := by decide +kernel
theorem dX3_toldOf_71 : decode cX3_toldOf 71 = .ok (.getfield 13, 3) := by decide +kernel
theorem dX3_toldOf_74 : decode cX3_toldOf 74 = .ok (.bipush 24, 2) := by decide +kernel
theorem dX3_toldOf_76 : decode cX3_toldOf 76 = .ok (.iload_n 1, 1) := by decide +kernel
theorem dX3_toldOf_77 : decode cX3_toldOf 77 = .ok (.iadd, 1) := by decide +kernel
theorem dX3_toldOf_78 : decode cX3_toldOf 78 = .ok (.iaload, 1) := by decide +kernel
theorem dX3_toldOf_79 : decode cX3_toldOf 79 = .ok (.ireturn, 1) := by decide +kernel
theorem dX3_toldOf_80 : decode cX3_toldOf 80 = .ok (.aload_n 0, 1) := by decide +kernel
theorem dX3_toldOf_81 : decode cX3_toldOf 81 = .ok (.bipush 6, 2) := by decide +kernel
theorem dX3_toldOf_83 : decode cX3_toldOf 83 = .ok (.iload_n 1, 1) := by decide +kernel
theorem dX3_toldOf_84 : decode cX3_toldOf 84 = .ok (.invokevirtual 72, 3) := by decide +kernel
theorem dX3_toldOf_87 : decode cX3_toldOf 87 = .ok (.ireturn, 1) := by decide +kernel
theorem dX3_toldOf_88 : decode cX3_toldOf 88 = .ok (.aload_n 0, 1) := by decide +kernel
theorem dX3_toldOf_89 : decode cX3_toldOf 89 = .ok (.bipush 6, 2) := by decide +kernel
theorem dX3_toldOf_91 : decode cX3_toldOf 91 = .ok (.iload_n 1, 1) := by decide +kernel
theorem dX3_toldOf_92 : decode cX3_toldOf 92 = .ok (.invokevirtual 76, 3) := by decide +kernel
theorem dX3_toldOf_95 : decode cX3_toldOf 95 = .ok (.ireturn, 1) := by decide +kernel
theorem dX3_toldOf_96 : decode cX3_toldOf 96 = .ok (.aload_n 0, 1) := by decide +kernel
theorem dX3_toldOf_97 : decode cX3_toldOf 97 = .ok (.getfield 16, 3) := by decide +kernel
theorem dX3_toldOf_100 : decode cX3_toldOf 100 = .ok (.bipush 24, 2) := by decide +kernel
theorem dX3_toldOf_102 : decode cX3_toldOf 102 = .ok (.iload_n 1, 1) := by decide +kernel
theorem dX3_toldOf_103 : decode cX3_toldOf 103 = .ok (.iadd, 1) := by decide +kernel
theorem dX3_toldOf_104 : decode cX3_toldOf 104 = .ok (.iaload, 1) := by decide +kernel
theorem dX3_toldOf_105 : decode cX3_toldOf 105 = .ok (.ireturn, 1) := by decide +kernel
theorem dX3_toldOf_106 : decode cX3_toldOf 106 = .ok (.aload_n 0, 1) := by decide +kernel
theorem dX3_toldOf_107 : decode cX3_toldOf 107 = .ok (.getfield 19, 3) := by decide +kernel
theorem dX3_toldOf_110 : decode cX3_toldOf 110 = .ok (.bipush 24, 2) := by decide +kernel
theorem dX3_toldOf_112 : decode cX3_toldOf 112 = .ok (.iload_n 1, 1) := by decide +kernel
theorem dX3_toldOf_113 : decode cX3_toldOf 113 = .ok (.iadd, 1) := by decide +kernel
theorem dX3_toldOf_114 : decode cX3_toldOf 114 = .ok (.iaload, 1) := by decide +kernel
theorem dX3_toldOf_115 : decode cX3_toldOf 115 = .ok (.ireturn, 1) := by decide +kernel
theorem dX3_toldOf_116 : decode cX3_toldOf 116 = .ok (.iload_n 2, 1) := by decide +kernel
theorem dX3_toldOf_117 : decode cX3_toldOf 117 = .ok (.bipush 8, 2) := by decide +kernel
theorem dX3_toldOf_119 : decode cX3_toldOf 119 = .ok (.if_icmp .ge 21, 3) := by decide +kernel
theorem dX3_toldOf_122 : decode cX3_toldOf 122 = .ok (.aload_n 0, 1) := by decide +kernel
theorem dX3_toldOf_123 : decode cX3_toldOf 123 = .ok (.getfield 22, 3) := by decide +kernel
theorem dX3_toldOf_126 : decode cX3_toldOf 126 = .ok (.bipush 96, 2) := by decide +kernel
theorem dX3_toldOf_128 : decode cX3_toldOf 128 = .ok (.iconst 4, 1) := by decide +kernel
theorem dX3_toldOf_129 : decode cX3_toldOf 129 = .ok (.iload_n 1, 1) := by decide +kernel
theorem dX3_toldOf_130 : decode cX3_toldOf 130 = .ok (.imul, 1) := by decide +kernel
theorem dX3_toldOf_131 : decode cX3_toldOf 131 = .ok (.iadd, 1) := by decide +kernel
theorem dX3_toldOf_132 : decode cX3_toldOf 132 = .ok (.iload_n 2, 1) := by decide +kernel
theorem dX3_toldOf_133 : decode cX3_toldOf 133 = .ok (.iadd, 1) := by decide +kernel
theorem dX3_toldOf_134 : decode cX3_toldOf 134 = .ok (.iconst 4, 1) := by decide +kernel
theorem dX3_toldOf_135 : decode cX3_toldOf 135 = .ok (.isub, 1) := by decide +kernel
theorem dX3_toldOf_136 : decode cX3_toldOf 136 = .ok (.iaload, 1) := by decide +kernel
theorem dX3_toldOf_137 : decode cX3_toldOf 137 = .ok (.goto 46, 3) := by decide +kernel
theorem dX3_toldOf_140 : decode cX3_toldOf 140 = .ok (.iload_n 2, 1) := by decide +kernel
theorem dX3_toldOf_141 : decode cX3_toldOf 141 = .ok (.bipush 12, 2) := by decide +kernel
theorem dX3_toldOf_143 : decode cX3_toldOf 143 = .ok (.if_icmp .ge 22, 3) := by decide +kernel
theorem dX3_toldOf_146 : decode cX3_toldOf 146 = .ok (.aload_n 0, 1) := by decide +kernel
theorem dX3_toldOf_147 : decode cX3_toldOf 147 = .ok (.getfield 25, 3) := by decide +kernel
theorem dX3_toldOf_150 : decode cX3_toldOf 150 = .ok (.bipush 96, 2) := by decide +kernel
theorem dX3_toldOf_152 : decode cX3_toldOf 152 = .ok (.iconst 4, 1) := by decide +kernel
theorem dX3_toldOf_153 : decode cX3_toldOf 153 = .ok (.iload_n 1, 1) := by decide +kernel
theorem dX3_toldOf_154 : decode cX3_toldOf 154 = .ok (.imul, 1) := by decide +kernel
theorem dX3_toldOf_155 : decode cX3_toldOf 155 = .ok (.iadd, 1) := by decide +kernel
theorem dX3_toldOf_156 : decode cX3_toldOf 156 = .ok (.iload_n 2, 1) := by decide +kernel
theorem dX3_toldOf_157 : decode cX3_toldOf 157 = .ok (.iadd, 1) := by decide +kernel
theorem dX3_toldOf_158 : decode cX3_toldOf 158 = .ok (.bipush 8, 2) := by decide +kernel
theorem dX3_toldOf_160 : decode cX3_toldOf 160 = .ok (.isub, 1) := by decide +kernel
theorem dX3_toldOf_161 : decode cX3_toldOf 161 = .ok (.iaload, 1) := by decide +kernel
theorem dX3_toldOf_162 : decode cX3_toldOf 162 = .ok (.goto 21, 3) := by decide +kernel
theorem dX3_toldOf_165 : decode cX3_toldOf 165 = .ok (.aload_n 0, 1) := by decide +kernel
theorem dX3_toldOf_166 : decode cX3_toldOf 166 = .ok (.getfield 28, 3) := by decide +kernel
theorem dX3_toldOf_169 : decode cX3_toldOf 169 = .ok (.sipush 216, 3) := by decide +kernel
theorem dX3_toldOf_172 : decode cX3_toldOf 172 = .ok (.bipush 9, 2) := by decide +kernel
theorem dX3_toldOf_174 : decode cX3_toldOf 174 = .ok (.iload_n 1, 1) := by decide +kernel
theorem dX3_toldOf_175 : decode cX3_toldOf 175 = .ok (.imul, 1) := by decide +kernel
theorem dX3_toldOf_176 : decode cX3_toldOf 176 = .ok (.iadd, 1) := by decide +kernel
theorem dX3_toldOf_177 : decode cX3_toldOf 177 = .ok (.iload_n 2, 1) := by decide +kernel
theorem dX3_toldOf_178 : decode cX3_toldOf 178 = .ok (.iadd, 1) := by decide +kernel
theorem dX3_toldOf_179 : decode cX3_toldOf 179 = .ok (.bipush 12, 2) := by decide +kernel
theorem dX3_toldOf_181 : decode cX3_toldOf 181 = .ok (.isub, 1) := by decide +kernel
theorem dX3_toldOf_182 : decode cX3_toldOf 182 = .ok (.iaload, 1) := by decide +kernel
theorem dX3_toldOf_183 : decode cX3_toldOf 183 = .ok (.ireturn, 1) := by decide +kernel
theorem dX3_told_0 : decode cX3_told 0 = .ok (.aload_n 0, 1) := by decide +kernel
theorem dX3_told_1 : decode cX3_told 1 = .ok (.iload_n 1, 1) := by decide +kernel
theorem dX3_told_2 : decode cX3_told 2 = .ok (.invokevirtual 61, 3) := by decide +kernel
theorem dX3_told_5 : decode cX3_told 5 = .ok (.ifCond .ne 6, 3) := by decide +kernel
theorem dX3_told_8 : decode cX3_told 8 = .ok (.bipush (-101), 2) := by decide +kernel
theorem dX3_told_10 : decode cX3_told 10 = .ok (.ireturn, 1) := by decide +kernel
theorem dX3_told_11 : decode cX3_told 11 = .ok (.iload_n 2, 1) := by decide +kernel
theorem dX3_told_12 : decode cX3_told 12 = .ok (.iconst 0, 1) := by decide +kernel
theorem dX3_told_13 : decode cX3_told 13 = .ok (.bipush 22, 2) := by decide +kernel
theorem dX3_told_15 : decode cX3_told 15 = .ok (.invokestatic 54, 3) := by decide +kernel
theorem dX3_told_18 : decode cX3_told 18 = .ok (.ifCond .eq 12, 3) := by decide +kernel
theorem dX3_told_21 : decode cX3_told 21 = .ok (.aload_n 0, 1) := by decide +kernel
theorem dX3_told_22 : decode cX3_told 22 = .ok (.iload_n 1, 1) := by decide +kernel
theorem dX3_told_23 : decode cX3_told 23 = .ok (.iload_n 2, 1) := by decide +kernel
theorem dX3_told_24 : decode cX3_told 24 = .ok (.invokevirtual 79, 3) := by decide +kernel
theorem dX3_told_27 : decode cX3_told 27 = .ok (.goto 5, 3) := by decide +kernel
theorem dX3_told_30 : decode cX3_told 30 = .ok (.bipush (-102), 2) := by decide +kernel
theorem dX3_told_32 : decode cX3_told 32 = .ok (.ireturn, 1) := by decide +kernel
theorem dX3_entryOf_0 : decode cX3_entryOf 0 = .ok (.aload_n 0, 1) := by decide +kernel
theorem dX3_entryOf_1 : decode cX3_entryOf 1 = .ok (.getfield 22, 3) := by decide +kernel
theorem dX3_entryOf_4 : decode cX3_entryOf 4 = .ok (.bipush 16, 2) := by decide +kernel
theorem dX3_entryOf_6 : decode cX3_entryOf 6 = .ok (.iload_n 1, 1) := by decide +kernel
theorem dX3_entryOf_7 : decode cX3_entryOf 7 = .ok (.imul, 1) := by decide +kernel
theorem dX3_entryOf_8 : decode cX3_entryOf 8 = .ok (.iconst 4, 1) := by decide +kernel
theorem dX3_entryOf_9 : decode cX3_entryOf 9 = .ok (.iload_n 3, 1) := by decide +kernel
theorem dX3_entryOf_10 : decode cX3_entryOf 10 = .ok (.imul, 1) := by decide +kernel
theorem dX3_entryOf_11 : decode cX3_entryOf 11 = .ok (.iadd, 1) := by decide +kernel
theorem dX3_entryOf_12 : decode cX3_entryOf 12 = .ok (.iload_n 2, 1) := by decide +kernel
theorem dX3_entryOf_13 : decode cX3_entryOf 13 = .ok (.iadd, 1) := by decide +kernel
theorem dX3_entryOf_14 : decode cX3_entryOf 14 = .ok (.iaload, 1) := by decide +kernel
theorem dX3_entryOf_15 : decode cX3_entryOf 15 = .ok (.istore 4, 2) := by decide +kernel
theorem dX3_entryOf_17 : decode cX3_entryOf 17 = .ok (.iload_n 2, 1) := by decide +kernel
theorem dX3_entryOf_18 : decode cX3_entryOf 18 = .ok (.iload_n 3, 1) := by decide +kernel
theorem dX3_entryOf_19 : decode cX3_entryOf 19 = .ok (.if_icmp .ne 16, 3) := by decide +kernel
theorem dX3_entryOf_22 : decode cX3_entryOf 22 = .ok (.aload_n 0, 1) := by decide +kernel
theorem dX3_entryOf_23 : decode cX3_entryOf 23 = .ok (.getfield 7, 3) := by decide +kernel
theorem dX3_entryOf_26 : decode cX3_entryOf 26 = .ok (.iconst 4, 1) := by decide +kernel
theorem dX3_entryOf_27 : decode cX3_entryOf 27 = .ok (.iload_n 1, 1) := by decide +kernel
theorem dX3_entryOf_28 : decode cX3_entryOf 28 = .ok (.imul, 1) := by decide +kernel
theorem dX3_entryOf_29 : decode cX3_entryOf 29 = .ok (.iload_n 3, 1) := by decide +kernel
theorem dX3_entryOf_30 : decode cX3_entryOf 30 = .ok (.iadd, 1) := by decide +kernel
theorem dX3_entryOf_31 : decode cX3_entryOf 31 = .ok (.iaload, 1) := by decide +kernel
theorem dX3_entryOf_32 : decode cX3_entryOf 32 = .ok (.goto 4, 3) := by decide +kernel
theorem dX3_entryOf_35 : decode cX3_entryOf 35 = .ok (.iconst 0, 1) := by decide +kernel
theorem dX3_entryOf_36 : decode cX3_entryOf 36 = .ok (.istore 5, 2) := by decide +kernel
theorem dX3_entryOf_38 : decode cX3_entryOf 38 = .ok (.aload_n 0, 1) := by decide +kernel
theorem dX3_entryOf_39 : decode cX3_entryOf 39 = .ok (.getfield 13, 3) := by decide +kernel
theorem dX3_entryOf_42 : decode cX3_entryOf 42 = .ok (.iconst 4, 1) := by decide +kernel
theorem dX3_entryOf_43 : decode cX3_entryOf 43 = .ok (.iload_n 1, 1) := by decide +kernel
theorem dX3_entryOf_44 : decode cX3_entryOf 44 = .ok (.imul, 1) := by decide +kernel
theorem dX3_entryOf_45 : decode cX3_entryOf 45 = .ok (.iload_n 3, 1) := by decide +kernel
theorem dX3_entryOf_46 : decode cX3_entryOf 46 = .ok (.iadd, 1) := by decide +kernel
theorem dX3_entryOf_47 : decode cX3_entryOf 47 = .ok (.iaload, 1) := by decide +kernel
theorem dX3_entryOf_48 : decode cX3_entryOf 48 = .ok (.iconst 2, 1) := by decide +kernel
theorem dX3_entryOf_49 : decode cX3_entryOf 49 = .ok (.if_icmp .ne 25, 3) := by decide +kernel
theorem dX3_entryOf_52 : decode cX3_entryOf 52 = .ok (.iload 5, 2) := by decide +kernel
theorem dX3_entryOf_54 : decode cX3_entryOf 54 = .ok (.aload_n 0, 1) := by decide +kernel
theorem dX3_entryOf_55 : decode cX3_entryOf 55 = .ok (.getfield 25, 3) := by decide +kernel
theorem dX3_entryOf_58 : decode cX3_entryOf 58 = .ok (.bipush 16, 2) := by decide +kernel
theorem dX3_entryOf_60 : decode cX3_entryOf 60 = .ok (.iload_n 1, 1) := by decide +kernel
theorem dX3_entryOf_61 : decode cX3_entryOf 61 = .ok (.imul, 1) := by decide +kernel
theorem dX3_entryOf_62 : decode cX3_entryOf 62 = .ok (.iconst 4, 1) := by decide +kernel
theorem dX3_entryOf_63 : decode cX3_entryOf 63 = .ok (.iload_n 3, 1) := by decide +kernel
theorem dX3_entryOf_64 : decode cX3_entryOf 64 = .ok (.imul, 1) := by decide +kernel
theorem dX3_entryOf_65 : decode cX3_entryOf 65 = .ok (.iadd, 1) := by decide +kernel
theorem dX3_entryOf_66 : decode cX3_entryOf 66 = .ok (.iload_n 2, 1) := by decide +kernel
theorem dX3_entryOf_67 : decode cX3_entryOf 67 = .ok (.iadd, 1) := by decide +kernel
theorem dX3_entryOf_68 : decode cX3_entryOf 68 = .ok (.iaload, 1) := by decide +kernel
theorem dX3_entryOf_69 : decode cX3_entryOf 69 = .ok (.iadd, 1) := by decide +kernel
theorem dX3_entryOf_70 : decode cX3_entryOf 70 = .ok (.iload 4, 2) := by decide +kernel
theorem dX3_entryOf_72 : decode cX3_entryOf 72 = .ok (.isub, 1) := by decide +kernel
theorem dX3_entryOf_73 : decode cX3_entryOf 73 = .ok (.ireturn, 1) := by decide +kernel
theorem dX3_entryOf_74 : decode cX3_entryOf 74 = .ok (.iload 5, 2) := by decide +kernel
theorem dX3_entryOf_76 : decode cX3_entryOf 76 = .ok (.aload_n 0, 1) := by decide +kernel
theorem dX3_entryOf_77 : decode cX3_entryOf 77 = .ok (.iload_n 1, 1) := by decide +kernel
theorem dX3_entryOf_78 : decode cX3_entryOf 78 = .ok (.iload_n 3, 1) := by decide +kernel
theorem dX3_entryOf_79 : decode cX3_entryOf 79 = .ok (.invokevirtual 76, 3) := by decide +kernel
theorem dX3_entryOf_82 : decode cX3_entryOf 82 = .ok (.imul, 1) := by decide +kernel
theorem dX3_entryOf_83 : decode cX3_entryOf 83 = .ok (.iload 4, 2) := by decide +kernel
theorem dX3_entryOf_85 : decode cX3_entryOf 85 = .ok (.aload_n 0, 1) := by decide +kernel
theorem dX3_entryOf_86 : decode cX3_entryOf 86 = .ok (.iload_n 1, 1) := by decide +kernel
theorem dX3_entryOf_87 : decode cX3_entryOf 87 = .ok (.iload_n 3, 1) := by decide +kernel
theorem dX3_entryOf_88 : decode cX3_entryOf 88 = .ok (.invokevirtual 72, 3) := by decide +kernel
theorem dX3_entryOf_91 : decode cX3_entryOf 91 = .ok (.imul, 1) := by decide +kernel
theorem dX3_entryOf_92 : decode cX3_entryOf 92 = .ok (.isub, 1) := by decide +kernel
theorem dX3_entryOf_93 : decode cX3_entryOf 93 = .ok (.ireturn, 1) := by decide +kernel
theorem dX3_pair_0 : decode cX3_pair 0 = .ok (.aload_n 0, 1) := by decide +kernel
theorem dX3_pair_1 : decode cX3_pair 1 = .ok (.getfield 41, 3) := by decide +kernel
theorem dX3_pair_4 : decode cX3_pair 4 = .ok (.iconst 4, 1) := by decide +kernel
theorem dX3_pair_5 : decode cX3_pair 5 = .ok (.iload_n 1, 1) := by decide +kernel
theorem dX3_pair_6 : decode cX3_pair 6 = .ok (.imul, 1) := by decide +kernel
theorem dX3_pair_7 : decode cX3_pair 7 = .ok (.iload_n 2, 1) := by decide +kernel
theorem dX3_pair_8 : decode cX3_pair 8 = .ok (.iadd, 1) := by decide +kernel
theorem dX3_pair_9 : decode cX3_pair 9 = .ok (.laload, 1) := by decide +kernel
theorem dX3_pair_10 : decode cX3_pair 10 = .ok (.aload_n 0, 1) := by decide +kernel
theorem dX3_pair_11 : decode cX3_pair 11 = .ok (.getfield 41, 3) := by decide +kernel
theorem dX3_pair_14 : decode cX3_pair 14 = .ok (.iconst 4, 1) := by decide +kernel
theorem dX3_pair_15 : decode cX3_pair 15 = .ok (.iload_n 1, 1) := by decide +kernel
theorem dX3_pair_16 : decode cX3_pair 16 = .ok (.imul, 1) := by decide +kernel
theorem dX3_pair_17 : decode cX3_pair 17 = .ok (.iconst 4, 1) := by decide +kernel
theorem dX3_pair_18 : decode cX3_pair 18 = .ok (.iadd, 1) := by decide +kernel
theorem dX3_pair_19 : decode cX3_pair 19 = .ok (.iload_n 3, 1) := by decide +kernel
theorem dX3_pair_20 : decode cX3_pair 20 = .ok (.iadd, 1) := by decide +kernel
theorem dX3_pair_21 : decode cX3_pair 21 = .ok (.laload, 1) := by decide +kernel
theorem dX3_pair_22 : decode cX3_pair 22 = .ok (.lmul, 1) := by decide +kernel
theorem dX3_pair_23 : decode cX3_pair 23 = .ok (.aload_n 0, 1) := by decide +kernel
theorem dX3_pair_24 : decode cX3_pair 24 = .ok (.getfield 41, 3) := by decide +kernel
theorem dX3_pair_27 : decode cX3_pair 27 = .ok (.iconst 4, 1) := by decide +kernel
theorem dX3_pair_28 : decode cX3_pair 28 = .ok (.iload_n 1, 1) := by decide +kernel
theorem dX3_pair_29 : decode cX3_pair 29 = .ok (.imul, 1) := by decide +kernel
theorem dX3_pair_30 : decode cX3_pair 30 = .ok (.iload_n 3, 1) := by decide +kernel
theorem dX3_pair_31 : decode cX3_pair 31 = .ok (.iadd, 1) := by decide +kernel
theorem dX3_pair_32 : decode cX3_pair 32 = .ok (.laload, 1) := by decide +kernel
theorem dX3_pair_33 : decode cX3_pair 33 = .ok (.aload_n 0, 1) := by decide +kernel
theorem dX3_pair_34 : decode cX3_pair 34 = .ok (.getfield 41, 3) := by decide +kernel
theorem dX3_pair_37 : decode cX3_pair 37 = .ok (.iconst 4, 1) := by decide +kernel
theorem dX3_pair_38 : decode cX3_pair 38 = .ok (.iload_n 1, 1) := by decide +kernel
theorem dX3_pair_39 : decode cX3_pair 39 = .ok (.imul, 1) := by decide +kernel
theorem dX3_pair_40 : decode cX3_pair 40 = .ok (.iconst 4, 1) := by decide +kernel
theorem dX3_pair_41 : decode cX3_pair 41 = .ok (.iadd, 1) := by decide +kernel
theorem dX3_pair_42 : decode cX3_pair 42 = .ok (.iload_n 2, 1) := by decide +kernel
theorem dX3_pair_43 : decode cX3_pair 43 = .ok (.iadd, 1) := by decide +kernel
theorem dX3_pair_44 : decode cX3_pair 44 = .ok (.laload, 1) := by decide +kernel
theorem dX3_pair_45 : decode cX3_pair 45 = .ok (.lmul, 1) := by decide +kernel
theorem dX3_pair_46 : decode cX3_pair 46 = .ok (.lsub, 1) := by decide +kernel
theorem dX3_pair_47 : decode cX3_pair 47 = .ok (.lreturn, 1) := by decide +kernel
theorem dX3_determinant_0 : decode cX3_determinant 0 = .ok (.aload_n 0, 1) := by decide +kernel
theorem dX3_determinant_1 : decode cX3_determinant 1 = .ok (.iconst 0, 1) := by decide +kernel
theorem dX3_determinant_2 : decode cX3_determinant 2 = .ok (.iconst 0, 1) := by decide +kernel
theorem dX3_determinant_3 : decode cX3_determinant 3 = .ok (.iconst 1, 1) := by decide +kernel
theorem dX3_determinant_4 : decode cX3_determinant 4 = .ok (.invokevirtual 96, 3) := by decide +kernel
theorem dX3_determinant_7 : decode cX3_determinant 7 = .ok (.aload_n 0, 1) := by decide +kernel
theorem dX3_determinant_8 : decode cX3_determinant 8 = .ok (.iconst 2, 1) := by decide +kernel
theorem dX3_determinant_9 : decode cX3_determinant 9 = .ok (.iconst 2, 1) := by decide +kernel
theorem dX3_determinant_10 : decode cX3_determinant 10 = .ok (.iconst 3, 1) := by decide +kernel
theorem dX3_determinant_11 : decode cX3_determinant 11 = .ok (.invokevirtual 96, 3) := by decide +kernel
theorem dX3_determinant_14 : decode cX3_determinant 14 = .ok (.lmul, 1) := by decide +kernel
theorem dX3_determinant_15 : decode cX3_determinant 15 = .ok (.aload_n 0, 1) := by decide +kernel
theorem dX3_determinant_16 : decode cX3_determinant 16 = .ok (.iconst 0, 1) := by decide +kernel
theorem dX3_determinant_17 : decode cX3_determinant 17 = .ok (.iconst 0, 1) := by decide +kernel
theorem dX3_determinant_18 : decode cX3_determinant 18 = .ok (.iconst 2, 1) := by decide +kernel
theorem dX3_determinant_19 : decode cX3_determinant 19 = .ok (.invokevirtual 96, 3) := by decide +kernel
theorem dX3_determinant_22 : decode cX3_determinant 22 = .ok (.aload_n 0, 1) := by decide +kernel
theorem dX3_determinant_23 : decode cX3_determinant 23 = .ok (.iconst 2, 1) := by decide +kernel
theorem dX3_determinant_24 : decode cX3_determinant 24 = .ok (.iconst 1, 1) := by decide +kernel
theorem dX3_determinant_25 : decode cX3_determinant 25 = .ok (.iconst 3, 1) := by decide +kernel
theorem dX3_determinant_26 : decode cX3_determinant 26 = .ok (.invokevirtual 96, 3) := by decide +kernel
theorem dX3_determinant_29 : decode cX3_determinant 29 = .ok (.lmul, 1) := by decide +kernel
theorem dX3_determinant_30 : decode cX3_determinant 30 = .ok (.lsub, 1) := by decide +kernel
theorem dX3_determinant_31 : decode cX3_determinant 31 = .ok (.aload_n 0, 1) := by decide +kernel
theorem dX3_determinant_32 : decode cX3_determinant 32 = .ok (.iconst 0, 1) := by decide +kernel
theorem dX3_determinant_33 : decode cX3_determinant 33 = .ok (.iconst 0, 1) := by decide +kernel
theorem dX3_determinant_34 : decode cX3_determinant 34 = .ok (.iconst 3, 1) := by decide +kernel
theorem dX3_determinant_35 : decode cX3_determinant 35 = .ok (.invokevirtual 96, 3) := by decide +kernel
theorem dX3_determinant_38 : decode cX3_determinant 38 = .ok (.aload_n 0, 1) := by decide +kernel
theorem dX3_determinant_39 : decode cX3_determinant 39 = .ok (.iconst 2, 1) := by decide +kernel
theorem dX3_determinant_40 : decode cX3_determinant 40 = .ok (.iconst 1, 1) := by decide +kernel
theorem dX3_determinant_41 : decode cX3_determinant 41 = .ok (.iconst 2, 1) := by decide +kernel
theorem dX3_determinant_42 : decode cX3_determinant 42 = .ok (.invokevirtual 96, 3) := by decide +kernel
theorem dX3_determinant_45 : decode cX3_determinant 45 = .ok (.lmul, 1) := by decide +kernel
theorem dX3_determinant_46 : decode cX3_determinant 46 = .ok (.ladd, 1) := by decide +kernel
theorem dX3_determinant_47 : decode cX3_determinant 47 = .ok (.lstore_n 1, 1) := by decide +kernel
theorem dX3_determinant_48 : decode cX3_determinant 48 = .ok (.lload_n 1, 1) := by decide +kernel
theorem dX3_determinant_49 : decode cX3_determinant 49 = .ok (.aload_n 0, 1) := by decide +kernel
theorem dX3_determinant_50 : decode cX3_determinant 50 = .ok (.iconst 0, 1) := by decide +kernel
theorem dX3_determinant_51 : decode cX3_determinant 51 = .ok (.iconst 1, 1) := by decide +kernel
theorem dX3_determinant_52 : decode cX3_determinant 52 = .ok (.iconst 2, 1) := by decide +kernel
theorem dX3_determinant_53 : decode cX3_determinant 53 = .ok (.invokevirtual 96, 3) := by decide +kernel
theorem dX3_determinant_56 : decode cX3_determinant 56 = .ok (.aload_n 0, 1) := by decide +kernel
theorem dX3_determinant_57 : decode cX3_determinant 57 = .ok (.iconst 2, 1) := by decide +kernel
theorem dX3_determinant_58 : decode cX3_determinant 58 = .ok (.iconst 0, 1) := by decide +kernel
theorem dX3_determinant_59 : decode cX3_determinant 59 = .ok (.iconst 3, 1) := by decide +kernel
theorem dX3_determinant_60 : decode cX3_determinant 60 = .ok (.invokevirtual 96, 3) := by decide +kernel
theorem dX3_determinant_63 : decode cX3_determinant 63 = .ok (.lmul, 1) := by decide +kernel
theorem dX3_determinant_64 : decode cX3_determinant 64 = .ok (.ladd, 1) := by decide +kernel
theorem dX3_determinant_65 : decode cX3_determinant 65 = .ok (.aload_n 0, 1) := by decide +kernel
theorem dX3_determinant_66 : decode cX3_determinant 66 = .ok (.iconst 0, 1) := by decide +kernel
theorem dX3_determinant_67 : decode cX3_determinant 67 = .ok (.iconst 1, 1) := by decide +kernel
theorem dX3_determinant_68 : decode cX3_determinant 68 = .ok (.iconst 3, 1) := by decide +kernel
theorem dX3_determinant_69 : decode cX3_determinant 69 = .ok (.invokevirtual 96, 3) := by decide +kernel
theorem dX3_determinant_72 : decode cX3_determinant 72 = .ok (.aload_n 0, 1) := by decide +kernel
theorem dX3_determinant_73 : decode cX3_determinant 73 = .ok (.iconst 2, 1) := by decide +kernel
theorem dX3_determinant_74 : decode cX3_determinant 74 = .ok (.iconst 0, 1) := by decide +kernel
theorem dX3_determinant_75 : decode cX3_determinant 75 = .ok (.iconst 2, 1) := by decide +kernel
theorem dX3_determinant_76 : decode cX3_determinant 76 = .ok (.invokevirtual 96, 3) := by decide +kernel
theorem dX3_determinant_79 : decode cX3_determinant 79 = .ok (.lmul, 1) := by decide +kernel
theorem dX3_determinant_80 : decode cX3_determinant 80 = .ok (.lsub, 1) := by decide +kernel
theorem dX3_determinant_81 : decode cX3_determinant 81 = .ok (.aload_n 0, 1) := by decide +kernel
theorem dX3_determinant_82 : decode cX3_determinant 82 = .ok (.iconst 0, 1) := by decide +kernel
theorem dX3_determinant_83 : decode cX3_determinant 83 = .ok (.iconst 2, 1) := by decide +kernel
theorem dX3_determinant_84 : decode cX3_determinant 84 = .ok (.iconst 3, 1) := by decide +kernel
theorem dX3_determinant_85 : decode cX3_determinant 85 = .ok (.invokevirtual 96, 3) := by decide +kernel
theorem dX3_determinant_88 : decode cX3_determinant 88 = .ok (.aload_n 0, 1) := by decide +kernel
theorem dX3_determinant_89 : decode cX3_determinant 89 = .ok (.iconst 2, 1) := by decide +kernel
theorem dX3_determinant_90 : decode cX3_determinant 90 = .ok (.iconst 0, 1) := by decide +kernel
theorem dX3_determinant_91 : decode cX3_determinant 91 = .ok (.iconst 1, 1) := by decide +kernel
theorem dX3_determinant_92 : decode cX3_determinant 92 = .ok (.invokevirtual 96, 3) := by decide +kernel
theorem dX3_determinant_95 : decode cX3_determinant 95 = .ok (.lmul, 1) := by decide +kernel
theorem dX3_determinant_96 : decode cX3_determinant 96 = .ok (.ladd, 1) := by decide +kernel
theorem dX3_determinant_97 : decode cX3_determinant 97 = .ok (.lreturn, 1) := by decide +kernel
theorem dX3_lay_0 : decode cX3_lay 0 = .ok (.iconst 0, 1) := by decide +kernel
theorem dX3_lay_1 : decode cX3_lay 1 = .ok (.istore_n 1, 1) := by decide +kernel
theorem dX3_lay_2 : decode cX3_lay 2 = .ok (.iload_n 1, 1) := by decide +kernel
theorem dX3_lay_3 : decode cX3_lay 3 = .ok (.iconst 4, 1) := by decide +kernel
theorem dX3_lay_4 : decode cX3_lay 4 = .ok (.if_icmp .ge 74, 3) := by decide +kernel
theorem dX3_lay_7 : decode cX3_lay 7 = .ok (.iconst 0, 1) := by decide +kernel
theorem dX3_lay_8 : decode cX3_lay 8 = .ok (.istore_n 2, 1) := by decide +kernel
theorem dX3_lay_9 : decode cX3_lay 9 = .ok (.iload_n 2, 1) := by decide +kernel
theorem dX3_lay_10 : decode cX3_lay 10 = .ok (.iconst 4, 1) := by decide +kernel
theorem dX3_lay_11 : decode cX3_lay 11 = .ok (.if_icmp .ge 61, 3) := by decide +kernel
theorem dX3_lay_14 : decode cX3_lay 14 = .ok (.aload_n 0, 1) := by decide +kernel
theorem dX3_lay_15 : decode cX3_lay 15 = .ok (.getfield 37, 3) := by decide +kernel
theorem dX3_lay_18 : decode cX3_lay 18 = .ok (.iconst 4, 1) := by decide +kernel
theorem dX3_lay_19 : decode cX3_lay 19 = .ok (.iload_n 1, 1) := by decide +kernel
theorem dX3_lay_20 : decode cX3_lay 20 = .ok (.imul, 1) := by decide +kernel
theorem dX3_lay_21 : decode cX3_lay 21 = .ok (.iload_n 2, 1) := by decide +kernel
theorem dX3_lay_22 : decode cX3_lay 22 = .ok (.iadd, 1) := by decide +kernel
theorem dX3_lay_23 : decode cX3_lay 23 = .ok (.iload_n 1, 1) := by decide +kernel
theorem dX3_lay_24 : decode cX3_lay 24 = .ok (.aload_n 0, 1) := by decide +kernel
theorem dX3_lay_25 : decode cX3_lay 25 = .ok (.getfield 50, 3) := by decide +kernel
theorem dX3_lay_28 : decode cX3_lay 28 = .ok (.if_icmp .ge 27, 3) := by decide +kernel
theorem dX3_lay_31 : decode cX3_lay 31 = .ok (.iload_n 2, 1) := by decide +kernel
theorem dX3_lay_32 : decode cX3_lay 32 = .ok (.aload_n 0, 1) := by decide +kernel
theorem dX3_lay_33 : decode cX3_lay 33 = .ok (.getfield 50, 3) := by decide +kernel
theorem dX3_lay_36 : decode cX3_lay 36 = .ok (.if_icmp .ge 19, 3) := by decide +kernel
theorem dX3_lay_39 : decode cX3_lay 39 = .ok (.aload_n 0, 1) := by decide +kernel
theorem dX3_lay_40 : decode cX3_lay 40 = .ok (.aload_n 0, 1) := by decide +kernel
theorem dX3_lay_41 : decode cX3_lay 41 = .ok (.getfield 34, 3) := by decide +kernel
theorem dX3_lay_44 : decode cX3_lay 44 = .ok (.iload_n 2, 1) := by decide +kernel
theorem dX3_lay_45 : decode cX3_lay 45 = .ok (.iaload, 1) := by decide +kernel
theorem dX3_lay_46 : decode cX3_lay 46 = .ok (.iload_n 1, 1) := by decide +kernel
theorem dX3_lay_47 : decode cX3_lay 47 = .ok (.iload_n 2, 1) := by decide +kernel
theorem dX3_lay_48 : decode cX3_lay 48 = .ok (.invokevirtual 82, 3) := by decide +kernel
theorem dX3_lay_51 : decode cX3_lay 51 = .ok (.i2l, 1) := by decide +kernel
theorem dX3_lay_52 : decode cX3_lay 52 = .ok (.goto 13, 3) := by decide +kernel
theorem dX3_lay_55 : decode cX3_lay 55 = .ok (.iload_n 1, 1) := by decide +kernel
theorem dX3_lay_56 : decode cX3_lay 56 = .ok (.iload_n 2, 1) := by decide +kernel
theorem dX3_lay_57 : decode cX3_lay 57 = .ok (.if_icmp .ne 7, 3) := by decide +kernel
theorem dX3_lay_60 : decode cX3_lay 60 = .ok (.lconst 1, 1) := by decide +kernel
theorem dX3_lay_61 : decode cX3_lay 61 = .ok (.goto 4, 3) := by decide +kernel
theorem dX3_lay_64 : decode cX3_lay 64 = .ok (.lconst 0, 1) := by decide +kernel
theorem dX3_lay_65 : decode cX3_lay 65 = .ok (.lastore, 1) := by decide +kernel
theorem dX3_lay_66 : decode cX3_lay 66 = .ok (.iinc 2 1, 3) := by decide +kernel
theorem dX3_lay_69 : decode cX3_lay 69 = .ok (.goto (-60), 3) := by decide +kernel
theorem dX3_lay_72 : decode cX3_lay 72 = .ok (.iinc 1 1, 3) := by decide +kernel
theorem dX3_lay_75 : decode cX3_lay 75 = .ok (.goto (-73), 3) := by decide +kernel
theorem dX3_lay_78 : decode cX3_lay 78 = .ok (.iconst 0, 1) := by decide +kernel
theorem dX3_lay_79 : decode cX3_lay 79 = .ok (.istore_n 1, 1) := by decide +kernel
theorem dX3_lay_80 : decode cX3_lay 80 = .ok (.iload_n 1, 1) := by decide +kernel
theorem dX3_lay_81 : decode cX3_lay 81 = .ok (.bipush 16, 2) := by decide +kernel
theorem dX3_lay_83 : decode cX3_lay 83 = .ok (.if_icmp .ge 21, 3) := by decide +kernel
theorem dX3_lay_86 : decode cX3_lay 86 = .ok (.aload_n 0, 1) := by decide +kernel
theorem dX3_lay_87 : decode cX3_lay 87 = .ok (.getfield 41, 3) := by decide +kernel
theorem dX3_lay_90 : decode cX3_lay 90 = .ok (.iload_n 1, 1) := by decide +kernel
theorem dX3_lay_91 : decode cX3_lay 91 = .ok (.aload_n 0, 1) := by decide +kernel
theorem dX3_lay_92 : decode cX3_lay 92 = .ok (.getfield 37, 3) := by decide +kernel
theorem dX3_lay_95 : decode cX3_lay 95 = .ok (.iload_n 1, 1) := by decide +kernel
theorem dX3_lay_96 : decode cX3_lay 96 = .ok (.laload, 1) := by decide +kernel
theorem dX3_lay_97 : decode cX3_lay 97 = .ok (.lastore, 1) := by decide +kernel
theorem dX3_lay_98 : decode cX3_lay 98 = .ok (.iinc 1 1, 3) := by decide +kernel
theorem dX3_lay_101 : decode cX3_lay 101 = .ok (.goto (-21), 3) := by decide +kernel
theorem dX3_lay_104 : decode cX3_lay 104 = .ok (.aload_n 0, 1) := by decide +kernel
theorem dX3_lay_105 : decode cX3_lay 105 = .ok (.aload_n 0, 1) := by decide +kernel
theorem dX3_lay_106 : decode cX3_lay 106 = .ok (.invokevirtual 85, 3) := by decide +kernel
theorem dX3_lay_109 : decode cX3_lay 109 = .ok (.putfield 89, 3) := by decide +kernel
theorem dX3_lay_112 : decode cX3_lay 112 = .ok (.return_, 1) := by decide +kernel
theorem dX3_layNow_0 : decode cX3_layNow 0 = .ok (.iconst 0, 1) := by decide +kernel
theorem dX3_layNow_1 : decode cX3_layNow 1 = .ok (.istore_n 1, 1) := by decide +kernel
theorem dX3_layNow_2 : decode cX3_layNow 2 = .ok (.iload_n 1, 1) := by decide +kernel
theorem dX3_layNow_3 : decode cX3_layNow 3 = .ok (.iconst 4, 1) := by decide +kernel
theorem dX3_layNow_4 : decode cX3_layNow 4 = .ok (.if_icmp .ge 17, 3) := by decide +kernel
theorem dX3_layNow_7 : decode cX3_layNow 7 = .ok (.aload_n 0, 1) := by decide +kernel
theorem dX3_layNow_8 : decode cX3_layNow 8 = .ok (.getfield 34, 3) := by decide +kernel
theorem dX3_layNow_11 : decode cX3_layNow 11 = .ok (.iload_n 1, 1) := by decide +kernel
theorem dX3_layNow_12 : decode cX3_layNow 12 = .ok (.bipush 6, 2) := by decide +kernel
theorem dX3_layNow_14 : decode cX3_layNow 14 = .ok (.iastore, 1) := by decide +kernel
theorem dX3_layNow_15 : decode cX3_layNow 15 = .ok (.iinc 1 1, 3) := by decide +kernel
theorem dX3_layNow_18 : decode cX3_layNow 18 = .ok (.goto (-16), 3) := by decide +kernel
theorem dX3_layNow_21 : decode cX3_layNow 21 = .ok (.aload_n 0, 1) := by decide +kernel
theorem dX3_layNow_22 : decode cX3_layNow 22 = .ok (.invokevirtual 93, 3) := by decide +kernel
theorem dX3_layNow_25 : decode cX3_layNow 25 = .ok (.return_, 1) := by decide +kernel
theorem dX3_solve_0 : decode cX3_solve 0 = .ok (.aload_n 0, 1) := by decide +kernel
theorem dX3_solve_1 : decode cX3_solve 1 = .ok (.aload_n 0, 1) := by decide +kernel
theorem dX3_solve_2 : decode cX3_solve 2 = .ok (.getfield 89, 3) := by decide +kernel
theorem dX3_solve_5 : decode cX3_solve 5 = .ok (.lconst 0, 1) := by decide +kernel
theorem dX3_solve_6 : decode cX3_solve 6 = .ok (.lcmp, 1) := by decide +kernel
theorem dX3_solve_7 : decode cX3_solve 7 = .ok (.ifCond .ge 11, 3) := by decide +kernel
theorem dX3_solve_10 : decode cX3_solve 10 = .ok (.aload_n 0, 1) := by decide +kernel
theorem dX3_solve_11 : decode cX3_solve 11 = .ok (.getfield 89, 3) := by decide +kernel
theorem dX3_solve_14 : decode cX3_solve 14 = .ok (.lneg, 1) := by decide +kernel
theorem dX3_solve_15 : decode cX3_solve 15 = .ok (.goto 7, 3) := by decide +kernel
theorem dX3_solve_18 : decode cX3_solve 18 = .ok (.aload_n 0, 1) := by decide +kernel
theorem dX3_solve_19 : decode cX3_solve 19 = .ok (.getfield 89, 3) := by decide +kernel
theorem dX3_solve_22 : decode cX3_solve 22 = .ok (.putfield 100, 3) := by decide +kernel
theorem dX3_solve_25 : decode cX3_solve 25 = .ok (.iconst 0, 1) := by decide +kernel
theorem dX3_solve_26 : decode cX3_solve 26 = .ok (.istore_n 2, 1) := by decide +kernel
theorem dX3_solve_27 : decode cX3_solve 27 = .ok (.iload_n 2, 1) := by decide +kernel
theorem dX3_solve_28 : decode cX3_solve 28 = .ok (.iconst 4, 1) := by decide +kernel
theorem dX3_solve_29 : decode cX3_solve 29 = .ok (.if_icmp .ge 99, 3) := by decide +kernel
theorem dX3_solve_32 : decode cX3_solve 32 = .ok (.iconst 0, 1) := by decide +kernel
theorem dX3_solve_33 : decode cX3_solve 33 = .ok (.istore_n 3, 1) := by decide +kernel
theorem dX3_solve_34 : decode cX3_solve 34 = .ok (.iload_n 3, 1) := by decide +kernel
theorem dX3_solve_35 : decode cX3_solve 35 = .ok (.bipush 16, 2) := by decide +kernel
theorem dX3_solve_37 : decode cX3_solve 37 = .ok (.if_icmp .ge 58, 3) := by decide +kernel
theorem dX3_solve_40 : decode cX3_solve 40 = .ok (.aload_n 0, 1) := by decide +kernel
theorem dX3_solve_41 : decode cX3_solve 41 = .ok (.getfield 41, 3) := by decide +kernel
theorem dX3_solve_44 : decode cX3_solve 44 = .ok (.iload_n 3, 1) := by decide +kernel
theorem dX3_solve_45 : decode cX3_solve 45 = .ok (.iload_n 3, 1) := by decide +kernel
theorem dX3_solve_46 : decode cX3_solve 46 = .ok (.iconst 4, 1) := by decide +kernel
theorem dX3_solve_47 : decode cX3_solve 47 = .ok (.irem, 1) := by decide +kernel
theorem dX3_solve_48 : decode cX3_solve 48 = .ok (.iload_n 2, 1) := by decide +kernel
theorem dX3_solve_49 : decode cX3_solve 49 = .ok (.if_icmp .eq 12, 3) := by decide +kernel
theorem dX3_solve_52 : decode cX3_solve 52 = .ok (.aload_n 0, 1) := by decide +kernel
theorem dX3_solve_53 : decode cX3_solve 53 = .ok (.getfield 37, 3) := by decide +kernel
theorem dX3_solve_56 : decode cX3_solve 56 = .ok (.iload_n 3, 1) := by decide +kernel
theorem dX3_solve_57 : decode cX3_solve 57 = .ok (.laload, 1) := by decide +kernel
theorem dX3_solve_58 : decode cX3_solve 58 = .ok (.goto 30, 3) := by decide +kernel
theorem dX3_solve_61 : decode cX3_solve 61 = .ok (.iload_n 3, 1) := by decide +kernel
theorem dX3_solve_62 : decode cX3_solve 62 = .ok (.iconst 4, 1) := by decide +kernel
theorem dX3_solve_63 : decode cX3_solve 63 = .ok (.idiv, 1) := by decide +kernel
theorem dX3_solve_64 : decode cX3_solve 64 = .ok (.aload_n 0, 1) := by decide +kernel
theorem dX3_solve_65 : decode cX3_solve 65 = .ok (.getfield 50, 3) := by decide +kernel
theorem dX3_solve_68 : decode cX3_solve 68 = .ok (.if_icmp .ge 19, 3) := by decide +kernel
theorem dX3_solve_71 : decode cX3_solve 71 = .ok (.aload_n 0, 1) := by decide +kernel
theorem dX3_solve_72 : decode cX3_solve 72 = .ok (.getfield 31, 3) := by decide +kernel
theorem dX3_solve_75 : decode cX3_solve 75 = .ok (.iconst 4, 1) := by decide +kernel
theorem dX3_solve_76 : decode cX3_solve 76 = .ok (.iload_n 1, 1) := by decide +kernel
theorem dX3_solve_77 : decode cX3_solve 77 = .ok (.imul, 1) := by decide +kernel
theorem dX3_solve_78 : decode cX3_solve 78 = .ok (.iload_n 3, 1) := by decide +kernel
theorem dX3_solve_79 : decode cX3_solve 79 = .ok (.iconst 4, 1) := by decide +kernel
theorem dX3_solve_80 : decode cX3_solve 80 = .ok (.idiv, 1) := by decide +kernel
theorem dX3_solve_81 : decode cX3_solve 81 = .ok (.iadd, 1) := by decide +kernel
theorem dX3_solve_82 : decode cX3_solve 82 = .ok (.iaload, 1) := by decide +kernel
theorem dX3_solve_83 : decode cX3_solve 83 = .ok (.i2l, 1) := by decide +kernel
theorem dX3_solve_84 : decode cX3_solve 84 = .ok (.goto 4, 3) := by decide +kernel
theorem dX3_solve_87 : decode cX3_solve 87 = .ok (.lconst 0, 1) := by decide +kernel
theorem dX3_solve_88 : decode cX3_solve 88 = .ok (.lastore, 1) := by decide +kernel
theorem dX3_solve_89 : decode cX3_solve 89 = .ok (.iinc 3 1, 3) := by decide +kernel
theorem dX3_solve_92 : decode cX3_solve 92 = .ok (.goto (-58), 3) := by decide +kernel
theorem dX3_solve_95 : decode cX3_solve 95 = .ok (.aload_n 0, 1) := by decide +kernel
theorem dX3_solve_96 : decode cX3_solve 96 = .ok (.getfield 44, 3) := by decide +kernel
theorem dX3_solve_99 : decode cX3_solve 99 = .ok (.iload_n 2, 1) := by decide +kernel
theorem dX3_solve_100 : decode cX3_solve 100 = .ok (.aload_n 0, 1) := by decide +kernel
theorem dX3_solve_101 : decode cX3_solve 101 = .ok (.getfield 89, 3) := by decide +kernel
theorem dX3_solve_104 : decode cX3_solve 104 = .ok (.lconst 0, 1) := by decide +kernel
theorem dX3_solve_105 : decode cX3_solve 105 = .ok (.lcmp, 1) := by decide +kernel
theorem dX3_solve_106 : decode cX3_solve 106 = .ok (.ifCond .ge 11, 3) := by decide +kernel
theorem dX3_solve_109 : decode cX3_solve 109 = .ok (.aload_n 0, 1) := by decide +kernel
theorem dX3_solve_110 : decode cX3_solve 110 = .ok (.invokevirtual 85, 3) := by decide +kernel
theorem dX3_solve_113 : decode cX3_solve 113 = .ok (.lneg, 1) := by decide +kernel
theorem dX3_solve_114 : decode cX3_solve 114 = .ok (.goto 7, 3) := by decide +kernel
theorem dX3_solve_117 : decode cX3_solve 117 = .ok (.aload_n 0, 1) := by decide +kernel
theorem dX3_solve_118 : decode cX3_solve 118 = .ok (.invokevirtual 85, 3) := by decide +kernel
theorem dX3_solve_121 : decode cX3_solve 121 = .ok (.lastore, 1) := by decide +kernel
theorem dX3_solve_122 : decode cX3_solve 122 = .ok (.iinc 2 1, 3) := by decide +kernel
theorem dX3_solve_125 : decode cX3_solve 125 = .ok (.goto (-98), 3) := by decide +kernel
theorem dX3_solve_128 : decode cX3_solve 128 = .ok (.return_, 1) := by decide +kernel
theorem dX3_entry_0 : decode cX3_entry 0 = .ok (.aload_n 0, 1) := by decide +kernel
theorem dX3_entry_1 : decode cX3_entry 1 = .ok (.iload_n 1, 1) := by decide +kernel
theorem dX3_entry_2 : decode cX3_entry 2 = .ok (.invokevirtual 61, 3) := by decide +kernel
theorem dX3_entry_5 : decode cX3_entry 5 = .ok (.ifCond .eq 22, 3) := by decide +kernel
theorem dX3_entry_8 : decode cX3_entry 8 = .ok (.aload_n 0, 1) := by decide +kernel
theorem dX3_entry_9 : decode cX3_entry 9 = .ok (.iload_n 2, 1) := by decide +kernel
theorem dX3_entry_10 : decode cX3_entry 10 = .ok (.invokevirtual 61, 3) := by decide +kernel
theorem dX3_entry_13 : decode cX3_entry 13 = .ok (.ifCond .eq 14, 3) := by decide +kernel
theorem dX3_entry_16 : decode cX3_entry 16 = .ok (.aload_n 0, 1) := by decide +kernel
theorem dX3_entry_17 : decode cX3_entry 17 = .ok (.bipush 6, 2) := by decide +kernel
theorem dX3_entry_19 : decode cX3_entry 19 = .ok (.iload_n 1, 1) := by decide +kernel
theorem dX3_entry_20 : decode cX3_entry 20 = .ok (.iload_n 2, 1) := by decide +kernel
theorem dX3_entry_21 : decode cX3_entry 21 = .ok (.invokevirtual 82, 3) := by decide +kernel
theorem dX3_entry_24 : decode cX3_entry 24 = .ok (.goto 5, 3) := by decide +kernel
theorem dX3_entry_27 : decode cX3_entry 27 = .ok (.ldc 103, 2) := by decide +kernel
theorem dX3_entry_29 : decode cX3_entry 29 = .ok (.ireturn, 1) := by decide +kernel
theorem dX3_worth_0 : decode cX3_worth 0 = .ok (.aload_n 0, 1) := by decide +kernel
theorem dX3_worth_1 : decode cX3_worth 1 = .ok (.invokevirtual 104, 3) := by decide +kernel
theorem dX3_worth_4 : decode cX3_worth 4 = .ok (.aload_n 0, 1) := by decide +kernel
theorem dX3_worth_5 : decode cX3_worth 5 = .ok (.getfield 89, 3) := by decide +kernel
theorem dX3_worth_8 : decode cX3_worth 8 = .ok (.lreturn, 1) := by decide +kernel
theorem dX3_put_0 : decode cX3_put 0 = .ok (.iload_n 1, 1) := by decide +kernel
theorem dX3_put_1 : decode cX3_put 1 = .ok (.invokestatic 107, 3) := by decide +kernel
theorem dX3_put_4 : decode cX3_put 4 = .ok (.ifCond .eq 11, 3) := by decide +kernel
theorem dX3_put_7 : decode cX3_put 7 = .ok (.aload_n 0, 1) := by decide +kernel
theorem dX3_put_8 : decode cX3_put 8 = .ok (.iload_n 2, 1) := by decide +kernel
theorem dX3_put_9 : decode cX3_put 9 = .ok (.invokevirtual 61, 3) := by decide +kernel
theorem dX3_put_12 : decode cX3_put 12 = .ok (.ifCond .ne 6, 3) := by decide +kernel
theorem dX3_put_15 : decode cX3_put 15 = .ok (.bipush (-101), 2) := by decide +kernel
theorem dX3_put_17 : decode cX3_put 17 = .ok (.ireturn, 1) := by decide +kernel
theorem dX3_put_18 : decode cX3_put 18 = .ok (.iload_n 3, 1) := by decide +kernel
theorem dX3_put_19 : decode cX3_put 19 = .ok (.iconst 0, 1) := by decide +kernel
theorem dX3_put_20 : decode cX3_put 20 = .ok (.bipush 20, 2) := by decide +kernel
theorem dX3_put_22 : decode cX3_put 22 = .ok (.invokestatic 54, 3) := by decide +kernel
theorem dX3_put_25 : decode cX3_put 25 = .ok (.ifCond .ne 6, 3) := by decide +kernel
theorem dX3_put_28 : decode cX3_put 28 = .ok (.bipush (-102), 2) := by decide +kernel
theorem dX3_put_30 : decode cX3_put 30 = .ok (.ireturn, 1) := by decide +kernel
theorem dX3_put_31 : decode cX3_put 31 = .ok (.aload_n 0, 1) := by decide +kernel
theorem dX3_put_32 : decode cX3_put 32 = .ok (.getfield 31, 3) := by decide +kernel
theorem dX3_put_35 : decode cX3_put 35 = .ok (.iconst 4, 1) := by decide +kernel
theorem dX3_put_36 : decode cX3_put 36 = .ok (.iload_n 1, 1) := by decide +kernel
theorem dX3_put_37 : decode cX3_put 37 = .ok (.imul, 1) := by decide +kernel
theorem dX3_put_38 : decode cX3_put 38 = .ok (.iload_n 2, 1) := by decide +kernel
theorem dX3_put_39 : decode cX3_put 39 = .ok (.iadd, 1) := by decide +kernel
theorem dX3_put_40 : decode cX3_put 40 = .ok (.iaload, 1) := by decide +kernel
theorem dX3_put_41 : decode cX3_put 41 = .ok (.istore 4, 2) := by decide +kernel
theorem dX3_put_43 : decode cX3_put 43 = .ok (.aload_n 0, 1) := by decide +kernel
theorem dX3_put_44 : decode cX3_put 44 = .ok (.getfield 31, 3) := by decide +kernel
theorem dX3_put_47 : decode cX3_put 47 = .ok (.iconst 4, 1) := by decide +kernel
theorem dX3_put_48 : decode cX3_put 48 = .ok (.iload_n 1, 1) := by decide +kernel
theorem dX3_put_49 : decode cX3_put 49 = .ok (.imul, 1) := by decide +kernel
theorem dX3_put_50 : decode cX3_put 50 = .ok (.iload_n 2, 1) := by decide +kernel
theorem dX3_put_51 : decode cX3_put 51 = .ok (.iadd, 1) := by decide +kernel
theorem dX3_put_52 : decode cX3_put 52 = .ok (.iload_n 3, 1) := by decide +kernel
theorem dX3_put_53 : decode cX3_put 53 = .ok (.iastore, 1) := by decide +kernel
theorem dX3_put_54 : decode cX3_put 54 = .ok (.iload 4, 2) := by decide +kernel
theorem dX3_put_56 : decode cX3_put 56 = .ok (.ireturn, 1) := by decide +kernel
theorem dX3_floor_0 : decode cX3_floor 0 = .ok (.lload_n 0, 1) := by decide +kernel
theorem dX3_floor_1 : decode cX3_floor 1 = .ok (.lload_n 2, 1) := by decide +kernel
theorem dX3_floor_2 : decode cX3_floor 2 = .ok (.ldiv, 1) := by decide +kernel
theorem dX3_floor_3 : decode cX3_floor 3 = .ok (.lstore 4, 2) := by decide +kernel
theorem dX3_floor_5 : decode cX3_floor 5 = .ok (.lload_n 0, 1) := by decide +kernel
theorem dX3_floor_6 : decode cX3_floor 6 = .ok (.lload_n 2, 1) := by decide +kernel
theorem dX3_floor_7 : decode cX3_floor 7 = .ok (.lrem, 1) := by decide +kernel
theorem dX3_floor_8 : decode cX3_floor 8 = .ok (.lconst 0, 1) := by decide +kernel
theorem dX3_floor_9 : decode cX3_floor 9 = .ok (.lcmp, 1) := by decide +kernel
theorem dX3_floor_10 : decode cX3_floor 10 = .ok (.ifCond .ge 10, 3) := by decide +kernel
theorem dX3_floor_13 : decode cX3_floor 13 = .ok (.lload 4, 2) := by decide +kernel
theorem dX3_floor_15 : decode cX3_floor 15 = .ok (.lconst 1, 1) := by decide +kernel
theorem dX3_floor_16 : decode cX3_floor 16 = .ok (.lsub, 1) := by decide +kernel
theorem dX3_floor_17 : decode cX3_floor 17 = .ok (.goto 5, 3) := by decide +kernel
theorem dX3_floor_20 : decode cX3_floor 20 = .ok (.lload 4, 2) := by decide +kernel
theorem dX3_floor_22 : decode cX3_floor 22 = .ok (.lreturn, 1) := by decide +kernel
theorem dX3_thousandths_0 : decode cX3_thousandths 0 = .ok (.lload_n 0, 1) := by decide +kernel
theorem dX3_thousandths_1 : decode cX3_thousandths 1 = .ok (.lload_n 2, 1) := by decide +kernel
theorem dX3_thousandths_2 : decode cX3_thousandths 2 = .ok (.invokestatic 110, 3) := by decide +kernel
theorem dX3_thousandths_5 : decode cX3_thousandths 5 = .ok (.lstore 4, 2) := by decide +kernel
theorem dX3_thousandths_7 : decode cX3_thousandths 7 = .ok (.ldc2_w 114, 3) := by decide +kernel
theorem dX3_thousandths_10 : decode cX3_thousandths 10 = .ok (.lload 4, 2) := by decide +kernel
theorem dX3_thousandths_12 : decode cX3_thousandths 12 = .ok (.lmul, 1) := by decide +kernel
theorem dX3_thousandths_13 : decode cX3_thousandths 13 = .ok (.ldc2_w 114, 3) := by decide +kernel
theorem dX3_thousandths_16 : decode cX3_thousandths 16 = .ok (.lload_n 0, 1) := by decide +kernel
theorem dX3_thousandths_17 : decode cX3_thousandths 17 = .ok (.lload 4, 2) := by decide +kernel
theorem dX3_thousandths_19 : decode cX3_thousandths 19 = .ok (.lload_n 2, 1) := by decide +kernel
theorem dX3_thousandths_20 : decode cX3_thousandths 20 = .ok (.lmul, 1) := by decide +kernel
theorem dX3_thousandths_21 : decode cX3_thousandths 21 = .ok (.lsub, 1) := by decide +kernel
theorem dX3_thousandths_22 : decode cX3_thousandths 22 = .ok (.lmul, 1) := by decide +kernel
theorem dX3_thousandths_23 : decode cX3_thousandths 23 = .ok (.lload_n 2, 1) := by decide +kernel
theorem dX3_thousandths_24 : decode cX3_thousandths 24 = .ok (.invokestatic 110, 3) := by decide +kernel
theorem dX3_thousandths_27 : decode cX3_thousandths 27 = .ok (.ladd, 1) := by decide +kernel
theorem dX3_thousandths_28 : decode cX3_thousandths 28 = .ok (.lreturn, 1) := by decide +kernel
theorem dX3_runs_0 : decode cX3_runs 0 = .ok (.iload_n 1, 1) := by decide +kernel
theorem dX3_runs_1 : decode cX3_runs 1 = .ok (.invokestatic 107, 3) := by decide +kernel
theorem dX3_runs_4 : decode cX3_runs 4 = .ok (.ifCond .eq 11, 3) := by decide +kernel
theorem dX3_runs_7 : decode cX3_runs 7 = .ok (.aload_n 0, 1) := by decide +kernel
theorem dX3_runs_8 : decode cX3_runs 8 = .ok (.iload_n 2, 1) := by decide +kernel
theorem dX3_runs_9 : decode cX3_runs 9 = .ok (.invokevirtual 61, 3) := by decide +kernel
theorem dX3_runs_12 : decode cX3_runs 12 = .ok (.ifCond .ne 7, 3) := by decide +kernel
theorem dX3_runs_15 : decode cX3_runs 15 = .ok (.ldc2_w 116, 3) := by decide +kernel
theorem dX3_runs_18 : decode cX3_runs 18 = .ok (.lreturn, 1) := by decide +kernel
theorem dX3_runs_19 : decode cX3_runs 19 = .ok (.aload_n 0, 1) := by decide +kernel
theorem dX3_runs_20 : decode cX3_runs 20 = .ok (.invokevirtual 104, 3) := by decide +kernel
theorem dX3_runs_23 : decode cX3_runs 23 = .ok (.aload_n 0, 1) := by decide +kernel
theorem dX3_runs_24 : decode cX3_runs 24 = .ok (.getfield 89, 3) := by decide +kernel
theorem dX3_runs_27 : decode cX3_runs 27 = .ok (.lconst 0, 1) := by decide +kernel
theorem dX3_runs_28 : decode cX3_runs 28 = .ok (.lcmp, 1) := by decide +kernel
theorem dX3_runs_29 : decode cX3_runs 29 = .ok (.ifCond .ne 7, 3) := by decide +kernel
theorem dX3_runs_32 : decode cX3_runs 32 = .ok (.ldc2_w 118, 3) := by decide +kernel
theorem dX3_runs_35 : decode cX3_runs 35 = .ok (.lreturn, 1) := by decide +kernel
theorem dX3_runs_36 : decode cX3_runs 36 = .ok (.aload_n 0, 1) := by decide +kernel
theorem dX3_runs_37 : decode cX3_runs 37 = .ok (.iload_n 1, 1) := by decide +kernel
theorem dX3_runs_38 : decode cX3_runs 38 = .ok (.invokevirtual 120, 3) := by decide +kernel
theorem dX3_runs_41 : decode cX3_runs 41 = .ok (.aload_n 0, 1) := by decide +kernel
theorem dX3_runs_42 : decode cX3_runs 42 = .ok (.getfield 44, 3) := by decide +kernel
theorem dX3_runs_45 : decode cX3_runs 45 = .ok (.iload_n 2, 1) := by decide +kernel
theorem dX3_runs_46 : decode cX3_runs 46 = .ok (.laload, 1) := by decide +kernel
theorem dX3_runs_47 : decode cX3_runs 47 = .ok (.aload_n 0, 1) := by decide +kernel
theorem dX3_runs_48 : decode cX3_runs 48 = .ok (.bipush 6, 2) := by decide +kernel
theorem dX3_runs_50 : decode cX3_runs 50 = .ok (.iload_n 2, 1) := by decide +kernel
theorem dX3_runs_51 : decode cX3_runs 51 = .ok (.invokevirtual 76, 3) := by decide +kernel
theorem dX3_runs_54 : decode cX3_runs 54 = .ok (.i2l, 1) := by decide +kernel
theorem dX3_runs_55 : decode cX3_runs 55 = .ok (.lmul, 1) := by decide +kernel
theorem dX3_runs_56 : decode cX3_runs 56 = .ok (.aload_n 0, 1) := by decide +kernel
theorem dX3_runs_57 : decode cX3_runs 57 = .ok (.getfield 100, 3) := by decide +kernel
theorem dX3_runs_60 : decode cX3_runs 60 = .ok (.invokestatic 124, 3) := by decide +kernel
theorem dX3_runs_63 : decode cX3_runs 63 = .ok (.lreturn, 1) := by decide +kernel
theorem dX3_emission_0 : decode cX3_emission 0 = .ok (.aload_n 0, 1) := by decide +kernel
theorem dX3_emission_1 : decode cX3_emission 1 = .ok (.getfield 28, 3) := by decide +kernel
theorem dX3_emission_4 : decode cX3_emission 4 = .ok (.bipush 36, 2) := by decide +kernel
theorem dX3_emission_6 : decode cX3_emission 6 = .ok (.aload_n 0, 1) := by decide +kernel
theorem dX3_emission_7 : decode cX3_emission 7 = .ok (.getfield 34, 3) := by decide +kernel
theorem dX3_emission_10 : decode cX3_emission 10 = .ok (.iload_n 1, 1) := by decide +kernel
theorem dX3_emission_11 : decode cX3_emission 11 = .ok (.iaload, 1) := by decide +kernel
theorem dX3_emission_12 : decode cX3_emission 12 = .ok (.imul, 1) := by decide +kernel
theorem dX3_emission_13 : decode cX3_emission 13 = .ok (.bipush 9, 2) := by decide +kernel
theorem dX3_emission_15 : decode cX3_emission 15 = .ok (.iload_n 1, 1) := by decide +kernel
theorem dX3_emission_16 : decode cX3_emission 16 = .ok (.imul, 1) := by decide +kernel
theorem dX3_emission_17 : decode cX3_emission 17 = .ok (.iadd, 1) := by decide +kernel
theorem dX3_emission_18 : decode cX3_emission 18 = .ok (.iconst 3, 1) := by decide +kernel
theorem dX3_emission_19 : decode cX3_emission 19 = .ok (.iload_n 3, 1) := by decide +kernel
theorem dX3_emission_20 : decode cX3_emission 20 = .ok (.imul, 1) := by decide +kernel
theorem dX3_emission_21 : decode cX3_emission 21 = .ok (.iadd, 1) := by decide +kernel
theorem dX3_emission_22 : decode cX3_emission 22 = .ok (.iload_n 2, 1) := by decide +kernel
theorem dX3_emission_23 : decode cX3_emission 23 = .ok (.iadd, 1) := by decide +kernel
theorem dX3_emission_24 : decode cX3_emission 24 = .ok (.iaload, 1) := by decide +kernel
theorem dX3_emission_25 : decode cX3_emission 25 = .ok (.i2l, 1) := by decide +kernel
theorem dX3_emission_26 : decode cX3_emission 26 = .ok (.aload_n 0, 1) := by decide +kernel
theorem dX3_emission_27 : decode cX3_emission 27 = .ok (.aload_n 0, 1) := by decide +kernel
theorem dX3_emission_28 : decode cX3_emission 28 = .ok (.getfield 34, 3) := by decide +kernel
theorem dX3_emission_31 : decode cX3_emission 31 = .ok (.iload_n 1, 1) := by decide +kernel
theorem dX3_emission_32 : decode cX3_emission 32 = .ok (.iaload, 1) := by decide +kernel
theorem dX3_emission_33 : decode cX3_emission 33 = .ok (.iload_n 1, 1) := by decide +kernel
theorem dX3_emission_34 : decode cX3_emission 34 = .ok (.invokevirtual 72, 3) := by decide +kernel
theorem dX3_emission_37 : decode cX3_emission 37 = .ok (.i2l, 1) := by decide +kernel
theorem dX3_emission_38 : decode cX3_emission 38 = .ok (.lmul, 1) := by decide +kernel
theorem dX3_emission_39 : decode cX3_emission 39 = .ok (.lreturn, 1) := by decide +kernel
theorem dX3_sum_0 : decode cX3_sum 0 = .ok (.lconst 0, 1) := by decide +kernel
theorem dX3_sum_1 : decode cX3_sum 1 = .ok (.lstore_n 3, 1) := by decide +kernel
theorem dX3_sum_2 : decode cX3_sum 2 = .ok (.iconst 0, 1) := by decide +kernel
theorem dX3_sum_3 : decode cX3_sum 3 = .ok (.istore 5, 2) := by decide +kernel
theorem dX3_sum_5 : decode cX3_sum 5 = .ok (.iload 5, 2) := by decide +kernel
theorem dX3_sum_7 : decode cX3_sum 7 = .ok (.aload_n 0, 1) := by decide +kernel
theorem dX3_sum_8 : decode cX3_sum 8 = .ok (.getfield 50, 3) := by decide +kernel
theorem dX3_sum_11 : decode cX3_sum 11 = .ok (.if_icmp .ge 59, 3) := by decide +kernel
theorem dX3_sum_14 : decode cX3_sum 14 = .ok (.iload_n 2, 1) := by decide +kernel
theorem dX3_sum_15 : decode cX3_sum 15 = .ok (.iconst 1, 1) := by decide +kernel
theorem dX3_sum_16 : decode cX3_sum 16 = .ok (.if_icmp .ne 7, 3) := by decide +kernel
theorem dX3_sum_19 : decode cX3_sum 19 = .ok (.iconst 1, 1) := by decide +kernel
theorem dX3_sum_20 : decode cX3_sum 20 = .ok (.goto 22, 3) := by decide +kernel
theorem dX3_sum_23 : decode cX3_sum 23 = .ok (.aload_n 0, 1) := by decide +kernel
theorem dX3_sum_24 : decode cX3_sum 24 = .ok (.getfield 44, 3) := by decide +kernel
theorem dX3_sum_27 : decode cX3_sum 27 = .ok (.iload 5, 2) := by decide +kernel
theorem dX3_sum_29 : decode cX3_sum 29 = .ok (.laload, 1) := by decide +kernel
theorem dX3_sum_30 : decode cX3_sum 30 = .ok (.lconst 0, 1) := by decide +kernel
theorem dX3_sum_31 : decode cX3_sum 31 = .ok (.lcmp, 1) := by decide +kernel
theorem dX3_sum_32 : decode cX3_sum 32 = .ok (.ifCond .ge 9, 3) := by decide +kernel
theorem dX3_sum_35 : decode cX3_sum 35 = .ok (.iconst 2, 1) := by decide +kernel
theorem dX3_sum_36 : decode cX3_sum 36 = .ok (.iload_n 2, 1) := by decide +kernel
theorem dX3_sum_37 : decode cX3_sum 37 = .ok (.isub, 1) := by decide +kernel
theorem dX3_sum_38 : decode cX3_sum 38 = .ok (.goto 4, 3) := by decide +kernel
theorem dX3_sum_41 : decode cX3_sum 41 = .ok (.iload_n 2, 1) := by decide +kernel
theorem dX3_sum_42 : decode cX3_sum 42 = .ok (.istore 6, 2) := by decide +kernel
theorem dX3_sum_44 : decode cX3_sum 44 = .ok (.lload_n 3, 1) := by decide +kernel
theorem dX3_sum_45 : decode cX3_sum 45 = .ok (.aload_n 0, 1) := by decide +kernel
theorem dX3_sum_46 : decode cX3_sum 46 = .ok (.iload 5, 2) := by decide +kernel
theorem dX3_sum_48 : decode cX3_sum 48 = .ok (.iload_n 1, 1) := by decide +kernel
theorem dX3_sum_49 : decode cX3_sum 49 = .ok (.iload 6, 2) := by decide +kernel
theorem dX3_sum_51 : decode cX3_sum 51 = .ok (.invokevirtual 127, 3) := by decide +kernel
theorem dX3_sum_54 : decode cX3_sum 54 = .ok (.aload_n 0, 1) := by decide +kernel
theorem dX3_sum_55 : decode cX3_sum 55 = .ok (.getfield 44, 3) := by decide +kernel
theorem dX3_sum_58 : decode cX3_sum 58 = .ok (.iload 5, 2) := by decide +kernel
theorem dX3_sum_60 : decode cX3_sum 60 = .ok (.laload, 1) := by decide +kernel
theorem dX3_sum_61 : decode cX3_sum 61 = .ok (.lmul, 1) := by decide +kernel
theorem dX3_sum_62 : decode cX3_sum 62 = .ok (.ladd, 1) := by decide +kernel
theorem dX3_sum_63 : decode cX3_sum 63 = .ok (.lstore_n 3, 1) := by decide +kernel
theorem dX3_sum_64 : decode cX3_sum 64 = .ok (.iinc 5 1, 3) := by decide +kernel
theorem dX3_sum_67 : decode cX3_sum 67 = .ok (.goto (-62), 3) := by decide +kernel
theorem dX3_sum_70 : decode cX3_sum 70 = .ok (.lload_n 3, 1) := by decide +kernel
theorem dX3_sum_71 : decode cX3_sum 71 = .ok (.lreturn, 1) := by decide +kernel
theorem dX3_common_0 : decode cX3_common 0 = .ok (.lload_n 0, 1) := by decide +kernel
theorem dX3_common_1 : decode cX3_common 1 = .ok (.lconst 0, 1) := by decide +kernel
theorem dX3_common_2 : decode cX3_common 2 = .ok (.lcmp, 1) := by decide +kernel
theorem dX3_common_3 : decode cX3_common 3 = .ok (.ifCond .ge 8, 3) := by decide +kernel
theorem dX3_common_6 : decode cX3_common 6 = .ok (.lload_n 0, 1) := by decide +kernel
theorem dX3_common_7 : decode cX3_common 7 = .ok (.lneg, 1) := by decide +kernel
theorem dX3_common_8 : decode cX3_common 8 = .ok (.goto 4, 3) := by decide +kernel
theorem dX3_common_11 : decode cX3_common 11 = .ok (.lload_n 0, 1) := by decide +kernel
theorem dX3_common_12 : decode cX3_common 12 = .ok (.lstore 4, 2) := by decide +kernel
theorem dX3_common_14 : decode cX3_common 14 = .ok (.lload_n 2, 1) := by decide +kernel
theorem dX3_common_15 : decode cX3_common 15 = .ok (.lstore 6, 2) := by decide +kernel
theorem dX3_common_17 : decode cX3_common 17 = .ok (.lload 6, 2) := by decide +kernel
theorem dX3_common_19 : decode cX3_common 19 = .ok (.lconst 0, 1) := by decide +kernel
theorem dX3_common_20 : decode cX3_common 20 = .ok (.lcmp, 1) := by decide +kernel
theorem dX3_common_21 : decode cX3_common 21 = .ok (.ifCond .eq 21, 3) := by decide +kernel
theorem dX3_common_24 : decode cX3_common 24 = .ok (.lload 4, 2) := by decide +kernel
theorem dX3_common_26 : decode cX3_common 26 = .ok (.lload 6, 2) := by decide +kernel
theorem dX3_common_28 : decode cX3_common 28 = .ok (.lrem, 1) := by decide +kernel
theorem dX3_common_29 : decode cX3_common 29 = .ok (.lstore 8, 2) := by decide +kernel
theorem dX3_common_31 : decode cX3_common 31 = .ok (.lload 6, 2) := by decide +kernel
theorem dX3_common_33 : decode cX3_common 33 = .ok (.lstore 4, 2) := by decide +kernel
theorem dX3_common_35 : decode cX3_common 35 = .ok (.lload 8, 2) := by decide +kernel
theorem dX3_common_37 : decode cX3_common 37 = .ok (.lstore 6, 2) := by decide +kernel
theorem dX3_common_39 : decode cX3_common 39 = .ok (.goto (-22), 3) := by decide +kernel
theorem dX3_common_42 : decode cX3_common 42 = .ok (.lload 4, 2) := by decide +kernel
theorem dX3_common_44 : decode cX3_common 44 = .ok (.lreturn, 1) := by decide +kernel
theorem dX3_total_0 : decode cX3_total 0 = .ok (.iload_n 1, 1) := by decide +kernel
theorem dX3_total_1 : decode cX3_total 1 = .ok (.invokestatic 107, 3) := by decide +kernel
theorem dX3_total_4 : decode cX3_total 4 = .ok (.ifCond .eq 10, 3) := by decide +kernel
theorem dX3_total_7 : decode cX3_total 7 = .ok (.iload_n 2, 1) := by decide +kernel
theorem dX3_total_8 : decode cX3_total 8 = .ok (.invokestatic 65, 3) := by decide +kernel
theorem dX3_total_11 : decode cX3_total 11 = .ok (.ifCond .ne 7, 3) := by decide +kernel
theorem dX3_total_14 : decode cX3_total 14 = .ok (.ldc2_w 116, 3) := by decide +kernel
theorem dX3_total_17 : decode cX3_total 17 = .ok (.lreturn, 1) := by decide +kernel
theorem dX3_total_18 : decode cX3_total 18 = .ok (.iload_n 3, 1) := by decide +kernel
theorem dX3_total_19 : decode cX3_total 19 = .ok (.iconst 0, 1) := by decide +kernel
theorem dX3_total_20 : decode cX3_total 20 = .ok (.iconst 2, 1) := by decide +kernel
theorem dX3_total_21 : decode cX3_total 21 = .ok (.invokestatic 54, 3) := by decide +kernel
theorem dX3_total_24 : decode cX3_total 24 = .ok (.ifCond .eq 13, 3) := by decide +kernel
theorem dX3_total_27 : decode cX3_total 27 = .ok (.iload 4, 2) := by decide +kernel
theorem dX3_total_29 : decode cX3_total 29 = .ok (.iconst 0, 1) := by decide +kernel
theorem dX3_total_30 : decode cX3_total 30 = .ok (.iconst 1, 1) := by decide +kernel
theorem dX3_total_31 : decode cX3_total 31 = .ok (.invokestatic 54, 3) := by decide +kernel
theorem dX3_total_34 : decode cX3_total 34 = .ok (.ifCond .ne 7, 3) := by decide +kernel
theorem dX3_total_37 : decode cX3_total 37 = .ok (.ldc2_w 130, 3) := by decide +kernel
theorem dX3_total_40 : decode cX3_total 40 = .ok (.lreturn, 1) := by decide +kernel
theorem dX3_total_41 : decode cX3_total 41 = .ok (.aload_n 0, 1) := by decide +kernel
theorem dX3_total_42 : decode cX3_total 42 = .ok (.invokevirtual 104, 3) := by decide +kernel
theorem dX3_total_45 : decode cX3_total 45 = .ok (.aload_n 0, 1) := by decide +kernel
theorem dX3_total_46 : decode cX3_total 46 = .ok (.getfield 89, 3) := by decide +kernel
theorem dX3_total_49 : decode cX3_total 49 = .ok (.lconst 0, 1) := by decide +kernel
theorem dX3_total_50 : decode cX3_total 50 = .ok (.lcmp, 1) := by decide +kernel
theorem dX3_total_51 : decode cX3_total 51 = .ok (.ifCond .ne 7, 3) := by decide +kernel
theorem dX3_total_54 : decode cX3_total 54 = .ok (.ldc2_w 118, 3) := by decide +kernel
theorem dX3_total_57 : decode cX3_total 57 = .ok (.lreturn, 1) := by decide +kernel
theorem dX3_total_58 : decode cX3_total 58 = .ok (.aload_n 0, 1) := by decide +kernel
theorem dX3_total_59 : decode cX3_total 59 = .ok (.iload_n 1, 1) := by decide +kernel
theorem dX3_total_60 : decode cX3_total 60 = .ok (.invokevirtual 120, 3) := by decide +kernel
theorem dX3_total_63 : decode cX3_total 63 = .ok (.aload_n 0, 1) := by decide +kernel
theorem dX3_total_64 : decode cX3_total 64 = .ok (.iload_n 2, 1) := by decide +kernel
theorem dX3_total_65 : decode cX3_total 65 = .ok (.iload_n 3, 1) := by decide +kernel
theorem dX3_total_66 : decode cX3_total 66 = .ok (.invokevirtual 132, 3) := by decide +kernel
theorem dX3_total_69 : decode cX3_total 69 = .ok (.lstore 5, 2) := by decide +kernel
theorem dX3_total_71 : decode cX3_total 71 = .ok (.lload 5, 2) := by decide +kernel
theorem dX3_total_73 : decode cX3_total 73 = .ok (.aload_n 0, 1) := by decide +kernel
theorem dX3_total_74 : decode cX3_total 74 = .ok (.getfield 100, 3) := by decide +kernel
theorem dX3_total_77 : decode cX3_total 77 = .ok (.invokestatic 136, 3) := by decide +kernel
theorem dX3_total_80 : decode cX3_total 80 = .ok (.lstore 7, 2) := by decide +kernel
theorem dX3_total_82 : decode cX3_total 82 = .ok (.iload 4, 2) := by decide +kernel
theorem dX3_total_84 : decode cX3_total 84 = .ok (.ifCond .ne 11, 3) := by decide +kernel
theorem dX3_total_87 : decode cX3_total 87 = .ok (.lload 5, 2) := by decide +kernel
theorem dX3_total_89 : decode cX3_total 89 = .ok (.lload 7, 2) := by decide +kernel
theorem dX3_total_91 : decode cX3_total 91 = .ok (.ldiv, 1) := by decide +kernel
theorem dX3_total_92 : decode cX3_total 92 = .ok (.goto 10, 3) := by decide +kernel
theorem dX3_total_95 : decode cX3_total 95 = .ok (.aload_n 0, 1) := by decide +kernel
theorem dX3_total_96 : decode cX3_total 96 = .ok (.getfield 100, 3) := by decide +kernel
theorem dX3_total_99 : decode cX3_total 99 = .ok (.lload 7, 2) := by decide +kernel
theorem dX3_total_101 : decode cX3_total 101 = .ok (.ldiv, 1) := by decide +kernel
theorem dX3_total_102 : decode cX3_total 102 = .ok (.lreturn, 1) := by decide +kernel
theorem dX3_share_0 : decode cX3_share 0 = .ok (.iload_n 1, 1) := by decide +kernel
theorem dX3_share_1 : decode cX3_share 1 = .ok (.invokestatic 107, 3) := by decide +kernel
theorem dX3_share_4 : decode cX3_share 4 = .ok (.ifCond .eq 18, 3) := by decide +kernel
theorem dX3_share_7 : decode cX3_share 7 = .ok (.iload_n 2, 1) := by decide +kernel
theorem dX3_share_8 : decode cX3_share 8 = .ok (.invokestatic 65, 3) := by decide +kernel
theorem dX3_share_11 : decode cX3_share 11 = .ok (.ifCond .eq 11, 3) := by decide +kernel
theorem dX3_share_14 : decode cX3_share 14 = .ok (.aload_n 0, 1) := by decide +kernel
theorem dX3_share_15 : decode cX3_share 15 = .ok (.iload_n 3, 1) := by decide +kernel
theorem dX3_share_16 : decode cX3_share 16 = .ok (.invokevirtual 61, 3) := by decide +kernel
theorem dX3_share_19 : decode cX3_share 19 = .ok (.ifCond .ne 7, 3) := by decide +kernel
theorem dX3_share_22 : decode cX3_share 22 = .ok (.ldc2_w 116, 3) := by decide +kernel
theorem dX3_share_25 : decode cX3_share 25 = .ok (.lreturn, 1) := by decide +kernel
theorem dX3_share_26 : decode cX3_share 26 = .ok (.aload_n 0, 1) := by decide +kernel
theorem dX3_share_27 : decode cX3_share 27 = .ok (.invokevirtual 104, 3) := by decide +kernel
theorem dX3_share_30 : decode cX3_share 30 = .ok (.aload_n 0, 1) := by decide +kernel
theorem dX3_share_31 : decode cX3_share 31 = .ok (.getfield 89, 3) := by decide +kernel
theorem dX3_share_34 : decode cX3_share 34 = .ok (.lconst 0, 1) := by decide +kernel
theorem dX3_share_35 : decode cX3_share 35 = .ok (.lcmp, 1) := by decide +kernel
theorem dX3_share_36 : decode cX3_share 36 = .ok (.ifCond .ne 7, 3) := by decide +kernel
theorem dX3_share_39 : decode cX3_share 39 = .ok (.ldc2_w 118, 3) := by decide +kernel
theorem dX3_share_42 : decode cX3_share 42 = .ok (.lreturn, 1) := by decide +kernel
theorem dX3_share_43 : decode cX3_share 43 = .ok (.aload_n 0, 1) := by decide +kernel
theorem dX3_share_44 : decode cX3_share 44 = .ok (.iload_n 1, 1) := by decide +kernel
theorem dX3_share_45 : decode cX3_share 45 = .ok (.invokevirtual 120, 3) := by decide +kernel
theorem dX3_share_48 : decode cX3_share 48 = .ok (.aload_n 0, 1) := by decide +kernel
theorem dX3_share_49 : decode cX3_share 49 = .ok (.iload_n 3, 1) := by decide +kernel
theorem dX3_share_50 : decode cX3_share 50 = .ok (.iload_n 2, 1) := by decide +kernel
theorem dX3_share_51 : decode cX3_share 51 = .ok (.iconst 1, 1) := by decide +kernel
theorem dX3_share_52 : decode cX3_share 52 = .ok (.invokevirtual 127, 3) := by decide +kernel
theorem dX3_share_55 : decode cX3_share 55 = .ok (.aload_n 0, 1) := by decide +kernel
theorem dX3_share_56 : decode cX3_share 56 = .ok (.getfield 44, 3) := by decide +kernel
theorem dX3_share_59 : decode cX3_share 59 = .ok (.iload_n 3, 1) := by decide +kernel
theorem dX3_share_60 : decode cX3_share 60 = .ok (.laload, 1) := by decide +kernel
theorem dX3_share_61 : decode cX3_share 61 = .ok (.lmul, 1) := by decide +kernel
theorem dX3_share_62 : decode cX3_share 62 = .ok (.aload_n 0, 1) := by decide +kernel
theorem dX3_share_63 : decode cX3_share 63 = .ok (.getfield 100, 3) := by decide +kernel
theorem dX3_share_66 : decode cX3_share 66 = .ok (.invokestatic 124, 3) := by decide +kernel
theorem dX3_share_69 : decode cX3_share 69 = .ok (.lreturn, 1) := by decide +kernel
theorem dX3_way_0 : decode cX3_way 0 = .ok (.iload_n 1, 1) := by decide +kernel
theorem dX3_way_1 : decode cX3_way 1 = .ok (.invokestatic 107, 3) := by decide +kernel
theorem dX3_way_4 : decode cX3_way 4 = .ok (.ifCond .eq 48, 3) := by decide +kernel
theorem dX3_way_7 : decode cX3_way 7 = .ok (.iload_n 2, 1) := by decide +kernel
theorem dX3_way_8 : decode cX3_way 8 = .ok (.invokestatic 65, 3) := by decide +kernel
theorem dX3_way_11 : decode cX3_way 11 = .ok (.ifCond .eq 41, 3) := by decide +kernel
theorem dX3_way_14 : decode cX3_way 14 = .ok (.aload_n 0, 1) := by decide +kernel
theorem dX3_way_15 : decode cX3_way 15 = .ok (.iload_n 3, 1) := by decide +kernel
theorem dX3_way_16 : decode cX3_way 16 = .ok (.invokevirtual 61, 3) := by decide +kernel
theorem dX3_way_19 : decode cX3_way 19 = .ok (.ifCond .eq 33, 3) := by decide +kernel
theorem dX3_way_22 : decode cX3_way 22 = .ok (.iload 4, 2) := by decide +kernel
theorem dX3_way_24 : decode cX3_way 24 = .ok (.iconst (-1), 1) := by decide +kernel
theorem dX3_way_25 : decode cX3_way 25 = .ok (.if_icmp .eq 12, 3) := by decide +kernel
theorem dX3_way_28 : decode cX3_way 28 = .ok (.aload_n 0, 1) := by decide +kernel
theorem dX3_way_29 : decode cX3_way 29 = .ok (.iload 4, 2) := by decide +kernel
theorem dX3_way_31 : decode cX3_way 31 = .ok (.invokevirtual 61, 3) := by decide +kernel
theorem dX3_way_34 : decode cX3_way 34 = .ok (.ifCond .eq 18, 3) := by decide +kernel
theorem dX3_way_37 : decode cX3_way 37 = .ok (.iload 5, 2) := by decide +kernel
theorem dX3_way_39 : decode cX3_way 39 = .ok (.iconst (-1), 1) := by decide +kernel
theorem dX3_way_40 : decode cX3_way 40 = .ok (.if_icmp .eq 16, 3) := by decide +kernel
theorem dX3_way_43 : decode cX3_way 43 = .ok (.aload_n 0, 1) := by decide +kernel
theorem dX3_way_44 : decode cX3_way 44 = .ok (.iload 5, 2) := by decide +kernel
theorem dX3_way_46 : decode cX3_way 46 = .ok (.invokevirtual 61, 3) := by decide +kernel
theorem dX3_way_49 : decode cX3_way 49 = .ok (.ifCond .ne 7, 3) := by decide +kernel
theorem dX3_way_52 : decode cX3_way 52 = .ok (.ldc2_w 116, 3) := by decide +kernel
theorem dX3_way_55 : decode cX3_way 55 = .ok (.lreturn, 1) := by decide +kernel
theorem dX3_way_56 : decode cX3_way 56 = .ok (.iload 4, 2) := by decide +kernel
theorem dX3_way_58 : decode cX3_way 58 = .ok (.iconst (-1), 1) := by decide +kernel
theorem dX3_way_59 : decode cX3_way 59 = .ok (.if_icmp .ne 9, 3) := by decide +kernel
theorem dX3_way_62 : decode cX3_way 62 = .ok (.iload 5, 2) := by decide +kernel
theorem dX3_way_64 : decode cX3_way 64 = .ok (.iconst (-1), 1) := by decide +kernel
theorem dX3_way_65 : decode cX3_way 65 = .ok (.if_icmp .ne 22, 3) := by decide +kernel
theorem dX3_way_68 : decode cX3_way 68 = .ok (.iload_n 3, 1) := by decide +kernel
theorem dX3_way_69 : decode cX3_way 69 = .ok (.iload 4, 2) := by decide +kernel
theorem dX3_way_71 : decode cX3_way 71 = .ok (.if_icmp .eq 16, 3) := by decide +kernel
theorem dX3_way_74 : decode cX3_way 74 = .ok (.iload 4, 2) := by decide +kernel
theorem dX3_way_76 : decode cX3_way 76 = .ok (.iconst (-1), 1) := by decide +kernel
theorem dX3_way_77 : decode cX3_way 77 = .ok (.if_icmp .eq 14, 3) := by decide +kernel
theorem dX3_way_80 : decode cX3_way 80 = .ok (.iload 4, 2) := by decide +kernel
theorem dX3_way_82 : decode cX3_way 82 = .ok (.iload 5, 2) := by decide +kernel
theorem dX3_way_84 : decode cX3_way 84 = .ok (.if_icmp .ne 7, 3) := by decide +kernel
theorem dX3_way_87 : decode cX3_way 87 = .ok (.ldc2_w 130, 3) := by decide +kernel
theorem dX3_way_90 : decode cX3_way 90 = .ok (.lreturn, 1) := by decide +kernel
theorem dX3_way_91 : decode cX3_way 91 = .ok (.aload_n 0, 1) := by decide +kernel
theorem dX3_way_92 : decode cX3_way 92 = .ok (.invokevirtual 104, 3) := by decide +kernel
theorem dX3_way_95 : decode cX3_way 95 = .ok (.aload_n 0, 1) := by decide +kernel
theorem dX3_way_96 : decode cX3_way 96 = .ok (.getfield 31, 3) := by decide +kernel
theorem dX3_way_99 : decode cX3_way 99 = .ok (.iconst 4, 1) := by decide +kernel
theorem dX3_way_100 : decode cX3_way 100 = .ok (.iload_n 1, 1) := by decide +kernel
theorem dX3_way_101 : decode cX3_way 101 = .ok (.imul, 1) := by decide +kernel
theorem dX3_way_102 : decode cX3_way 102 = .ok (.iload_n 3, 1) := by decide +kernel
theorem dX3_way_103 : decode cX3_way 103 = .ok (.iadd, 1) := by decide +kernel
theorem dX3_way_104 : decode cX3_way 104 = .ok (.iaload, 1) := by decide +kernel
theorem dX3_way_105 : decode cX3_way 105 = .ok (.i2l, 1) := by decide +kernel
theorem dX3_way_106 : decode cX3_way 106 = .ok (.lstore 6, 2) := by decide +kernel
theorem dX3_way_108 : decode cX3_way 108 = .ok (.aload_n 0, 1) := by decide +kernel
theorem dX3_way_109 : decode cX3_way 109 = .ok (.getfield 37, 3) := by decide +kernel
theorem dX3_way_112 : decode cX3_way 112 = .ok (.iconst 5, 1) := by decide +kernel
theorem dX3_way_113 : decode cX3_way 113 = .ok (.iload_n 3, 1) := by decide +kernel
theorem dX3_way_114 : decode cX3_way 114 = .ok (.imul, 1) := by decide +kernel
theorem dX3_way_115 : decode cX3_way 115 = .ok (.laload, 1) := by decide +kernel
theorem dX3_way_116 : decode cX3_way 116 = .ok (.lstore 8, 2) := by decide +kernel
theorem dX3_way_118 : decode cX3_way 118 = .ok (.iload_n 3, 1) := by decide +kernel
theorem dX3_way_119 : decode cX3_way 119 = .ok (.istore 10, 2) := by decide +kernel
theorem dX3_way_121 : decode cX3_way 121 = .ok (.iload 4, 2) := by decide +kernel
theorem dX3_way_123 : decode cX3_way 123 = .ok (.iconst (-1), 1) := by decide +kernel
theorem dX3_way_124 : decode cX3_way 124 = .ok (.if_icmp .eq 38, 3) := by decide +kernel
theorem dX3_way_127 : decode cX3_way 127 = .ok (.lload 6, 2) := by decide +kernel
theorem dX3_way_129 : decode cX3_way 129 = .ok (.aload_n 0, 1) := by decide +kernel
theorem dX3_way_130 : decode cX3_way 130 = .ok (.getfield 37, 3) := by decide +kernel
theorem dX3_way_133 : decode cX3_way 133 = .ok (.iconst 4, 1) := by decide +kernel
theorem dX3_way_134 : decode cX3_way 134 = .ok (.iload 4, 2) := by decide +kernel
theorem dX3_way_136 : decode cX3_way 136 = .ok (.imul, 1) := by decide +kernel
theorem dX3_way_137 : decode cX3_way 137 = .ok (.iload_n 3, 1) := by decide +kernel
theorem dX3_way_138 : decode cX3_way 138 = .ok (.iadd, 1) := by decide +kernel
theorem dX3_way_139 : decode cX3_way 139 = .ok (.laload, 1) := by decide +kernel
theorem dX3_way_140 : decode cX3_way 140 = .ok (.lneg, 1) := by decide +kernel
theorem dX3_way_141 : decode cX3_way 141 = .ok (.lmul, 1) := by decide +kernel
theorem dX3_way_142 : decode cX3_way 142 = .ok (.lstore 6, 2) := by decide +kernel
theorem dX3_way_144 : decode cX3_way 144 = .ok (.lload 8, 2) := by decide +kernel
theorem dX3_way_146 : decode cX3_way 146 = .ok (.aload_n 0, 1) := by decide +kernel
theorem dX3_way_147 : decode cX3_way 147 = .ok (.getfield 37, 3) := by decide +kernel
theorem dX3_way_150 : decode cX3_way 150 = .ok (.iconst 5, 1) := by decide +kernel
theorem dX3_way_151 : decode cX3_way 151 = .ok (.iload 4, 2) := by decide +kernel
theorem dX3_way_153 : decode cX3_way 153 = .ok (.imul, 1) := by decide +kernel
theorem dX3_way_154 : decode cX3_way 154 = .ok (.laload, 1) := by decide +kernel
theorem dX3_way_155 : decode cX3_way 155 = .ok (.lmul, 1) := by decide +kernel
theorem dX3_way_156 : decode cX3_way 156 = .ok (.lstore 8, 2) := by decide +kernel
theorem dX3_way_158 : decode cX3_way 158 = .ok (.iload 4, 2) := by decide +kernel
theorem dX3_way_160 : decode cX3_way 160 = .ok (.istore 10, 2) := by decide +kernel
theorem dX3_way_162 : decode cX3_way 162 = .ok (.iload 5, 2) := by decide +kernel
theorem dX3_way_164 : decode cX3_way 164 = .ok (.iconst (-1), 1) := by decide +kernel
theorem dX3_way_165 : decode cX3_way 165 = .ok (.if_icmp .eq 39, 3) := by decide +kernel
theorem dX3_way_168 : decode cX3_way 168 = .ok (.lload 6, 2) := by decide +kernel
theorem dX3_way_170 : decode cX3_way 170 = .ok (.aload_n 0, 1) := by decide +kernel
theorem dX3_way_171 : decode cX3_way 171 = .ok (.getfield 37, 3) := by decide +kernel
theorem dX3_way_174 : decode cX3_way 174 = .ok (.iconst 4, 1) := by decide +kernel
theorem dX3_way_175 : decode cX3_way 175 = .ok (.iload 5, 2) := by decide +kernel
theorem dX3_way_177 : decode cX3_way 177 = .ok (.imul, 1) := by decide +kernel
theorem dX3_way_178 : decode cX3_way 178 = .ok (.iload 4, 2) := by decide +kernel
theorem dX3_way_180 : decode cX3_way 180 = .ok (.iadd, 1) := by decide +kernel
theorem dX3_way_181 : decode cX3_way 181 = .ok (.laload, 1) := by decide +kernel
theorem dX3_way_182 : decode cX3_way 182 = .ok (.lneg, 1) := by decide +kernel
theorem dX3_way_183 : decode cX3_way 183 = .ok (.lmul, 1) := by decide +kernel
theorem dX3_way_184 : decode cX3_way 184 = .ok (.lstore 6, 2) := by decide +kernel
theorem dX3_way_186 : decode cX3_way 186 = .ok (.lload 8, 2) := by decide +kernel
theorem dX3_way_188 : decode cX3_way 188 = .ok (.aload_n 0, 1) := by decide +kernel
theorem dX3_way_189 : decode cX3_way 189 = .ok (.getfield 37, 3) := by decide +kernel
theorem dX3_way_192 : decode cX3_way 192 = .ok (.iconst 5, 1) := by decide +kernel
theorem dX3_way_193 : decode cX3_way 193 = .ok (.iload 5, 2) := by decide +kernel
theorem dX3_way_195 : decode cX3_way 195 = .ok (.imul, 1) := by decide +kernel
theorem dX3_way_196 : decode cX3_way 196 = .ok (.laload, 1) := by decide +kernel
theorem dX3_way_197 : decode cX3_way 197 = .ok (.lmul, 1) := by decide +kernel
theorem dX3_way_198 : decode cX3_way 198 = .ok (.lstore 8, 2) := by decide +kernel
theorem dX3_way_200 : decode cX3_way 200 = .ok (.iload 5, 2) := by decide +kernel
theorem dX3_way_202 : decode cX3_way 202 = .ok (.istore 10, 2) := by decide +kernel
theorem dX3_way_204 : decode cX3_way 204 = .ok (.lload 8, 2) := by decide +kernel
theorem dX3_way_206 : decode cX3_way 206 = .ok (.lconst 0, 1) := by decide +kernel
theorem dX3_way_207 : decode cX3_way 207 = .ok (.lcmp, 1) := by decide +kernel
theorem dX3_way_208 : decode cX3_way 208 = .ok (.ifCond .ne 7, 3) := by decide +kernel
theorem dX3_way_211 : decode cX3_way 211 = .ok (.ldc2_w 118, 3) := by decide +kernel
theorem dX3_way_214 : decode cX3_way 214 = .ok (.lreturn, 1) := by decide +kernel
theorem dX3_way_215 : decode cX3_way 215 = .ok (.lload 6, 2) := by decide +kernel
theorem dX3_way_217 : decode cX3_way 217 = .ok (.aload_n 0, 1) := by decide +kernel
theorem dX3_way_218 : decode cX3_way 218 = .ok (.iload 10, 2) := by decide +kernel
theorem dX3_way_220 : decode cX3_way 220 = .ok (.iload_n 2, 1) := by decide +kernel
theorem dX3_way_221 : decode cX3_way 221 = .ok (.iconst 1, 1) := by decide +kernel
theorem dX3_way_222 : decode cX3_way 222 = .ok (.invokevirtual 127, 3) := by decide +kernel
theorem dX3_way_225 : decode cX3_way 225 = .ok (.lmul, 1) := by decide +kernel
theorem dX3_way_226 : decode cX3_way 226 = .ok (.lstore 6, 2) := by decide +kernel
theorem dX3_way_228 : decode cX3_way 228 = .ok (.lload 8, 2) := by decide +kernel
theorem dX3_way_230 : decode cX3_way 230 = .ok (.lconst 0, 1) := by decide +kernel
theorem dX3_way_231 : decode cX3_way 231 = .ok (.lcmp, 1) := by decide +kernel
theorem dX3_way_232 : decode cX3_way 232 = .ok (.ifCond .ge 15, 3) := by decide +kernel
theorem dX3_way_235 : decode cX3_way 235 = .ok (.lload 6, 2) := by decide +kernel
theorem dX3_way_237 : decode cX3_way 237 = .ok (.lneg, 1) := by decide +kernel
theorem dX3_way_238 : decode cX3_way 238 = .ok (.lload 8, 2) := by decide +kernel
theorem dX3_way_240 : decode cX3_way 240 = .ok (.lneg, 1) := by decide +kernel
theorem dX3_way_241 : decode cX3_way 241 = .ok (.invokestatic 124, 3) := by decide +kernel
theorem dX3_way_244 : decode cX3_way 244 = .ok (.goto 10, 3) := by decide +kernel
theorem dX3_way_247 : decode cX3_way 247 = .ok (.lload 6, 2) := by decide +kernel
theorem dX3_way_249 : decode cX3_way 249 = .ok (.lload 8, 2) := by decide +kernel
theorem dX3_way_251 : decode cX3_way 251 = .ok (.invokestatic 124, 3) := by decide +kernel
theorem dX3_way_254 : decode cX3_way 254 = .ok (.lreturn, 1) := by decide +kernel
theorem dX3_sure_0 : decode cX3_sure 0 = .ok (.iload_n 1, 1) := by decide +kernel
theorem dX3_sure_1 : decode cX3_sure 1 = .ok (.invokestatic 107, 3) := by decide +kernel
theorem dX3_sure_4 : decode cX3_sure 4 = .ok (.ifCond .eq 17, 3) := by decide +kernel
theorem dX3_sure_7 : decode cX3_sure 7 = .ok (.iload_n 2, 1) := by decide +kernel
theorem dX3_sure_8 : decode cX3_sure 8 = .ok (.invokestatic 107, 3) := by decide +kernel
theorem dX3_sure_11 : decode cX3_sure 11 = .ok (.ifCond .eq 10, 3) := by decide +kernel
theorem dX3_sure_14 : decode cX3_sure 14 = .ok (.iload_n 3, 1) := by decide +kernel
theorem dX3_sure_15 : decode cX3_sure 15 = .ok (.invokestatic 65, 3) := by decide +kernel
theorem dX3_sure_18 : decode cX3_sure 18 = .ok (.ifCond .ne 6, 3) := by decide +kernel
theorem dX3_sure_21 : decode cX3_sure 21 = .ok (.bipush (-101), 2) := by decide +kernel
theorem dX3_sure_23 : decode cX3_sure 23 = .ok (.ireturn, 1) := by decide +kernel
theorem dX3_sure_24 : decode cX3_sure 24 = .ok (.aload_n 0, 1) := by decide +kernel
theorem dX3_sure_25 : decode cX3_sure 25 = .ok (.invokevirtual 104, 3) := by decide +kernel
theorem dX3_sure_28 : decode cX3_sure 28 = .ok (.aload_n 0, 1) := by decide +kernel
theorem dX3_sure_29 : decode cX3_sure 29 = .ok (.getfield 89, 3) := by decide +kernel
theorem dX3_sure_32 : decode cX3_sure 32 = .ok (.lconst 0, 1) := by decide +kernel
theorem dX3_sure_33 : decode cX3_sure 33 = .ok (.lcmp, 1) := by decide +kernel
theorem dX3_sure_34 : decode cX3_sure 34 = .ok (.ifCond .ne 6, 3) := by decide +kernel
theorem dX3_sure_37 : decode cX3_sure 37 = .ok (.bipush (-104), 2) := by decide +kernel
theorem dX3_sure_39 : decode cX3_sure 39 = .ok (.ireturn, 1) := by decide +kernel
theorem dX3_sure_40 : decode cX3_sure 40 = .ok (.aload_n 0, 1) := by decide +kernel
theorem dX3_sure_41 : decode cX3_sure 41 = .ok (.iload_n 2, 1) := by decide +kernel
theorem dX3_sure_42 : decode cX3_sure 42 = .ok (.invokevirtual 120, 3) := by decide +kernel
theorem dX3_sure_45 : decode cX3_sure 45 = .ok (.iconst 0, 1) := by decide +kernel
theorem dX3_sure_46 : decode cX3_sure 46 = .ok (.istore 4, 2) := by decide +kernel
theorem dX3_sure_48 : decode cX3_sure 48 = .ok (.iload 4, 2) := by decide +kernel
theorem dX3_sure_50 : decode cX3_sure 50 = .ok (.iconst 4, 1) := by decide +kernel
theorem dX3_sure_51 : decode cX3_sure 51 = .ok (.if_icmp .ge 23, 3) := by decide +kernel
theorem dX3_sure_54 : decode cX3_sure 54 = .ok (.aload_n 0, 1) := by decide +kernel
theorem dX3_sure_55 : decode cX3_sure 55 = .ok (.getfield 47, 3) := by decide +kernel
theorem dX3_sure_58 : decode cX3_sure 58 = .ok (.iload 4, 2) := by decide +kernel
theorem dX3_sure_60 : decode cX3_sure 60 = .ok (.aload_n 0, 1) := by decide +kernel
theorem dX3_sure_61 : decode cX3_sure 61 = .ok (.getfield 44, 3) := by decide +kernel
theorem dX3_sure_64 : decode cX3_sure 64 = .ok (.iload 4, 2) := by decide +kernel
theorem dX3_sure_66 : decode cX3_sure 66 = .ok (.laload, 1) := by decide +kernel
theorem dX3_sure_67 : decode cX3_sure 67 = .ok (.lastore, 1) := by decide +kernel
theorem dX3_sure_68 : decode cX3_sure 68 = .ok (.iinc 4 1, 3) := by decide +kernel
theorem dX3_sure_71 : decode cX3_sure 71 = .ok (.goto (-23), 3) := by decide +kernel
theorem dX3_sure_74 : decode cX3_sure 74 = .ok (.aload_n 0, 1) := by decide +kernel
theorem dX3_sure_75 : decode cX3_sure 75 = .ok (.iload_n 1, 1) := by decide +kernel
theorem dX3_sure_76 : decode cX3_sure 76 = .ok (.invokevirtual 120, 3) := by decide +kernel
theorem dX3_sure_79 : decode cX3_sure 79 = .ok (.lconst 0, 1) := by decide +kernel
theorem dX3_sure_80 : decode cX3_sure 80 = .ok (.lstore 4, 2) := by decide +kernel
theorem dX3_sure_82 : decode cX3_sure 82 = .ok (.iconst 0, 1) := by decide +kernel
theorem dX3_sure_83 : decode cX3_sure 83 = .ok (.istore 6, 2) := by decide +kernel
theorem dX3_sure_85 : decode cX3_sure 85 = .ok (.iload 6, 2) := by decide +kernel
theorem dX3_sure_87 : decode cX3_sure 87 = .ok (.aload_n 0, 1) := by decide +kernel
theorem dX3_sure_88 : decode cX3_sure 88 = .ok (.getfield 50, 3) := by decide +kernel
theorem dX3_sure_91 : decode cX3_sure 91 = .ok (.if_icmp .ge 53, 3) := by decide +kernel
theorem dX3_sure_94 : decode cX3_sure 94 = .ok (.aload_n 0, 1) := by decide +kernel
theorem dX3_sure_95 : decode cX3_sure 95 = .ok (.getfield 44, 3) := by decide +kernel
theorem dX3_sure_98 : decode cX3_sure 98 = .ok (.iload 6, 2) := by decide +kernel
theorem dX3_sure_100 : decode cX3_sure 100 = .ok (.laload, 1) := by decide +kernel
theorem dX3_sure_101 : decode cX3_sure 101 = .ok (.aload_n 0, 1) := by decide +kernel
theorem dX3_sure_102 : decode cX3_sure 102 = .ok (.getfield 47, 3) := by decide +kernel
theorem dX3_sure_105 : decode cX3_sure 105 = .ok (.iload 6, 2) := by decide +kernel
theorem dX3_sure_107 : decode cX3_sure 107 = .ok (.laload, 1) := by decide +kernel
theorem dX3_sure_108 : decode cX3_sure 108 = .ok (.lsub, 1) := by decide +kernel
theorem dX3_sure_109 : decode cX3_sure 109 = .ok (.lstore 7, 2) := by decide +kernel
theorem dX3_sure_111 : decode cX3_sure 111 = .ok (.lload 4, 2) := by decide +kernel
theorem dX3_sure_113 : decode cX3_sure 113 = .ok (.aload_n 0, 1) := by decide +kernel
theorem dX3_sure_114 : decode cX3_sure 114 = .ok (.iload 6, 2) := by decide +kernel
theorem dX3_sure_116 : decode cX3_sure 116 = .ok (.iload_n 3, 1) := by decide +kernel
theorem dX3_sure_117 : decode cX3_sure 117 = .ok (.lload 7, 2) := by decide +kernel
theorem dX3_sure_119 : decode cX3_sure 119 = .ok (.lconst 0, 1) := by decide +kernel
theorem dX3_sure_120 : decode cX3_sure 120 = .ok (.lcmp, 1) := by decide +kernel
theorem dX3_sure_121 : decode cX3_sure 121 = .ok (.ifCond .le 7, 3) := by decide +kernel
theorem dX3_sure_124 : decode cX3_sure 124 = .ok (.iconst 2, 1) := by decide +kernel
theorem dX3_sure_125 : decode cX3_sure 125 = .ok (.goto 4, 3) := by decide +kernel
theorem dX3_sure_128 : decode cX3_sure 128 = .ok (.iconst 0, 1) := by decide +kernel
theorem dX3_sure_129 : decode cX3_sure 129 = .ok (.invokevirtual 127, 3) := by decide +kernel
theorem dX3_sure_132 : decode cX3_sure 132 = .ok (.lload 7, 2) := by decide +kernel
theorem dX3_sure_134 : decode cX3_sure 134 = .ok (.lmul, 1) := by decide +kernel
theorem dX3_sure_135 : decode cX3_sure 135 = .ok (.ladd, 1) := by decide +kernel
theorem dX3_sure_136 : decode cX3_sure 136 = .ok (.lstore 4, 2) := by decide +kernel
theorem dX3_sure_138 : decode cX3_sure 138 = .ok (.iinc 6 1, 3) := by decide +kernel
theorem dX3_sure_141 : decode cX3_sure 141 = .ok (.goto (-56), 3) := by decide +kernel
theorem dX3_sure_144 : decode cX3_sure 144 = .ok (.lload 4, 2) := by decide +kernel
theorem dX3_sure_146 : decode cX3_sure 146 = .ok (.lconst 0, 1) := by decide +kernel
theorem dX3_sure_147 : decode cX3_sure 147 = .ok (.lcmp, 1) := by decide +kernel
theorem dX3_sure_148 : decode cX3_sure 148 = .ok (.ifCond .gt 7, 3) := by decide +kernel
theorem dX3_sure_151 : decode cX3_sure 151 = .ok (.iconst 1, 1) := by decide +kernel
theorem dX3_sure_152 : decode cX3_sure 152 = .ok (.goto 4, 3) := by decide +kernel
theorem dX3_sure_155 : decode cX3_sure 155 = .ok (.iconst 0, 1) := by decide +kernel
theorem dX3_sure_156 : decode cX3_sure 156 = .ok (.ireturn, 1) := by decide +kernel
theorem dX3_most_0 : decode cX3_most 0 = .ok (.iload_n 1, 1) := by decide +kernel
theorem dX3_most_1 : decode cX3_most 1 = .ok (.invokestatic 107, 3) := by decide +kernel
theorem dX3_most_4 : decode cX3_most 4 = .ok (.ifCond .eq 10, 3) := by decide +kernel
theorem dX3_most_7 : decode cX3_most 7 = .ok (.iload_n 2, 1) := by decide +kernel
theorem dX3_most_8 : decode cX3_most 8 = .ok (.invokestatic 65, 3) := by decide +kernel
theorem dX3_most_11 : decode cX3_most 11 = .ok (.ifCond .ne 6, 3) := by decide +kernel
theorem dX3_most_14 : decode cX3_most 14 = .ok (.bipush (-101), 2) := by decide +kernel
theorem dX3_most_16 : decode cX3_most 16 = .ok (.ireturn, 1) := by decide +kernel
theorem dX3_most_17 : decode cX3_most 17 = .ok (.aload_n 0, 1) := by decide +kernel
theorem dX3_most_18 : decode cX3_most 18 = .ok (.invokevirtual 104, 3) := by decide +kernel
theorem dX3_most_21 : decode cX3_most 21 = .ok (.aload_n 0, 1) := by decide +kernel
theorem dX3_most_22 : decode cX3_most 22 = .ok (.getfield 89, 3) := by decide +kernel
theorem dX3_most_25 : decode cX3_most 25 = .ok (.lconst 0, 1) := by decide +kernel
theorem dX3_most_26 : decode cX3_most 26 = .ok (.lcmp, 1) := by decide +kernel
theorem dX3_most_27 : decode cX3_most 27 = .ok (.ifCond .ne 6, 3) := by decide +kernel
theorem dX3_most_30 : decode cX3_most 30 = .ok (.bipush (-104), 2) := by decide +kernel
theorem dX3_most_32 : decode cX3_most 32 = .ok (.ireturn, 1) := by decide +kernel
theorem dX3_most_33 : decode cX3_most 33 = .ok (.aload_n 0, 1) := by decide +kernel
theorem dX3_most_34 : decode cX3_most 34 = .ok (.iload_n 1, 1) := by decide +kernel
theorem dX3_most_35 : decode cX3_most 35 = .ok (.invokevirtual 120, 3) := by decide +kernel
theorem dX3_most_38 : decode cX3_most 38 = .ok (.iconst (-1), 1) := by decide +kernel
theorem dX3_most_39 : decode cX3_most 39 = .ok (.istore_n 3, 1) := by decide +kernel
theorem dX3_most_40 : decode cX3_most 40 = .ok (.iconst 0, 1) := by decide +kernel
theorem dX3_most_41 : decode cX3_most 41 = .ok (.istore 4, 2) := by decide +kernel
theorem dX3_most_43 : decode cX3_most 43 = .ok (.iload 4, 2) := by decide +kernel
theorem dX3_most_45 : decode cX3_most 45 = .ok (.aload_n 0, 1) := by decide +kernel
theorem dX3_most_46 : decode cX3_most 46 = .ok (.getfield 50, 3) := by decide +kernel
theorem dX3_most_49 : decode cX3_most 49 = .ok (.if_icmp .ge 55, 3) := by decide +kernel
theorem dX3_most_52 : decode cX3_most 52 = .ok (.iload_n 3, 1) := by decide +kernel
theorem dX3_most_53 : decode cX3_most 53 = .ok (.iconst (-1), 1) := by decide +kernel
theorem dX3_most_54 : decode cX3_most 54 = .ok (.if_icmp .eq 37, 3) := by decide +kernel
theorem dX3_most_57 : decode cX3_most 57 = .ok (.aload_n 0, 1) := by decide +kernel
theorem dX3_most_58 : decode cX3_most 58 = .ok (.iload 4, 2) := by decide +kernel
theorem dX3_most_60 : decode cX3_most 60 = .ok (.iload_n 2, 1) := by decide +kernel
theorem dX3_most_61 : decode cX3_most 61 = .ok (.iconst 1, 1) := by decide +kernel
theorem dX3_most_62 : decode cX3_most 62 = .ok (.invokevirtual 127, 3) := by decide +kernel
theorem dX3_most_65 : decode cX3_most 65 = .ok (.aload_n 0, 1) := by decide +kernel
theorem dX3_most_66 : decode cX3_most 66 = .ok (.getfield 44, 3) := by decide +kernel
theorem dX3_most_69 : decode cX3_most 69 = .ok (.iload 4, 2) := by decide +kernel
theorem dX3_most_71 : decode cX3_most 71 = .ok (.laload, 1) := by decide +kernel
theorem dX3_most_72 : decode cX3_most 72 = .ok (.lmul, 1) := by decide +kernel
theorem dX3_most_73 : decode cX3_most 73 = .ok (.aload_n 0, 1) := by decide +kernel
theorem dX3_most_74 : decode cX3_most 74 = .ok (.iload_n 3, 1) := by decide +kernel
theorem dX3_most_75 : decode cX3_most 75 = .ok (.iload_n 2, 1) := by decide +kernel
theorem dX3_most_76 : decode cX3_most 76 = .ok (.iconst 1, 1) := by decide +kernel
theorem dX3_most_77 : decode cX3_most 77 = .ok (.invokevirtual 127, 3) := by decide +kernel
theorem dX3_most_80 : decode cX3_most 80 = .ok (.aload_n 0, 1) := by decide +kernel
theorem dX3_most_81 : decode cX3_most 81 = .ok (.getfield 44, 3) := by decide +kernel
theorem dX3_most_84 : decode cX3_most 84 = .ok (.iload_n 3, 1) := by decide +kernel
theorem dX3_most_85 : decode cX3_most 85 = .ok (.laload, 1) := by decide +kernel
theorem dX3_most_86 : decode cX3_most 86 = .ok (.lmul, 1) := by decide +kernel
theorem dX3_most_87 : decode cX3_most 87 = .ok (.lcmp, 1) := by decide +kernel
theorem dX3_most_88 : decode cX3_most 88 = .ok (.ifCond .le 8, 3) := by decide +kernel
theorem dX3_most_91 : decode cX3_most 91 = .ok (.iload 4, 2) := by decide +kernel
theorem dX3_most_93 : decode cX3_most 93 = .ok (.goto 4, 3) := by decide +kernel
theorem dX3_most_96 : decode cX3_most 96 = .ok (.iload_n 3, 1) := by decide +kernel
theorem dX3_most_97 : decode cX3_most 97 = .ok (.istore_n 3, 1) := by decide +kernel
theorem dX3_most_98 : decode cX3_most 98 = .ok (.iinc 4 1, 3) := by decide +kernel
theorem dX3_most_101 : decode cX3_most 101 = .ok (.goto (-58), 3) := by decide +kernel
theorem dX3_most_104 : decode cX3_most 104 = .ok (.iload_n 3, 1) := by decide +kernel
theorem dX3_most_105 : decode cX3_most 105 = .ok (.ireturn, 1) := by decide +kernel
theorem dX3_turned_0 : decode cX3_turned 0 = .ok (.iload_n 1, 1) := by decide +kernel
theorem dX3_turned_1 : decode cX3_turned 1 = .ok (.invokestatic 107, 3) := by decide +kernel
theorem dX3_turned_4 : decode cX3_turned 4 = .ok (.ifCond .ne 6, 3) := by decide +kernel
theorem dX3_turned_7 : decode cX3_turned 7 = .ok (.bipush (-101), 2) := by decide +kernel
theorem dX3_turned_9 : decode cX3_turned 9 = .ok (.ireturn, 1) := by decide +kernel
theorem dX3_turned_10 : decode cX3_turned 10 = .ok (.aload_n 0, 1) := by decide +kernel
theorem dX3_turned_11 : decode cX3_turned 11 = .ok (.invokevirtual 104, 3) := by decide +kernel
theorem dX3_turned_14 : decode cX3_turned 14 = .ok (.aload_n 0, 1) := by decide +kernel
theorem dX3_turned_15 : decode cX3_turned 15 = .ok (.getfield 89, 3) := by decide +kernel
theorem dX3_turned_18 : decode cX3_turned 18 = .ok (.lconst 0, 1) := by decide +kernel
theorem dX3_turned_19 : decode cX3_turned 19 = .ok (.lcmp, 1) := by decide +kernel
theorem dX3_turned_20 : decode cX3_turned 20 = .ok (.ifCond .ne 6, 3) := by decide +kernel
theorem dX3_turned_23 : decode cX3_turned 23 = .ok (.bipush (-104), 2) := by decide +kernel
theorem dX3_turned_25 : decode cX3_turned 25 = .ok (.ireturn, 1) := by decide +kernel
theorem dX3_turned_26 : decode cX3_turned 26 = .ok (.aload_n 0, 1) := by decide +kernel
theorem dX3_turned_27 : decode cX3_turned 27 = .ok (.iload_n 1, 1) := by decide +kernel
theorem dX3_turned_28 : decode cX3_turned 28 = .ok (.invokevirtual 120, 3) := by decide +kernel
theorem dX3_turned_31 : decode cX3_turned 31 = .ok (.iconst 0, 1) := by decide +kernel
theorem dX3_turned_32 : decode cX3_turned 32 = .ok (.istore_n 2, 1) := by decide +kernel
theorem dX3_turned_33 : decode cX3_turned 33 = .ok (.iload_n 2, 1) := by decide +kernel
theorem dX3_turned_34 : decode cX3_turned 34 = .ok (.aload_n 0, 1) := by decide +kernel
theorem dX3_turned_35 : decode cX3_turned 35 = .ok (.getfield 50, 3) := by decide +kernel
theorem dX3_turned_38 : decode cX3_turned 38 = .ok (.if_icmp .ge 20, 3) := by decide +kernel
theorem dX3_turned_41 : decode cX3_turned 41 = .ok (.aload_n 0, 1) := by decide +kernel
theorem dX3_turned_42 : decode cX3_turned 42 = .ok (.getfield 44, 3) := by decide +kernel
theorem dX3_turned_45 : decode cX3_turned 45 = .ok (.iload_n 2, 1) := by decide +kernel
theorem dX3_turned_46 : decode cX3_turned 46 = .ok (.laload, 1) := by decide +kernel
theorem dX3_turned_47 : decode cX3_turned 47 = .ok (.lconst 0, 1) := by decide +kernel
theorem dX3_turned_48 : decode cX3_turned 48 = .ok (.lcmp, 1) := by decide +kernel
theorem dX3_turned_49 : decode cX3_turned 49 = .ok (.ifCond .lt 9, 3) := by decide +kernel
theorem dX3_turned_52 : decode cX3_turned 52 = .ok (.iinc 2 1, 3) := by decide +kernel
theorem dX3_turned_55 : decode cX3_turned 55 = .ok (.goto (-22), 3) := by decide +kernel
theorem dX3_turned_58 : decode cX3_turned 58 = .ok (.iload_n 2, 1) := by decide +kernel
theorem dX3_turned_59 : decode cX3_turned 59 = .ok (.aload_n 0, 1) := by decide +kernel
theorem dX3_turned_60 : decode cX3_turned 60 = .ok (.getfield 50, 3) := by decide +kernel
theorem dX3_turned_63 : decode cX3_turned 63 = .ok (.if_icmp .ge 7, 3) := by decide +kernel
theorem dX3_turned_66 : decode cX3_turned 66 = .ok (.iload_n 2, 1) := by decide +kernel
theorem dX3_turned_67 : decode cX3_turned 67 = .ok (.goto 4, 3) := by decide +kernel
theorem dX3_turned_70 : decode cX3_turned 70 = .ok (.iconst (-1), 1) := by decide +kernel
theorem dX3_turned_71 : decode cX3_turned 71 = .ok (.ireturn, 1) := by decide +kernel
theorem dX3_copy_0 : decode cX3_copy 0 = .ok (.iconst 0, 1) := by decide +kernel
theorem dX3_copy_1 : decode cX3_copy 1 = .ok (.istore_n 3, 1) := by decide +kernel
theorem dX3_copy_2 : decode cX3_copy 2 = .ok (.iload_n 3, 1) := by decide +kernel
theorem dX3_copy_3 : decode cX3_copy 3 = .ok (.iconst 4, 1) := by decide +kernel
theorem dX3_copy_4 : decode cX3_copy 4 = .ok (.if_icmp .ge 89, 3) := by decide +kernel
theorem dX3_copy_7 : decode cX3_copy 7 = .ok (.aload_n 0, 1) := by decide +kernel
theorem dX3_copy_8 : decode cX3_copy 8 = .ok (.getfield 7, 3) := by decide +kernel
theorem dX3_copy_11 : decode cX3_copy 11 = .ok (.iconst 4, 1) := by decide +kernel
theorem dX3_copy_12 : decode cX3_copy 12 = .ok (.iload_n 2, 1) := by decide +kernel
theorem dX3_copy_13 : decode cX3_copy 13 = .ok (.imul, 1) := by decide +kernel
theorem dX3_copy_14 : decode cX3_copy 14 = .ok (.iload_n 3, 1) := by decide +kernel
theorem dX3_copy_15 : decode cX3_copy 15 = .ok (.iadd, 1) := by decide +kernel
theorem dX3_copy_16 : decode cX3_copy 16 = .ok (.aload_n 0, 1) := by decide +kernel
theorem dX3_copy_17 : decode cX3_copy 17 = .ok (.getfield 7, 3) := by decide +kernel
theorem dX3_copy_20 : decode cX3_copy 20 = .ok (.iconst 4, 1) := by decide +kernel
theorem dX3_copy_21 : decode cX3_copy 21 = .ok (.iload_n 1, 1) := by decide +kernel
theorem dX3_copy_22 : decode cX3_copy 22 = .ok (.imul, 1) := by decide +kernel
theorem dX3_copy_23 : decode cX3_copy 23 = .ok (.iload_n 3, 1) := by decide +kernel
theorem dX3_copy_24 : decode cX3_copy 24 = .ok (.iadd, 1) := by decide +kernel
theorem dX3_copy_25 : decode cX3_copy 25 = .ok (.iaload, 1) := by decide +kernel
theorem dX3_copy_26 : decode cX3_copy 26 = .ok (.iastore, 1) := by decide +kernel
theorem dX3_copy_27 : decode cX3_copy 27 = .ok (.aload_n 0, 1) := by decide +kernel
theorem dX3_copy_28 : decode cX3_copy 28 = .ok (.getfield 13, 3) := by decide +kernel
theorem dX3_copy_31 : decode cX3_copy 31 = .ok (.iconst 4, 1) := by decide +kernel
theorem dX3_copy_32 : decode cX3_copy 32 = .ok (.iload_n 2, 1) := by decide +kernel
theorem dX3_copy_33 : decode cX3_copy 33 = .ok (.imul, 1) := by decide +kernel
theorem dX3_copy_34 : decode cX3_copy 34 = .ok (.iload_n 3, 1) := by decide +kernel
theorem dX3_copy_35 : decode cX3_copy 35 = .ok (.iadd, 1) := by decide +kernel
theorem dX3_copy_36 : decode cX3_copy 36 = .ok (.aload_n 0, 1) := by decide +kernel
theorem dX3_copy_37 : decode cX3_copy 37 = .ok (.getfield 13, 3) := by decide +kernel
theorem dX3_copy_40 : decode cX3_copy 40 = .ok (.iconst 4, 1) := by decide +kernel
theorem dX3_copy_41 : decode cX3_copy 41 = .ok (.iload_n 1, 1) := by decide +kernel
theorem dX3_copy_42 : decode cX3_copy 42 = .ok (.imul, 1) := by decide +kernel
theorem dX3_copy_43 : decode cX3_copy 43 = .ok (.iload_n 3, 1) := by decide +kernel
theorem dX3_copy_44 : decode cX3_copy 44 = .ok (.iadd, 1) := by decide +kernel
theorem dX3_copy_45 : decode cX3_copy 45 = .ok (.iaload, 1) := by decide +kernel
theorem dX3_copy_46 : decode cX3_copy 46 = .ok (.iastore, 1) := by decide +kernel
theorem dX3_copy_47 : decode cX3_copy 47 = .ok (.aload_n 0, 1) := by decide +kernel
theorem dX3_copy_48 : decode cX3_copy 48 = .ok (.getfield 16, 3) := by decide +kernel
theorem dX3_copy_51 : decode cX3_copy 51 = .ok (.iconst 4, 1) := by decide +kernel
theorem dX3_copy_52 : decode cX3_copy 52 = .ok (.iload_n 2, 1) := by decide +kernel
theorem dX3_copy_53 : decode cX3_copy 53 = .ok (.imul, 1) := by decide +kernel
theorem dX3_copy_54 : decode cX3_copy 54 = .ok (.iload_n 3, 1) := by decide +kernel
theorem dX3_copy_55 : decode cX3_copy 55 = .ok (.iadd, 1) := by decide +kernel
theorem dX3_copy_56 : decode cX3_copy 56 = .ok (.aload_n 0, 1) := by decide +kernel
theorem dX3_copy_57 : decode cX3_copy 57 = .ok (.getfield 16, 3) := by decide +kernel
theorem dX3_copy_60 : decode cX3_copy 60 = .ok (.iconst 4, 1) := by decide +kernel
theorem dX3_copy_61 : decode cX3_copy 61 = .ok (.iload_n 1, 1) := by decide +kernel
theorem dX3_copy_62 : decode cX3_copy 62 = .ok (.imul, 1) := by decide +kernel
theorem dX3_copy_63 : decode cX3_copy 63 = .ok (.iload_n 3, 1) := by decide +kernel
theorem dX3_copy_64 : decode cX3_copy 64 = .ok (.iadd, 1) := by decide +kernel
theorem dX3_copy_65 : decode cX3_copy 65 = .ok (.iaload, 1) := by decide +kernel
theorem dX3_copy_66 : decode cX3_copy 66 = .ok (.iastore, 1) := by decide +kernel
theorem dX3_copy_67 : decode cX3_copy 67 = .ok (.aload_n 0, 1) := by decide +kernel
theorem dX3_copy_68 : decode cX3_copy 68 = .ok (.getfield 19, 3) := by decide +kernel
theorem dX3_copy_71 : decode cX3_copy 71 = .ok (.iconst 4, 1) := by decide +kernel
theorem dX3_copy_72 : decode cX3_copy 72 = .ok (.iload_n 2, 1) := by decide +kernel
theorem dX3_copy_73 : decode cX3_copy 73 = .ok (.imul, 1) := by decide +kernel
theorem dX3_copy_74 : decode cX3_copy 74 = .ok (.iload_n 3, 1) := by decide +kernel
theorem dX3_copy_75 : decode cX3_copy 75 = .ok (.iadd, 1) := by decide +kernel
theorem dX3_copy_76 : decode cX3_copy 76 = .ok (.aload_n 0, 1) := by decide +kernel
theorem dX3_copy_77 : decode cX3_copy 77 = .ok (.getfield 19, 3) := by decide +kernel
theorem dX3_copy_80 : decode cX3_copy 80 = .ok (.iconst 4, 1) := by decide +kernel
theorem dX3_copy_81 : decode cX3_copy 81 = .ok (.iload_n 1, 1) := by decide +kernel
theorem dX3_copy_82 : decode cX3_copy 82 = .ok (.imul, 1) := by decide +kernel
theorem dX3_copy_83 : decode cX3_copy 83 = .ok (.iload_n 3, 1) := by decide +kernel
theorem dX3_copy_84 : decode cX3_copy 84 = .ok (.iadd, 1) := by decide +kernel
theorem dX3_copy_85 : decode cX3_copy 85 = .ok (.iaload, 1) := by decide +kernel
theorem dX3_copy_86 : decode cX3_copy 86 = .ok (.iastore, 1) := by decide +kernel
theorem dX3_copy_87 : decode cX3_copy 87 = .ok (.iinc 3 1, 3) := by decide +kernel
theorem dX3_copy_90 : decode cX3_copy 90 = .ok (.goto (-88), 3) := by decide +kernel
theorem dX3_copy_93 : decode cX3_copy 93 = .ok (.iconst 0, 1) := by decide +kernel
theorem dX3_copy_94 : decode cX3_copy 94 = .ok (.istore_n 3, 1) := by decide +kernel
theorem dX3_copy_95 : decode cX3_copy 95 = .ok (.iload_n 3, 1) := by decide +kernel
theorem dX3_copy_96 : decode cX3_copy 96 = .ok (.bipush 16, 2) := by decide +kernel
theorem dX3_copy_98 : decode cX3_copy 98 = .ok (.if_icmp .ge 53, 3) := by decide +kernel
theorem dX3_copy_101 : decode cX3_copy 101 = .ok (.aload_n 0, 1) := by decide +kernel
theorem dX3_copy_102 : decode cX3_copy 102 = .ok (.getfield 22, 3) := by decide +kernel
theorem dX3_copy_105 : decode cX3_copy 105 = .ok (.bipush 16, 2) := by decide +kernel
theorem dX3_copy_107 : decode cX3_copy 107 = .ok (.iload_n 2, 1) := by decide +kernel
theorem dX3_copy_108 : decode cX3_copy 108 = .ok (.imul, 1) := by decide +kernel
theorem dX3_copy_109 : decode cX3_copy 109 = .ok (.iload_n 3, 1) := by decide +kernel
theorem dX3_copy_110 : decode cX3_copy 110 = .ok (.iadd, 1) := by decide +kernel
theorem dX3_copy_111 : decode cX3_copy 111 = .ok (.aload_n 0, 1) := by decide +kernel
theorem dX3_copy_112 : decode cX3_copy 112 = .ok (.getfield 22, 3) := by decide +kernel
theorem dX3_copy_115 : decode cX3_copy 115 = .ok (.bipush 16, 2) := by decide +kernel
theorem dX3_copy_117 : decode cX3_copy 117 = .ok (.iload_n 1, 1) := by decide +kernel
theorem dX3_copy_118 : decode cX3_copy 118 = .ok (.imul, 1) := by decide +kernel
theorem dX3_copy_119 : decode cX3_copy 119 = .ok (.iload_n 3, 1) := by decide +kernel
theorem dX3_copy_120 : decode cX3_copy 120 = .ok (.iadd, 1) := by decide +kernel
theorem dX3_copy_121 : decode cX3_copy 121 = .ok (.iaload, 1) := by decide +kernel
theorem dX3_copy_122 : decode cX3_copy 122 = .ok (.iastore, 1) := by decide +kernel
theorem dX3_copy_123 : decode cX3_copy 123 = .ok (.aload_n 0, 1) := by decide +kernel
theorem dX3_copy_124 : decode cX3_copy 124 = .ok (.getfield 25, 3) := by decide +kernel
theorem dX3_copy_127 : decode cX3_copy 127 = .ok (.bipush 16, 2) := by decide +kernel
theorem dX3_copy_129 : decode cX3_copy 129 = .ok (.iload_n 2, 1) := by decide +kernel
theorem dX3_copy_130 : decode cX3_copy 130 = .ok (.imul, 1) := by decide +kernel
theorem dX3_copy_131 : decode cX3_copy 131 = .ok (.iload_n 3, 1) := by decide +kernel
theorem dX3_copy_132 : decode cX3_copy 132 = .ok (.iadd, 1) := by decide +kernel
theorem dX3_copy_133 : decode cX3_copy 133 = .ok (.aload_n 0, 1) := by decide +kernel
theorem dX3_copy_134 : decode cX3_copy 134 = .ok (.getfield 25, 3) := by decide +kernel
theorem dX3_copy_137 : decode cX3_copy 137 = .ok (.bipush 16, 2) := by decide +kernel
theorem dX3_copy_139 : decode cX3_copy 139 = .ok (.iload_n 1, 1) := by decide +kernel
theorem dX3_copy_140 : decode cX3_copy 140 = .ok (.imul, 1) := by decide +kernel
theorem dX3_copy_141 : decode cX3_copy 141 = .ok (.iload_n 3, 1) := by decide +kernel
theorem dX3_copy_142 : decode cX3_copy 142 = .ok (.iadd, 1) := by decide +kernel
theorem dX3_copy_143 : decode cX3_copy 143 = .ok (.iaload, 1) := by decide +kernel
theorem dX3_copy_144 : decode cX3_copy 144 = .ok (.iastore, 1) := by decide +kernel
theorem dX3_copy_145 : decode cX3_copy 145 = .ok (.iinc 3 1, 3) := by decide +kernel
theorem dX3_copy_148 : decode cX3_copy 148 = .ok (.goto (-53), 3) := by decide +kernel
theorem dX3_copy_151 : decode cX3_copy 151 = .ok (.iconst 0, 1) := by decide +kernel
theorem dX3_copy_152 : decode cX3_copy 152 = .ok (.istore_n 3, 1) := by decide +kernel
theorem dX3_copy_153 : decode cX3_copy 153 = .ok (.iload_n 3, 1) := by decide +kernel
theorem dX3_copy_154 : decode cX3_copy 154 = .ok (.bipush 36, 2) := by decide +kernel
theorem dX3_copy_156 : decode cX3_copy 156 = .ok (.if_icmp .ge 31, 3) := by decide +kernel
theorem dX3_copy_159 : decode cX3_copy 159 = .ok (.aload_n 0, 1) := by decide +kernel
theorem dX3_copy_160 : decode cX3_copy 160 = .ok (.getfield 28, 3) := by decide +kernel
theorem dX3_copy_163 : decode cX3_copy 163 = .ok (.bipush 36, 2) := by decide +kernel
theorem dX3_copy_165 : decode cX3_copy 165 = .ok (.iload_n 2, 1) := by decide +kernel
theorem dX3_copy_166 : decode cX3_copy 166 = .ok (.imul, 1) := by decide +kernel
theorem dX3_copy_167 : decode cX3_copy 167 = .ok (.iload_n 3, 1) := by decide +kernel
theorem dX3_copy_168 : decode cX3_copy 168 = .ok (.iadd, 1) := by decide +kernel
theorem dX3_copy_169 : decode cX3_copy 169 = .ok (.aload_n 0, 1) := by decide +kernel
theorem dX3_copy_170 : decode cX3_copy 170 = .ok (.getfield 28, 3) := by decide +kernel
theorem dX3_copy_173 : decode cX3_copy 173 = .ok (.bipush 36, 2) := by decide +kernel
theorem dX3_copy_175 : decode cX3_copy 175 = .ok (.iload_n 1, 1) := by decide +kernel
theorem dX3_copy_176 : decode cX3_copy 176 = .ok (.imul, 1) := by decide +kernel
theorem dX3_copy_177 : decode cX3_copy 177 = .ok (.iload_n 3, 1) := by decide +kernel
theorem dX3_copy_178 : decode cX3_copy 178 = .ok (.iadd, 1) := by decide +kernel
theorem dX3_copy_179 : decode cX3_copy 179 = .ok (.iaload, 1) := by decide +kernel
theorem dX3_copy_180 : decode cX3_copy 180 = .ok (.iastore, 1) := by decide +kernel
theorem dX3_copy_181 : decode cX3_copy 181 = .ok (.iinc 3 1, 3) := by decide +kernel
theorem dX3_copy_184 : decode cX3_copy 184 = .ok (.goto (-31), 3) := by decide +kernel
theorem dX3_copy_187 : decode cX3_copy 187 = .ok (.return_, 1) := by decide +kernel
theorem dX3_keep_0 : decode cX3_keep 0 = .ok (.aload_n 0, 1) := by decide +kernel
theorem dX3_keep_1 : decode cX3_keep 1 = .ok (.getfield 58, 3) := by decide +kernel
theorem dX3_keep_4 : decode cX3_keep 4 = .ok (.bipush 6, 2) := by decide +kernel
theorem dX3_keep_6 : decode cX3_keep 6 = .ok (.if_icmp .ne 6, 3) := by decide +kernel
theorem dX3_keep_9 : decode cX3_keep 9 = .ok (.bipush (-105), 2) := by decide +kernel
theorem dX3_keep_11 : decode cX3_keep 11 = .ok (.ireturn, 1) := by decide +kernel
theorem dX3_keep_12 : decode cX3_keep 12 = .ok (.aload_n 0, 1) := by decide +kernel
theorem dX3_keep_13 : decode cX3_keep 13 = .ok (.bipush 6, 2) := by decide +kernel
theorem dX3_keep_15 : decode cX3_keep 15 = .ok (.aload_n 0, 1) := by decide +kernel
theorem dX3_keep_16 : decode cX3_keep 16 = .ok (.getfield 58, 3) := by decide +kernel
theorem dX3_keep_19 : decode cX3_keep 19 = .ok (.invokevirtual 139, 3) := by decide +kernel
theorem dX3_keep_22 : decode cX3_keep 22 = .ok (.aload_n 0, 1) := by decide +kernel
theorem dX3_keep_23 : decode cX3_keep 23 = .ok (.dup, 1) := by decide +kernel
theorem dX3_keep_24 : decode cX3_keep 24 = .ok (.getfield 58, 3) := by decide +kernel
theorem dX3_keep_27 : decode cX3_keep 27 = .ok (.iconst 1, 1) := by decide +kernel
theorem dX3_keep_28 : decode cX3_keep 28 = .ok (.iadd, 1) := by decide +kernel
theorem dX3_keep_29 : decode cX3_keep 29 = .ok (.putfield 58, 3) := by decide +kernel
theorem dX3_keep_32 : decode cX3_keep 32 = .ok (.aload_n 0, 1) := by decide +kernel
theorem dX3_keep_33 : decode cX3_keep 33 = .ok (.getfield 58, 3) := by decide +kernel
theorem dX3_keep_36 : decode cX3_keep 36 = .ok (.iconst 1, 1) := by decide +kernel
theorem dX3_keep_37 : decode cX3_keep 37 = .ok (.isub, 1) := by decide +kernel
theorem dX3_keep_38 : decode cX3_keep 38 = .ok (.ireturn, 1) := by decide +kernel
theorem dX3_recall_0 : decode cX3_recall 0 = .ok (.iload_n 1, 1) := by decide +kernel
theorem dX3_recall_1 : decode cX3_recall 1 = .ok (.iconst 0, 1) := by decide +kernel
theorem dX3_recall_2 : decode cX3_recall 2 = .ok (.aload_n 0, 1) := by decide +kernel
theorem dX3_recall_3 : decode cX3_recall 3 = .ok (.getfield 58, 3) := by decide +kernel
theorem dX3_recall_6 : decode cX3_recall 6 = .ok (.iconst 1, 1) := by decide +kernel
theorem dX3_recall_7 : decode cX3_recall 7 = .ok (.isub, 1) := by decide +kernel
theorem dX3_recall_8 : decode cX3_recall 8 = .ok (.invokestatic 54, 3) := by decide +kernel
theorem dX3_recall_11 : decode cX3_recall 11 = .ok (.ifCond .ne 6, 3) := by decide +kernel
theorem dX3_recall_14 : decode cX3_recall 14 = .ok (.bipush (-101), 2) := by decide +kernel
theorem dX3_recall_16 : decode cX3_recall 16 = .ok (.ireturn, 1) := by decide +kernel
theorem dX3_recall_17 : decode cX3_recall 17 = .ok (.aload_n 0, 1) := by decide +kernel
theorem dX3_recall_18 : decode cX3_recall 18 = .ok (.iload_n 1, 1) := by decide +kernel
theorem dX3_recall_19 : decode cX3_recall 19 = .ok (.bipush 6, 2) := by decide +kernel
theorem dX3_recall_21 : decode cX3_recall 21 = .ok (.invokevirtual 139, 3) := by decide +kernel
theorem dX3_recall_24 : decode cX3_recall 24 = .ok (.iconst 1, 1) := by decide +kernel
theorem dX3_recall_25 : decode cX3_recall 25 = .ok (.ireturn, 1) := by decide +kernel
theorem dX3_mixed_0 : decode cX3_mixed 0 = .ok (.iconst 0, 1) := by decide +kernel
theorem dX3_mixed_1 : decode cX3_mixed 1 = .ok (.istore 5, 2) := by decide +kernel
theorem dX3_mixed_3 : decode cX3_mixed 3 = .ok (.iload 5, 2) := by decide +kernel
theorem dX3_mixed_5 : decode cX3_mixed 5 = .ok (.iconst 4, 1) := by decide +kernel
theorem dX3_mixed_6 : decode cX3_mixed 6 = .ok (.if_icmp .ge 29, 3) := by decide +kernel
theorem dX3_mixed_9 : decode cX3_mixed 9 = .ok (.aload_n 0, 1) := by decide +kernel
theorem dX3_mixed_10 : decode cX3_mixed 10 = .ok (.getfield 34, 3) := by decide +kernel
theorem dX3_mixed_13 : decode cX3_mixed 13 = .ok (.iload 5, 2) := by decide +kernel
theorem dX3_mixed_15 : decode cX3_mixed 15 = .ok (.iload 5, 2) := by decide +kernel
theorem dX3_mixed_17 : decode cX3_mixed 17 = .ok (.iload 4, 2) := by decide +kernel
theorem dX3_mixed_19 : decode cX3_mixed 19 = .ok (.if_icmp .ge 8, 3) := by decide +kernel
theorem dX3_mixed_22 : decode cX3_mixed 22 = .ok (.bipush 6, 2) := by decide +kernel
theorem dX3_mixed_24 : decode cX3_mixed 24 = .ok (.goto 4, 3) := by decide +kernel
theorem dX3_mixed_27 : decode cX3_mixed 27 = .ok (.iload_n 1, 1) := by decide +kernel
theorem dX3_mixed_28 : decode cX3_mixed 28 = .ok (.iastore, 1) := by decide +kernel
theorem dX3_mixed_29 : decode cX3_mixed 29 = .ok (.iinc 5 1, 3) := by decide +kernel
theorem dX3_mixed_32 : decode cX3_mixed 32 = .ok (.goto (-29), 3) := by decide +kernel
theorem dX3_mixed_35 : decode cX3_mixed 35 = .ok (.aload_n 0, 1) := by decide +kernel
theorem dX3_mixed_36 : decode cX3_mixed 36 = .ok (.invokevirtual 93, 3) := by decide +kernel
theorem dX3_mixed_39 : decode cX3_mixed 39 = .ok (.aload_n 0, 1) := by decide +kernel
theorem dX3_mixed_40 : decode cX3_mixed 40 = .ok (.getfield 89, 3) := by decide +kernel
theorem dX3_mixed_43 : decode cX3_mixed 43 = .ok (.lconst 0, 1) := by decide +kernel
theorem dX3_mixed_44 : decode cX3_mixed 44 = .ok (.lcmp, 1) := by decide +kernel
theorem dX3_mixed_45 : decode cX3_mixed 45 = .ok (.ifCond .ne 5, 3) := by decide +kernel
theorem dX3_mixed_48 : decode cX3_mixed 48 = .ok (.lconst 0, 1) := by decide +kernel
theorem dX3_mixed_49 : decode cX3_mixed 49 = .ok (.lreturn, 1) := by decide +kernel
theorem dX3_mixed_50 : decode cX3_mixed 50 = .ok (.aload_n 0, 1) := by decide +kernel
theorem dX3_mixed_51 : decode cX3_mixed 51 = .ok (.iload_n 2, 1) := by decide +kernel
theorem dX3_mixed_52 : decode cX3_mixed 52 = .ok (.invokevirtual 120, 3) := by decide +kernel
theorem dX3_mixed_55 : decode cX3_mixed 55 = .ok (.aload_n 0, 1) := by decide +kernel
theorem dX3_mixed_56 : decode cX3_mixed 56 = .ok (.iload_n 3, 1) := by decide +kernel
theorem dX3_mixed_57 : decode cX3_mixed 57 = .ok (.iconst 1, 1) := by decide +kernel
theorem dX3_mixed_58 : decode cX3_mixed 58 = .ok (.invokevirtual 132, 3) := by decide +kernel
theorem dX3_mixed_61 : decode cX3_mixed 61 = .ok (.aload_n 0, 1) := by decide +kernel
theorem dX3_mixed_62 : decode cX3_mixed 62 = .ok (.getfield 100, 3) := by decide +kernel
theorem dX3_mixed_65 : decode cX3_mixed 65 = .ok (.invokestatic 124, 3) := by decide +kernel
theorem dX3_mixed_68 : decode cX3_mixed 68 = .ok (.lreturn, 1) := by decide +kernel
theorem dX3_blame_0 : decode cX3_blame 0 = .ok (.iload_n 1, 1) := by decide +kernel
theorem dX3_blame_1 : decode cX3_blame 1 = .ok (.iconst 0, 1) := by decide +kernel
theorem dX3_blame_2 : decode cX3_blame 2 = .ok (.aload_n 0, 1) := by decide +kernel
theorem dX3_blame_3 : decode cX3_blame 3 = .ok (.getfield 58, 3) := by decide +kernel
theorem dX3_blame_6 : decode cX3_blame 6 = .ok (.iconst 1, 1) := by decide +kernel
theorem dX3_blame_7 : decode cX3_blame 7 = .ok (.isub, 1) := by decide +kernel
theorem dX3_blame_8 : decode cX3_blame 8 = .ok (.invokestatic 54, 3) := by decide +kernel
theorem dX3_blame_11 : decode cX3_blame 11 = .ok (.ifCond .eq 26, 3) := by decide +kernel
theorem dX3_blame_14 : decode cX3_blame 14 = .ok (.iload_n 2, 1) := by decide +kernel
theorem dX3_blame_15 : decode cX3_blame 15 = .ok (.invokestatic 107, 3) := by decide +kernel
theorem dX3_blame_18 : decode cX3_blame 18 = .ok (.ifCond .eq 19, 3) := by decide +kernel
theorem dX3_blame_21 : decode cX3_blame 21 = .ok (.iload_n 3, 1) := by decide +kernel
theorem dX3_blame_22 : decode cX3_blame 22 = .ok (.invokestatic 65, 3) := by decide +kernel
theorem dX3_blame_25 : decode cX3_blame 25 = .ok (.ifCond .eq 12, 3) := by decide +kernel
theorem dX3_blame_28 : decode cX3_blame 28 = .ok (.aload_n 0, 1) := by decide +kernel
theorem dX3_blame_29 : decode cX3_blame 29 = .ok (.iload 4, 2) := by decide +kernel
theorem dX3_blame_31 : decode cX3_blame 31 = .ok (.invokevirtual 61, 3) := by decide +kernel
theorem dX3_blame_34 : decode cX3_blame 34 = .ok (.ifCond .ne 7, 3) := by decide +kernel
theorem dX3_blame_37 : decode cX3_blame 37 = .ok (.ldc2_w 116, 3) := by decide +kernel
theorem dX3_blame_40 : decode cX3_blame 40 = .ok (.lreturn, 1) := by decide +kernel
theorem dX3_blame_41 : decode cX3_blame 41 = .ok (.aload_n 0, 1) := by decide +kernel
theorem dX3_blame_42 : decode cX3_blame 42 = .ok (.iload_n 1, 1) := by decide +kernel
theorem dX3_blame_43 : decode cX3_blame 43 = .ok (.iload_n 2, 1) := by decide +kernel
theorem dX3_blame_44 : decode cX3_blame 44 = .ok (.iload_n 3, 1) := by decide +kernel
theorem dX3_blame_45 : decode cX3_blame 45 = .ok (.iload 4, 2) := by decide +kernel
theorem dX3_blame_47 : decode cX3_blame 47 = .ok (.iconst 1, 1) := by decide +kernel
theorem dX3_blame_48 : decode cX3_blame 48 = .ok (.iadd, 1) := by decide +kernel
theorem dX3_blame_49 : decode cX3_blame 49 = .ok (.invokevirtual 143, 3) := by decide +kernel
theorem dX3_blame_52 : decode cX3_blame 52 = .ok (.lstore 5, 2) := by decide +kernel
theorem dX3_blame_54 : decode cX3_blame 54 = .ok (.aload_n 0, 1) := by decide +kernel
theorem dX3_blame_55 : decode cX3_blame 55 = .ok (.getfield 89, 3) := by decide +kernel
theorem dX3_blame_58 : decode cX3_blame 58 = .ok (.lconst 0, 1) := by decide +kernel
theorem dX3_blame_59 : decode cX3_blame 59 = .ok (.lcmp, 1) := by decide +kernel
theorem dX3_blame_60 : decode cX3_blame 60 = .ok (.ifCond .ne 7, 3) := by decide +kernel
theorem dX3_blame_63 : decode cX3_blame 63 = .ok (.ldc2_w 118, 3) := by decide +kernel
theorem dX3_blame_66 : decode cX3_blame 66 = .ok (.lreturn, 1) := by decide +kernel
theorem dX3_blame_67 : decode cX3_blame 67 = .ok (.aload_n 0, 1) := by decide +kernel
theorem dX3_blame_68 : decode cX3_blame 68 = .ok (.iload_n 1, 1) := by decide +kernel
theorem dX3_blame_69 : decode cX3_blame 69 = .ok (.iload_n 2, 1) := by decide +kernel
theorem dX3_blame_70 : decode cX3_blame 70 = .ok (.iload_n 3, 1) := by decide +kernel
theorem dX3_blame_71 : decode cX3_blame 71 = .ok (.iload 4, 2) := by decide +kernel
theorem dX3_blame_73 : decode cX3_blame 73 = .ok (.invokevirtual 143, 3) := by decide +kernel
theorem dX3_blame_76 : decode cX3_blame 76 = .ok (.lstore 7, 2) := by decide +kernel
theorem dX3_blame_78 : decode cX3_blame 78 = .ok (.aload_n 0, 1) := by decide +kernel
theorem dX3_blame_79 : decode cX3_blame 79 = .ok (.getfield 89, 3) := by decide +kernel
theorem dX3_blame_82 : decode cX3_blame 82 = .ok (.lconst 0, 1) := by decide +kernel
theorem dX3_blame_83 : decode cX3_blame 83 = .ok (.lcmp, 1) := by decide +kernel
theorem dX3_blame_84 : decode cX3_blame 84 = .ok (.ifCond .ne 9, 3) := by decide +kernel
theorem dX3_blame_87 : decode cX3_blame 87 = .ok (.ldc2_w 118, 3) := by decide +kernel
theorem dX3_blame_90 : decode cX3_blame 90 = .ok (.goto 8, 3) := by decide +kernel
theorem dX3_blame_93 : decode cX3_blame 93 = .ok (.lload 5, 2) := by decide +kernel
theorem dX3_blame_95 : decode cX3_blame 95 = .ok (.lload 7, 2) := by decide +kernel
theorem dX3_blame_97 : decode cX3_blame 97 = .ok (.lsub, 1) := by decide +kernel
theorem dX3_blame_98 : decode cX3_blame 98 = .ok (.lreturn, 1) := by decide +kernel
theorem dX3_count_0 : decode cX3_count 0 = .ok (.iconst 0, 1) := by decide +kernel
theorem dX3_count_1 : decode cX3_count 1 = .ok (.istore_n 2, 1) := by decide +kernel
theorem dX3_count_2 : decode cX3_count 2 = .ok (.iload_n 1, 1) := by decide +kernel
theorem dX3_count_3 : decode cX3_count 3 = .ok (.tableswitch 169 0 3 #[29, 34, 39, 110], 29) := by decide +kernel
theorem dX3_count_32 : decode cX3_count 32 = .ok (.aload_n 0, 1) := by decide +kernel
theorem dX3_count_33 : decode cX3_count 33 = .ok (.getfield 50, 3) := by decide +kernel
theorem dX3_count_36 : decode cX3_count 36 = .ok (.ireturn, 1) := by decide +kernel
theorem dX3_count_37 : decode cX3_count 37 = .ok (.aload_n 0, 1) := by decide +kernel
theorem dX3_count_38 : decode cX3_count 38 = .ok (.getfield 58, 3) := by decide +kernel
theorem dX3_count_41 : decode cX3_count 41 = .ok (.ireturn, 1) := by decide +kernel
theorem dX3_count_42 : decode cX3_count 42 = .ok (.iconst 0, 1) := by decide +kernel
theorem dX3_count_43 : decode cX3_count 43 = .ok (.istore_n 3, 1) := by decide +kernel
theorem dX3_count_44 : decode cX3_count 44 = .ok (.iload_n 3, 1) := by decide +kernel
theorem dX3_count_45 : decode cX3_count 45 = .ok (.aload_n 0, 1) := by decide +kernel
theorem dX3_count_46 : decode cX3_count 46 = .ok (.getfield 50, 3) := by decide +kernel
theorem dX3_count_49 : decode cX3_count 49 = .ok (.if_icmp .ge 62, 3) := by decide +kernel
theorem dX3_count_52 : decode cX3_count 52 = .ok (.iconst 0, 1) := by decide +kernel
theorem dX3_count_53 : decode cX3_count 53 = .ok (.istore 4, 2) := by decide +kernel
theorem dX3_count_55 : decode cX3_count 55 = .ok (.iconst 0, 1) := by decide +kernel
theorem dX3_count_56 : decode cX3_count 56 = .ok (.istore 5, 2) := by decide +kernel
theorem dX3_count_58 : decode cX3_count 58 = .ok (.iload 5, 2) := by decide +kernel
theorem dX3_count_60 : decode cX3_count 60 = .ok (.aload_n 0, 1) := by decide +kernel
theorem dX3_count_61 : decode cX3_count 61 = .ok (.getfield 50, 3) := by decide +kernel
theorem dX3_count_64 : decode cX3_count 64 = .ok (.if_icmp .ge 28, 3) := by decide +kernel
theorem dX3_count_67 : decode cX3_count 67 = .ok (.iload 4, 2) := by decide +kernel
theorem dX3_count_69 : decode cX3_count 69 = .ok (.aload_n 0, 1) := by decide +kernel
theorem dX3_count_70 : decode cX3_count 70 = .ok (.getfield 25, 3) := by decide +kernel
theorem dX3_count_73 : decode cX3_count 73 = .ok (.bipush 96, 2) := by decide +kernel
theorem dX3_count_75 : decode cX3_count 75 = .ok (.iconst 4, 1) := by decide +kernel
theorem dX3_count_76 : decode cX3_count 76 = .ok (.iload_n 3, 1) := by decide +kernel
theorem dX3_count_77 : decode cX3_count 77 = .ok (.imul, 1) := by decide +kernel
theorem dX3_count_78 : decode cX3_count 78 = .ok (.iadd, 1) := by decide +kernel
theorem dX3_count_79 : decode cX3_count 79 = .ok (.iload 5, 2) := by decide +kernel
theorem dX3_count_81 : decode cX3_count 81 = .ok (.iadd, 1) := by decide +kernel
theorem dX3_count_82 : decode cX3_count 82 = .ok (.iaload, 1) := by decide +kernel
theorem dX3_count_83 : decode cX3_count 83 = .ok (.iadd, 1) := by decide +kernel
theorem dX3_count_84 : decode cX3_count 84 = .ok (.istore 4, 2) := by decide +kernel
theorem dX3_count_86 : decode cX3_count 86 = .ok (.iinc 5 1, 3) := by decide +kernel
theorem dX3_count_89 : decode cX3_count 89 = .ok (.goto (-31), 3) := by decide +kernel
theorem dX3_count_92 : decode cX3_count 92 = .ok (.iload_n 2, 1) := by decide +kernel
theorem dX3_count_93 : decode cX3_count 93 = .ok (.iload 4, 2) := by decide +kernel
theorem dX3_count_95 : decode cX3_count 95 = .ok (.ifCond .le 7, 3) := by decide +kernel
theorem dX3_count_98 : decode cX3_count 98 = .ok (.iconst 1, 1) := by decide +kernel
theorem dX3_count_99 : decode cX3_count 99 = .ok (.goto 4, 3) := by decide +kernel
theorem dX3_count_102 : decode cX3_count 102 = .ok (.iconst 0, 1) := by decide +kernel
theorem dX3_count_103 : decode cX3_count 103 = .ok (.iadd, 1) := by decide +kernel
theorem dX3_count_104 : decode cX3_count 104 = .ok (.istore_n 2, 1) := by decide +kernel
theorem dX3_count_105 : decode cX3_count 105 = .ok (.iinc 3 1, 3) := by decide +kernel
theorem dX3_count_108 : decode cX3_count 108 = .ok (.goto (-64), 3) := by decide +kernel
theorem dX3_count_111 : decode cX3_count 111 = .ok (.iload_n 2, 1) := by decide +kernel
theorem dX3_count_112 : decode cX3_count 112 = .ok (.ireturn, 1) := by decide +kernel
theorem dX3_count_113 : decode cX3_count 113 = .ok (.iconst 0, 1) := by decide +kernel
theorem dX3_count_114 : decode cX3_count 114 = .ok (.istore_n 3, 1) := by decide +kernel
theorem dX3_count_115 : decode cX3_count 115 = .ok (.iload_n 3, 1) := by decide +kernel
theorem dX3_count_116 : decode cX3_count 116 = .ok (.bipush 16, 2) := by decide +kernel
theorem dX3_count_118 : decode cX3_count 118 = .ok (.if_icmp .ge 52, 3) := by decide +kernel
theorem dX3_count_121 : decode cX3_count 121 = .ok (.iload_n 2, 1) := by decide +kernel
theorem dX3_count_122 : decode cX3_count 122 = .ok (.iload_n 3, 1) := by decide +kernel
theorem dX3_count_123 : decode cX3_count 123 = .ok (.iconst 4, 1) := by decide +kernel
theorem dX3_count_124 : decode cX3_count 124 = .ok (.idiv, 1) := by decide +kernel
theorem dX3_count_125 : decode cX3_count 125 = .ok (.aload_n 0, 1) := by decide +kernel
theorem dX3_count_126 : decode cX3_count 126 = .ok (.getfield 50, 3) := by decide +kernel
theorem dX3_count_129 : decode cX3_count 129 = .ok (.if_icmp .ge 32, 3) := by decide +kernel
theorem dX3_count_132 : decode cX3_count 132 = .ok (.iload_n 3, 1) := by decide +kernel
theorem dX3_count_133 : decode cX3_count 133 = .ok (.iconst 4, 1) := by decide +kernel
theorem dX3_count_134 : decode cX3_count 134 = .ok (.irem, 1) := by decide +kernel
theorem dX3_count_135 : decode cX3_count 135 = .ok (.aload_n 0, 1) := by decide +kernel
theorem dX3_count_136 : decode cX3_count 136 = .ok (.getfield 50, 3) := by decide +kernel
theorem dX3_count_139 : decode cX3_count 139 = .ok (.if_icmp .ge 22, 3) := by decide +kernel
theorem dX3_count_142 : decode cX3_count 142 = .ok (.aload_n 0, 1) := by decide +kernel
theorem dX3_count_143 : decode cX3_count 143 = .ok (.bipush 6, 2) := by decide +kernel
theorem dX3_count_145 : decode cX3_count 145 = .ok (.iload_n 3, 1) := by decide +kernel
theorem dX3_count_146 : decode cX3_count 146 = .ok (.iconst 4, 1) := by decide +kernel
theorem dX3_count_147 : decode cX3_count 147 = .ok (.idiv, 1) := by decide +kernel
theorem dX3_count_148 : decode cX3_count 148 = .ok (.iload_n 3, 1) := by decide +kernel
theorem dX3_count_149 : decode cX3_count 149 = .ok (.iconst 4, 1) := by decide +kernel
theorem dX3_count_150 : decode cX3_count 150 = .ok (.irem, 1) := by decide +kernel
theorem dX3_count_151 : decode cX3_count 151 = .ok (.invokevirtual 82, 3) := by decide +kernel
theorem dX3_count_154 : decode cX3_count 154 = .ok (.ifCond .eq 7, 3) := by decide +kernel
theorem dX3_count_157 : decode cX3_count 157 = .ok (.iconst 1, 1) := by decide +kernel
theorem dX3_count_158 : decode cX3_count 158 = .ok (.goto 4, 3) := by decide +kernel
theorem dX3_count_161 : decode cX3_count 161 = .ok (.iconst 0, 1) := by decide +kernel
theorem dX3_count_162 : decode cX3_count 162 = .ok (.iadd, 1) := by decide +kernel
theorem dX3_count_163 : decode cX3_count 163 = .ok (.istore_n 2, 1) := by decide +kernel
theorem dX3_count_164 : decode cX3_count 164 = .ok (.iinc 3 1, 3) := by decide +kernel
theorem dX3_count_167 : decode cX3_count 167 = .ok (.goto (-52), 3) := by decide +kernel
theorem dX3_count_170 : decode cX3_count 170 = .ok (.iload_n 2, 1) := by decide +kernel
theorem dX3_count_171 : decode cX3_count 171 = .ok (.ireturn, 1) := by decide +kernel
theorem dX3_count_172 : decode cX3_count 172 = .ok (.bipush (-102), 2) := by decide +kernel
theorem dX3_count_174 : decode cX3_count 174 = .ok (.ireturn, 1) := by decide +kernel
theorem dX3_mix_0 : decode cX3_mix 0 = .ok (.aload_n 0, 1) := by decide +kernel
theorem dX3_mix_1 : decode cX3_mix 1 = .ok (.ldc2_w 147, 3) := by decide +kernel
theorem dX3_mix_4 : decode cX3_mix 4 = .ok (.aload_n 0, 1) := by decide +kernel
theorem dX3_mix_5 : decode cX3_mix 5 = .ok (.getfield 149, 3) := by decide +kernel
theorem dX3_mix_8 : decode cX3_mix 8 = .ok (.lmul, 1) := by decide +kernel
theorem dX3_mix_9 : decode cX3_mix 9 = .ok (.lload_n 1, 1) := by decide +kernel
theorem dX3_mix_10 : decode cX3_mix 10 = .ok (.ladd, 1) := by decide +kernel
theorem dX3_mix_11 : decode cX3_mix 11 = .ok (.putfield 149, 3) := by decide +kernel
theorem dX3_mix_14 : decode cX3_mix 14 = .ok (.return_, 1) := by decide +kernel
theorem dX3_digest_0 : decode cX3_digest 0 = .ok (.aload_n 0, 1) := by decide +kernel
theorem dX3_digest_1 : decode cX3_digest 1 = .ok (.ldc2_w 152, 3) := by decide +kernel
theorem dX3_digest_4 : decode cX3_digest 4 = .ok (.putfield 149, 3) := by decide +kernel
theorem dX3_digest_7 : decode cX3_digest 7 = .ok (.iconst 0, 1) := by decide +kernel
theorem dX3_digest_8 : decode cX3_digest 8 = .ok (.istore_n 1, 1) := by decide +kernel
theorem dX3_digest_9 : decode cX3_digest 9 = .ok (.iload_n 1, 1) := by decide +kernel
theorem dX3_digest_10 : decode cX3_digest 10 = .ok (.aload_n 0, 1) := by decide +kernel
theorem dX3_digest_11 : decode cX3_digest 11 = .ok (.getfield 50, 3) := by decide +kernel
theorem dX3_digest_14 : decode cX3_digest 14 = .ok (.if_icmp .ge 34, 3) := by decide +kernel
theorem dX3_digest_17 : decode cX3_digest 17 = .ok (.iconst 0, 1) := by decide +kernel
theorem dX3_digest_18 : decode cX3_digest 18 = .ok (.istore_n 2, 1) := by decide +kernel
theorem dX3_digest_19 : decode cX3_digest 19 = .ok (.iload_n 2, 1) := by decide +kernel
theorem dX3_digest_20 : decode cX3_digest 20 = .ok (.bipush 23, 2) := by decide +kernel
theorem dX3_digest_22 : decode cX3_digest 22 = .ok (.if_icmp .ge 20, 3) := by decide +kernel
theorem dX3_digest_25 : decode cX3_digest 25 = .ok (.aload_n 0, 1) := by decide +kernel
theorem dX3_digest_26 : decode cX3_digest 26 = .ok (.aload_n 0, 1) := by decide +kernel
theorem dX3_digest_27 : decode cX3_digest 27 = .ok (.iload_n 1, 1) := by decide +kernel
theorem dX3_digest_28 : decode cX3_digest 28 = .ok (.iload_n 2, 1) := by decide +kernel
theorem dX3_digest_29 : decode cX3_digest 29 = .ok (.invokevirtual 79, 3) := by decide +kernel
theorem dX3_digest_32 : decode cX3_digest 32 = .ok (.i2l, 1) := by decide +kernel
theorem dX3_digest_33 : decode cX3_digest 33 = .ok (.invokevirtual 154, 3) := by decide +kernel
theorem dX3_digest_36 : decode cX3_digest 36 = .ok (.iinc 2 1, 3) := by decide +kernel
theorem dX3_digest_39 : decode cX3_digest 39 = .ok (.goto (-20), 3) := by decide +kernel
theorem dX3_digest_42 : decode cX3_digest 42 = .ok (.iinc 1 1, 3) := by decide +kernel
theorem dX3_digest_45 : decode cX3_digest 45 = .ok (.goto (-36), 3) := by decide +kernel
theorem dX3_digest_48 : decode cX3_digest 48 = .ok (.iconst 0, 1) := by decide +kernel
theorem dX3_digest_49 : decode cX3_digest 49 = .ok (.istore_n 1, 1) := by decide +kernel
theorem dX3_digest_50 : decode cX3_digest 50 = .ok (.iload_n 1, 1) := by decide +kernel
theorem dX3_digest_51 : decode cX3_digest 51 = .ok (.iconst 4, 1) := by decide +kernel
theorem dX3_digest_52 : decode cX3_digest 52 = .ok (.if_icmp .ge 40, 3) := by decide +kernel
theorem dX3_digest_55 : decode cX3_digest 55 = .ok (.iconst 0, 1) := by decide +kernel
theorem dX3_digest_56 : decode cX3_digest 56 = .ok (.istore_n 2, 1) := by decide +kernel
theorem dX3_digest_57 : decode cX3_digest 57 = .ok (.iload_n 2, 1) := by decide +kernel
theorem dX3_digest_58 : decode cX3_digest 58 = .ok (.aload_n 0, 1) := by decide +kernel
theorem dX3_digest_59 : decode cX3_digest 59 = .ok (.getfield 50, 3) := by decide +kernel
theorem dX3_digest_62 : decode cX3_digest 62 = .ok (.if_icmp .ge 24, 3) := by decide +kernel
theorem dX3_digest_65 : decode cX3_digest 65 = .ok (.aload_n 0, 1) := by decide +kernel
theorem dX3_digest_66 : decode cX3_digest 66 = .ok (.aload_n 0, 1) := by decide +kernel
theorem dX3_digest_67 : decode cX3_digest 67 = .ok (.getfield 31, 3) := by decide +kernel
theorem dX3_digest_70 : decode cX3_digest 70 = .ok (.iconst 4, 1) := by decide +kernel
theorem dX3_digest_71 : decode cX3_digest 71 = .ok (.iload_n 1, 1) := by decide +kernel
theorem dX3_digest_72 : decode cX3_digest 72 = .ok (.imul, 1) := by decide +kernel
theorem dX3_digest_73 : decode cX3_digest 73 = .ok (.iload_n 2, 1) := by decide +kernel
theorem dX3_digest_74 : decode cX3_digest 74 = .ok (.iadd, 1) := by decide +kernel
theorem dX3_digest_75 : decode cX3_digest 75 = .ok (.iaload, 1) := by decide +kernel
theorem dX3_digest_76 : decode cX3_digest 76 = .ok (.i2l, 1) := by decide +kernel
theorem dX3_digest_77 : decode cX3_digest 77 = .ok (.invokevirtual 154, 3) := by decide +kernel
theorem dX3_digest_80 : decode cX3_digest 80 = .ok (.iinc 2 1, 3) := by decide +kernel
theorem dX3_digest_83 : decode cX3_digest 83 = .ok (.goto (-26), 3) := by decide +kernel
theorem dX3_digest_86 : decode cX3_digest 86 = .ok (.iinc 1 1, 3) := by decide +kernel
theorem dX3_digest_89 : decode cX3_digest 89 = .ok (.goto (-39), 3) := by decide +kernel
theorem dX3_digest_92 : decode cX3_digest 92 = .ok (.aload_n 0, 1) := by decide +kernel
theorem dX3_digest_93 : decode cX3_digest 93 = .ok (.aload_n 0, 1) := by decide +kernel
theorem dX3_digest_94 : decode cX3_digest 94 = .ok (.getfield 58, 3) := by decide +kernel
theorem dX3_digest_97 : decode cX3_digest 97 = .ok (.i2l, 1) := by decide +kernel
theorem dX3_digest_98 : decode cX3_digest 98 = .ok (.invokevirtual 154, 3) := by decide +kernel
theorem dX3_digest_101 : decode cX3_digest 101 = .ok (.aload_n 0, 1) := by decide +kernel
theorem dX3_digest_102 : decode cX3_digest 102 = .ok (.aload_n 0, 1) := by decide +kernel
theorem dX3_digest_103 : decode cX3_digest 103 = .ok (.invokevirtual 158, 3) := by decide +kernel
theorem dX3_digest_106 : decode cX3_digest 106 = .ok (.invokevirtual 154, 3) := by decide +kernel
theorem dX3_digest_109 : decode cX3_digest 109 = .ok (.aload_n 0, 1) := by decide +kernel
theorem dX3_digest_110 : decode cX3_digest 110 = .ok (.getfield 149, 3) := by decide +kernel
theorem dX3_digest_113 : decode cX3_digest 113 = .ok (.lreturn, 1) := by decide +kernel
theorem wq_165 : Cond.fieldLink RX3 50 "CradleNetsModel" "n" "I" ∈ mTbl := by decide +kernel
theorem wq_166 : Cond.initialized RX3 ∈ mTbl := by decide +kernel
theorem wq_167 : Cond.code yX3_in cX3_in 3 (some .boolean) ∈ mTbl := by decide +kernel
theorem wq_168 : Cond.methodLink RX3 54 yX3_in ∈ mTbl := by decide +kernel
theorem wq_169 : Cond.static yX3_in ∈ mTbl := by decide +kernel
theorem wq_170 : Cond.fieldLink RX3 58 "CradleNetsModel" "versions" "I" ∈ mTbl := by decide +kernel
theorem wq_171 : Cond.fieldLink RX3 7 "CradleNetsModel" "outs" "[I" ∈ mTbl := by decide +kernel
theorem wq_172 : Cond.fieldLink RX3 13 "CradleNetsModel" "rules" "[I" ∈ mTbl := by decide +kernel
theorem wq_173 : Cond.fieldLink RX3 16 "CradleNetsModel" "weights" "[I" ∈ mTbl := by decide +kernel
theorem wq_174 : Cond.fieldLink RX3 19 "CradleNetsModel" "prices" "[I" ∈ mTbl := by decide +kernel
theorem wq_175 : Cond.code yX3_isMaking cX3_isMaking 2 (some .boolean) ∈ mTbl := by decide +kernel
theorem wq_176 : Cond.methodLink RX3 61 yX3_isMaking ∈ mTbl := by decide +kernel
theorem wq_177 : Cond.instanceMethod yX3_isMaking ∈ mTbl := by decide +kernel
theorem wq_178 : Cond.selects RX3 yX3_isMaking yX3_isMaking ∈ mTbl := by decide +kernel
theorem wq_179 : Cond.fieldLink RX3 22 "CradleNetsModel" "need" "[I" ∈ mTbl := by decide +kernel
theorem wq_180 : Cond.fieldLink RX3 25 "CradleNetsModel" "gives" "[I" ∈ mTbl := by decide +kernel
theorem wq_181 : Cond.fieldLink RX3 28 "CradleNetsModel" "emit" "[I" ∈ mTbl := by decide +kernel
theorem wq_182 : Cond.code yX3_isStuff cX3_isStuff 1 (some .boolean) ∈ mTbl := by decide +kernel
theorem wq_183 : Cond.methodLink RX3 65 yX3_isStuff ∈ mTbl := by decide +kernel
theorem wq_184 : Cond.static yX3_isStuff ∈ mTbl := by decide +kernel
theorem wq_185 : Cond.code yX3_value cX3_value 4 (some .int) ∈ mTbl := by decide +kernel
theorem wq_186 : Cond.methodLink RX3 68 yX3_value ∈ mTbl := by decide +kernel
theorem wq_187 : Cond.instanceMethod yX3_value ∈ mTbl := by decide +kernel
theorem wq_188 : Cond.selects RX3 yX3_value yX3_value ∈ mTbl := by decide +kernel
theorem wq_189 : Cond.code yX3_mainOf cX3_mainOf 4 (some .int) ∈ mTbl := by decide +kernel
theorem wq_190 : Cond.methodLink RX3 72 yX3_mainOf ∈ mTbl := by decide +kernel
theorem wq_191 : Cond.instanceMethod yX3_mainOf ∈ mTbl := by decide +kernel
theorem wq_192 : Cond.selects RX3 yX3_mainOf yX3_mainOf ∈ mTbl := by decide +kernel
theorem wq_193 : Cond.code yX3_allOf cX3_allOf 6 (some .int) ∈ mTbl := by decide +kernel
theorem wq_194 : Cond.methodLink RX3 76 yX3_allOf ∈ mTbl := by decide +kernel
theorem wq_195 : Cond.instanceMethod yX3_allOf ∈ mTbl := by decide +kernel
theorem wq_196 : Cond.selects RX3 yX3_allOf yX3_allOf ∈ mTbl := by decide +kernel
theorem wq_197 : Cond.code yX3_toldOf cX3_toldOf 3 (some .int) ∈ mTbl := by decide +kernel
theorem wq_198 : Cond.methodLink RX3 79 yX3_toldOf ∈ mTbl := by decide +kernel
theorem wq_199 : Cond.instanceMethod yX3_toldOf ∈ mTbl := by decide +kernel
theorem wq_200 : Cond.selects RX3 yX3_toldOf yX3_toldOf ∈ mTbl := by decide +kernel
theorem wq_201 : Cond.fieldLink RX3 41 "CradleNetsModel" "tried" "[J" ∈ mTbl := by decide +kernel
theorem wq_202 : Cond.code yX3_pair cX3_pair 4 (some .long) ∈ mTbl := by decide +kernel
theorem wq_203 : Cond.methodLink RX3 96 yX3_pair ∈ mTbl := by decide +kernel
theorem wq_204 : Cond.instanceMethod yX3_pair ∈ mTbl := by decide +kernel
theorem wq_205 : Cond.selects RX3 yX3_pair yX3_pair ∈ mTbl := by decide +kernel
theorem wq_206 : Cond.fieldLink RX3 37 "CradleNetsModel" "table" "[J" ∈ mTbl := by decide +kernel
theorem wq_207 : Cond.fieldLink RX3 34 "CradleNetsModel" "bookOf" "[I" ∈ mTbl := by decide +kernel
theorem wq_208 : Cond.fieldLink RX3 89 "CradleNetsModel" "worth" "J" ∈ mTbl := by decide +kernel
theorem wq_209 : Cond.code yX3_entryOf cX3_entryOf 6 (some .int) ∈ mTbl := by decide +kernel
theorem wq_210 : Cond.methodLink RX3 82 yX3_entryOf ∈ mTbl := by decide +kernel
theorem wq_211 : Cond.instanceMethod yX3_entryOf ∈ mTbl := by decide +kernel
theorem wq_212 : Cond.selects RX3 yX3_entryOf yX3_entryOf ∈ mTbl := by decide +kernel
theorem wq_213 : Cond.code yX3_determinant cX3_determinant 3 (some .long) ∈ mTbl := by decide +kernel
theorem wq_214 : Cond.methodLink RX3 85 yX3_determinant ∈ mTbl := by decide +kernel
theorem wq_215 : Cond.instanceMethod yX3_determinant ∈ mTbl := by decide +kernel
theorem wq_216 : Cond.selects RX3 yX3_determinant yX3_determinant ∈ mTbl := by decide +kernel
theorem wq_217 : Cond.code yX3_lay cX3_lay 3 none ∈ mTbl := by decide +kernel
theorem wq_218 : Cond.methodLink RX3 93 yX3_lay ∈ mTbl := by decide +kernel
theorem wq_219 : Cond.instanceMethod yX3_lay ∈ mTbl := by decide +kernel
theorem wq_220 : Cond.selects RX3 yX3_lay yX3_lay ∈ mTbl := by decide +kernel
theorem wq_221 : Cond.fieldLink RX3 100 "CradleNetsModel" "under" "J" ∈ mTbl := by decide +kernel
theorem wq_222 : Cond.fieldLink RX3 31 "CradleNetsModel" "basket" "[I" ∈ mTbl := by decide +kernel
theorem wq_223 : Cond.fieldLink RX3 44 "CradleNetsModel" "rounds" "[J" ∈ mTbl := by decide +kernel
theorem wq_224 : Cond.constant RX3 103 (-1000000) ∈ mTbl := by decide +kernel
theorem wq_225 : Cond.code yX3_layNow cX3_layNow 2 none ∈ mTbl := by decide +kernel
theorem wq_226 : Cond.methodLink RX3 104 yX3_layNow ∈ mTbl := by decide +kernel
theorem wq_227 : Cond.instanceMethod yX3_layNow ∈ mTbl := by decide +kernel
theorem wq_228 : Cond.selects RX3 yX3_layNow yX3_layNow ∈ mTbl := by decide +kernel
theorem wq_229 : Cond.code yX3_isBasket cX3_isBasket 1 (some .boolean) ∈ mTbl := by decide +kernel
theorem wq_230 : Cond.methodLink RX3 107 yX3_isBasket ∈ mTbl := by decide +kernel
theorem wq_231 : Cond.static yX3_isBasket ∈ mTbl := by decide +kernel
theorem wq_232 : Cond.constantLong RX3 114 (1000) ∈ mTbl := by decide +kernel
theorem wq_233 : Cond.code yX3_floor cX3_floor 6 (some .long) ∈ mTbl := by decide +kernel
theorem wq_234 : Cond.methodLink RX3 110 yX3_floor ∈ mTbl := by decide +kernel
theorem wq_235 : Cond.static yX3_floor ∈ mTbl := by decide +kernel
theorem wq_236 : Cond.constantLong RX3 116 (-9000000000000000001) ∈ mTbl := by decide +kernel
theorem wq_237 : Cond.constantLong RX3 118 (-9000000000000000004) ∈ mTbl := by decide +kernel
theorem wq_238 : Cond.code yX3_solve cX3_solve 4 none ∈ mTbl := by decide +kernel
theorem wq_239 : Cond.methodLink RX3 120 yX3_solve ∈ mTbl := by decide +kernel
theorem wq_240 : Cond.instanceMethod yX3_solve ∈ mTbl := by decide +kernel
theorem wq_241 : Cond.selects RX3 yX3_solve yX3_solve ∈ mTbl := by decide +kernel
theorem wq_242 : Cond.code yX3_thousandths cX3_thousandths 6 (some .long) ∈ mTbl := by decide +kernel
theorem wq_243 : Cond.methodLink RX3 124 yX3_thousandths ∈ mTbl := by decide +kernel
theorem wq_244 : Cond.static yX3_thousandths ∈ mTbl := by decide +kernel
theorem wq_245 : Cond.code yX3_emission cX3_emission 4 (some .long) ∈ mTbl := by decide +kernel
theorem wq_246 : Cond.methodLink RX3 127 yX3_emission ∈ mTbl := by decide +kernel
theorem wq_247 : Cond.instanceMethod yX3_emission ∈ mTbl := by decide +kernel
theorem wq_248 : Cond.selects RX3 yX3_emission yX3_emission ∈ mTbl := by decide +kernel
theorem wq_249 : Cond.constantLong RX3 130 (-9000000000000000002) ∈ mTbl := by decide +kernel
theorem wq_250 : Cond.code yX3_sum cX3_sum 7 (some .long) ∈ mTbl := by decide +kernel
theorem wq_251 : Cond.methodLink RX3 132 yX3_sum ∈ mTbl := by decide +kernel
theorem wq_252 : Cond.instanceMethod yX3_sum ∈ mTbl := by decide +kernel
theorem wq_253 : Cond.selects RX3 yX3_sum yX3_sum ∈ mTbl := by decide +kernel
theorem wq_254 : Cond.code yX3_common cX3_common 10 (some .long) ∈ mTbl := by decide +kernel
theorem wq_255 : Cond.methodLink RX3 136 yX3_common ∈ mTbl := by decide +kernel
theorem wq_256 : Cond.static yX3_common ∈ mTbl := by decide +kernel
theorem wq_257 : Cond.fieldLink RX3 47 "CradleNetsModel" "others" "[J" ∈ mTbl := by decide +kernel
theorem wq_258 : Cond.code yX3_copy cX3_copy 4 none ∈ mTbl := by decide +kernel
theorem wq_259 : Cond.methodLink RX3 139 yX3_copy ∈ mTbl := by decide +kernel
theorem wq_260 : Cond.instanceMethod yX3_copy ∈ mTbl := by decide +kernel
theorem wq_261 : Cond.selects RX3 yX3_copy yX3_copy ∈ mTbl := by decide +kernel
theorem wq_262 : Cond.code yX3_mixed cX3_mixed 6 (some .long) ∈ mTbl := by decide +kernel
theorem wq_263 : Cond.methodLink RX3 143 yX3_mixed ∈ mTbl := by decide +kernel
theorem wq_264 : Cond.instanceMethod yX3_mixed ∈ mTbl := by decide +kernel
theorem wq_265 : Cond.selects RX3 yX3_mixed yX3_mixed ∈ mTbl := by decide +kernel
theorem wq_266 : Cond.constantLong RX3 147 (31) ∈ mTbl := by decide +kernel
theorem wq_267 : Cond.fieldLink RX3 149 "CradleNetsModel" "h" "J" ∈ mTbl := by decide +kernel
theorem wq_268 : Cond.constantLong RX3 152 (151) ∈ mTbl := by decide +kernel
theorem wq_269 : Cond.code yX3_mix cX3_mix 3 none ∈ mTbl := by decide +kernel
theorem wq_270 : Cond.methodLink RX3 154 yX3_mix ∈ mTbl := by decide +kernel
theorem wq_271 : Cond.instanceMethod yX3_mix ∈ mTbl := by decide +kernel
theorem wq_272 : Cond.selects RX3 yX3_mix yX3_mix ∈ mTbl := by decide +kernel
theorem wq_273 : Cond.code yX3_worth cX3_worth 1 (some .long) ∈ mTbl := by decide +kernel
theorem wq_274 : Cond.methodLink RX3 158 yX3_worth ∈ mTbl := by decide +kernel
theorem wq_275 : Cond.instanceMethod yX3_worth ∈ mTbl := by decide +kernel
theorem wq_276 : Cond.selects RX3 yX3_worth yX3_worth ∈ mTbl := by decide +kernel
/-! X3 in -/
def tbX3_in : List (Nat × mR) := [(0, r_iload 1 0), (1, r_iload 2 1), (2, r_clt 5 14), (5, r_iload 6 0), (6, r_iload 7 2), (7, r_cgt 10 14), (10, r_ic 11 1), (11, r_goto 15), (14, r_ic 15 0)]
theorem tkX3_in : ∀ q ∈ tbX3_in, mOk cX3_in RX3 3 q.1 q.2 := by
  unfold tbX3_in
  refine mcons (ok_iload_n dX3_in_0 rfl) ?_
  refine mcons (ok_iload_n dX3_in_1 rfl) ?_
  refine mcons (ok_clt dX3_in_2 (by decide)) ?_
  refine mcons (ok_iload_n dX3_in_5 rfl) ?_
  refine mcons (ok_iload_n dX3_in_6 rfl) ?_
  refine mcons (ok_cgt dX3_in_7 (by decide)) ?_
  refine mcons (ok_iconst dX3_in_10 (by decide)) ?_
  refine mcons (ok_goto dX3_in_11 (by decide)) ?_
  refine mcons (ok_iconst dX3_in_14 (by decide)) ?_
  exact mnil
abbrev KX3_in (l : Launch) (D : va_G) (ca : Nat → ClassId) (ad : Nat → Nat) : List Value → mW → Option Value → mW → Prop := mC l 0 yX3_in cX3_in 3 (some .boolean) D ca ad
def CFX3_in (l : Launch) (D : va_G) (ca : Nat → ClassId) (ad : Nat → Nat) (G : mS → Prop) : Prop := True
theorem PX3_in {l : Launch} {D : va_G} {ca : Nat → ClassId} {ad : Nat → Nat} {av : List Value} {w : mW} {x : Int32} {w2 : mW} (hlen : (lg_sl av).length ≤ 3) (hx : x = 0 ∨ x = 1) (body : ∀ G : mS → Prop, mTb G tbX3_in → CFX3_in l D ca ad G → mRet G (some (.int x)) w2 [15] → G (0, lv_args 0 av, [], w)) : KX3_in l D ca ad av w (some (.int x)) w2 :=
  mPackZ [15] (by decide +kernel) hlen tkX3_in (fun p e s m args below meth c A Q hX => trivial) (List.forall_mem_cons.mpr ⟨dX3_in_15, fun _ h => absurd h List.not_mem_nil⟩) hx body
/-! X3 isMaking -/
def tbX3_isMaking : List (Nat × mR) := [(0, r_iload 1 1), (1, r_ic 2 0), (2, r_aload 3 0), (3, r_getf 6 3 0), (6, r_ic 7 1), (7, r_ii 8 (fun x y => x - y))]
theorem tkX3_isMaking : ∀ q ∈ tbX3_isMaking, mOk cX3_isMaking RX3 2 q.1 q.2 := by
  unfold tbX3_isMaking
  refine mcons (ok_iload_n dX3_isMaking_0 rfl) ?_
  refine mcons (ok_iconst dX3_isMaking_1 (by decide)) ?_
  refine mcons (ok_aload_n dX3_isMaking_2 rfl) ?_
  refine mcons (ok_getf 0 dX3_isMaking_3 rfl mX3 (by decide) wq_165 rfl) ?_
  refine mcons (ok_iconst dX3_isMaking_6 (by decide)) ?_
  refine mcons (ok_isub dX3_isMaking_7) ?_
  exact mnil
abbrev KX3_isMaking (l : Launch) (D : va_G) (ca : Nat → ClassId) (ad : Nat → Nat) : List Value → mW → Option Value → mW → Prop := mC l 1 yX3_isMaking cX3_isMaking 2 (some .boolean) D ca ad
def CFX3_isMaking (l : Launch) (D : va_G) (ca : Nat → ClassId) (ad : Nat → Nat) (G : mS → Prop) : Prop := mCallS G (KX3_in l D ca ad) 8 3
theorem PX3_isMaking {l : Launch} {D : va_G} {ca : Nat → ClassId} {ad : Nat → Nat} {av : List Value} {w : mW} {x : Int32} {w2 : mW} (hlen : (lg_sl av).length ≤ 2) (hx : x = 0 ∨ x = 1) (body : ∀ G : mS → Prop, mTb G tbX3_isMaking → CFX3_isMaking l D ca ad G → mRet G (some (.int x)) w2 [11] → G (0, lv_args 0 av, [], w)) : KX3_isMaking l D ca ad av w (some (.int x)) w2 :=
  mPackZ [11] (by decide +kernel) hlen tkX3_isMaking (fun p e s m args below meth c A Q hX => mCallS_ok hX dX3_isMaking_8 ⟨wq_168, wq_166, wq_167, by decide +kernel, by decide +kernel, by decide +kernel⟩ wq_169 (by decide) (by decide)) (List.forall_mem_cons.mpr ⟨dX3_isMaking_11, fun _ h => absurd h List.not_mem_nil⟩) hx body
/-! X3 isStuff -/
def tbX3_isStuff : List (Nat × mR) := [(0, r_iload 1 0), (1, r_ic 2 0), (2, r_ic 3 2)]
theorem tkX3_isStuff : ∀ q ∈ tbX3_isStuff, mOk cX3_isStuff RX3 1 q.1 q.2 := by
  unfold tbX3_isStuff
  refine mcons (ok_iload_n dX3_isStuff_0 rfl) ?_
  refine mcons (ok_iconst dX3_isStuff_1 (by decide)) ?_
  refine mcons (ok_iconst dX3_isStuff_2 (by decide)) ?_
  exact mnil
abbrev KX3_isStuff (l : Launch) (D : va_G) (ca : Nat → ClassId) (ad : Nat → Nat) : List Value → mW → Option Value → mW → Prop := mC l 1 yX3_isStuff cX3_isStuff 1 (some .boolean) D ca ad
def CFX3_isStuff (l : Launch) (D : va_G) (ca : Nat → ClassId) (ad : Nat → Nat) (G : mS → Prop) : Prop := mCallS G (KX3_in l D ca ad) 3 3
theorem PX3_isStuff {l : Launch} {D : va_G} {ca : Nat → ClassId} {ad : Nat → Nat} {av : List Value} {w : mW} {x : Int32} {w2 : mW} (hlen : (lg_sl av).length ≤ 1) (hx : x = 0 ∨ x = 1) (body : ∀ G : mS → Prop, mTb G tbX3_isStuff → CFX3_isStuff l D ca ad G → mRet G (some (.int x)) w2 [6] → G (0, lv_args 0 av, [], w)) : KX3_isStuff l D ca ad av w (some (.int x)) w2 :=
  mPackZ [6] (by decide +kernel) hlen tkX3_isStuff (fun p e s m args below meth c A Q hX => mCallS_ok hX dX3_isStuff_3 ⟨wq_168, wq_166, wq_167, by decide +kernel, by decide +kernel, by decide +kernel⟩ wq_169 (by decide) (by decide)) (List.forall_mem_cons.mpr ⟨dX3_isStuff_6, fun _ h => absurd h List.not_mem_nil⟩) hx body
/-! X3 isBasket -/
def tbX3_isBasket : List (Nat × mR) := [(0, r_iload 1 0), (1, r_ic 2 0), (2, r_ic 3 3)]
theorem tkX3_isBasket : ∀ q ∈ tbX3_isBasket, mOk cX3_isBasket RX3 1 q.1 q.2 := by
  unfold tbX3_isBasket
  refine mcons (ok_iload_n dX3_isBasket_0 rfl) ?_
  refine mcons (ok_iconst dX3_isBasket_1 (by decide)) ?_
  refine mcons (ok_iconst dX3_isBasket_2 (by decide)) ?_
  exact mnil
abbrev KX3_isBasket (l : Launch) (D : va_G) (ca : Nat → ClassId) (ad : Nat → Nat) : List Value → mW → Option Value → mW → Prop := mC l 1 yX3_isBasket cX3_isBasket 1 (some .boolean) D ca ad
def CFX3_isBasket (l : Launch) (D : va_G) (ca : Nat → ClassId) (ad : Nat → Nat) (G : mS → Prop) : Prop := mCallS G (KX3_in l D ca ad) 3 3
theorem PX3_isBasket {l : Launch} {D : va_G} {ca : Nat → ClassId} {ad : Nat → Nat} {av : List Value} {w : mW} {x : Int32} {w2 : mW} (hlen : (lg_sl av).length ≤ 1) (hx : x = 0 ∨ x = 1) (body : ∀ G : mS → Prop, mTb G tbX3_isBasket → CFX3_isBasket l D ca ad G → mRet G (some (.int x)) w2 [6] → G (0, lv_args 0 av, [], w)) : KX3_isBasket l D ca ad av w (some (.int x)) w2 :=
  mPackZ [6] (by decide +kernel) hlen tkX3_isBasket (fun p e s m args below meth c A Q hX => mCallS_ok hX dX3_isBasket_3 ⟨wq_168, wq_166, wq_167, by decide +kernel, by decide +kernel, by decide +kernel⟩ wq_169 (by decide) (by decide)) (List.forall_mem_cons.mpr ⟨dX3_isBasket_6, fun _ h => absurd h List.not_mem_nil⟩) hx body
/-! X3 making -/
def tbX3_making : List (Nat × mR) := [(0, r_aload 1 0), (1, r_getf 4 3 1), (4, r_ifle 7 10), (7, r_ic 9 (-103)), (10, r_aload 11 0), (11, r_getf 14 3 0), (14, r_ic 15 4), (15, r_cne 18 21), (18, r_ic 20 (-105)), (21, r_ic 23 24), (23, r_aload 24 0), (24, r_getf 27 3 0), (27, r_ii 28 (fun x y => x + y)), (28, r_istore 29 1), (29, r_aload 30 0), (30, r_getf 33 3 2), (33, r_iload 34 1), (34, r_ic 35 1), (35, r_iast 36), (36, r_aload 37 0), (37, r_getf 40 3 3), (40, r_iload 41 1), (41, r_ic 42 0), (42, r_iast 43), (43, r_aload 44 0), (44, r_getf 47 3 4), (47, r_iload 48 1), (48, r_ic 49 1), (49, r_iast 50), (50, r_aload 51 0), (51, r_getf 54 3 5), (54, r_iload 55 1), (55, r_ic 56 1), (56, r_iast 57), (57, r_aload 58 0), (58, r_dup 59), (59, r_getf 62 3 0), (62, r_ic 63 1), (63, r_ii 64 (fun x y => x + y)), (64, r_puti 67 3 0), (67, r_aload 68 0), (68, r_getf 71 3 0), (71, r_ic 72 1), (72, r_ii 73 (fun x y => x - y))]
theorem tkX3_making : ∀ q ∈ tbX3_making, mOk cX3_making RX3 2 q.1 q.2 := by
  unfold tbX3_making
  refine mcons (ok_aload_n dX3_making_0 rfl) ?_
  refine mcons (ok_getf 1 dX3_making_1 rfl mX3 (by decide) wq_170 rfl) ?_
  refine mcons (ok_ifle dX3_making_4 (by decide)) ?_
  refine mcons (ok_bipush dX3_making_7 (by decide)) ?_
  refine mcons (ok_aload_n dX3_making_10 rfl) ?_
  refine mcons (ok_getf 0 dX3_making_11 rfl mX3 (by decide) wq_165 rfl) ?_
  refine mcons (ok_iconst dX3_making_14 (by decide)) ?_
  refine mcons (ok_cne dX3_making_15 (by decide)) ?_
  refine mcons (ok_bipush dX3_making_18 (by decide)) ?_
  refine mcons (ok_bipush dX3_making_21 (by decide)) ?_
  refine mcons (ok_aload_n dX3_making_23 rfl) ?_
  refine mcons (ok_getf 0 dX3_making_24 rfl mX3 (by decide) wq_165 rfl) ?_
  refine mcons (ok_iadd dX3_making_27) ?_
  refine mcons (ok_istore_n dX3_making_28 rfl (by decide)) ?_
  refine mcons (ok_aload_n dX3_making_29 rfl) ?_
  refine mcons (ok_getf 2 dX3_making_30 rfl mX3 (by decide) wq_171 rfl) ?_
  refine mcons (ok_iload_n dX3_making_33 rfl) ?_
  refine mcons (ok_iconst dX3_making_34 (by decide)) ?_
  refine mcons (ok_iast dX3_making_35) ?_
  refine mcons (ok_aload_n dX3_making_36 rfl) ?_
  refine mcons (ok_getf 3 dX3_making_37 rfl mX3 (by decide) wq_172 rfl) ?_
  refine mcons (ok_iload_n dX3_making_40 rfl) ?_
  refine mcons (ok_iconst dX3_making_41 (by decide)) ?_
  refine mcons (ok_iast dX3_making_42) ?_
  refine mcons (ok_aload_n dX3_making_43 rfl) ?_
  refine mcons (ok_getf 4 dX3_making_44 rfl mX3 (by decide) wq_173 rfl) ?_
  refine mcons (ok_iload_n dX3_making_47 rfl) ?_
  refine mcons (ok_iconst dX3_making_48 (by decide)) ?_
  refine mcons (ok_iast dX3_making_49) ?_
  refine mcons (ok_aload_n dX3_making_50 rfl) ?_
  refine mcons (ok_getf 5 dX3_making_51 rfl mX3 (by decide) wq_174 rfl) ?_
  refine mcons (ok_iload_n dX3_making_54 rfl) ?_
  refine mcons (ok_iconst dX3_making_55 (by decide)) ?_
  refine mcons (ok_iast dX3_making_56) ?_
  refine mcons (ok_aload_n dX3_making_57 rfl) ?_
  refine mcons (ok_dup dX3_making_58) ?_
  refine mcons (ok_getf 0 dX3_making_59 rfl mX3 (by decide) wq_165 rfl) ?_
  refine mcons (ok_iconst dX3_making_62 (by decide)) ?_
  refine mcons (ok_iadd dX3_making_63) ?_
  refine mcons (ok_puti 0 dX3_making_64 rfl mX3 tyX3_ok nmX3 (by decide) wq_165 rfl rfl (by decide +kernel)) ?_
  refine mcons (ok_aload_n dX3_making_67 rfl) ?_
  refine mcons (ok_getf 0 dX3_making_68 rfl mX3 (by decide) wq_165 rfl) ?_
  refine mcons (ok_iconst dX3_making_71 (by decide)) ?_
  refine mcons (ok_isub dX3_making_72) ?_
  exact mnil
abbrev KX3_making (l : Launch) (D : va_G) (ca : Nat → ClassId) (ad : Nat → Nat) : List Value → mW → Option Value → mW → Prop := mC l 0 yX3_making cX3_making 2 (some .int) D ca ad
def CFX3_making (l : Launch) (D : va_G) (ca : Nat → ClassId) (ad : Nat → Nat) (G : mS → Prop) : Prop := True
theorem PX3_making {l : Launch} {D : va_G} {ca : Nat → ClassId} {ad : Nat → Nat} {av : List Value} {w : mW} {x : Int32} {w2 : mW} (hlen : (lg_sl av).length ≤ 2) (body : ∀ G : mS → Prop, mTb G tbX3_making → CFX3_making l D ca ad G → mRet G (some (.int x)) w2 [9, 20, 73] → G (0, lv_args 0 av, [], w)) : KX3_making l D ca ad av w (some (.int x)) w2 :=
  mPackI [9, 20, 73] (by decide +kernel) hlen tkX3_making (fun p e s m args below meth c A Q hX => trivial) (List.forall_mem_cons.mpr ⟨dX3_making_9, List.forall_mem_cons.mpr ⟨dX3_making_20, List.forall_mem_cons.mpr ⟨dX3_making_73, fun _ h => absurd h List.not_mem_nil⟩⟩⟩) body
/-! X3 out -/
def tbX3_out : List (Nat × mR) := [(0, r_aload 1 0), (1, r_iload 2 1), (5, r_ifne 8 11), (8, r_ic 10 (-101)), (11, r_iload 12 2), (12, r_ic 13 1), (13, r_ic 15 6), (18, r_ifne 21 24), (21, r_ic 23 (-102)), (24, r_aload 25 0), (25, r_getf 28 3 2), (28, r_ic 30 24), (30, r_iload 31 1), (31, r_ii 32 (fun x y => x + y)), (32, r_iald 33), (33, r_istore 34 3), (34, r_aload 35 0), (35, r_getf 38 3 2), (38, r_ic 40 24), (40, r_iload 41 1), (41, r_ii 42 (fun x y => x + y)), (42, r_iload 43 2), (43, r_iast 44), (44, r_iload 45 3)]
theorem tkX3_out : ∀ q ∈ tbX3_out, mOk cX3_out RX3 4 q.1 q.2 := by
  unfold tbX3_out
  refine mcons (ok_aload_n dX3_out_0 rfl) ?_
  refine mcons (ok_iload_n dX3_out_1 rfl) ?_
  refine mcons (ok_ifne dX3_out_5 (by decide)) ?_
  refine mcons (ok_bipush dX3_out_8 (by decide)) ?_
  refine mcons (ok_iload_n dX3_out_11 rfl) ?_
  refine mcons (ok_iconst dX3_out_12 (by decide)) ?_
  refine mcons (ok_bipush dX3_out_13 (by decide)) ?_
  refine mcons (ok_ifne dX3_out_18 (by decide)) ?_
  refine mcons (ok_bipush dX3_out_21 (by decide)) ?_
  refine mcons (ok_aload_n dX3_out_24 rfl) ?_
  refine mcons (ok_getf 2 dX3_out_25 rfl mX3 (by decide) wq_171 rfl) ?_
  refine mcons (ok_bipush dX3_out_28 (by decide)) ?_
  refine mcons (ok_iload_n dX3_out_30 rfl) ?_
  refine mcons (ok_iadd dX3_out_31) ?_
  refine mcons (ok_iald dX3_out_32) ?_
  refine mcons (ok_istore_n dX3_out_33 rfl (by decide)) ?_
  refine mcons (ok_aload_n dX3_out_34 rfl) ?_
  refine mcons (ok_getf 2 dX3_out_35 rfl mX3 (by decide) wq_171 rfl) ?_
  refine mcons (ok_bipush dX3_out_38 (by decide)) ?_
  refine mcons (ok_iload_n dX3_out_40 rfl) ?_
  refine mcons (ok_iadd dX3_out_41) ?_
  refine mcons (ok_iload_n dX3_out_42 rfl) ?_
  refine mcons (ok_iast dX3_out_43) ?_
  refine mcons (ok_iload_n dX3_out_44 rfl) ?_
  exact mnil
abbrev KX3_out (l : Launch) (D : va_G) (ca : Nat → ClassId) (ad : Nat → Nat) : List Value → mW → Option Value → mW → Prop := mC l 2 yX3_out cX3_out 4 (some .int) D ca ad
def CFX3_out (l : Launch) (D : va_G) (ca : Nat → ClassId) (ad : Nat → Nat) (G : mS → Prop) : Prop := mCallV G (KX3_isMaking l D ca ad) 2 3 1 ∧ mCallS G (KX3_in l D ca ad) 15 3
theorem PX3_out {l : Launch} {D : va_G} {ca : Nat → ClassId} {ad : Nat → Nat} {av : List Value} {w : mW} {x : Int32} {w2 : mW} (hlen : (lg_sl av).length ≤ 4) (body : ∀ G : mS → Prop, mTb G tbX3_out → CFX3_out l D ca ad G → mRet G (some (.int x)) w2 [10, 23, 45] → G (0, lv_args 0 av, [], w)) : KX3_out l D ca ad av w (some (.int x)) w2 :=
  mPackI [10, 23, 45] (by decide +kernel) hlen tkX3_out (fun p e s m args below meth c A Q hX => ⟨mCallV_ok (T := TX3) (N := 18) hX dX3_out_2 rfl ⟨wq_176, wq_166, wq_175, by decide +kernel, by decide +kernel, by decide +kernel⟩ wq_177 wq_178 (by decide) (by decide), mCallS_ok hX dX3_out_15 ⟨wq_168, wq_166, wq_167, by decide +kernel, by decide +kernel, by decide +kernel⟩ wq_169 (by decide) (by decide)⟩) (List.forall_mem_cons.mpr ⟨dX3_out_10, List.forall_mem_cons.mpr ⟨dX3_out_23, List.forall_mem_cons.mpr ⟨dX3_out_45, fun _ h => absurd h List.not_mem_nil⟩⟩⟩) body
/-! X3 needs -/
def tbX3_needs : List (Nat × mR) := [(0, r_aload 1 0), (1, r_iload 2 1), (5, r_ifeq 8 16), (8, r_aload 9 0), (9, r_iload 10 2), (13, r_ifne 16 19), (16, r_ic 18 (-101)), (19, r_iload 20 3), (20, r_ic 21 0), (21, r_ic 23 6), (26, r_ifne 29 32), (29, r_ic 31 (-102)), (32, r_ic 34 96), (34, r_ic 35 4), (35, r_iload 36 1), (36, r_ii 37 (fun x y => x * y)), (37, r_ii 38 (fun x y => x + y)), (38, r_iload 39 2), (39, r_ii 40 (fun x y => x + y)), (40, r_istore 42 4), (42, r_aload 43 0), (43, r_getf 46 3 6), (46, r_iload 48 4), (48, r_iald 49), (49, r_istore 51 5), (51, r_aload 52 0), (52, r_getf 55 3 6), (55, r_iload 57 4), (57, r_iload 58 3), (58, r_iast 59), (59, r_iload 61 5)]
theorem tkX3_needs : ∀ q ∈ tbX3_needs, mOk cX3_needs RX3 6 q.1 q.2 := by
  unfold tbX3_needs
  refine mcons (ok_aload_n dX3_needs_0 rfl) ?_
  refine mcons (ok_iload_n dX3_needs_1 rfl) ?_
  refine mcons (ok_ifeq dX3_needs_5 (by decide)) ?_
  refine mcons (ok_aload_n dX3_needs_8 rfl) ?_
  refine mcons (ok_iload_n dX3_needs_9 rfl) ?_
  refine mcons (ok_ifne dX3_needs_13 (by decide)) ?_
  refine mcons (ok_bipush dX3_needs_16 (by decide)) ?_
  refine mcons (ok_iload_n dX3_needs_19 rfl) ?_
  refine mcons (ok_iconst dX3_needs_20 (by decide)) ?_
  refine mcons (ok_bipush dX3_needs_21 (by decide)) ?_
  refine mcons (ok_ifne dX3_needs_26 (by decide)) ?_
  refine mcons (ok_bipush dX3_needs_29 (by decide)) ?_
  refine mcons (ok_bipush dX3_needs_32 (by decide)) ?_
  refine mcons (ok_iconst dX3_needs_34 (by decide)) ?_
  refine mcons (ok_iload_n dX3_needs_35 rfl) ?_
  refine mcons (ok_imul dX3_needs_36) ?_
  refine mcons (ok_iadd dX3_needs_37) ?_
  refine mcons (ok_iload_n dX3_needs_38 rfl) ?_
  refine mcons (ok_iadd dX3_needs_39) ?_
  refine mcons (ok_istore dX3_needs_40 (by decide)) ?_
  refine mcons (ok_aload_n dX3_needs_42 rfl) ?_
  refine mcons (ok_getf 6 dX3_needs_43 rfl mX3 (by decide) wq_179 rfl) ?_
  refine mcons (ok_iload dX3_needs_46) ?_
  refine mcons (ok_iald dX3_needs_48) ?_
  refine mcons (ok_istore dX3_needs_49 (by decide)) ?_
  refine mcons (ok_aload_n dX3_needs_51 rfl) ?_
  refine mcons (ok_getf 6 dX3_needs_52 rfl mX3 (by decide) wq_179 rfl) ?_
  refine mcons (ok_iload dX3_needs_55) ?_
  refine mcons (ok_iload_n dX3_needs_57 rfl) ?_
  refine mcons (ok_iast dX3_needs_58) ?_
  refine mcons (ok_iload dX3_needs_59) ?_
  exact mnil
abbrev KX3_needs (l : Launch) (D : va_G) (ca : Nat → ClassId) (ad : Nat → Nat) : List Value → mW → Option Value → mW → Prop := mC l 2 yX3_needs cX3_needs 6 (some .int) D ca ad
def CFX3_needs (l : Launch) (D : va_G) (ca : Nat → ClassId) (ad : Nat → Nat) (G : mS → Prop) : Prop := mCallV G (KX3_isMaking l D ca ad) 2 3 1 ∧ mCallV G (KX3_isMaking l D ca ad) 10 3 1 ∧ mCallS G (KX3_in l D ca ad) 23 3
theorem PX3_needs {l : Launch} {D : va_G} {ca : Nat → ClassId} {ad : Nat → Nat} {av : List Value} {w : mW} {x : Int32} {w2 : mW} (hlen : (lg_sl av).length ≤ 6) (body : ∀ G : mS → Prop, mTb G tbX3_needs → CFX3_needs l D ca ad G → mRet G (some (.int x)) w2 [18, 31, 61] → G (0, lv_args 0 av, [], w)) : KX3_needs l D ca ad av w (some (.int x)) w2 :=
  mPackI [18, 31, 61] (by decide +kernel) hlen tkX3_needs (fun p e s m args below meth c A Q hX => ⟨mCallV_ok (T := TX3) (N := 18) hX dX3_needs_2 rfl ⟨wq_176, wq_166, wq_175, by decide +kernel, by decide +kernel, by decide +kernel⟩ wq_177 wq_178 (by decide) (by decide), mCallV_ok (T := TX3) (N := 18) hX dX3_needs_10 rfl ⟨wq_176, wq_166, wq_175, by decide +kernel, by decide +kernel, by decide +kernel⟩ wq_177 wq_178 (by decide) (by decide), mCallS_ok hX dX3_needs_23 ⟨wq_168, wq_166, wq_167, by decide +kernel, by decide +kernel, by decide +kernel⟩ wq_169 (by decide) (by decide)⟩) (List.forall_mem_cons.mpr ⟨dX3_needs_18, List.forall_mem_cons.mpr ⟨dX3_needs_31, List.forall_mem_cons.mpr ⟨dX3_needs_61, fun _ h => absurd h List.not_mem_nil⟩⟩⟩) body
/-! X3 by -/
def tbX3_by : List (Nat × mR) := [(0, r_aload 1 0), (1, r_iload 2 1), (5, r_ifeq 8 16), (8, r_aload 9 0), (9, r_iload 10 2), (13, r_ifne 16 19), (16, r_ic 18 (-101)), (19, r_iload 20 3), (20, r_ic 21 0), (21, r_ic 23 6), (26, r_ifeq 29 34), (29, r_iload 30 1), (30, r_iload 31 2), (31, r_cne 34 37), (34, r_ic 36 (-102)), (37, r_ic 39 96), (39, r_ic 40 4), (40, r_iload 41 1), (41, r_ii 42 (fun x y => x * y)), (42, r_ii 43 (fun x y => x + y)), (43, r_iload 44 2), (44, r_ii 45 (fun x y => x + y)), (45, r_istore 47 4), (47, r_aload 48 0), (48, r_getf 51 3 7), (51, r_iload 53 4), (53, r_iald 54), (54, r_istore 56 5), (56, r_aload 57 0), (57, r_getf 60 3 7), (60, r_iload 62 4), (62, r_iload 63 3), (63, r_iast 64), (64, r_iload 66 5)]
theorem tkX3_by : ∀ q ∈ tbX3_by, mOk cX3_by RX3 6 q.1 q.2 := by
  unfold tbX3_by
  refine mcons (ok_aload_n dX3_by_0 rfl) ?_
  refine mcons (ok_iload_n dX3_by_1 rfl) ?_
  refine mcons (ok_ifeq dX3_by_5 (by decide)) ?_
  refine mcons (ok_aload_n dX3_by_8 rfl) ?_
  refine mcons (ok_iload_n dX3_by_9 rfl) ?_
  refine mcons (ok_ifne dX3_by_13 (by decide)) ?_
  refine mcons (ok_bipush dX3_by_16 (by decide)) ?_
  refine mcons (ok_iload_n dX3_by_19 rfl) ?_
  refine mcons (ok_iconst dX3_by_20 (by decide)) ?_
  refine mcons (ok_bipush dX3_by_21 (by decide)) ?_
  refine mcons (ok_ifeq dX3_by_26 (by decide)) ?_
  refine mcons (ok_iload_n dX3_by_29 rfl) ?_
  refine mcons (ok_iload_n dX3_by_30 rfl) ?_
  refine mcons (ok_cne dX3_by_31 (by decide)) ?_
  refine mcons (ok_bipush dX3_by_34 (by decide)) ?_
  refine mcons (ok_bipush dX3_by_37 (by decide)) ?_
  refine mcons (ok_iconst dX3_by_39 (by decide)) ?_
  refine mcons (ok_iload_n dX3_by_40 rfl) ?_
  refine mcons (ok_imul dX3_by_41) ?_
  refine mcons (ok_iadd dX3_by_42) ?_
  refine mcons (ok_iload_n dX3_by_43 rfl) ?_
  refine mcons (ok_iadd dX3_by_44) ?_
  refine mcons (ok_istore dX3_by_45 (by decide)) ?_
  refine mcons (ok_aload_n dX3_by_47 rfl) ?_
  refine mcons (ok_getf 7 dX3_by_48 rfl mX3 (by decide) wq_180 rfl) ?_
  refine mcons (ok_iload dX3_by_51) ?_
  refine mcons (ok_iald dX3_by_53) ?_
  refine mcons (ok_istore dX3_by_54 (by decide)) ?_
  refine mcons (ok_aload_n dX3_by_56 rfl) ?_
  refine mcons (ok_getf 7 dX3_by_57 rfl mX3 (by decide) wq_180 rfl) ?_
  refine mcons (ok_iload dX3_by_60) ?_
  refine mcons (ok_iload_n dX3_by_62 rfl) ?_
  refine mcons (ok_iast dX3_by_63) ?_
  refine mcons (ok_iload dX3_by_64) ?_
  exact mnil
abbrev KX3_by (l : Launch) (D : va_G) (ca : Nat → ClassId) (ad : Nat → Nat) : List Value → mW → Option Value → mW → Prop := mC l 2 yX3_by cX3_by 6 (some .int) D ca ad
def CFX3_by (l : Launch) (D : va_G) (ca : Nat → ClassId) (ad : Nat → Nat) (G : mS → Prop) : Prop := mCallV G (KX3_isMaking l D ca ad) 2 3 1 ∧ mCallV G (KX3_isMaking l D ca ad) 10 3 1 ∧ mCallS G (KX3_in l D ca ad) 23 3
theorem PX3_by {l : Launch} {D : va_G} {ca : Nat → ClassId} {ad : Nat → Nat} {av : List Value} {w : mW} {x : Int32} {w2 : mW} (hlen : (lg_sl av).length ≤ 6) (body : ∀ G : mS → Prop, mTb G tbX3_by → CFX3_by l D ca ad G → mRet G (some (.int x)) w2 [18, 36, 66] → G (0, lv_args 0 av, [], w)) : KX3_by l D ca ad av w (some (.int x)) w2 :=
  mPackI [18, 36, 66] (by decide +kernel) hlen tkX3_by (fun p e s m args below meth c A Q hX => ⟨mCallV_ok (T := TX3) (N := 18) hX dX3_by_2 rfl ⟨wq_176, wq_166, wq_175, by decide +kernel, by decide +kernel, by decide +kernel⟩ wq_177 wq_178 (by decide) (by decide), mCallV_ok (T := TX3) (N := 18) hX dX3_by_10 rfl ⟨wq_176, wq_166, wq_175, by decide +kernel, by decide +kernel, by decide +kernel⟩ wq_177 wq_178 (by decide) (by decide), mCallS_ok hX dX3_by_23 ⟨wq_168, wq_166, wq_167, by decide +kernel, by decide +kernel, by decide +kernel⟩ wq_169 (by decide) (by decide)⟩) (List.forall_mem_cons.mpr ⟨dX3_by_18, List.forall_mem_cons.mpr ⟨dX3_by_36, List.forall_mem_cons.mpr ⟨dX3_by_66, fun _ h => absurd h List.not_mem_nil⟩⟩⟩) body
/-! X3 emits -/
def tbX3_emits : List (Nat × mR) := [(0, r_aload 1 0), (1, r_iload 2 1), (5, r_ifeq 8 15), (8, r_iload 9 2), (12, r_ifne 15 18), (15, r_ic 17 (-101)), (18, r_iload 19 3), (19, r_iflt 22 42), (22, r_iload 24 4), (24, r_iload 25 3), (25, r_clt 28 42), (28, r_iload 30 5), (30, r_iload 32 4), (32, r_clt 35 42), (35, r_iload 37 5), (37, r_ic 39 100), (39, r_cle 42 45), (42, r_ic 44 (-102)), (45, r_ic 48 216), (48, r_ic 50 9), (50, r_iload 51 1), (51, r_ii 52 (fun x y => x * y)), (52, r_ii 53 (fun x y => x + y)), (53, r_iload 54 2), (54, r_ii 55 (fun x y => x + y)), (55, r_istore 57 6), (57, r_aload 58 0), (58, r_getf 61 3 8), (61, r_iload 63 6), (63, r_iload 64 3), (64, r_iast 65), (65, r_aload 66 0), (66, r_getf 69 3 8), (69, r_iload 71 6), (71, r_ic 72 3), (72, r_ii 73 (fun x y => x + y)), (73, r_iload 75 4), (75, r_iast 76), (76, r_aload 77 0), (77, r_getf 80 3 8), (80, r_iload 82 6), (82, r_ic 84 6), (84, r_ii 85 (fun x y => x + y)), (85, r_iload 87 5), (87, r_iast 88), (88, r_ic 89 1)]
theorem tkX3_emits : ∀ q ∈ tbX3_emits, mOk cX3_emits RX3 7 q.1 q.2 := by
  unfold tbX3_emits
  refine mcons (ok_aload_n dX3_emits_0 rfl) ?_
  refine mcons (ok_iload_n dX3_emits_1 rfl) ?_
  refine mcons (ok_ifeq dX3_emits_5 (by decide)) ?_
  refine mcons (ok_iload_n dX3_emits_8 rfl) ?_
  refine mcons (ok_ifne dX3_emits_12 (by decide)) ?_
  refine mcons (ok_bipush dX3_emits_15 (by decide)) ?_
  refine mcons (ok_iload_n dX3_emits_18 rfl) ?_
  refine mcons (ok_iflt dX3_emits_19 (by decide)) ?_
  refine mcons (ok_iload dX3_emits_22) ?_
  refine mcons (ok_iload_n dX3_emits_24 rfl) ?_
  refine mcons (ok_clt dX3_emits_25 (by decide)) ?_
  refine mcons (ok_iload dX3_emits_28) ?_
  refine mcons (ok_iload dX3_emits_30) ?_
  refine mcons (ok_clt dX3_emits_32 (by decide)) ?_
  refine mcons (ok_iload dX3_emits_35) ?_
  refine mcons (ok_bipush dX3_emits_37 (by decide)) ?_
  refine mcons (ok_cle dX3_emits_39 (by decide)) ?_
  refine mcons (ok_bipush dX3_emits_42 (by decide)) ?_
  refine mcons (ok_sipush dX3_emits_45 (by decide)) ?_
  refine mcons (ok_bipush dX3_emits_48 (by decide)) ?_
  refine mcons (ok_iload_n dX3_emits_50 rfl) ?_
  refine mcons (ok_imul dX3_emits_51) ?_
  refine mcons (ok_iadd dX3_emits_52) ?_
  refine mcons (ok_iload_n dX3_emits_53 rfl) ?_
  refine mcons (ok_iadd dX3_emits_54) ?_
  refine mcons (ok_istore dX3_emits_55 (by decide)) ?_
  refine mcons (ok_aload_n dX3_emits_57 rfl) ?_
  refine mcons (ok_getf 8 dX3_emits_58 rfl mX3 (by decide) wq_181 rfl) ?_
  refine mcons (ok_iload dX3_emits_61) ?_
  refine mcons (ok_iload_n dX3_emits_63 rfl) ?_
  refine mcons (ok_iast dX3_emits_64) ?_
  refine mcons (ok_aload_n dX3_emits_65 rfl) ?_
  refine mcons (ok_getf 8 dX3_emits_66 rfl mX3 (by decide) wq_181 rfl) ?_
  refine mcons (ok_iload dX3_emits_69) ?_
  refine mcons (ok_iconst dX3_emits_71 (by decide)) ?_
  refine mcons (ok_iadd dX3_emits_72) ?_
  refine mcons (ok_iload dX3_emits_73) ?_
  refine mcons (ok_iast dX3_emits_75) ?_
  refine mcons (ok_aload_n dX3_emits_76 rfl) ?_
  refine mcons (ok_getf 8 dX3_emits_77 rfl mX3 (by decide) wq_181 rfl) ?_
  refine mcons (ok_iload dX3_emits_80) ?_
  refine mcons (ok_bipush dX3_emits_82 (by decide)) ?_
  refine mcons (ok_iadd dX3_emits_84) ?_
  refine mcons (ok_iload dX3_emits_85) ?_
  refine mcons (ok_iast dX3_emits_87) ?_
  refine mcons (ok_iconst dX3_emits_88 (by decide)) ?_
  exact mnil
abbrev KX3_emits (l : Launch) (D : va_G) (ca : Nat → ClassId) (ad : Nat → Nat) : List Value → mW → Option Value → mW → Prop := mC l 2 yX3_emits cX3_emits 7 (some .int) D ca ad
def CFX3_emits (l : Launch) (D : va_G) (ca : Nat → ClassId) (ad : Nat → Nat) (G : mS → Prop) : Prop := mCallV G (KX3_isMaking l D ca ad) 2 3 1 ∧ mCallS G (KX3_isStuff l D ca ad) 9 1
theorem PX3_emits {l : Launch} {D : va_G} {ca : Nat → ClassId} {ad : Nat → Nat} {av : List Value} {w : mW} {x : Int32} {w2 : mW} (hlen : (lg_sl av).length ≤ 7) (body : ∀ G : mS → Prop, mTb G tbX3_emits → CFX3_emits l D ca ad G → mRet G (some (.int x)) w2 [17, 44, 89] → G (0, lv_args 0 av, [], w)) : KX3_emits l D ca ad av w (some (.int x)) w2 :=
  mPackI [17, 44, 89] (by decide +kernel) hlen tkX3_emits (fun p e s m args below meth c A Q hX => ⟨mCallV_ok (T := TX3) (N := 18) hX dX3_emits_2 rfl ⟨wq_176, wq_166, wq_175, by decide +kernel, by decide +kernel, by decide +kernel⟩ wq_177 wq_178 (by decide) (by decide), mCallS_ok hX dX3_emits_9 ⟨wq_183, wq_166, wq_182, by decide +kernel, by decide +kernel, by decide +kernel⟩ wq_184 (by decide) (by decide)⟩) (List.forall_mem_cons.mpr ⟨dX3_emits_17, List.forall_mem_cons.mpr ⟨dX3_emits_44, List.forall_mem_cons.mpr ⟨dX3_emits_89, fun _ h => absurd h List.not_mem_nil⟩⟩⟩) body
/-! X3 good -/
def tbX3_good : List (Nat × mR) := [(0, r_aload 1 0), (1, r_iload 2 1), (5, r_ifne 8 11), (8, r_ic 10 (-101)), (11, r_iload 12 2), (12, r_ic 13 1), (13, r_ic 14 5), (17, r_ifeq 20 29), (20, r_iload 21 3), (21, r_ic 22 1), (22, r_ic 23 5), (26, r_ifne 29 32), (29, r_ic 31 (-102)), (32, r_aload 33 0), (33, r_getf 36 3 4), (36, r_ic 38 24), (38, r_iload 39 1), (39, r_ii 40 (fun x y => x + y)), (40, r_iload 41 2), (41, r_iast 42), (42, r_aload 43 0), (43, r_getf 46 3 5), (46, r_ic 48 24), (48, r_iload 49 1), (49, r_ii 50 (fun x y => x + y)), (50, r_iload 51 3), (51, r_iast 52), (52, r_ic 53 1)]
theorem tkX3_good : ∀ q ∈ tbX3_good, mOk cX3_good RX3 4 q.1 q.2 := by
  unfold tbX3_good
  refine mcons (ok_aload_n dX3_good_0 rfl) ?_
  refine mcons (ok_iload_n dX3_good_1 rfl) ?_
  refine mcons (ok_ifne dX3_good_5 (by decide)) ?_
  refine mcons (ok_bipush dX3_good_8 (by decide)) ?_
  refine mcons (ok_iload_n dX3_good_11 rfl) ?_
  refine mcons (ok_iconst dX3_good_12 (by decide)) ?_
  refine mcons (ok_iconst dX3_good_13 (by decide)) ?_
  refine mcons (ok_ifeq dX3_good_17 (by decide)) ?_
  refine mcons (ok_iload_n dX3_good_20 rfl) ?_
  refine mcons (ok_iconst dX3_good_21 (by decide)) ?_
  refine mcons (ok_iconst dX3_good_22 (by decide)) ?_
  refine mcons (ok_ifne dX3_good_26 (by decide)) ?_
  refine mcons (ok_bipush dX3_good_29 (by decide)) ?_
  refine mcons (ok_aload_n dX3_good_32 rfl) ?_
  refine mcons (ok_getf 4 dX3_good_33 rfl mX3 (by decide) wq_173 rfl) ?_
  refine mcons (ok_bipush dX3_good_36 (by decide)) ?_
  refine mcons (ok_iload_n dX3_good_38 rfl) ?_
  refine mcons (ok_iadd dX3_good_39) ?_
  refine mcons (ok_iload_n dX3_good_40 rfl) ?_
  refine mcons (ok_iast dX3_good_41) ?_
  refine mcons (ok_aload_n dX3_good_42 rfl) ?_
  refine mcons (ok_getf 5 dX3_good_43 rfl mX3 (by decide) wq_174 rfl) ?_
  refine mcons (ok_bipush dX3_good_46 (by decide)) ?_
  refine mcons (ok_iload_n dX3_good_48 rfl) ?_
  refine mcons (ok_iadd dX3_good_49) ?_
  refine mcons (ok_iload_n dX3_good_50 rfl) ?_
  refine mcons (ok_iast dX3_good_51) ?_
  refine mcons (ok_iconst dX3_good_52 (by decide)) ?_
  exact mnil
abbrev KX3_good (l : Launch) (D : va_G) (ca : Nat → ClassId) (ad : Nat → Nat) : List Value → mW → Option Value → mW → Prop := mC l 2 yX3_good cX3_good 4 (some .int) D ca ad
def CFX3_good (l : Launch) (D : va_G) (ca : Nat → ClassId) (ad : Nat → Nat) (G : mS → Prop) : Prop := mCallV G (KX3_isMaking l D ca ad) 2 3 1 ∧ mCallS G (KX3_in l D ca ad) 14 3 ∧ mCallS G (KX3_in l D ca ad) 23 3
theorem PX3_good {l : Launch} {D : va_G} {ca : Nat → ClassId} {ad : Nat → Nat} {av : List Value} {w : mW} {x : Int32} {w2 : mW} (hlen : (lg_sl av).length ≤ 4) (body : ∀ G : mS → Prop, mTb G tbX3_good → CFX3_good l D ca ad G → mRet G (some (.int x)) w2 [10, 31, 53] → G (0, lv_args 0 av, [], w)) : KX3_good l D ca ad av w (some (.int x)) w2 :=
  mPackI [10, 31, 53] (by decide +kernel) hlen tkX3_good (fun p e s m args below meth c A Q hX => ⟨mCallV_ok (T := TX3) (N := 18) hX dX3_good_2 rfl ⟨wq_176, wq_166, wq_175, by decide +kernel, by decide +kernel, by decide +kernel⟩ wq_177 wq_178 (by decide) (by decide), mCallS_ok hX dX3_good_14 ⟨wq_168, wq_166, wq_167, by decide +kernel, by decide +kernel, by decide +kernel⟩ wq_169 (by decide) (by decide), mCallS_ok hX dX3_good_23 ⟨wq_168, wq_166, wq_167, by decide +kernel, by decide +kernel, by decide +kernel⟩ wq_169 (by decide) (by decide)⟩) (List.forall_mem_cons.mpr ⟨dX3_good_10, List.forall_mem_cons.mpr ⟨dX3_good_31, List.forall_mem_cons.mpr ⟨dX3_good_53, fun _ h => absurd h List.not_mem_nil⟩⟩⟩) body
/-! X3 rule -/
def tbX3_rule : List (Nat × mR) := [(0, r_aload 1 0), (1, r_iload 2 1), (5, r_ifne 8 11), (8, r_ic 10 (-101)), (11, r_iload 12 2), (12, r_ic 13 0), (13, r_ic 14 2), (17, r_ifne 20 23), (20, r_ic 22 (-102)), (23, r_aload 24 0), (24, r_getf 27 3 3), (27, r_ic 29 24), (29, r_iload 30 1), (30, r_ii 31 (fun x y => x + y)), (31, r_iald 32), (32, r_istore 33 3), (33, r_aload 34 0), (34, r_getf 37 3 3), (37, r_ic 39 24), (39, r_iload 40 1), (40, r_ii 41 (fun x y => x + y)), (41, r_iload 42 2), (42, r_iast 43), (43, r_iload 44 3)]
theorem tkX3_rule : ∀ q ∈ tbX3_rule, mOk cX3_rule RX3 4 q.1 q.2 := by
  unfold tbX3_rule
  refine mcons (ok_aload_n dX3_rule_0 rfl) ?_
  refine mcons (ok_iload_n dX3_rule_1 rfl) ?_
  refine mcons (ok_ifne dX3_rule_5 (by decide)) ?_
  refine mcons (ok_bipush dX3_rule_8 (by decide)) ?_
  refine mcons (ok_iload_n dX3_rule_11 rfl) ?_
  refine mcons (ok_iconst dX3_rule_12 (by decide)) ?_
  refine mcons (ok_iconst dX3_rule_13 (by decide)) ?_
  refine mcons (ok_ifne dX3_rule_17 (by decide)) ?_
  refine mcons (ok_bipush dX3_rule_20 (by decide)) ?_
  refine mcons (ok_aload_n dX3_rule_23 rfl) ?_
  refine mcons (ok_getf 3 dX3_rule_24 rfl mX3 (by decide) wq_172 rfl) ?_
  refine mcons (ok_bipush dX3_rule_27 (by decide)) ?_
  refine mcons (ok_iload_n dX3_rule_29 rfl) ?_
  refine mcons (ok_iadd dX3_rule_30) ?_
  refine mcons (ok_iald dX3_rule_31) ?_
  refine mcons (ok_istore_n dX3_rule_32 rfl (by decide)) ?_
  refine mcons (ok_aload_n dX3_rule_33 rfl) ?_
  refine mcons (ok_getf 3 dX3_rule_34 rfl mX3 (by decide) wq_172 rfl) ?_
  refine mcons (ok_bipush dX3_rule_37 (by decide)) ?_
  refine mcons (ok_iload_n dX3_rule_39 rfl) ?_
  refine mcons (ok_iadd dX3_rule_40) ?_
  refine mcons (ok_iload_n dX3_rule_41 rfl) ?_
  refine mcons (ok_iast dX3_rule_42) ?_
  refine mcons (ok_iload_n dX3_rule_43 rfl) ?_
  exact mnil
abbrev KX3_rule (l : Launch) (D : va_G) (ca : Nat → ClassId) (ad : Nat → Nat) : List Value → mW → Option Value → mW → Prop := mC l 2 yX3_rule cX3_rule 4 (some .int) D ca ad
def CFX3_rule (l : Launch) (D : va_G) (ca : Nat → ClassId) (ad : Nat → Nat) (G : mS → Prop) : Prop := mCallV G (KX3_isMaking l D ca ad) 2 3 1 ∧ mCallS G (KX3_in l D ca ad) 14 3
theorem PX3_rule {l : Launch} {D : va_G} {ca : Nat → ClassId} {ad : Nat → Nat} {av : List Value} {w : mW} {x : Int32} {w2 : mW} (hlen : (lg_sl av).length ≤ 4) (body : ∀ G : mS → Prop, mTb G tbX3_rule → CFX3_rule l D ca ad G → mRet G (some (.int x)) w2 [10, 22, 44] → G (0, lv_args 0 av, [], w)) : KX3_rule l D ca ad av w (some (.int x)) w2 :=
  mPackI [10, 22, 44] (by decide +kernel) hlen tkX3_rule (fun p e s m args below meth c A Q hX => ⟨mCallV_ok (T := TX3) (N := 18) hX dX3_rule_2 rfl ⟨wq_176, wq_166, wq_175, by decide +kernel, by decide +kernel, by decide +kernel⟩ wq_177 wq_178 (by decide) (by decide), mCallS_ok hX dX3_rule_14 ⟨wq_168, wq_166, wq_167, by decide +kernel, by decide +kernel, by decide +kernel⟩ wq_169 (by decide) (by decide)⟩) (List.forall_mem_cons.mpr ⟨dX3_rule_10, List.forall_mem_cons.mpr ⟨dX3_rule_22, List.forall_mem_cons.mpr ⟨dX3_rule_44, fun _ h => absurd h List.not_mem_nil⟩⟩⟩) body
/-! X3 value -/
def tbX3_value : List (Nat × mR) := [(0, r_iload 1 3), (1, r_ifne 4 17), (4, r_aload 5 0), (5, r_getf 8 3 4), (8, r_ic 9 4), (9, r_iload 10 1), (10, r_ii 11 (fun x y => x * y)), (11, r_iload 12 2), (12, r_ii 13 (fun x y => x + y)), (13, r_iald 14), (14, r_goto 27), (17, r_aload 18 0), (18, r_getf 21 3 5), (21, r_ic 22 4), (22, r_iload 23 1), (23, r_ii 24 (fun x y => x * y)), (24, r_iload 25 2), (25, r_ii 26 (fun x y => x + y)), (26, r_iald 27)]
theorem tkX3_value : ∀ q ∈ tbX3_value, mOk cX3_value RX3 4 q.1 q.2 := by
  unfold tbX3_value
  refine mcons (ok_iload_n dX3_value_0 rfl) ?_
  refine mcons (ok_ifne dX3_value_1 (by decide)) ?_
  refine mcons (ok_aload_n dX3_value_4 rfl) ?_
  refine mcons (ok_getf 4 dX3_value_5 rfl mX3 (by decide) wq_173 rfl) ?_
  refine mcons (ok_iconst dX3_value_8 (by decide)) ?_
  refine mcons (ok_iload_n dX3_value_9 rfl) ?_
  refine mcons (ok_imul dX3_value_10) ?_
  refine mcons (ok_iload_n dX3_value_11 rfl) ?_
  refine mcons (ok_iadd dX3_value_12) ?_
  refine mcons (ok_iald dX3_value_13) ?_
  refine mcons (ok_goto dX3_value_14 (by decide)) ?_
  refine mcons (ok_aload_n dX3_value_17 rfl) ?_
  refine mcons (ok_getf 5 dX3_value_18 rfl mX3 (by decide) wq_174 rfl) ?_
  refine mcons (ok_iconst dX3_value_21 (by decide)) ?_
  refine mcons (ok_iload_n dX3_value_22 rfl) ?_
  refine mcons (ok_imul dX3_value_23) ?_
  refine mcons (ok_iload_n dX3_value_24 rfl) ?_
  refine mcons (ok_iadd dX3_value_25) ?_
  refine mcons (ok_iald dX3_value_26) ?_
  exact mnil
abbrev KX3_value (l : Launch) (D : va_G) (ca : Nat → ClassId) (ad : Nat → Nat) : List Value → mW → Option Value → mW → Prop := mC l 0 yX3_value cX3_value 4 (some .int) D ca ad
def CFX3_value (l : Launch) (D : va_G) (ca : Nat → ClassId) (ad : Nat → Nat) (G : mS → Prop) : Prop := True
theorem PX3_value {l : Launch} {D : va_G} {ca : Nat → ClassId} {ad : Nat → Nat} {av : List Value} {w : mW} {x : Int32} {w2 : mW} (hlen : (lg_sl av).length ≤ 4) (body : ∀ G : mS → Prop, mTb G tbX3_value → CFX3_value l D ca ad G → mRet G (some (.int x)) w2 [27] → G (0, lv_args 0 av, [], w)) : KX3_value l D ca ad av w (some (.int x)) w2 :=
  mPackI [27] (by decide +kernel) hlen tkX3_value (fun p e s m args below meth c A Q hX => trivial) (List.forall_mem_cons.mpr ⟨dX3_value_27, fun _ h => absurd h List.not_mem_nil⟩) body
/-! X3 mainOf -/
def tbX3_mainOf : List (Nat × mR) := [(0, r_aload 1 0), (1, r_getf 4 3 3), (4, r_ic 5 4), (5, r_iload 6 1), (6, r_ii 7 (fun x y => x * y)), (7, r_iload 8 2), (8, r_ii 9 (fun x y => x + y)), (9, r_iald 10), (10, r_istore 11 3), (11, r_iload 12 3), (12, r_ic 13 2), (13, r_cne 16 20), (16, r_ic 17 1), (17, r_goto 38), (20, r_aload 21 0), (21, r_getf 24 3 2), (24, r_ic 25 4), (25, r_iload 26 1), (26, r_ii 27 (fun x y => x * y)), (27, r_iload 28 2), (28, r_ii 29 (fun x y => x + y)), (29, r_iald 30), (30, r_aload 31 0), (31, r_iload 32 1), (32, r_iload 33 2), (33, r_iload 34 3), (37, r_ii 38 (fun x y => x * y))]
theorem tkX3_mainOf : ∀ q ∈ tbX3_mainOf, mOk cX3_mainOf RX3 4 q.1 q.2 := by
  unfold tbX3_mainOf
  refine mcons (ok_aload_n dX3_mainOf_0 rfl) ?_
  refine mcons (ok_getf 3 dX3_mainOf_1 rfl mX3 (by decide) wq_172 rfl) ?_
  refine mcons (ok_iconst dX3_mainOf_4 (by decide)) ?_
  refine mcons (ok_iload_n dX3_mainOf_5 rfl) ?_
  refine mcons (ok_imul dX3_mainOf_6) ?_
  refine mcons (ok_iload_n dX3_mainOf_7 rfl) ?_
  refine mcons (ok_iadd dX3_mainOf_8) ?_
  refine mcons (ok_iald dX3_mainOf_9) ?_
  refine mcons (ok_istore_n dX3_mainOf_10 rfl (by decide)) ?_
  refine mcons (ok_iload_n dX3_mainOf_11 rfl) ?_
  refine mcons (ok_iconst dX3_mainOf_12 (by decide)) ?_
  refine mcons (ok_cne dX3_mainOf_13 (by decide)) ?_
  refine mcons (ok_iconst dX3_mainOf_16 (by decide)) ?_
  refine mcons (ok_goto dX3_mainOf_17 (by decide)) ?_
  refine mcons (ok_aload_n dX3_mainOf_20 rfl) ?_
  refine mcons (ok_getf 2 dX3_mainOf_21 rfl mX3 (by decide) wq_171 rfl) ?_
  refine mcons (ok_iconst dX3_mainOf_24 (by decide)) ?_
  refine mcons (ok_iload_n dX3_mainOf_25 rfl) ?_
  refine mcons (ok_imul dX3_mainOf_26) ?_
  refine mcons (ok_iload_n dX3_mainOf_27 rfl) ?_
  refine mcons (ok_iadd dX3_mainOf_28) ?_
  refine mcons (ok_iald dX3_mainOf_29) ?_
  refine mcons (ok_aload_n dX3_mainOf_30 rfl) ?_
  refine mcons (ok_iload_n dX3_mainOf_31 rfl) ?_
  refine mcons (ok_iload_n dX3_mainOf_32 rfl) ?_
  refine mcons (ok_iload_n dX3_mainOf_33 rfl) ?_
  refine mcons (ok_imul dX3_mainOf_37) ?_
  exact mnil
abbrev KX3_mainOf (l : Launch) (D : va_G) (ca : Nat → ClassId) (ad : Nat → Nat) : List Value → mW → Option Value → mW → Prop := mC l 1 yX3_mainOf cX3_mainOf 4 (some .int) D ca ad
def CFX3_mainOf (l : Launch) (D : va_G) (ca : Nat → ClassId) (ad : Nat → Nat) (G : mS → Prop) : Prop := mCallV G (KX3_value l D ca ad) 34 3 3
theorem PX3_mainOf {l : Launch} {D : va_G} {ca : Nat → ClassId} {ad : Nat → Nat} {av : List Value} {w : mW} {x : Int32} {w2 : mW} (hlen : (lg_sl av).length ≤ 4) (body : ∀ G : mS → Prop, mTb G tbX3_mainOf → CFX3_mainOf l D ca ad G → mRet G (some (.int x)) w2 [38] → G (0, lv_args 0 av, [], w)) : KX3_mainOf l D ca ad av w (some (.int x)) w2 :=
  mPackI [38] (by decide +kernel) hlen tkX3_mainOf (fun p e s m args below meth c A Q hX => mCallV_ok (T := TX3) (N := 18) hX dX3_mainOf_34 rfl ⟨wq_186, wq_166, wq_185, by decide +kernel, by decide +kernel, by decide +kernel⟩ wq_187 wq_188 (by decide) (by decide)) (List.forall_mem_cons.mpr ⟨dX3_mainOf_38, fun _ h => absurd h List.not_mem_nil⟩) body
/-! X3 allOf -/
def tbX3_allOf : List (Nat × mR) := [(0, r_aload 1 0), (1, r_getf 4 3 3), (4, r_ic 5 4), (5, r_iload 6 1), (6, r_ii 7 (fun x y => x * y)), (7, r_iload 8 2), (8, r_ii 9 (fun x y => x + y)), (9, r_iald 10), (10, r_istore 11 3), (11, r_aload 12 0), (12, r_iload 13 1), (13, r_iload 14 2), (17, r_istore 19 4), (19, r_ic 20 0), (20, r_istore 22 5), (22, r_iload 24 5), (24, r_aload 25 0), (25, r_getf 28 3 0), (28, r_cge 31 72), (31, r_iload 32 3), (32, r_ic 33 2), (33, r_cge 36 72), (36, r_iload 38 4), (38, r_aload 39 0), (39, r_getf 42 3 7), (42, r_ic 44 16), (44, r_iload 45 1), (45, r_ii 46 (fun x y => x * y)), (46, r_ic 47 4), (47, r_iload 48 2), (48, r_ii 49 (fun x y => x * y)), (49, r_ii 50 (fun x y => x + y)), (50, r_iload 52 5), (52, r_ii 53 (fun x y => x + y)), (53, r_iald 54), (54, r_aload 55 0), (55, r_iload 56 1), (56, r_iload 58 5), (58, r_iload 59 3), (62, r_ii 63 (fun x y => x * y)), (63, r_ii 64 (fun x y => x + y)), (64, r_istore 66 4), (66, r_iinc 69 5 1), (69, r_goto 22), (72, r_iload 74 4)]
theorem tkX3_allOf : ∀ q ∈ tbX3_allOf, mOk cX3_allOf RX3 6 q.1 q.2 := by
  unfold tbX3_allOf
  refine mcons (ok_aload_n dX3_allOf_0 rfl) ?_
  refine mcons (ok_getf 3 dX3_allOf_1 rfl mX3 (by decide) wq_172 rfl) ?_
  refine mcons (ok_iconst dX3_allOf_4 (by decide)) ?_
  refine mcons (ok_iload_n dX3_allOf_5 rfl) ?_
  refine mcons (ok_imul dX3_allOf_6) ?_
  refine mcons (ok_iload_n dX3_allOf_7 rfl) ?_
  refine mcons (ok_iadd dX3_allOf_8) ?_
  refine mcons (ok_iald dX3_allOf_9) ?_
  refine mcons (ok_istore_n dX3_allOf_10 rfl (by decide)) ?_
  refine mcons (ok_aload_n dX3_allOf_11 rfl) ?_
  refine mcons (ok_iload_n dX3_allOf_12 rfl) ?_
  refine mcons (ok_iload_n dX3_allOf_13 rfl) ?_
  refine mcons (ok_istore dX3_allOf_17 (by decide)) ?_
  refine mcons (ok_iconst dX3_allOf_19 (by decide)) ?_
  refine mcons (ok_istore dX3_allOf_20 (by decide)) ?_
  refine mcons (ok_iload dX3_allOf_22) ?_
  refine mcons (ok_aload_n dX3_allOf_24 rfl) ?_
  refine mcons (ok_getf 0 dX3_allOf_25 rfl mX3 (by decide) wq_165 rfl) ?_
  refine mcons (ok_cge dX3_allOf_28 (by decide)) ?_
  refine mcons (ok_iload_n dX3_allOf_31 rfl) ?_
  refine mcons (ok_iconst dX3_allOf_32 (by decide)) ?_
  refine mcons (ok_cge dX3_allOf_33 (by decide)) ?_
  refine mcons (ok_iload dX3_allOf_36) ?_
  refine mcons (ok_aload_n dX3_allOf_38 rfl) ?_
  refine mcons (ok_getf 7 dX3_allOf_39 rfl mX3 (by decide) wq_180 rfl) ?_
  refine mcons (ok_bipush dX3_allOf_42 (by decide)) ?_
  refine mcons (ok_iload_n dX3_allOf_44 rfl) ?_
  refine mcons (ok_imul dX3_allOf_45) ?_
  refine mcons (ok_iconst dX3_allOf_46 (by decide)) ?_
  refine mcons (ok_iload_n dX3_allOf_47 rfl) ?_
  refine mcons (ok_imul dX3_allOf_48) ?_
  refine mcons (ok_iadd dX3_allOf_49) ?_
  refine mcons (ok_iload dX3_allOf_50) ?_
  refine mcons (ok_iadd dX3_allOf_52) ?_
  refine mcons (ok_iald dX3_allOf_53) ?_
  refine mcons (ok_aload_n dX3_allOf_54 rfl) ?_
  refine mcons (ok_iload_n dX3_allOf_55 rfl) ?_
  refine mcons (ok_iload dX3_allOf_56) ?_
  refine mcons (ok_iload_n dX3_allOf_58 rfl) ?_
  refine mcons (ok_imul dX3_allOf_62) ?_
  refine mcons (ok_iadd dX3_allOf_63) ?_
  refine mcons (ok_istore dX3_allOf_64 (by decide)) ?_
  refine mcons (ok_iinc dX3_allOf_66 (by decide) (by decide)) ?_
  refine mcons (ok_goto dX3_allOf_69 (by decide)) ?_
  refine mcons (ok_iload dX3_allOf_72) ?_
  exact mnil
abbrev KX3_allOf (l : Launch) (D : va_G) (ca : Nat → ClassId) (ad : Nat → Nat) : List Value → mW → Option Value → mW → Prop := mC l 2 yX3_allOf cX3_allOf 6 (some .int) D ca ad
def CFX3_allOf (l : Launch) (D : va_G) (ca : Nat → ClassId) (ad : Nat → Nat) (G : mS → Prop) : Prop := mCallV G (KX3_mainOf l D ca ad) 14 3 2 ∧ mCallV G (KX3_value l D ca ad) 59 3 3
theorem PX3_allOf {l : Launch} {D : va_G} {ca : Nat → ClassId} {ad : Nat → Nat} {av : List Value} {w : mW} {x : Int32} {w2 : mW} (hlen : (lg_sl av).length ≤ 6) (body : ∀ G : mS → Prop, mTb G tbX3_allOf → CFX3_allOf l D ca ad G → mRet G (some (.int x)) w2 [74] → G (0, lv_args 0 av, [], w)) : KX3_allOf l D ca ad av w (some (.int x)) w2 :=
  mPackI [74] (by decide +kernel) hlen tkX3_allOf (fun p e s m args below meth c A Q hX => ⟨mCallV_ok (T := TX3) (N := 18) hX dX3_allOf_14 rfl ⟨wq_190, wq_166, wq_189, by decide +kernel, by decide +kernel, by decide +kernel⟩ wq_191 wq_192 (by decide) (by decide), mCallV_ok (T := TX3) (N := 18) hX dX3_allOf_59 rfl ⟨wq_186, wq_166, wq_185, by decide +kernel, by decide +kernel, by decide +kernel⟩ wq_187 wq_188 (by decide) (by decide)⟩) (List.forall_mem_cons.mpr ⟨dX3_allOf_74, fun _ h => absurd h List.not_mem_nil⟩) body
/-! X3 toldOf -/
def tbX3_toldOf : List (Nat × mR) := [(0, r_iload 1 2), (1, r_lsw 1 115 [(0, 59), (1, 69), (2, 79), (3, 87), (21, 95), (22, 105)]), (60, r_aload 61 0), (61, r_getf 64 3 2), (64, r_ic 66 24), (66, r_iload 67 1), (67, r_ii 68 (fun x y => x + y)), (68, r_iald 69), (70, r_aload 71 0), (71, r_getf 74 3 3), (74, r_ic 76 24), (76, r_iload 77 1), (77, r_ii 78 (fun x y => x + y)), (78, r_iald 79), (80, r_aload 81 0), (81, r_ic 83 6), (83, r_iload 84 1), (88, r_aload 89 0), (89, r_ic 91 6), (91, r_iload 92 1), (96, r_aload 97 0), (97, r_getf 100 3 4), (100, r_ic 102 24), (102, r_iload 103 1), (103, r_ii 104 (fun x y => x + y)), (104, r_iald 105), (106, r_aload 107 0), (107, r_getf 110 3 5), (110, r_ic 112 24), (112, r_iload 113 1), (113, r_ii 114 (fun x y => x + y)), (114, r_iald 115), (116, r_iload 117 2), (117, r_ic 119 8), (119, r_cge 122 140), (122, r_aload 123 0), (123, r_getf 126 3 6), (126, r_ic 128 96), (128, r_ic 129 4), (129, r_iload 130 1), (130, r_ii 131 (fun x y => x * y)), (131, r_ii 132 (fun x y => x + y)), (132, r_iload 133 2), (133, r_ii 134 (fun x y => x + y)), (134, r_ic 135 4), (135, r_ii 136 (fun x y => x - y)), (136, r_iald 137), (137, r_goto 183), (140, r_iload 141 2), (141, r_ic 143 12), (143, r_cge 146 165), (146, r_aload 147 0), (147, r_getf 150 3 7), (150, r_ic 152 96), (152, r_ic 153 4), (153, r_iload 154 1), (154, r_ii 155 (fun x y => x * y)), (155, r_ii 156 (fun x y => x + y)), (156, r_iload 157 2), (157, r_ii 158 (fun x y => x + y)), (158, r_ic 160 8), (160, r_ii 161 (fun x y => x - y)), (161, r_iald 162), (162, r_goto 183), (165, r_aload 166 0), (166, r_getf 169 3 8), (169, r_ic 172 216), (172, r_ic 174 9), (174, r_iload 175 1), (175, r_ii 176 (fun x y => x * y)), (176, r_ii 177 (fun x y => x + y)), (177, r_iload 178 2), (178, r_ii 179 (fun x y => x + y)), (179, r_ic 181 12), (181, r_ii 182 (fun x y => x - y)), (182, r_iald 183)]
theorem tkX3_toldOf : ∀ q ∈ tbX3_toldOf, mOk cX3_toldOf RX3 3 q.1 q.2 := by
  unfold tbX3_toldOf
  refine mcons (ok_iload_n dX3_toldOf_0 rfl) ?_
  refine mcons (ok_lsw dX3_toldOf_1 (by decide)) ?_
  refine mcons (ok_aload_n dX3_toldOf_60 rfl) ?_
  refine mcons (ok_getf 2 dX3_toldOf_61 rfl mX3 (by decide) wq_171 rfl) ?_
  refine mcons (ok_bipush dX3_toldOf_64 (by decide)) ?_
  refine mcons (ok_iload_n dX3_toldOf_66 rfl) ?_
  refine mcons (ok_iadd dX3_toldOf_67) ?_
  refine mcons (ok_iald dX3_toldOf_68) ?_
  refine mcons (ok_aload_n dX3_toldOf_70 rfl) ?_
  refine mcons (ok_getf 3 dX3_toldOf_71 rfl mX3 (by decide) wq_172 rfl) ?_
  refine mcons (ok_bipush dX3_toldOf_74 (by decide)) ?_
  refine mcons (ok_iload_n dX3_toldOf_76 rfl) ?_
  refine mcons (ok_iadd dX3_toldOf_77) ?_
  refine mcons (ok_iald dX3_toldOf_78) ?_
  refine mcons (ok_aload_n dX3_toldOf_80 rfl) ?_
  refine mcons (ok_bipush dX3_toldOf_81 (by decide)) ?_
  refine mcons (ok_iload_n dX3_toldOf_83 rfl) ?_
  refine mcons (ok_aload_n dX3_toldOf_88 rfl) ?_
  refine mcons (ok_bipush dX3_toldOf_89 (by decide)) ?_
  refine mcons (ok_iload_n dX3_toldOf_91 rfl) ?_
  refine mcons (ok_aload_n dX3_toldOf_96 rfl) ?_
  refine mcons (ok_getf 4 dX3_toldOf_97 rfl mX3 (by decide) wq_173 rfl) ?_
  refine mcons (ok_bipush dX3_toldOf_100 (by decide)) ?_
  refine mcons (ok_iload_n dX3_toldOf_102 rfl) ?_
  refine mcons (ok_iadd dX3_toldOf_103) ?_
  refine mcons (ok_iald dX3_toldOf_104) ?_
  refine mcons (ok_aload_n dX3_toldOf_106 rfl) ?_
  refine mcons (ok_getf 5 dX3_toldOf_107 rfl mX3 (by decide) wq_174 rfl) ?_
  refine mcons (ok_bipush dX3_toldOf_110 (by decide)) ?_
  refine mcons (ok_iload_n dX3_toldOf_112 rfl) ?_
  refine mcons (ok_iadd dX3_toldOf_113) ?_
  refine mcons (ok_iald dX3_toldOf_114) ?_
  refine mcons (ok_iload_n dX3_toldOf_116 rfl) ?_
  refine mcons (ok_bipush dX3_toldOf_117 (by decide)) ?_
  refine mcons (ok_cge dX3_toldOf_119 (by decide)) ?_
  refine mcons (ok_aload_n dX3_toldOf_122 rfl) ?_
  refine mcons (ok_getf 6 dX3_toldOf_123 rfl mX3 (by decide) wq_179 rfl) ?_
  refine mcons (ok_bipush dX3_toldOf_126 (by decide)) ?_
  refine mcons (ok_iconst dX3_toldOf_128 (by decide)) ?_
  refine mcons (ok_iload_n dX3_toldOf_129 rfl) ?_
  refine mcons (ok_imul dX3_toldOf_130) ?_
  refine mcons (ok_iadd dX3_toldOf_131) ?_
  refine mcons (ok_iload_n dX3_toldOf_132 rfl) ?_
  refine mcons (ok_iadd dX3_toldOf_133) ?_
  refine mcons (ok_iconst dX3_toldOf_134 (by decide)) ?_
  refine mcons (ok_isub dX3_toldOf_135) ?_
  refine mcons (ok_iald dX3_toldOf_136) ?_
  refine mcons (ok_goto dX3_toldOf_137 (by decide)) ?_
  refine mcons (ok_iload_n dX3_toldOf_140 rfl) ?_
  refine mcons (ok_bipush dX3_toldOf_141 (by decide)) ?_
  refine mcons (ok_cge dX3_toldOf_143 (by decide)) ?_
  refine mcons (ok_aload_n dX3_toldOf_146 rfl) ?_
  refine mcons (ok_getf 7 dX3_toldOf_147 rfl mX3 (by decide) wq_180 rfl) ?_
  refine mcons (ok_bipush dX3_toldOf_150 (by decide)) ?_
  refine mcons (ok_iconst dX3_toldOf_152 (by decide)) ?_
  refine mcons (ok_iload_n dX3_toldOf_153 rfl) ?_
  refine mcons (ok_imul dX3_toldOf_154) ?_
  refine mcons (ok_iadd dX3_toldOf_155) ?_
  refine mcons (ok_iload_n dX3_toldOf_156 rfl) ?_
  refine mcons (ok_iadd dX3_toldOf_157) ?_
  refine mcons (ok_bipush dX3_toldOf_158 (by decide)) ?_
  refine mcons (ok_isub dX3_toldOf_160) ?_
  refine mcons (ok_iald dX3_toldOf_161) ?_
  refine mcons (ok_goto dX3_toldOf_162 (by decide)) ?_
  refine mcons (ok_aload_n dX3_toldOf_165 rfl) ?_
  refine mcons (ok_getf 8 dX3_toldOf_166 rfl mX3 (by decide) wq_181 rfl) ?_
  refine mcons (ok_sipush dX3_toldOf_169 (by decide)) ?_
  refine mcons (ok_bipush dX3_toldOf_172 (by decide)) ?_
  refine mcons (ok_iload_n dX3_toldOf_174 rfl) ?_
  refine mcons (ok_imul dX3_toldOf_175) ?_
  refine mcons (ok_iadd dX3_toldOf_176) ?_
  refine mcons (ok_iload_n dX3_toldOf_177 rfl) ?_
  refine mcons (ok_iadd dX3_toldOf_178) ?_
  refine mcons (ok_bipush dX3_toldOf_179 (by decide)) ?_
  refine mcons (ok_isub dX3_toldOf_181) ?_
  refine mcons (ok_iald dX3_toldOf_182) ?_
  exact mnil
abbrev KX3_toldOf (l : Launch) (D : va_G) (ca : Nat → ClassId) (ad : Nat → Nat) : List Value → mW → Option Value → mW → Prop := mC l 3 yX3_toldOf cX3_toldOf 3 (some .int) D ca ad
def CFX3_toldOf (l : Launch) (D : va_G) (ca : Nat → ClassId) (ad : Nat → Nat) (G : mS → Prop) : Prop := mCallV G (KX3_mainOf l D ca ad) 84 3 2 ∧ mCallV G (KX3_allOf l D ca ad) 92 3 2
theorem PX3_toldOf {l : Launch} {D : va_G} {ca : Nat → ClassId} {ad : Nat → Nat} {av : List Value} {w : mW} {x : Int32} {w2 : mW} (hlen : (lg_sl av).length ≤ 3) (body : ∀ G : mS → Prop, mTb G tbX3_toldOf → CFX3_toldOf l D ca ad G → mRet G (some (.int x)) w2 [69, 79, 87, 95, 105, 115, 183] → G (0, lv_args 0 av, [], w)) : KX3_toldOf l D ca ad av w (some (.int x)) w2 :=
  mPackI [69, 79, 87, 95, 105, 115, 183] (by decide +kernel) hlen tkX3_toldOf (fun p e s m args below meth c A Q hX => ⟨mCallV_ok (T := TX3) (N := 18) hX dX3_toldOf_84 rfl ⟨wq_190, wq_166, wq_189, by decide +kernel, by decide +kernel, by decide +kernel⟩ wq_191 wq_192 (by decide) (by decide), mCallV_ok (T := TX3) (N := 18) hX dX3_toldOf_92 rfl ⟨wq_194, wq_166, wq_193, by decide +kernel, by decide +kernel, by decide +kernel⟩ wq_195 wq_196 (by decide) (by decide)⟩) (List.forall_mem_cons.mpr ⟨dX3_toldOf_69, List.forall_mem_cons.mpr ⟨dX3_toldOf_79, List.forall_mem_cons.mpr ⟨dX3_toldOf_87, List.forall_mem_cons.mpr ⟨dX3_toldOf_95, List.forall_mem_cons.mpr ⟨dX3_toldOf_105, List.forall_mem_cons.mpr ⟨dX3_toldOf_115, List.forall_mem_cons.mpr ⟨dX3_toldOf_183, fun _ h => absurd h List.not_mem_nil⟩⟩⟩⟩⟩⟩⟩) body
/-! X3 told -/
def tbX3_told : List (Nat × mR) := [(0, r_aload 1 0), (1, r_iload 2 1), (5, r_ifne 8 11), (8, r_ic 10 (-101)), (11, r_iload 12 2), (12, r_ic 13 0), (13, r_ic 15 22), (18, r_ifeq 21 30), (21, r_aload 22 0), (22, r_iload 23 1), (23, r_iload 24 2), (27, r_goto 32), (30, r_ic 32 (-102))]
theorem tkX3_told : ∀ q ∈ tbX3_told, mOk cX3_told RX3 3 q.1 q.2 := by
  unfold tbX3_told
  refine mcons (ok_aload_n dX3_told_0 rfl) ?_
  refine mcons (ok_iload_n dX3_told_1 rfl) ?_
  refine mcons (ok_ifne dX3_told_5 (by decide)) ?_
  refine mcons (ok_bipush dX3_told_8 (by decide)) ?_
  refine mcons (ok_iload_n dX3_told_11 rfl) ?_
  refine mcons (ok_iconst dX3_told_12 (by decide)) ?_
  refine mcons (ok_bipush dX3_told_13 (by decide)) ?_
  refine mcons (ok_ifeq dX3_told_18 (by decide)) ?_
  refine mcons (ok_aload_n dX3_told_21 rfl) ?_
  refine mcons (ok_iload_n dX3_told_22 rfl) ?_
  refine mcons (ok_iload_n dX3_told_23 rfl) ?_
  refine mcons (ok_goto dX3_told_27 (by decide)) ?_
  refine mcons (ok_bipush dX3_told_30 (by decide)) ?_
  exact mnil
abbrev KX3_told (l : Launch) (D : va_G) (ca : Nat → ClassId) (ad : Nat → Nat) : List Value → mW → Option Value → mW → Prop := mC l 4 yX3_told cX3_told 3 (some .int) D ca ad
def CFX3_told (l : Launch) (D : va_G) (ca : Nat → ClassId) (ad : Nat → Nat) (G : mS → Prop) : Prop := mCallV G (KX3_isMaking l D ca ad) 2 3 1 ∧ mCallS G (KX3_in l D ca ad) 15 3 ∧ mCallV G (KX3_toldOf l D ca ad) 24 3 2
theorem PX3_told {l : Launch} {D : va_G} {ca : Nat → ClassId} {ad : Nat → Nat} {av : List Value} {w : mW} {x : Int32} {w2 : mW} (hlen : (lg_sl av).length ≤ 3) (body : ∀ G : mS → Prop, mTb G tbX3_told → CFX3_told l D ca ad G → mRet G (some (.int x)) w2 [10, 32] → G (0, lv_args 0 av, [], w)) : KX3_told l D ca ad av w (some (.int x)) w2 :=
  mPackI [10, 32] (by decide +kernel) hlen tkX3_told (fun p e s m args below meth c A Q hX => ⟨mCallV_ok (T := TX3) (N := 18) hX dX3_told_2 rfl ⟨wq_176, wq_166, wq_175, by decide +kernel, by decide +kernel, by decide +kernel⟩ wq_177 wq_178 (by decide) (by decide), mCallS_ok hX dX3_told_15 ⟨wq_168, wq_166, wq_167, by decide +kernel, by decide +kernel, by decide +kernel⟩ wq_169 (by decide) (by decide), mCallV_ok (T := TX3) (N := 18) hX dX3_told_24 rfl ⟨wq_198, wq_166, wq_197, by decide +kernel, by decide +kernel, by decide +kernel⟩ wq_199 wq_200 (by decide) (by decide)⟩) (List.forall_mem_cons.mpr ⟨dX3_told_10, List.forall_mem_cons.mpr ⟨dX3_told_32, fun _ h => absurd h List.not_mem_nil⟩⟩) body
/-! X3 entryOf -/
def tbX3_entryOf : List (Nat × mR) := [(0, r_aload 1 0), (1, r_getf 4 3 6), (4, r_ic 6 16), (6, r_iload 7 1), (7, r_ii 8 (fun x y => x * y)), (8, r_ic 9 4), (9, r_iload 10 3), (10, r_ii 11 (fun x y => x * y)), (11, r_ii 12 (fun x y => x + y)), (12, r_iload 13 2), (13, r_ii 14 (fun x y => x + y)), (14, r_iald 15), (15, r_istore 17 4), (17, r_iload 18 2), (18, r_iload 19 3), (19, r_cne 22 35), (22, r_aload 23 0), (23, r_getf 26 3 2), (26, r_ic 27 4), (27, r_iload 28 1), (28, r_ii 29 (fun x y => x * y)), (29, r_iload 30 3), (30, r_ii 31 (fun x y => x + y)), (31, r_iald 32), (32, r_goto 36), (35, r_ic 36 0), (36, r_istore 38 5), (38, r_aload 39 0), (39, r_getf 42 3 3), (42, r_ic 43 4), (43, r_iload 44 1), (44, r_ii 45 (fun x y => x * y)), (45, r_iload 46 3), (46, r_ii 47 (fun x y => x + y)), (47, r_iald 48), (48, r_ic 49 2), (49, r_cne 52 74), (52, r_iload 54 5), (54, r_aload 55 0), (55, r_getf 58 3 7), (58, r_ic 60 16), (60, r_iload 61 1), (61, r_ii 62 (fun x y => x * y)), (62, r_ic 63 4), (63, r_iload 64 3), (64, r_ii 65 (fun x y => x * y)), (65, r_ii 66 (fun x y => x + y)), (66, r_iload 67 2), (67, r_ii 68 (fun x y => x + y)), (68, r_iald 69), (69, r_ii 70 (fun x y => x + y)), (70, r_iload 72 4), (72, r_ii 73 (fun x y => x - y)), (74, r_iload 76 5), (76, r_aload 77 0), (77, r_iload 78 1), (78, r_iload 79 3), (82, r_ii 83 (fun x y => x * y)), (83, r_iload 85 4), (85, r_aload 86 0), (86, r_iload 87 1), (87, r_iload 88 3), (91, r_ii 92 (fun x y => x * y)), (92, r_ii 93 (fun x y => x - y))]
theorem tkX3_entryOf : ∀ q ∈ tbX3_entryOf, mOk cX3_entryOf RX3 6 q.1 q.2 := by
  unfold tbX3_entryOf
  refine mcons (ok_aload_n dX3_entryOf_0 rfl) ?_
  refine mcons (ok_getf 6 dX3_entryOf_1 rfl mX3 (by decide) wq_179 rfl) ?_
  refine mcons (ok_bipush dX3_entryOf_4 (by decide)) ?_
  refine mcons (ok_iload_n dX3_entryOf_6 rfl) ?_
  refine mcons (ok_imul dX3_entryOf_7) ?_
  refine mcons (ok_iconst dX3_entryOf_8 (by decide)) ?_
  refine mcons (ok_iload_n dX3_entryOf_9 rfl) ?_
  refine mcons (ok_imul dX3_entryOf_10) ?_
  refine mcons (ok_iadd dX3_entryOf_11) ?_
  refine mcons (ok_iload_n dX3_entryOf_12 rfl) ?_
  refine mcons (ok_iadd dX3_entryOf_13) ?_
  refine mcons (ok_iald dX3_entryOf_14) ?_
  refine mcons (ok_istore dX3_entryOf_15 (by decide)) ?_
  refine mcons (ok_iload_n dX3_entryOf_17 rfl) ?_
  refine mcons (ok_iload_n dX3_entryOf_18 rfl) ?_
  refine mcons (ok_cne dX3_entryOf_19 (by decide)) ?_
  refine mcons (ok_aload_n dX3_entryOf_22 rfl) ?_
  refine mcons (ok_getf 2 dX3_entryOf_23 rfl mX3 (by decide) wq_171 rfl) ?_
  refine mcons (ok_iconst dX3_entryOf_26 (by decide)) ?_
  refine mcons (ok_iload_n dX3_entryOf_27 rfl) ?_
  refine mcons (ok_imul dX3_entryOf_28) ?_
  refine mcons (ok_iload_n dX3_entryOf_29 rfl) ?_
  refine mcons (ok_iadd dX3_entryOf_30) ?_
  refine mcons (ok_iald dX3_entryOf_31) ?_
  refine mcons (ok_goto dX3_entryOf_32 (by decide)) ?_
  refine mcons (ok_iconst dX3_entryOf_35 (by decide)) ?_
  refine mcons (ok_istore dX3_entryOf_36 (by decide)) ?_
  refine mcons (ok_aload_n dX3_entryOf_38 rfl) ?_
  refine mcons (ok_getf 3 dX3_entryOf_39 rfl mX3 (by decide) wq_172 rfl) ?_
  refine mcons (ok_iconst dX3_entryOf_42 (by decide)) ?_
  refine mcons (ok_iload_n dX3_entryOf_43 rfl) ?_
  refine mcons (ok_imul dX3_entryOf_44) ?_
  refine mcons (ok_iload_n dX3_entryOf_45 rfl) ?_
  refine mcons (ok_iadd dX3_entryOf_46) ?_
  refine mcons (ok_iald dX3_entryOf_47) ?_
  refine mcons (ok_iconst dX3_entryOf_48 (by decide)) ?_
  refine mcons (ok_cne dX3_entryOf_49 (by decide)) ?_
  refine mcons (ok_iload dX3_entryOf_52) ?_
  refine mcons (ok_aload_n dX3_entryOf_54 rfl) ?_
  refine mcons (ok_getf 7 dX3_entryOf_55 rfl mX3 (by decide) wq_180 rfl) ?_
  refine mcons (ok_bipush dX3_entryOf_58 (by decide)) ?_
  refine mcons (ok_iload_n dX3_entryOf_60 rfl) ?_
  refine mcons (ok_imul dX3_entryOf_61) ?_
  refine mcons (ok_iconst dX3_entryOf_62 (by decide)) ?_
  refine mcons (ok_iload_n dX3_entryOf_63 rfl) ?_
  refine mcons (ok_imul dX3_entryOf_64) ?_
  refine mcons (ok_iadd dX3_entryOf_65) ?_
  refine mcons (ok_iload_n dX3_entryOf_66 rfl) ?_
  refine mcons (ok_iadd dX3_entryOf_67) ?_
  refine mcons (ok_iald dX3_entryOf_68) ?_
  refine mcons (ok_iadd dX3_entryOf_69) ?_
  refine mcons (ok_iload dX3_entryOf_70) ?_
  refine mcons (ok_isub dX3_entryOf_72) ?_
  refine mcons (ok_iload dX3_entryOf_74) ?_
  refine mcons (ok_aload_n dX3_entryOf_76 rfl) ?_
  refine mcons (ok_iload_n dX3_entryOf_77 rfl) ?_
  refine mcons (ok_iload_n dX3_entryOf_78 rfl) ?_
  refine mcons (ok_imul dX3_entryOf_82) ?_
  refine mcons (ok_iload dX3_entryOf_83) ?_
  refine mcons (ok_aload_n dX3_entryOf_85 rfl) ?_
  refine mcons (ok_iload_n dX3_entryOf_86 rfl) ?_
  refine mcons (ok_iload_n dX3_entryOf_87 rfl) ?_
  refine mcons (ok_imul dX3_entryOf_91) ?_
  refine mcons (ok_isub dX3_entryOf_92) ?_
  exact mnil
abbrev KX3_entryOf (l : Launch) (D : va_G) (ca : Nat → ClassId) (ad : Nat → Nat) : List Value → mW → Option Value → mW → Prop := mC l 3 yX3_entryOf cX3_entryOf 6 (some .int) D ca ad
def CFX3_entryOf (l : Launch) (D : va_G) (ca : Nat → ClassId) (ad : Nat → Nat) (G : mS → Prop) : Prop := mCallV G (KX3_allOf l D ca ad) 79 3 2 ∧ mCallV G (KX3_mainOf l D ca ad) 88 3 2
theorem PX3_entryOf {l : Launch} {D : va_G} {ca : Nat → ClassId} {ad : Nat → Nat} {av : List Value} {w : mW} {x : Int32} {w2 : mW} (hlen : (lg_sl av).length ≤ 6) (body : ∀ G : mS → Prop, mTb G tbX3_entryOf → CFX3_entryOf l D ca ad G → mRet G (some (.int x)) w2 [73, 93] → G (0, lv_args 0 av, [], w)) : KX3_entryOf l D ca ad av w (some (.int x)) w2 :=
  mPackI [73, 93] (by decide +kernel) hlen tkX3_entryOf (fun p e s m args below meth c A Q hX => ⟨mCallV_ok (T := TX3) (N := 18) hX dX3_entryOf_79 rfl ⟨wq_194, wq_166, wq_193, by decide +kernel, by decide +kernel, by decide +kernel⟩ wq_195 wq_196 (by decide) (by decide), mCallV_ok (T := TX3) (N := 18) hX dX3_entryOf_88 rfl ⟨wq_190, wq_166, wq_189, by decide +kernel, by decide +kernel, by decide +kernel⟩ wq_191 wq_192 (by decide) (by decide)⟩) (List.forall_mem_cons.mpr ⟨dX3_entryOf_73, List.forall_mem_cons.mpr ⟨dX3_entryOf_93, fun _ h => absurd h List.not_mem_nil⟩⟩) body
/-! X3 pair -/
def tbX3_pair : List (Nat × mR) := [(0, r_aload 1 0), (1, r_getf 4 3 12), (4, r_ic 5 4), (5, r_iload 6 1), (6, r_ii 7 (fun x y => x * y)), (7, r_iload 8 2), (8, r_ii 9 (fun x y => x + y)), (9, r_lald 10), (10, r_aload 11 0), (11, r_getf 14 3 12), (14, r_ic 15 4), (15, r_iload 16 1), (16, r_ii 17 (fun x y => x * y)), (17, r_ic 18 4), (18, r_ii 19 (fun x y => x + y)), (19, r_iload 20 3), (20, r_ii 21 (fun x y => x + y)), (21, r_lald 22), (22, r_ll 23 (fun x y => x * y)), (23, r_aload 24 0), (24, r_getf 27 3 12), (27, r_ic 28 4), (28, r_iload 29 1), (29, r_ii 30 (fun x y => x * y)), (30, r_iload 31 3), (31, r_ii 32 (fun x y => x + y)), (32, r_lald 33), (33, r_aload 34 0), (34, r_getf 37 3 12), (37, r_ic 38 4), (38, r_iload 39 1), (39, r_ii 40 (fun x y => x * y)), (40, r_ic 41 4), (41, r_ii 42 (fun x y => x + y)), (42, r_iload 43 2), (43, r_ii 44 (fun x y => x + y)), (44, r_lald 45), (45, r_ll 46 (fun x y => x * y)), (46, r_ll 47 (fun x y => x - y))]
theorem tkX3_pair : ∀ q ∈ tbX3_pair, mOk cX3_pair RX3 4 q.1 q.2 := by
  unfold tbX3_pair
  refine mcons (ok_aload_n dX3_pair_0 rfl) ?_
  refine mcons (ok_getf 12 dX3_pair_1 rfl mX3 (by decide) wq_201 rfl) ?_
  refine mcons (ok_iconst dX3_pair_4 (by decide)) ?_
  refine mcons (ok_iload_n dX3_pair_5 rfl) ?_
  refine mcons (ok_imul dX3_pair_6) ?_
  refine mcons (ok_iload_n dX3_pair_7 rfl) ?_
  refine mcons (ok_iadd dX3_pair_8) ?_
  refine mcons (ok_lald dX3_pair_9) ?_
  refine mcons (ok_aload_n dX3_pair_10 rfl) ?_
  refine mcons (ok_getf 12 dX3_pair_11 rfl mX3 (by decide) wq_201 rfl) ?_
  refine mcons (ok_iconst dX3_pair_14 (by decide)) ?_
  refine mcons (ok_iload_n dX3_pair_15 rfl) ?_
  refine mcons (ok_imul dX3_pair_16) ?_
  refine mcons (ok_iconst dX3_pair_17 (by decide)) ?_
  refine mcons (ok_iadd dX3_pair_18) ?_
  refine mcons (ok_iload_n dX3_pair_19 rfl) ?_
  refine mcons (ok_iadd dX3_pair_20) ?_
  refine mcons (ok_lald dX3_pair_21) ?_
  refine mcons (ok_lmul dX3_pair_22) ?_
  refine mcons (ok_aload_n dX3_pair_23 rfl) ?_
  refine mcons (ok_getf 12 dX3_pair_24 rfl mX3 (by decide) wq_201 rfl) ?_
  refine mcons (ok_iconst dX3_pair_27 (by decide)) ?_
  refine mcons (ok_iload_n dX3_pair_28 rfl) ?_
  refine mcons (ok_imul dX3_pair_29) ?_
  refine mcons (ok_iload_n dX3_pair_30 rfl) ?_
  refine mcons (ok_iadd dX3_pair_31) ?_
  refine mcons (ok_lald dX3_pair_32) ?_
  refine mcons (ok_aload_n dX3_pair_33 rfl) ?_
  refine mcons (ok_getf 12 dX3_pair_34 rfl mX3 (by decide) wq_201 rfl) ?_
  refine mcons (ok_iconst dX3_pair_37 (by decide)) ?_
  refine mcons (ok_iload_n dX3_pair_38 rfl) ?_
  refine mcons (ok_imul dX3_pair_39) ?_
  refine mcons (ok_iconst dX3_pair_40 (by decide)) ?_
  refine mcons (ok_iadd dX3_pair_41) ?_
  refine mcons (ok_iload_n dX3_pair_42 rfl) ?_
  refine mcons (ok_iadd dX3_pair_43) ?_
  refine mcons (ok_lald dX3_pair_44) ?_
  refine mcons (ok_lmul dX3_pair_45) ?_
  refine mcons (ok_lsub dX3_pair_46) ?_
  exact mnil
abbrev KX3_pair (l : Launch) (D : va_G) (ca : Nat → ClassId) (ad : Nat → Nat) : List Value → mW → Option Value → mW → Prop := mC l 0 yX3_pair cX3_pair 4 (some .long) D ca ad
def CFX3_pair (l : Launch) (D : va_G) (ca : Nat → ClassId) (ad : Nat → Nat) (G : mS → Prop) : Prop := True
theorem PX3_pair {l : Launch} {D : va_G} {ca : Nat → ClassId} {ad : Nat → Nat} {av : List Value} {w : mW} {x : Int64} {w2 : mW} (hlen : (lg_sl av).length ≤ 4) (body : ∀ G : mS → Prop, mTb G tbX3_pair → CFX3_pair l D ca ad G → mRet G (some (.long x)) w2 [47] → G (0, lv_args 0 av, [], w)) : KX3_pair l D ca ad av w (some (.long x)) w2 :=
  mPackL [47] (by decide +kernel) hlen tkX3_pair (fun p e s m args below meth c A Q hX => trivial) (List.forall_mem_cons.mpr ⟨dX3_pair_47, fun _ h => absurd h List.not_mem_nil⟩) body
/-! X3 determinant -/
def tbX3_determinant : List (Nat × mR) := [(0, r_aload 1 0), (1, r_ic 2 0), (2, r_ic 3 0), (3, r_ic 4 1), (7, r_aload 8 0), (8, r_ic 9 2), (9, r_ic 10 2), (10, r_ic 11 3), (14, r_ll 15 (fun x y => x * y)), (15, r_aload 16 0), (16, r_ic 17 0), (17, r_ic 18 0), (18, r_ic 19 2), (22, r_aload 23 0), (23, r_ic 24 2), (24, r_ic 25 1), (25, r_ic 26 3), (29, r_ll 30 (fun x y => x * y)), (30, r_ll 31 (fun x y => x - y)), (31, r_aload 32 0), (32, r_ic 33 0), (33, r_ic 34 0), (34, r_ic 35 3), (38, r_aload 39 0), (39, r_ic 40 2), (40, r_ic 41 1), (41, r_ic 42 2), (45, r_ll 46 (fun x y => x * y)), (46, r_ll 47 (fun x y => x + y)), (47, r_lstore 48 1), (48, r_lload 49 1), (49, r_aload 50 0), (50, r_ic 51 0), (51, r_ic 52 1), (52, r_ic 53 2), (56, r_aload 57 0), (57, r_ic 58 2), (58, r_ic 59 0), (59, r_ic 60 3), (63, r_ll 64 (fun x y => x * y)), (64, r_ll 65 (fun x y => x + y)), (65, r_aload 66 0), (66, r_ic 67 0), (67, r_ic 68 1), (68, r_ic 69 3), (72, r_aload 73 0), (73, r_ic 74 2), (74, r_ic 75 0), (75, r_ic 76 2), (79, r_ll 80 (fun x y => x * y)), (80, r_ll 81 (fun x y => x - y)), (81, r_aload 82 0), (82, r_ic 83 0), (83, r_ic 84 2), (84, r_ic 85 3), (88, r_aload 89 0), (89, r_ic 90 2), (90, r_ic 91 0), (91, r_ic 92 1), (95, r_ll 96 (fun x y => x * y)), (96, r_ll 97 (fun x y => x + y))]
theorem tkX3_determinant : ∀ q ∈ tbX3_determinant, mOk cX3_determinant RX3 3 q.1 q.2 := by
  unfold tbX3_determinant
  refine mcons (ok_aload_n dX3_determinant_0 rfl) ?_
  refine mcons (ok_iconst dX3_determinant_1 (by decide)) ?_
  refine mcons (ok_iconst dX3_determinant_2 (by decide)) ?_
  refine mcons (ok_iconst dX3_determinant_3 (by decide)) ?_
  refine mcons (ok_aload_n dX3_determinant_7 rfl) ?_
  refine mcons (ok_iconst dX3_determinant_8 (by decide)) ?_
  refine mcons (ok_iconst dX3_determinant_9 (by decide)) ?_
  refine mcons (ok_iconst dX3_determinant_10 (by decide)) ?_
  refine mcons (ok_lmul dX3_determinant_14) ?_
  refine mcons (ok_aload_n dX3_determinant_15 rfl) ?_
  refine mcons (ok_iconst dX3_determinant_16 (by decide)) ?_
  refine mcons (ok_iconst dX3_determinant_17 (by decide)) ?_
  refine mcons (ok_iconst dX3_determinant_18 (by decide)) ?_
  refine mcons (ok_aload_n dX3_determinant_22 rfl) ?_
  refine mcons (ok_iconst dX3_determinant_23 (by decide)) ?_
  refine mcons (ok_iconst dX3_determinant_24 (by decide)) ?_
  refine mcons (ok_iconst dX3_determinant_25 (by decide)) ?_
  refine mcons (ok_lmul dX3_determinant_29) ?_
  refine mcons (ok_lsub dX3_determinant_30) ?_
  refine mcons (ok_aload_n dX3_determinant_31 rfl) ?_
  refine mcons (ok_iconst dX3_determinant_32 (by decide)) ?_
  refine mcons (ok_iconst dX3_determinant_33 (by decide)) ?_
  refine mcons (ok_iconst dX3_determinant_34 (by decide)) ?_
  refine mcons (ok_aload_n dX3_determinant_38 rfl) ?_
  refine mcons (ok_iconst dX3_determinant_39 (by decide)) ?_
  refine mcons (ok_iconst dX3_determinant_40 (by decide)) ?_
  refine mcons (ok_iconst dX3_determinant_41 (by decide)) ?_
  refine mcons (ok_lmul dX3_determinant_45) ?_
  refine mcons (ok_ladd dX3_determinant_46) ?_
  refine mcons (ok_lstore_n dX3_determinant_47 rfl (by decide)) ?_
  refine mcons (ok_lload_n dX3_determinant_48 rfl) ?_
  refine mcons (ok_aload_n dX3_determinant_49 rfl) ?_
  refine mcons (ok_iconst dX3_determinant_50 (by decide)) ?_
  refine mcons (ok_iconst dX3_determinant_51 (by decide)) ?_
  refine mcons (ok_iconst dX3_determinant_52 (by decide)) ?_
  refine mcons (ok_aload_n dX3_determinant_56 rfl) ?_
  refine mcons (ok_iconst dX3_determinant_57 (by decide)) ?_
  refine mcons (ok_iconst dX3_determinant_58 (by decide)) ?_
  refine mcons (ok_iconst dX3_determinant_59 (by decide)) ?_
  refine mcons (ok_lmul dX3_determinant_63) ?_
  refine mcons (ok_ladd dX3_determinant_64) ?_
  refine mcons (ok_aload_n dX3_determinant_65 rfl) ?_
  refine mcons (ok_iconst dX3_determinant_66 (by decide)) ?_
  refine mcons (ok_iconst dX3_determinant_67 (by decide)) ?_
  refine mcons (ok_iconst dX3_determinant_68 (by decide)) ?_
  refine mcons (ok_aload_n dX3_determinant_72 rfl) ?_
  refine mcons (ok_iconst dX3_determinant_73 (by decide)) ?_
  refine mcons (ok_iconst dX3_determinant_74 (by decide)) ?_
  refine mcons (ok_iconst dX3_determinant_75 (by decide)) ?_
  refine mcons (ok_lmul dX3_determinant_79) ?_
  refine mcons (ok_lsub dX3_determinant_80) ?_
  refine mcons (ok_aload_n dX3_determinant_81 rfl) ?_
  refine mcons (ok_iconst dX3_determinant_82 (by decide)) ?_
  refine mcons (ok_iconst dX3_determinant_83 (by decide)) ?_
  refine mcons (ok_iconst dX3_determinant_84 (by decide)) ?_
  refine mcons (ok_aload_n dX3_determinant_88 rfl) ?_
  refine mcons (ok_iconst dX3_determinant_89 (by decide)) ?_
  refine mcons (ok_iconst dX3_determinant_90 (by decide)) ?_
  refine mcons (ok_iconst dX3_determinant_91 (by decide)) ?_
  refine mcons (ok_lmul dX3_determinant_95) ?_
  refine mcons (ok_ladd dX3_determinant_96) ?_
  exact mnil
abbrev KX3_determinant (l : Launch) (D : va_G) (ca : Nat → ClassId) (ad : Nat → Nat) : List Value → mW → Option Value → mW → Prop := mC l 1 yX3_determinant cX3_determinant 3 (some .long) D ca ad
def CFX3_determinant (l : Launch) (D : va_G) (ca : Nat → ClassId) (ad : Nat → Nat) (G : mS → Prop) : Prop := mCallV G (KX3_pair l D ca ad) 4 3 3 ∧ mCallV G (KX3_pair l D ca ad) 11 3 3 ∧ mCallV G (KX3_pair l D ca ad) 19 3 3 ∧ mCallV G (KX3_pair l D ca ad) 26 3 3 ∧ mCallV G (KX3_pair l D ca ad) 35 3 3 ∧ mCallV G (KX3_pair l D ca ad) 42 3 3 ∧ mCallV G (KX3_pair l D ca ad) 53 3 3 ∧ mCallV G (KX3_pair l D ca ad) 60 3 3 ∧ mCallV G (KX3_pair l D ca ad) 69 3 3 ∧ mCallV G (KX3_pair l D ca ad) 76 3 3 ∧ mCallV G (KX3_pair l D ca ad) 85 3 3 ∧ mCallV G (KX3_pair l D ca ad) 92 3 3
theorem PX3_determinant {l : Launch} {D : va_G} {ca : Nat → ClassId} {ad : Nat → Nat} {av : List Value} {w : mW} {x : Int64} {w2 : mW} (hlen : (lg_sl av).length ≤ 3) (body : ∀ G : mS → Prop, mTb G tbX3_determinant → CFX3_determinant l D ca ad G → mRet G (some (.long x)) w2 [97] → G (0, lv_args 0 av, [], w)) : KX3_determinant l D ca ad av w (some (.long x)) w2 :=
  mPackL [97] (by decide +kernel) hlen tkX3_determinant (fun p e s m args below meth c A Q hX => ⟨mCallV_ok (T := TX3) (N := 18) hX dX3_determinant_4 rfl ⟨wq_203, wq_166, wq_202, by decide +kernel, by decide +kernel, by decide +kernel⟩ wq_204 wq_205 (by decide) (by decide), mCallV_ok (T := TX3) (N := 18) hX dX3_determinant_11 rfl ⟨wq_203, wq_166, wq_202, by decide +kernel, by decide +kernel, by decide +kernel⟩ wq_204 wq_205 (by decide) (by decide), mCallV_ok (T := TX3) (N := 18) hX dX3_determinant_19 rfl ⟨wq_203, wq_166, wq_202, by decide +kernel, by decide +kernel, by decide +kernel⟩ wq_204 wq_205 (by decide) (by decide), mCallV_ok (T := TX3) (N := 18) hX dX3_determinant_26 rfl ⟨wq_203, wq_166, wq_202, by decide +kernel, by decide +kernel, by decide +kernel⟩ wq_204 wq_205 (by decide) (by decide), mCallV_ok (T := TX3) (N := 18) hX dX3_determinant_35 rfl ⟨wq_203, wq_166, wq_202, by decide +kernel, by decide +kernel, by decide +kernel⟩ wq_204 wq_205 (by decide) (by decide), mCallV_ok (T := TX3) (N := 18) hX dX3_determinant_42 rfl ⟨wq_203, wq_166, wq_202, by decide +kernel, by decide +kernel, by decide +kernel⟩ wq_204 wq_205 (by decide) (by decide), mCallV_ok (T := TX3) (N := 18) hX dX3_determinant_53 rfl ⟨wq_203, wq_166, wq_202, by decide +kernel, by decide +kernel, by decide +kernel⟩ wq_204 wq_205 (by decide) (by decide), mCallV_ok (T := TX3) (N := 18) hX dX3_determinant_60 rfl ⟨wq_203, wq_166, wq_202, by decide +kernel, by decide +kernel, by decide +kernel⟩ wq_204 wq_205 (by decide) (by decide), mCallV_ok (T := TX3) (N := 18) hX dX3_determinant_69 rfl ⟨wq_203, wq_166, wq_202, by decide +kernel, by decide +kernel, by decide +kernel⟩ wq_204 wq_205 (by decide) (by decide), mCallV_ok (T := TX3) (N := 18) hX dX3_determinant_76 rfl ⟨wq_203, wq_166, wq_202, by decide +kernel, by decide +kernel, by decide +kernel⟩ wq_204 wq_205 (by decide) (by decide), mCallV_ok (T := TX3) (N := 18) hX dX3_determinant_85 rfl ⟨wq_203, wq_166, wq_202, by decide +kernel, by decide +kernel, by decide +kernel⟩ wq_204 wq_205 (by decide) (by decide), mCallV_ok (T := TX3) (N := 18) hX dX3_determinant_92 rfl ⟨wq_203, wq_166, wq_202, by decide +kernel, by decide +kernel, by decide +kernel⟩ wq_204 wq_205 (by decide) (by decide)⟩) (List.forall_mem_cons.mpr ⟨dX3_determinant_97, fun _ h => absurd h List.not_mem_nil⟩) body
/-! X3 lay -/
def tbX3_lay : List (Nat × mR) := [(0, r_ic 1 0), (1, r_istore 2 1), (2, r_iload 3 1), (3, r_ic 4 4), (4, r_cge 7 78), (7, r_ic 8 0), (8, r_istore 9 2), (9, r_iload 10 2), (10, r_ic 11 4), (11, r_cge 14 72), (14, r_aload 15 0), (15, r_getf 18 3 11), (18, r_ic 19 4), (19, r_iload 20 1), (20, r_ii 21 (fun x y => x * y)), (21, r_iload 22 2), (22, r_ii 23 (fun x y => x + y)), (23, r_iload 24 1), (24, r_aload 25 0), (25, r_getf 28 3 0), (28, r_cge 31 55), (31, r_iload 32 2), (32, r_aload 33 0), (33, r_getf 36 3 0), (36, r_cge 39 55), (39, r_aload 40 0), (40, r_aload 41 0), (41, r_getf 44 3 10), (44, r_iload 45 2), (45, r_iald 46), (46, r_iload 47 1), (47, r_iload 48 2), (51, r_i2l 52), (52, r_goto 65), (55, r_iload 56 1), (56, r_iload 57 2), (57, r_cne 60 64), (60, r_lc 61 1), (61, r_goto 65), (64, r_lc 65 0), (65, r_last 66), (66, r_iinc 69 2 1), (69, r_goto 9), (72, r_iinc 75 1 1), (75, r_goto 2), (78, r_ic 79 0), (79, r_istore 80 1), (80, r_iload 81 1), (81, r_ic 83 16), (83, r_cge 86 104), (86, r_aload 87 0), (87, r_getf 90 3 12), (90, r_iload 91 1), (91, r_aload 92 0), (92, r_getf 95 3 11), (95, r_iload 96 1), (96, r_lald 97), (97, r_last 98), (98, r_iinc 101 1 1), (101, r_goto 80), (104, r_aload 105 0), (105, r_aload 106 0), (109, r_putl 112 3 13)]
theorem tkX3_lay : ∀ q ∈ tbX3_lay, mOk cX3_lay RX3 3 q.1 q.2 := by
  unfold tbX3_lay
  refine mcons (ok_iconst dX3_lay_0 (by decide)) ?_
  refine mcons (ok_istore_n dX3_lay_1 rfl (by decide)) ?_
  refine mcons (ok_iload_n dX3_lay_2 rfl) ?_
  refine mcons (ok_iconst dX3_lay_3 (by decide)) ?_
  refine mcons (ok_cge dX3_lay_4 (by decide)) ?_
  refine mcons (ok_iconst dX3_lay_7 (by decide)) ?_
  refine mcons (ok_istore_n dX3_lay_8 rfl (by decide)) ?_
  refine mcons (ok_iload_n dX3_lay_9 rfl) ?_
  refine mcons (ok_iconst dX3_lay_10 (by decide)) ?_
  refine mcons (ok_cge dX3_lay_11 (by decide)) ?_
  refine mcons (ok_aload_n dX3_lay_14 rfl) ?_
  refine mcons (ok_getf 11 dX3_lay_15 rfl mX3 (by decide) wq_206 rfl) ?_
  refine mcons (ok_iconst dX3_lay_18 (by decide)) ?_
  refine mcons (ok_iload_n dX3_lay_19 rfl) ?_
  refine mcons (ok_imul dX3_lay_20) ?_
  refine mcons (ok_iload_n dX3_lay_21 rfl) ?_
  refine mcons (ok_iadd dX3_lay_22) ?_
  refine mcons (ok_iload_n dX3_lay_23 rfl) ?_
  refine mcons (ok_aload_n dX3_lay_24 rfl) ?_
  refine mcons (ok_getf 0 dX3_lay_25 rfl mX3 (by decide) wq_165 rfl) ?_
  refine mcons (ok_cge dX3_lay_28 (by decide)) ?_
  refine mcons (ok_iload_n dX3_lay_31 rfl) ?_
  refine mcons (ok_aload_n dX3_lay_32 rfl) ?_
  refine mcons (ok_getf 0 dX3_lay_33 rfl mX3 (by decide) wq_165 rfl) ?_
  refine mcons (ok_cge dX3_lay_36 (by decide)) ?_
  refine mcons (ok_aload_n dX3_lay_39 rfl) ?_
  refine mcons (ok_aload_n dX3_lay_40 rfl) ?_
  refine mcons (ok_getf 10 dX3_lay_41 rfl mX3 (by decide) wq_207 rfl) ?_
  refine mcons (ok_iload_n dX3_lay_44 rfl) ?_
  refine mcons (ok_iald dX3_lay_45) ?_
  refine mcons (ok_iload_n dX3_lay_46 rfl) ?_
  refine mcons (ok_iload_n dX3_lay_47 rfl) ?_
  refine mcons (ok_i2l dX3_lay_51) ?_
  refine mcons (ok_goto dX3_lay_52 (by decide)) ?_
  refine mcons (ok_iload_n dX3_lay_55 rfl) ?_
  refine mcons (ok_iload_n dX3_lay_56 rfl) ?_
  refine mcons (ok_cne dX3_lay_57 (by decide)) ?_
  refine mcons (ok_lconst dX3_lay_60 (by decide)) ?_
  refine mcons (ok_goto dX3_lay_61 (by decide)) ?_
  refine mcons (ok_lconst dX3_lay_64 (by decide)) ?_
  refine mcons (ok_last dX3_lay_65) ?_
  refine mcons (ok_iinc dX3_lay_66 (by decide) (by decide)) ?_
  refine mcons (ok_goto dX3_lay_69 (by decide)) ?_
  refine mcons (ok_iinc dX3_lay_72 (by decide) (by decide)) ?_
  refine mcons (ok_goto dX3_lay_75 (by decide)) ?_
  refine mcons (ok_iconst dX3_lay_78 (by decide)) ?_
  refine mcons (ok_istore_n dX3_lay_79 rfl (by decide)) ?_
  refine mcons (ok_iload_n dX3_lay_80 rfl) ?_
  refine mcons (ok_bipush dX3_lay_81 (by decide)) ?_
  refine mcons (ok_cge dX3_lay_83 (by decide)) ?_
  refine mcons (ok_aload_n dX3_lay_86 rfl) ?_
  refine mcons (ok_getf 12 dX3_lay_87 rfl mX3 (by decide) wq_201 rfl) ?_
  refine mcons (ok_iload_n dX3_lay_90 rfl) ?_
  refine mcons (ok_aload_n dX3_lay_91 rfl) ?_
  refine mcons (ok_getf 11 dX3_lay_92 rfl mX3 (by decide) wq_206 rfl) ?_
  refine mcons (ok_iload_n dX3_lay_95 rfl) ?_
  refine mcons (ok_lald dX3_lay_96) ?_
  refine mcons (ok_last dX3_lay_97) ?_
  refine mcons (ok_iinc dX3_lay_98 (by decide) (by decide)) ?_
  refine mcons (ok_goto dX3_lay_101 (by decide)) ?_
  refine mcons (ok_aload_n dX3_lay_104 rfl) ?_
  refine mcons (ok_aload_n dX3_lay_105 rfl) ?_
  refine mcons (ok_putl 13 dX3_lay_109 rfl mX3 tyX3_ok nmX3 (by decide) wq_208 rfl rfl (by decide +kernel)) ?_
  exact mnil
abbrev KX3_lay (l : Launch) (D : va_G) (ca : Nat → ClassId) (ad : Nat → Nat) : List Value → mW → Option Value → mW → Prop := mC l 4 yX3_lay cX3_lay 3 none D ca ad
def CFX3_lay (l : Launch) (D : va_G) (ca : Nat → ClassId) (ad : Nat → Nat) (G : mS → Prop) : Prop := mCallV G (KX3_entryOf l D ca ad) 48 3 3 ∧ mCallV G (KX3_determinant l D ca ad) 106 3 0
theorem PX3_lay {l : Launch} {D : va_G} {ca : Nat → ClassId} {ad : Nat → Nat} {av : List Value} {w : mW} {w2 : mW} (hlen : (lg_sl av).length ≤ 3) (body : ∀ G : mS → Prop, mTb G tbX3_lay → CFX3_lay l D ca ad G → mRet G none w2 [112] → G (0, lv_args 0 av, [], w)) : KX3_lay l D ca ad av w none w2 :=
  mPackV [112] (by decide +kernel) hlen tkX3_lay (fun p e s m args below meth c A Q hX => ⟨mCallV_ok (T := TX3) (N := 18) hX dX3_lay_48 rfl ⟨wq_210, wq_166, wq_209, by decide +kernel, by decide +kernel, by decide +kernel⟩ wq_211 wq_212 (by decide) (by decide), mCallV_ok (T := TX3) (N := 18) hX dX3_lay_106 rfl ⟨wq_214, wq_166, wq_213, by decide +kernel, by decide +kernel, by decide +kernel⟩ wq_215 wq_216 (by decide) (by decide)⟩) (List.forall_mem_cons.mpr ⟨dX3_lay_112, fun _ h => absurd h List.not_mem_nil⟩) body
/-! X3 layNow -/
def tbX3_layNow : List (Nat × mR) := [(0, r_ic 1 0), (1, r_istore 2 1), (2, r_iload 3 1), (3, r_ic 4 4), (4, r_cge 7 21), (7, r_aload 8 0), (8, r_getf 11 3 10), (11, r_iload 12 1), (12, r_ic 14 6), (14, r_iast 15), (15, r_iinc 18 1 1), (18, r_goto 2), (21, r_aload 22 0)]
theorem tkX3_layNow : ∀ q ∈ tbX3_layNow, mOk cX3_layNow RX3 2 q.1 q.2 := by
  unfold tbX3_layNow
  refine mcons (ok_iconst dX3_layNow_0 (by decide)) ?_
  refine mcons (ok_istore_n dX3_layNow_1 rfl (by decide)) ?_
  refine mcons (ok_iload_n dX3_layNow_2 rfl) ?_
  refine mcons (ok_iconst dX3_layNow_3 (by decide)) ?_
  refine mcons (ok_cge dX3_layNow_4 (by decide)) ?_
  refine mcons (ok_aload_n dX3_layNow_7 rfl) ?_
  refine mcons (ok_getf 10 dX3_layNow_8 rfl mX3 (by decide) wq_207 rfl) ?_
  refine mcons (ok_iload_n dX3_layNow_11 rfl) ?_
  refine mcons (ok_bipush dX3_layNow_12 (by decide)) ?_
  refine mcons (ok_iast dX3_layNow_14) ?_
  refine mcons (ok_iinc dX3_layNow_15 (by decide) (by decide)) ?_
  refine mcons (ok_goto dX3_layNow_18 (by decide)) ?_
  refine mcons (ok_aload_n dX3_layNow_21 rfl) ?_
  exact mnil
abbrev KX3_layNow (l : Launch) (D : va_G) (ca : Nat → ClassId) (ad : Nat → Nat) : List Value → mW → Option Value → mW → Prop := mC l 5 yX3_layNow cX3_layNow 2 none D ca ad
def CFX3_layNow (l : Launch) (D : va_G) (ca : Nat → ClassId) (ad : Nat → Nat) (G : mS → Prop) : Prop := mCallV G (KX3_lay l D ca ad) 22 3 0
theorem PX3_layNow {l : Launch} {D : va_G} {ca : Nat → ClassId} {ad : Nat → Nat} {av : List Value} {w : mW} {w2 : mW} (hlen : (lg_sl av).length ≤ 2) (body : ∀ G : mS → Prop, mTb G tbX3_layNow → CFX3_layNow l D ca ad G → mRet G none w2 [25] → G (0, lv_args 0 av, [], w)) : KX3_layNow l D ca ad av w none w2 :=
  mPackV [25] (by decide +kernel) hlen tkX3_layNow (fun p e s m args below meth c A Q hX => mCallV_ok (T := TX3) (N := 18) hX dX3_layNow_22 rfl ⟨wq_218, wq_166, wq_217, by decide +kernel, by decide +kernel, by decide +kernel⟩ wq_219 wq_220 (by decide) (by decide)) (List.forall_mem_cons.mpr ⟨dX3_layNow_25, fun _ h => absurd h List.not_mem_nil⟩) body
/-! X3 solve -/
def tbX3_solve : List (Nat × mR) := [(0, r_aload 1 0), (1, r_aload 2 0), (2, r_getf 5 3 13), (5, r_lc 6 0), (6, r_lcmp 7), (7, r_ifge 10 18), (10, r_aload 11 0), (11, r_getf 14 3 13), (14, r_lneg 15), (15, r_goto 22), (18, r_aload 19 0), (19, r_getf 22 3 13), (22, r_putl 25 3 15), (25, r_ic 26 0), (26, r_istore 27 2), (27, r_iload 28 2), (28, r_ic 29 4), (29, r_cge 32 128), (32, r_ic 33 0), (33, r_istore 34 3), (34, r_iload 35 3), (35, r_ic 37 16), (37, r_cge 40 95), (40, r_aload 41 0), (41, r_getf 44 3 12), (44, r_iload 45 3), (45, r_iload 46 3), (46, r_ic 47 4), (47, r_iid 48 (fun x y => x - x / y * y)), (48, r_iload 49 2), (49, r_ceq 52 61), (52, r_aload 53 0), (53, r_getf 56 3 11), (56, r_iload 57 3), (57, r_lald 58), (58, r_goto 88), (61, r_iload 62 3), (62, r_ic 63 4), (63, r_iid 64 (fun x y => x / y)), (64, r_aload 65 0), (65, r_getf 68 3 0), (68, r_cge 71 87), (71, r_aload 72 0), (72, r_getf 75 3 9), (75, r_ic 76 4), (76, r_iload 77 1), (77, r_ii 78 (fun x y => x * y)), (78, r_iload 79 3), (79, r_ic 80 4), (80, r_iid 81 (fun x y => x / y)), (81, r_ii 82 (fun x y => x + y)), (82, r_iald 83), (83, r_i2l 84), (84, r_goto 88), (87, r_lc 88 0), (88, r_last 89), (89, r_iinc 92 3 1), (92, r_goto 34), (95, r_aload 96 0), (96, r_getf 99 3 14), (99, r_iload 100 2), (100, r_aload 101 0), (101, r_getf 104 3 13), (104, r_lc 105 0), (105, r_lcmp 106), (106, r_ifge 109 117), (109, r_aload 110 0), (113, r_lneg 114), (114, r_goto 121), (117, r_aload 118 0), (121, r_last 122), (122, r_iinc 125 2 1), (125, r_goto 27)]
theorem tkX3_solve : ∀ q ∈ tbX3_solve, mOk cX3_solve RX3 4 q.1 q.2 := by
  unfold tbX3_solve
  refine mcons (ok_aload_n dX3_solve_0 rfl) ?_
  refine mcons (ok_aload_n dX3_solve_1 rfl) ?_
  refine mcons (ok_getf 13 dX3_solve_2 rfl mX3 (by decide) wq_208 rfl) ?_
  refine mcons (ok_lconst dX3_solve_5 (by decide)) ?_
  refine mcons (ok_lcmp dX3_solve_6) ?_
  refine mcons (ok_ifge dX3_solve_7 (by decide)) ?_
  refine mcons (ok_aload_n dX3_solve_10 rfl) ?_
  refine mcons (ok_getf 13 dX3_solve_11 rfl mX3 (by decide) wq_208 rfl) ?_
  refine mcons (ok_lneg dX3_solve_14) ?_
  refine mcons (ok_goto dX3_solve_15 (by decide)) ?_
  refine mcons (ok_aload_n dX3_solve_18 rfl) ?_
  refine mcons (ok_getf 13 dX3_solve_19 rfl mX3 (by decide) wq_208 rfl) ?_
  refine mcons (ok_putl 15 dX3_solve_22 rfl mX3 tyX3_ok nmX3 (by decide) wq_221 rfl rfl (by decide +kernel)) ?_
  refine mcons (ok_iconst dX3_solve_25 (by decide)) ?_
  refine mcons (ok_istore_n dX3_solve_26 rfl (by decide)) ?_
  refine mcons (ok_iload_n dX3_solve_27 rfl) ?_
  refine mcons (ok_iconst dX3_solve_28 (by decide)) ?_
  refine mcons (ok_cge dX3_solve_29 (by decide)) ?_
  refine mcons (ok_iconst dX3_solve_32 (by decide)) ?_
  refine mcons (ok_istore_n dX3_solve_33 rfl (by decide)) ?_
  refine mcons (ok_iload_n dX3_solve_34 rfl) ?_
  refine mcons (ok_bipush dX3_solve_35 (by decide)) ?_
  refine mcons (ok_cge dX3_solve_37 (by decide)) ?_
  refine mcons (ok_aload_n dX3_solve_40 rfl) ?_
  refine mcons (ok_getf 12 dX3_solve_41 rfl mX3 (by decide) wq_201 rfl) ?_
  refine mcons (ok_iload_n dX3_solve_44 rfl) ?_
  refine mcons (ok_iload_n dX3_solve_45 rfl) ?_
  refine mcons (ok_iconst dX3_solve_46 (by decide)) ?_
  refine mcons (ok_irem dX3_solve_47) ?_
  refine mcons (ok_iload_n dX3_solve_48 rfl) ?_
  refine mcons (ok_ceq dX3_solve_49 (by decide)) ?_
  refine mcons (ok_aload_n dX3_solve_52 rfl) ?_
  refine mcons (ok_getf 11 dX3_solve_53 rfl mX3 (by decide) wq_206 rfl) ?_
  refine mcons (ok_iload_n dX3_solve_56 rfl) ?_
  refine mcons (ok_lald dX3_solve_57) ?_
  refine mcons (ok_goto dX3_solve_58 (by decide)) ?_
  refine mcons (ok_iload_n dX3_solve_61 rfl) ?_
  refine mcons (ok_iconst dX3_solve_62 (by decide)) ?_
  refine mcons (ok_idiv dX3_solve_63) ?_
  refine mcons (ok_aload_n dX3_solve_64 rfl) ?_
  refine mcons (ok_getf 0 dX3_solve_65 rfl mX3 (by decide) wq_165 rfl) ?_
  refine mcons (ok_cge dX3_solve_68 (by decide)) ?_
  refine mcons (ok_aload_n dX3_solve_71 rfl) ?_
  refine mcons (ok_getf 9 dX3_solve_72 rfl mX3 (by decide) wq_222 rfl) ?_
  refine mcons (ok_iconst dX3_solve_75 (by decide)) ?_
  refine mcons (ok_iload_n dX3_solve_76 rfl) ?_
  refine mcons (ok_imul dX3_solve_77) ?_
  refine mcons (ok_iload_n dX3_solve_78 rfl) ?_
  refine mcons (ok_iconst dX3_solve_79 (by decide)) ?_
  refine mcons (ok_idiv dX3_solve_80) ?_
  refine mcons (ok_iadd dX3_solve_81) ?_
  refine mcons (ok_iald dX3_solve_82) ?_
  refine mcons (ok_i2l dX3_solve_83) ?_
  refine mcons (ok_goto dX3_solve_84 (by decide)) ?_
  refine mcons (ok_lconst dX3_solve_87 (by decide)) ?_
  refine mcons (ok_last dX3_solve_88) ?_
  refine mcons (ok_iinc dX3_solve_89 (by decide) (by decide)) ?_
  refine mcons (ok_goto dX3_solve_92 (by decide)) ?_
  refine mcons (ok_aload_n dX3_solve_95 rfl) ?_
  refine mcons (ok_getf 14 dX3_solve_96 rfl mX3 (by decide) wq_223 rfl) ?_
  refine mcons (ok_iload_n dX3_solve_99 rfl) ?_
  refine mcons (ok_aload_n dX3_solve_100 rfl) ?_
  refine mcons (ok_getf 13 dX3_solve_101 rfl mX3 (by decide) wq_208 rfl) ?_
  refine mcons (ok_lconst dX3_solve_104 (by decide)) ?_
  refine mcons (ok_lcmp dX3_solve_105) ?_
  refine mcons (ok_ifge dX3_solve_106 (by decide)) ?_
  refine mcons (ok_aload_n dX3_solve_109 rfl) ?_
  refine mcons (ok_lneg dX3_solve_113) ?_
  refine mcons (ok_goto dX3_solve_114 (by decide)) ?_
  refine mcons (ok_aload_n dX3_solve_117 rfl) ?_
  refine mcons (ok_last dX3_solve_121) ?_
  refine mcons (ok_iinc dX3_solve_122 (by decide) (by decide)) ?_
  refine mcons (ok_goto dX3_solve_125 (by decide)) ?_
  exact mnil
abbrev KX3_solve (l : Launch) (D : va_G) (ca : Nat → ClassId) (ad : Nat → Nat) : List Value → mW → Option Value → mW → Prop := mC l 2 yX3_solve cX3_solve 4 none D ca ad
def CFX3_solve (l : Launch) (D : va_G) (ca : Nat → ClassId) (ad : Nat → Nat) (G : mS → Prop) : Prop := mCallV G (KX3_determinant l D ca ad) 110 3 0 ∧ mCallV G (KX3_determinant l D ca ad) 118 3 0
theorem PX3_solve {l : Launch} {D : va_G} {ca : Nat → ClassId} {ad : Nat → Nat} {av : List Value} {w : mW} {w2 : mW} (hlen : (lg_sl av).length ≤ 4) (body : ∀ G : mS → Prop, mTb G tbX3_solve → CFX3_solve l D ca ad G → mRet G none w2 [128] → G (0, lv_args 0 av, [], w)) : KX3_solve l D ca ad av w none w2 :=
  mPackV [128] (by decide +kernel) hlen tkX3_solve (fun p e s m args below meth c A Q hX => ⟨mCallV_ok (T := TX3) (N := 18) hX dX3_solve_110 rfl ⟨wq_214, wq_166, wq_213, by decide +kernel, by decide +kernel, by decide +kernel⟩ wq_215 wq_216 (by decide) (by decide), mCallV_ok (T := TX3) (N := 18) hX dX3_solve_118 rfl ⟨wq_214, wq_166, wq_213, by decide +kernel, by decide +kernel, by decide +kernel⟩ wq_215 wq_216 (by decide) (by decide)⟩) (List.forall_mem_cons.mpr ⟨dX3_solve_128, fun _ h => absurd h List.not_mem_nil⟩) body
/-! X3 entry -/
def tbX3_entry : List (Nat × mR) := [(0, r_aload 1 0), (1, r_iload 2 1), (5, r_ifeq 8 27), (8, r_aload 9 0), (9, r_iload 10 2), (13, r_ifeq 16 27), (16, r_aload 17 0), (17, r_ic 19 6), (19, r_iload 20 1), (20, r_iload 21 2), (24, r_goto 29), (27, r_ic 29 (-1000000))]
theorem tkX3_entry : ∀ q ∈ tbX3_entry, mOk cX3_entry RX3 3 q.1 q.2 := by
  unfold tbX3_entry
  refine mcons (ok_aload_n dX3_entry_0 rfl) ?_
  refine mcons (ok_iload_n dX3_entry_1 rfl) ?_
  refine mcons (ok_ifeq dX3_entry_5 (by decide)) ?_
  refine mcons (ok_aload_n dX3_entry_8 rfl) ?_
  refine mcons (ok_iload_n dX3_entry_9 rfl) ?_
  refine mcons (ok_ifeq dX3_entry_13 (by decide)) ?_
  refine mcons (ok_aload_n dX3_entry_16 rfl) ?_
  refine mcons (ok_bipush dX3_entry_17 (by decide)) ?_
  refine mcons (ok_iload_n dX3_entry_19 rfl) ?_
  refine mcons (ok_iload_n dX3_entry_20 rfl) ?_
  refine mcons (ok_goto dX3_entry_24 (by decide)) ?_
  refine mcons (ok_ldc dX3_entry_27 wq_224) ?_
  exact mnil
abbrev KX3_entry (l : Launch) (D : va_G) (ca : Nat → ClassId) (ad : Nat → Nat) : List Value → mW → Option Value → mW → Prop := mC l 4 yX3_entry cX3_entry 3 (some .int) D ca ad
def CFX3_entry (l : Launch) (D : va_G) (ca : Nat → ClassId) (ad : Nat → Nat) (G : mS → Prop) : Prop := mCallV G (KX3_isMaking l D ca ad) 2 3 1 ∧ mCallV G (KX3_isMaking l D ca ad) 10 3 1 ∧ mCallV G (KX3_entryOf l D ca ad) 21 3 3
theorem PX3_entry {l : Launch} {D : va_G} {ca : Nat → ClassId} {ad : Nat → Nat} {av : List Value} {w : mW} {x : Int32} {w2 : mW} (hlen : (lg_sl av).length ≤ 3) (body : ∀ G : mS → Prop, mTb G tbX3_entry → CFX3_entry l D ca ad G → mRet G (some (.int x)) w2 [29] → G (0, lv_args 0 av, [], w)) : KX3_entry l D ca ad av w (some (.int x)) w2 :=
  mPackI [29] (by decide +kernel) hlen tkX3_entry (fun p e s m args below meth c A Q hX => ⟨mCallV_ok (T := TX3) (N := 18) hX dX3_entry_2 rfl ⟨wq_176, wq_166, wq_175, by decide +kernel, by decide +kernel, by decide +kernel⟩ wq_177 wq_178 (by decide) (by decide), mCallV_ok (T := TX3) (N := 18) hX dX3_entry_10 rfl ⟨wq_176, wq_166, wq_175, by decide +kernel, by decide +kernel, by decide +kernel⟩ wq_177 wq_178 (by decide) (by decide), mCallV_ok (T := TX3) (N := 18) hX dX3_entry_21 rfl ⟨wq_210, wq_166, wq_209, by decide +kernel, by decide +kernel, by decide +kernel⟩ wq_211 wq_212 (by decide) (by decide)⟩) (List.forall_mem_cons.mpr ⟨dX3_entry_29, fun _ h => absurd h List.not_mem_nil⟩) body
/-! X3 worth -/
def tbX3_worth : List (Nat × mR) := [(0, r_aload 1 0), (4, r_aload 5 0), (5, r_getf 8 3 13)]
theorem tkX3_worth : ∀ q ∈ tbX3_worth, mOk cX3_worth RX3 1 q.1 q.2 := by
  unfold tbX3_worth
  refine mcons (ok_aload_n dX3_worth_0 rfl) ?_
  refine mcons (ok_aload_n dX3_worth_4 rfl) ?_
  refine mcons (ok_getf 13 dX3_worth_5 rfl mX3 (by decide) wq_208 rfl) ?_
  exact mnil
abbrev KX3_worth (l : Launch) (D : va_G) (ca : Nat → ClassId) (ad : Nat → Nat) : List Value → mW → Option Value → mW → Prop := mC l 6 yX3_worth cX3_worth 1 (some .long) D ca ad
def CFX3_worth (l : Launch) (D : va_G) (ca : Nat → ClassId) (ad : Nat → Nat) (G : mS → Prop) : Prop := mCallV G (KX3_layNow l D ca ad) 1 3 0
theorem PX3_worth {l : Launch} {D : va_G} {ca : Nat → ClassId} {ad : Nat → Nat} {av : List Value} {w : mW} {x : Int64} {w2 : mW} (hlen : (lg_sl av).length ≤ 1) (body : ∀ G : mS → Prop, mTb G tbX3_worth → CFX3_worth l D ca ad G → mRet G (some (.long x)) w2 [8] → G (0, lv_args 0 av, [], w)) : KX3_worth l D ca ad av w (some (.long x)) w2 :=
  mPackL [8] (by decide +kernel) hlen tkX3_worth (fun p e s m args below meth c A Q hX => mCallV_ok (T := TX3) (N := 18) hX dX3_worth_1 rfl ⟨wq_226, wq_166, wq_225, by decide +kernel, by decide +kernel, by decide +kernel⟩ wq_227 wq_228 (by decide) (by decide)) (List.forall_mem_cons.mpr ⟨dX3_worth_8, fun _ h => absurd h List.not_mem_nil⟩) body
/-! X3 put -/
def tbX3_put : List (Nat × mR) := [(0, r_iload 1 1), (4, r_ifeq 7 15), (7, r_aload 8 0), (8, r_iload 9 2), (12, r_ifne 15 18), (15, r_ic 17 (-101)), (18, r_iload 19 3), (19, r_ic 20 0), (20, r_ic 22 20), (25, r_ifne 28 31), (28, r_ic 30 (-102)), (31, r_aload 32 0), (32, r_getf 35 3 9), (35, r_ic 36 4), (36, r_iload 37 1), (37, r_ii 38 (fun x y => x * y)), (38, r_iload 39 2), (39, r_ii 40 (fun x y => x + y)), (40, r_iald 41), (41, r_istore 43 4), (43, r_aload 44 0), (44, r_getf 47 3 9), (47, r_ic 48 4), (48, r_iload 49 1), (49, r_ii 50 (fun x y => x * y)), (50, r_iload 51 2), (51, r_ii 52 (fun x y => x + y)), (52, r_iload 53 3), (53, r_iast 54), (54, r_iload 56 4)]
theorem tkX3_put : ∀ q ∈ tbX3_put, mOk cX3_put RX3 5 q.1 q.2 := by
  unfold tbX3_put
  refine mcons (ok_iload_n dX3_put_0 rfl) ?_
  refine mcons (ok_ifeq dX3_put_4 (by decide)) ?_
  refine mcons (ok_aload_n dX3_put_7 rfl) ?_
  refine mcons (ok_iload_n dX3_put_8 rfl) ?_
  refine mcons (ok_ifne dX3_put_12 (by decide)) ?_
  refine mcons (ok_bipush dX3_put_15 (by decide)) ?_
  refine mcons (ok_iload_n dX3_put_18 rfl) ?_
  refine mcons (ok_iconst dX3_put_19 (by decide)) ?_
  refine mcons (ok_bipush dX3_put_20 (by decide)) ?_
  refine mcons (ok_ifne dX3_put_25 (by decide)) ?_
  refine mcons (ok_bipush dX3_put_28 (by decide)) ?_
  refine mcons (ok_aload_n dX3_put_31 rfl) ?_
  refine mcons (ok_getf 9 dX3_put_32 rfl mX3 (by decide) wq_222 rfl) ?_
  refine mcons (ok_iconst dX3_put_35 (by decide)) ?_
  refine mcons (ok_iload_n dX3_put_36 rfl) ?_
  refine mcons (ok_imul dX3_put_37) ?_
  refine mcons (ok_iload_n dX3_put_38 rfl) ?_
  refine mcons (ok_iadd dX3_put_39) ?_
  refine mcons (ok_iald dX3_put_40) ?_
  refine mcons (ok_istore dX3_put_41 (by decide)) ?_
  refine mcons (ok_aload_n dX3_put_43 rfl) ?_
  refine mcons (ok_getf 9 dX3_put_44 rfl mX3 (by decide) wq_222 rfl) ?_
  refine mcons (ok_iconst dX3_put_47 (by decide)) ?_
  refine mcons (ok_iload_n dX3_put_48 rfl) ?_
  refine mcons (ok_imul dX3_put_49) ?_
  refine mcons (ok_iload_n dX3_put_50 rfl) ?_
  refine mcons (ok_iadd dX3_put_51) ?_
  refine mcons (ok_iload_n dX3_put_52 rfl) ?_
  refine mcons (ok_iast dX3_put_53) ?_
  refine mcons (ok_iload dX3_put_54) ?_
  exact mnil
abbrev KX3_put (l : Launch) (D : va_G) (ca : Nat → ClassId) (ad : Nat → Nat) : List Value → mW → Option Value → mW → Prop := mC l 2 yX3_put cX3_put 5 (some .int) D ca ad
def CFX3_put (l : Launch) (D : va_G) (ca : Nat → ClassId) (ad : Nat → Nat) (G : mS → Prop) : Prop := mCallS G (KX3_isBasket l D ca ad) 1 1 ∧ mCallV G (KX3_isMaking l D ca ad) 9 3 1 ∧ mCallS G (KX3_in l D ca ad) 22 3
theorem PX3_put {l : Launch} {D : va_G} {ca : Nat → ClassId} {ad : Nat → Nat} {av : List Value} {w : mW} {x : Int32} {w2 : mW} (hlen : (lg_sl av).length ≤ 5) (body : ∀ G : mS → Prop, mTb G tbX3_put → CFX3_put l D ca ad G → mRet G (some (.int x)) w2 [17, 30, 56] → G (0, lv_args 0 av, [], w)) : KX3_put l D ca ad av w (some (.int x)) w2 :=
  mPackI [17, 30, 56] (by decide +kernel) hlen tkX3_put (fun p e s m args below meth c A Q hX => ⟨mCallS_ok hX dX3_put_1 ⟨wq_230, wq_166, wq_229, by decide +kernel, by decide +kernel, by decide +kernel⟩ wq_231 (by decide) (by decide), mCallV_ok (T := TX3) (N := 18) hX dX3_put_9 rfl ⟨wq_176, wq_166, wq_175, by decide +kernel, by decide +kernel, by decide +kernel⟩ wq_177 wq_178 (by decide) (by decide), mCallS_ok hX dX3_put_22 ⟨wq_168, wq_166, wq_167, by decide +kernel, by decide +kernel, by decide +kernel⟩ wq_169 (by decide) (by decide)⟩) (List.forall_mem_cons.mpr ⟨dX3_put_17, List.forall_mem_cons.mpr ⟨dX3_put_30, List.forall_mem_cons.mpr ⟨dX3_put_56, fun _ h => absurd h List.not_mem_nil⟩⟩⟩) body
/-! X3 floor -/
def tbX3_floor : List (Nat × mR) := [(0, r_lload 1 0), (1, r_lload 2 2), (2, r_lld 3 (fun x y => x / y)), (3, r_lstore 5 4), (5, r_lload 6 0), (6, r_lload 7 2), (7, r_lld 8 (fun x y => x - x / y * y)), (8, r_lc 9 0), (9, r_lcmp 10), (10, r_ifge 13 20), (13, r_lload 15 4), (15, r_lc 16 1), (16, r_ll 17 (fun x y => x - y)), (17, r_goto 22), (20, r_lload 22 4)]
theorem tkX3_floor : ∀ q ∈ tbX3_floor, mOk cX3_floor RX3 6 q.1 q.2 := by
  unfold tbX3_floor
  refine mcons (ok_lload_n dX3_floor_0 rfl) ?_
  refine mcons (ok_lload_n dX3_floor_1 rfl) ?_
  refine mcons (ok_ldiv dX3_floor_2) ?_
  refine mcons (ok_lstore dX3_floor_3 (by decide)) ?_
  refine mcons (ok_lload_n dX3_floor_5 rfl) ?_
  refine mcons (ok_lload_n dX3_floor_6 rfl) ?_
  refine mcons (ok_lrem dX3_floor_7) ?_
  refine mcons (ok_lconst dX3_floor_8 (by decide)) ?_
  refine mcons (ok_lcmp dX3_floor_9) ?_
  refine mcons (ok_ifge dX3_floor_10 (by decide)) ?_
  refine mcons (ok_lload dX3_floor_13) ?_
  refine mcons (ok_lconst dX3_floor_15 (by decide)) ?_
  refine mcons (ok_lsub dX3_floor_16) ?_
  refine mcons (ok_goto dX3_floor_17 (by decide)) ?_
  refine mcons (ok_lload dX3_floor_20) ?_
  exact mnil
abbrev KX3_floor (l : Launch) (D : va_G) (ca : Nat → ClassId) (ad : Nat → Nat) : List Value → mW → Option Value → mW → Prop := mC l 0 yX3_floor cX3_floor 6 (some .long) D ca ad
def CFX3_floor (l : Launch) (D : va_G) (ca : Nat → ClassId) (ad : Nat → Nat) (G : mS → Prop) : Prop := True
theorem PX3_floor {l : Launch} {D : va_G} {ca : Nat → ClassId} {ad : Nat → Nat} {av : List Value} {w : mW} {x : Int64} {w2 : mW} (hlen : (lg_sl av).length ≤ 6) (body : ∀ G : mS → Prop, mTb G tbX3_floor → CFX3_floor l D ca ad G → mRet G (some (.long x)) w2 [22] → G (0, lv_args 0 av, [], w)) : KX3_floor l D ca ad av w (some (.long x)) w2 :=
  mPackL [22] (by decide +kernel) hlen tkX3_floor (fun p e s m args below meth c A Q hX => trivial) (List.forall_mem_cons.mpr ⟨dX3_floor_22, fun _ h => absurd h List.not_mem_nil⟩) body
/-! X3 thousandths -/
def tbX3_thousandths : List (Nat × mR) := [(0, r_lload 1 0), (1, r_lload 2 2), (5, r_lstore 7 4), (7, r_lc 10 (1000)), (10, r_lload 12 4), (12, r_ll 13 (fun x y => x * y)), (13, r_lc 16 (1000)), (16, r_lload 17 0), (17, r_lload 19 4), (19, r_lload 20 2), (20, r_ll 21 (fun x y => x * y)), (21, r_ll 22 (fun x y => x - y)), (22, r_ll 23 (fun x y => x * y)), (23, r_lload 24 2), (27, r_ll 28 (fun x y => x + y))]
theorem tkX3_thousandths : ∀ q ∈ tbX3_thousandths, mOk cX3_thousandths RX3 6 q.1 q.2 := by
  unfold tbX3_thousandths
  refine mcons (ok_lload_n dX3_thousandths_0 rfl) ?_
  refine mcons (ok_lload_n dX3_thousandths_1 rfl) ?_
  refine mcons (ok_lstore dX3_thousandths_5 (by decide)) ?_
  refine mcons (ok_ldc2 dX3_thousandths_7 wq_232) ?_
  refine mcons (ok_lload dX3_thousandths_10) ?_
  refine mcons (ok_lmul dX3_thousandths_12) ?_
  refine mcons (ok_ldc2 dX3_thousandths_13 wq_232) ?_
  refine mcons (ok_lload_n dX3_thousandths_16 rfl) ?_
  refine mcons (ok_lload dX3_thousandths_17) ?_
  refine mcons (ok_lload_n dX3_thousandths_19 rfl) ?_
  refine mcons (ok_lmul dX3_thousandths_20) ?_
  refine mcons (ok_lsub dX3_thousandths_21) ?_
  refine mcons (ok_lmul dX3_thousandths_22) ?_
  refine mcons (ok_lload_n dX3_thousandths_23 rfl) ?_
  refine mcons (ok_ladd dX3_thousandths_27) ?_
  exact mnil
abbrev KX3_thousandths (l : Launch) (D : va_G) (ca : Nat → ClassId) (ad : Nat → Nat) : List Value → mW → Option Value → mW → Prop := mC l 1 yX3_thousandths cX3_thousandths 6 (some .long) D ca ad
def CFX3_thousandths (l : Launch) (D : va_G) (ca : Nat → ClassId) (ad : Nat → Nat) (G : mS → Prop) : Prop := mCallS G (KX3_floor l D ca ad) 2 2 ∧ mCallS G (KX3_floor l D ca ad) 24 2
theorem PX3_thousandths {l : Launch} {D : va_G} {ca : Nat → ClassId} {ad : Nat → Nat} {av : List Value} {w : mW} {x : Int64} {w2 : mW} (hlen : (lg_sl av).length ≤ 6) (body : ∀ G : mS → Prop, mTb G tbX3_thousandths → CFX3_thousandths l D ca ad G → mRet G (some (.long x)) w2 [28] → G (0, lv_args 0 av, [], w)) : KX3_thousandths l D ca ad av w (some (.long x)) w2 :=
  mPackL [28] (by decide +kernel) hlen tkX3_thousandths (fun p e s m args below meth c A Q hX => ⟨mCallS_ok hX dX3_thousandths_2 ⟨wq_234, wq_166, wq_233, by decide +kernel, by decide +kernel, by decide +kernel⟩ wq_235 (by decide) (by decide), mCallS_ok hX dX3_thousandths_24 ⟨wq_234, wq_166, wq_233, by decide +kernel, by decide +kernel, by decide +kernel⟩ wq_235 (by decide) (by decide)⟩) (List.forall_mem_cons.mpr ⟨dX3_thousandths_28, fun _ h => absurd h List.not_mem_nil⟩) body
/-! X3 runs -/
def tbX3_runs : List (Nat × mR) := [(0, r_iload 1 1), (4, r_ifeq 7 15), (7, r_aload 8 0), (8, r_iload 9 2), (12, r_ifne 15 19), (15, r_lc 18 (-9000000000000000001)), (19, r_aload 20 0), (23, r_aload 24 0), (24, r_getf 27 3 13), (27, r_lc 28 0), (28, r_lcmp 29), (29, r_ifne 32 36), (32, r_lc 35 (-9000000000000000004)), (36, r_aload 37 0), (37, r_iload 38 1), (41, r_aload 42 0), (42, r_getf 45 3 14), (45, r_iload 46 2), (46, r_lald 47), (47, r_aload 48 0), (48, r_ic 50 6), (50, r_iload 51 2), (54, r_i2l 55), (55, r_ll 56 (fun x y => x * y)), (56, r_aload 57 0), (57, r_getf 60 3 15)]
theorem tkX3_runs : ∀ q ∈ tbX3_runs, mOk cX3_runs RX3 3 q.1 q.2 := by
  unfold tbX3_runs
  refine mcons (ok_iload_n dX3_runs_0 rfl) ?_
  refine mcons (ok_ifeq dX3_runs_4 (by decide)) ?_
  refine mcons (ok_aload_n dX3_runs_7 rfl) ?_
  refine mcons (ok_iload_n dX3_runs_8 rfl) ?_
  refine mcons (ok_ifne dX3_runs_12 (by decide)) ?_
  refine mcons (ok_ldc2 dX3_runs_15 wq_236) ?_
  refine mcons (ok_aload_n dX3_runs_19 rfl) ?_
  refine mcons (ok_aload_n dX3_runs_23 rfl) ?_
  refine mcons (ok_getf 13 dX3_runs_24 rfl mX3 (by decide) wq_208 rfl) ?_
  refine mcons (ok_lconst dX3_runs_27 (by decide)) ?_
  refine mcons (ok_lcmp dX3_runs_28) ?_
  refine mcons (ok_ifne dX3_runs_29 (by decide)) ?_
  refine mcons (ok_ldc2 dX3_runs_32 wq_237) ?_
  refine mcons (ok_aload_n dX3_runs_36 rfl) ?_
  refine mcons (ok_iload_n dX3_runs_37 rfl) ?_
  refine mcons (ok_aload_n dX3_runs_41 rfl) ?_
  refine mcons (ok_getf 14 dX3_runs_42 rfl mX3 (by decide) wq_223 rfl) ?_
  refine mcons (ok_iload_n dX3_runs_45 rfl) ?_
  refine mcons (ok_lald dX3_runs_46) ?_
  refine mcons (ok_aload_n dX3_runs_47 rfl) ?_
  refine mcons (ok_bipush dX3_runs_48 (by decide)) ?_
  refine mcons (ok_iload_n dX3_runs_50 rfl) ?_
  refine mcons (ok_i2l dX3_runs_54) ?_
  refine mcons (ok_lmul dX3_runs_55) ?_
  refine mcons (ok_aload_n dX3_runs_56 rfl) ?_
  refine mcons (ok_getf 15 dX3_runs_57 rfl mX3 (by decide) wq_221 rfl) ?_
  exact mnil
abbrev KX3_runs (l : Launch) (D : va_G) (ca : Nat → ClassId) (ad : Nat → Nat) : List Value → mW → Option Value → mW → Prop := mC l 6 yX3_runs cX3_runs 3 (some .long) D ca ad
def CFX3_runs (l : Launch) (D : va_G) (ca : Nat → ClassId) (ad : Nat → Nat) (G : mS → Prop) : Prop := mCallS G (KX3_isBasket l D ca ad) 1 1 ∧ mCallV G (KX3_isMaking l D ca ad) 9 3 1 ∧ mCallV G (KX3_layNow l D ca ad) 20 3 0 ∧ mCallV G (KX3_solve l D ca ad) 38 3 1 ∧ mCallV G (KX3_allOf l D ca ad) 51 3 2 ∧ mCallS G (KX3_thousandths l D ca ad) 60 2
theorem PX3_runs {l : Launch} {D : va_G} {ca : Nat → ClassId} {ad : Nat → Nat} {av : List Value} {w : mW} {x : Int64} {w2 : mW} (hlen : (lg_sl av).length ≤ 3) (body : ∀ G : mS → Prop, mTb G tbX3_runs → CFX3_runs l D ca ad G → mRet G (some (.long x)) w2 [18, 35, 63] → G (0, lv_args 0 av, [], w)) : KX3_runs l D ca ad av w (some (.long x)) w2 :=
  mPackL [18, 35, 63] (by decide +kernel) hlen tkX3_runs (fun p e s m args below meth c A Q hX => ⟨mCallS_ok hX dX3_runs_1 ⟨wq_230, wq_166, wq_229, by decide +kernel, by decide +kernel, by decide +kernel⟩ wq_231 (by decide) (by decide), mCallV_ok (T := TX3) (N := 18) hX dX3_runs_9 rfl ⟨wq_176, wq_166, wq_175, by decide +kernel, by decide +kernel, by decide +kernel⟩ wq_177 wq_178 (by decide) (by decide), mCallV_ok (T := TX3) (N := 18) hX dX3_runs_20 rfl ⟨wq_226, wq_166, wq_225, by decide +kernel, by decide +kernel, by decide +kernel⟩ wq_227 wq_228 (by decide) (by decide), mCallV_ok (T := TX3) (N := 18) hX dX3_runs_38 rfl ⟨wq_239, wq_166, wq_238, by decide +kernel, by decide +kernel, by decide +kernel⟩ wq_240 wq_241 (by decide) (by decide), mCallV_ok (T := TX3) (N := 18) hX dX3_runs_51 rfl ⟨wq_194, wq_166, wq_193, by decide +kernel, by decide +kernel, by decide +kernel⟩ wq_195 wq_196 (by decide) (by decide), mCallS_ok hX dX3_runs_60 ⟨wq_243, wq_166, wq_242, by decide +kernel, by decide +kernel, by decide +kernel⟩ wq_244 (by decide) (by decide)⟩) (List.forall_mem_cons.mpr ⟨dX3_runs_18, List.forall_mem_cons.mpr ⟨dX3_runs_35, List.forall_mem_cons.mpr ⟨dX3_runs_63, fun _ h => absurd h List.not_mem_nil⟩⟩⟩) body
/-! X3 emission -/
def tbX3_emission : List (Nat × mR) := [(0, r_aload 1 0), (1, r_getf 4 3 8), (4, r_ic 6 36), (6, r_aload 7 0), (7, r_getf 10 3 10), (10, r_iload 11 1), (11, r_iald 12), (12, r_ii 13 (fun x y => x * y)), (13, r_ic 15 9), (15, r_iload 16 1), (16, r_ii 17 (fun x y => x * y)), (17, r_ii 18 (fun x y => x + y)), (18, r_ic 19 3), (19, r_iload 20 3), (20, r_ii 21 (fun x y => x * y)), (21, r_ii 22 (fun x y => x + y)), (22, r_iload 23 2), (23, r_ii 24 (fun x y => x + y)), (24, r_iald 25), (25, r_i2l 26), (26, r_aload 27 0), (27, r_aload 28 0), (28, r_getf 31 3 10), (31, r_iload 32 1), (32, r_iald 33), (33, r_iload 34 1), (37, r_i2l 38), (38, r_ll 39 (fun x y => x * y))]
theorem tkX3_emission : ∀ q ∈ tbX3_emission, mOk cX3_emission RX3 4 q.1 q.2 := by
  unfold tbX3_emission
  refine mcons (ok_aload_n dX3_emission_0 rfl) ?_
  refine mcons (ok_getf 8 dX3_emission_1 rfl mX3 (by decide) wq_181 rfl) ?_
  refine mcons (ok_bipush dX3_emission_4 (by decide)) ?_
  refine mcons (ok_aload_n dX3_emission_6 rfl) ?_
  refine mcons (ok_getf 10 dX3_emission_7 rfl mX3 (by decide) wq_207 rfl) ?_
  refine mcons (ok_iload_n dX3_emission_10 rfl) ?_
  refine mcons (ok_iald dX3_emission_11) ?_
  refine mcons (ok_imul dX3_emission_12) ?_
  refine mcons (ok_bipush dX3_emission_13 (by decide)) ?_
  refine mcons (ok_iload_n dX3_emission_15 rfl) ?_
  refine mcons (ok_imul dX3_emission_16) ?_
  refine mcons (ok_iadd dX3_emission_17) ?_
  refine mcons (ok_iconst dX3_emission_18 (by decide)) ?_
  refine mcons (ok_iload_n dX3_emission_19 rfl) ?_
  refine mcons (ok_imul dX3_emission_20) ?_
  refine mcons (ok_iadd dX3_emission_21) ?_
  refine mcons (ok_iload_n dX3_emission_22 rfl) ?_
  refine mcons (ok_iadd dX3_emission_23) ?_
  refine mcons (ok_iald dX3_emission_24) ?_
  refine mcons (ok_i2l dX3_emission_25) ?_
  refine mcons (ok_aload_n dX3_emission_26 rfl) ?_
  refine mcons (ok_aload_n dX3_emission_27 rfl) ?_
  refine mcons (ok_getf 10 dX3_emission_28 rfl mX3 (by decide) wq_207 rfl) ?_
  refine mcons (ok_iload_n dX3_emission_31 rfl) ?_
  refine mcons (ok_iald dX3_emission_32) ?_
  refine mcons (ok_iload_n dX3_emission_33 rfl) ?_
  refine mcons (ok_i2l dX3_emission_37) ?_
  refine mcons (ok_lmul dX3_emission_38) ?_
  exact mnil
abbrev KX3_emission (l : Launch) (D : va_G) (ca : Nat → ClassId) (ad : Nat → Nat) : List Value → mW → Option Value → mW → Prop := mC l 2 yX3_emission cX3_emission 4 (some .long) D ca ad
def CFX3_emission (l : Launch) (D : va_G) (ca : Nat → ClassId) (ad : Nat → Nat) (G : mS → Prop) : Prop := mCallV G (KX3_mainOf l D ca ad) 34 3 2
theorem PX3_emission {l : Launch} {D : va_G} {ca : Nat → ClassId} {ad : Nat → Nat} {av : List Value} {w : mW} {x : Int64} {w2 : mW} (hlen : (lg_sl av).length ≤ 4) (body : ∀ G : mS → Prop, mTb G tbX3_emission → CFX3_emission l D ca ad G → mRet G (some (.long x)) w2 [39] → G (0, lv_args 0 av, [], w)) : KX3_emission l D ca ad av w (some (.long x)) w2 :=
  mPackL [39] (by decide +kernel) hlen tkX3_emission (fun p e s m args below meth c A Q hX => mCallV_ok (T := TX3) (N := 18) hX dX3_emission_34 rfl ⟨wq_190, wq_166, wq_189, by decide +kernel, by decide +kernel, by decide +kernel⟩ wq_191 wq_192 (by decide) (by decide)) (List.forall_mem_cons.mpr ⟨dX3_emission_39, fun _ h => absurd h List.not_mem_nil⟩) body
/-! X3 sum -/
def tbX3_sum : List (Nat × mR) := [(0, r_lc 1 0), (1, r_lstore 2 3), (2, r_ic 3 0), (3, r_istore 5 5), (5, r_iload 7 5), (7, r_aload 8 0), (8, r_getf 11 3 0), (11, r_cge 14 70), (14, r_iload 15 2), (15, r_ic 16 1), (16, r_cne 19 23), (19, r_ic 20 1), (20, r_goto 42), (23, r_aload 24 0), (24, r_getf 27 3 14), (27, r_iload 29 5), (29, r_lald 30), (30, r_lc 31 0), (31, r_lcmp 32), (32, r_ifge 35 41), (35, r_ic 36 2), (36, r_iload 37 2), (37, r_ii 38 (fun x y => x - y)), (38, r_goto 42), (41, r_iload 42 2), (42, r_istore 44 6), (44, r_lload 45 3), (45, r_aload 46 0), (46, r_iload 48 5), (48, r_iload 49 1), (49, r_iload 51 6), (54, r_aload 55 0), (55, r_getf 58 3 14), (58, r_iload 60 5), (60, r_lald 61), (61, r_ll 62 (fun x y => x * y)), (62, r_ll 63 (fun x y => x + y)), (63, r_lstore 64 3), (64, r_iinc 67 5 1), (67, r_goto 5), (70, r_lload 71 3)]
theorem tkX3_sum : ∀ q ∈ tbX3_sum, mOk cX3_sum RX3 7 q.1 q.2 := by
  unfold tbX3_sum
  refine mcons (ok_lconst dX3_sum_0 (by decide)) ?_
  refine mcons (ok_lstore_n dX3_sum_1 rfl (by decide)) ?_
  refine mcons (ok_iconst dX3_sum_2 (by decide)) ?_
  refine mcons (ok_istore dX3_sum_3 (by decide)) ?_
  refine mcons (ok_iload dX3_sum_5) ?_
  refine mcons (ok_aload_n dX3_sum_7 rfl) ?_
  refine mcons (ok_getf 0 dX3_sum_8 rfl mX3 (by decide) wq_165 rfl) ?_
  refine mcons (ok_cge dX3_sum_11 (by decide)) ?_
  refine mcons (ok_iload_n dX3_sum_14 rfl) ?_
  refine mcons (ok_iconst dX3_sum_15 (by decide)) ?_
  refine mcons (ok_cne dX3_sum_16 (by decide)) ?_
  refine mcons (ok_iconst dX3_sum_19 (by decide)) ?_
  refine mcons (ok_goto dX3_sum_20 (by decide)) ?_
  refine mcons (ok_aload_n dX3_sum_23 rfl) ?_
  refine mcons (ok_getf 14 dX3_sum_24 rfl mX3 (by decide) wq_223 rfl) ?_
  refine mcons (ok_iload dX3_sum_27) ?_
  refine mcons (ok_lald dX3_sum_29) ?_
  refine mcons (ok_lconst dX3_sum_30 (by decide)) ?_
  refine mcons (ok_lcmp dX3_sum_31) ?_
  refine mcons (ok_ifge dX3_sum_32 (by decide)) ?_
  refine mcons (ok_iconst dX3_sum_35 (by decide)) ?_
  refine mcons (ok_iload_n dX3_sum_36 rfl) ?_
  refine mcons (ok_isub dX3_sum_37) ?_
  refine mcons (ok_goto dX3_sum_38 (by decide)) ?_
  refine mcons (ok_iload_n dX3_sum_41 rfl) ?_
  refine mcons (ok_istore dX3_sum_42 (by decide)) ?_
  refine mcons (ok_lload_n dX3_sum_44 rfl) ?_
  refine mcons (ok_aload_n dX3_sum_45 rfl) ?_
  refine mcons (ok_iload dX3_sum_46) ?_
  refine mcons (ok_iload_n dX3_sum_48 rfl) ?_
  refine mcons (ok_iload dX3_sum_49) ?_
  refine mcons (ok_aload_n dX3_sum_54 rfl) ?_
  refine mcons (ok_getf 14 dX3_sum_55 rfl mX3 (by decide) wq_223 rfl) ?_
  refine mcons (ok_iload dX3_sum_58) ?_
  refine mcons (ok_lald dX3_sum_60) ?_
  refine mcons (ok_lmul dX3_sum_61) ?_
  refine mcons (ok_ladd dX3_sum_62) ?_
  refine mcons (ok_lstore_n dX3_sum_63 rfl (by decide)) ?_
  refine mcons (ok_iinc dX3_sum_64 (by decide) (by decide)) ?_
  refine mcons (ok_goto dX3_sum_67 (by decide)) ?_
  refine mcons (ok_lload_n dX3_sum_70 rfl) ?_
  exact mnil
abbrev KX3_sum (l : Launch) (D : va_G) (ca : Nat → ClassId) (ad : Nat → Nat) : List Value → mW → Option Value → mW → Prop := mC l 3 yX3_sum cX3_sum 7 (some .long) D ca ad
def CFX3_sum (l : Launch) (D : va_G) (ca : Nat → ClassId) (ad : Nat → Nat) (G : mS → Prop) : Prop := mCallV G (KX3_emission l D ca ad) 51 3 3
theorem PX3_sum {l : Launch} {D : va_G} {ca : Nat → ClassId} {ad : Nat → Nat} {av : List Value} {w : mW} {x : Int64} {w2 : mW} (hlen : (lg_sl av).length ≤ 7) (body : ∀ G : mS → Prop, mTb G tbX3_sum → CFX3_sum l D ca ad G → mRet G (some (.long x)) w2 [71] → G (0, lv_args 0 av, [], w)) : KX3_sum l D ca ad av w (some (.long x)) w2 :=
  mPackL [71] (by decide +kernel) hlen tkX3_sum (fun p e s m args below meth c A Q hX => mCallV_ok (T := TX3) (N := 18) hX dX3_sum_51 rfl ⟨wq_246, wq_166, wq_245, by decide +kernel, by decide +kernel, by decide +kernel⟩ wq_247 wq_248 (by decide) (by decide)) (List.forall_mem_cons.mpr ⟨dX3_sum_71, fun _ h => absurd h List.not_mem_nil⟩) body
/-! X3 common -/
def tbX3_common : List (Nat × mR) := [(0, r_lload 1 0), (1, r_lc 2 0), (2, r_lcmp 3), (3, r_ifge 6 11), (6, r_lload 7 0), (7, r_lneg 8), (8, r_goto 12), (11, r_lload 12 0), (12, r_lstore 14 4), (14, r_lload 15 2), (15, r_lstore 17 6), (17, r_lload 19 6), (19, r_lc 20 0), (20, r_lcmp 21), (21, r_ifeq 24 42), (24, r_lload 26 4), (26, r_lload 28 6), (28, r_lld 29 (fun x y => x - x / y * y)), (29, r_lstore 31 8), (31, r_lload 33 6), (33, r_lstore 35 4), (35, r_lload 37 8), (37, r_lstore 39 6), (39, r_goto 17), (42, r_lload 44 4)]
theorem tkX3_common : ∀ q ∈ tbX3_common, mOk cX3_common RX3 10 q.1 q.2 := by
  unfold tbX3_common
  refine mcons (ok_lload_n dX3_common_0 rfl) ?_
  refine mcons (ok_lconst dX3_common_1 (by decide)) ?_
  refine mcons (ok_lcmp dX3_common_2) ?_
  refine mcons (ok_ifge dX3_common_3 (by decide)) ?_
  refine mcons (ok_lload_n dX3_common_6 rfl) ?_
  refine mcons (ok_lneg dX3_common_7) ?_
  refine mcons (ok_goto dX3_common_8 (by decide)) ?_
  refine mcons (ok_lload_n dX3_common_11 rfl) ?_
  refine mcons (ok_lstore dX3_common_12 (by decide)) ?_
  refine mcons (ok_lload_n dX3_common_14 rfl) ?_
  refine mcons (ok_lstore dX3_common_15 (by decide)) ?_
  refine mcons (ok_lload dX3_common_17) ?_
  refine mcons (ok_lconst dX3_common_19 (by decide)) ?_
  refine mcons (ok_lcmp dX3_common_20) ?_
  refine mcons (ok_ifeq dX3_common_21 (by decide)) ?_
  refine mcons (ok_lload dX3_common_24) ?_
  refine mcons (ok_lload dX3_common_26) ?_
  refine mcons (ok_lrem dX3_common_28) ?_
  refine mcons (ok_lstore dX3_common_29 (by decide)) ?_
  refine mcons (ok_lload dX3_common_31) ?_
  refine mcons (ok_lstore dX3_common_33 (by decide)) ?_
  refine mcons (ok_lload dX3_common_35) ?_
  refine mcons (ok_lstore dX3_common_37 (by decide)) ?_
  refine mcons (ok_goto dX3_common_39 (by decide)) ?_
  refine mcons (ok_lload dX3_common_42) ?_
  exact mnil
abbrev KX3_common (l : Launch) (D : va_G) (ca : Nat → ClassId) (ad : Nat → Nat) : List Value → mW → Option Value → mW → Prop := mC l 0 yX3_common cX3_common 10 (some .long) D ca ad
def CFX3_common (l : Launch) (D : va_G) (ca : Nat → ClassId) (ad : Nat → Nat) (G : mS → Prop) : Prop := True
theorem PX3_common {l : Launch} {D : va_G} {ca : Nat → ClassId} {ad : Nat → Nat} {av : List Value} {w : mW} {x : Int64} {w2 : mW} (hlen : (lg_sl av).length ≤ 10) (body : ∀ G : mS → Prop, mTb G tbX3_common → CFX3_common l D ca ad G → mRet G (some (.long x)) w2 [44] → G (0, lv_args 0 av, [], w)) : KX3_common l D ca ad av w (some (.long x)) w2 :=
  mPackL [44] (by decide +kernel) hlen tkX3_common (fun p e s m args below meth c A Q hX => trivial) (List.forall_mem_cons.mpr ⟨dX3_common_44, fun _ h => absurd h List.not_mem_nil⟩) body
/-! X3 total -/
def tbX3_total : List (Nat × mR) := [(0, r_iload 1 1), (4, r_ifeq 7 14), (7, r_iload 8 2), (11, r_ifne 14 18), (14, r_lc 17 (-9000000000000000001)), (18, r_iload 19 3), (19, r_ic 20 0), (20, r_ic 21 2), (24, r_ifeq 27 37), (27, r_iload 29 4), (29, r_ic 30 0), (30, r_ic 31 1), (34, r_ifne 37 41), (37, r_lc 40 (-9000000000000000002)), (41, r_aload 42 0), (45, r_aload 46 0), (46, r_getf 49 3 13), (49, r_lc 50 0), (50, r_lcmp 51), (51, r_ifne 54 58), (54, r_lc 57 (-9000000000000000004)), (58, r_aload 59 0), (59, r_iload 60 1), (63, r_aload 64 0), (64, r_iload 65 2), (65, r_iload 66 3), (69, r_lstore 71 5), (71, r_lload 73 5), (73, r_aload 74 0), (74, r_getf 77 3 15), (80, r_lstore 82 7), (82, r_iload 84 4), (84, r_ifne 87 95), (87, r_lload 89 5), (89, r_lload 91 7), (91, r_lld 92 (fun x y => x / y)), (92, r_goto 102), (95, r_aload 96 0), (96, r_getf 99 3 15), (99, r_lload 101 7), (101, r_lld 102 (fun x y => x / y))]
theorem tkX3_total : ∀ q ∈ tbX3_total, mOk cX3_total RX3 9 q.1 q.2 := by
  unfold tbX3_total
  refine mcons (ok_iload_n dX3_total_0 rfl) ?_
  refine mcons (ok_ifeq dX3_total_4 (by decide)) ?_
  refine mcons (ok_iload_n dX3_total_7 rfl) ?_
  refine mcons (ok_ifne dX3_total_11 (by decide)) ?_
  refine mcons (ok_ldc2 dX3_total_14 wq_236) ?_
  refine mcons (ok_iload_n dX3_total_18 rfl) ?_
  refine mcons (ok_iconst dX3_total_19 (by decide)) ?_
  refine mcons (ok_iconst dX3_total_20 (by decide)) ?_
  refine mcons (ok_ifeq dX3_total_24 (by decide)) ?_
  refine mcons (ok_iload dX3_total_27) ?_
  refine mcons (ok_iconst dX3_total_29 (by decide)) ?_
  refine mcons (ok_iconst dX3_total_30 (by decide)) ?_
  refine mcons (ok_ifne dX3_total_34 (by decide)) ?_
  refine mcons (ok_ldc2 dX3_total_37 wq_249) ?_
  refine mcons (ok_aload_n dX3_total_41 rfl) ?_
  refine mcons (ok_aload_n dX3_total_45 rfl) ?_
  refine mcons (ok_getf 13 dX3_total_46 rfl mX3 (by decide) wq_208 rfl) ?_
  refine mcons (ok_lconst dX3_total_49 (by decide)) ?_
  refine mcons (ok_lcmp dX3_total_50) ?_
  refine mcons (ok_ifne dX3_total_51 (by decide)) ?_
  refine mcons (ok_ldc2 dX3_total_54 wq_237) ?_
  refine mcons (ok_aload_n dX3_total_58 rfl) ?_
  refine mcons (ok_iload_n dX3_total_59 rfl) ?_
  refine mcons (ok_aload_n dX3_total_63 rfl) ?_
  refine mcons (ok_iload_n dX3_total_64 rfl) ?_
  refine mcons (ok_iload_n dX3_total_65 rfl) ?_
  refine mcons (ok_lstore dX3_total_69 (by decide)) ?_
  refine mcons (ok_lload dX3_total_71) ?_
  refine mcons (ok_aload_n dX3_total_73 rfl) ?_
  refine mcons (ok_getf 15 dX3_total_74 rfl mX3 (by decide) wq_221 rfl) ?_
  refine mcons (ok_lstore dX3_total_80 (by decide)) ?_
  refine mcons (ok_iload dX3_total_82) ?_
  refine mcons (ok_ifne dX3_total_84 (by decide)) ?_
  refine mcons (ok_lload dX3_total_87) ?_
  refine mcons (ok_lload dX3_total_89) ?_
  refine mcons (ok_ldiv dX3_total_91) ?_
  refine mcons (ok_goto dX3_total_92 (by decide)) ?_
  refine mcons (ok_aload_n dX3_total_95 rfl) ?_
  refine mcons (ok_getf 15 dX3_total_96 rfl mX3 (by decide) wq_221 rfl) ?_
  refine mcons (ok_lload dX3_total_99) ?_
  refine mcons (ok_ldiv dX3_total_101) ?_
  exact mnil
abbrev KX3_total (l : Launch) (D : va_G) (ca : Nat → ClassId) (ad : Nat → Nat) : List Value → mW → Option Value → mW → Prop := mC l 6 yX3_total cX3_total 9 (some .long) D ca ad
def CFX3_total (l : Launch) (D : va_G) (ca : Nat → ClassId) (ad : Nat → Nat) (G : mS → Prop) : Prop := mCallS G (KX3_isBasket l D ca ad) 1 1 ∧ mCallS G (KX3_isStuff l D ca ad) 8 1 ∧ mCallS G (KX3_in l D ca ad) 21 3 ∧ mCallS G (KX3_in l D ca ad) 31 3 ∧ mCallV G (KX3_layNow l D ca ad) 42 3 0 ∧ mCallV G (KX3_solve l D ca ad) 60 3 1 ∧ mCallV G (KX3_sum l D ca ad) 66 3 2 ∧ mCallS G (KX3_common l D ca ad) 77 2
theorem PX3_total {l : Launch} {D : va_G} {ca : Nat → ClassId} {ad : Nat → Nat} {av : List Value} {w : mW} {x : Int64} {w2 : mW} (hlen : (lg_sl av).length ≤ 9) (body : ∀ G : mS → Prop, mTb G tbX3_total → CFX3_total l D ca ad G → mRet G (some (.long x)) w2 [17, 40, 57, 102] → G (0, lv_args 0 av, [], w)) : KX3_total l D ca ad av w (some (.long x)) w2 :=
  mPackL [17, 40, 57, 102] (by decide +kernel) hlen tkX3_total (fun p e s m args below meth c A Q hX => ⟨mCallS_ok hX dX3_total_1 ⟨wq_230, wq_166, wq_229, by decide +kernel, by decide +kernel, by decide +kernel⟩ wq_231 (by decide) (by decide), mCallS_ok hX dX3_total_8 ⟨wq_183, wq_166, wq_182, by decide +kernel, by decide +kernel, by decide +kernel⟩ wq_184 (by decide) (by decide), mCallS_ok hX dX3_total_21 ⟨wq_168, wq_166, wq_167, by decide +kernel, by decide +kernel, by decide +kernel⟩ wq_169 (by decide) (by decide), mCallS_ok hX dX3_total_31 ⟨wq_168, wq_166, wq_167, by decide +kernel, by decide +kernel, by decide +kernel⟩ wq_169 (by decide) (by decide), mCallV_ok (T := TX3) (N := 18) hX dX3_total_42 rfl ⟨wq_226, wq_166, wq_225, by decide +kernel, by decide +kernel, by decide +kernel⟩ wq_227 wq_228 (by decide) (by decide), mCallV_ok (T := TX3) (N := 18) hX dX3_total_60 rfl ⟨wq_239, wq_166, wq_238, by decide +kernel, by decide +kernel, by decide +kernel⟩ wq_240 wq_241 (by decide) (by decide), mCallV_ok (T := TX3) (N := 18) hX dX3_total_66 rfl ⟨wq_251, wq_166, wq_250, by decide +kernel, by decide +kernel, by decide +kernel⟩ wq_252 wq_253 (by decide) (by decide), mCallS_ok hX dX3_total_77 ⟨wq_255, wq_166, wq_254, by decide +kernel, by decide +kernel, by decide +kernel⟩ wq_256 (by decide) (by decide)⟩) (List.forall_mem_cons.mpr ⟨dX3_total_17, List.forall_mem_cons.mpr ⟨dX3_total_40, List.forall_mem_cons.mpr ⟨dX3_total_57, List.forall_mem_cons.mpr ⟨dX3_total_102, fun _ h => absurd h List.not_mem_nil⟩⟩⟩⟩) body
/-! X3 share -/
def tbX3_share : List (Nat × mR) := [(0, r_iload 1 1), (4, r_ifeq 7 22), (7, r_iload 8 2), (11, r_ifeq 14 22), (14, r_aload 15 0), (15, r_iload 16 3), (19, r_ifne 22 26), (22, r_lc 25 (-9000000000000000001)), (26, r_aload 27 0), (30, r_aload 31 0), (31, r_getf 34 3 13), (34, r_lc 35 0), (35, r_lcmp 36), (36, r_ifne 39 43), (39, r_lc 42 (-9000000000000000004)), (43, r_aload 44 0), (44, r_iload 45 1), (48, r_aload 49 0), (49, r_iload 50 3), (50, r_iload 51 2), (51, r_ic 52 1), (55, r_aload 56 0), (56, r_getf 59 3 14), (59, r_iload 60 3), (60, r_lald 61), (61, r_ll 62 (fun x y => x * y)), (62, r_aload 63 0), (63, r_getf 66 3 15)]
theorem tkX3_share : ∀ q ∈ tbX3_share, mOk cX3_share RX3 4 q.1 q.2 := by
  unfold tbX3_share
  refine mcons (ok_iload_n dX3_share_0 rfl) ?_
  refine mcons (ok_ifeq dX3_share_4 (by decide)) ?_
  refine mcons (ok_iload_n dX3_share_7 rfl) ?_
  refine mcons (ok_ifeq dX3_share_11 (by decide)) ?_
  refine mcons (ok_aload_n dX3_share_14 rfl) ?_
  refine mcons (ok_iload_n dX3_share_15 rfl) ?_
  refine mcons (ok_ifne dX3_share_19 (by decide)) ?_
  refine mcons (ok_ldc2 dX3_share_22 wq_236) ?_
  refine mcons (ok_aload_n dX3_share_26 rfl) ?_
  refine mcons (ok_aload_n dX3_share_30 rfl) ?_
  refine mcons (ok_getf 13 dX3_share_31 rfl mX3 (by decide) wq_208 rfl) ?_
  refine mcons (ok_lconst dX3_share_34 (by decide)) ?_
  refine mcons (ok_lcmp dX3_share_35) ?_
  refine mcons (ok_ifne dX3_share_36 (by decide)) ?_
  refine mcons (ok_ldc2 dX3_share_39 wq_237) ?_
  refine mcons (ok_aload_n dX3_share_43 rfl) ?_
  refine mcons (ok_iload_n dX3_share_44 rfl) ?_
  refine mcons (ok_aload_n dX3_share_48 rfl) ?_
  refine mcons (ok_iload_n dX3_share_49 rfl) ?_
  refine mcons (ok_iload_n dX3_share_50 rfl) ?_
  refine mcons (ok_iconst dX3_share_51 (by decide)) ?_
  refine mcons (ok_aload_n dX3_share_55 rfl) ?_
  refine mcons (ok_getf 14 dX3_share_56 rfl mX3 (by decide) wq_223 rfl) ?_
  refine mcons (ok_iload_n dX3_share_59 rfl) ?_
  refine mcons (ok_lald dX3_share_60) ?_
  refine mcons (ok_lmul dX3_share_61) ?_
  refine mcons (ok_aload_n dX3_share_62 rfl) ?_
  refine mcons (ok_getf 15 dX3_share_63 rfl mX3 (by decide) wq_221 rfl) ?_
  exact mnil
abbrev KX3_share (l : Launch) (D : va_G) (ca : Nat → ClassId) (ad : Nat → Nat) : List Value → mW → Option Value → mW → Prop := mC l 6 yX3_share cX3_share 4 (some .long) D ca ad
def CFX3_share (l : Launch) (D : va_G) (ca : Nat → ClassId) (ad : Nat → Nat) (G : mS → Prop) : Prop := mCallS G (KX3_isBasket l D ca ad) 1 1 ∧ mCallS G (KX3_isStuff l D ca ad) 8 1 ∧ mCallV G (KX3_isMaking l D ca ad) 16 3 1 ∧ mCallV G (KX3_layNow l D ca ad) 27 3 0 ∧ mCallV G (KX3_solve l D ca ad) 45 3 1 ∧ mCallV G (KX3_emission l D ca ad) 52 3 3 ∧ mCallS G (KX3_thousandths l D ca ad) 66 2
theorem PX3_share {l : Launch} {D : va_G} {ca : Nat → ClassId} {ad : Nat → Nat} {av : List Value} {w : mW} {x : Int64} {w2 : mW} (hlen : (lg_sl av).length ≤ 4) (body : ∀ G : mS → Prop, mTb G tbX3_share → CFX3_share l D ca ad G → mRet G (some (.long x)) w2 [25, 42, 69] → G (0, lv_args 0 av, [], w)) : KX3_share l D ca ad av w (some (.long x)) w2 :=
  mPackL [25, 42, 69] (by decide +kernel) hlen tkX3_share (fun p e s m args below meth c A Q hX => ⟨mCallS_ok hX dX3_share_1 ⟨wq_230, wq_166, wq_229, by decide +kernel, by decide +kernel, by decide +kernel⟩ wq_231 (by decide) (by decide), mCallS_ok hX dX3_share_8 ⟨wq_183, wq_166, wq_182, by decide +kernel, by decide +kernel, by decide +kernel⟩ wq_184 (by decide) (by decide), mCallV_ok (T := TX3) (N := 18) hX dX3_share_16 rfl ⟨wq_176, wq_166, wq_175, by decide +kernel, by decide +kernel, by decide +kernel⟩ wq_177 wq_178 (by decide) (by decide), mCallV_ok (T := TX3) (N := 18) hX dX3_share_27 rfl ⟨wq_226, wq_166, wq_225, by decide +kernel, by decide +kernel, by decide +kernel⟩ wq_227 wq_228 (by decide) (by decide), mCallV_ok (T := TX3) (N := 18) hX dX3_share_45 rfl ⟨wq_239, wq_166, wq_238, by decide +kernel, by decide +kernel, by decide +kernel⟩ wq_240 wq_241 (by decide) (by decide), mCallV_ok (T := TX3) (N := 18) hX dX3_share_52 rfl ⟨wq_246, wq_166, wq_245, by decide +kernel, by decide +kernel, by decide +kernel⟩ wq_247 wq_248 (by decide) (by decide), mCallS_ok hX dX3_share_66 ⟨wq_243, wq_166, wq_242, by decide +kernel, by decide +kernel, by decide +kernel⟩ wq_244 (by decide) (by decide)⟩) (List.forall_mem_cons.mpr ⟨dX3_share_25, List.forall_mem_cons.mpr ⟨dX3_share_42, List.forall_mem_cons.mpr ⟨dX3_share_69, fun _ h => absurd h List.not_mem_nil⟩⟩⟩) body
/-! X3 way -/
def tbX3_way : List (Nat × mR) := [(0, r_iload 1 1), (4, r_ifeq 7 52), (7, r_iload 8 2), (11, r_ifeq 14 52), (14, r_aload 15 0), (15, r_iload 16 3), (19, r_ifeq 22 52), (22, r_iload 24 4), (24, r_ic 25 (-1)), (25, r_ceq 28 37), (28, r_aload 29 0), (29, r_iload 31 4), (34, r_ifeq 37 52), (37, r_iload 39 5), (39, r_ic 40 (-1)), (40, r_ceq 43 56), (43, r_aload 44 0), (44, r_iload 46 5), (49, r_ifne 52 56), (52, r_lc 55 (-9000000000000000001)), (56, r_iload 58 4), (58, r_ic 59 (-1)), (59, r_cne 62 68), (62, r_iload 64 5), (64, r_ic 65 (-1)), (65, r_cne 68 87), (68, r_iload 69 3), (69, r_iload 71 4), (71, r_ceq 74 87), (74, r_iload 76 4), (76, r_ic 77 (-1)), (77, r_ceq 80 91), (80, r_iload 82 4), (82, r_iload 84 5), (84, r_cne 87 91), (87, r_lc 90 (-9000000000000000002)), (91, r_aload 92 0), (95, r_aload 96 0), (96, r_getf 99 3 9), (99, r_ic 100 4), (100, r_iload 101 1), (101, r_ii 102 (fun x y => x * y)), (102, r_iload 103 3), (103, r_ii 104 (fun x y => x + y)), (104, r_iald 105), (105, r_i2l 106), (106, r_lstore 108 6), (108, r_aload 109 0), (109, r_getf 112 3 11), (112, r_ic 113 5), (113, r_iload 114 3), (114, r_ii 115 (fun x y => x * y)), (115, r_lald 116), (116, r_lstore 118 8), (118, r_iload 119 3), (119, r_istore 121 10), (121, r_iload 123 4), (123, r_ic 124 (-1)), (124, r_ceq 127 162), (127, r_lload 129 6), (129, r_aload 130 0), (130, r_getf 133 3 11), (133, r_ic 134 4), (134, r_iload 136 4), (136, r_ii 137 (fun x y => x * y)), (137, r_iload 138 3), (138, r_ii 139 (fun x y => x + y)), (139, r_lald 140), (140, r_lneg 141), (141, r_ll 142 (fun x y => x * y)), (142, r_lstore 144 6), (144, r_lload 146 8), (146, r_aload 147 0), (147, r_getf 150 3 11), (150, r_ic 151 5), (151, r_iload 153 4), (153, r_ii 154 (fun x y => x * y)), (154, r_lald 155), (155, r_ll 156 (fun x y => x * y)), (156, r_lstore 158 8), (158, r_iload 160 4), (160, r_istore 162 10), (162, r_iload 164 5), (164, r_ic 165 (-1)), (165, r_ceq 168 204), (168, r_lload 170 6), (170, r_aload 171 0), (171, r_getf 174 3 11), (174, r_ic 175 4), (175, r_iload 177 5), (177, r_ii 178 (fun x y => x * y)), (178, r_iload 180 4), (180, r_ii 181 (fun x y => x + y)), (181, r_lald 182), (182, r_lneg 183), (183, r_ll 184 (fun x y => x * y)), (184, r_lstore 186 6), (186, r_lload 188 8), (188, r_aload 189 0), (189, r_getf 192 3 11), (192, r_ic 193 5), (193, r_iload 195 5), (195, r_ii 196 (fun x y => x * y)), (196, r_lald 197), (197, r_ll 198 (fun x y => x * y)), (198, r_lstore 200 8), (200, r_iload 202 5), (202, r_istore 204 10), (204, r_lload 206 8), (206, r_lc 207 0), (207, r_lcmp 208), (208, r_ifne 211 215), (211, r_lc 214 (-9000000000000000004)), (215, r_lload 217 6), (217, r_aload 218 0), (218, r_iload 220 10), (220, r_iload 221 2), (221, r_ic 222 1), (225, r_ll 226 (fun x y => x * y)), (226, r_lstore 228 6), (228, r_lload 230 8), (230, r_lc 231 0), (231, r_lcmp 232), (232, r_ifge 235 247), (235, r_lload 237 6), (237, r_lneg 238), (238, r_lload 240 8), (240, r_lneg 241), (244, r_goto 254), (247, r_lload 249 6), (249, r_lload 251 8)]
theorem tkX3_way : ∀ q ∈ tbX3_way, mOk cX3_way RX3 11 q.1 q.2 := by
  unfold tbX3_way
  refine mcons (ok_iload_n dX3_way_0 rfl) ?_
  refine mcons (ok_ifeq dX3_way_4 (by decide)) ?_
  refine mcons (ok_iload_n dX3_way_7 rfl) ?_
  refine mcons (ok_ifeq dX3_way_11 (by decide)) ?_
  refine mcons (ok_aload_n dX3_way_14 rfl) ?_
  refine mcons (ok_iload_n dX3_way_15 rfl) ?_
  refine mcons (ok_ifeq dX3_way_19 (by decide)) ?_
  refine mcons (ok_iload dX3_way_22) ?_
  refine mcons (ok_iconst dX3_way_24 (by decide)) ?_
  refine mcons (ok_ceq dX3_way_25 (by decide)) ?_
  refine mcons (ok_aload_n dX3_way_28 rfl) ?_
  refine mcons (ok_iload dX3_way_29) ?_
  refine mcons (ok_ifeq dX3_way_34 (by decide)) ?_
  refine mcons (ok_iload dX3_way_37) ?_
  refine mcons (ok_iconst dX3_way_39 (by decide)) ?_
  refine mcons (ok_ceq dX3_way_40 (by decide)) ?_
  refine mcons (ok_aload_n dX3_way_43 rfl) ?_
  refine mcons (ok_iload dX3_way_44) ?_
  refine mcons (ok_ifne dX3_way_49 (by decide)) ?_
  refine mcons (ok_ldc2 dX3_way_52 wq_236) ?_
  refine mcons (ok_iload dX3_way_56) ?_
  refine mcons (ok_iconst dX3_way_58 (by decide)) ?_
  refine mcons (ok_cne dX3_way_59 (by decide)) ?_
  refine mcons (ok_iload dX3_way_62) ?_
  refine mcons (ok_iconst dX3_way_64 (by decide)) ?_
  refine mcons (ok_cne dX3_way_65 (by decide)) ?_
  refine mcons (ok_iload_n dX3_way_68 rfl) ?_
  refine mcons (ok_iload dX3_way_69) ?_
  refine mcons (ok_ceq dX3_way_71 (by decide)) ?_
  refine mcons (ok_iload dX3_way_74) ?_
  refine mcons (ok_iconst dX3_way_76 (by decide)) ?_
  refine mcons (ok_ceq dX3_way_77 (by decide)) ?_
  refine mcons (ok_iload dX3_way_80) ?_
  refine mcons (ok_iload dX3_way_82) ?_
  refine mcons (ok_cne dX3_way_84 (by decide)) ?_
  refine mcons (ok_ldc2 dX3_way_87 wq_249) ?_
  refine mcons (ok_aload_n dX3_way_91 rfl) ?_
  refine mcons (ok_aload_n dX3_way_95 rfl) ?_
  refine mcons (ok_getf 9 dX3_way_96 rfl mX3 (by decide) wq_222 rfl) ?_
  refine mcons (ok_iconst dX3_way_99 (by decide)) ?_
  refine mcons (ok_iload_n dX3_way_100 rfl) ?_
  refine mcons (ok_imul dX3_way_101) ?_
  refine mcons (ok_iload_n dX3_way_102 rfl) ?_
  refine mcons (ok_iadd dX3_way_103) ?_
  refine mcons (ok_iald dX3_way_104) ?_
  refine mcons (ok_i2l dX3_way_105) ?_
  refine mcons (ok_lstore dX3_way_106 (by decide)) ?_
  refine mcons (ok_aload_n dX3_way_108 rfl) ?_
  refine mcons (ok_getf 11 dX3_way_109 rfl mX3 (by decide) wq_206 rfl) ?_
  refine mcons (ok_iconst dX3_way_112 (by decide)) ?_
  refine mcons (ok_iload_n dX3_way_113 rfl) ?_
  refine mcons (ok_imul dX3_way_114) ?_
  refine mcons (ok_lald dX3_way_115) ?_
  refine mcons (ok_lstore dX3_way_116 (by decide)) ?_
  refine mcons (ok_iload_n dX3_way_118 rfl) ?_
  refine mcons (ok_istore dX3_way_119 (by decide)) ?_
  refine mcons (ok_iload dX3_way_121) ?_
  refine mcons (ok_iconst dX3_way_123 (by decide)) ?_
  refine mcons (ok_ceq dX3_way_124 (by decide)) ?_
  refine mcons (ok_lload dX3_way_127) ?_
  refine mcons (ok_aload_n dX3_way_129 rfl) ?_
  refine mcons (ok_getf 11 dX3_way_130 rfl mX3 (by decide) wq_206 rfl) ?_
  refine mcons (ok_iconst dX3_way_133 (by decide)) ?_
  refine mcons (ok_iload dX3_way_134) ?_
  refine mcons (ok_imul dX3_way_136) ?_
  refine mcons (ok_iload_n dX3_way_137 rfl) ?_
  refine mcons (ok_iadd dX3_way_138) ?_
  refine mcons (ok_lald dX3_way_139) ?_
  refine mcons (ok_lneg dX3_way_140) ?_
  refine mcons (ok_lmul dX3_way_141) ?_
  refine mcons (ok_lstore dX3_way_142 (by decide)) ?_
  refine mcons (ok_lload dX3_way_144) ?_
  refine mcons (ok_aload_n dX3_way_146 rfl) ?_
  refine mcons (ok_getf 11 dX3_way_147 rfl mX3 (by decide) wq_206 rfl) ?_
  refine mcons (ok_iconst dX3_way_150 (by decide)) ?_
  refine mcons (ok_iload dX3_way_151) ?_
  refine mcons (ok_imul dX3_way_153) ?_
  refine mcons (ok_lald dX3_way_154) ?_
  refine mcons (ok_lmul dX3_way_155) ?_
  refine mcons (ok_lstore dX3_way_156 (by decide)) ?_
  refine mcons (ok_iload dX3_way_158) ?_
  refine mcons (ok_istore dX3_way_160 (by decide)) ?_
  refine mcons (ok_iload dX3_way_162) ?_
  refine mcons (ok_iconst dX3_way_164 (by decide)) ?_
  refine mcons (ok_ceq dX3_way_165 (by decide)) ?_
  refine mcons (ok_lload dX3_way_168) ?_
  refine mcons (ok_aload_n dX3_way_170 rfl) ?_
  refine mcons (ok_getf 11 dX3_way_171 rfl mX3 (by decide) wq_206 rfl) ?_
  refine mcons (ok_iconst dX3_way_174 (by decide)) ?_
  refine mcons (ok_iload dX3_way_175) ?_
  refine mcons (ok_imul dX3_way_177) ?_
  refine mcons (ok_iload dX3_way_178) ?_
  refine mcons (ok_iadd dX3_way_180) ?_
  refine mcons (ok_lald dX3_way_181) ?_
  refine mcons (ok_lneg dX3_way_182) ?_
  refine mcons (ok_lmul dX3_way_183) ?_
  refine mcons (ok_lstore dX3_way_184 (by decide)) ?_
  refine mcons (ok_lload dX3_way_186) ?_
  refine mcons (ok_aload_n dX3_way_188 rfl) ?_
  refine mcons (ok_getf 11 dX3_way_189 rfl mX3 (by decide) wq_206 rfl) ?_
  refine mcons (ok_iconst dX3_way_192 (by decide)) ?_
  refine mcons (ok_iload dX3_way_193) ?_
  refine mcons (ok_imul dX3_way_195) ?_
  refine mcons (ok_lald dX3_way_196) ?_
  refine mcons (ok_lmul dX3_way_197) ?_
  refine mcons (ok_lstore dX3_way_198 (by decide)) ?_
  refine mcons (ok_iload dX3_way_200) ?_
  refine mcons (ok_istore dX3_way_202 (by decide)) ?_
  refine mcons (ok_lload dX3_way_204) ?_
  refine mcons (ok_lconst dX3_way_206 (by decide)) ?_
  refine mcons (ok_lcmp dX3_way_207) ?_
  refine mcons (ok_ifne dX3_way_208 (by decide)) ?_
  refine mcons (ok_ldc2 dX3_way_211 wq_237) ?_
  refine mcons (ok_lload dX3_way_215) ?_
  refine mcons (ok_aload_n dX3_way_217 rfl) ?_
  refine mcons (ok_iload dX3_way_218) ?_
  refine mcons (ok_iload_n dX3_way_220 rfl) ?_
  refine mcons (ok_iconst dX3_way_221 (by decide)) ?_
  refine mcons (ok_lmul dX3_way_225) ?_
  refine mcons (ok_lstore dX3_way_226 (by decide)) ?_
  refine mcons (ok_lload dX3_way_228) ?_
  refine mcons (ok_lconst dX3_way_230 (by decide)) ?_
  refine mcons (ok_lcmp dX3_way_231) ?_
  refine mcons (ok_ifge dX3_way_232 (by decide)) ?_
  refine mcons (ok_lload dX3_way_235) ?_
  refine mcons (ok_lneg dX3_way_237) ?_
  refine mcons (ok_lload dX3_way_238) ?_
  refine mcons (ok_lneg dX3_way_240) ?_
  refine mcons (ok_goto dX3_way_244 (by decide)) ?_
  refine mcons (ok_lload dX3_way_247) ?_
  refine mcons (ok_lload dX3_way_249) ?_
  exact mnil
abbrev KX3_way (l : Launch) (D : va_G) (ca : Nat → ClassId) (ad : Nat → Nat) : List Value → mW → Option Value → mW → Prop := mC l 6 yX3_way cX3_way 11 (some .long) D ca ad
def CFX3_way (l : Launch) (D : va_G) (ca : Nat → ClassId) (ad : Nat → Nat) (G : mS → Prop) : Prop := mCallS G (KX3_isBasket l D ca ad) 1 1 ∧ mCallS G (KX3_isStuff l D ca ad) 8 1 ∧ mCallV G (KX3_isMaking l D ca ad) 16 3 1 ∧ mCallV G (KX3_isMaking l D ca ad) 31 3 1 ∧ mCallV G (KX3_isMaking l D ca ad) 46 3 1 ∧ mCallV G (KX3_layNow l D ca ad) 92 3 0 ∧ mCallV G (KX3_emission l D ca ad) 222 3 3 ∧ mCallS G (KX3_thousandths l D ca ad) 241 2 ∧ mCallS G (KX3_thousandths l D ca ad) 251 2
theorem PX3_way {l : Launch} {D : va_G} {ca : Nat → ClassId} {ad : Nat → Nat} {av : List Value} {w : mW} {x : Int64} {w2 : mW} (hlen : (lg_sl av).length ≤ 11) (body : ∀ G : mS → Prop, mTb G tbX3_way → CFX3_way l D ca ad G → mRet G (some (.long x)) w2 [55, 90, 214, 254] → G (0, lv_args 0 av, [], w)) : KX3_way l D ca ad av w (some (.long x)) w2 :=
  mPackL [55, 90, 214, 254] (by decide +kernel) hlen tkX3_way (fun p e s m args below meth c A Q hX => ⟨mCallS_ok hX dX3_way_1 ⟨wq_230, wq_166, wq_229, by decide +kernel, by decide +kernel, by decide +kernel⟩ wq_231 (by decide) (by decide), mCallS_ok hX dX3_way_8 ⟨wq_183, wq_166, wq_182, by decide +kernel, by decide +kernel, by decide +kernel⟩ wq_184 (by decide) (by decide), mCallV_ok (T := TX3) (N := 18) hX dX3_way_16 rfl ⟨wq_176, wq_166, wq_175, by decide +kernel, by decide +kernel, by decide +kernel⟩ wq_177 wq_178 (by decide) (by decide), mCallV_ok (T := TX3) (N := 18) hX dX3_way_31 rfl ⟨wq_176, wq_166, wq_175, by decide +kernel, by decide +kernel, by decide +kernel⟩ wq_177 wq_178 (by decide) (by decide), mCallV_ok (T := TX3) (N := 18) hX dX3_way_46 rfl ⟨wq_176, wq_166, wq_175, by decide +kernel, by decide +kernel, by decide +kernel⟩ wq_177 wq_178 (by decide) (by decide), mCallV_ok (T := TX3) (N := 18) hX dX3_way_92 rfl ⟨wq_226, wq_166, wq_225, by decide +kernel, by decide +kernel, by decide +kernel⟩ wq_227 wq_228 (by decide) (by decide), mCallV_ok (T := TX3) (N := 18) hX dX3_way_222 rfl ⟨wq_246, wq_166, wq_245, by decide +kernel, by decide +kernel, by decide +kernel⟩ wq_247 wq_248 (by decide) (by decide), mCallS_ok hX dX3_way_241 ⟨wq_243, wq_166, wq_242, by decide +kernel, by decide +kernel, by decide +kernel⟩ wq_244 (by decide) (by decide), mCallS_ok hX dX3_way_251 ⟨wq_243, wq_166, wq_242, by decide +kernel, by decide +kernel, by decide +kernel⟩ wq_244 (by decide) (by decide)⟩) (List.forall_mem_cons.mpr ⟨dX3_way_55, List.forall_mem_cons.mpr ⟨dX3_way_90, List.forall_mem_cons.mpr ⟨dX3_way_214, List.forall_mem_cons.mpr ⟨dX3_way_254, fun _ h => absurd h List.not_mem_nil⟩⟩⟩⟩) body
/-! X3 sure -/
def tbX3_sure : List (Nat × mR) := [(0, r_iload 1 1), (4, r_ifeq 7 21), (7, r_iload 8 2), (11, r_ifeq 14 21), (14, r_iload 15 3), (18, r_ifne 21 24), (21, r_ic 23 (-101)), (24, r_aload 25 0), (28, r_aload 29 0), (29, r_getf 32 3 13), (32, r_lc 33 0), (33, r_lcmp 34), (34, r_ifne 37 40), (37, r_ic 39 (-104)), (40, r_aload 41 0), (41, r_iload 42 2), (45, r_ic 46 0), (46, r_istore 48 4), (48, r_iload 50 4), (50, r_ic 51 4), (51, r_cge 54 74), (54, r_aload 55 0), (55, r_getf 58 3 16), (58, r_iload 60 4), (60, r_aload 61 0), (61, r_getf 64 3 14), (64, r_iload 66 4), (66, r_lald 67), (67, r_last 68), (68, r_iinc 71 4 1), (71, r_goto 48), (74, r_aload 75 0), (75, r_iload 76 1), (79, r_lc 80 0), (80, r_lstore 82 4), (82, r_ic 83 0), (83, r_istore 85 6), (85, r_iload 87 6), (87, r_aload 88 0), (88, r_getf 91 3 0), (91, r_cge 94 144), (94, r_aload 95 0), (95, r_getf 98 3 14), (98, r_iload 100 6), (100, r_lald 101), (101, r_aload 102 0), (102, r_getf 105 3 16), (105, r_iload 107 6), (107, r_lald 108), (108, r_ll 109 (fun x y => x - y)), (109, r_lstore 111 7), (111, r_lload 113 4), (113, r_aload 114 0), (114, r_iload 116 6), (116, r_iload 117 3), (117, r_lload 119 7), (119, r_lc 120 0), (120, r_lcmp 121), (121, r_ifle 124 128), (124, r_ic 125 2), (125, r_goto 129), (128, r_ic 129 0), (132, r_lload 134 7), (134, r_ll 135 (fun x y => x * y)), (135, r_ll 136 (fun x y => x + y)), (136, r_lstore 138 4), (138, r_iinc 141 6 1), (141, r_goto 85), (144, r_lload 146 4), (146, r_lc 147 0), (147, r_lcmp 148), (148, r_ifgt 151 155), (151, r_ic 152 1), (152, r_goto 156), (155, r_ic 156 0)]
theorem tkX3_sure : ∀ q ∈ tbX3_sure, mOk cX3_sure RX3 9 q.1 q.2 := by
  unfold tbX3_sure
  refine mcons (ok_iload_n dX3_sure_0 rfl) ?_
  refine mcons (ok_ifeq dX3_sure_4 (by decide)) ?_
  refine mcons (ok_iload_n dX3_sure_7 rfl) ?_
  refine mcons (ok_ifeq dX3_sure_11 (by decide)) ?_
  refine mcons (ok_iload_n dX3_sure_14 rfl) ?_
  refine mcons (ok_ifne dX3_sure_18 (by decide)) ?_
  refine mcons (ok_bipush dX3_sure_21 (by decide)) ?_
  refine mcons (ok_aload_n dX3_sure_24 rfl) ?_
  refine mcons (ok_aload_n dX3_sure_28 rfl) ?_
  refine mcons (ok_getf 13 dX3_sure_29 rfl mX3 (by decide) wq_208 rfl) ?_
  refine mcons (ok_lconst dX3_sure_32 (by decide)) ?_
  refine mcons (ok_lcmp dX3_sure_33) ?_
  refine mcons (ok_ifne dX3_sure_34 (by decide)) ?_
  refine mcons (ok_bipush dX3_sure_37 (by decide)) ?_
  refine mcons (ok_aload_n dX3_sure_40 rfl) ?_
  refine mcons (ok_iload_n dX3_sure_41 rfl) ?_
  refine mcons (ok_iconst dX3_sure_45 (by decide)) ?_
  refine mcons (ok_istore dX3_sure_46 (by decide)) ?_
  refine mcons (ok_iload dX3_sure_48) ?_
  refine mcons (ok_iconst dX3_sure_50 (by decide)) ?_
  refine mcons (ok_cge dX3_sure_51 (by decide)) ?_
  refine mcons (ok_aload_n dX3_sure_54 rfl) ?_
  refine mcons (ok_getf 16 dX3_sure_55 rfl mX3 (by decide) wq_257 rfl) ?_
  refine mcons (ok_iload dX3_sure_58) ?_
  refine mcons (ok_aload_n dX3_sure_60 rfl) ?_
  refine mcons (ok_getf 14 dX3_sure_61 rfl mX3 (by decide) wq_223 rfl) ?_
  refine mcons (ok_iload dX3_sure_64) ?_
  refine mcons (ok_lald dX3_sure_66) ?_
  refine mcons (ok_last dX3_sure_67) ?_
  refine mcons (ok_iinc dX3_sure_68 (by decide) (by decide)) ?_
  refine mcons (ok_goto dX3_sure_71 (by decide)) ?_
  refine mcons (ok_aload_n dX3_sure_74 rfl) ?_
  refine mcons (ok_iload_n dX3_sure_75 rfl) ?_
  refine mcons (ok_lconst dX3_sure_79 (by decide)) ?_
  refine mcons (ok_lstore dX3_sure_80 (by decide)) ?_
  refine mcons (ok_iconst dX3_sure_82 (by decide)) ?_
  refine mcons (ok_istore dX3_sure_83 (by decide)) ?_
  refine mcons (ok_iload dX3_sure_85) ?_
  refine mcons (ok_aload_n dX3_sure_87 rfl) ?_
  refine mcons (ok_getf 0 dX3_sure_88 rfl mX3 (by decide) wq_165 rfl) ?_
  refine mcons (ok_cge dX3_sure_91 (by decide)) ?_
  refine mcons (ok_aload_n dX3_sure_94 rfl) ?_
  refine mcons (ok_getf 14 dX3_sure_95 rfl mX3 (by decide) wq_223 rfl) ?_
  refine mcons (ok_iload dX3_sure_98) ?_
  refine mcons (ok_lald dX3_sure_100) ?_
  refine mcons (ok_aload_n dX3_sure_101 rfl) ?_
  refine mcons (ok_getf 16 dX3_sure_102 rfl mX3 (by decide) wq_257 rfl) ?_
  refine mcons (ok_iload dX3_sure_105) ?_
  refine mcons (ok_lald dX3_sure_107) ?_
  refine mcons (ok_lsub dX3_sure_108) ?_
  refine mcons (ok_lstore dX3_sure_109 (by decide)) ?_
  refine mcons (ok_lload dX3_sure_111) ?_
  refine mcons (ok_aload_n dX3_sure_113 rfl) ?_
  refine mcons (ok_iload dX3_sure_114) ?_
  refine mcons (ok_iload_n dX3_sure_116 rfl) ?_
  refine mcons (ok_lload dX3_sure_117) ?_
  refine mcons (ok_lconst dX3_sure_119 (by decide)) ?_
  refine mcons (ok_lcmp dX3_sure_120) ?_
  refine mcons (ok_ifle dX3_sure_121 (by decide)) ?_
  refine mcons (ok_iconst dX3_sure_124 (by decide)) ?_
  refine mcons (ok_goto dX3_sure_125 (by decide)) ?_
  refine mcons (ok_iconst dX3_sure_128 (by decide)) ?_
  refine mcons (ok_lload dX3_sure_132) ?_
  refine mcons (ok_lmul dX3_sure_134) ?_
  refine mcons (ok_ladd dX3_sure_135) ?_
  refine mcons (ok_lstore dX3_sure_136 (by decide)) ?_
  refine mcons (ok_iinc dX3_sure_138 (by decide) (by decide)) ?_
  refine mcons (ok_goto dX3_sure_141 (by decide)) ?_
  refine mcons (ok_lload dX3_sure_144) ?_
  refine mcons (ok_lconst dX3_sure_146 (by decide)) ?_
  refine mcons (ok_lcmp dX3_sure_147) ?_
  refine mcons (ok_ifgt dX3_sure_148 (by decide)) ?_
  refine mcons (ok_iconst dX3_sure_151 (by decide)) ?_
  refine mcons (ok_goto dX3_sure_152 (by decide)) ?_
  refine mcons (ok_iconst dX3_sure_155 (by decide)) ?_
  exact mnil
abbrev KX3_sure (l : Launch) (D : va_G) (ca : Nat → ClassId) (ad : Nat → Nat) : List Value → mW → Option Value → mW → Prop := mC l 6 yX3_sure cX3_sure 9 (some .int) D ca ad
def CFX3_sure (l : Launch) (D : va_G) (ca : Nat → ClassId) (ad : Nat → Nat) (G : mS → Prop) : Prop := mCallS G (KX3_isBasket l D ca ad) 1 1 ∧ mCallS G (KX3_isBasket l D ca ad) 8 1 ∧ mCallS G (KX3_isStuff l D ca ad) 15 1 ∧ mCallV G (KX3_layNow l D ca ad) 25 3 0 ∧ mCallV G (KX3_solve l D ca ad) 42 3 1 ∧ mCallV G (KX3_solve l D ca ad) 76 3 1 ∧ mCallV G (KX3_emission l D ca ad) 129 3 3
theorem PX3_sure {l : Launch} {D : va_G} {ca : Nat → ClassId} {ad : Nat → Nat} {av : List Value} {w : mW} {x : Int32} {w2 : mW} (hlen : (lg_sl av).length ≤ 9) (body : ∀ G : mS → Prop, mTb G tbX3_sure → CFX3_sure l D ca ad G → mRet G (some (.int x)) w2 [23, 39, 156] → G (0, lv_args 0 av, [], w)) : KX3_sure l D ca ad av w (some (.int x)) w2 :=
  mPackI [23, 39, 156] (by decide +kernel) hlen tkX3_sure (fun p e s m args below meth c A Q hX => ⟨mCallS_ok hX dX3_sure_1 ⟨wq_230, wq_166, wq_229, by decide +kernel, by decide +kernel, by decide +kernel⟩ wq_231 (by decide) (by decide), mCallS_ok hX dX3_sure_8 ⟨wq_230, wq_166, wq_229, by decide +kernel, by decide +kernel, by decide +kernel⟩ wq_231 (by decide) (by decide), mCallS_ok hX dX3_sure_15 ⟨wq_183, wq_166, wq_182, by decide +kernel, by decide +kernel, by decide +kernel⟩ wq_184 (by decide) (by decide), mCallV_ok (T := TX3) (N := 18) hX dX3_sure_25 rfl ⟨wq_226, wq_166, wq_225, by decide +kernel, by decide +kernel, by decide +kernel⟩ wq_227 wq_228 (by decide) (by decide), mCallV_ok (T := TX3) (N := 18) hX dX3_sure_42 rfl ⟨wq_239, wq_166, wq_238, by decide +kernel, by decide +kernel, by decide +kernel⟩ wq_240 wq_241 (by decide) (by decide), mCallV_ok (T := TX3) (N := 18) hX dX3_sure_76 rfl ⟨wq_239, wq_166, wq_238, by decide +kernel, by decide +kernel, by decide +kernel⟩ wq_240 wq_241 (by decide) (by decide), mCallV_ok (T := TX3) (N := 18) hX dX3_sure_129 rfl ⟨wq_246, wq_166, wq_245, by decide +kernel, by decide +kernel, by decide +kernel⟩ wq_247 wq_248 (by decide) (by decide)⟩) (List.forall_mem_cons.mpr ⟨dX3_sure_23, List.forall_mem_cons.mpr ⟨dX3_sure_39, List.forall_mem_cons.mpr ⟨dX3_sure_156, fun _ h => absurd h List.not_mem_nil⟩⟩⟩) body
/-! X3 most -/
def tbX3_most : List (Nat × mR) := [(0, r_iload 1 1), (4, r_ifeq 7 14), (7, r_iload 8 2), (11, r_ifne 14 17), (14, r_ic 16 (-101)), (17, r_aload 18 0), (21, r_aload 22 0), (22, r_getf 25 3 13), (25, r_lc 26 0), (26, r_lcmp 27), (27, r_ifne 30 33), (30, r_ic 32 (-104)), (33, r_aload 34 0), (34, r_iload 35 1), (38, r_ic 39 (-1)), (39, r_istore 40 3), (40, r_ic 41 0), (41, r_istore 43 4), (43, r_iload 45 4), (45, r_aload 46 0), (46, r_getf 49 3 0), (49, r_cge 52 104), (52, r_iload 53 3), (53, r_ic 54 (-1)), (54, r_ceq 57 91), (57, r_aload 58 0), (58, r_iload 60 4), (60, r_iload 61 2), (61, r_ic 62 1), (65, r_aload 66 0), (66, r_getf 69 3 14), (69, r_iload 71 4), (71, r_lald 72), (72, r_ll 73 (fun x y => x * y)), (73, r_aload 74 0), (74, r_iload 75 3), (75, r_iload 76 2), (76, r_ic 77 1), (80, r_aload 81 0), (81, r_getf 84 3 14), (84, r_iload 85 3), (85, r_lald 86), (86, r_ll 87 (fun x y => x * y)), (87, r_lcmp 88), (88, r_ifle 91 96), (91, r_iload 93 4), (93, r_goto 97), (96, r_iload 97 3), (97, r_istore 98 3), (98, r_iinc 101 4 1), (101, r_goto 43), (104, r_iload 105 3)]
theorem tkX3_most : ∀ q ∈ tbX3_most, mOk cX3_most RX3 5 q.1 q.2 := by
  unfold tbX3_most
  refine mcons (ok_iload_n dX3_most_0 rfl) ?_
  refine mcons (ok_ifeq dX3_most_4 (by decide)) ?_
  refine mcons (ok_iload_n dX3_most_7 rfl) ?_
  refine mcons (ok_ifne dX3_most_11 (by decide)) ?_
  refine mcons (ok_bipush dX3_most_14 (by decide)) ?_
  refine mcons (ok_aload_n dX3_most_17 rfl) ?_
  refine mcons (ok_aload_n dX3_most_21 rfl) ?_
  refine mcons (ok_getf 13 dX3_most_22 rfl mX3 (by decide) wq_208 rfl) ?_
  refine mcons (ok_lconst dX3_most_25 (by decide)) ?_
  refine mcons (ok_lcmp dX3_most_26) ?_
  refine mcons (ok_ifne dX3_most_27 (by decide)) ?_
  refine mcons (ok_bipush dX3_most_30 (by decide)) ?_
  refine mcons (ok_aload_n dX3_most_33 rfl) ?_
  refine mcons (ok_iload_n dX3_most_34 rfl) ?_
  refine mcons (ok_iconst dX3_most_38 (by decide)) ?_
  refine mcons (ok_istore_n dX3_most_39 rfl (by decide)) ?_
  refine mcons (ok_iconst dX3_most_40 (by decide)) ?_
  refine mcons (ok_istore dX3_most_41 (by decide)) ?_
  refine mcons (ok_iload dX3_most_43) ?_
  refine mcons (ok_aload_n dX3_most_45 rfl) ?_
  refine mcons (ok_getf 0 dX3_most_46 rfl mX3 (by decide) wq_165 rfl) ?_
  refine mcons (ok_cge dX3_most_49 (by decide)) ?_
  refine mcons (ok_iload_n dX3_most_52 rfl) ?_
  refine mcons (ok_iconst dX3_most_53 (by decide)) ?_
  refine mcons (ok_ceq dX3_most_54 (by decide)) ?_
  refine mcons (ok_aload_n dX3_most_57 rfl) ?_
  refine mcons (ok_iload dX3_most_58) ?_
  refine mcons (ok_iload_n dX3_most_60 rfl) ?_
  refine mcons (ok_iconst dX3_most_61 (by decide)) ?_
  refine mcons (ok_aload_n dX3_most_65 rfl) ?_
  refine mcons (ok_getf 14 dX3_most_66 rfl mX3 (by decide) wq_223 rfl) ?_
  refine mcons (ok_iload dX3_most_69) ?_
  refine mcons (ok_lald dX3_most_71) ?_
  refine mcons (ok_lmul dX3_most_72) ?_
  refine mcons (ok_aload_n dX3_most_73 rfl) ?_
  refine mcons (ok_iload_n dX3_most_74 rfl) ?_
  refine mcons (ok_iload_n dX3_most_75 rfl) ?_
  refine mcons (ok_iconst dX3_most_76 (by decide)) ?_
  refine mcons (ok_aload_n dX3_most_80 rfl) ?_
  refine mcons (ok_getf 14 dX3_most_81 rfl mX3 (by decide) wq_223 rfl) ?_
  refine mcons (ok_iload_n dX3_most_84 rfl) ?_
  refine mcons (ok_lald dX3_most_85) ?_
  refine mcons (ok_lmul dX3_most_86) ?_
  refine mcons (ok_lcmp dX3_most_87) ?_
  refine mcons (ok_ifle dX3_most_88 (by decide)) ?_
  refine mcons (ok_iload dX3_most_91) ?_
  refine mcons (ok_goto dX3_most_93 (by decide)) ?_
  refine mcons (ok_iload_n dX3_most_96 rfl) ?_
  refine mcons (ok_istore_n dX3_most_97 rfl (by decide)) ?_
  refine mcons (ok_iinc dX3_most_98 (by decide) (by decide)) ?_
  refine mcons (ok_goto dX3_most_101 (by decide)) ?_
  refine mcons (ok_iload_n dX3_most_104 rfl) ?_
  exact mnil
abbrev KX3_most (l : Launch) (D : va_G) (ca : Nat → ClassId) (ad : Nat → Nat) : List Value → mW → Option Value → mW → Prop := mC l 6 yX3_most cX3_most 5 (some .int) D ca ad
def CFX3_most (l : Launch) (D : va_G) (ca : Nat → ClassId) (ad : Nat → Nat) (G : mS → Prop) : Prop := mCallS G (KX3_isBasket l D ca ad) 1 1 ∧ mCallS G (KX3_isStuff l D ca ad) 8 1 ∧ mCallV G (KX3_layNow l D ca ad) 18 3 0 ∧ mCallV G (KX3_solve l D ca ad) 35 3 1 ∧ mCallV G (KX3_emission l D ca ad) 62 3 3 ∧ mCallV G (KX3_emission l D ca ad) 77 3 3
theorem PX3_most {l : Launch} {D : va_G} {ca : Nat → ClassId} {ad : Nat → Nat} {av : List Value} {w : mW} {x : Int32} {w2 : mW} (hlen : (lg_sl av).length ≤ 5) (body : ∀ G : mS → Prop, mTb G tbX3_most → CFX3_most l D ca ad G → mRet G (some (.int x)) w2 [16, 32, 105] → G (0, lv_args 0 av, [], w)) : KX3_most l D ca ad av w (some (.int x)) w2 :=
  mPackI [16, 32, 105] (by decide +kernel) hlen tkX3_most (fun p e s m args below meth c A Q hX => ⟨mCallS_ok hX dX3_most_1 ⟨wq_230, wq_166, wq_229, by decide +kernel, by decide +kernel, by decide +kernel⟩ wq_231 (by decide) (by decide), mCallS_ok hX dX3_most_8 ⟨wq_183, wq_166, wq_182, by decide +kernel, by decide +kernel, by decide +kernel⟩ wq_184 (by decide) (by decide), mCallV_ok (T := TX3) (N := 18) hX dX3_most_18 rfl ⟨wq_226, wq_166, wq_225, by decide +kernel, by decide +kernel, by decide +kernel⟩ wq_227 wq_228 (by decide) (by decide), mCallV_ok (T := TX3) (N := 18) hX dX3_most_35 rfl ⟨wq_239, wq_166, wq_238, by decide +kernel, by decide +kernel, by decide +kernel⟩ wq_240 wq_241 (by decide) (by decide), mCallV_ok (T := TX3) (N := 18) hX dX3_most_62 rfl ⟨wq_246, wq_166, wq_245, by decide +kernel, by decide +kernel, by decide +kernel⟩ wq_247 wq_248 (by decide) (by decide), mCallV_ok (T := TX3) (N := 18) hX dX3_most_77 rfl ⟨wq_246, wq_166, wq_245, by decide +kernel, by decide +kernel, by decide +kernel⟩ wq_247 wq_248 (by decide) (by decide)⟩) (List.forall_mem_cons.mpr ⟨dX3_most_16, List.forall_mem_cons.mpr ⟨dX3_most_32, List.forall_mem_cons.mpr ⟨dX3_most_105, fun _ h => absurd h List.not_mem_nil⟩⟩⟩) body
/-! X3 turned -/
def tbX3_turned : List (Nat × mR) := [(0, r_iload 1 1), (4, r_ifne 7 10), (7, r_ic 9 (-101)), (10, r_aload 11 0), (14, r_aload 15 0), (15, r_getf 18 3 13), (18, r_lc 19 0), (19, r_lcmp 20), (20, r_ifne 23 26), (23, r_ic 25 (-104)), (26, r_aload 27 0), (27, r_iload 28 1), (31, r_ic 32 0), (32, r_istore 33 2), (33, r_iload 34 2), (34, r_aload 35 0), (35, r_getf 38 3 0), (38, r_cge 41 58), (41, r_aload 42 0), (42, r_getf 45 3 14), (45, r_iload 46 2), (46, r_lald 47), (47, r_lc 48 0), (48, r_lcmp 49), (49, r_iflt 52 58), (52, r_iinc 55 2 1), (55, r_goto 33), (58, r_iload 59 2), (59, r_aload 60 0), (60, r_getf 63 3 0), (63, r_cge 66 70), (66, r_iload 67 2), (67, r_goto 71), (70, r_ic 71 (-1))]
theorem tkX3_turned : ∀ q ∈ tbX3_turned, mOk cX3_turned RX3 3 q.1 q.2 := by
  unfold tbX3_turned
  refine mcons (ok_iload_n dX3_turned_0 rfl) ?_
  refine mcons (ok_ifne dX3_turned_4 (by decide)) ?_
  refine mcons (ok_bipush dX3_turned_7 (by decide)) ?_
  refine mcons (ok_aload_n dX3_turned_10 rfl) ?_
  refine mcons (ok_aload_n dX3_turned_14 rfl) ?_
  refine mcons (ok_getf 13 dX3_turned_15 rfl mX3 (by decide) wq_208 rfl) ?_
  refine mcons (ok_lconst dX3_turned_18 (by decide)) ?_
  refine mcons (ok_lcmp dX3_turned_19) ?_
  refine mcons (ok_ifne dX3_turned_20 (by decide)) ?_
  refine mcons (ok_bipush dX3_turned_23 (by decide)) ?_
  refine mcons (ok_aload_n dX3_turned_26 rfl) ?_
  refine mcons (ok_iload_n dX3_turned_27 rfl) ?_
  refine mcons (ok_iconst dX3_turned_31 (by decide)) ?_
  refine mcons (ok_istore_n dX3_turned_32 rfl (by decide)) ?_
  refine mcons (ok_iload_n dX3_turned_33 rfl) ?_
  refine mcons (ok_aload_n dX3_turned_34 rfl) ?_
  refine mcons (ok_getf 0 dX3_turned_35 rfl mX3 (by decide) wq_165 rfl) ?_
  refine mcons (ok_cge dX3_turned_38 (by decide)) ?_
  refine mcons (ok_aload_n dX3_turned_41 rfl) ?_
  refine mcons (ok_getf 14 dX3_turned_42 rfl mX3 (by decide) wq_223 rfl) ?_
  refine mcons (ok_iload_n dX3_turned_45 rfl) ?_
  refine mcons (ok_lald dX3_turned_46) ?_
  refine mcons (ok_lconst dX3_turned_47 (by decide)) ?_
  refine mcons (ok_lcmp dX3_turned_48) ?_
  refine mcons (ok_iflt dX3_turned_49 (by decide)) ?_
  refine mcons (ok_iinc dX3_turned_52 (by decide) (by decide)) ?_
  refine mcons (ok_goto dX3_turned_55 (by decide)) ?_
  refine mcons (ok_iload_n dX3_turned_58 rfl) ?_
  refine mcons (ok_aload_n dX3_turned_59 rfl) ?_
  refine mcons (ok_getf 0 dX3_turned_60 rfl mX3 (by decide) wq_165 rfl) ?_
  refine mcons (ok_cge dX3_turned_63 (by decide)) ?_
  refine mcons (ok_iload_n dX3_turned_66 rfl) ?_
  refine mcons (ok_goto dX3_turned_67 (by decide)) ?_
  refine mcons (ok_iconst dX3_turned_70 (by decide)) ?_
  exact mnil
abbrev KX3_turned (l : Launch) (D : va_G) (ca : Nat → ClassId) (ad : Nat → Nat) : List Value → mW → Option Value → mW → Prop := mC l 6 yX3_turned cX3_turned 3 (some .int) D ca ad
def CFX3_turned (l : Launch) (D : va_G) (ca : Nat → ClassId) (ad : Nat → Nat) (G : mS → Prop) : Prop := mCallS G (KX3_isBasket l D ca ad) 1 1 ∧ mCallV G (KX3_layNow l D ca ad) 11 3 0 ∧ mCallV G (KX3_solve l D ca ad) 28 3 1
theorem PX3_turned {l : Launch} {D : va_G} {ca : Nat → ClassId} {ad : Nat → Nat} {av : List Value} {w : mW} {x : Int32} {w2 : mW} (hlen : (lg_sl av).length ≤ 3) (body : ∀ G : mS → Prop, mTb G tbX3_turned → CFX3_turned l D ca ad G → mRet G (some (.int x)) w2 [9, 25, 71] → G (0, lv_args 0 av, [], w)) : KX3_turned l D ca ad av w (some (.int x)) w2 :=
  mPackI [9, 25, 71] (by decide +kernel) hlen tkX3_turned (fun p e s m args below meth c A Q hX => ⟨mCallS_ok hX dX3_turned_1 ⟨wq_230, wq_166, wq_229, by decide +kernel, by decide +kernel, by decide +kernel⟩ wq_231 (by decide) (by decide), mCallV_ok (T := TX3) (N := 18) hX dX3_turned_11 rfl ⟨wq_226, wq_166, wq_225, by decide +kernel, by decide +kernel, by decide +kernel⟩ wq_227 wq_228 (by decide) (by decide), mCallV_ok (T := TX3) (N := 18) hX dX3_turned_28 rfl ⟨wq_239, wq_166, wq_238, by decide +kernel, by decide +kernel, by decide +kernel⟩ wq_240 wq_241 (by decide) (by decide)⟩) (List.forall_mem_cons.mpr ⟨dX3_turned_9, List.forall_mem_cons.mpr ⟨dX3_turned_25, List.forall_mem_cons.mpr ⟨dX3_turned_71, fun _ h => absurd h List.not_mem_nil⟩⟩⟩) body
/-! X3 copy -/
def tbX3_copy : List (Nat × mR) := [(0, r_ic 1 0), (1, r_istore 2 3), (2, r_iload 3 3), (3, r_ic 4 4), (4, r_cge 7 93), (7, r_aload 8 0), (8, r_getf 11 3 2), (11, r_ic 12 4), (12, r_iload 13 2), (13, r_ii 14 (fun x y => x * y)), (14, r_iload 15 3), (15, r_ii 16 (fun x y => x + y)), (16, r_aload 17 0), (17, r_getf 20 3 2), (20, r_ic 21 4), (21, r_iload 22 1), (22, r_ii 23 (fun x y => x * y)), (23, r_iload 24 3), (24, r_ii 25 (fun x y => x + y)), (25, r_iald 26), (26, r_iast 27), (27, r_aload 28 0), (28, r_getf 31 3 3), (31, r_ic 32 4), (32, r_iload 33 2), (33, r_ii 34 (fun x y => x * y)), (34, r_iload 35 3), (35, r_ii 36 (fun x y => x + y)), (36, r_aload 37 0), (37, r_getf 40 3 3), (40, r_ic 41 4), (41, r_iload 42 1), (42, r_ii 43 (fun x y => x * y)), (43, r_iload 44 3), (44, r_ii 45 (fun x y => x + y)), (45, r_iald 46), (46, r_iast 47), (47, r_aload 48 0), (48, r_getf 51 3 4), (51, r_ic 52 4), (52, r_iload 53 2), (53, r_ii 54 (fun x y => x * y)), (54, r_iload 55 3), (55, r_ii 56 (fun x y => x + y)), (56, r_aload 57 0), (57, r_getf 60 3 4), (60, r_ic 61 4), (61, r_iload 62 1), (62, r_ii 63 (fun x y => x * y)), (63, r_iload 64 3), (64, r_ii 65 (fun x y => x + y)), (65, r_iald 66), (66, r_iast 67), (67, r_aload 68 0), (68, r_getf 71 3 5), (71, r_ic 72 4), (72, r_iload 73 2), (73, r_ii 74 (fun x y => x * y)), (74, r_iload 75 3), (75, r_ii 76 (fun x y => x + y)), (76, r_aload 77 0), (77, r_getf 80 3 5), (80, r_ic 81 4), (81, r_iload 82 1), (82, r_ii 83 (fun x y => x * y)), (83, r_iload 84 3), (84, r_ii 85 (fun x y => x + y)), (85, r_iald 86), (86, r_iast 87), (87, r_iinc 90 3 1), (90, r_goto 2), (93, r_ic 94 0), (94, r_istore 95 3), (95, r_iload 96 3), (96, r_ic 98 16), (98, r_cge 101 151), (101, r_aload 102 0), (102, r_getf 105 3 6), (105, r_ic 107 16), (107, r_iload 108 2), (108, r_ii 109 (fun x y => x * y)), (109, r_iload 110 3), (110, r_ii 111 (fun x y => x + y)), (111, r_aload 112 0), (112, r_getf 115 3 6), (115, r_ic 117 16), (117, r_iload 118 1), (118, r_ii 119 (fun x y => x * y)), (119, r_iload 120 3), (120, r_ii 121 (fun x y => x + y)), (121, r_iald 122), (122, r_iast 123), (123, r_aload 124 0), (124, r_getf 127 3 7), (127, r_ic 129 16), (129, r_iload 130 2), (130, r_ii 131 (fun x y => x * y)), (131, r_iload 132 3), (132, r_ii 133 (fun x y => x + y)), (133, r_aload 134 0), (134, r_getf 137 3 7), (137, r_ic 139 16), (139, r_iload 140 1), (140, r_ii 141 (fun x y => x * y)), (141, r_iload 142 3), (142, r_ii 143 (fun x y => x + y)), (143, r_iald 144), (144, r_iast 145), (145, r_iinc 148 3 1), (148, r_goto 95), (151, r_ic 152 0), (152, r_istore 153 3), (153, r_iload 154 3), (154, r_ic 156 36), (156, r_cge 159 187), (159, r_aload 160 0), (160, r_getf 163 3 8), (163, r_ic 165 36), (165, r_iload 166 2), (166, r_ii 167 (fun x y => x * y)), (167, r_iload 168 3), (168, r_ii 169 (fun x y => x + y)), (169, r_aload 170 0), (170, r_getf 173 3 8), (173, r_ic 175 36), (175, r_iload 176 1), (176, r_ii 177 (fun x y => x * y)), (177, r_iload 178 3), (178, r_ii 179 (fun x y => x + y)), (179, r_iald 180), (180, r_iast 181), (181, r_iinc 184 3 1), (184, r_goto 153)]
theorem tkX3_copy : ∀ q ∈ tbX3_copy, mOk cX3_copy RX3 4 q.1 q.2 := by
  unfold tbX3_copy
  refine mcons (ok_iconst dX3_copy_0 (by decide)) ?_
  refine mcons (ok_istore_n dX3_copy_1 rfl (by decide)) ?_
  refine mcons (ok_iload_n dX3_copy_2 rfl) ?_
  refine mcons (ok_iconst dX3_copy_3 (by decide)) ?_
  refine mcons (ok_cge dX3_copy_4 (by decide)) ?_
  refine mcons (ok_aload_n dX3_copy_7 rfl) ?_
  refine mcons (ok_getf 2 dX3_copy_8 rfl mX3 (by decide) wq_171 rfl) ?_
  refine mcons (ok_iconst dX3_copy_11 (by decide)) ?_
  refine mcons (ok_iload_n dX3_copy_12 rfl) ?_
  refine mcons (ok_imul dX3_copy_13) ?_
  refine mcons (ok_iload_n dX3_copy_14 rfl) ?_
  refine mcons (ok_iadd dX3_copy_15) ?_
  refine mcons (ok_aload_n dX3_copy_16 rfl) ?_
  refine mcons (ok_getf 2 dX3_copy_17 rfl mX3 (by decide) wq_171 rfl) ?_
  refine mcons (ok_iconst dX3_copy_20 (by decide)) ?_
  refine mcons (ok_iload_n dX3_copy_21 rfl) ?_
  refine mcons (ok_imul dX3_copy_22) ?_
  refine mcons (ok_iload_n dX3_copy_23 rfl) ?_
  refine mcons (ok_iadd dX3_copy_24) ?_
  refine mcons (ok_iald dX3_copy_25) ?_
  refine mcons (ok_iast dX3_copy_26) ?_
  refine mcons (ok_aload_n dX3_copy_27 rfl) ?_
  refine mcons (ok_getf 3 dX3_copy_28 rfl mX3 (by decide) wq_172 rfl) ?_
  refine mcons (ok_iconst dX3_copy_31 (by decide)) ?_
  refine mcons (ok_iload_n dX3_copy_32 rfl) ?_
  refine mcons (ok_imul dX3_copy_33) ?_
  refine mcons (ok_iload_n dX3_copy_34 rfl) ?_
  refine mcons (ok_iadd dX3_copy_35) ?_
  refine mcons (ok_aload_n dX3_copy_36 rfl) ?_
  refine mcons (ok_getf 3 dX3_copy_37 rfl mX3 (by decide) wq_172 rfl) ?_
  refine mcons (ok_iconst dX3_copy_40 (by decide)) ?_
  refine mcons (ok_iload_n dX3_copy_41 rfl) ?_
  refine mcons (ok_imul dX3_copy_42) ?_
  refine mcons (ok_iload_n dX3_copy_43 rfl) ?_
  refine mcons (ok_iadd dX3_copy_44) ?_
  refine mcons (ok_iald dX3_copy_45) ?_
  refine mcons (ok_iast dX3_copy_46) ?_
  refine mcons (ok_aload_n dX3_copy_47 rfl) ?_
  refine mcons (ok_getf 4 dX3_copy_48 rfl mX3 (by decide) wq_173 rfl) ?_
  refine mcons (ok_iconst dX3_copy_51 (by decide)) ?_
  refine mcons (ok_iload_n dX3_copy_52 rfl) ?_
  refine mcons (ok_imul dX3_copy_53) ?_
  refine mcons (ok_iload_n dX3_copy_54 rfl) ?_
  refine mcons (ok_iadd dX3_copy_55) ?_
  refine mcons (ok_aload_n dX3_copy_56 rfl) ?_
  refine mcons (ok_getf 4 dX3_copy_57 rfl mX3 (by decide) wq_173 rfl) ?_
  refine mcons (ok_iconst dX3_copy_60 (by decide)) ?_
  refine mcons (ok_iload_n dX3_copy_61 rfl) ?_
  refine mcons (ok_imul dX3_copy_62) ?_
  refine mcons (ok_iload_n dX3_copy_63 rfl) ?_
  refine mcons (ok_iadd dX3_copy_64) ?_
  refine mcons (ok_iald dX3_copy_65) ?_
  refine mcons (ok_iast dX3_copy_66) ?_
  refine mcons (ok_aload_n dX3_copy_67 rfl) ?_
  refine mcons (ok_getf 5 dX3_copy_68 rfl mX3 (by decide) wq_174 rfl) ?_
  refine mcons (ok_iconst dX3_copy_71 (by decide)) ?_
  refine mcons (ok_iload_n dX3_copy_72 rfl) ?_
  refine mcons (ok_imul dX3_copy_73) ?_
  refine mcons (ok_iload_n dX3_copy_74 rfl) ?_
  refine mcons (ok_iadd dX3_copy_75) ?_
  refine mcons (ok_aload_n dX3_copy_76 rfl) ?_
  refine mcons (ok_getf 5 dX3_copy_77 rfl mX3 (by decide) wq_174 rfl) ?_
  refine mcons (ok_iconst dX3_copy_80 (by decide)) ?_
  refine mcons (ok_iload_n dX3_copy_81 rfl) ?_
  refine mcons (ok_imul dX3_copy_82) ?_
  refine mcons (ok_iload_n dX3_copy_83 rfl) ?_
  refine mcons (ok_iadd dX3_copy_84) ?_
  refine mcons (ok_iald dX3_copy_85) ?_
  refine mcons (ok_iast dX3_copy_86) ?_
  refine mcons (ok_iinc dX3_copy_87 (by decide) (by decide)) ?_
  refine mcons (ok_goto dX3_copy_90 (by decide)) ?_
  refine mcons (ok_iconst dX3_copy_93 (by decide)) ?_
  refine mcons (ok_istore_n dX3_copy_94 rfl (by decide)) ?_
  refine mcons (ok_iload_n dX3_copy_95 rfl) ?_
  refine mcons (ok_bipush dX3_copy_96 (by decide)) ?_
  refine mcons (ok_cge dX3_copy_98 (by decide)) ?_
  refine mcons (ok_aload_n dX3_copy_101 rfl) ?_
  refine mcons (ok_getf 6 dX3_copy_102 rfl mX3 (by decide) wq_179 rfl) ?_
  refine mcons (ok_bipush dX3_copy_105 (by decide)) ?_
  refine mcons (ok_iload_n dX3_copy_107 rfl) ?_
  refine mcons (ok_imul dX3_copy_108) ?_
  refine mcons (ok_iload_n dX3_copy_109 rfl) ?_
  refine mcons (ok_iadd dX3_copy_110) ?_
  refine mcons (ok_aload_n dX3_copy_111 rfl) ?_
  refine mcons (ok_getf 6 dX3_copy_112 rfl mX3 (by decide) wq_179 rfl) ?_
  refine mcons (ok_bipush dX3_copy_115 (by decide)) ?_
  refine mcons (ok_iload_n dX3_copy_117 rfl) ?_
  refine mcons (ok_imul dX3_copy_118) ?_
  refine mcons (ok_iload_n dX3_copy_119 rfl) ?_
  refine mcons (ok_iadd dX3_copy_120) ?_
  refine mcons (ok_iald dX3_copy_121) ?_
  refine mcons (ok_iast dX3_copy_122) ?_
  refine mcons (ok_aload_n dX3_copy_123 rfl) ?_
  refine mcons (ok_getf 7 dX3_copy_124 rfl mX3 (by decide) wq_180 rfl) ?_
  refine mcons (ok_bipush dX3_copy_127 (by decide)) ?_
  refine mcons (ok_iload_n dX3_copy_129 rfl) ?_
  refine mcons (ok_imul dX3_copy_130) ?_
  refine mcons (ok_iload_n dX3_copy_131 rfl) ?_
  refine mcons (ok_iadd dX3_copy_132) ?_
  refine mcons (ok_aload_n dX3_copy_133 rfl) ?_
  refine mcons (ok_getf 7 dX3_copy_134 rfl mX3 (by decide) wq_180 rfl) ?_
  refine mcons (ok_bipush dX3_copy_137 (by decide)) ?_
  refine mcons (ok_iload_n dX3_copy_139 rfl) ?_
  refine mcons (ok_imul dX3_copy_140) ?_
  refine mcons (ok_iload_n dX3_copy_141 rfl) ?_
  refine mcons (ok_iadd dX3_copy_142) ?_
  refine mcons (ok_iald dX3_copy_143) ?_
  refine mcons (ok_iast dX3_copy_144) ?_
  refine mcons (ok_iinc dX3_copy_145 (by decide) (by decide)) ?_
  refine mcons (ok_goto dX3_copy_148 (by decide)) ?_
  refine mcons (ok_iconst dX3_copy_151 (by decide)) ?_
  refine mcons (ok_istore_n dX3_copy_152 rfl (by decide)) ?_
  refine mcons (ok_iload_n dX3_copy_153 rfl) ?_
  refine mcons (ok_bipush dX3_copy_154 (by decide)) ?_
  refine mcons (ok_cge dX3_copy_156 (by decide)) ?_
  refine mcons (ok_aload_n dX3_copy_159 rfl) ?_
  refine mcons (ok_getf 8 dX3_copy_160 rfl mX3 (by decide) wq_181 rfl) ?_
  refine mcons (ok_bipush dX3_copy_163 (by decide)) ?_
  refine mcons (ok_iload_n dX3_copy_165 rfl) ?_
  refine mcons (ok_imul dX3_copy_166) ?_
  refine mcons (ok_iload_n dX3_copy_167 rfl) ?_
  refine mcons (ok_iadd dX3_copy_168) ?_
  refine mcons (ok_aload_n dX3_copy_169 rfl) ?_
  refine mcons (ok_getf 8 dX3_copy_170 rfl mX3 (by decide) wq_181 rfl) ?_
  refine mcons (ok_bipush dX3_copy_173 (by decide)) ?_
  refine mcons (ok_iload_n dX3_copy_175 rfl) ?_
  refine mcons (ok_imul dX3_copy_176) ?_
  refine mcons (ok_iload_n dX3_copy_177 rfl) ?_
  refine mcons (ok_iadd dX3_copy_178) ?_
  refine mcons (ok_iald dX3_copy_179) ?_
  refine mcons (ok_iast dX3_copy_180) ?_
  refine mcons (ok_iinc dX3_copy_181 (by decide) (by decide)) ?_
  refine mcons (ok_goto dX3_copy_184 (by decide)) ?_
  exact mnil
abbrev KX3_copy (l : Launch) (D : va_G) (ca : Nat → ClassId) (ad : Nat → Nat) : List Value → mW → Option Value → mW → Prop := mC l 0 yX3_copy cX3_copy 4 none D ca ad
def CFX3_copy (l : Launch) (D : va_G) (ca : Nat → ClassId) (ad : Nat → Nat) (G : mS → Prop) : Prop := True
theorem PX3_copy {l : Launch} {D : va_G} {ca : Nat → ClassId} {ad : Nat → Nat} {av : List Value} {w : mW} {w2 : mW} (hlen : (lg_sl av).length ≤ 4) (body : ∀ G : mS → Prop, mTb G tbX3_copy → CFX3_copy l D ca ad G → mRet G none w2 [187] → G (0, lv_args 0 av, [], w)) : KX3_copy l D ca ad av w none w2 :=
  mPackV [187] (by decide +kernel) hlen tkX3_copy (fun p e s m args below meth c A Q hX => trivial) (List.forall_mem_cons.mpr ⟨dX3_copy_187, fun _ h => absurd h List.not_mem_nil⟩) body
/-! X3 keep -/
def tbX3_keep : List (Nat × mR) := [(0, r_aload 1 0), (1, r_getf 4 3 1), (4, r_ic 6 6), (6, r_cne 9 12), (9, r_ic 11 (-105)), (12, r_aload 13 0), (13, r_ic 15 6), (15, r_aload 16 0), (16, r_getf 19 3 1), (22, r_aload 23 0), (23, r_dup 24), (24, r_getf 27 3 1), (27, r_ic 28 1), (28, r_ii 29 (fun x y => x + y)), (29, r_puti 32 3 1), (32, r_aload 33 0), (33, r_getf 36 3 1), (36, r_ic 37 1), (37, r_ii 38 (fun x y => x - y))]
theorem tkX3_keep : ∀ q ∈ tbX3_keep, mOk cX3_keep RX3 1 q.1 q.2 := by
  unfold tbX3_keep
  refine mcons (ok_aload_n dX3_keep_0 rfl) ?_
  refine mcons (ok_getf 1 dX3_keep_1 rfl mX3 (by decide) wq_170 rfl) ?_
  refine mcons (ok_bipush dX3_keep_4 (by decide)) ?_
  refine mcons (ok_cne dX3_keep_6 (by decide)) ?_
  refine mcons (ok_bipush dX3_keep_9 (by decide)) ?_
  refine mcons (ok_aload_n dX3_keep_12 rfl) ?_
  refine mcons (ok_bipush dX3_keep_13 (by decide)) ?_
  refine mcons (ok_aload_n dX3_keep_15 rfl) ?_
  refine mcons (ok_getf 1 dX3_keep_16 rfl mX3 (by decide) wq_170 rfl) ?_
  refine mcons (ok_aload_n dX3_keep_22 rfl) ?_
  refine mcons (ok_dup dX3_keep_23) ?_
  refine mcons (ok_getf 1 dX3_keep_24 rfl mX3 (by decide) wq_170 rfl) ?_
  refine mcons (ok_iconst dX3_keep_27 (by decide)) ?_
  refine mcons (ok_iadd dX3_keep_28) ?_
  refine mcons (ok_puti 1 dX3_keep_29 rfl mX3 tyX3_ok nmX3 (by decide) wq_170 rfl rfl (by decide +kernel)) ?_
  refine mcons (ok_aload_n dX3_keep_32 rfl) ?_
  refine mcons (ok_getf 1 dX3_keep_33 rfl mX3 (by decide) wq_170 rfl) ?_
  refine mcons (ok_iconst dX3_keep_36 (by decide)) ?_
  refine mcons (ok_isub dX3_keep_37) ?_
  exact mnil
abbrev KX3_keep (l : Launch) (D : va_G) (ca : Nat → ClassId) (ad : Nat → Nat) : List Value → mW → Option Value → mW → Prop := mC l 1 yX3_keep cX3_keep 1 (some .int) D ca ad
def CFX3_keep (l : Launch) (D : va_G) (ca : Nat → ClassId) (ad : Nat → Nat) (G : mS → Prop) : Prop := mCallV G (KX3_copy l D ca ad) 19 3 2
theorem PX3_keep {l : Launch} {D : va_G} {ca : Nat → ClassId} {ad : Nat → Nat} {av : List Value} {w : mW} {x : Int32} {w2 : mW} (hlen : (lg_sl av).length ≤ 1) (body : ∀ G : mS → Prop, mTb G tbX3_keep → CFX3_keep l D ca ad G → mRet G (some (.int x)) w2 [11, 38] → G (0, lv_args 0 av, [], w)) : KX3_keep l D ca ad av w (some (.int x)) w2 :=
  mPackI [11, 38] (by decide +kernel) hlen tkX3_keep (fun p e s m args below meth c A Q hX => mCallV_ok (T := TX3) (N := 18) hX dX3_keep_19 rfl ⟨wq_259, wq_166, wq_258, by decide +kernel, by decide +kernel, by decide +kernel⟩ wq_260 wq_261 (by decide) (by decide)) (List.forall_mem_cons.mpr ⟨dX3_keep_11, List.forall_mem_cons.mpr ⟨dX3_keep_38, fun _ h => absurd h List.not_mem_nil⟩⟩) body
/-! X3 recall -/
def tbX3_recall : List (Nat × mR) := [(0, r_iload 1 1), (1, r_ic 2 0), (2, r_aload 3 0), (3, r_getf 6 3 1), (6, r_ic 7 1), (7, r_ii 8 (fun x y => x - y)), (11, r_ifne 14 17), (14, r_ic 16 (-101)), (17, r_aload 18 0), (18, r_iload 19 1), (19, r_ic 21 6), (24, r_ic 25 1)]
theorem tkX3_recall : ∀ q ∈ tbX3_recall, mOk cX3_recall RX3 2 q.1 q.2 := by
  unfold tbX3_recall
  refine mcons (ok_iload_n dX3_recall_0 rfl) ?_
  refine mcons (ok_iconst dX3_recall_1 (by decide)) ?_
  refine mcons (ok_aload_n dX3_recall_2 rfl) ?_
  refine mcons (ok_getf 1 dX3_recall_3 rfl mX3 (by decide) wq_170 rfl) ?_
  refine mcons (ok_iconst dX3_recall_6 (by decide)) ?_
  refine mcons (ok_isub dX3_recall_7) ?_
  refine mcons (ok_ifne dX3_recall_11 (by decide)) ?_
  refine mcons (ok_bipush dX3_recall_14 (by decide)) ?_
  refine mcons (ok_aload_n dX3_recall_17 rfl) ?_
  refine mcons (ok_iload_n dX3_recall_18 rfl) ?_
  refine mcons (ok_bipush dX3_recall_19 (by decide)) ?_
  refine mcons (ok_iconst dX3_recall_24 (by decide)) ?_
  exact mnil
abbrev KX3_recall (l : Launch) (D : va_G) (ca : Nat → ClassId) (ad : Nat → Nat) : List Value → mW → Option Value → mW → Prop := mC l 1 yX3_recall cX3_recall 2 (some .int) D ca ad
def CFX3_recall (l : Launch) (D : va_G) (ca : Nat → ClassId) (ad : Nat → Nat) (G : mS → Prop) : Prop := mCallS G (KX3_in l D ca ad) 8 3 ∧ mCallV G (KX3_copy l D ca ad) 21 3 2
theorem PX3_recall {l : Launch} {D : va_G} {ca : Nat → ClassId} {ad : Nat → Nat} {av : List Value} {w : mW} {x : Int32} {w2 : mW} (hlen : (lg_sl av).length ≤ 2) (body : ∀ G : mS → Prop, mTb G tbX3_recall → CFX3_recall l D ca ad G → mRet G (some (.int x)) w2 [16, 25] → G (0, lv_args 0 av, [], w)) : KX3_recall l D ca ad av w (some (.int x)) w2 :=
  mPackI [16, 25] (by decide +kernel) hlen tkX3_recall (fun p e s m args below meth c A Q hX => ⟨mCallS_ok hX dX3_recall_8 ⟨wq_168, wq_166, wq_167, by decide +kernel, by decide +kernel, by decide +kernel⟩ wq_169 (by decide) (by decide), mCallV_ok (T := TX3) (N := 18) hX dX3_recall_21 rfl ⟨wq_259, wq_166, wq_258, by decide +kernel, by decide +kernel, by decide +kernel⟩ wq_260 wq_261 (by decide) (by decide)⟩) (List.forall_mem_cons.mpr ⟨dX3_recall_16, List.forall_mem_cons.mpr ⟨dX3_recall_25, fun _ h => absurd h List.not_mem_nil⟩⟩) body
/-! X3 mixed -/
def tbX3_mixed : List (Nat × mR) := [(0, r_ic 1 0), (1, r_istore 3 5), (3, r_iload 5 5), (5, r_ic 6 4), (6, r_cge 9 35), (9, r_aload 10 0), (10, r_getf 13 3 10), (13, r_iload 15 5), (15, r_iload 17 5), (17, r_iload 19 4), (19, r_cge 22 27), (22, r_ic 24 6), (24, r_goto 28), (27, r_iload 28 1), (28, r_iast 29), (29, r_iinc 32 5 1), (32, r_goto 3), (35, r_aload 36 0), (39, r_aload 40 0), (40, r_getf 43 3 13), (43, r_lc 44 0), (44, r_lcmp 45), (45, r_ifne 48 50), (48, r_lc 49 0), (50, r_aload 51 0), (51, r_iload 52 2), (55, r_aload 56 0), (56, r_iload 57 3), (57, r_ic 58 1), (61, r_aload 62 0), (62, r_getf 65 3 15)]
theorem tkX3_mixed : ∀ q ∈ tbX3_mixed, mOk cX3_mixed RX3 6 q.1 q.2 := by
  unfold tbX3_mixed
  refine mcons (ok_iconst dX3_mixed_0 (by decide)) ?_
  refine mcons (ok_istore dX3_mixed_1 (by decide)) ?_
  refine mcons (ok_iload dX3_mixed_3) ?_
  refine mcons (ok_iconst dX3_mixed_5 (by decide)) ?_
  refine mcons (ok_cge dX3_mixed_6 (by decide)) ?_
  refine mcons (ok_aload_n dX3_mixed_9 rfl) ?_
  refine mcons (ok_getf 10 dX3_mixed_10 rfl mX3 (by decide) wq_207 rfl) ?_
  refine mcons (ok_iload dX3_mixed_13) ?_
  refine mcons (ok_iload dX3_mixed_15) ?_
  refine mcons (ok_iload dX3_mixed_17) ?_
  refine mcons (ok_cge dX3_mixed_19 (by decide)) ?_
  refine mcons (ok_bipush dX3_mixed_22 (by decide)) ?_
  refine mcons (ok_goto dX3_mixed_24 (by decide)) ?_
  refine mcons (ok_iload_n dX3_mixed_27 rfl) ?_
  refine mcons (ok_iast dX3_mixed_28) ?_
  refine mcons (ok_iinc dX3_mixed_29 (by decide) (by decide)) ?_
  refine mcons (ok_goto dX3_mixed_32 (by decide)) ?_
  refine mcons (ok_aload_n dX3_mixed_35 rfl) ?_
  refine mcons (ok_aload_n dX3_mixed_39 rfl) ?_
  refine mcons (ok_getf 13 dX3_mixed_40 rfl mX3 (by decide) wq_208 rfl) ?_
  refine mcons (ok_lconst dX3_mixed_43 (by decide)) ?_
  refine mcons (ok_lcmp dX3_mixed_44) ?_
  refine mcons (ok_ifne dX3_mixed_45 (by decide)) ?_
  refine mcons (ok_lconst dX3_mixed_48 (by decide)) ?_
  refine mcons (ok_aload_n dX3_mixed_50 rfl) ?_
  refine mcons (ok_iload_n dX3_mixed_51 rfl) ?_
  refine mcons (ok_aload_n dX3_mixed_55 rfl) ?_
  refine mcons (ok_iload_n dX3_mixed_56 rfl) ?_
  refine mcons (ok_iconst dX3_mixed_57 (by decide)) ?_
  refine mcons (ok_aload_n dX3_mixed_61 rfl) ?_
  refine mcons (ok_getf 15 dX3_mixed_62 rfl mX3 (by decide) wq_221 rfl) ?_
  exact mnil
abbrev KX3_mixed (l : Launch) (D : va_G) (ca : Nat → ClassId) (ad : Nat → Nat) : List Value → mW → Option Value → mW → Prop := mC l 5 yX3_mixed cX3_mixed 6 (some .long) D ca ad
def CFX3_mixed (l : Launch) (D : va_G) (ca : Nat → ClassId) (ad : Nat → Nat) (G : mS → Prop) : Prop := mCallV G (KX3_lay l D ca ad) 36 3 0 ∧ mCallV G (KX3_solve l D ca ad) 52 3 1 ∧ mCallV G (KX3_sum l D ca ad) 58 3 2 ∧ mCallS G (KX3_thousandths l D ca ad) 65 2
theorem PX3_mixed {l : Launch} {D : va_G} {ca : Nat → ClassId} {ad : Nat → Nat} {av : List Value} {w : mW} {x : Int64} {w2 : mW} (hlen : (lg_sl av).length ≤ 6) (body : ∀ G : mS → Prop, mTb G tbX3_mixed → CFX3_mixed l D ca ad G → mRet G (some (.long x)) w2 [49, 68] → G (0, lv_args 0 av, [], w)) : KX3_mixed l D ca ad av w (some (.long x)) w2 :=
  mPackL [49, 68] (by decide +kernel) hlen tkX3_mixed (fun p e s m args below meth c A Q hX => ⟨mCallV_ok (T := TX3) (N := 18) hX dX3_mixed_36 rfl ⟨wq_218, wq_166, wq_217, by decide +kernel, by decide +kernel, by decide +kernel⟩ wq_219 wq_220 (by decide) (by decide), mCallV_ok (T := TX3) (N := 18) hX dX3_mixed_52 rfl ⟨wq_239, wq_166, wq_238, by decide +kernel, by decide +kernel, by decide +kernel⟩ wq_240 wq_241 (by decide) (by decide), mCallV_ok (T := TX3) (N := 18) hX dX3_mixed_58 rfl ⟨wq_251, wq_166, wq_250, by decide +kernel, by decide +kernel, by decide +kernel⟩ wq_252 wq_253 (by decide) (by decide), mCallS_ok hX dX3_mixed_65 ⟨wq_243, wq_166, wq_242, by decide +kernel, by decide +kernel, by decide +kernel⟩ wq_244 (by decide) (by decide)⟩) (List.forall_mem_cons.mpr ⟨dX3_mixed_49, List.forall_mem_cons.mpr ⟨dX3_mixed_68, fun _ h => absurd h List.not_mem_nil⟩⟩) body
/-! X3 blame -/
def tbX3_blame : List (Nat × mR) := [(0, r_iload 1 1), (1, r_ic 2 0), (2, r_aload 3 0), (3, r_getf 6 3 1), (6, r_ic 7 1), (7, r_ii 8 (fun x y => x - y)), (11, r_ifeq 14 37), (14, r_iload 15 2), (18, r_ifeq 21 37), (21, r_iload 22 3), (25, r_ifeq 28 37), (28, r_aload 29 0), (29, r_iload 31 4), (34, r_ifne 37 41), (37, r_lc 40 (-9000000000000000001)), (41, r_aload 42 0), (42, r_iload 43 1), (43, r_iload 44 2), (44, r_iload 45 3), (45, r_iload 47 4), (47, r_ic 48 1), (48, r_ii 49 (fun x y => x + y)), (52, r_lstore 54 5), (54, r_aload 55 0), (55, r_getf 58 3 13), (58, r_lc 59 0), (59, r_lcmp 60), (60, r_ifne 63 67), (63, r_lc 66 (-9000000000000000004)), (67, r_aload 68 0), (68, r_iload 69 1), (69, r_iload 70 2), (70, r_iload 71 3), (71, r_iload 73 4), (76, r_lstore 78 7), (78, r_aload 79 0), (79, r_getf 82 3 13), (82, r_lc 83 0), (83, r_lcmp 84), (84, r_ifne 87 93), (87, r_lc 90 (-9000000000000000004)), (90, r_goto 98), (93, r_lload 95 5), (95, r_lload 97 7), (97, r_ll 98 (fun x y => x - y))]
theorem tkX3_blame : ∀ q ∈ tbX3_blame, mOk cX3_blame RX3 9 q.1 q.2 := by
  unfold tbX3_blame
  refine mcons (ok_iload_n dX3_blame_0 rfl) ?_
  refine mcons (ok_iconst dX3_blame_1 (by decide)) ?_
  refine mcons (ok_aload_n dX3_blame_2 rfl) ?_
  refine mcons (ok_getf 1 dX3_blame_3 rfl mX3 (by decide) wq_170 rfl) ?_
  refine mcons (ok_iconst dX3_blame_6 (by decide)) ?_
  refine mcons (ok_isub dX3_blame_7) ?_
  refine mcons (ok_ifeq dX3_blame_11 (by decide)) ?_
  refine mcons (ok_iload_n dX3_blame_14 rfl) ?_
  refine mcons (ok_ifeq dX3_blame_18 (by decide)) ?_
  refine mcons (ok_iload_n dX3_blame_21 rfl) ?_
  refine mcons (ok_ifeq dX3_blame_25 (by decide)) ?_
  refine mcons (ok_aload_n dX3_blame_28 rfl) ?_
  refine mcons (ok_iload dX3_blame_29) ?_
  refine mcons (ok_ifne dX3_blame_34 (by decide)) ?_
  refine mcons (ok_ldc2 dX3_blame_37 wq_236) ?_
  refine mcons (ok_aload_n dX3_blame_41 rfl) ?_
  refine mcons (ok_iload_n dX3_blame_42 rfl) ?_
  refine mcons (ok_iload_n dX3_blame_43 rfl) ?_
  refine mcons (ok_iload_n dX3_blame_44 rfl) ?_
  refine mcons (ok_iload dX3_blame_45) ?_
  refine mcons (ok_iconst dX3_blame_47 (by decide)) ?_
  refine mcons (ok_iadd dX3_blame_48) ?_
  refine mcons (ok_lstore dX3_blame_52 (by decide)) ?_
  refine mcons (ok_aload_n dX3_blame_54 rfl) ?_
  refine mcons (ok_getf 13 dX3_blame_55 rfl mX3 (by decide) wq_208 rfl) ?_
  refine mcons (ok_lconst dX3_blame_58 (by decide)) ?_
  refine mcons (ok_lcmp dX3_blame_59) ?_
  refine mcons (ok_ifne dX3_blame_60 (by decide)) ?_
  refine mcons (ok_ldc2 dX3_blame_63 wq_237) ?_
  refine mcons (ok_aload_n dX3_blame_67 rfl) ?_
  refine mcons (ok_iload_n dX3_blame_68 rfl) ?_
  refine mcons (ok_iload_n dX3_blame_69 rfl) ?_
  refine mcons (ok_iload_n dX3_blame_70 rfl) ?_
  refine mcons (ok_iload dX3_blame_71) ?_
  refine mcons (ok_lstore dX3_blame_76 (by decide)) ?_
  refine mcons (ok_aload_n dX3_blame_78 rfl) ?_
  refine mcons (ok_getf 13 dX3_blame_79 rfl mX3 (by decide) wq_208 rfl) ?_
  refine mcons (ok_lconst dX3_blame_82 (by decide)) ?_
  refine mcons (ok_lcmp dX3_blame_83) ?_
  refine mcons (ok_ifne dX3_blame_84 (by decide)) ?_
  refine mcons (ok_ldc2 dX3_blame_87 wq_237) ?_
  refine mcons (ok_goto dX3_blame_90 (by decide)) ?_
  refine mcons (ok_lload dX3_blame_93) ?_
  refine mcons (ok_lload dX3_blame_95) ?_
  refine mcons (ok_lsub dX3_blame_97) ?_
  exact mnil
abbrev KX3_blame (l : Launch) (D : va_G) (ca : Nat → ClassId) (ad : Nat → Nat) : List Value → mW → Option Value → mW → Prop := mC l 6 yX3_blame cX3_blame 9 (some .long) D ca ad
def CFX3_blame (l : Launch) (D : va_G) (ca : Nat → ClassId) (ad : Nat → Nat) (G : mS → Prop) : Prop := mCallS G (KX3_in l D ca ad) 8 3 ∧ mCallS G (KX3_isBasket l D ca ad) 15 1 ∧ mCallS G (KX3_isStuff l D ca ad) 22 1 ∧ mCallV G (KX3_isMaking l D ca ad) 31 3 1 ∧ mCallV G (KX3_mixed l D ca ad) 49 3 4 ∧ mCallV G (KX3_mixed l D ca ad) 73 3 4
theorem PX3_blame {l : Launch} {D : va_G} {ca : Nat → ClassId} {ad : Nat → Nat} {av : List Value} {w : mW} {x : Int64} {w2 : mW} (hlen : (lg_sl av).length ≤ 9) (body : ∀ G : mS → Prop, mTb G tbX3_blame → CFX3_blame l D ca ad G → mRet G (some (.long x)) w2 [40, 66, 98] → G (0, lv_args 0 av, [], w)) : KX3_blame l D ca ad av w (some (.long x)) w2 :=
  mPackL [40, 66, 98] (by decide +kernel) hlen tkX3_blame (fun p e s m args below meth c A Q hX => ⟨mCallS_ok hX dX3_blame_8 ⟨wq_168, wq_166, wq_167, by decide +kernel, by decide +kernel, by decide +kernel⟩ wq_169 (by decide) (by decide), mCallS_ok hX dX3_blame_15 ⟨wq_230, wq_166, wq_229, by decide +kernel, by decide +kernel, by decide +kernel⟩ wq_231 (by decide) (by decide), mCallS_ok hX dX3_blame_22 ⟨wq_183, wq_166, wq_182, by decide +kernel, by decide +kernel, by decide +kernel⟩ wq_184 (by decide) (by decide), mCallV_ok (T := TX3) (N := 18) hX dX3_blame_31 rfl ⟨wq_176, wq_166, wq_175, by decide +kernel, by decide +kernel, by decide +kernel⟩ wq_177 wq_178 (by decide) (by decide), mCallV_ok (T := TX3) (N := 18) hX dX3_blame_49 rfl ⟨wq_263, wq_166, wq_262, by decide +kernel, by decide +kernel, by decide +kernel⟩ wq_264 wq_265 (by decide) (by decide), mCallV_ok (T := TX3) (N := 18) hX dX3_blame_73 rfl ⟨wq_263, wq_166, wq_262, by decide +kernel, by decide +kernel, by decide +kernel⟩ wq_264 wq_265 (by decide) (by decide)⟩) (List.forall_mem_cons.mpr ⟨dX3_blame_40, List.forall_mem_cons.mpr ⟨dX3_blame_66, List.forall_mem_cons.mpr ⟨dX3_blame_98, fun _ h => absurd h List.not_mem_nil⟩⟩⟩) body
/-! X3 count -/
def tbX3_count : List (Nat × mR) := [(0, r_ic 1 0), (1, r_istore 2 2), (2, r_iload 3 1), (3, r_tsw 0 3 172 [32, 37, 42, 113]), (32, r_aload 33 0), (33, r_getf 36 3 0), (37, r_aload 38 0), (38, r_getf 41 3 1), (42, r_ic 43 0), (43, r_istore 44 3), (44, r_iload 45 3), (45, r_aload 46 0), (46, r_getf 49 3 0), (49, r_cge 52 111), (52, r_ic 53 0), (53, r_istore 55 4), (55, r_ic 56 0), (56, r_istore 58 5), (58, r_iload 60 5), (60, r_aload 61 0), (61, r_getf 64 3 0), (64, r_cge 67 92), (67, r_iload 69 4), (69, r_aload 70 0), (70, r_getf 73 3 7), (73, r_ic 75 96), (75, r_ic 76 4), (76, r_iload 77 3), (77, r_ii 78 (fun x y => x * y)), (78, r_ii 79 (fun x y => x + y)), (79, r_iload 81 5), (81, r_ii 82 (fun x y => x + y)), (82, r_iald 83), (83, r_ii 84 (fun x y => x + y)), (84, r_istore 86 4), (86, r_iinc 89 5 1), (89, r_goto 58), (92, r_iload 93 2), (93, r_iload 95 4), (95, r_ifle 98 102), (98, r_ic 99 1), (99, r_goto 103), (102, r_ic 103 0), (103, r_ii 104 (fun x y => x + y)), (104, r_istore 105 2), (105, r_iinc 108 3 1), (108, r_goto 44), (111, r_iload 112 2), (113, r_ic 114 0), (114, r_istore 115 3), (115, r_iload 116 3), (116, r_ic 118 16), (118, r_cge 121 170), (121, r_iload 122 2), (122, r_iload 123 3), (123, r_ic 124 4), (124, r_iid 125 (fun x y => x / y)), (125, r_aload 126 0), (126, r_getf 129 3 0), (129, r_cge 132 161), (132, r_iload 133 3), (133, r_ic 134 4), (134, r_iid 135 (fun x y => x - x / y * y)), (135, r_aload 136 0), (136, r_getf 139 3 0), (139, r_cge 142 161), (142, r_aload 143 0), (143, r_ic 145 6), (145, r_iload 146 3), (146, r_ic 147 4), (147, r_iid 148 (fun x y => x / y)), (148, r_iload 149 3), (149, r_ic 150 4), (150, r_iid 151 (fun x y => x - x / y * y)), (154, r_ifeq 157 161), (157, r_ic 158 1), (158, r_goto 162), (161, r_ic 162 0), (162, r_ii 163 (fun x y => x + y)), (163, r_istore 164 2), (164, r_iinc 167 3 1), (167, r_goto 115), (170, r_iload 171 2), (172, r_ic 174 (-102))]
theorem tkX3_count : ∀ q ∈ tbX3_count, mOk cX3_count RX3 6 q.1 q.2 := by
  unfold tbX3_count
  refine mcons (ok_iconst dX3_count_0 (by decide)) ?_
  refine mcons (ok_istore_n dX3_count_1 rfl (by decide)) ?_
  refine mcons (ok_iload_n dX3_count_2 rfl) ?_
  refine mcons (ok_tsw dX3_count_3 (by decide) (by decide)) ?_
  refine mcons (ok_aload_n dX3_count_32 rfl) ?_
  refine mcons (ok_getf 0 dX3_count_33 rfl mX3 (by decide) wq_165 rfl) ?_
  refine mcons (ok_aload_n dX3_count_37 rfl) ?_
  refine mcons (ok_getf 1 dX3_count_38 rfl mX3 (by decide) wq_170 rfl) ?_
  refine mcons (ok_iconst dX3_count_42 (by decide)) ?_
  refine mcons (ok_istore_n dX3_count_43 rfl (by decide)) ?_
  refine mcons (ok_iload_n dX3_count_44 rfl) ?_
  refine mcons (ok_aload_n dX3_count_45 rfl) ?_
  refine mcons (ok_getf 0 dX3_count_46 rfl mX3 (by decide) wq_165 rfl) ?_
  refine mcons (ok_cge dX3_count_49 (by decide)) ?_
  refine mcons (ok_iconst dX3_count_52 (by decide)) ?_
  refine mcons (ok_istore dX3_count_53 (by decide)) ?_
  refine mcons (ok_iconst dX3_count_55 (by decide)) ?_
  refine mcons (ok_istore dX3_count_56 (by decide)) ?_
  refine mcons (ok_iload dX3_count_58) ?_
  refine mcons (ok_aload_n dX3_count_60 rfl) ?_
  refine mcons (ok_getf 0 dX3_count_61 rfl mX3 (by decide) wq_165 rfl) ?_
  refine mcons (ok_cge dX3_count_64 (by decide)) ?_
  refine mcons (ok_iload dX3_count_67) ?_
  refine mcons (ok_aload_n dX3_count_69 rfl) ?_
  refine mcons (ok_getf 7 dX3_count_70 rfl mX3 (by decide) wq_180 rfl) ?_
  refine mcons (ok_bipush dX3_count_73 (by decide)) ?_
  refine mcons (ok_iconst dX3_count_75 (by decide)) ?_
  refine mcons (ok_iload_n dX3_count_76 rfl) ?_
  refine mcons (ok_imul dX3_count_77) ?_
  refine mcons (ok_iadd dX3_count_78) ?_
  refine mcons (ok_iload dX3_count_79) ?_
  refine mcons (ok_iadd dX3_count_81) ?_
  refine mcons (ok_iald dX3_count_82) ?_
  refine mcons (ok_iadd dX3_count_83) ?_
  refine mcons (ok_istore dX3_count_84 (by decide)) ?_
  refine mcons (ok_iinc dX3_count_86 (by decide) (by decide)) ?_
  refine mcons (ok_goto dX3_count_89 (by decide)) ?_
  refine mcons (ok_iload_n dX3_count_92 rfl) ?_
  refine mcons (ok_iload dX3_count_93) ?_
  refine mcons (ok_ifle dX3_count_95 (by decide)) ?_
  refine mcons (ok_iconst dX3_count_98 (by decide)) ?_
  refine mcons (ok_goto dX3_count_99 (by decide)) ?_
  refine mcons (ok_iconst dX3_count_102 (by decide)) ?_
  refine mcons (ok_iadd dX3_count_103) ?_
  refine mcons (ok_istore_n dX3_count_104 rfl (by decide)) ?_
  refine mcons (ok_iinc dX3_count_105 (by decide) (by decide)) ?_
  refine mcons (ok_goto dX3_count_108 (by decide)) ?_
  refine mcons (ok_iload_n dX3_count_111 rfl) ?_
  refine mcons (ok_iconst dX3_count_113 (by decide)) ?_
  refine mcons (ok_istore_n dX3_count_114 rfl (by decide)) ?_
  refine mcons (ok_iload_n dX3_count_115 rfl) ?_
  refine mcons (ok_bipush dX3_count_116 (by decide)) ?_
  refine mcons (ok_cge dX3_count_118 (by decide)) ?_
  refine mcons (ok_iload_n dX3_count_121 rfl) ?_
  refine mcons (ok_iload_n dX3_count_122 rfl) ?_
  refine mcons (ok_iconst dX3_count_123 (by decide)) ?_
  refine mcons (ok_idiv dX3_count_124) ?_
  refine mcons (ok_aload_n dX3_count_125 rfl) ?_
  refine mcons (ok_getf 0 dX3_count_126 rfl mX3 (by decide) wq_165 rfl) ?_
  refine mcons (ok_cge dX3_count_129 (by decide)) ?_
  refine mcons (ok_iload_n dX3_count_132 rfl) ?_
  refine mcons (ok_iconst dX3_count_133 (by decide)) ?_
  refine mcons (ok_irem dX3_count_134) ?_
  refine mcons (ok_aload_n dX3_count_135 rfl) ?_
  refine mcons (ok_getf 0 dX3_count_136 rfl mX3 (by decide) wq_165 rfl) ?_
  refine mcons (ok_cge dX3_count_139 (by decide)) ?_
  refine mcons (ok_aload_n dX3_count_142 rfl) ?_
  refine mcons (ok_bipush dX3_count_143 (by decide)) ?_
  refine mcons (ok_iload_n dX3_count_145 rfl) ?_
  refine mcons (ok_iconst dX3_count_146 (by decide)) ?_
  refine mcons (ok_idiv dX3_count_147) ?_
  refine mcons (ok_iload_n dX3_count_148 rfl) ?_
  refine mcons (ok_iconst dX3_count_149 (by decide)) ?_
  refine mcons (ok_irem dX3_count_150) ?_
  refine mcons (ok_ifeq dX3_count_154 (by decide)) ?_
  refine mcons (ok_iconst dX3_count_157 (by decide)) ?_
  refine mcons (ok_goto dX3_count_158 (by decide)) ?_
  refine mcons (ok_iconst dX3_count_161 (by decide)) ?_
  refine mcons (ok_iadd dX3_count_162) ?_
  refine mcons (ok_istore_n dX3_count_163 rfl (by decide)) ?_
  refine mcons (ok_iinc dX3_count_164 (by decide) (by decide)) ?_
  refine mcons (ok_goto dX3_count_167 (by decide)) ?_
  refine mcons (ok_iload_n dX3_count_170 rfl) ?_
  refine mcons (ok_bipush dX3_count_172 (by decide)) ?_
  exact mnil
abbrev KX3_count (l : Launch) (D : va_G) (ca : Nat → ClassId) (ad : Nat → Nat) : List Value → mW → Option Value → mW → Prop := mC l 4 yX3_count cX3_count 6 (some .int) D ca ad
def CFX3_count (l : Launch) (D : va_G) (ca : Nat → ClassId) (ad : Nat → Nat) (G : mS → Prop) : Prop := mCallV G (KX3_entryOf l D ca ad) 151 3 3
theorem PX3_count {l : Launch} {D : va_G} {ca : Nat → ClassId} {ad : Nat → Nat} {av : List Value} {w : mW} {x : Int32} {w2 : mW} (hlen : (lg_sl av).length ≤ 6) (body : ∀ G : mS → Prop, mTb G tbX3_count → CFX3_count l D ca ad G → mRet G (some (.int x)) w2 [36, 41, 112, 171, 174] → G (0, lv_args 0 av, [], w)) : KX3_count l D ca ad av w (some (.int x)) w2 :=
  mPackI [36, 41, 112, 171, 174] (by decide +kernel) hlen tkX3_count (fun p e s m args below meth c A Q hX => mCallV_ok (T := TX3) (N := 18) hX dX3_count_151 rfl ⟨wq_210, wq_166, wq_209, by decide +kernel, by decide +kernel, by decide +kernel⟩ wq_211 wq_212 (by decide) (by decide)) (List.forall_mem_cons.mpr ⟨dX3_count_36, List.forall_mem_cons.mpr ⟨dX3_count_41, List.forall_mem_cons.mpr ⟨dX3_count_112, List.forall_mem_cons.mpr ⟨dX3_count_171, List.forall_mem_cons.mpr ⟨dX3_count_174, fun _ h => absurd h List.not_mem_nil⟩⟩⟩⟩⟩) body
/-! X3 mix -/
def tbX3_mix : List (Nat × mR) := [(0, r_aload 1 0), (1, r_lc 4 (31)), (4, r_aload 5 0), (5, r_getf 8 3 17), (8, r_ll 9 (fun x y => x * y)), (9, r_lload 10 1), (10, r_ll 11 (fun x y => x + y)), (11, r_putl 14 3 17)]
theorem tkX3_mix : ∀ q ∈ tbX3_mix, mOk cX3_mix RX3 3 q.1 q.2 := by
  unfold tbX3_mix
  refine mcons (ok_aload_n dX3_mix_0 rfl) ?_
  refine mcons (ok_ldc2 dX3_mix_1 wq_266) ?_
  refine mcons (ok_aload_n dX3_mix_4 rfl) ?_
  refine mcons (ok_getf 17 dX3_mix_5 rfl mX3 (by decide) wq_267 rfl) ?_
  refine mcons (ok_lmul dX3_mix_8) ?_
  refine mcons (ok_lload_n dX3_mix_9 rfl) ?_
  refine mcons (ok_ladd dX3_mix_10) ?_
  refine mcons (ok_putl 17 dX3_mix_11 rfl mX3 tyX3_ok nmX3 (by decide) wq_267 rfl rfl (by decide +kernel)) ?_
  exact mnil
abbrev KX3_mix (l : Launch) (D : va_G) (ca : Nat → ClassId) (ad : Nat → Nat) : List Value → mW → Option Value → mW → Prop := mC l 0 yX3_mix cX3_mix 3 none D ca ad
def CFX3_mix (l : Launch) (D : va_G) (ca : Nat → ClassId) (ad : Nat → Nat) (G : mS → Prop) : Prop := True
theorem PX3_mix {l : Launch} {D : va_G} {ca : Nat → ClassId} {ad : Nat → Nat} {av : List Value} {w : mW} {w2 : mW} (hlen : (lg_sl av).length ≤ 3) (body : ∀ G : mS → Prop, mTb G tbX3_mix → CFX3_mix l D ca ad G → mRet G none w2 [14] → G (0, lv_args 0 av, [], w)) : KX3_mix l D ca ad av w none w2 :=
  mPackV [14] (by decide +kernel) hlen tkX3_mix (fun p e s m args below meth c A Q hX => trivial) (List.forall_mem_cons.mpr ⟨dX3_mix_14, fun _ h => absurd h List.not_mem_nil⟩) body
/-! X3 digest -/
def tbX3_digest : List (Nat × mR) := [(0, r_aload 1 0), (1, r_lc 4 (151)), (4, r_putl 7 3 17), (7, r_ic 8 0), (8, r_istore 9 1), (9, r_iload 10 1), (10, r_aload 11 0), (11, r_getf 14 3 0), (14, r_cge 17 48), (17, r_ic 18 0), (18, r_istore 19 2), (19, r_iload 20 2), (20, r_ic 22 23), (22, r_cge 25 42), (25, r_aload 26 0), (26, r_aload 27 0), (27, r_iload 28 1), (28, r_iload 29 2), (32, r_i2l 33), (36, r_iinc 39 2 1), (39, r_goto 19), (42, r_iinc 45 1 1), (45, r_goto 9), (48, r_ic 49 0), (49, r_istore 50 1), (50, r_iload 51 1), (51, r_ic 52 4), (52, r_cge 55 92), (55, r_ic 56 0), (56, r_istore 57 2), (57, r_iload 58 2), (58, r_aload 59 0), (59, r_getf 62 3 0), (62, r_cge 65 86), (65, r_aload 66 0), (66, r_aload 67 0), (67, r_getf 70 3 9), (70, r_ic 71 4), (71, r_iload 72 1), (72, r_ii 73 (fun x y => x * y)), (73, r_iload 74 2), (74, r_ii 75 (fun x y => x + y)), (75, r_iald 76), (76, r_i2l 77), (80, r_iinc 83 2 1), (83, r_goto 57), (86, r_iinc 89 1 1), (89, r_goto 50), (92, r_aload 93 0), (93, r_aload 94 0), (94, r_getf 97 3 1), (97, r_i2l 98), (101, r_aload 102 0), (102, r_aload 103 0), (109, r_aload 110 0), (110, r_getf 113 3 17)]
theorem tkX3_digest : ∀ q ∈ tbX3_digest, mOk cX3_digest RX3 3 q.1 q.2 := by
  unfold tbX3_digest
  refine mcons (ok_aload_n dX3_digest_0 rfl) ?_
  refine mcons (ok_ldc2 dX3_digest_1 wq_268) ?_
  refine mcons (ok_putl 17 dX3_digest_4 rfl mX3 tyX3_ok nmX3 (by decide) wq_267 rfl rfl (by decide +kernel)) ?_
  refine mcons (ok_iconst dX3_digest_7 (by decide)) ?_
  refine mcons (ok_istore_n dX3_digest_8 rfl (by decide)) ?_
  refine mcons (ok_iload_n dX3_digest_9 rfl) ?_
  refine mcons (ok_aload_n dX3_digest_10 rfl) ?_
  refine mcons (ok_getf 0 dX3_digest_11 rfl mX3 (by decide) wq_165 rfl) ?_
  refine mcons (ok_cge dX3_digest_14 (by decide)) ?_
  refine mcons (ok_iconst dX3_digest_17 (by decide)) ?_
  refine mcons (ok_istore_n dX3_digest_18 rfl (by decide)) ?_
  refine mcons (ok_iload_n dX3_digest_19 rfl) ?_
  refine mcons (ok_bipush dX3_digest_20 (by decide)) ?_
  refine mcons (ok_cge dX3_digest_22 (by decide)) ?_
  refine mcons (ok_aload_n dX3_digest_25 rfl) ?_
  refine mcons (ok_aload_n dX3_digest_26 rfl) ?_
  refine mcons (ok_iload_n dX3_digest_27 rfl) ?_
  refine mcons (ok_iload_n dX3_digest_28 rfl) ?_
  refine mcons (ok_i2l dX3_digest_32) ?_
  refine mcons (ok_iinc dX3_digest_36 (by decide) (by decide)) ?_
  refine mcons (ok_goto dX3_digest_39 (by decide)) ?_
  refine mcons (ok_iinc dX3_digest_42 (by decide) (by decide)) ?_
  refine mcons (ok_goto dX3_digest_45 (by decide)) ?_
  refine mcons (ok_iconst dX3_digest_48 (by decide)) ?_
  refine mcons (ok_istore_n dX3_digest_49 rfl (by decide)) ?_
  refine mcons (ok_iload_n dX3_digest_50 rfl) ?_
  refine mcons (ok_iconst dX3_digest_51 (by decide)) ?_
  refine mcons (ok_cge dX3_digest_52 (by decide)) ?_
  refine mcons (ok_iconst dX3_digest_55 (by decide)) ?_
  refine mcons (ok_istore_n dX3_digest_56 rfl (by decide)) ?_
  refine mcons (ok_iload_n dX3_digest_57 rfl) ?_
  refine mcons (ok_aload_n dX3_digest_58 rfl) ?_
  refine mcons (ok_getf 0 dX3_digest_59 rfl mX3 (by decide) wq_165 rfl) ?_
  refine mcons (ok_cge dX3_digest_62 (by decide)) ?_
  refine mcons (ok_aload_n dX3_digest_65 rfl) ?_
  refine mcons (ok_aload_n dX3_digest_66 rfl) ?_
  refine mcons (ok_getf 9 dX3_digest_67 rfl mX3 (by decide) wq_222 rfl) ?_
  refine mcons (ok_iconst dX3_digest_70 (by decide)) ?_
  refine mcons (ok_iload_n dX3_digest_71 rfl) ?_
  refine mcons (ok_imul dX3_digest_72) ?_
  refine mcons (ok_iload_n dX3_digest_73 rfl) ?_
  refine mcons (ok_iadd dX3_digest_74) ?_
  refine mcons (ok_iald dX3_digest_75) ?_
  refine mcons (ok_i2l dX3_digest_76) ?_
  refine mcons (ok_iinc dX3_digest_80 (by decide) (by decide)) ?_
  refine mcons (ok_goto dX3_digest_83 (by decide)) ?_
  refine mcons (ok_iinc dX3_digest_86 (by decide) (by decide)) ?_
  refine mcons (ok_goto dX3_digest_89 (by decide)) ?_
  refine mcons (ok_aload_n dX3_digest_92 rfl) ?_
  refine mcons (ok_aload_n dX3_digest_93 rfl) ?_
  refine mcons (ok_getf 1 dX3_digest_94 rfl mX3 (by decide) wq_170 rfl) ?_
  refine mcons (ok_i2l dX3_digest_97) ?_
  refine mcons (ok_aload_n dX3_digest_101 rfl) ?_
  refine mcons (ok_aload_n dX3_digest_102 rfl) ?_
  refine mcons (ok_aload_n dX3_digest_109 rfl) ?_
  refine mcons (ok_getf 17 dX3_digest_110 rfl mX3 (by decide) wq_267 rfl) ?_
  exact mnil
abbrev KX3_digest (l : Launch) (D : va_G) (ca : Nat → ClassId) (ad : Nat → Nat) : List Value → mW → Option Value → mW → Prop := mC l 7 yX3_digest cX3_digest 3 (some .long) D ca ad
def CFX3_digest (l : Launch) (D : va_G) (ca : Nat → ClassId) (ad : Nat → Nat) (G : mS → Prop) : Prop := mCallV G (KX3_toldOf l D ca ad) 29 3 2 ∧ mCallV G (KX3_mix l D ca ad) 33 3 1 ∧ mCallV G (KX3_mix l D ca ad) 77 3 1 ∧ mCallV G (KX3_mix l D ca ad) 98 3 1 ∧ mCallV G (KX3_worth l D ca ad) 103 3 0 ∧ mCallV G (KX3_mix l D ca ad) 106 3 1
theorem PX3_digest {l : Launch} {D : va_G} {ca : Nat → ClassId} {ad : Nat → Nat} {av : List Value} {w : mW} {x : Int64} {w2 : mW} (hlen : (lg_sl av).length ≤ 3) (body : ∀ G : mS → Prop, mTb G tbX3_digest → CFX3_digest l D ca ad G → mRet G (some (.long x)) w2 [113] → G (0, lv_args 0 av, [], w)) : KX3_digest l D ca ad av w (some (.long x)) w2 :=
  mPackL [113] (by decide +kernel) hlen tkX3_digest (fun p e s m args below meth c A Q hX => ⟨mCallV_ok (T := TX3) (N := 18) hX dX3_digest_29 rfl ⟨wq_198, wq_166, wq_197, by decide +kernel, by decide +kernel, by decide +kernel⟩ wq_199 wq_200 (by decide) (by decide), mCallV_ok (T := TX3) (N := 18) hX dX3_digest_33 rfl ⟨wq_270, wq_166, wq_269, by decide +kernel, by decide +kernel, by decide +kernel⟩ wq_271 wq_272 (by decide) (by decide), mCallV_ok (T := TX3) (N := 18) hX dX3_digest_77 rfl ⟨wq_270, wq_166, wq_269, by decide +kernel, by decide +kernel, by decide +kernel⟩ wq_271 wq_272 (by decide) (by decide), mCallV_ok (T := TX3) (N := 18) hX dX3_digest_98 rfl ⟨wq_270, wq_166, wq_269, by decide +kernel, by decide +kernel, by decide +kernel⟩ wq_271 wq_272 (by decide) (by decide), mCallV_ok (T := TX3) (N := 18) hX dX3_digest_103 rfl ⟨wq_274, wq_166, wq_273, by decide +kernel, by decide +kernel, by decide +kernel⟩ wq_275 wq_276 (by decide) (by decide), mCallV_ok (T := TX3) (N := 18) hX dX3_digest_106 rfl ⟨wq_270, wq_166, wq_269, by decide +kernel, by decide +kernel, by decide +kernel⟩ wq_271 wq_272 (by decide) (by decide)⟩) (List.forall_mem_cons.mpr ⟨dX3_digest_113, fun _ h => absurd h List.not_mem_nil⟩) body
