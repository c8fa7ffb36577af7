theorem dX0_init_0 : decode cX0_init 0 = .ok (.aload_n 0, 1) := by decide +kernel
theorem dX0_init_1 : decode cX0_init 1 = .ok (.invokespecial 3, 3) := by decide +kernel
theorem dX0_init_4 : decode cX0_init 4 = .ok (.aload_n 0, 1) := by decide +kernel
theorem dX0_init_5 : decode cX0_init 5 = .ok (.bipush 64, 2) := by decide +kernel
theorem dX0_init_7 : decode cX0_init 7 = .ok (.newarray .int, 2) := by decide +kernel
theorem dX0_init_9 : decode cX0_init 9 = .ok (.putfield 9, 3) := by decide +kernel
theorem dX0_init_12 : decode cX0_init 12 = .ok (.aload_n 0, 1) := by decide +kernel
theorem dX0_init_13 : decode cX0_init 13 = .ok (.iconst 0, 1) := by decide +kernel
theorem dX0_init_14 : decode cX0_init 14 = .ok (.putfield 15, 3) := by decide +kernel
theorem dX0_init_17 : decode cX0_init 17 = .ok (.return_, 1) := by decide +kernel
theorem dX0_fewest_0 : decode cX0_fewest 0 = .ok (.aload_n 1, 1) := by decide +kernel
theorem dX0_fewest_1 : decode cX0_fewest 1 = .ok (.invokestatic 19, 3) := by decide +kernel
theorem dX0_fewest_4 : decode cX0_fewest 4 = .ok (.istore 4, 2) := by decide +kernel
theorem dX0_fewest_6 : decode cX0_fewest 6 = .ok (.iconst 1, 1) := by decide +kernel
theorem dX0_fewest_7 : decode cX0_fewest 7 = .ok (.istore 5, 2) := by decide +kernel
theorem dX0_fewest_9 : decode cX0_fewest 9 = .ok (.iload 5, 2) := by decide +kernel
theorem dX0_fewest_11 : decode cX0_fewest 11 = .ok (.iconst 3, 1) := by decide +kernel
theorem dX0_fewest_12 : decode cX0_fewest 12 = .ok (.if_icmp .gt 32, 3) := by decide +kernel
theorem dX0_fewest_15 : decode cX0_fewest 15 = .ok (.aload_n 0, 1) := by decide +kernel
theorem dX0_fewest_16 : decode cX0_fewest 16 = .ok (.iload 5, 2) := by decide +kernel
theorem dX0_fewest_18 : decode cX0_fewest 18 = .ok (.iload 4, 2) := by decide +kernel
theorem dX0_fewest_20 : decode cX0_fewest 20 = .ok (.aload_n 1, 1) := by decide +kernel
theorem dX0_fewest_21 : decode cX0_fewest 21 = .ok (.aload_n 2, 1) := by decide +kernel
theorem dX0_fewest_22 : decode cX0_fewest 22 = .ok (.aload_n 3, 1) := by decide +kernel
theorem dX0_fewest_23 : decode cX0_fewest 23 = .ok (.invokevirtual 23, 3) := by decide +kernel
theorem dX0_fewest_26 : decode cX0_fewest 26 = .ok (.istore 6, 2) := by decide +kernel
theorem dX0_fewest_28 : decode cX0_fewest 28 = .ok (.iload 6, 2) := by decide +kernel
theorem dX0_fewest_30 : decode cX0_fewest 30 = .ok (.bipush (-4), 2) := by decide +kernel
theorem dX0_fewest_32 : decode cX0_fewest 32 = .ok (.if_icmp .eq 6, 3) := by decide +kernel
theorem dX0_fewest_35 : decode cX0_fewest 35 = .ok (.iload 6, 2) := by decide +kernel
theorem dX0_fewest_37 : decode cX0_fewest 37 = .ok (.ireturn, 1) := by decide +kernel
theorem dX0_fewest_38 : decode cX0_fewest 38 = .ok (.iinc 5 1, 3) := by decide +kernel
theorem dX0_fewest_41 : decode cX0_fewest 41 = .ok (.goto (-32), 3) := by decide +kernel
theorem dX0_fewest_44 : decode cX0_fewest 44 = .ok (.bipush (-4), 2) := by decide +kernel
theorem dX0_fewest_46 : decode cX0_fewest 46 = .ok (.ireturn, 1) := by decide +kernel
theorem dX0_singleRules_0 : decode cX0_singleRules 0 = .ok (.aload_n 0, 1) := by decide +kernel
theorem dX0_singleRules_1 : decode cX0_singleRules 1 = .ok (.iconst 0, 1) := by decide +kernel
theorem dX0_singleRules_2 : decode cX0_singleRules 2 = .ok (.putfield 15, 3) := by decide +kernel
theorem dX0_singleRules_5 : decode cX0_singleRules 5 = .ok (.iconst 0, 1) := by decide +kernel
theorem dX0_singleRules_6 : decode cX0_singleRules 6 = .ok (.istore 4, 2) := by decide +kernel
theorem dX0_singleRules_8 : decode cX0_singleRules 8 = .ok (.iload 4, 2) := by decide +kernel
theorem dX0_singleRules_10 : decode cX0_singleRules 10 = .ok (.aload_n 1, 1) := by decide +kernel
theorem dX0_singleRules_11 : decode cX0_singleRules 11 = .ok (.getfield 27, 3) := by decide +kernel
theorem dX0_singleRules_14 : decode cX0_singleRules 14 = .ok (.if_icmp .ge 17, 3) := by decide +kernel
theorem dX0_singleRules_17 : decode cX0_singleRules 17 = .ok (.aload_n 0, 1) := by decide +kernel
theorem dX0_singleRules_18 : decode cX0_singleRules 18 = .ok (.iconst 1, 1) := by decide +kernel
theorem dX0_singleRules_19 : decode cX0_singleRules 19 = .ok (.iload 4, 2) := by decide +kernel
theorem dX0_singleRules_21 : decode cX0_singleRules 21 = .ok (.ishl, 1) := by decide +kernel
theorem dX0_singleRules_22 : decode cX0_singleRules 22 = .ok (.invokevirtual 32, 3) := by decide +kernel
theorem dX0_singleRules_25 : decode cX0_singleRules 25 = .ok (.iinc 4 1, 3) := by decide +kernel
theorem dX0_singleRules_28 : decode cX0_singleRules 28 = .ok (.goto (-20), 3) := by decide +kernel
theorem dX0_singleRules_31 : decode cX0_singleRules 31 = .ok (.aload_n 0, 1) := by decide +kernel
theorem dX0_singleRules_32 : decode cX0_singleRules 32 = .ok (.aload_n 1, 1) := by decide +kernel
theorem dX0_singleRules_33 : decode cX0_singleRules 33 = .ok (.aload_n 2, 1) := by decide +kernel
theorem dX0_singleRules_34 : decode cX0_singleRules 34 = .ok (.aload_n 3, 1) := by decide +kernel
theorem dX0_singleRules_35 : decode cX0_singleRules 35 = .ok (.invokevirtual 36, 3) := by decide +kernel
theorem dX0_singleRules_38 : decode cX0_singleRules 38 = .ok (.l2i, 1) := by decide +kernel
theorem dX0_singleRules_39 : decode cX0_singleRules 39 = .ok (.ireturn, 1) := by decide +kernel
theorem dX0_agreeingRules_0 : decode cX0_agreeingRules 0 = .ok (.iconst 0, 1) := by decide +kernel
theorem dX0_agreeingRules_1 : decode cX0_agreeingRules 1 = .ok (.istore_n 1, 1) := by decide +kernel
theorem dX0_agreeingRules_2 : decode cX0_agreeingRules 2 = .ok (.iconst 0, 1) := by decide +kernel
theorem dX0_agreeingRules_3 : decode cX0_agreeingRules 3 = .ok (.istore_n 2, 1) := by decide +kernel
theorem dX0_agreeingRules_4 : decode cX0_agreeingRules 4 = .ok (.iload_n 2, 1) := by decide +kernel
theorem dX0_agreeingRules_5 : decode cX0_agreeingRules 5 = .ok (.aload_n 0, 1) := by decide +kernel
theorem dX0_agreeingRules_6 : decode cX0_agreeingRules 6 = .ok (.getfield 27, 3) := by decide +kernel
theorem dX0_agreeingRules_9 : decode cX0_agreeingRules 9 = .ok (.if_icmp .ge 24, 3) := by decide +kernel
theorem dX0_agreeingRules_12 : decode cX0_agreeingRules 12 = .ok (.aload_n 0, 1) := by decide +kernel
theorem dX0_agreeingRules_13 : decode cX0_agreeingRules 13 = .ok (.getfield 40, 3) := by decide +kernel
theorem dX0_agreeingRules_16 : decode cX0_agreeingRules 16 = .ok (.iload_n 2, 1) := by decide +kernel
theorem dX0_agreeingRules_17 : decode cX0_agreeingRules 17 = .ok (.baload, 1) := by decide +kernel
theorem dX0_agreeingRules_18 : decode cX0_agreeingRules 18 = .ok (.ifCond .eq 9, 3) := by decide +kernel
theorem dX0_agreeingRules_21 : decode cX0_agreeingRules 21 = .ok (.iload_n 1, 1) := by decide +kernel
theorem dX0_agreeingRules_22 : decode cX0_agreeingRules 22 = .ok (.iconst 1, 1) := by decide +kernel
theorem dX0_agreeingRules_23 : decode cX0_agreeingRules 23 = .ok (.iload_n 2, 1) := by decide +kernel
theorem dX0_agreeingRules_24 : decode cX0_agreeingRules 24 = .ok (.ishl, 1) := by decide +kernel
theorem dX0_agreeingRules_25 : decode cX0_agreeingRules 25 = .ok (.ior, 1) := by decide +kernel
theorem dX0_agreeingRules_26 : decode cX0_agreeingRules 26 = .ok (.istore_n 1, 1) := by decide +kernel
theorem dX0_agreeingRules_27 : decode cX0_agreeingRules 27 = .ok (.iinc 2 1, 3) := by decide +kernel
theorem dX0_agreeingRules_30 : decode cX0_agreeingRules 30 = .ok (.goto (-26), 3) := by decide +kernel
theorem dX0_agreeingRules_33 : decode cX0_agreeingRules 33 = .ok (.iload_n 1, 1) := by decide +kernel
theorem dX0_agreeingRules_34 : decode cX0_agreeingRules 34 = .ok (.ireturn, 1) := by decide +kernel
theorem dX0_fewestOf_0 : decode cX0_fewestOf 0 = .ok (.aload_n 0, 1) := by decide +kernel
theorem dX0_fewestOf_1 : decode cX0_fewestOf 1 = .ok (.iconst 0, 1) := by decide +kernel
theorem dX0_fewestOf_2 : decode cX0_fewestOf 2 = .ok (.putfield 15, 3) := by decide +kernel
theorem dX0_fewestOf_5 : decode cX0_fewestOf 5 = .ok (.iconst 1, 1) := by decide +kernel
theorem dX0_fewestOf_6 : decode cX0_fewestOf 6 = .ok (.iload_n 1, 1) := by decide +kernel
theorem dX0_fewestOf_7 : decode cX0_fewestOf 7 = .ok (.ishl, 1) := by decide +kernel
theorem dX0_fewestOf_8 : decode cX0_fewestOf 8 = .ok (.iconst 1, 1) := by decide +kernel
theorem dX0_fewestOf_9 : decode cX0_fewestOf 9 = .ok (.isub, 1) := by decide +kernel
theorem dX0_fewestOf_10 : decode cX0_fewestOf 10 = .ok (.istore 6, 2) := by decide +kernel
theorem dX0_fewestOf_12 : decode cX0_fewestOf 12 = .ok (.iconst 0, 1) := by decide +kernel
theorem dX0_fewestOf_13 : decode cX0_fewestOf 13 = .ok (.istore 7, 2) := by decide +kernel
theorem dX0_fewestOf_15 : decode cX0_fewestOf 15 = .ok (.iload 7, 2) := by decide +kernel
theorem dX0_fewestOf_17 : decode cX0_fewestOf 17 = .ok (.sipush 2024, 3) := by decide +kernel
theorem dX0_fewestOf_20 : decode cX0_fewestOf 20 = .ok (.if_icmp .ge 98, 3) := by decide +kernel
theorem dX0_fewestOf_23 : decode cX0_fewestOf 23 = .ok (.iload 6, 2) := by decide +kernel
theorem dX0_fewestOf_25 : decode cX0_fewestOf 25 = .ok (.iload_n 2, 1) := by decide +kernel
theorem dX0_fewestOf_26 : decode cX0_fewestOf 26 = .ok (.if_icmp .gt 92, 3) := by decide +kernel
theorem dX0_fewestOf_29 : decode cX0_fewestOf 29 = .ok (.iload 6, 2) := by decide +kernel
theorem dX0_fewestOf_31 : decode cX0_fewestOf 31 = .ok (.iload_n 2, 1) := by decide +kernel
theorem dX0_fewestOf_32 : decode cX0_fewestOf 32 = .ok (.iand, 1) := by decide +kernel
theorem dX0_fewestOf_33 : decode cX0_fewestOf 33 = .ok (.iload 6, 2) := by decide +kernel
theorem dX0_fewestOf_35 : decode cX0_fewestOf 35 = .ok (.if_icmp .ne 9, 3) := by decide +kernel
theorem dX0_fewestOf_38 : decode cX0_fewestOf 38 = .ok (.aload_n 0, 1) := by decide +kernel
theorem dX0_fewestOf_39 : decode cX0_fewestOf 39 = .ok (.iload 6, 2) := by decide +kernel
theorem dX0_fewestOf_41 : decode cX0_fewestOf 41 = .ok (.invokevirtual 32, 3) := by decide +kernel
theorem dX0_fewestOf_44 : decode cX0_fewestOf 44 = .ok (.iload 6, 2) := by decide +kernel
theorem dX0_fewestOf_46 : decode cX0_fewestOf 46 = .ok (.invokestatic 44, 3) := by decide +kernel
theorem dX0_fewestOf_49 : decode cX0_fewestOf 49 = .ok (.istore 6, 2) := by decide +kernel
theorem dX0_fewestOf_51 : decode cX0_fewestOf 51 = .ok (.aload_n 0, 1) := by decide +kernel
theorem dX0_fewestOf_52 : decode cX0_fewestOf 52 = .ok (.getfield 15, 3) := by decide +kernel
theorem dX0_fewestOf_55 : decode cX0_fewestOf 55 = .ok (.bipush 64, 2) := by decide +kernel
theorem dX0_fewestOf_57 : decode cX0_fewestOf 57 = .ok (.if_icmp .eq 9, 3) := by decide +kernel
theorem dX0_fewestOf_60 : decode cX0_fewestOf 60 = .ok (.iload 6, 2) := by decide +kernel
theorem dX0_fewestOf_62 : decode cX0_fewestOf 62 = .ok (.iload_n 2, 1) := by decide +kernel
theorem dX0_fewestOf_63 : decode cX0_fewestOf 63 = .ok (.if_icmp .le 49, 3) := by decide +kernel
theorem dX0_fewestOf_66 : decode cX0_fewestOf 66 = .ok (.aload_n 0, 1) := by decide +kernel
theorem dX0_fewestOf_67 : decode cX0_fewestOf 67 = .ok (.aload_n 3, 1) := by decide +kernel
theorem dX0_fewestOf_68 : decode cX0_fewestOf 68 = .ok (.aload 4, 2) := by decide +kernel
theorem dX0_fewestOf_70 : decode cX0_fewestOf 70 = .ok (.aload 5, 2) := by decide +kernel
theorem dX0_fewestOf_72 : decode cX0_fewestOf 72 = .ok (.invokevirtual 36, 3) := by decide +kernel
theorem dX0_fewestOf_75 : decode cX0_fewestOf 75 = .ok (.lstore 8, 2) := by decide +kernel
theorem dX0_fewestOf_77 : decode cX0_fewestOf 77 = .ok (.lload 8, 2) := by decide +kernel
theorem dX0_fewestOf_79 : decode cX0_fewestOf 79 = .ok (.lload 8, 2) := by decide +kernel
theorem dX0_fewestOf_81 : decode cX0_fewestOf 81 = .ok (.lneg, 1) := by decide +kernel
theorem dX0_fewestOf_82 : decode cX0_fewestOf 82 = .ok (.land, 1) := by decide +kernel
theorem dX0_fewestOf_83 : decode cX0_fewestOf 83 = .ok (.lconst 1, 1) := by decide +kernel
theorem dX0_fewestOf_84 : decode cX0_fewestOf 84 = .ok (.lsub, 1) := by decide +kernel
theorem dX0_fewestOf_85 : decode cX0_fewestOf 85 = .ok (.invokestatic 48, 3) := by decide +kernel
theorem dX0_fewestOf_88 : decode cX0_fewestOf 88 = .ok (.istore 10, 2) := by decide +kernel
theorem dX0_fewestOf_90 : decode cX0_fewestOf 90 = .ok (.iload 10, 2) := by decide +kernel
theorem dX0_fewestOf_92 : decode cX0_fewestOf 92 = .ok (.aload_n 0, 1) := by decide +kernel
theorem dX0_fewestOf_93 : decode cX0_fewestOf 93 = .ok (.getfield 15, 3) := by decide +kernel
theorem dX0_fewestOf_96 : decode cX0_fewestOf 96 = .ok (.if_icmp .ge 11, 3) := by decide +kernel
theorem dX0_fewestOf_99 : decode cX0_fewestOf 99 = .ok (.aload_n 0, 1) := by decide +kernel
theorem dX0_fewestOf_100 : decode cX0_fewestOf 100 = .ok (.getfield 9, 3) := by decide +kernel
theorem dX0_fewestOf_103 : decode cX0_fewestOf 103 = .ok (.iload 10, 2) := by decide +kernel
theorem dX0_fewestOf_105 : decode cX0_fewestOf 105 = .ok (.iaload, 1) := by decide +kernel
theorem dX0_fewestOf_106 : decode cX0_fewestOf 106 = .ok (.ireturn, 1) := by decide +kernel
theorem dX0_fewestOf_107 : decode cX0_fewestOf 107 = .ok (.aload_n 0, 1) := by decide +kernel
theorem dX0_fewestOf_108 : decode cX0_fewestOf 108 = .ok (.iconst 0, 1) := by decide +kernel
theorem dX0_fewestOf_109 : decode cX0_fewestOf 109 = .ok (.putfield 15, 3) := by decide +kernel
theorem dX0_fewestOf_112 : decode cX0_fewestOf 112 = .ok (.iinc 7 1, 3) := by decide +kernel
theorem dX0_fewestOf_115 : decode cX0_fewestOf 115 = .ok (.goto (-100), 3) := by decide +kernel
theorem dX0_fewestOf_118 : decode cX0_fewestOf 118 = .ok (.bipush (-4), 2) := by decide +kernel
theorem dX0_fewestOf_120 : decode cX0_fewestOf 120 = .ok (.ireturn, 1) := by decide +kernel
theorem dX0_addSet_0 : decode cX0_addSet 0 = .ok (.aload_n 0, 1) := by decide +kernel
theorem dX0_addSet_1 : decode cX0_addSet 1 = .ok (.getfield 15, 3) := by decide +kernel
theorem dX0_addSet_4 : decode cX0_addSet 4 = .ok (.bipush 64, 2) := by decide +kernel
theorem dX0_addSet_6 : decode cX0_addSet 6 = .ok (.if_icmp .ge 23, 3) := by decide +kernel
theorem dX0_addSet_9 : decode cX0_addSet 9 = .ok (.aload_n 0, 1) := by decide +kernel
theorem dX0_addSet_10 : decode cX0_addSet 10 = .ok (.getfield 9, 3) := by decide +kernel
theorem dX0_addSet_13 : decode cX0_addSet 13 = .ok (.aload_n 0, 1) := by decide +kernel
theorem dX0_addSet_14 : decode cX0_addSet 14 = .ok (.getfield 15, 3) := by decide +kernel
theorem dX0_addSet_17 : decode cX0_addSet 17 = .ok (.iload_n 1, 1) := by decide +kernel
theorem dX0_addSet_18 : decode cX0_addSet 18 = .ok (.iastore, 1) := by decide +kernel
theorem dX0_addSet_19 : decode cX0_addSet 19 = .ok (.aload_n 0, 1) := by decide +kernel
theorem dX0_addSet_20 : decode cX0_addSet 20 = .ok (.dup, 1) := by decide +kernel
theorem dX0_addSet_21 : decode cX0_addSet 21 = .ok (.getfield 15, 3) := by decide +kernel
theorem dX0_addSet_24 : decode cX0_addSet 24 = .ok (.iconst 1, 1) := by decide +kernel
theorem dX0_addSet_25 : decode cX0_addSet 25 = .ok (.iadd, 1) := by decide +kernel
theorem dX0_addSet_26 : decode cX0_addSet 26 = .ok (.putfield 15, 3) := by decide +kernel
theorem dX0_addSet_29 : decode cX0_addSet 29 = .ok (.return_, 1) := by decide +kernel
theorem dX0_nextSet_0 : decode cX0_nextSet 0 = .ok (.iload_n 0, 1) := by decide +kernel
theorem dX0_nextSet_1 : decode cX0_nextSet 1 = .ok (.iload_n 0, 1) := by decide +kernel
theorem dX0_nextSet_2 : decode cX0_nextSet 2 = .ok (.ineg, 1) := by decide +kernel
theorem dX0_nextSet_3 : decode cX0_nextSet 3 = .ok (.iand, 1) := by decide +kernel
theorem dX0_nextSet_4 : decode cX0_nextSet 4 = .ok (.istore_n 1, 1) := by decide +kernel
theorem dX0_nextSet_5 : decode cX0_nextSet 5 = .ok (.iload_n 0, 1) := by decide +kernel
theorem dX0_nextSet_6 : decode cX0_nextSet 6 = .ok (.iload_n 1, 1) := by decide +kernel
theorem dX0_nextSet_7 : decode cX0_nextSet 7 = .ok (.iadd, 1) := by decide +kernel
theorem dX0_nextSet_8 : decode cX0_nextSet 8 = .ok (.istore_n 2, 1) := by decide +kernel
theorem dX0_nextSet_9 : decode cX0_nextSet 9 = .ok (.iload_n 2, 1) := by decide +kernel
theorem dX0_nextSet_10 : decode cX0_nextSet 10 = .ok (.iload_n 0, 1) := by decide +kernel
theorem dX0_nextSet_11 : decode cX0_nextSet 11 = .ok (.iload_n 2, 1) := by decide +kernel
theorem dX0_nextSet_12 : decode cX0_nextSet 12 = .ok (.ixor, 1) := by decide +kernel
theorem dX0_nextSet_13 : decode cX0_nextSet 13 = .ok (.iconst 2, 1) := by decide +kernel
theorem dX0_nextSet_14 : decode cX0_nextSet 14 = .ok (.iload_n 1, 1) := by decide +kernel
theorem dX0_nextSet_15 : decode cX0_nextSet 15 = .ok (.iconst 1, 1) := by decide +kernel
theorem dX0_nextSet_16 : decode cX0_nextSet 16 = .ok (.isub, 1) := by decide +kernel
theorem dX0_nextSet_17 : decode cX0_nextSet 17 = .ok (.invokestatic 54, 3) := by decide +kernel
theorem dX0_nextSet_20 : decode cX0_nextSet 20 = .ok (.iadd, 1) := by decide +kernel
theorem dX0_nextSet_21 : decode cX0_nextSet 21 = .ok (.iushr, 1) := by decide +kernel
theorem dX0_nextSet_22 : decode cX0_nextSet 22 = .ok (.ior, 1) := by decide +kernel
theorem dX0_nextSet_23 : decode cX0_nextSet 23 = .ok (.ireturn, 1) := by decide +kernel
theorem dX0_freeingLanes_0 : decode cX0_freeingLanes 0 = .ok (.aload_n 3, 1) := by decide +kernel
theorem dX0_freeingLanes_1 : decode cX0_freeingLanes 1 = .ok (.invokevirtual 58, 3) := by decide +kernel
theorem dX0_freeingLanes_4 : decode cX0_freeingLanes 4 = .ok (.iconst 0, 1) := by decide +kernel
theorem dX0_freeingLanes_5 : decode cX0_freeingLanes 5 = .ok (.istore 4, 2) := by decide +kernel
theorem dX0_freeingLanes_7 : decode cX0_freeingLanes 7 = .ok (.iload 4, 2) := by decide +kernel
theorem dX0_freeingLanes_9 : decode cX0_freeingLanes 9 = .ok (.aload_n 0, 1) := by decide +kernel
theorem dX0_freeingLanes_10 : decode cX0_freeingLanes 10 = .ok (.getfield 15, 3) := by decide +kernel
theorem dX0_freeingLanes_13 : decode cX0_freeingLanes 13 = .ok (.if_icmp .ge 62, 3) := by decide +kernel
theorem dX0_freeingLanes_16 : decode cX0_freeingLanes 16 = .ok (.aload_n 3, 1) := by decide +kernel
theorem dX0_freeingLanes_17 : decode cX0_freeingLanes 17 = .ok (.aload_n 1, 1) := by decide +kernel
theorem dX0_freeingLanes_18 : decode cX0_freeingLanes 18 = .ok (.aload_n 2, 1) := by decide +kernel
theorem dX0_freeingLanes_19 : decode cX0_freeingLanes 19 = .ok (.lconst 1, 1) := by decide +kernel
theorem dX0_freeingLanes_20 : decode cX0_freeingLanes 20 = .ok (.iload 4, 2) := by decide +kernel
theorem dX0_freeingLanes_22 : decode cX0_freeingLanes 22 = .ok (.lshl, 1) := by decide +kernel
theorem dX0_freeingLanes_23 : decode cX0_freeingLanes 23 = .ok (.invokevirtual 63, 3) := by decide +kernel
theorem dX0_freeingLanes_26 : decode cX0_freeingLanes 26 = .ok (.iconst 0, 1) := by decide +kernel
theorem dX0_freeingLanes_27 : decode cX0_freeingLanes 27 = .ok (.istore 5, 2) := by decide +kernel
theorem dX0_freeingLanes_29 : decode cX0_freeingLanes 29 = .ok (.iload 5, 2) := by decide +kernel
theorem dX0_freeingLanes_31 : decode cX0_freeingLanes 31 = .ok (.aload_n 1, 1) := by decide +kernel
theorem dX0_freeingLanes_32 : decode cX0_freeingLanes 32 = .ok (.getfield 27, 3) := by decide +kernel
theorem dX0_freeingLanes_35 : decode cX0_freeingLanes 35 = .ok (.if_icmp .ge 34, 3) := by decide +kernel
theorem dX0_freeingLanes_38 : decode cX0_freeingLanes 38 = .ok (.aload_n 0, 1) := by decide +kernel
theorem dX0_freeingLanes_39 : decode cX0_freeingLanes 39 = .ok (.getfield 9, 3) := by decide +kernel
theorem dX0_freeingLanes_42 : decode cX0_freeingLanes 42 = .ok (.iload 4, 2) := by decide +kernel
theorem dX0_freeingLanes_44 : decode cX0_freeingLanes 44 = .ok (.iaload, 1) := by decide +kernel
theorem dX0_freeingLanes_45 : decode cX0_freeingLanes 45 = .ok (.iload 5, 2) := by decide +kernel
theorem dX0_freeingLanes_47 : decode cX0_freeingLanes 47 = .ok (.invokestatic 67, 3) := by decide +kernel
theorem dX0_freeingLanes_50 : decode cX0_freeingLanes 50 = .ok (.ifCond .eq 13, 3) := by decide +kernel
theorem dX0_freeingLanes_53 : decode cX0_freeingLanes 53 = .ok (.aload_n 3, 1) := by decide +kernel
theorem dX0_freeingLanes_54 : decode cX0_freeingLanes 54 = .ok (.iload 5, 2) := by decide +kernel
theorem dX0_freeingLanes_56 : decode cX0_freeingLanes 56 = .ok (.lconst 1, 1) := by decide +kernel
theorem dX0_freeingLanes_57 : decode cX0_freeingLanes 57 = .ok (.iload 4, 2) := by decide +kernel
theorem dX0_freeingLanes_59 : decode cX0_freeingLanes 59 = .ok (.lshl, 1) := by decide +kernel
theorem dX0_freeingLanes_60 : decode cX0_freeingLanes 60 = .ok (.invokevirtual 71, 3) := by decide +kernel
theorem dX0_freeingLanes_63 : decode cX0_freeingLanes 63 = .ok (.iinc 5 1, 3) := by decide +kernel
theorem dX0_freeingLanes_66 : decode cX0_freeingLanes 66 = .ok (.goto (-37), 3) := by decide +kernel
theorem dX0_freeingLanes_69 : decode cX0_freeingLanes 69 = .ok (.iinc 4 1, 3) := by decide +kernel
theorem dX0_freeingLanes_72 : decode cX0_freeingLanes 72 = .ok (.goto (-65), 3) := by decide +kernel
theorem dX0_freeingLanes_75 : decode cX0_freeingLanes 75 = .ok (.aload_n 3, 1) := by decide +kernel
theorem dX0_freeingLanes_76 : decode cX0_freeingLanes 76 = .ok (.aload_n 1, 1) := by decide +kernel
theorem dX0_freeingLanes_77 : decode cX0_freeingLanes 77 = .ok (.aload_n 2, 1) := by decide +kernel
theorem dX0_freeingLanes_78 : decode cX0_freeingLanes 78 = .ok (.getfield 75, 3) := by decide +kernel
theorem dX0_freeingLanes_81 : decode cX0_freeingLanes 81 = .ok (.invokevirtual 78, 3) := by decide +kernel
theorem dX0_freeingLanes_84 : decode cX0_freeingLanes 84 = .ok (.aload_n 3, 1) := by decide +kernel
theorem dX0_freeingLanes_85 : decode cX0_freeingLanes 85 = .ok (.aload_n 2, 1) := by decide +kernel
theorem dX0_freeingLanes_86 : decode cX0_freeingLanes 86 = .ok (.getfield 75, 3) := by decide +kernel
theorem dX0_freeingLanes_89 : decode cX0_freeingLanes 89 = .ok (.invokevirtual 82, 3) := by decide +kernel
theorem dX0_freeingLanes_92 : decode cX0_freeingLanes 92 = .ok (.lreturn, 1) := by decide +kernel
theorem dX1_init_0 : decode cX1_init 0 = .ok (.aload_n 0, 1) := by decide +kernel
theorem dX1_init_1 : decode cX1_init 1 = .ok (.invokespecial 3, 3) := by decide +kernel
theorem dX1_init_4 : decode cX1_init 4 = .ok (.aload_n 0, 1) := by decide +kernel
theorem dX1_init_5 : decode cX1_init 5 = .ok (.bipush 16, 2) := by decide +kernel
theorem dX1_init_7 : decode cX1_init 7 = .ok (.newarray .int, 2) := by decide +kernel
theorem dX1_init_9 : decode cX1_init 9 = .ok (.putfield 9, 3) := by decide +kernel
theorem dX1_init_12 : decode cX1_init 12 = .ok (.aload_n 0, 1) := by decide +kernel
theorem dX1_init_13 : decode cX1_init 13 = .ok (.bipush 16, 2) := by decide +kernel
theorem dX1_init_15 : decode cX1_init 15 = .ok (.newarray .int, 2) := by decide +kernel
theorem dX1_init_17 : decode cX1_init 17 = .ok (.putfield 15, 3) := by decide +kernel
theorem dX1_init_20 : decode cX1_init 20 = .ok (.aload_n 0, 1) := by decide +kernel
theorem dX1_init_21 : decode cX1_init 21 = .ok (.bipush 16, 2) := by decide +kernel
theorem dX1_init_23 : decode cX1_init 23 = .ok (.newarray .int, 2) := by decide +kernel
theorem dX1_init_25 : decode cX1_init 25 = .ok (.putfield 18, 3) := by decide +kernel
theorem dX1_init_28 : decode cX1_init 28 = .ok (.aload_n 0, 1) := by decide +kernel
theorem dX1_init_29 : decode cX1_init 29 = .ok (.bipush 16, 2) := by decide +kernel
theorem dX1_init_31 : decode cX1_init 31 = .ok (.newarray .int, 2) := by decide +kernel
theorem dX1_init_33 : decode cX1_init 33 = .ok (.putfield 21, 3) := by decide +kernel
theorem dX1_init_36 : decode cX1_init 36 = .ok (.aload_n 0, 1) := by decide +kernel
theorem dX1_init_37 : decode cX1_init 37 = .ok (.iconst 0, 1) := by decide +kernel
theorem dX1_init_38 : decode cX1_init 38 = .ok (.putfield 24, 3) := by decide +kernel
theorem dX1_init_41 : decode cX1_init 41 = .ok (.aload_n 0, 1) := by decide +kernel
theorem dX1_init_42 : decode cX1_init 42 = .ok (.bipush 24, 2) := by decide +kernel
theorem dX1_init_44 : decode cX1_init 44 = .ok (.newarray .int, 2) := by decide +kernel
theorem dX1_init_46 : decode cX1_init 46 = .ok (.putfield 28, 3) := by decide +kernel
theorem dX1_init_49 : decode cX1_init 49 = .ok (.aload_n 0, 1) := by decide +kernel
theorem dX1_init_50 : decode cX1_init 50 = .ok (.bipush 24, 2) := by decide +kernel
theorem dX1_init_52 : decode cX1_init 52 = .ok (.newarray .int, 2) := by decide +kernel
theorem dX1_init_54 : decode cX1_init 54 = .ok (.putfield 31, 3) := by decide +kernel
theorem dX1_init_57 : decode cX1_init 57 = .ok (.aload_n 0, 1) := by decide +kernel
theorem dX1_init_58 : decode cX1_init 58 = .ok (.bipush 24, 2) := by decide +kernel
theorem dX1_init_60 : decode cX1_init 60 = .ok (.newarray .int, 2) := by decide +kernel
theorem dX1_init_62 : decode cX1_init 62 = .ok (.putfield 34, 3) := by decide +kernel
theorem dX1_init_65 : decode cX1_init 65 = .ok (.aload_n 0, 1) := by decide +kernel
theorem dX1_init_66 : decode cX1_init 66 = .ok (.bipush 24, 2) := by decide +kernel
theorem dX1_init_68 : decode cX1_init 68 = .ok (.newarray .boolean, 2) := by decide +kernel
theorem dX1_init_70 : decode cX1_init 70 = .ok (.putfield 37, 3) := by decide +kernel
theorem dX1_init_73 : decode cX1_init 73 = .ok (.aload_n 0, 1) := by decide +kernel
theorem dX1_init_74 : decode cX1_init 74 = .ok (.bipush 24, 2) := by decide +kernel
theorem dX1_init_76 : decode cX1_init 76 = .ok (.newarray .boolean, 2) := by decide +kernel
theorem dX1_init_78 : decode cX1_init 78 = .ok (.putfield 41, 3) := by decide +kernel
theorem dX1_init_81 : decode cX1_init 81 = .ok (.aload_n 0, 1) := by decide +kernel
theorem dX1_init_82 : decode cX1_init 82 = .ok (.iconst 0, 1) := by decide +kernel
theorem dX1_init_83 : decode cX1_init 83 = .ok (.putfield 44, 3) := by decide +kernel
theorem dX1_init_86 : decode cX1_init 86 = .ok (.aload_n 0, 1) := by decide +kernel
theorem dX1_init_87 : decode cX1_init 87 = .ok (.getstatic 47, 3) := by decide +kernel
theorem dX1_init_90 : decode cX1_init 90 = .ok (.invokevirtual 50, 3) := by decide +kernel
theorem dX1_init_93 : decode cX1_init 93 = .ok (.checkcast 51, 3) := by decide +kernel
theorem dX1_init_96 : decode cX1_init 96 = .ok (.putfield 55, 3) := by decide +kernel
theorem dX1_init_99 : decode cX1_init 99 = .ok (.return_, 1) := by decide +kernel
theorem dX1_restart_0 : decode cX1_restart 0 = .ok (.aload_n 0, 1) := by decide +kernel
theorem dX1_restart_1 : decode cX1_restart 1 = .ok (.iconst 0, 1) := by decide +kernel
theorem dX1_restart_2 : decode cX1_restart 2 = .ok (.putfield 24, 3) := by decide +kernel
theorem dX1_restart_5 : decode cX1_restart 5 = .ok (.aload_n 0, 1) := by decide +kernel
theorem dX1_restart_6 : decode cX1_restart 6 = .ok (.iconst 0, 1) := by decide +kernel
theorem dX1_restart_7 : decode cX1_restart 7 = .ok (.putfield 44, 3) := by decide +kernel
theorem dX1_restart_10 : decode cX1_restart 10 = .ok (.getstatic 47, 3) := by decide +kernel
theorem dX1_restart_13 : decode cX1_restart 13 = .ok (.iconst 0, 1) := by decide +kernel
theorem dX1_restart_14 : decode cX1_restart 14 = .ok (.aload_n 0, 1) := by decide +kernel
theorem dX1_restart_15 : decode cX1_restart 15 = .ok (.getfield 55, 3) := by decide +kernel
theorem dX1_restart_18 : decode cX1_restart 18 = .ok (.iconst 0, 1) := by decide +kernel
theorem dX1_restart_19 : decode cX1_restart 19 = .ok (.iconst 5, 1) := by decide +kernel
theorem dX1_restart_20 : decode cX1_restart 20 = .ok (.invokestatic 58, 3) := by decide +kernel
theorem dX1_restart_23 : decode cX1_restart 23 = .ok (.return_, 1) := by decide +kernel
theorem dX1_takeItem_0 : decode cX1_takeItem 0 = .ok (.iload_n 1, 1) := by decide +kernel
theorem dX1_takeItem_1 : decode cX1_takeItem 1 = .ok (.lookupswitch 128 #[(112, 103), (114, 69), (119, 35)], 35) := by decide +kernel
theorem dX1_takeItem_36 : decode cX1_takeItem 36 = .ok (.aload_n 0, 1) := by decide +kernel
theorem dX1_takeItem_37 : decode cX1_takeItem 37 = .ok (.getfield 24, 3) := by decide +kernel
theorem dX1_takeItem_40 : decode cX1_takeItem 40 = .ok (.bipush 16, 2) := by decide +kernel
theorem dX1_takeItem_42 : decode cX1_takeItem 42 = .ok (.if_icmp .ge 26, 3) := by decide +kernel
theorem dX1_takeItem_45 : decode cX1_takeItem 45 = .ok (.aload_n 2, 1) := by decide +kernel
theorem dX1_takeItem_46 : decode cX1_takeItem 46 = .ok (.iload_n 3, 1) := by decide +kernel
theorem dX1_takeItem_47 : decode cX1_takeItem 47 = .ok (.getstatic 64, 3) := by decide +kernel
theorem dX1_takeItem_50 : decode cX1_takeItem 50 = .ok (.invokestatic 67, 3) := by decide +kernel
theorem dX1_takeItem_53 : decode cX1_takeItem 53 = .ok (.ifCond .eq 15, 3) := by decide +kernel
theorem dX1_takeItem_56 : decode cX1_takeItem 56 = .ok (.aload_n 0, 1) := by decide +kernel
theorem dX1_takeItem_57 : decode cX1_takeItem 57 = .ok (.aload_n 2, 1) := by decide +kernel
theorem dX1_takeItem_58 : decode cX1_takeItem 58 = .ok (.invokevirtual 71, 3) := by decide +kernel
theorem dX1_takeItem_61 : decode cX1_takeItem 61 = .ok (.ifCond .eq 7, 3) := by decide +kernel
theorem dX1_takeItem_64 : decode cX1_takeItem 64 = .ok (.iconst 1, 1) := by decide +kernel
theorem dX1_takeItem_65 : decode cX1_takeItem 65 = .ok (.goto 4, 3) := by decide +kernel
theorem dX1_takeItem_68 : decode cX1_takeItem 68 = .ok (.iconst 0, 1) := by decide +kernel
theorem dX1_takeItem_69 : decode cX1_takeItem 69 = .ok (.ireturn, 1) := by decide +kernel
theorem dX1_takeItem_70 : decode cX1_takeItem 70 = .ok (.aload_n 0, 1) := by decide +kernel
theorem dX1_takeItem_71 : decode cX1_takeItem 71 = .ok (.getfield 44, 3) := by decide +kernel
theorem dX1_takeItem_74 : decode cX1_takeItem 74 = .ok (.bipush 24, 2) := by decide +kernel
theorem dX1_takeItem_76 : decode cX1_takeItem 76 = .ok (.if_icmp .ge 26, 3) := by decide +kernel
theorem dX1_takeItem_79 : decode cX1_takeItem 79 = .ok (.aload_n 2, 1) := by decide +kernel
theorem dX1_takeItem_80 : decode cX1_takeItem 80 = .ok (.iload_n 3, 1) := by decide +kernel
theorem dX1_takeItem_81 : decode cX1_takeItem 81 = .ok (.getstatic 75, 3) := by decide +kernel
theorem dX1_takeItem_84 : decode cX1_takeItem 84 = .ok (.invokestatic 67, 3) := by decide +kernel
theorem dX1_takeItem_87 : decode cX1_takeItem 87 = .ok (.ifCond .eq 15, 3) := by decide +kernel
theorem dX1_takeItem_90 : decode cX1_takeItem 90 = .ok (.aload_n 0, 1) := by decide +kernel
theorem dX1_takeItem_91 : decode cX1_takeItem 91 = .ok (.aload_n 2, 1) := by decide +kernel
theorem dX1_takeItem_92 : decode cX1_takeItem 92 = .ok (.invokevirtual 78, 3) := by decide +kernel
theorem dX1_takeItem_95 : decode cX1_takeItem 95 = .ok (.ifCond .eq 7, 3) := by decide +kernel
theorem dX1_takeItem_98 : decode cX1_takeItem 98 = .ok (.iconst 1, 1) := by decide +kernel
theorem dX1_takeItem_99 : decode cX1_takeItem 99 = .ok (.goto 4, 3) := by decide +kernel
theorem dX1_takeItem_102 : decode cX1_takeItem 102 = .ok (.iconst 0, 1) := by decide +kernel
theorem dX1_takeItem_103 : decode cX1_takeItem 103 = .ok (.ireturn, 1) := by decide +kernel
theorem dX1_takeItem_104 : decode cX1_takeItem 104 = .ok (.aload_n 2, 1) := by decide +kernel
theorem dX1_takeItem_105 : decode cX1_takeItem 105 = .ok (.iload_n 3, 1) := by decide +kernel
theorem dX1_takeItem_106 : decode cX1_takeItem 106 = .ok (.getstatic 81, 3) := by decide +kernel
theorem dX1_takeItem_109 : decode cX1_takeItem 109 = .ok (.invokestatic 67, 3) := by decide +kernel
theorem dX1_takeItem_112 : decode cX1_takeItem 112 = .ok (.ifCond .eq 15, 3) := by decide +kernel
theorem dX1_takeItem_115 : decode cX1_takeItem 115 = .ok (.aload_n 0, 1) := by decide +kernel
theorem dX1_takeItem_116 : decode cX1_takeItem 116 = .ok (.aload_n 2, 1) := by decide +kernel
theorem dX1_takeItem_117 : decode cX1_takeItem 117 = .ok (.invokevirtual 84, 3) := by decide +kernel
theorem dX1_takeItem_120 : decode cX1_takeItem 120 = .ok (.ifCond .eq 7, 3) := by decide +kernel
theorem dX1_takeItem_123 : decode cX1_takeItem 123 = .ok (.iconst 1, 1) := by decide +kernel
theorem dX1_takeItem_124 : decode cX1_takeItem 124 = .ok (.goto 4, 3) := by decide +kernel
theorem dX1_takeItem_127 : decode cX1_takeItem 127 = .ok (.iconst 0, 1) := by decide +kernel
theorem dX1_takeItem_128 : decode cX1_takeItem 128 = .ok (.ireturn, 1) := by decide +kernel
theorem dX1_takeItem_129 : decode cX1_takeItem 129 = .ok (.iconst 0, 1) := by decide +kernel
theorem dX1_takeItem_130 : decode cX1_takeItem 130 = .ok (.ireturn, 1) := by decide +kernel
theorem dX1_areWithin_0 : decode cX1_areWithin 0 = .ok (.iload_n 1, 1) := by decide +kernel
theorem dX1_areWithin_1 : decode cX1_areWithin 1 = .ok (.aload_n 2, 1) := by decide +kernel
theorem dX1_areWithin_2 : decode cX1_areWithin 2 = .ok (.arraylength, 1) := by decide +kernel
theorem dX1_areWithin_3 : decode cX1_areWithin 3 = .ok (.if_icmp .eq 5, 3) := by decide +kernel
theorem dX1_areWithin_6 : decode cX1_areWithin 6 = .ok (.iconst 0, 1) := by decide +kernel
theorem dX1_areWithin_7 : decode cX1_areWithin 7 = .ok (.ireturn, 1) := by decide +kernel
theorem dX1_areWithin_8 : decode cX1_areWithin 8 = .ok (.iconst 0, 1) := by decide +kernel
theorem dX1_areWithin_9 : decode cX1_areWithin 9 = .ok (.istore_n 3, 1) := by decide +kernel
theorem dX1_areWithin_10 : decode cX1_areWithin 10 = .ok (.iload_n 3, 1) := by decide +kernel
theorem dX1_areWithin_11 : decode cX1_areWithin 11 = .ok (.iload_n 1, 1) := by decide +kernel
theorem dX1_areWithin_12 : decode cX1_areWithin 12 = .ok (.if_icmp .ge 20, 3) := by decide +kernel
theorem dX1_areWithin_15 : decode cX1_areWithin 15 = .ok (.aload_n 0, 1) := by decide +kernel
theorem dX1_areWithin_16 : decode cX1_areWithin 16 = .ok (.iload_n 3, 1) := by decide +kernel
theorem dX1_areWithin_17 : decode cX1_areWithin 17 = .ok (.iaload, 1) := by decide +kernel
theorem dX1_areWithin_18 : decode cX1_areWithin 18 = .ok (.aload_n 2, 1) := by decide +kernel
theorem dX1_areWithin_19 : decode cX1_areWithin 19 = .ok (.iload_n 3, 1) := by decide +kernel
theorem dX1_areWithin_20 : decode cX1_areWithin 20 = .ok (.iaload, 1) := by decide +kernel
theorem dX1_areWithin_21 : decode cX1_areWithin 21 = .ok (.if_icmp .le 5, 3) := by decide +kernel
theorem dX1_areWithin_24 : decode cX1_areWithin 24 = .ok (.iconst 0, 1) := by decide +kernel
theorem dX1_areWithin_25 : decode cX1_areWithin 25 = .ok (.ireturn, 1) := by decide +kernel
theorem dX1_areWithin_26 : decode cX1_areWithin 26 = .ok (.iinc 3 1, 3) := by decide +kernel
theorem dX1_areWithin_29 : decode cX1_areWithin 29 = .ok (.goto (-19), 3) := by decide +kernel
theorem dX1_areWithin_32 : decode cX1_areWithin 32 = .ok (.iconst 1, 1) := by decide +kernel
theorem dX1_areWithin_33 : decode cX1_areWithin 33 = .ok (.ireturn, 1) := by decide +kernel
theorem dX1_addWord_0 : decode cX1_addWord 0 = .ok (.aload_n 0, 1) := by decide +kernel
theorem dX1_addWord_1 : decode cX1_addWord 1 = .ok (.getfield 9, 3) := by decide +kernel
theorem dX1_addWord_4 : decode cX1_addWord 4 = .ok (.aload_n 0, 1) := by decide +kernel
theorem dX1_addWord_5 : decode cX1_addWord 5 = .ok (.getfield 24, 3) := by decide +kernel
theorem dX1_addWord_8 : decode cX1_addWord 8 = .ok (.aload_n 1, 1) := by decide +kernel
theorem dX1_addWord_9 : decode cX1_addWord 9 = .ok (.iconst 0, 1) := by decide +kernel
theorem dX1_addWord_10 : decode cX1_addWord 10 = .ok (.iaload, 1) := by decide +kernel
theorem dX1_addWord_11 : decode cX1_addWord 11 = .ok (.iastore, 1) := by decide +kernel
theorem dX1_addWord_12 : decode cX1_addWord 12 = .ok (.aload_n 0, 1) := by decide +kernel
theorem dX1_addWord_13 : decode cX1_addWord 13 = .ok (.getfield 15, 3) := by decide +kernel
theorem dX1_addWord_16 : decode cX1_addWord 16 = .ok (.aload_n 0, 1) := by decide +kernel
theorem dX1_addWord_17 : decode cX1_addWord 17 = .ok (.getfield 24, 3) := by decide +kernel
theorem dX1_addWord_20 : decode cX1_addWord 20 = .ok (.aload_n 1, 1) := by decide +kernel
theorem dX1_addWord_21 : decode cX1_addWord 21 = .ok (.iconst 1, 1) := by decide +kernel
theorem dX1_addWord_22 : decode cX1_addWord 22 = .ok (.iaload, 1) := by decide +kernel
theorem dX1_addWord_23 : decode cX1_addWord 23 = .ok (.iastore, 1) := by decide +kernel
theorem dX1_addWord_24 : decode cX1_addWord 24 = .ok (.aload_n 0, 1) := by decide +kernel
theorem dX1_addWord_25 : decode cX1_addWord 25 = .ok (.getfield 18, 3) := by decide +kernel
theorem dX1_addWord_28 : decode cX1_addWord 28 = .ok (.aload_n 0, 1) := by decide +kernel
theorem dX1_addWord_29 : decode cX1_addWord 29 = .ok (.getfield 24, 3) := by decide +kernel
theorem dX1_addWord_32 : decode cX1_addWord 32 = .ok (.aload_n 1, 1) := by decide +kernel
theorem dX1_addWord_33 : decode cX1_addWord 33 = .ok (.iconst 2, 1) := by decide +kernel
theorem dX1_addWord_34 : decode cX1_addWord 34 = .ok (.iaload, 1) := by decide +kernel
theorem dX1_addWord_35 : decode cX1_addWord 35 = .ok (.iastore, 1) := by decide +kernel
theorem dX1_addWord_36 : decode cX1_addWord 36 = .ok (.aload_n 0, 1) := by decide +kernel
theorem dX1_addWord_37 : decode cX1_addWord 37 = .ok (.getfield 21, 3) := by decide +kernel
theorem dX1_addWord_40 : decode cX1_addWord 40 = .ok (.aload_n 0, 1) := by decide +kernel
theorem dX1_addWord_41 : decode cX1_addWord 41 = .ok (.getfield 24, 3) := by decide +kernel
theorem dX1_addWord_44 : decode cX1_addWord 44 = .ok (.aload_n 1, 1) := by decide +kernel
theorem dX1_addWord_45 : decode cX1_addWord 45 = .ok (.iconst 3, 1) := by decide +kernel
theorem dX1_addWord_46 : decode cX1_addWord 46 = .ok (.iaload, 1) := by decide +kernel
theorem dX1_addWord_47 : decode cX1_addWord 47 = .ok (.iastore, 1) := by decide +kernel
theorem dX1_addWord_48 : decode cX1_addWord 48 = .ok (.aload_n 0, 1) := by decide +kernel
theorem dX1_addWord_49 : decode cX1_addWord 49 = .ok (.dup, 1) := by decide +kernel
theorem dX1_addWord_50 : decode cX1_addWord 50 = .ok (.getfield 24, 3) := by decide +kernel
theorem dX1_addWord_53 : decode cX1_addWord 53 = .ok (.iconst 1, 1) := by decide +kernel
theorem dX1_addWord_54 : decode cX1_addWord 54 = .ok (.iadd, 1) := by decide +kernel
theorem dX1_addWord_55 : decode cX1_addWord 55 = .ok (.putfield 24, 3) := by decide +kernel
theorem dX1_addWord_58 : decode cX1_addWord 58 = .ok (.iconst 1, 1) := by decide +kernel
theorem dX1_addWord_59 : decode cX1_addWord 59 = .ok (.ireturn, 1) := by decide +kernel
theorem dX1_addRule_0 : decode cX1_addRule 0 = .ok (.aload_n 0, 1) := by decide +kernel
theorem dX1_addRule_1 : decode cX1_addRule 1 = .ok (.getfield 28, 3) := by decide +kernel
theorem dX1_addRule_4 : decode cX1_addRule 4 = .ok (.aload_n 0, 1) := by decide +kernel
theorem dX1_addRule_5 : decode cX1_addRule 5 = .ok (.getfield 44, 3) := by decide +kernel
theorem dX1_addRule_8 : decode cX1_addRule 8 = .ok (.aload_n 1, 1) := by decide +kernel
theorem dX1_addRule_9 : decode cX1_addRule 9 = .ok (.iconst 0, 1) := by decide +kernel
theorem dX1_addRule_10 : decode cX1_addRule 10 = .ok (.iaload, 1) := by decide +kernel
theorem dX1_addRule_11 : decode cX1_addRule 11 = .ok (.iastore, 1) := by decide +kernel
theorem dX1_addRule_12 : decode cX1_addRule 12 = .ok (.aload_n 0, 1) := by decide +kernel
theorem dX1_addRule_13 : decode cX1_addRule 13 = .ok (.getfield 31, 3) := by decide +kernel
theorem dX1_addRule_16 : decode cX1_addRule 16 = .ok (.aload_n 0, 1) := by decide +kernel
theorem dX1_addRule_17 : decode cX1_addRule 17 = .ok (.getfield 44, 3) := by decide +kernel
theorem dX1_addRule_20 : decode cX1_addRule 20 = .ok (.aload_n 1, 1) := by decide +kernel
theorem dX1_addRule_21 : decode cX1_addRule 21 = .ok (.iconst 1, 1) := by decide +kernel
theorem dX1_addRule_22 : decode cX1_addRule 22 = .ok (.iaload, 1) := by decide +kernel
theorem dX1_addRule_23 : decode cX1_addRule 23 = .ok (.iastore, 1) := by decide +kernel
theorem dX1_addRule_24 : decode cX1_addRule 24 = .ok (.aload_n 0, 1) := by decide +kernel
theorem dX1_addRule_25 : decode cX1_addRule 25 = .ok (.getfield 34, 3) := by decide +kernel
theorem dX1_addRule_28 : decode cX1_addRule 28 = .ok (.aload_n 0, 1) := by decide +kernel
theorem dX1_addRule_29 : decode cX1_addRule 29 = .ok (.getfield 44, 3) := by decide +kernel
theorem dX1_addRule_32 : decode cX1_addRule 32 = .ok (.aload_n 1, 1) := by decide +kernel
theorem dX1_addRule_33 : decode cX1_addRule 33 = .ok (.iconst 2, 1) := by decide +kernel
theorem dX1_addRule_34 : decode cX1_addRule 34 = .ok (.iaload, 1) := by decide +kernel
theorem dX1_addRule_35 : decode cX1_addRule 35 = .ok (.iastore, 1) := by decide +kernel
theorem dX1_addRule_36 : decode cX1_addRule 36 = .ok (.aload_n 0, 1) := by decide +kernel
theorem dX1_addRule_37 : decode cX1_addRule 37 = .ok (.getfield 37, 3) := by decide +kernel
theorem dX1_addRule_40 : decode cX1_addRule 40 = .ok (.aload_n 0, 1) := by decide +kernel
theorem dX1_addRule_41 : decode cX1_addRule 41 = .ok (.getfield 44, 3) := by decide +kernel
theorem dX1_addRule_44 : decode cX1_addRule 44 = .ok (.aload_n 1, 1) := by decide +kernel
theorem dX1_addRule_45 : decode cX1_addRule 45 = .ok (.iconst 3, 1) := by decide +kernel
theorem dX1_addRule_46 : decode cX1_addRule 46 = .ok (.iaload, 1) := by decide +kernel
theorem dX1_addRule_47 : decode cX1_addRule 47 = .ok (.iconst 1, 1) := by decide +kernel
theorem dX1_addRule_48 : decode cX1_addRule 48 = .ok (.if_icmp .ne 7, 3) := by decide +kernel
theorem dX1_addRule_51 : decode cX1_addRule 51 = .ok (.iconst 1, 1) := by decide +kernel
theorem dX1_addRule_52 : decode cX1_addRule 52 = .ok (.goto 4, 3) := by decide +kernel
theorem dX1_addRule_55 : decode cX1_addRule 55 = .ok (.iconst 0, 1) := by decide +kernel
theorem dX1_addRule_56 : decode cX1_addRule 56 = .ok (.bastore, 1) := by decide +kernel
theorem dX1_addRule_57 : decode cX1_addRule 57 = .ok (.aload_n 0, 1) := by decide +kernel
theorem dX1_addRule_58 : decode cX1_addRule 58 = .ok (.getfield 41, 3) := by decide +kernel
theorem dX1_addRule_61 : decode cX1_addRule 61 = .ok (.aload_n 0, 1) := by decide +kernel
theorem dX1_addRule_62 : decode cX1_addRule 62 = .ok (.getfield 44, 3) := by decide +kernel
theorem dX1_addRule_65 : decode cX1_addRule 65 = .ok (.aload_n 1, 1) := by decide +kernel
theorem dX1_addRule_66 : decode cX1_addRule 66 = .ok (.iconst 4, 1) := by decide +kernel
theorem dX1_addRule_67 : decode cX1_addRule 67 = .ok (.iaload, 1) := by decide +kernel
theorem dX1_addRule_68 : decode cX1_addRule 68 = .ok (.iconst 1, 1) := by decide +kernel
theorem dX1_addRule_69 : decode cX1_addRule 69 = .ok (.if_icmp .ne 7, 3) := by decide +kernel
theorem dX1_addRule_72 : decode cX1_addRule 72 = .ok (.iconst 1, 1) := by decide +kernel
theorem dX1_addRule_73 : decode cX1_addRule 73 = .ok (.goto 4, 3) := by decide +kernel
theorem dX1_addRule_76 : decode cX1_addRule 76 = .ok (.iconst 0, 1) := by decide +kernel
theorem dX1_addRule_77 : decode cX1_addRule 77 = .ok (.bastore, 1) := by decide +kernel
theorem dX1_addRule_78 : decode cX1_addRule 78 = .ok (.aload_n 0, 1) := by decide +kernel
theorem dX1_addRule_79 : decode cX1_addRule 79 = .ok (.dup, 1) := by decide +kernel
theorem dX1_addRule_80 : decode cX1_addRule 80 = .ok (.getfield 44, 3) := by decide +kernel
theorem dX1_addRule_83 : decode cX1_addRule 83 = .ok (.iconst 1, 1) := by decide +kernel
theorem dX1_addRule_84 : decode cX1_addRule 84 = .ok (.iadd, 1) := by decide +kernel
theorem dX1_addRule_85 : decode cX1_addRule 85 = .ok (.putfield 44, 3) := by decide +kernel
theorem dX1_addRule_88 : decode cX1_addRule 88 = .ok (.iconst 1, 1) := by decide +kernel
theorem dX1_addRule_89 : decode cX1_addRule 89 = .ok (.ireturn, 1) := by decide +kernel
theorem dX1_tellPrice_0 : decode cX1_tellPrice 0 = .ok (.aload_n 0, 1) := by decide +kernel
theorem dX1_tellPrice_1 : decode cX1_tellPrice 1 = .ok (.getfield 55, 3) := by decide +kernel
theorem dX1_tellPrice_4 : decode cX1_tellPrice 4 = .ok (.aload_n 1, 1) := by decide +kernel
theorem dX1_tellPrice_5 : decode cX1_tellPrice 5 = .ok (.iconst 0, 1) := by decide +kernel
theorem dX1_tellPrice_6 : decode cX1_tellPrice 6 = .ok (.iaload, 1) := by decide +kernel
theorem dX1_tellPrice_7 : decode cX1_tellPrice 7 = .ok (.aload_n 1, 1) := by decide +kernel
theorem dX1_tellPrice_8 : decode cX1_tellPrice 8 = .ok (.iconst 1, 1) := by decide +kernel
theorem dX1_tellPrice_9 : decode cX1_tellPrice 9 = .ok (.iaload, 1) := by decide +kernel
theorem dX1_tellPrice_10 : decode cX1_tellPrice 10 = .ok (.iastore, 1) := by decide +kernel
theorem dX1_tellPrice_11 : decode cX1_tellPrice 11 = .ok (.iconst 1, 1) := by decide +kernel
theorem dX1_tellPrice_12 : decode cX1_tellPrice 12 = .ok (.ireturn, 1) := by decide +kernel
theorem dX1_stateOf_0 : decode cX1_stateOf 0 = .ok (.aload_n 0, 1) := by decide +kernel
theorem dX1_stateOf_1 : decode cX1_stateOf 1 = .ok (.getfield 9, 3) := by decide +kernel
theorem dX1_stateOf_4 : decode cX1_stateOf 4 = .ok (.iload_n 1, 1) := by decide +kernel
theorem dX1_stateOf_5 : decode cX1_stateOf 5 = .ok (.iaload, 1) := by decide +kernel
theorem dX1_stateOf_6 : decode cX1_stateOf 6 = .ok (.iconst 4, 1) := by decide +kernel
theorem dX1_stateOf_7 : decode cX1_stateOf 7 = .ok (.imul, 1) := by decide +kernel
theorem dX1_stateOf_8 : decode cX1_stateOf 8 = .ok (.aload_n 0, 1) := by decide +kernel
theorem dX1_stateOf_9 : decode cX1_stateOf 9 = .ok (.getfield 15, 3) := by decide +kernel
theorem dX1_stateOf_12 : decode cX1_stateOf 12 = .ok (.iload_n 1, 1) := by decide +kernel
theorem dX1_stateOf_13 : decode cX1_stateOf 13 = .ok (.iaload, 1) := by decide +kernel
theorem dX1_stateOf_14 : decode cX1_stateOf 14 = .ok (.iadd, 1) := by decide +kernel
theorem dX1_stateOf_15 : decode cX1_stateOf 15 = .ok (.ireturn, 1) := by decide +kernel
theorem dX1_swapPrice_0 : decode cX1_swapPrice 0 = .ok (.bipush 100, 2) := by decide +kernel
theorem dX1_swapPrice_2 : decode cX1_swapPrice 2 = .ok (.istore 4, 2) := by decide +kernel
theorem dX1_swapPrice_4 : decode cX1_swapPrice 4 = .ok (.aload_n 0, 1) := by decide +kernel
theorem dX1_swapPrice_5 : decode cX1_swapPrice 5 = .ok (.getfield 18, 3) := by decide +kernel
theorem dX1_swapPrice_8 : decode cX1_swapPrice 8 = .ok (.iload_n 1, 1) := by decide +kernel
theorem dX1_swapPrice_9 : decode cX1_swapPrice 9 = .ok (.iaload, 1) := by decide +kernel
theorem dX1_swapPrice_10 : decode cX1_swapPrice 10 = .ok (.aload_n 0, 1) := by decide +kernel
theorem dX1_swapPrice_11 : decode cX1_swapPrice 11 = .ok (.getfield 18, 3) := by decide +kernel
theorem dX1_swapPrice_14 : decode cX1_swapPrice 14 = .ok (.iload_n 2, 1) := by decide +kernel
theorem dX1_swapPrice_15 : decode cX1_swapPrice 15 = .ok (.iaload, 1) := by decide +kernel
theorem dX1_swapPrice_16 : decode cX1_swapPrice 16 = .ok (.if_icmp .ne 13, 3) := by decide +kernel
theorem dX1_swapPrice_19 : decode cX1_swapPrice 19 = .ok (.iload 4, 2) := by decide +kernel
theorem dX1_swapPrice_21 : decode cX1_swapPrice 21 = .ok (.aload_n 3, 1) := by decide +kernel
theorem dX1_swapPrice_22 : decode cX1_swapPrice 22 = .ok (.iconst 0, 1) := by decide +kernel
theorem dX1_swapPrice_23 : decode cX1_swapPrice 23 = .ok (.iaload, 1) := by decide +kernel
theorem dX1_swapPrice_24 : decode cX1_swapPrice 24 = .ok (.invokestatic 87, 3) := by decide +kernel
theorem dX1_swapPrice_27 : decode cX1_swapPrice 27 = .ok (.istore 4, 2) := by decide +kernel
theorem dX1_swapPrice_29 : decode cX1_swapPrice 29 = .ok (.aload_n 0, 1) := by decide +kernel
theorem dX1_swapPrice_30 : decode cX1_swapPrice 30 = .ok (.getfield 21, 3) := by decide +kernel
theorem dX1_swapPrice_33 : decode cX1_swapPrice 33 = .ok (.iload_n 1, 1) := by decide +kernel
theorem dX1_swapPrice_34 : decode cX1_swapPrice 34 = .ok (.iaload, 1) := by decide +kernel
theorem dX1_swapPrice_35 : decode cX1_swapPrice 35 = .ok (.aload_n 0, 1) := by decide +kernel
theorem dX1_swapPrice_36 : decode cX1_swapPrice 36 = .ok (.getfield 21, 3) := by decide +kernel
theorem dX1_swapPrice_39 : decode cX1_swapPrice 39 = .ok (.iload_n 2, 1) := by decide +kernel
theorem dX1_swapPrice_40 : decode cX1_swapPrice 40 = .ok (.iaload, 1) := by decide +kernel
theorem dX1_swapPrice_41 : decode cX1_swapPrice 41 = .ok (.if_icmp .ne 13, 3) := by decide +kernel
theorem dX1_swapPrice_44 : decode cX1_swapPrice 44 = .ok (.iload 4, 2) := by decide +kernel
theorem dX1_swapPrice_46 : decode cX1_swapPrice 46 = .ok (.aload_n 3, 1) := by decide +kernel
theorem dX1_swapPrice_47 : decode cX1_swapPrice 47 = .ok (.iconst 1, 1) := by decide +kernel
theorem dX1_swapPrice_48 : decode cX1_swapPrice 48 = .ok (.iaload, 1) := by decide +kernel
theorem dX1_swapPrice_49 : decode cX1_swapPrice 49 = .ok (.invokestatic 87, 3) := by decide +kernel
theorem dX1_swapPrice_52 : decode cX1_swapPrice 52 = .ok (.istore 4, 2) := by decide +kernel
theorem dX1_swapPrice_54 : decode cX1_swapPrice 54 = .ok (.aload_n 0, 1) := by decide +kernel
theorem dX1_swapPrice_55 : decode cX1_swapPrice 55 = .ok (.getfield 9, 3) := by decide +kernel
theorem dX1_swapPrice_58 : decode cX1_swapPrice 58 = .ok (.iload_n 1, 1) := by decide +kernel
theorem dX1_swapPrice_59 : decode cX1_swapPrice 59 = .ok (.iaload, 1) := by decide +kernel
theorem dX1_swapPrice_60 : decode cX1_swapPrice 60 = .ok (.aload_n 0, 1) := by decide +kernel
theorem dX1_swapPrice_61 : decode cX1_swapPrice 61 = .ok (.getfield 9, 3) := by decide +kernel
theorem dX1_swapPrice_64 : decode cX1_swapPrice 64 = .ok (.iload_n 2, 1) := by decide +kernel
theorem dX1_swapPrice_65 : decode cX1_swapPrice 65 = .ok (.iaload, 1) := by decide +kernel
theorem dX1_swapPrice_66 : decode cX1_swapPrice 66 = .ok (.if_icmp .ne 13, 3) := by decide +kernel
theorem dX1_swapPrice_69 : decode cX1_swapPrice 69 = .ok (.iload 4, 2) := by decide +kernel
theorem dX1_swapPrice_71 : decode cX1_swapPrice 71 = .ok (.aload_n 3, 1) := by decide +kernel
theorem dX1_swapPrice_72 : decode cX1_swapPrice 72 = .ok (.iconst 2, 1) := by decide +kernel
theorem dX1_swapPrice_73 : decode cX1_swapPrice 73 = .ok (.iaload, 1) := by decide +kernel
theorem dX1_swapPrice_74 : decode cX1_swapPrice 74 = .ok (.invokestatic 87, 3) := by decide +kernel
theorem dX1_swapPrice_77 : decode cX1_swapPrice 77 = .ok (.istore 4, 2) := by decide +kernel
theorem dX1_swapPrice_79 : decode cX1_swapPrice 79 = .ok (.iload 4, 2) := by decide +kernel
theorem dX1_swapPrice_81 : decode cX1_swapPrice 81 = .ok (.ireturn, 1) := by decide +kernel
theorem dX2_init_0 : decode cX2_init 0 = .ok (.aload_n 0, 1) := by decide +kernel
theorem dX2_init_1 : decode cX2_init 1 = .ok (.invokespecial 3, 3) := by decide +kernel
theorem dX2_init_4 : decode cX2_init 4 = .ok (.aload_n 0, 1) := by decide +kernel
theorem dX2_init_5 : decode cX2_init 5 = .ok (.bipush 60, 2) := by decide +kernel
theorem dX2_init_7 : decode cX2_init 7 = .ok (.newarray .int, 2) := by decide +kernel
theorem dX2_init_9 : decode cX2_init 9 = .ok (.putfield 9, 3) := by decide +kernel
theorem dX2_init_12 : decode cX2_init 12 = .ok (.aload_n 0, 1) := by decide +kernel
theorem dX2_init_13 : decode cX2_init 13 = .ok (.iconst 0, 1) := by decide +kernel
theorem dX2_init_14 : decode cX2_init 14 = .ok (.putfield 15, 3) := by decide +kernel
theorem dX2_init_17 : decode cX2_init 17 = .ok (.return_, 1) := by decide +kernel
theorem dX2_append_0 : decode cX2_append 0 = .ok (.aload_n 0, 1) := by decide +kernel
theorem dX2_append_1 : decode cX2_append 1 = .ok (.getfield 15, 3) := by decide +kernel
theorem dX2_append_4 : decode cX2_append 4 = .ok (.bipush 60, 2) := by decide +kernel
theorem dX2_append_6 : decode cX2_append 6 = .ok (.if_icmp .ge 23, 3) := by decide +kernel
theorem dX2_append_9 : decode cX2_append 9 = .ok (.aload_n 0, 1) := by decide +kernel
theorem dX2_append_10 : decode cX2_append 10 = .ok (.getfield 9, 3) := by decide +kernel
theorem dX2_append_13 : decode cX2_append 13 = .ok (.aload_n 0, 1) := by decide +kernel
theorem dX2_append_14 : decode cX2_append 14 = .ok (.getfield 15, 3) := by decide +kernel
theorem dX2_append_17 : decode cX2_append 17 = .ok (.iload_n 1, 1) := by decide +kernel
theorem dX2_append_18 : decode cX2_append 18 = .ok (.iastore, 1) := by decide +kernel
theorem dX2_append_19 : decode cX2_append 19 = .ok (.aload_n 0, 1) := by decide +kernel
theorem dX2_append_20 : decode cX2_append 20 = .ok (.dup, 1) := by decide +kernel
theorem dX2_append_21 : decode cX2_append 21 = .ok (.getfield 15, 3) := by decide +kernel
theorem dX2_append_24 : decode cX2_append 24 = .ok (.iconst 1, 1) := by decide +kernel
theorem dX2_append_25 : decode cX2_append 25 = .ok (.iadd, 1) := by decide +kernel
theorem dX2_append_26 : decode cX2_append 26 = .ok (.putfield 15, 3) := by decide +kernel
theorem dX2_append_29 : decode cX2_append 29 = .ok (.return_, 1) := by decide +kernel
theorem dX2_fittedPrice_0 : decode cX2_fittedPrice 0 = .ok (.iconst 0, 1) := by decide +kernel
theorem dX2_fittedPrice_1 : decode cX2_fittedPrice 1 = .ok (.istore_n 2, 1) := by decide +kernel
theorem dX2_fittedPrice_2 : decode cX2_fittedPrice 2 = .ok (.iconst 0, 1) := by decide +kernel
theorem dX2_fittedPrice_3 : decode cX2_fittedPrice 3 = .ok (.istore_n 3, 1) := by decide +kernel
theorem dX2_fittedPrice_4 : decode cX2_fittedPrice 4 = .ok (.iload_n 3, 1) := by decide +kernel
theorem dX2_fittedPrice_5 : decode cX2_fittedPrice 5 = .ok (.aload_n 0, 1) := by decide +kernel
theorem dX2_fittedPrice_6 : decode cX2_fittedPrice 6 = .ok (.getfield 15, 3) := by decide +kernel
theorem dX2_fittedPrice_9 : decode cX2_fittedPrice 9 = .ok (.if_icmp .ge 22, 3) := by decide +kernel
theorem dX2_fittedPrice_12 : decode cX2_fittedPrice 12 = .ok (.aload_n 0, 1) := by decide +kernel
theorem dX2_fittedPrice_13 : decode cX2_fittedPrice 13 = .ok (.getfield 9, 3) := by decide +kernel
theorem dX2_fittedPrice_16 : decode cX2_fittedPrice 16 = .ok (.iload_n 3, 1) := by decide +kernel
theorem dX2_fittedPrice_17 : decode cX2_fittedPrice 17 = .ok (.iaload, 1) := by decide +kernel
theorem dX2_fittedPrice_18 : decode cX2_fittedPrice 18 = .ok (.iload_n 1, 1) := by decide +kernel
theorem dX2_fittedPrice_19 : decode cX2_fittedPrice 19 = .ok (.if_icmp .ne 6, 3) := by decide +kernel
theorem dX2_fittedPrice_22 : decode cX2_fittedPrice 22 = .ok (.iinc 2 1, 3) := by decide +kernel
theorem dX2_fittedPrice_25 : decode cX2_fittedPrice 25 = .ok (.iinc 3 1, 3) := by decide +kernel
theorem dX2_fittedPrice_28 : decode cX2_fittedPrice 28 = .ok (.goto (-24), 3) := by decide +kernel
theorem dX2_fittedPrice_31 : decode cX2_fittedPrice 31 = .ok (.aload_n 0, 1) := by decide +kernel
theorem dX2_fittedPrice_32 : decode cX2_fittedPrice 32 = .ok (.getfield 15, 3) := by decide +kernel
theorem dX2_fittedPrice_35 : decode cX2_fittedPrice 35 = .ok (.ifCond .ne 8, 3) := by decide +kernel
theorem dX2_fittedPrice_38 : decode cX2_fittedPrice 38 = .ok (.bipush 10, 2) := by decide +kernel
theorem dX2_fittedPrice_40 : decode cX2_fittedPrice 40 = .ok (.goto 15, 3) := by decide +kernel
theorem dX2_fittedPrice_43 : decode cX2_fittedPrice 43 = .ok (.bipush 10, 2) := by decide +kernel
theorem dX2_fittedPrice_45 : decode cX2_fittedPrice 45 = .ok (.bipush 9, 2) := by decide +kernel
theorem dX2_fittedPrice_47 : decode cX2_fittedPrice 47 = .ok (.iload_n 2, 1) := by decide +kernel
theorem dX2_fittedPrice_48 : decode cX2_fittedPrice 48 = .ok (.imul, 1) := by decide +kernel
theorem dX2_fittedPrice_49 : decode cX2_fittedPrice 49 = .ok (.aload_n 0, 1) := by decide +kernel
theorem dX2_fittedPrice_50 : decode cX2_fittedPrice 50 = .ok (.getfield 15, 3) := by decide +kernel
theorem dX2_fittedPrice_53 : decode cX2_fittedPrice 53 = .ok (.idiv, 1) := by decide +kernel
theorem dX2_fittedPrice_54 : decode cX2_fittedPrice 54 = .ok (.isub, 1) := by decide +kernel
theorem dX2_fittedPrice_55 : decode cX2_fittedPrice 55 = .ok (.ireturn, 1) := by decide +kernel
theorem dX2_cameSince_0 : decode cX2_cameSince 0 = .ok (.iconst 0, 1) := by decide +kernel
theorem dX2_cameSince_1 : decode cX2_cameSince 1 = .ok (.iload_n 2, 1) := by decide +kernel
theorem dX2_cameSince_2 : decode cX2_cameSince 2 = .ok (.invokestatic 19, 3) := by decide +kernel
theorem dX2_cameSince_5 : decode cX2_cameSince 5 = .ok (.istore_n 3, 1) := by decide +kernel
theorem dX2_cameSince_6 : decode cX2_cameSince 6 = .ok (.iload_n 3, 1) := by decide +kernel
theorem dX2_cameSince_7 : decode cX2_cameSince 7 = .ok (.aload_n 0, 1) := by decide +kernel
theorem dX2_cameSince_8 : decode cX2_cameSince 8 = .ok (.getfield 15, 3) := by decide +kernel
theorem dX2_cameSince_11 : decode cX2_cameSince 11 = .ok (.if_icmp .ge 21, 3) := by decide +kernel
theorem dX2_cameSince_14 : decode cX2_cameSince 14 = .ok (.aload_n 0, 1) := by decide +kernel
theorem dX2_cameSince_15 : decode cX2_cameSince 15 = .ok (.getfield 9, 3) := by decide +kernel
theorem dX2_cameSince_18 : decode cX2_cameSince 18 = .ok (.iload_n 3, 1) := by decide +kernel
theorem dX2_cameSince_19 : decode cX2_cameSince 19 = .ok (.iaload, 1) := by decide +kernel
theorem dX2_cameSince_20 : decode cX2_cameSince 20 = .ok (.iload_n 1, 1) := by decide +kernel
theorem dX2_cameSince_21 : decode cX2_cameSince 21 = .ok (.if_icmp .ne 5, 3) := by decide +kernel
theorem dX2_cameSince_24 : decode cX2_cameSince 24 = .ok (.iconst 1, 1) := by decide +kernel
theorem dX2_cameSince_25 : decode cX2_cameSince 25 = .ok (.ireturn, 1) := by decide +kernel
theorem dX2_cameSince_26 : decode cX2_cameSince 26 = .ok (.iinc 3 1, 3) := by decide +kernel
theorem dX2_cameSince_29 : decode cX2_cameSince 29 = .ok (.goto (-23), 3) := by decide +kernel
theorem dX2_cameSince_32 : decode cX2_cameSince 32 = .ok (.iconst 0, 1) := by decide +kernel
theorem dX2_cameSince_33 : decode cX2_cameSince 33 = .ok (.ireturn, 1) := by decide +kernel
theorem dX3_init_0 : decode cX3_init 0 = .ok (.aload_n 0, 1) := by decide +kernel
theorem dX3_init_1 : decode cX3_init 1 = .ok (.invokespecial 3, 3) := by decide +kernel
theorem dX3_init_4 : decode cX3_init 4 = .ok (.aload_n 0, 1) := by decide +kernel
theorem dX3_init_5 : decode cX3_init 5 = .ok (.iconst 0, 1) := by decide +kernel
theorem dX3_init_6 : decode cX3_init 6 = .ok (.putfield 9, 3) := by decide +kernel
theorem dX3_init_9 : decode cX3_init 9 = .ok (.aload_n 0, 1) := by decide +kernel
theorem dX3_init_10 : decode cX3_init 10 = .ok (.iconst 0, 1) := by decide +kernel
theorem dX3_init_11 : decode cX3_init 11 = .ok (.putfield 15, 3) := by decide +kernel
theorem dX3_init_14 : decode cX3_init 14 = .ok (.aload_n 0, 1) := by decide +kernel
theorem dX3_init_15 : decode cX3_init 15 = .ok (.bipush (-4), 2) := by decide +kernel
theorem dX3_init_17 : decode cX3_init 17 = .ok (.putfield 18, 3) := by decide +kernel
theorem dX3_init_20 : decode cX3_init 20 = .ok (.aload_n 0, 1) := by decide +kernel
theorem dX3_init_21 : decode cX3_init 21 = .ok (.iconst 0, 1) := by decide +kernel
theorem dX3_init_22 : decode cX3_init 22 = .ok (.putfield 22, 3) := by decide +kernel
theorem dX3_init_25 : decode cX3_init 25 = .ok (.return_, 1) := by decide +kernel
theorem dX3_isWronged_0 : decode cX3_isWronged 0 = .ok (.aload_n 0, 1) := by decide +kernel
theorem dX3_isWronged_1 : decode cX3_isWronged 1 = .ok (.getfield 9, 3) := by decide +kernel
theorem dX3_isWronged_4 : decode cX3_isWronged 4 = .ok (.ifCond .eq 14, 3) := by decide +kernel
theorem dX3_isWronged_7 : decode cX3_isWronged 7 = .ok (.aload_n 0, 1) := by decide +kernel
theorem dX3_isWronged_8 : decode cX3_isWronged 8 = .ok (.getfield 15, 3) := by decide +kernel
theorem dX3_isWronged_11 : decode cX3_isWronged 11 = .ok (.ifCond .ne 7, 3) := by decide +kernel
theorem dX3_isWronged_14 : decode cX3_isWronged 14 = .ok (.iconst 1, 1) := by decide +kernel
theorem dX3_isWronged_15 : decode cX3_isWronged 15 = .ok (.goto 4, 3) := by decide +kernel
theorem dX3_isWronged_18 : decode cX3_isWronged 18 = .ok (.iconst 0, 1) := by decide +kernel
theorem dX3_isWronged_19 : decode cX3_isWronged 19 = .ok (.ireturn, 1) := by decide +kernel
theorem dX3_isChangedUnread_0 : decode cX3_isChangedUnread 0 = .ok (.aload_n 0, 1) := by decide +kernel
theorem dX3_isChangedUnread_1 : decode cX3_isChangedUnread 1 = .ok (.getfield 9, 3) := by decide +kernel
theorem dX3_isChangedUnread_4 : decode cX3_isChangedUnread 4 = .ok (.ifCond .ne 14, 3) := by decide +kernel
theorem dX3_isChangedUnread_7 : decode cX3_isChangedUnread 7 = .ok (.aload_n 0, 1) := by decide +kernel
theorem dX3_isChangedUnread_8 : decode cX3_isChangedUnread 8 = .ok (.getfield 15, 3) := by decide +kernel
theorem dX3_isChangedUnread_11 : decode cX3_isChangedUnread 11 = .ok (.ifCond .ne 7, 3) := by decide +kernel
theorem dX3_isChangedUnread_14 : decode cX3_isChangedUnread 14 = .ok (.iconst 1, 1) := by decide +kernel
theorem dX3_isChangedUnread_15 : decode cX3_isChangedUnread 15 = .ok (.goto 4, 3) := by decide +kernel
theorem dX3_isChangedUnread_18 : decode cX3_isChangedUnread 18 = .ok (.iconst 0, 1) := by decide +kernel
theorem dX3_isChangedUnread_19 : decode cX3_isChangedUnread 19 = .ok (.ireturn, 1) := by decide +kernel
