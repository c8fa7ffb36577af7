theorem dX7_init_0 : decode cX7_init 0 = .ok (.aload_n 0, 1) := by decide +kernel
theorem dX7_init_1 : decode cX7_init 1 = .ok (.invokespecial 3, 3) := by decide +kernel
theorem dX7_init_4 : decode cX7_init 4 = .ok (.aload_n 0, 1) := by decide +kernel
theorem dX7_init_5 : decode cX7_init 5 = .ok (.bipush 8, 2) := by decide +kernel
theorem dX7_init_7 : decode cX7_init 7 = .ok (.newarray .int, 2) := by decide +kernel
theorem dX7_init_9 : decode cX7_init 9 = .ok (.putfield 9, 3) := by decide +kernel
theorem dX7_init_12 : decode cX7_init 12 = .ok (.aload_n 0, 1) := by decide +kernel
theorem dX7_init_13 : decode cX7_init 13 = .ok (.iconst 0, 1) := by decide +kernel
theorem dX7_init_14 : decode cX7_init 14 = .ok (.putfield 15, 3) := by decide +kernel
theorem dX7_init_17 : decode cX7_init 17 = .ok (.aload_n 0, 1) := by decide +kernel
theorem dX7_init_18 : decode cX7_init 18 = .ok (.iconst 0, 1) := by decide +kernel
theorem dX7_init_19 : decode cX7_init 19 = .ok (.putfield 19, 3) := by decide +kernel
theorem dX7_init_22 : decode cX7_init 22 = .ok (.return_, 1) := by decide +kernel
theorem dX7_restart_0 : decode cX7_restart 0 = .ok (.aload_n 0, 1) := by decide +kernel
theorem dX7_restart_1 : decode cX7_restart 1 = .ok (.iconst 0, 1) := by decide +kernel
theorem dX7_restart_2 : decode cX7_restart 2 = .ok (.putfield 15, 3) := by decide +kernel
theorem dX7_restart_5 : decode cX7_restart 5 = .ok (.aload_n 0, 1) := by decide +kernel
theorem dX7_restart_6 : decode cX7_restart 6 = .ok (.iconst 0, 1) := by decide +kernel
theorem dX7_restart_7 : decode cX7_restart 7 = .ok (.putfield 19, 3) := by decide +kernel
theorem dX7_restart_10 : decode cX7_restart 10 = .ok (.return_, 1) := by decide +kernel
theorem dX7_append_0 : decode cX7_append 0 = .ok (.aload_n 0, 1) := by decide +kernel
theorem dX7_append_1 : decode cX7_append 1 = .ok (.getfield 15, 3) := by decide +kernel
theorem dX7_append_4 : decode cX7_append 4 = .ok (.bipush 8, 2) := by decide +kernel
theorem dX7_append_6 : decode cX7_append 6 = .ok (.if_icmp .ge 23, 3) := by decide +kernel
theorem dX7_append_9 : decode cX7_append 9 = .ok (.aload_n 0, 1) := by decide +kernel
theorem dX7_append_10 : decode cX7_append 10 = .ok (.getfield 9, 3) := by decide +kernel
theorem dX7_append_13 : decode cX7_append 13 = .ok (.aload_n 0, 1) := by decide +kernel
theorem dX7_append_14 : decode cX7_append 14 = .ok (.getfield 15, 3) := by decide +kernel
theorem dX7_append_17 : decode cX7_append 17 = .ok (.iload_n 1, 1) := by decide +kernel
theorem dX7_append_18 : decode cX7_append 18 = .ok (.iastore, 1) := by decide +kernel
theorem dX7_append_19 : decode cX7_append 19 = .ok (.aload_n 0, 1) := by decide +kernel
theorem dX7_append_20 : decode cX7_append 20 = .ok (.dup, 1) := by decide +kernel
theorem dX7_append_21 : decode cX7_append 21 = .ok (.getfield 15, 3) := by decide +kernel
theorem dX7_append_24 : decode cX7_append 24 = .ok (.iconst 1, 1) := by decide +kernel
theorem dX7_append_25 : decode cX7_append 25 = .ok (.iadd, 1) := by decide +kernel
theorem dX7_append_26 : decode cX7_append 26 = .ok (.putfield 15, 3) := by decide +kernel
theorem dX7_append_29 : decode cX7_append 29 = .ok (.return_, 1) := by decide +kernel
theorem dX7_copyOf_0 : decode cX7_copyOf 0 = .ok (.aload_n 1, 1) := by decide +kernel
theorem dX7_copyOf_1 : decode cX7_copyOf 1 = .ok (.getfield 9, 3) := by decide +kernel
theorem dX7_copyOf_4 : decode cX7_copyOf 4 = .ok (.iconst 0, 1) := by decide +kernel
theorem dX7_copyOf_5 : decode cX7_copyOf 5 = .ok (.aload_n 0, 1) := by decide +kernel
theorem dX7_copyOf_6 : decode cX7_copyOf 6 = .ok (.getfield 9, 3) := by decide +kernel
theorem dX7_copyOf_9 : decode cX7_copyOf 9 = .ok (.iconst 0, 1) := by decide +kernel
theorem dX7_copyOf_10 : decode cX7_copyOf 10 = .ok (.aload_n 1, 1) := by decide +kernel
theorem dX7_copyOf_11 : decode cX7_copyOf 11 = .ok (.getfield 15, 3) := by decide +kernel
theorem dX7_copyOf_14 : decode cX7_copyOf 14 = .ok (.invokestatic 22, 3) := by decide +kernel
theorem dX7_copyOf_17 : decode cX7_copyOf 17 = .ok (.aload_n 0, 1) := by decide +kernel
theorem dX7_copyOf_18 : decode cX7_copyOf 18 = .ok (.aload_n 1, 1) := by decide +kernel
theorem dX7_copyOf_19 : decode cX7_copyOf 19 = .ok (.getfield 15, 3) := by decide +kernel
theorem dX7_copyOf_22 : decode cX7_copyOf 22 = .ok (.putfield 15, 3) := by decide +kernel
theorem dX7_copyOf_25 : decode cX7_copyOf 25 = .ok (.return_, 1) := by decide +kernel
theorem dX7_copySwapped_0 : decode cX7_copySwapped 0 = .ok (.aload_n 0, 1) := by decide +kernel
theorem dX7_copySwapped_1 : decode cX7_copySwapped 1 = .ok (.aload_n 1, 1) := by decide +kernel
theorem dX7_copySwapped_2 : decode cX7_copySwapped 2 = .ok (.invokevirtual 28, 3) := by decide +kernel
theorem dX7_copySwapped_5 : decode cX7_copySwapped 5 = .ok (.aload_n 0, 1) := by decide +kernel
theorem dX7_copySwapped_6 : decode cX7_copySwapped 6 = .ok (.getfield 9, 3) := by decide +kernel
theorem dX7_copySwapped_9 : decode cX7_copySwapped 9 = .ok (.iload_n 2, 1) := by decide +kernel
theorem dX7_copySwapped_10 : decode cX7_copySwapped 10 = .ok (.iload_n 3, 1) := by decide +kernel
theorem dX7_copySwapped_11 : decode cX7_copySwapped 11 = .ok (.iastore, 1) := by decide +kernel
theorem dX7_copySwapped_12 : decode cX7_copySwapped 12 = .ok (.return_, 1) := by decide +kernel
theorem dX7_copyWithout_0 : decode cX7_copyWithout 0 = .ok (.aload_n 0, 1) := by decide +kernel
theorem dX7_copyWithout_1 : decode cX7_copyWithout 1 = .ok (.iconst 0, 1) := by decide +kernel
theorem dX7_copyWithout_2 : decode cX7_copyWithout 2 = .ok (.putfield 15, 3) := by decide +kernel
theorem dX7_copyWithout_5 : decode cX7_copyWithout 5 = .ok (.iconst 0, 1) := by decide +kernel
theorem dX7_copyWithout_6 : decode cX7_copyWithout 6 = .ok (.istore_n 3, 1) := by decide +kernel
theorem dX7_copyWithout_7 : decode cX7_copyWithout 7 = .ok (.iload_n 3, 1) := by decide +kernel
theorem dX7_copyWithout_8 : decode cX7_copyWithout 8 = .ok (.aload_n 1, 1) := by decide +kernel
theorem dX7_copyWithout_9 : decode cX7_copyWithout 9 = .ok (.getfield 15, 3) := by decide +kernel
theorem dX7_copyWithout_12 : decode cX7_copyWithout 12 = .ok (.if_icmp .ge 24, 3) := by decide +kernel
theorem dX7_copyWithout_15 : decode cX7_copyWithout 15 = .ok (.iload_n 3, 1) := by decide +kernel
theorem dX7_copyWithout_16 : decode cX7_copyWithout 16 = .ok (.iload_n 2, 1) := by decide +kernel
theorem dX7_copyWithout_17 : decode cX7_copyWithout 17 = .ok (.if_icmp .eq 13, 3) := by decide +kernel
theorem dX7_copyWithout_20 : decode cX7_copyWithout 20 = .ok (.aload_n 0, 1) := by decide +kernel
theorem dX7_copyWithout_21 : decode cX7_copyWithout 21 = .ok (.aload_n 1, 1) := by decide +kernel
theorem dX7_copyWithout_22 : decode cX7_copyWithout 22 = .ok (.getfield 9, 3) := by decide +kernel
theorem dX7_copyWithout_25 : decode cX7_copyWithout 25 = .ok (.iload_n 3, 1) := by decide +kernel
theorem dX7_copyWithout_26 : decode cX7_copyWithout 26 = .ok (.iaload, 1) := by decide +kernel
theorem dX7_copyWithout_27 : decode cX7_copyWithout 27 = .ok (.invokevirtual 32, 3) := by decide +kernel
theorem dX7_copyWithout_30 : decode cX7_copyWithout 30 = .ok (.iinc 3 1, 3) := by decide +kernel
theorem dX7_copyWithout_33 : decode cX7_copyWithout 33 = .ok (.goto (-26), 3) := by decide +kernel
theorem dX7_copyWithout_36 : decode cX7_copyWithout 36 = .ok (.return_, 1) := by decide +kernel
theorem dX7_copyWith_0 : decode cX7_copyWith 0 = .ok (.aload_n 0, 1) := by decide +kernel
theorem dX7_copyWith_1 : decode cX7_copyWith 1 = .ok (.iconst 0, 1) := by decide +kernel
theorem dX7_copyWith_2 : decode cX7_copyWith 2 = .ok (.putfield 15, 3) := by decide +kernel
theorem dX7_copyWith_5 : decode cX7_copyWith 5 = .ok (.iconst 0, 1) := by decide +kernel
theorem dX7_copyWith_6 : decode cX7_copyWith 6 = .ok (.istore 4, 2) := by decide +kernel
theorem dX7_copyWith_8 : decode cX7_copyWith 8 = .ok (.iload 4, 2) := by decide +kernel
theorem dX7_copyWith_10 : decode cX7_copyWith 10 = .ok (.iload_n 2, 1) := by decide +kernel
theorem dX7_copyWith_11 : decode cX7_copyWith 11 = .ok (.if_icmp .ge 20, 3) := by decide +kernel
theorem dX7_copyWith_14 : decode cX7_copyWith 14 = .ok (.aload_n 0, 1) := by decide +kernel
theorem dX7_copyWith_15 : decode cX7_copyWith 15 = .ok (.aload_n 1, 1) := by decide +kernel
theorem dX7_copyWith_16 : decode cX7_copyWith 16 = .ok (.getfield 9, 3) := by decide +kernel
theorem dX7_copyWith_19 : decode cX7_copyWith 19 = .ok (.iload 4, 2) := by decide +kernel
theorem dX7_copyWith_21 : decode cX7_copyWith 21 = .ok (.iaload, 1) := by decide +kernel
theorem dX7_copyWith_22 : decode cX7_copyWith 22 = .ok (.invokevirtual 32, 3) := by decide +kernel
theorem dX7_copyWith_25 : decode cX7_copyWith 25 = .ok (.iinc 4 1, 3) := by decide +kernel
theorem dX7_copyWith_28 : decode cX7_copyWith 28 = .ok (.goto (-20), 3) := by decide +kernel
theorem dX7_copyWith_31 : decode cX7_copyWith 31 = .ok (.aload_n 0, 1) := by decide +kernel
theorem dX7_copyWith_32 : decode cX7_copyWith 32 = .ok (.iload_n 3, 1) := by decide +kernel
theorem dX7_copyWith_33 : decode cX7_copyWith 33 = .ok (.invokevirtual 32, 3) := by decide +kernel
theorem dX7_copyWith_36 : decode cX7_copyWith 36 = .ok (.iload_n 2, 1) := by decide +kernel
theorem dX7_copyWith_37 : decode cX7_copyWith 37 = .ok (.istore 4, 2) := by decide +kernel
theorem dX7_copyWith_39 : decode cX7_copyWith 39 = .ok (.iload 4, 2) := by decide +kernel
theorem dX7_copyWith_41 : decode cX7_copyWith 41 = .ok (.aload_n 1, 1) := by decide +kernel
theorem dX7_copyWith_42 : decode cX7_copyWith 42 = .ok (.getfield 15, 3) := by decide +kernel
theorem dX7_copyWith_45 : decode cX7_copyWith 45 = .ok (.if_icmp .ge 20, 3) := by decide +kernel
theorem dX7_copyWith_48 : decode cX7_copyWith 48 = .ok (.aload_n 0, 1) := by decide +kernel
theorem dX7_copyWith_49 : decode cX7_copyWith 49 = .ok (.aload_n 1, 1) := by decide +kernel
theorem dX7_copyWith_50 : decode cX7_copyWith 50 = .ok (.getfield 9, 3) := by decide +kernel
theorem dX7_copyWith_53 : decode cX7_copyWith 53 = .ok (.iload 4, 2) := by decide +kernel
theorem dX7_copyWith_55 : decode cX7_copyWith 55 = .ok (.iaload, 1) := by decide +kernel
theorem dX7_copyWith_56 : decode cX7_copyWith 56 = .ok (.invokevirtual 32, 3) := by decide +kernel
theorem dX7_copyWith_59 : decode cX7_copyWith 59 = .ok (.iinc 4 1, 3) := by decide +kernel
theorem dX7_copyWith_62 : decode cX7_copyWith 62 = .ok (.goto (-23), 3) := by decide +kernel
theorem dX7_copyWith_65 : decode cX7_copyWith 65 = .ok (.return_, 1) := by decide +kernel
theorem dX7_orderTo_0 : decode cX7_orderTo 0 = .ok (.aload_n 0, 1) := by decide +kernel
theorem dX7_orderTo_1 : decode cX7_orderTo 1 = .ok (.getfield 15, 3) := by decide +kernel
theorem dX7_orderTo_4 : decode cX7_orderTo 4 = .ok (.aload_n 1, 1) := by decide +kernel
theorem dX7_orderTo_5 : decode cX7_orderTo 5 = .ok (.getfield 15, 3) := by decide +kernel
theorem dX7_orderTo_8 : decode cX7_orderTo 8 = .ok (.if_icmp .eq 13, 3) := by decide +kernel
theorem dX7_orderTo_11 : decode cX7_orderTo 11 = .ok (.aload_n 0, 1) := by decide +kernel
theorem dX7_orderTo_12 : decode cX7_orderTo 12 = .ok (.getfield 15, 3) := by decide +kernel
theorem dX7_orderTo_15 : decode cX7_orderTo 15 = .ok (.aload_n 1, 1) := by decide +kernel
theorem dX7_orderTo_16 : decode cX7_orderTo 16 = .ok (.getfield 15, 3) := by decide +kernel
theorem dX7_orderTo_19 : decode cX7_orderTo 19 = .ok (.isub, 1) := by decide +kernel
theorem dX7_orderTo_20 : decode cX7_orderTo 20 = .ok (.ireturn, 1) := by decide +kernel
theorem dX7_orderTo_21 : decode cX7_orderTo 21 = .ok (.iconst 0, 1) := by decide +kernel
theorem dX7_orderTo_22 : decode cX7_orderTo 22 = .ok (.istore_n 2, 1) := by decide +kernel
theorem dX7_orderTo_23 : decode cX7_orderTo 23 = .ok (.iload_n 2, 1) := by decide +kernel
theorem dX7_orderTo_24 : decode cX7_orderTo 24 = .ok (.aload_n 0, 1) := by decide +kernel
theorem dX7_orderTo_25 : decode cX7_orderTo 25 = .ok (.getfield 15, 3) := by decide +kernel
theorem dX7_orderTo_28 : decode cX7_orderTo 28 = .ok (.if_icmp .ge 38, 3) := by decide +kernel
theorem dX7_orderTo_31 : decode cX7_orderTo 31 = .ok (.aload_n 0, 1) := by decide +kernel
theorem dX7_orderTo_32 : decode cX7_orderTo 32 = .ok (.getfield 9, 3) := by decide +kernel
theorem dX7_orderTo_35 : decode cX7_orderTo 35 = .ok (.iload_n 2, 1) := by decide +kernel
theorem dX7_orderTo_36 : decode cX7_orderTo 36 = .ok (.iaload, 1) := by decide +kernel
theorem dX7_orderTo_37 : decode cX7_orderTo 37 = .ok (.aload_n 1, 1) := by decide +kernel
theorem dX7_orderTo_38 : decode cX7_orderTo 38 = .ok (.getfield 9, 3) := by decide +kernel
theorem dX7_orderTo_41 : decode cX7_orderTo 41 = .ok (.iload_n 2, 1) := by decide +kernel
theorem dX7_orderTo_42 : decode cX7_orderTo 42 = .ok (.iaload, 1) := by decide +kernel
theorem dX7_orderTo_43 : decode cX7_orderTo 43 = .ok (.if_icmp .eq 17, 3) := by decide +kernel
theorem dX7_orderTo_46 : decode cX7_orderTo 46 = .ok (.aload_n 0, 1) := by decide +kernel
theorem dX7_orderTo_47 : decode cX7_orderTo 47 = .ok (.getfield 9, 3) := by decide +kernel
theorem dX7_orderTo_50 : decode cX7_orderTo 50 = .ok (.iload_n 2, 1) := by decide +kernel
theorem dX7_orderTo_51 : decode cX7_orderTo 51 = .ok (.iaload, 1) := by decide +kernel
theorem dX7_orderTo_52 : decode cX7_orderTo 52 = .ok (.aload_n 1, 1) := by decide +kernel
theorem dX7_orderTo_53 : decode cX7_orderTo 53 = .ok (.getfield 9, 3) := by decide +kernel
theorem dX7_orderTo_56 : decode cX7_orderTo 56 = .ok (.iload_n 2, 1) := by decide +kernel
theorem dX7_orderTo_57 : decode cX7_orderTo 57 = .ok (.iaload, 1) := by decide +kernel
theorem dX7_orderTo_58 : decode cX7_orderTo 58 = .ok (.isub, 1) := by decide +kernel
theorem dX7_orderTo_59 : decode cX7_orderTo 59 = .ok (.ireturn, 1) := by decide +kernel
theorem dX7_orderTo_60 : decode cX7_orderTo 60 = .ok (.iinc 2 1, 3) := by decide +kernel
theorem dX7_orderTo_63 : decode cX7_orderTo 63 = .ok (.goto (-40), 3) := by decide +kernel
theorem dX7_orderTo_66 : decode cX7_orderTo 66 = .ok (.iconst 0, 1) := by decide +kernel
theorem dX7_orderTo_67 : decode cX7_orderTo 67 = .ok (.ireturn, 1) := by decide +kernel
theorem dX7_familyAt_0 : decode cX7_familyAt 0 = .ok (.iload_n 2, 1) := by decide +kernel
theorem dX7_familyAt_1 : decode cX7_familyAt 1 = .ok (.aload_n 0, 1) := by decide +kernel
theorem dX7_familyAt_2 : decode cX7_familyAt 2 = .ok (.getfield 15, 3) := by decide +kernel
theorem dX7_familyAt_5 : decode cX7_familyAt 5 = .ok (.if_icmp .ge 17, 3) := by decide +kernel
theorem dX7_familyAt_8 : decode cX7_familyAt 8 = .ok (.aload_n 1, 1) := by decide +kernel
theorem dX7_familyAt_9 : decode cX7_familyAt 9 = .ok (.getfield 36, 3) := by decide +kernel
theorem dX7_familyAt_12 : decode cX7_familyAt 12 = .ok (.aload_n 0, 1) := by decide +kernel
theorem dX7_familyAt_13 : decode cX7_familyAt 13 = .ok (.getfield 9, 3) := by decide +kernel
theorem dX7_familyAt_16 : decode cX7_familyAt 16 = .ok (.iload_n 2, 1) := by decide +kernel
theorem dX7_familyAt_17 : decode cX7_familyAt 17 = .ok (.iaload, 1) := by decide +kernel
theorem dX7_familyAt_18 : decode cX7_familyAt 18 = .ok (.iaload, 1) := by decide +kernel
theorem dX7_familyAt_19 : decode cX7_familyAt 19 = .ok (.goto 5, 3) := by decide +kernel
theorem dX7_familyAt_22 : decode cX7_familyAt 22 = .ok (.bipush 16, 2) := by decide +kernel
theorem dX7_familyAt_24 : decode cX7_familyAt 24 = .ok (.ireturn, 1) := by decide +kernel
theorem dX7_hasFamiliesOf_0 : decode cX7_hasFamiliesOf 0 = .ok (.iconst 0, 1) := by decide +kernel
theorem dX7_hasFamiliesOf_1 : decode cX7_hasFamiliesOf 1 = .ok (.istore_n 3, 1) := by decide +kernel
theorem dX7_hasFamiliesOf_2 : decode cX7_hasFamiliesOf 2 = .ok (.iload_n 3, 1) := by decide +kernel
theorem dX7_hasFamiliesOf_3 : decode cX7_hasFamiliesOf 3 = .ok (.bipush 8, 2) := by decide +kernel
theorem dX7_hasFamiliesOf_5 : decode cX7_hasFamiliesOf 5 = .ok (.if_icmp .ge 26, 3) := by decide +kernel
theorem dX7_hasFamiliesOf_8 : decode cX7_hasFamiliesOf 8 = .ok (.aload_n 0, 1) := by decide +kernel
theorem dX7_hasFamiliesOf_9 : decode cX7_hasFamiliesOf 9 = .ok (.aload_n 1, 1) := by decide +kernel
theorem dX7_hasFamiliesOf_10 : decode cX7_hasFamiliesOf 10 = .ok (.iload_n 3, 1) := by decide +kernel
theorem dX7_hasFamiliesOf_11 : decode cX7_hasFamiliesOf 11 = .ok (.invokevirtual 41, 3) := by decide +kernel
theorem dX7_hasFamiliesOf_14 : decode cX7_hasFamiliesOf 14 = .ok (.aload_n 2, 1) := by decide +kernel
theorem dX7_hasFamiliesOf_15 : decode cX7_hasFamiliesOf 15 = .ok (.aload_n 1, 1) := by decide +kernel
theorem dX7_hasFamiliesOf_16 : decode cX7_hasFamiliesOf 16 = .ok (.iload_n 3, 1) := by decide +kernel
theorem dX7_hasFamiliesOf_17 : decode cX7_hasFamiliesOf 17 = .ok (.invokevirtual 41, 3) := by decide +kernel
theorem dX7_hasFamiliesOf_20 : decode cX7_hasFamiliesOf 20 = .ok (.if_icmp .eq 5, 3) := by decide +kernel
theorem dX7_hasFamiliesOf_23 : decode cX7_hasFamiliesOf 23 = .ok (.iconst 0, 1) := by decide +kernel
theorem dX7_hasFamiliesOf_24 : decode cX7_hasFamiliesOf 24 = .ok (.ireturn, 1) := by decide +kernel
theorem dX7_hasFamiliesOf_25 : decode cX7_hasFamiliesOf 25 = .ok (.iinc 3 1, 3) := by decide +kernel
theorem dX7_hasFamiliesOf_28 : decode cX7_hasFamiliesOf 28 = .ok (.goto (-26), 3) := by decide +kernel
theorem dX7_hasFamiliesOf_31 : decode cX7_hasFamiliesOf 31 = .ok (.iconst 1, 1) := by decide +kernel
theorem dX7_hasFamiliesOf_32 : decode cX7_hasFamiliesOf 32 = .ok (.ireturn, 1) := by decide +kernel
theorem dX8_init_0 : decode cX8_init 0 = .ok (.aload_n 0, 1) := by decide +kernel
theorem dX8_init_1 : decode cX8_init 1 = .ok (.invokespecial 3, 3) := by decide +kernel
theorem dX8_init_4 : decode cX8_init 4 = .ok (.aload_n 0, 1) := by decide +kernel
theorem dX8_init_5 : decode cX8_init 5 = .ok (.sipush 2560, 3) := by decide +kernel
theorem dX8_init_8 : decode cX8_init 8 = .ok (.newarray .long, 2) := by decide +kernel
theorem dX8_init_10 : decode cX8_init 10 = .ok (.putfield 9, 3) := by decide +kernel
theorem dX8_init_13 : decode cX8_init 13 = .ok (.return_, 1) := by decide +kernel
theorem dX8_span_0 : decode cX8_span 0 = .ok (.iload_n 0, 1) := by decide +kernel
theorem dX8_span_1 : decode cX8_span 1 = .ok (.bipush 8, 2) := by decide +kernel
theorem dX8_span_3 : decode cX8_span 3 = .ok (.imul, 1) := by decide +kernel
theorem dX8_span_4 : decode cX8_span 4 = .ok (.iload_n 1, 1) := by decide +kernel
theorem dX8_span_5 : decode cX8_span 5 = .ok (.iadd, 1) := by decide +kernel
theorem dX8_span_6 : decode cX8_span 6 = .ok (.iconst 1, 1) := by decide +kernel
theorem dX8_span_7 : decode cX8_span 7 = .ok (.isub, 1) := by decide +kernel
theorem dX8_span_8 : decode cX8_span 8 = .ok (.bipush 40, 2) := by decide +kernel
theorem dX8_span_10 : decode cX8_span 10 = .ok (.imul, 1) := by decide +kernel
theorem dX8_span_11 : decode cX8_span 11 = .ok (.ireturn, 1) := by decide +kernel
theorem dX8_joinAll_0 : decode cX8_joinAll 0 = .ok (.iconst 2, 1) := by decide +kernel
theorem dX8_joinAll_1 : decode cX8_joinAll 1 = .ok (.istore_n 3, 1) := by decide +kernel
theorem dX8_joinAll_2 : decode cX8_joinAll 2 = .ok (.iload_n 3, 1) := by decide +kernel
theorem dX8_joinAll_3 : decode cX8_joinAll 3 = .ok (.iload_n 2, 1) := by decide +kernel
theorem dX8_joinAll_4 : decode cX8_joinAll 4 = .ok (.if_icmp .gt 71, 3) := by decide +kernel
theorem dX8_joinAll_7 : decode cX8_joinAll 7 = .ok (.iconst 0, 1) := by decide +kernel
theorem dX8_joinAll_8 : decode cX8_joinAll 8 = .ok (.istore 4, 2) := by decide +kernel
theorem dX8_joinAll_10 : decode cX8_joinAll 10 = .ok (.iload 4, 2) := by decide +kernel
theorem dX8_joinAll_12 : decode cX8_joinAll 12 = .ok (.iload_n 3, 1) := by decide +kernel
theorem dX8_joinAll_13 : decode cX8_joinAll 13 = .ok (.iadd, 1) := by decide +kernel
theorem dX8_joinAll_14 : decode cX8_joinAll 14 = .ok (.iload_n 2, 1) := by decide +kernel
theorem dX8_joinAll_15 : decode cX8_joinAll 15 = .ok (.if_icmp .gt 54, 3) := by decide +kernel
theorem dX8_joinAll_18 : decode cX8_joinAll 18 = .ok (.iconst 1, 1) := by decide +kernel
theorem dX8_joinAll_19 : decode cX8_joinAll 19 = .ok (.istore 5, 2) := by decide +kernel
theorem dX8_joinAll_21 : decode cX8_joinAll 21 = .ok (.iload 5, 2) := by decide +kernel
theorem dX8_joinAll_23 : decode cX8_joinAll 23 = .ok (.iload_n 3, 1) := by decide +kernel
theorem dX8_joinAll_24 : decode cX8_joinAll 24 = .ok (.if_icmp .ge 39, 3) := by decide +kernel
theorem dX8_joinAll_27 : decode cX8_joinAll 27 = .ok (.aload_n 0, 1) := by decide +kernel
theorem dX8_joinAll_28 : decode cX8_joinAll 28 = .ok (.aload_n 1, 1) := by decide +kernel
theorem dX8_joinAll_29 : decode cX8_joinAll 29 = .ok (.iload 4, 2) := by decide +kernel
theorem dX8_joinAll_31 : decode cX8_joinAll 31 = .ok (.iload 5, 2) := by decide +kernel
theorem dX8_joinAll_33 : decode cX8_joinAll 33 = .ok (.invokestatic 15, 3) := by decide +kernel
theorem dX8_joinAll_36 : decode cX8_joinAll 36 = .ok (.iload 4, 2) := by decide +kernel
theorem dX8_joinAll_38 : decode cX8_joinAll 38 = .ok (.iload 5, 2) := by decide +kernel
theorem dX8_joinAll_40 : decode cX8_joinAll 40 = .ok (.iadd, 1) := by decide +kernel
theorem dX8_joinAll_41 : decode cX8_joinAll 41 = .ok (.iload_n 3, 1) := by decide +kernel
theorem dX8_joinAll_42 : decode cX8_joinAll 42 = .ok (.iload 5, 2) := by decide +kernel
theorem dX8_joinAll_44 : decode cX8_joinAll 44 = .ok (.isub, 1) := by decide +kernel
theorem dX8_joinAll_45 : decode cX8_joinAll 45 = .ok (.invokestatic 15, 3) := by decide +kernel
theorem dX8_joinAll_48 : decode cX8_joinAll 48 = .ok (.iload 4, 2) := by decide +kernel
theorem dX8_joinAll_50 : decode cX8_joinAll 50 = .ok (.iload_n 3, 1) := by decide +kernel
theorem dX8_joinAll_51 : decode cX8_joinAll 51 = .ok (.invokestatic 15, 3) := by decide +kernel
theorem dX8_joinAll_54 : decode cX8_joinAll 54 = .ok (.invokevirtual 19, 3) := by decide +kernel
theorem dX8_joinAll_57 : decode cX8_joinAll 57 = .ok (.iinc 5 1, 3) := by decide +kernel
theorem dX8_joinAll_60 : decode cX8_joinAll 60 = .ok (.goto (-39), 3) := by decide +kernel
theorem dX8_joinAll_63 : decode cX8_joinAll 63 = .ok (.iinc 4 1, 3) := by decide +kernel
theorem dX8_joinAll_66 : decode cX8_joinAll 66 = .ok (.goto (-56), 3) := by decide +kernel
theorem dX8_joinAll_69 : decode cX8_joinAll 69 = .ok (.iinc 3 1, 3) := by decide +kernel
theorem dX8_joinAll_72 : decode cX8_joinAll 72 = .ok (.goto (-70), 3) := by decide +kernel
theorem dX8_joinAll_75 : decode cX8_joinAll 75 = .ok (.return_, 1) := by decide +kernel
theorem dX9_init_0 : decode cX9_init 0 = .ok (.aload_n 0, 1) := by decide +kernel
theorem dX9_init_1 : decode cX9_init 1 = .ok (.invokespecial 3, 3) := by decide +kernel
theorem dX9_init_4 : decode cX9_init 4 = .ok (.aload_n 0, 1) := by decide +kernel
theorem dX9_init_5 : decode cX9_init 5 = .ok (.sipush 400, 3) := by decide +kernel
theorem dX9_init_8 : decode cX9_init 8 = .ok (.newarray .int, 2) := by decide +kernel
theorem dX9_init_10 : decode cX9_init 10 = .ok (.putfield 9, 3) := by decide +kernel
theorem dX9_init_13 : decode cX9_init 13 = .ok (.aload_n 0, 1) := by decide +kernel
theorem dX9_init_14 : decode cX9_init 14 = .ok (.iconst 0, 1) := by decide +kernel
theorem dX9_init_15 : decode cX9_init 15 = .ok (.putfield 15, 3) := by decide +kernel
theorem dX9_init_18 : decode cX9_init 18 = .ok (.aload_n 0, 1) := by decide +kernel
theorem dX9_init_19 : decode cX9_init 19 = .ok (.iconst 5, 1) := by decide +kernel
theorem dX9_init_20 : decode cX9_init 20 = .ok (.newarray .int, 2) := by decide +kernel
theorem dX9_init_22 : decode cX9_init 22 = .ok (.putfield 19, 3) := by decide +kernel
theorem dX9_init_25 : decode cX9_init 25 = .ok (.aload_n 0, 1) := by decide +kernel
theorem dX9_init_26 : decode cX9_init 26 = .ok (.iconst 0, 1) := by decide +kernel
theorem dX9_init_27 : decode cX9_init 27 = .ok (.putfield 22, 3) := by decide +kernel
theorem dX9_init_30 : decode cX9_init 30 = .ok (.return_, 1) := by decide +kernel
theorem dX9_append_0 : decode cX9_append 0 = .ok (.aload_n 0, 1) := by decide +kernel
theorem dX9_append_1 : decode cX9_append 1 = .ok (.getfield 15, 3) := by decide +kernel
theorem dX9_append_4 : decode cX9_append 4 = .ok (.sipush 400, 3) := by decide +kernel
theorem dX9_append_7 : decode cX9_append 7 = .ok (.if_icmp .ge 23, 3) := by decide +kernel
theorem dX9_append_10 : decode cX9_append 10 = .ok (.aload_n 0, 1) := by decide +kernel
theorem dX9_append_11 : decode cX9_append 11 = .ok (.getfield 9, 3) := by decide +kernel
theorem dX9_append_14 : decode cX9_append 14 = .ok (.aload_n 0, 1) := by decide +kernel
theorem dX9_append_15 : decode cX9_append 15 = .ok (.getfield 15, 3) := by decide +kernel
theorem dX9_append_18 : decode cX9_append 18 = .ok (.iload_n 1, 1) := by decide +kernel
theorem dX9_append_19 : decode cX9_append 19 = .ok (.iastore, 1) := by decide +kernel
theorem dX9_append_20 : decode cX9_append 20 = .ok (.aload_n 0, 1) := by decide +kernel
theorem dX9_append_21 : decode cX9_append 21 = .ok (.dup, 1) := by decide +kernel
theorem dX9_append_22 : decode cX9_append 22 = .ok (.getfield 15, 3) := by decide +kernel
theorem dX9_append_25 : decode cX9_append 25 = .ok (.iconst 1, 1) := by decide +kernel
theorem dX9_append_26 : decode cX9_append 26 = .ok (.iadd, 1) := by decide +kernel
theorem dX9_append_27 : decode cX9_append 27 = .ok (.putfield 15, 3) := by decide +kernel
theorem dX9_append_30 : decode cX9_append 30 = .ok (.return_, 1) := by decide +kernel
theorem dX9_tellTo_0 : decode cX9_tellTo 0 = .ok (.aload_n 1, 1) := by decide +kernel
theorem dX9_tellTo_1 : decode cX9_tellTo 1 = .ok (.invokevirtual 25, 3) := by decide +kernel
theorem dX9_tellTo_4 : decode cX9_tellTo 4 = .ok (.iconst 0, 1) := by decide +kernel
theorem dX9_tellTo_5 : decode cX9_tellTo 5 = .ok (.istore_n 2, 1) := by decide +kernel
theorem dX9_tellTo_6 : decode cX9_tellTo 6 = .ok (.iconst 0, 1) := by decide +kernel
theorem dX9_tellTo_7 : decode cX9_tellTo 7 = .ok (.istore_n 3, 1) := by decide +kernel
theorem dX9_tellTo_8 : decode cX9_tellTo 8 = .ok (.iload_n 3, 1) := by decide +kernel
theorem dX9_tellTo_9 : decode cX9_tellTo 9 = .ok (.sipush 400, 3) := by decide +kernel
theorem dX9_tellTo_12 : decode cX9_tellTo 12 = .ok (.if_icmp .ge 57, 3) := by decide +kernel
theorem dX9_tellTo_15 : decode cX9_tellTo 15 = .ok (.iload_n 2, 1) := by decide +kernel
theorem dX9_tellTo_16 : decode cX9_tellTo 16 = .ok (.aload_n 0, 1) := by decide +kernel
theorem dX9_tellTo_17 : decode cX9_tellTo 17 = .ok (.getfield 15, 3) := by decide +kernel
theorem dX9_tellTo_20 : decode cX9_tellTo 20 = .ok (.if_icmp .ge 49, 3) := by decide +kernel
theorem dX9_tellTo_23 : decode cX9_tellTo 23 = .ok (.aload_n 0, 1) := by decide +kernel
theorem dX9_tellTo_24 : decode cX9_tellTo 24 = .ok (.iload_n 2, 1) := by decide +kernel
theorem dX9_tellTo_25 : decode cX9_tellTo 25 = .ok (.invokevirtual 30, 3) := by decide +kernel
theorem dX9_tellTo_28 : decode cX9_tellTo 28 = .ok (.istore 4, 2) := by decide +kernel
theorem dX9_tellTo_30 : decode cX9_tellTo 30 = .ok (.iload 4, 2) := by decide +kernel
theorem dX9_tellTo_32 : decode cX9_tellTo 32 = .ok (.bipush (-4), 2) := by decide +kernel
theorem dX9_tellTo_34 : decode cX9_tellTo 34 = .ok (.if_icmp .eq 24, 3) := by decide +kernel
theorem dX9_tellTo_37 : decode cX9_tellTo 37 = .ok (.aload_n 1, 1) := by decide +kernel
theorem dX9_tellTo_38 : decode cX9_tellTo 38 = .ok (.aload_n 0, 1) := by decide +kernel
theorem dX9_tellTo_39 : decode cX9_tellTo 39 = .ok (.getfield 9, 3) := by decide +kernel
theorem dX9_tellTo_42 : decode cX9_tellTo 42 = .ok (.iload_n 2, 1) := by decide +kernel
theorem dX9_tellTo_43 : decode cX9_tellTo 43 = .ok (.iaload, 1) := by decide +kernel
theorem dX9_tellTo_44 : decode cX9_tellTo 44 = .ok (.aload_n 0, 1) := by decide +kernel
theorem dX9_tellTo_45 : decode cX9_tellTo 45 = .ok (.getfield 19, 3) := by decide +kernel
theorem dX9_tellTo_48 : decode cX9_tellTo 48 = .ok (.aload_n 0, 1) := by decide +kernel
theorem dX9_tellTo_49 : decode cX9_tellTo 49 = .ok (.getfield 22, 3) := by decide +kernel
theorem dX9_tellTo_52 : decode cX9_tellTo 52 = .ok (.invokevirtual 34, 3) := by decide +kernel
theorem dX9_tellTo_55 : decode cX9_tellTo 55 = .ok (.ifCond .ne 5, 3) := by decide +kernel
theorem dX9_tellTo_58 : decode cX9_tellTo 58 = .ok (.iload_n 2, 1) := by decide +kernel
theorem dX9_tellTo_59 : decode cX9_tellTo 59 = .ok (.ireturn, 1) := by decide +kernel
theorem dX9_tellTo_60 : decode cX9_tellTo 60 = .ok (.iload 4, 2) := by decide +kernel
theorem dX9_tellTo_62 : decode cX9_tellTo 62 = .ok (.istore_n 2, 1) := by decide +kernel
theorem dX9_tellTo_63 : decode cX9_tellTo 63 = .ok (.iinc 3 1, 3) := by decide +kernel
theorem dX9_tellTo_66 : decode cX9_tellTo 66 = .ok (.goto (-58), 3) := by decide +kernel
theorem dX9_tellTo_69 : decode cX9_tellTo 69 = .ok (.bipush (-4), 2) := by decide +kernel
theorem dX9_tellTo_71 : decode cX9_tellTo 71 = .ok (.ireturn, 1) := by decide +kernel
theorem dX9_itemEnd_0 : decode cX9_itemEnd 0 = .ok (.aload_n 0, 1) := by decide +kernel
theorem dX9_itemEnd_1 : decode cX9_itemEnd 1 = .ok (.iconst 0, 1) := by decide +kernel
theorem dX9_itemEnd_2 : decode cX9_itemEnd 2 = .ok (.putfield 22, 3) := by decide +kernel
theorem dX9_itemEnd_5 : decode cX9_itemEnd 5 = .ok (.iload_n 1, 1) := by decide +kernel
theorem dX9_itemEnd_6 : decode cX9_itemEnd 6 = .ok (.iconst 1, 1) := by decide +kernel
theorem dX9_itemEnd_7 : decode cX9_itemEnd 7 = .ok (.iadd, 1) := by decide +kernel
theorem dX9_itemEnd_8 : decode cX9_itemEnd 8 = .ok (.istore_n 2, 1) := by decide +kernel
theorem dX9_itemEnd_9 : decode cX9_itemEnd 9 = .ok (.iconst 0, 1) := by decide +kernel
theorem dX9_itemEnd_10 : decode cX9_itemEnd 10 = .ok (.istore_n 3, 1) := by decide +kernel
theorem dX9_itemEnd_11 : decode cX9_itemEnd 11 = .ok (.iload_n 3, 1) := by decide +kernel
theorem dX9_itemEnd_12 : decode cX9_itemEnd 12 = .ok (.iconst 5, 1) := by decide +kernel
theorem dX9_itemEnd_13 : decode cX9_itemEnd 13 = .ok (.if_icmp .ge 128, 3) := by decide +kernel
theorem dX9_itemEnd_16 : decode cX9_itemEnd 16 = .ok (.aload_n 0, 1) := by decide +kernel
theorem dX9_itemEnd_17 : decode cX9_itemEnd 17 = .ok (.iload_n 2, 1) := by decide +kernel
theorem dX9_itemEnd_18 : decode cX9_itemEnd 18 = .ok (.invokevirtual 38, 3) := by decide +kernel
theorem dX9_itemEnd_21 : decode cX9_itemEnd 21 = .ok (.ifCond .ne 6, 3) := by decide +kernel
theorem dX9_itemEnd_24 : decode cX9_itemEnd 24 = .ok (.bipush (-4), 2) := by decide +kernel
theorem dX9_itemEnd_26 : decode cX9_itemEnd 26 = .ok (.ireturn, 1) := by decide +kernel
theorem dX9_itemEnd_27 : decode cX9_itemEnd 27 = .ok (.aload_n 0, 1) := by decide +kernel
theorem dX9_itemEnd_28 : decode cX9_itemEnd 28 = .ok (.getfield 9, 3) := by decide +kernel
theorem dX9_itemEnd_31 : decode cX9_itemEnd 31 = .ok (.iload_n 2, 1) := by decide +kernel
theorem dX9_itemEnd_32 : decode cX9_itemEnd 32 = .ok (.iaload, 1) := by decide +kernel
theorem dX9_itemEnd_33 : decode cX9_itemEnd 33 = .ok (.bipush 48, 2) := by decide +kernel
theorem dX9_itemEnd_35 : decode cX9_itemEnd 35 = .ok (.isub, 1) := by decide +kernel
theorem dX9_itemEnd_36 : decode cX9_itemEnd 36 = .ok (.istore 4, 2) := by decide +kernel
theorem dX9_itemEnd_38 : decode cX9_itemEnd 38 = .ok (.iinc 2 1, 3) := by decide +kernel
theorem dX9_itemEnd_41 : decode cX9_itemEnd 41 = .ok (.aload_n 0, 1) := by decide +kernel
theorem dX9_itemEnd_42 : decode cX9_itemEnd 42 = .ok (.iload_n 2, 1) := by decide +kernel
theorem dX9_itemEnd_43 : decode cX9_itemEnd 43 = .ok (.invokevirtual 38, 3) := by decide +kernel
theorem dX9_itemEnd_46 : decode cX9_itemEnd 46 = .ok (.ifCond .eq 23, 3) := by decide +kernel
theorem dX9_itemEnd_49 : decode cX9_itemEnd 49 = .ok (.iload 4, 2) := by decide +kernel
theorem dX9_itemEnd_51 : decode cX9_itemEnd 51 = .ok (.bipush 10, 2) := by decide +kernel
theorem dX9_itemEnd_53 : decode cX9_itemEnd 53 = .ok (.imul, 1) := by decide +kernel
theorem dX9_itemEnd_54 : decode cX9_itemEnd 54 = .ok (.aload_n 0, 1) := by decide +kernel
theorem dX9_itemEnd_55 : decode cX9_itemEnd 55 = .ok (.getfield 9, 3) := by decide +kernel
theorem dX9_itemEnd_58 : decode cX9_itemEnd 58 = .ok (.iload_n 2, 1) := by decide +kernel
theorem dX9_itemEnd_59 : decode cX9_itemEnd 59 = .ok (.iaload, 1) := by decide +kernel
theorem dX9_itemEnd_60 : decode cX9_itemEnd 60 = .ok (.iadd, 1) := by decide +kernel
theorem dX9_itemEnd_61 : decode cX9_itemEnd 61 = .ok (.bipush 48, 2) := by decide +kernel
theorem dX9_itemEnd_63 : decode cX9_itemEnd 63 = .ok (.isub, 1) := by decide +kernel
theorem dX9_itemEnd_64 : decode cX9_itemEnd 64 = .ok (.istore 4, 2) := by decide +kernel
theorem dX9_itemEnd_66 : decode cX9_itemEnd 66 = .ok (.iinc 2 1, 3) := by decide +kernel
theorem dX9_itemEnd_69 : decode cX9_itemEnd 69 = .ok (.aload_n 0, 1) := by decide +kernel
theorem dX9_itemEnd_70 : decode cX9_itemEnd 70 = .ok (.getfield 19, 3) := by decide +kernel
theorem dX9_itemEnd_73 : decode cX9_itemEnd 73 = .ok (.iload_n 3, 1) := by decide +kernel
theorem dX9_itemEnd_74 : decode cX9_itemEnd 74 = .ok (.iload 4, 2) := by decide +kernel
theorem dX9_itemEnd_76 : decode cX9_itemEnd 76 = .ok (.iastore, 1) := by decide +kernel
theorem dX9_itemEnd_77 : decode cX9_itemEnd 77 = .ok (.aload_n 0, 1) := by decide +kernel
theorem dX9_itemEnd_78 : decode cX9_itemEnd 78 = .ok (.iload_n 3, 1) := by decide +kernel
theorem dX9_itemEnd_79 : decode cX9_itemEnd 79 = .ok (.iconst 1, 1) := by decide +kernel
theorem dX9_itemEnd_80 : decode cX9_itemEnd 80 = .ok (.iadd, 1) := by decide +kernel
theorem dX9_itemEnd_81 : decode cX9_itemEnd 81 = .ok (.putfield 22, 3) := by decide +kernel
theorem dX9_itemEnd_84 : decode cX9_itemEnd 84 = .ok (.iload_n 2, 1) := by decide +kernel
theorem dX9_itemEnd_85 : decode cX9_itemEnd 85 = .ok (.aload_n 0, 1) := by decide +kernel
theorem dX9_itemEnd_86 : decode cX9_itemEnd 86 = .ok (.getfield 15, 3) := by decide +kernel
theorem dX9_itemEnd_89 : decode cX9_itemEnd 89 = .ok (.if_icmp .ge 25, 3) := by decide +kernel
theorem dX9_itemEnd_92 : decode cX9_itemEnd 92 = .ok (.aload_n 0, 1) := by decide +kernel
theorem dX9_itemEnd_93 : decode cX9_itemEnd 93 = .ok (.getfield 9, 3) := by decide +kernel
theorem dX9_itemEnd_96 : decode cX9_itemEnd 96 = .ok (.iload_n 2, 1) := by decide +kernel
theorem dX9_itemEnd_97 : decode cX9_itemEnd 97 = .ok (.iaload, 1) := by decide +kernel
theorem dX9_itemEnd_98 : decode cX9_itemEnd 98 = .ok (.bipush 44, 2) := by decide +kernel
theorem dX9_itemEnd_100 : decode cX9_itemEnd 100 = .ok (.if_icmp .eq 17, 3) := by decide +kernel
theorem dX9_itemEnd_103 : decode cX9_itemEnd 103 = .ok (.aload_n 0, 1) := by decide +kernel
theorem dX9_itemEnd_104 : decode cX9_itemEnd 104 = .ok (.getfield 9, 3) := by decide +kernel
theorem dX9_itemEnd_107 : decode cX9_itemEnd 107 = .ok (.iload_n 2, 1) := by decide +kernel
theorem dX9_itemEnd_108 : decode cX9_itemEnd 108 = .ok (.iaload, 1) := by decide +kernel
theorem dX9_itemEnd_109 : decode cX9_itemEnd 109 = .ok (.bipush 59, 2) := by decide +kernel
theorem dX9_itemEnd_111 : decode cX9_itemEnd 111 = .ok (.if_icmp .eq 6, 3) := by decide +kernel
theorem dX9_itemEnd_114 : decode cX9_itemEnd 114 = .ok (.bipush (-4), 2) := by decide +kernel
theorem dX9_itemEnd_116 : decode cX9_itemEnd 116 = .ok (.ireturn, 1) := by decide +kernel
theorem dX9_itemEnd_117 : decode cX9_itemEnd 117 = .ok (.iinc 2 1, 3) := by decide +kernel
theorem dX9_itemEnd_120 : decode cX9_itemEnd 120 = .ok (.aload_n 0, 1) := by decide +kernel
theorem dX9_itemEnd_121 : decode cX9_itemEnd 121 = .ok (.getfield 9, 3) := by decide +kernel
theorem dX9_itemEnd_124 : decode cX9_itemEnd 124 = .ok (.iload_n 2, 1) := by decide +kernel
theorem dX9_itemEnd_125 : decode cX9_itemEnd 125 = .ok (.iconst 1, 1) := by decide +kernel
theorem dX9_itemEnd_126 : decode cX9_itemEnd 126 = .ok (.isub, 1) := by decide +kernel
theorem dX9_itemEnd_127 : decode cX9_itemEnd 127 = .ok (.iaload, 1) := by decide +kernel
theorem dX9_itemEnd_128 : decode cX9_itemEnd 128 = .ok (.bipush 59, 2) := by decide +kernel
theorem dX9_itemEnd_130 : decode cX9_itemEnd 130 = .ok (.if_icmp .ne 5, 3) := by decide +kernel
theorem dX9_itemEnd_133 : decode cX9_itemEnd 133 = .ok (.iload_n 2, 1) := by decide +kernel
theorem dX9_itemEnd_134 : decode cX9_itemEnd 134 = .ok (.ireturn, 1) := by decide +kernel
theorem dX9_itemEnd_135 : decode cX9_itemEnd 135 = .ok (.iinc 3 1, 3) := by decide +kernel
theorem dX9_itemEnd_138 : decode cX9_itemEnd 138 = .ok (.goto (-127), 3) := by decide +kernel
theorem dX9_itemEnd_141 : decode cX9_itemEnd 141 = .ok (.bipush (-4), 2) := by decide +kernel
theorem dX9_itemEnd_143 : decode cX9_itemEnd 143 = .ok (.ireturn, 1) := by decide +kernel
theorem dX9_isFigure_0 : decode cX9_isFigure 0 = .ok (.iload_n 1, 1) := by decide +kernel
theorem dX9_isFigure_1 : decode cX9_isFigure 1 = .ok (.aload_n 0, 1) := by decide +kernel
theorem dX9_isFigure_2 : decode cX9_isFigure 2 = .ok (.getfield 15, 3) := by decide +kernel
theorem dX9_isFigure_5 : decode cX9_isFigure 5 = .ok (.if_icmp .ge 23, 3) := by decide +kernel
theorem dX9_isFigure_8 : decode cX9_isFigure 8 = .ok (.aload_n 0, 1) := by decide +kernel
theorem dX9_isFigure_9 : decode cX9_isFigure 9 = .ok (.getfield 9, 3) := by decide +kernel
theorem dX9_isFigure_12 : decode cX9_isFigure 12 = .ok (.iload_n 1, 1) := by decide +kernel
theorem dX9_isFigure_13 : decode cX9_isFigure 13 = .ok (.iaload, 1) := by decide +kernel
theorem dX9_isFigure_14 : decode cX9_isFigure 14 = .ok (.bipush 48, 2) := by decide +kernel
theorem dX9_isFigure_16 : decode cX9_isFigure 16 = .ok (.bipush 57, 2) := by decide +kernel
theorem dX9_isFigure_18 : decode cX9_isFigure 18 = .ok (.invokestatic 42, 3) := by decide +kernel
theorem dX9_isFigure_21 : decode cX9_isFigure 21 = .ok (.ifCond .eq 7, 3) := by decide +kernel
theorem dX9_isFigure_24 : decode cX9_isFigure 24 = .ok (.iconst 1, 1) := by decide +kernel
theorem dX9_isFigure_25 : decode cX9_isFigure 25 = .ok (.goto 4, 3) := by decide +kernel
theorem dX9_isFigure_28 : decode cX9_isFigure 28 = .ok (.iconst 0, 1) := by decide +kernel
theorem dX9_isFigure_29 : decode cX9_isFigure 29 = .ok (.ireturn, 1) := by decide +kernel
theorem dX10_init_0 : decode cX10_init 0 = .ok (.aload_n 0, 1) := by decide +kernel
theorem dX10_init_1 : decode cX10_init 1 = .ok (.invokespecial 3, 3) := by decide +kernel
theorem dX10_init_4 : decode cX10_init 4 = .ok (.return_, 1) := by decide +kernel
theorem dX10_fill_0 : decode cX10_fill 0 = .ok (.aload_n 0, 1) := by decide +kernel
theorem dX10_fill_1 : decode cX10_fill 1 = .ok (.getfield 9, 3) := by decide +kernel
theorem dX10_fill_4 : decode cX10_fill 4 = .ok (.lconst 0, 1) := by decide +kernel
theorem dX10_fill_5 : decode cX10_fill 5 = .ok (.invokestatic 15, 3) := by decide +kernel
theorem dX10_fill_8 : decode cX10_fill 8 = .ok (.iconst 0, 1) := by decide +kernel
theorem dX10_fill_9 : decode cX10_fill 9 = .ok (.istore_n 3, 1) := by decide +kernel
theorem dX10_fill_10 : decode cX10_fill 10 = .ok (.iload_n 3, 1) := by decide +kernel
theorem dX10_fill_11 : decode cX10_fill 11 = .ok (.aload_n 2, 1) := by decide +kernel
theorem dX10_fill_12 : decode cX10_fill 12 = .ok (.getfield 21, 3) := by decide +kernel
theorem dX10_fill_15 : decode cX10_fill 15 = .ok (.if_icmp .ge 31, 3) := by decide +kernel
theorem dX10_fill_18 : decode cX10_fill 18 = .ok (.aload_n 0, 1) := by decide +kernel
theorem dX10_fill_19 : decode cX10_fill 19 = .ok (.getfield 9, 3) := by decide +kernel
theorem dX10_fill_22 : decode cX10_fill 22 = .ok (.iload_n 3, 1) := by decide +kernel
theorem dX10_fill_23 : decode cX10_fill 23 = .ok (.iconst 1, 1) := by decide +kernel
theorem dX10_fill_24 : decode cX10_fill 24 = .ok (.invokestatic 27, 3) := by decide +kernel
theorem dX10_fill_27 : decode cX10_fill 27 = .ok (.aload_n 1, 1) := by decide +kernel
theorem dX10_fill_28 : decode cX10_fill 28 = .ok (.aload_n 2, 1) := by decide +kernel
theorem dX10_fill_29 : decode cX10_fill 29 = .ok (.getfield 31, 3) := by decide +kernel
theorem dX10_fill_32 : decode cX10_fill 32 = .ok (.iload_n 3, 1) := by decide +kernel
theorem dX10_fill_33 : decode cX10_fill 33 = .ok (.iaload, 1) := by decide +kernel
theorem dX10_fill_34 : decode cX10_fill 34 = .ok (.invokevirtual 35, 3) := by decide +kernel
theorem dX10_fill_37 : decode cX10_fill 37 = .ok (.iadd, 1) := by decide +kernel
theorem dX10_fill_38 : decode cX10_fill 38 = .ok (.lconst 1, 1) := by decide +kernel
theorem dX10_fill_39 : decode cX10_fill 39 = .ok (.lastore, 1) := by decide +kernel
theorem dX10_fill_40 : decode cX10_fill 40 = .ok (.iinc 3 1, 3) := by decide +kernel
theorem dX10_fill_43 : decode cX10_fill 43 = .ok (.goto (-33), 3) := by decide +kernel
theorem dX10_fill_46 : decode cX10_fill 46 = .ok (.aload_n 0, 1) := by decide +kernel
theorem dX10_fill_47 : decode cX10_fill 47 = .ok (.aload_n 1, 1) := by decide +kernel
theorem dX10_fill_48 : decode cX10_fill 48 = .ok (.aload_n 2, 1) := by decide +kernel
theorem dX10_fill_49 : decode cX10_fill 49 = .ok (.getfield 21, 3) := by decide +kernel
theorem dX10_fill_52 : decode cX10_fill 52 = .ok (.invokevirtual 41, 3) := by decide +kernel
theorem dX10_fill_55 : decode cX10_fill 55 = .ok (.return_, 1) := by decide +kernel
theorem dX10_treesOver_0 : decode cX10_treesOver 0 = .ok (.aload_n 0, 1) := by decide +kernel
theorem dX10_treesOver_1 : decode cX10_treesOver 1 = .ok (.getfield 9, 3) := by decide +kernel
theorem dX10_treesOver_4 : decode cX10_treesOver 4 = .ok (.iload_n 1, 1) := by decide +kernel
theorem dX10_treesOver_5 : decode cX10_treesOver 5 = .ok (.iload_n 2, 1) := by decide +kernel
theorem dX10_treesOver_6 : decode cX10_treesOver 6 = .ok (.invokestatic 27, 3) := by decide +kernel
theorem dX10_treesOver_9 : decode cX10_treesOver 9 = .ok (.iload_n 3, 1) := by decide +kernel
theorem dX10_treesOver_10 : decode cX10_treesOver 10 = .ok (.iconst 4, 1) := by decide +kernel
theorem dX10_treesOver_11 : decode cX10_treesOver 11 = .ok (.imul, 1) := by decide +kernel
theorem dX10_treesOver_12 : decode cX10_treesOver 12 = .ok (.iadd, 1) := by decide +kernel
theorem dX10_treesOver_13 : decode cX10_treesOver 13 = .ok (.iload 4, 2) := by decide +kernel
theorem dX10_treesOver_15 : decode cX10_treesOver 15 = .ok (.iadd, 1) := by decide +kernel
theorem dX10_treesOver_16 : decode cX10_treesOver 16 = .ok (.laload, 1) := by decide +kernel
theorem dX10_treesOver_17 : decode cX10_treesOver 17 = .ok (.lreturn, 1) := by decide +kernel
theorem dX10_overAll_0 : decode cX10_overAll 0 = .ok (.aload_n 0, 1) := by decide +kernel
theorem dX10_overAll_1 : decode cX10_overAll 1 = .ok (.iconst 0, 1) := by decide +kernel
theorem dX10_overAll_2 : decode cX10_overAll 2 = .ok (.iload_n 1, 1) := by decide +kernel
theorem dX10_overAll_3 : decode cX10_overAll 3 = .ok (.invokestatic 27, 3) := by decide +kernel
theorem dX10_overAll_6 : decode cX10_overAll 6 = .ok (.invokevirtual 45, 3) := by decide +kernel
theorem dX10_overAll_9 : decode cX10_overAll 9 = .ok (.lreturn, 1) := by decide +kernel
theorem dX10_joinSpans_0 : decode cX10_joinSpans 0 = .ok (.iconst 0, 1) := by decide +kernel
theorem dX10_joinSpans_1 : decode cX10_joinSpans 1 = .ok (.istore 5, 2) := by decide +kernel
theorem dX10_joinSpans_3 : decode cX10_joinSpans 3 = .ok (.iload 5, 2) := by decide +kernel
theorem dX10_joinSpans_5 : decode cX10_joinSpans 5 = .ok (.aload_n 1, 1) := by decide +kernel
theorem dX10_joinSpans_6 : decode cX10_joinSpans 6 = .ok (.getfield 49, 3) := by decide +kernel
theorem dX10_joinSpans_9 : decode cX10_joinSpans 9 = .ok (.if_icmp .ge 206, 3) := by decide +kernel
theorem dX10_joinSpans_12 : decode cX10_joinSpans 12 = .ok (.iload_n 2, 1) := by decide +kernel
theorem dX10_joinSpans_13 : decode cX10_joinSpans 13 = .ok (.aload_n 1, 1) := by decide +kernel
theorem dX10_joinSpans_14 : decode cX10_joinSpans 14 = .ok (.getfield 52, 3) := by decide +kernel
theorem dX10_joinSpans_17 : decode cX10_joinSpans 17 = .ok (.iload 5, 2) := by decide +kernel
theorem dX10_joinSpans_19 : decode cX10_joinSpans 19 = .ok (.iaload, 1) := by decide +kernel
theorem dX10_joinSpans_20 : decode cX10_joinSpans 20 = .ok (.iconst 4, 1) := by decide +kernel
theorem dX10_joinSpans_21 : decode cX10_joinSpans 21 = .ok (.imul, 1) := by decide +kernel
theorem dX10_joinSpans_22 : decode cX10_joinSpans 22 = .ok (.iadd, 1) := by decide +kernel
theorem dX10_joinSpans_23 : decode cX10_joinSpans 23 = .ok (.istore 6, 2) := by decide +kernel
theorem dX10_joinSpans_25 : decode cX10_joinSpans 25 = .ok (.iload_n 3, 1) := by decide +kernel
theorem dX10_joinSpans_26 : decode cX10_joinSpans 26 = .ok (.aload_n 1, 1) := by decide +kernel
theorem dX10_joinSpans_27 : decode cX10_joinSpans 27 = .ok (.getfield 55, 3) := by decide +kernel
theorem dX10_joinSpans_30 : decode cX10_joinSpans 30 = .ok (.iload 5, 2) := by decide +kernel
theorem dX10_joinSpans_32 : decode cX10_joinSpans 32 = .ok (.iaload, 1) := by decide +kernel
theorem dX10_joinSpans_33 : decode cX10_joinSpans 33 = .ok (.iconst 4, 1) := by decide +kernel
theorem dX10_joinSpans_34 : decode cX10_joinSpans 34 = .ok (.imul, 1) := by decide +kernel
theorem dX10_joinSpans_35 : decode cX10_joinSpans 35 = .ok (.iadd, 1) := by decide +kernel
theorem dX10_joinSpans_36 : decode cX10_joinSpans 36 = .ok (.istore 7, 2) := by decide +kernel
theorem dX10_joinSpans_38 : decode cX10_joinSpans 38 = .ok (.iload 4, 2) := by decide +kernel
theorem dX10_joinSpans_40 : decode cX10_joinSpans 40 = .ok (.aload_n 1, 1) := by decide +kernel
theorem dX10_joinSpans_41 : decode cX10_joinSpans 41 = .ok (.getfield 58, 3) := by decide +kernel
theorem dX10_joinSpans_44 : decode cX10_joinSpans 44 = .ok (.iload 5, 2) := by decide +kernel
theorem dX10_joinSpans_46 : decode cX10_joinSpans 46 = .ok (.iaload, 1) := by decide +kernel
theorem dX10_joinSpans_47 : decode cX10_joinSpans 47 = .ok (.iconst 4, 1) := by decide +kernel
theorem dX10_joinSpans_48 : decode cX10_joinSpans 48 = .ok (.imul, 1) := by decide +kernel
theorem dX10_joinSpans_49 : decode cX10_joinSpans 49 = .ok (.iadd, 1) := by decide +kernel
theorem dX10_joinSpans_50 : decode cX10_joinSpans 50 = .ok (.istore 8, 2) := by decide +kernel
theorem dX10_joinSpans_52 : decode cX10_joinSpans 52 = .ok (.aload_n 0, 1) := by decide +kernel
theorem dX10_joinSpans_53 : decode cX10_joinSpans 53 = .ok (.iload 6, 2) := by decide +kernel
theorem dX10_joinSpans_55 : decode cX10_joinSpans 55 = .ok (.invokevirtual 45, 3) := by decide +kernel
theorem dX10_joinSpans_58 : decode cX10_joinSpans 58 = .ok (.lstore 9, 2) := by decide +kernel
theorem dX10_joinSpans_60 : decode cX10_joinSpans 60 = .ok (.aload_n 0, 1) := by decide +kernel
theorem dX10_joinSpans_61 : decode cX10_joinSpans 61 = .ok (.iload 7, 2) := by decide +kernel
theorem dX10_joinSpans_63 : decode cX10_joinSpans 63 = .ok (.invokevirtual 45, 3) := by decide +kernel
theorem dX10_joinSpans_66 : decode cX10_joinSpans 66 = .ok (.lstore 11, 2) := by decide +kernel
theorem dX10_joinSpans_68 : decode cX10_joinSpans 68 = .ok (.iconst 0, 1) := by decide +kernel
theorem dX10_joinSpans_69 : decode cX10_joinSpans 69 = .ok (.istore 13, 2) := by decide +kernel
theorem dX10_joinSpans_71 : decode cX10_joinSpans 71 = .ok (.iload 13, 2) := by decide +kernel
theorem dX10_joinSpans_73 : decode cX10_joinSpans 73 = .ok (.iconst 4, 1) := by decide +kernel
theorem dX10_joinSpans_74 : decode cX10_joinSpans 74 = .ok (.if_icmp .ge 135, 3) := by decide +kernel
theorem dX10_joinSpans_77 : decode cX10_joinSpans 77 = .ok (.lload 9, 2) := by decide +kernel
theorem dX10_joinSpans_79 : decode cX10_joinSpans 79 = .ok (.lconst 0, 1) := by decide +kernel
theorem dX10_joinSpans_80 : decode cX10_joinSpans 80 = .ok (.lcmp, 1) := by decide +kernel
theorem dX10_joinSpans_81 : decode cX10_joinSpans 81 = .ok (.ifCond .eq 128, 3) := by decide +kernel
theorem dX10_joinSpans_84 : decode cX10_joinSpans 84 = .ok (.lload 11, 2) := by decide +kernel
theorem dX10_joinSpans_86 : decode cX10_joinSpans 86 = .ok (.lconst 0, 1) := by decide +kernel
theorem dX10_joinSpans_87 : decode cX10_joinSpans 87 = .ok (.lcmp, 1) := by decide +kernel
theorem dX10_joinSpans_88 : decode cX10_joinSpans 88 = .ok (.ifCond .eq 121, 3) := by decide +kernel
theorem dX10_joinSpans_91 : decode cX10_joinSpans 91 = .ok (.aload_n 1, 1) := by decide +kernel
theorem dX10_joinSpans_92 : decode cX10_joinSpans 92 = .ok (.getfield 61, 3) := by decide +kernel
theorem dX10_joinSpans_95 : decode cX10_joinSpans 95 = .ok (.iload 5, 2) := by decide +kernel
theorem dX10_joinSpans_97 : decode cX10_joinSpans 97 = .ok (.baload, 1) := by decide +kernel
theorem dX10_joinSpans_98 : decode cX10_joinSpans 98 = .ok (.ifCond .eq 40, 3) := by decide +kernel
theorem dX10_joinSpans_101 : decode cX10_joinSpans 101 = .ok (.aload_n 0, 1) := by decide +kernel
theorem dX10_joinSpans_102 : decode cX10_joinSpans 102 = .ok (.getfield 9, 3) := by decide +kernel
theorem dX10_joinSpans_105 : decode cX10_joinSpans 105 = .ok (.iload 8, 2) := by decide +kernel
theorem dX10_joinSpans_107 : decode cX10_joinSpans 107 = .ok (.iload 13, 2) := by decide +kernel
theorem dX10_joinSpans_109 : decode cX10_joinSpans 109 = .ok (.iadd, 1) := by decide +kernel
theorem dX10_joinSpans_110 : decode cX10_joinSpans 110 = .ok (.dup2, 1) := by decide +kernel
theorem dX10_joinSpans_111 : decode cX10_joinSpans 111 = .ok (.laload, 1) := by decide +kernel
theorem dX10_joinSpans_112 : decode cX10_joinSpans 112 = .ok (.aload_n 0, 1) := by decide +kernel
theorem dX10_joinSpans_113 : decode cX10_joinSpans 113 = .ok (.getfield 9, 3) := by decide +kernel
theorem dX10_joinSpans_116 : decode cX10_joinSpans 116 = .ok (.iload 6, 2) := by decide +kernel
theorem dX10_joinSpans_118 : decode cX10_joinSpans 118 = .ok (.iload 13, 2) := by decide +kernel
theorem dX10_joinSpans_120 : decode cX10_joinSpans 120 = .ok (.iadd, 1) := by decide +kernel
theorem dX10_joinSpans_121 : decode cX10_joinSpans 121 = .ok (.laload, 1) := by decide +kernel
theorem dX10_joinSpans_122 : decode cX10_joinSpans 122 = .ok (.aload_n 0, 1) := by decide +kernel
theorem dX10_joinSpans_123 : decode cX10_joinSpans 123 = .ok (.getfield 9, 3) := by decide +kernel
theorem dX10_joinSpans_126 : decode cX10_joinSpans 126 = .ok (.iload 7, 2) := by decide +kernel
theorem dX10_joinSpans_128 : decode cX10_joinSpans 128 = .ok (.iload 13, 2) := by decide +kernel
theorem dX10_joinSpans_130 : decode cX10_joinSpans 130 = .ok (.iadd, 1) := by decide +kernel
theorem dX10_joinSpans_131 : decode cX10_joinSpans 131 = .ok (.laload, 1) := by decide +kernel
theorem dX10_joinSpans_132 : decode cX10_joinSpans 132 = .ok (.lmul, 1) := by decide +kernel
theorem dX10_joinSpans_133 : decode cX10_joinSpans 133 = .ok (.ladd, 1) := by decide +kernel
theorem dX10_joinSpans_134 : decode cX10_joinSpans 134 = .ok (.lastore, 1) := by decide +kernel
theorem dX10_joinSpans_135 : decode cX10_joinSpans 135 = .ok (.goto 68, 3) := by decide +kernel
theorem dX10_joinSpans_138 : decode cX10_joinSpans 138 = .ok (.aload_n 1, 1) := by decide +kernel
theorem dX10_joinSpans_139 : decode cX10_joinSpans 139 = .ok (.getfield 65, 3) := by decide +kernel
theorem dX10_joinSpans_142 : decode cX10_joinSpans 142 = .ok (.iload 5, 2) := by decide +kernel
theorem dX10_joinSpans_144 : decode cX10_joinSpans 144 = .ok (.baload, 1) := by decide +kernel
theorem dX10_joinSpans_145 : decode cX10_joinSpans 145 = .ok (.ifCond .eq 32, 3) := by decide +kernel
theorem dX10_joinSpans_148 : decode cX10_joinSpans 148 = .ok (.aload_n 0, 1) := by decide +kernel
theorem dX10_joinSpans_149 : decode cX10_joinSpans 149 = .ok (.getfield 9, 3) := by decide +kernel
theorem dX10_joinSpans_152 : decode cX10_joinSpans 152 = .ok (.iload 8, 2) := by decide +kernel
theorem dX10_joinSpans_154 : decode cX10_joinSpans 154 = .ok (.iload 13, 2) := by decide +kernel
theorem dX10_joinSpans_156 : decode cX10_joinSpans 156 = .ok (.iadd, 1) := by decide +kernel
theorem dX10_joinSpans_157 : decode cX10_joinSpans 157 = .ok (.dup2, 1) := by decide +kernel
theorem dX10_joinSpans_158 : decode cX10_joinSpans 158 = .ok (.laload, 1) := by decide +kernel
theorem dX10_joinSpans_159 : decode cX10_joinSpans 159 = .ok (.lload 9, 2) := by decide +kernel
theorem dX10_joinSpans_161 : decode cX10_joinSpans 161 = .ok (.aload_n 0, 1) := by decide +kernel
theorem dX10_joinSpans_162 : decode cX10_joinSpans 162 = .ok (.getfield 9, 3) := by decide +kernel
theorem dX10_joinSpans_165 : decode cX10_joinSpans 165 = .ok (.iload 7, 2) := by decide +kernel
theorem dX10_joinSpans_167 : decode cX10_joinSpans 167 = .ok (.iload 13, 2) := by decide +kernel
theorem dX10_joinSpans_169 : decode cX10_joinSpans 169 = .ok (.iadd, 1) := by decide +kernel
theorem dX10_joinSpans_170 : decode cX10_joinSpans 170 = .ok (.laload, 1) := by decide +kernel
theorem dX10_joinSpans_171 : decode cX10_joinSpans 171 = .ok (.lmul, 1) := by decide +kernel
theorem dX10_joinSpans_172 : decode cX10_joinSpans 172 = .ok (.ladd, 1) := by decide +kernel
theorem dX10_joinSpans_173 : decode cX10_joinSpans 173 = .ok (.lastore, 1) := by decide +kernel
theorem dX10_joinSpans_174 : decode cX10_joinSpans 174 = .ok (.goto 29, 3) := by decide +kernel
theorem dX10_joinSpans_177 : decode cX10_joinSpans 177 = .ok (.aload_n 0, 1) := by decide +kernel
theorem dX10_joinSpans_178 : decode cX10_joinSpans 178 = .ok (.getfield 9, 3) := by decide +kernel
theorem dX10_joinSpans_181 : decode cX10_joinSpans 181 = .ok (.iload 8, 2) := by decide +kernel
theorem dX10_joinSpans_183 : decode cX10_joinSpans 183 = .ok (.iload 13, 2) := by decide +kernel
theorem dX10_joinSpans_185 : decode cX10_joinSpans 185 = .ok (.iadd, 1) := by decide +kernel
theorem dX10_joinSpans_186 : decode cX10_joinSpans 186 = .ok (.dup2, 1) := by decide +kernel
theorem dX10_joinSpans_187 : decode cX10_joinSpans 187 = .ok (.laload, 1) := by decide +kernel
theorem dX10_joinSpans_188 : decode cX10_joinSpans 188 = .ok (.aload_n 0, 1) := by decide +kernel
theorem dX10_joinSpans_189 : decode cX10_joinSpans 189 = .ok (.getfield 9, 3) := by decide +kernel
theorem dX10_joinSpans_192 : decode cX10_joinSpans 192 = .ok (.iload 6, 2) := by decide +kernel
theorem dX10_joinSpans_194 : decode cX10_joinSpans 194 = .ok (.iload 13, 2) := by decide +kernel
theorem dX10_joinSpans_196 : decode cX10_joinSpans 196 = .ok (.iadd, 1) := by decide +kernel
theorem dX10_joinSpans_197 : decode cX10_joinSpans 197 = .ok (.laload, 1) := by decide +kernel
theorem dX10_joinSpans_198 : decode cX10_joinSpans 198 = .ok (.lload 11, 2) := by decide +kernel
theorem dX10_joinSpans_200 : decode cX10_joinSpans 200 = .ok (.lmul, 1) := by decide +kernel
theorem dX10_joinSpans_201 : decode cX10_joinSpans 201 = .ok (.ladd, 1) := by decide +kernel
theorem dX10_joinSpans_202 : decode cX10_joinSpans 202 = .ok (.lastore, 1) := by decide +kernel
theorem dX10_joinSpans_203 : decode cX10_joinSpans 203 = .ok (.iinc 13 1, 3) := by decide +kernel
theorem dX10_joinSpans_206 : decode cX10_joinSpans 206 = .ok (.goto (-135), 3) := by decide +kernel
theorem dX10_joinSpans_209 : decode cX10_joinSpans 209 = .ok (.iinc 5 1, 3) := by decide +kernel
theorem dX10_joinSpans_212 : decode cX10_joinSpans 212 = .ok (.goto (-209), 3) := by decide +kernel
theorem dX10_joinSpans_215 : decode cX10_joinSpans 215 = .ok (.return_, 1) := by decide +kernel
theorem dX10_sumAt_0 : decode cX10_sumAt 0 = .ok (.aload_n 0, 1) := by decide +kernel
theorem dX10_sumAt_1 : decode cX10_sumAt 1 = .ok (.getfield 9, 3) := by decide +kernel
theorem dX10_sumAt_4 : decode cX10_sumAt 4 = .ok (.iload_n 1, 1) := by decide +kernel
theorem dX10_sumAt_5 : decode cX10_sumAt 5 = .ok (.laload, 1) := by decide +kernel
theorem dX10_sumAt_6 : decode cX10_sumAt 6 = .ok (.aload_n 0, 1) := by decide +kernel
theorem dX10_sumAt_7 : decode cX10_sumAt 7 = .ok (.getfield 9, 3) := by decide +kernel
theorem dX10_sumAt_10 : decode cX10_sumAt 10 = .ok (.iload_n 1, 1) := by decide +kernel
theorem dX10_sumAt_11 : decode cX10_sumAt 11 = .ok (.iconst 1, 1) := by decide +kernel
theorem dX10_sumAt_12 : decode cX10_sumAt 12 = .ok (.iadd, 1) := by decide +kernel
theorem dX10_sumAt_13 : decode cX10_sumAt 13 = .ok (.laload, 1) := by decide +kernel
theorem dX10_sumAt_14 : decode cX10_sumAt 14 = .ok (.ladd, 1) := by decide +kernel
theorem dX10_sumAt_15 : decode cX10_sumAt 15 = .ok (.aload_n 0, 1) := by decide +kernel
theorem dX10_sumAt_16 : decode cX10_sumAt 16 = .ok (.getfield 9, 3) := by decide +kernel
theorem dX10_sumAt_19 : decode cX10_sumAt 19 = .ok (.iload_n 1, 1) := by decide +kernel
theorem dX10_sumAt_20 : decode cX10_sumAt 20 = .ok (.iconst 2, 1) := by decide +kernel
theorem dX10_sumAt_21 : decode cX10_sumAt 21 = .ok (.iadd, 1) := by decide +kernel
theorem dX10_sumAt_22 : decode cX10_sumAt 22 = .ok (.laload, 1) := by decide +kernel
theorem dX10_sumAt_23 : decode cX10_sumAt 23 = .ok (.ladd, 1) := by decide +kernel
theorem dX10_sumAt_24 : decode cX10_sumAt 24 = .ok (.aload_n 0, 1) := by decide +kernel
theorem dX10_sumAt_25 : decode cX10_sumAt 25 = .ok (.getfield 9, 3) := by decide +kernel
theorem dX10_sumAt_28 : decode cX10_sumAt 28 = .ok (.iload_n 1, 1) := by decide +kernel
theorem dX10_sumAt_29 : decode cX10_sumAt 29 = .ok (.iconst 3, 1) := by decide +kernel
theorem dX10_sumAt_30 : decode cX10_sumAt 30 = .ok (.iadd, 1) := by decide +kernel
theorem dX10_sumAt_31 : decode cX10_sumAt 31 = .ok (.laload, 1) := by decide +kernel
theorem dX10_sumAt_32 : decode cX10_sumAt 32 = .ok (.ladd, 1) := by decide +kernel
theorem dX10_sumAt_33 : decode cX10_sumAt 33 = .ok (.lreturn, 1) := by decide +kernel
theorem dJ6_bitCount_0f7a4_0 : decode cJ6_bitCount_0f7a4 0 = .ok (.iload_n 0, 1) := by decide +kernel
theorem dJ6_bitCount_0f7a4_1 : decode cJ6_bitCount_0f7a4 1 = .ok (.iload_n 0, 1) := by decide +kernel
theorem dJ6_bitCount_0f7a4_2 : decode cJ6_bitCount_0f7a4 2 = .ok (.iconst 1, 1) := by decide +kernel
theorem dJ6_bitCount_0f7a4_3 : decode cJ6_bitCount_0f7a4 3 = .ok (.iushr, 1) := by decide +kernel
theorem dJ6_bitCount_0f7a4_4 : decode cJ6_bitCount_0f7a4 4 = .ok (.ldc_w 265, 3) := by decide +kernel
theorem dJ6_bitCount_0f7a4_7 : decode cJ6_bitCount_0f7a4 7 = .ok (.iand, 1) := by decide +kernel
theorem dJ6_bitCount_0f7a4_8 : decode cJ6_bitCount_0f7a4 8 = .ok (.isub, 1) := by decide +kernel
theorem dJ6_bitCount_0f7a4_9 : decode cJ6_bitCount_0f7a4 9 = .ok (.istore_n 0, 1) := by decide +kernel
theorem dJ6_bitCount_0f7a4_10 : decode cJ6_bitCount_0f7a4 10 = .ok (.iload_n 0, 1) := by decide +kernel
theorem dJ6_bitCount_0f7a4_11 : decode cJ6_bitCount_0f7a4 11 = .ok (.ldc_w 266, 3) := by decide +kernel
theorem dJ6_bitCount_0f7a4_14 : decode cJ6_bitCount_0f7a4 14 = .ok (.iand, 1) := by decide +kernel
theorem dJ6_bitCount_0f7a4_15 : decode cJ6_bitCount_0f7a4 15 = .ok (.iload_n 0, 1) := by decide +kernel
theorem dJ6_bitCount_0f7a4_16 : decode cJ6_bitCount_0f7a4 16 = .ok (.iconst 2, 1) := by decide +kernel
theorem dJ6_bitCount_0f7a4_17 : decode cJ6_bitCount_0f7a4 17 = .ok (.iushr, 1) := by decide +kernel
theorem dJ6_bitCount_0f7a4_18 : decode cJ6_bitCount_0f7a4 18 = .ok (.ldc_w 266, 3) := by decide +kernel
theorem dJ6_bitCount_0f7a4_21 : decode cJ6_bitCount_0f7a4 21 = .ok (.iand, 1) := by decide +kernel
theorem dJ6_bitCount_0f7a4_22 : decode cJ6_bitCount_0f7a4 22 = .ok (.iadd, 1) := by decide +kernel
theorem dJ6_bitCount_0f7a4_23 : decode cJ6_bitCount_0f7a4 23 = .ok (.istore_n 0, 1) := by decide +kernel
theorem dJ6_bitCount_0f7a4_24 : decode cJ6_bitCount_0f7a4 24 = .ok (.iload_n 0, 1) := by decide +kernel
theorem dJ6_bitCount_0f7a4_25 : decode cJ6_bitCount_0f7a4 25 = .ok (.iload_n 0, 1) := by decide +kernel
theorem dJ6_bitCount_0f7a4_26 : decode cJ6_bitCount_0f7a4 26 = .ok (.iconst 4, 1) := by decide +kernel
theorem dJ6_bitCount_0f7a4_27 : decode cJ6_bitCount_0f7a4 27 = .ok (.iushr, 1) := by decide +kernel
theorem dJ6_bitCount_0f7a4_28 : decode cJ6_bitCount_0f7a4 28 = .ok (.iadd, 1) := by decide +kernel
theorem dJ6_bitCount_0f7a4_29 : decode cJ6_bitCount_0f7a4 29 = .ok (.ldc_w 267, 3) := by decide +kernel
theorem dJ6_bitCount_0f7a4_32 : decode cJ6_bitCount_0f7a4 32 = .ok (.iand, 1) := by decide +kernel
theorem dJ6_bitCount_0f7a4_33 : decode cJ6_bitCount_0f7a4 33 = .ok (.istore_n 0, 1) := by decide +kernel
theorem dJ6_bitCount_0f7a4_34 : decode cJ6_bitCount_0f7a4 34 = .ok (.iload_n 0, 1) := by decide +kernel
theorem dJ6_bitCount_0f7a4_35 : decode cJ6_bitCount_0f7a4 35 = .ok (.iload_n 0, 1) := by decide +kernel
theorem dJ6_bitCount_0f7a4_36 : decode cJ6_bitCount_0f7a4 36 = .ok (.bipush 8, 2) := by decide +kernel
theorem dJ6_bitCount_0f7a4_38 : decode cJ6_bitCount_0f7a4 38 = .ok (.iushr, 1) := by decide +kernel
theorem dJ6_bitCount_0f7a4_39 : decode cJ6_bitCount_0f7a4 39 = .ok (.iadd, 1) := by decide +kernel
theorem dJ6_bitCount_0f7a4_40 : decode cJ6_bitCount_0f7a4 40 = .ok (.istore_n 0, 1) := by decide +kernel
theorem dJ6_bitCount_0f7a4_41 : decode cJ6_bitCount_0f7a4 41 = .ok (.iload_n 0, 1) := by decide +kernel
theorem dJ6_bitCount_0f7a4_42 : decode cJ6_bitCount_0f7a4 42 = .ok (.iload_n 0, 1) := by decide +kernel
theorem dJ6_bitCount_0f7a4_43 : decode cJ6_bitCount_0f7a4 43 = .ok (.bipush 16, 2) := by decide +kernel
theorem dJ6_bitCount_0f7a4_45 : decode cJ6_bitCount_0f7a4 45 = .ok (.iushr, 1) := by decide +kernel
theorem dJ6_bitCount_0f7a4_46 : decode cJ6_bitCount_0f7a4 46 = .ok (.iadd, 1) := by decide +kernel
theorem dJ6_bitCount_0f7a4_47 : decode cJ6_bitCount_0f7a4 47 = .ok (.istore_n 0, 1) := by decide +kernel
theorem dJ6_bitCount_0f7a4_48 : decode cJ6_bitCount_0f7a4 48 = .ok (.iload_n 0, 1) := by decide +kernel
theorem dJ6_bitCount_0f7a4_49 : decode cJ6_bitCount_0f7a4 49 = .ok (.bipush 63, 2) := by decide +kernel
theorem dJ6_bitCount_0f7a4_51 : decode cJ6_bitCount_0f7a4 51 = .ok (.iand, 1) := by decide +kernel
theorem dJ6_bitCount_0f7a4_52 : decode cJ6_bitCount_0f7a4 52 = .ok (.ireturn, 1) := by decide +kernel
theorem dJ13_bitCount_95d88_0 : decode cJ13_bitCount_95d88 0 = .ok (.lload_n 0, 1) := by decide +kernel
theorem dJ13_bitCount_95d88_1 : decode cJ13_bitCount_95d88 1 = .ok (.lload_n 0, 1) := by decide +kernel
theorem dJ13_bitCount_95d88_2 : decode cJ13_bitCount_95d88 2 = .ok (.iconst 1, 1) := by decide +kernel
theorem dJ13_bitCount_95d88_3 : decode cJ13_bitCount_95d88 3 = .ok (.lushr, 1) := by decide +kernel
theorem dJ13_bitCount_95d88_4 : decode cJ13_bitCount_95d88 4 = .ok (.ldc2_w 314, 3) := by decide +kernel
theorem dJ13_bitCount_95d88_7 : decode cJ13_bitCount_95d88 7 = .ok (.land, 1) := by decide +kernel
theorem dJ13_bitCount_95d88_8 : decode cJ13_bitCount_95d88 8 = .ok (.lsub, 1) := by decide +kernel
theorem dJ13_bitCount_95d88_9 : decode cJ13_bitCount_95d88 9 = .ok (.lstore_n 0, 1) := by decide +kernel
theorem dJ13_bitCount_95d88_10 : decode cJ13_bitCount_95d88 10 = .ok (.lload_n 0, 1) := by decide +kernel
theorem dJ13_bitCount_95d88_11 : decode cJ13_bitCount_95d88 11 = .ok (.ldc2_w 316, 3) := by decide +kernel
theorem dJ13_bitCount_95d88_14 : decode cJ13_bitCount_95d88 14 = .ok (.land, 1) := by decide +kernel
theorem dJ13_bitCount_95d88_15 : decode cJ13_bitCount_95d88 15 = .ok (.lload_n 0, 1) := by decide +kernel
theorem dJ13_bitCount_95d88_16 : decode cJ13_bitCount_95d88 16 = .ok (.iconst 2, 1) := by decide +kernel
theorem dJ13_bitCount_95d88_17 : decode cJ13_bitCount_95d88 17 = .ok (.lushr, 1) := by decide +kernel
theorem dJ13_bitCount_95d88_18 : decode cJ13_bitCount_95d88 18 = .ok (.ldc2_w 316, 3) := by decide +kernel
theorem dJ13_bitCount_95d88_21 : decode cJ13_bitCount_95d88 21 = .ok (.land, 1) := by decide +kernel
theorem dJ13_bitCount_95d88_22 : decode cJ13_bitCount_95d88 22 = .ok (.ladd, 1) := by decide +kernel
theorem dJ13_bitCount_95d88_23 : decode cJ13_bitCount_95d88 23 = .ok (.lstore_n 0, 1) := by decide +kernel
theorem dJ13_bitCount_95d88_24 : decode cJ13_bitCount_95d88 24 = .ok (.lload_n 0, 1) := by decide +kernel
theorem dJ13_bitCount_95d88_25 : decode cJ13_bitCount_95d88 25 = .ok (.lload_n 0, 1) := by decide +kernel
theorem dJ13_bitCount_95d88_26 : decode cJ13_bitCount_95d88 26 = .ok (.iconst 4, 1) := by decide +kernel
theorem dJ13_bitCount_95d88_27 : decode cJ13_bitCount_95d88 27 = .ok (.lushr, 1) := by decide +kernel
theorem dJ13_bitCount_95d88_28 : decode cJ13_bitCount_95d88 28 = .ok (.ladd, 1) := by decide +kernel
theorem dJ13_bitCount_95d88_29 : decode cJ13_bitCount_95d88 29 = .ok (.ldc2_w 318, 3) := by decide +kernel
theorem dJ13_bitCount_95d88_32 : decode cJ13_bitCount_95d88 32 = .ok (.land, 1) := by decide +kernel
theorem dJ13_bitCount_95d88_33 : decode cJ13_bitCount_95d88 33 = .ok (.lstore_n 0, 1) := by decide +kernel
theorem dJ13_bitCount_95d88_34 : decode cJ13_bitCount_95d88 34 = .ok (.lload_n 0, 1) := by decide +kernel
theorem dJ13_bitCount_95d88_35 : decode cJ13_bitCount_95d88 35 = .ok (.lload_n 0, 1) := by decide +kernel
theorem dJ13_bitCount_95d88_36 : decode cJ13_bitCount_95d88 36 = .ok (.bipush 8, 2) := by decide +kernel
theorem dJ13_bitCount_95d88_38 : decode cJ13_bitCount_95d88 38 = .ok (.lushr, 1) := by decide +kernel
theorem dJ13_bitCount_95d88_39 : decode cJ13_bitCount_95d88 39 = .ok (.ladd, 1) := by decide +kernel
theorem dJ13_bitCount_95d88_40 : decode cJ13_bitCount_95d88 40 = .ok (.lstore_n 0, 1) := by decide +kernel
theorem dJ13_bitCount_95d88_41 : decode cJ13_bitCount_95d88 41 = .ok (.lload_n 0, 1) := by decide +kernel
theorem dJ13_bitCount_95d88_42 : decode cJ13_bitCount_95d88 42 = .ok (.lload_n 0, 1) := by decide +kernel
theorem dJ13_bitCount_95d88_43 : decode cJ13_bitCount_95d88 43 = .ok (.bipush 16, 2) := by decide +kernel
theorem dJ13_bitCount_95d88_45 : decode cJ13_bitCount_95d88 45 = .ok (.lushr, 1) := by decide +kernel
theorem dJ13_bitCount_95d88_46 : decode cJ13_bitCount_95d88 46 = .ok (.ladd, 1) := by decide +kernel
theorem dJ13_bitCount_95d88_47 : decode cJ13_bitCount_95d88 47 = .ok (.lstore_n 0, 1) := by decide +kernel
theorem dJ13_bitCount_95d88_48 : decode cJ13_bitCount_95d88 48 = .ok (.lload_n 0, 1) := by decide +kernel
theorem dJ13_bitCount_95d88_49 : decode cJ13_bitCount_95d88 49 = .ok (.lload_n 0, 1) := by decide +kernel
theorem dJ13_bitCount_95d88_50 : decode cJ13_bitCount_95d88 50 = .ok (.bipush 32, 2) := by decide +kernel
theorem dJ13_bitCount_95d88_52 : decode cJ13_bitCount_95d88 52 = .ok (.lushr, 1) := by decide +kernel
theorem dJ13_bitCount_95d88_53 : decode cJ13_bitCount_95d88 53 = .ok (.ladd, 1) := by decide +kernel
theorem dJ13_bitCount_95d88_54 : decode cJ13_bitCount_95d88 54 = .ok (.lstore_n 0, 1) := by decide +kernel
theorem dJ13_bitCount_95d88_55 : decode cJ13_bitCount_95d88 55 = .ok (.lload_n 0, 1) := by decide +kernel
theorem dJ13_bitCount_95d88_56 : decode cJ13_bitCount_95d88 56 = .ok (.l2i, 1) := by decide +kernel
theorem dJ13_bitCount_95d88_57 : decode cJ13_bitCount_95d88 57 = .ok (.bipush 127, 2) := by decide +kernel
theorem dJ13_bitCount_95d88_59 : decode cJ13_bitCount_95d88 59 = .ok (.iand, 1) := by decide +kernel
theorem dJ13_bitCount_95d88_60 : decode cJ13_bitCount_95d88 60 = .ok (.ireturn, 1) := by decide +kernel
theorem dJ9_max_7cf53_0 : decode cJ9_max_7cf53 0 = .ok (.iload_n 0, 1) := by decide +kernel
theorem dJ9_max_7cf53_1 : decode cJ9_max_7cf53 1 = .ok (.iload_n 1, 1) := by decide +kernel
theorem dJ9_max_7cf53_2 : decode cJ9_max_7cf53 2 = .ok (.if_icmp .lt 7, 3) := by decide +kernel
theorem dJ9_max_7cf53_5 : decode cJ9_max_7cf53 5 = .ok (.iload_n 0, 1) := by decide +kernel
theorem dJ9_max_7cf53_6 : decode cJ9_max_7cf53 6 = .ok (.goto 4, 3) := by decide +kernel
theorem dJ9_max_7cf53_9 : decode cJ9_max_7cf53 9 = .ok (.iload_n 1, 1) := by decide +kernel
theorem dJ9_max_7cf53_10 : decode cJ9_max_7cf53 10 = .ok (.ireturn, 1) := by decide +kernel
theorem dJ9_min_7cf53_0 : decode cJ9_min_7cf53 0 = .ok (.iload_n 0, 1) := by decide +kernel
theorem dJ9_min_7cf53_1 : decode cJ9_min_7cf53 1 = .ok (.iload_n 1, 1) := by decide +kernel
theorem dJ9_min_7cf53_2 : decode cJ9_min_7cf53 2 = .ok (.if_icmp .gt 7, 3) := by decide +kernel
theorem dJ9_min_7cf53_5 : decode cJ9_min_7cf53 5 = .ok (.iload_n 0, 1) := by decide +kernel
theorem dJ9_min_7cf53_6 : decode cJ9_min_7cf53 6 = .ok (.goto 4, 3) := by decide +kernel
theorem dJ9_min_7cf53_9 : decode cJ9_min_7cf53 9 = .ok (.iload_n 1, 1) := by decide +kernel
theorem dJ9_min_7cf53_10 : decode cJ9_min_7cf53 10 = .ok (.ireturn, 1) := by decide +kernel
theorem dJ7_fill_d0a16_0 : decode cJ7_fill_d0a16 0 = .ok (.iconst 0, 1) := by decide +kernel
theorem dJ7_fill_d0a16_1 : decode cJ7_fill_d0a16 1 = .ok (.istore_n 3, 1) := by decide +kernel
theorem dJ7_fill_d0a16_2 : decode cJ7_fill_d0a16 2 = .ok (.aload_n 0, 1) := by decide +kernel
theorem dJ7_fill_d0a16_3 : decode cJ7_fill_d0a16 3 = .ok (.arraylength, 1) := by decide +kernel
theorem dJ7_fill_d0a16_4 : decode cJ7_fill_d0a16 4 = .ok (.istore 4, 2) := by decide +kernel
theorem dJ7_fill_d0a16_6 : decode cJ7_fill_d0a16 6 = .ok (.iload_n 3, 1) := by decide +kernel
theorem dJ7_fill_d0a16_7 : decode cJ7_fill_d0a16 7 = .ok (.iload 4, 2) := by decide +kernel
theorem dJ7_fill_d0a16_9 : decode cJ7_fill_d0a16 9 = .ok (.if_icmp .ge 13, 3) := by decide +kernel
theorem dJ7_fill_d0a16_12 : decode cJ7_fill_d0a16 12 = .ok (.aload_n 0, 1) := by decide +kernel
theorem dJ7_fill_d0a16_13 : decode cJ7_fill_d0a16 13 = .ok (.iload_n 3, 1) := by decide +kernel
theorem dJ7_fill_d0a16_14 : decode cJ7_fill_d0a16 14 = .ok (.lload_n 1, 1) := by decide +kernel
theorem dJ7_fill_d0a16_15 : decode cJ7_fill_d0a16 15 = .ok (.lastore, 1) := by decide +kernel
theorem dJ7_fill_d0a16_16 : decode cJ7_fill_d0a16 16 = .ok (.iinc 3 1, 3) := by decide +kernel
theorem dJ7_fill_d0a16_19 : decode cJ7_fill_d0a16 19 = .ok (.goto (-13), 3) := by decide +kernel
theorem dJ7_fill_d0a16_22 : decode cJ7_fill_d0a16 22 = .ok (.return_, 1) := by decide +kernel
theorem dJ7_fill_53178_0 : decode cJ7_fill_53178 0 = .ok (.iconst 0, 1) := by decide +kernel
theorem dJ7_fill_53178_1 : decode cJ7_fill_53178 1 = .ok (.istore_n 2, 1) := by decide +kernel
theorem dJ7_fill_53178_2 : decode cJ7_fill_53178 2 = .ok (.aload_n 0, 1) := by decide +kernel
theorem dJ7_fill_53178_3 : decode cJ7_fill_53178 3 = .ok (.arraylength, 1) := by decide +kernel
theorem dJ7_fill_53178_4 : decode cJ7_fill_53178 4 = .ok (.istore_n 3, 1) := by decide +kernel
theorem dJ7_fill_53178_5 : decode cJ7_fill_53178 5 = .ok (.iload_n 2, 1) := by decide +kernel
theorem dJ7_fill_53178_6 : decode cJ7_fill_53178 6 = .ok (.iload_n 3, 1) := by decide +kernel
theorem dJ7_fill_53178_7 : decode cJ7_fill_53178 7 = .ok (.if_icmp .ge 13, 3) := by decide +kernel
theorem dJ7_fill_53178_10 : decode cJ7_fill_53178 10 = .ok (.aload_n 0, 1) := by decide +kernel
theorem dJ7_fill_53178_11 : decode cJ7_fill_53178 11 = .ok (.iload_n 2, 1) := by decide +kernel
theorem dJ7_fill_53178_12 : decode cJ7_fill_53178 12 = .ok (.iload_n 1, 1) := by decide +kernel
theorem dJ7_fill_53178_13 : decode cJ7_fill_53178 13 = .ok (.iastore, 1) := by decide +kernel
theorem dJ7_fill_53178_14 : decode cJ7_fill_53178 14 = .ok (.iinc 2 1, 3) := by decide +kernel
theorem dJ7_fill_53178_17 : decode cJ7_fill_53178 17 = .ok (.goto (-12), 3) := by decide +kernel
theorem dJ7_fill_53178_20 : decode cJ7_fill_53178 20 = .ok (.return_, 1) := by decide +kernel
