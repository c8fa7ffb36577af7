theorem dX12_init_0 : decode cX12_init 0 = .ok (.aload_n 0, 1) := by decide +kernel
theorem dX12_init_1 : decode cX12_init 1 = .ok (.invokespecial 1, 3) := by decide +kernel
theorem dX12_init_4 : decode cX12_init 4 = .ok (.aload_n 0, 1) := by decide +kernel
theorem dX12_init_5 : decode cX12_init 5 = .ok (.sipush 400, 3) := by decide +kernel
theorem dX12_init_8 : decode cX12_init 8 = .ok (.newarray .int, 2) := by decide +kernel
theorem dX12_init_10 : decode cX12_init 10 = .ok (.putfield 7, 3) := by decide +kernel
theorem dX12_init_13 : decode cX12_init 13 = .ok (.aload_n 0, 1) := by decide +kernel
theorem dX12_init_14 : decode cX12_init 14 = .ok (.iconst 2, 1) := by decide +kernel
theorem dX12_init_15 : decode cX12_init 15 = .ok (.newarray .int, 2) := by decide +kernel
theorem dX12_init_17 : decode cX12_init 17 = .ok (.putfield 13, 3) := by decide +kernel
theorem dX12_init_20 : decode cX12_init 20 = .ok (.aload_n 0, 1) := by decide +kernel
theorem dX12_init_21 : decode cX12_init 21 = .ok (.sipush 128, 3) := by decide +kernel
theorem dX12_init_24 : decode cX12_init 24 = .ok (.newarray .int, 2) := by decide +kernel
theorem dX12_init_26 : decode cX12_init 26 = .ok (.putfield 16, 3) := by decide +kernel
theorem dX12_init_29 : decode cX12_init 29 = .ok (.aload_n 0, 1) := by decide +kernel
theorem dX12_init_30 : decode cX12_init 30 = .ok (.iconst 2, 1) := by decide +kernel
theorem dX12_init_31 : decode cX12_init 31 = .ok (.newarray .int, 2) := by decide +kernel
theorem dX12_init_33 : decode cX12_init 33 = .ok (.putfield 19, 3) := by decide +kernel
theorem dX12_init_36 : decode cX12_init 36 = .ok (.aload_n 0, 1) := by decide +kernel
theorem dX12_init_37 : decode cX12_init 37 = .ok (.sipush 240, 3) := by decide +kernel
theorem dX12_init_40 : decode cX12_init 40 = .ok (.newarray .int, 2) := by decide +kernel
theorem dX12_init_42 : decode cX12_init 42 = .ok (.putfield 22, 3) := by decide +kernel
theorem dX12_init_45 : decode cX12_init 45 = .ok (.aload_n 0, 1) := by decide +kernel
theorem dX12_init_46 : decode cX12_init 46 = .ok (.bipush 10, 2) := by decide +kernel
theorem dX12_init_48 : decode cX12_init 48 = .ok (.newarray .int, 2) := by decide +kernel
theorem dX12_init_50 : decode cX12_init 50 = .ok (.putfield 25, 3) := by decide +kernel
theorem dX12_init_53 : decode cX12_init 53 = .ok (.aload_n 0, 1) := by decide +kernel
theorem dX12_init_54 : decode cX12_init 54 = .ok (.bipush 10, 2) := by decide +kernel
theorem dX12_init_56 : decode cX12_init 56 = .ok (.newarray .int, 2) := by decide +kernel
theorem dX12_init_58 : decode cX12_init 58 = .ok (.putfield 28, 3) := by decide +kernel
theorem dX12_init_61 : decode cX12_init 61 = .ok (.aload_n 0, 1) := by decide +kernel
theorem dX12_init_62 : decode cX12_init 62 = .ok (.bipush 100, 2) := by decide +kernel
theorem dX12_init_64 : decode cX12_init 64 = .ok (.newarray .int, 2) := by decide +kernel
theorem dX12_init_66 : decode cX12_init 66 = .ok (.putfield 31, 3) := by decide +kernel
theorem dX12_init_69 : decode cX12_init 69 = .ok (.aload_n 0, 1) := by decide +kernel
theorem dX12_init_70 : decode cX12_init 70 = .ok (.bipush 10, 2) := by decide +kernel
theorem dX12_init_72 : decode cX12_init 72 = .ok (.newarray .int, 2) := by decide +kernel
theorem dX12_init_74 : decode cX12_init 74 = .ok (.putfield 34, 3) := by decide +kernel
theorem dX12_init_77 : decode cX12_init 77 = .ok (.aload_n 0, 1) := by decide +kernel
theorem dX12_init_78 : decode cX12_init 78 = .ok (.bipush 24, 2) := by decide +kernel
theorem dX12_init_80 : decode cX12_init 80 = .ok (.newarray .int, 2) := by decide +kernel
theorem dX12_init_82 : decode cX12_init 82 = .ok (.putfield 37, 3) := by decide +kernel
theorem dX12_init_85 : decode cX12_init 85 = .ok (.aload_n 0, 1) := by decide +kernel
theorem dX12_init_86 : decode cX12_init 86 = .ok (.sipush 192, 3) := by decide +kernel
theorem dX12_init_89 : decode cX12_init 89 = .ok (.newarray .int, 2) := by decide +kernel
theorem dX12_init_91 : decode cX12_init 91 = .ok (.putfield 40, 3) := by decide +kernel
theorem dX12_init_94 : decode cX12_init 94 = .ok (.aload_n 0, 1) := by decide +kernel
theorem dX12_init_95 : decode cX12_init 95 = .ok (.bipush 60, 2) := by decide +kernel
theorem dX12_init_97 : decode cX12_init 97 = .ok (.newarray .int, 2) := by decide +kernel
theorem dX12_init_99 : decode cX12_init 99 = .ok (.putfield 43, 3) := by decide +kernel
theorem dX12_init_102 : decode cX12_init 102 = .ok (.aload_n 0, 1) := by decide +kernel
theorem dX12_init_103 : decode cX12_init 103 = .ok (.iconst 5, 1) := by decide +kernel
theorem dX12_init_104 : decode cX12_init 104 = .ok (.newarray .int, 2) := by decide +kernel
theorem dX12_init_106 : decode cX12_init 106 = .ok (.putfield 46, 3) := by decide +kernel
theorem dX12_init_109 : decode cX12_init 109 = .ok (.aload_n 0, 1) := by decide +kernel
theorem dX12_init_110 : decode cX12_init 110 = .ok (.bipush 72, 2) := by decide +kernel
theorem dX12_init_112 : decode cX12_init 112 = .ok (.newarray .long, 2) := by decide +kernel
theorem dX12_init_114 : decode cX12_init 114 = .ok (.putfield 49, 3) := by decide +kernel
theorem dX12_init_117 : decode cX12_init 117 = .ok (.aload_n 0, 1) := by decide +kernel
theorem dX12_init_118 : decode cX12_init 118 = .ok (.sipush 2880, 3) := by decide +kernel
theorem dX12_init_121 : decode cX12_init 121 = .ok (.newarray .long, 2) := by decide +kernel
theorem dX12_init_123 : decode cX12_init 123 = .ok (.putfield 53, 3) := by decide +kernel
theorem dX12_init_126 : decode cX12_init 126 = .ok (.aload_n 0, 1) := by decide +kernel
theorem dX12_init_127 : decode cX12_init 127 = .ok (.sipush 4050, 3) := by decide +kernel
theorem dX12_init_130 : decode cX12_init 130 = .ok (.newarray .int, 2) := by decide +kernel
theorem dX12_init_132 : decode cX12_init 132 = .ok (.putfield 56, 3) := by decide +kernel
theorem dX12_init_135 : decode cX12_init 135 = .ok (.aload_n 0, 1) := by decide +kernel
theorem dX12_init_136 : decode cX12_init 136 = .ok (.iconst 5, 1) := by decide +kernel
theorem dX12_init_137 : decode cX12_init 137 = .ok (.newarray .int, 2) := by decide +kernel
theorem dX12_init_139 : decode cX12_init 139 = .ok (.putfield 59, 3) := by decide +kernel
theorem dX12_init_142 : decode cX12_init 142 = .ok (.aload_n 0, 1) := by decide +kernel
theorem dX12_init_143 : decode cX12_init 143 = .ok (.bipush 40, 2) := by decide +kernel
theorem dX12_init_145 : decode cX12_init 145 = .ok (.newarray .int, 2) := by decide +kernel
theorem dX12_init_147 : decode cX12_init 147 = .ok (.putfield 62, 3) := by decide +kernel
theorem dX12_init_150 : decode cX12_init 150 = .ok (.aload_n 0, 1) := by decide +kernel
theorem dX12_init_151 : decode cX12_init 151 = .ok (.bipush 40, 2) := by decide +kernel
theorem dX12_init_153 : decode cX12_init 153 = .ok (.newarray .int, 2) := by decide +kernel
theorem dX12_init_155 : decode cX12_init 155 = .ok (.putfield 65, 3) := by decide +kernel
theorem dX12_init_158 : decode cX12_init 158 = .ok (.aload_n 0, 1) := by decide +kernel
theorem dX12_init_159 : decode cX12_init 159 = .ok (.sipush 320, 3) := by decide +kernel
theorem dX12_init_162 : decode cX12_init 162 = .ok (.newarray .int, 2) := by decide +kernel
theorem dX12_init_164 : decode cX12_init 164 = .ok (.putfield 68, 3) := by decide +kernel
theorem dX12_init_167 : decode cX12_init 167 = .ok (.aload_n 0, 1) := by decide +kernel
theorem dX12_init_168 : decode cX12_init 168 = .ok (.bipush 40, 2) := by decide +kernel
theorem dX12_init_170 : decode cX12_init 170 = .ok (.newarray .int, 2) := by decide +kernel
theorem dX12_init_172 : decode cX12_init 172 = .ok (.putfield 71, 3) := by decide +kernel
theorem dX12_init_175 : decode cX12_init 175 = .ok (.aload_n 0, 1) := by decide +kernel
theorem dX12_init_176 : decode cX12_init 176 = .ok (.iconst 0, 1) := by decide +kernel
theorem dX12_init_177 : decode cX12_init 177 = .ok (.invokevirtual 74, 3) := by decide +kernel
theorem dX12_init_180 : decode cX12_init 180 = .ok (.return_, 1) := by decide +kernel
theorem dX12_in_0 : decode cX12_in 0 = .ok (.lload_n 0, 1) := by decide +kernel
theorem dX12_in_1 : decode cX12_in 1 = .ok (.lload_n 2, 1) := by decide +kernel
theorem dX12_in_2 : decode cX12_in 2 = .ok (.lcmp, 1) := by decide +kernel
theorem dX12_in_3 : decode cX12_in 3 = .ok (.ifCond .lt 14, 3) := by decide +kernel
theorem dX12_in_6 : decode cX12_in 6 = .ok (.lload_n 0, 1) := by decide +kernel
theorem dX12_in_7 : decode cX12_in 7 = .ok (.lload 4, 2) := by decide +kernel
theorem dX12_in_9 : decode cX12_in 9 = .ok (.lcmp, 1) := by decide +kernel
theorem dX12_in_10 : decode cX12_in 10 = .ok (.ifCond .gt 7, 3) := by decide +kernel
theorem dX12_in_13 : decode cX12_in 13 = .ok (.iconst 1, 1) := by decide +kernel
theorem dX12_in_14 : decode cX12_in 14 = .ok (.goto 4, 3) := by decide +kernel
theorem dX12_in_17 : decode cX12_in 17 = .ok (.iconst 0, 1) := by decide +kernel
theorem dX12_in_18 : decode cX12_in 18 = .ok (.ireturn, 1) := by decide +kernel
theorem dX12_has_0 : decode cX12_has 0 = .ok (.iload_n 0, 1) := by decide +kernel
theorem dX12_has_1 : decode cX12_has 1 = .ok (.iload_n 1, 1) := by decide +kernel
theorem dX12_has_2 : decode cX12_has 2 = .ok (.ishr, 1) := by decide +kernel
theorem dX12_has_3 : decode cX12_has 3 = .ok (.iconst 1, 1) := by decide +kernel
theorem dX12_has_4 : decode cX12_has 4 = .ok (.iand, 1) := by decide +kernel
theorem dX12_has_5 : decode cX12_has 5 = .ok (.iconst 1, 1) := by decide +kernel
theorem dX12_has_6 : decode cX12_has 6 = .ok (.if_icmp .ne 7, 3) := by decide +kernel
theorem dX12_has_9 : decode cX12_has 9 = .ok (.iconst 1, 1) := by decide +kernel
theorem dX12_has_10 : decode cX12_has 10 = .ok (.goto 4, 3) := by decide +kernel
theorem dX12_has_13 : decode cX12_has 13 = .ok (.iconst 0, 1) := by decide +kernel
theorem dX12_has_14 : decode cX12_has 14 = .ok (.ireturn, 1) := by decide +kernel
theorem dX12_noPrices_0 : decode cX12_noPrices 0 = .ok (.aload_n 0, 1) := by decide +kernel
theorem dX12_noPrices_1 : decode cX12_noPrices 1 = .ok (.getfield 25, 3) := by decide +kernel
theorem dX12_noPrices_4 : decode cX12_noPrices 4 = .ok (.iconst 5, 1) := by decide +kernel
theorem dX12_noPrices_5 : decode cX12_noPrices 5 = .ok (.iload_n 1, 1) := by decide +kernel
theorem dX12_noPrices_6 : decode cX12_noPrices 6 = .ok (.imul, 1) := by decide +kernel
theorem dX12_noPrices_7 : decode cX12_noPrices 7 = .ok (.iconst 3, 1) := by decide +kernel
theorem dX12_noPrices_8 : decode cX12_noPrices 8 = .ok (.iastore, 1) := by decide +kernel
theorem dX12_noPrices_9 : decode cX12_noPrices 9 = .ok (.aload_n 0, 1) := by decide +kernel
theorem dX12_noPrices_10 : decode cX12_noPrices 10 = .ok (.getfield 25, 3) := by decide +kernel
theorem dX12_noPrices_13 : decode cX12_noPrices 13 = .ok (.iconst 5, 1) := by decide +kernel
theorem dX12_noPrices_14 : decode cX12_noPrices 14 = .ok (.iload_n 1, 1) := by decide +kernel
theorem dX12_noPrices_15 : decode cX12_noPrices 15 = .ok (.imul, 1) := by decide +kernel
theorem dX12_noPrices_16 : decode cX12_noPrices 16 = .ok (.iconst 1, 1) := by decide +kernel
theorem dX12_noPrices_17 : decode cX12_noPrices 17 = .ok (.iadd, 1) := by decide +kernel
theorem dX12_noPrices_18 : decode cX12_noPrices 18 = .ok (.iconst 4, 1) := by decide +kernel
theorem dX12_noPrices_19 : decode cX12_noPrices 19 = .ok (.iastore, 1) := by decide +kernel
theorem dX12_noPrices_20 : decode cX12_noPrices 20 = .ok (.aload_n 0, 1) := by decide +kernel
theorem dX12_noPrices_21 : decode cX12_noPrices 21 = .ok (.getfield 25, 3) := by decide +kernel
theorem dX12_noPrices_24 : decode cX12_noPrices 24 = .ok (.iconst 5, 1) := by decide +kernel
theorem dX12_noPrices_25 : decode cX12_noPrices 25 = .ok (.iload_n 1, 1) := by decide +kernel
theorem dX12_noPrices_26 : decode cX12_noPrices 26 = .ok (.imul, 1) := by decide +kernel
theorem dX12_noPrices_27 : decode cX12_noPrices 27 = .ok (.iconst 2, 1) := by decide +kernel
theorem dX12_noPrices_28 : decode cX12_noPrices 28 = .ok (.iadd, 1) := by decide +kernel
theorem dX12_noPrices_29 : decode cX12_noPrices 29 = .ok (.bipush 6, 2) := by decide +kernel
theorem dX12_noPrices_31 : decode cX12_noPrices 31 = .ok (.iastore, 1) := by decide +kernel
theorem dX12_noPrices_32 : decode cX12_noPrices 32 = .ok (.aload_n 0, 1) := by decide +kernel
theorem dX12_noPrices_33 : decode cX12_noPrices 33 = .ok (.getfield 25, 3) := by decide +kernel
theorem dX12_noPrices_36 : decode cX12_noPrices 36 = .ok (.iconst 5, 1) := by decide +kernel
theorem dX12_noPrices_37 : decode cX12_noPrices 37 = .ok (.iload_n 1, 1) := by decide +kernel
theorem dX12_noPrices_38 : decode cX12_noPrices 38 = .ok (.imul, 1) := by decide +kernel
theorem dX12_noPrices_39 : decode cX12_noPrices 39 = .ok (.iconst 3, 1) := by decide +kernel
theorem dX12_noPrices_40 : decode cX12_noPrices 40 = .ok (.iadd, 1) := by decide +kernel
theorem dX12_noPrices_41 : decode cX12_noPrices 41 = .ok (.iconst 5, 1) := by decide +kernel
theorem dX12_noPrices_42 : decode cX12_noPrices 42 = .ok (.iastore, 1) := by decide +kernel
theorem dX12_noPrices_43 : decode cX12_noPrices 43 = .ok (.aload_n 0, 1) := by decide +kernel
theorem dX12_noPrices_44 : decode cX12_noPrices 44 = .ok (.getfield 25, 3) := by decide +kernel
theorem dX12_noPrices_47 : decode cX12_noPrices 47 = .ok (.iconst 5, 1) := by decide +kernel
theorem dX12_noPrices_48 : decode cX12_noPrices 48 = .ok (.iload_n 1, 1) := by decide +kernel
theorem dX12_noPrices_49 : decode cX12_noPrices 49 = .ok (.imul, 1) := by decide +kernel
theorem dX12_noPrices_50 : decode cX12_noPrices 50 = .ok (.iconst 4, 1) := by decide +kernel
theorem dX12_noPrices_51 : decode cX12_noPrices 51 = .ok (.iadd, 1) := by decide +kernel
theorem dX12_noPrices_52 : decode cX12_noPrices 52 = .ok (.iconst 5, 1) := by decide +kernel
theorem dX12_noPrices_53 : decode cX12_noPrices 53 = .ok (.iastore, 1) := by decide +kernel
theorem dX12_noPrices_54 : decode cX12_noPrices 54 = .ok (.return_, 1) := by decide +kernel
theorem dX12_write_0 : decode cX12_write 0 = .ok (.iload_n 1, 1) := by decide +kernel
theorem dX12_write_1 : decode cX12_write 1 = .ok (.i2l, 1) := by decide +kernel
theorem dX12_write_2 : decode cX12_write 2 = .ok (.lconst 1, 1) := by decide +kernel
theorem dX12_write_3 : decode cX12_write 3 = .ok (.ldc2_w 78, 3) := by decide +kernel
theorem dX12_write_6 : decode cX12_write 6 = .ok (.invokestatic 80, 3) := by decide +kernel
theorem dX12_write_9 : decode cX12_write 9 = .ok (.ifCond .ne 5, 3) := by decide +kernel
theorem dX12_write_12 : decode cX12_write 12 = .ok (.iconst (-1), 1) := by decide +kernel
theorem dX12_write_13 : decode cX12_write 13 = .ok (.ireturn, 1) := by decide +kernel
theorem dX12_write_14 : decode cX12_write 14 = .ok (.aload_n 0, 1) := by decide +kernel
theorem dX12_write_15 : decode cX12_write 15 = .ok (.getfield 84, 3) := by decide +kernel
theorem dX12_write_18 : decode cX12_write 18 = .ok (.iload_n 1, 1) := by decide +kernel
theorem dX12_write_19 : decode cX12_write 19 = .ok (.iadd, 1) := by decide +kernel
theorem dX12_write_20 : decode cX12_write 20 = .ok (.sipush 400, 3) := by decide +kernel
theorem dX12_write_23 : decode cX12_write 23 = .ok (.if_icmp .le 6, 3) := by decide +kernel
theorem dX12_write_26 : decode cX12_write 26 = .ok (.bipush (-3), 2) := by decide +kernel
theorem dX12_write_28 : decode cX12_write 28 = .ok (.ireturn, 1) := by decide +kernel
theorem dX12_write_29 : decode cX12_write 29 = .ok (.iload_n 1, 1) := by decide +kernel
theorem dX12_write_30 : decode cX12_write 30 = .ok (.iconst 1, 1) := by decide +kernel
theorem dX12_write_31 : decode cX12_write 31 = .ok (.isub, 1) := by decide +kernel
theorem dX12_write_32 : decode cX12_write 32 = .ok (.istore 4, 2) := by decide +kernel
theorem dX12_write_34 : decode cX12_write 34 = .ok (.iload 4, 2) := by decide +kernel
theorem dX12_write_36 : decode cX12_write 36 = .ok (.ifCond .lt 40, 3) := by decide +kernel
theorem dX12_write_39 : decode cX12_write 39 = .ok (.aload_n 0, 1) := by decide +kernel
theorem dX12_write_40 : decode cX12_write 40 = .ok (.getfield 7, 3) := by decide +kernel
theorem dX12_write_43 : decode cX12_write 43 = .ok (.aload_n 0, 1) := by decide +kernel
theorem dX12_write_44 : decode cX12_write 44 = .ok (.getfield 84, 3) := by decide +kernel
theorem dX12_write_47 : decode cX12_write 47 = .ok (.lload_n 2, 1) := by decide +kernel
theorem dX12_write_48 : decode cX12_write 48 = .ok (.bipush 8, 2) := by decide +kernel
theorem dX12_write_50 : decode cX12_write 50 = .ok (.iload 4, 2) := by decide +kernel
theorem dX12_write_52 : decode cX12_write 52 = .ok (.imul, 1) := by decide +kernel
theorem dX12_write_53 : decode cX12_write 53 = .ok (.lshr, 1) := by decide +kernel
theorem dX12_write_54 : decode cX12_write 54 = .ok (.ldc2_w 88, 3) := by decide +kernel
theorem dX12_write_57 : decode cX12_write 57 = .ok (.land, 1) := by decide +kernel
theorem dX12_write_58 : decode cX12_write 58 = .ok (.l2i, 1) := by decide +kernel
theorem dX12_write_59 : decode cX12_write 59 = .ok (.iastore, 1) := by decide +kernel
theorem dX12_write_60 : decode cX12_write 60 = .ok (.aload_n 0, 1) := by decide +kernel
theorem dX12_write_61 : decode cX12_write 61 = .ok (.dup, 1) := by decide +kernel
theorem dX12_write_62 : decode cX12_write 62 = .ok (.getfield 84, 3) := by decide +kernel
theorem dX12_write_65 : decode cX12_write 65 = .ok (.iconst 1, 1) := by decide +kernel
theorem dX12_write_66 : decode cX12_write 66 = .ok (.iadd, 1) := by decide +kernel
theorem dX12_write_67 : decode cX12_write 67 = .ok (.putfield 84, 3) := by decide +kernel
theorem dX12_write_70 : decode cX12_write 70 = .ok (.iinc 4 (-1), 3) := by decide +kernel
theorem dX12_write_73 : decode cX12_write 73 = .ok (.goto (-39), 3) := by decide +kernel
theorem dX12_write_76 : decode cX12_write 76 = .ok (.aload_n 0, 1) := by decide +kernel
theorem dX12_write_77 : decode cX12_write 77 = .ok (.getfield 84, 3) := by decide +kernel
theorem dX12_write_80 : decode cX12_write 80 = .ok (.ireturn, 1) := by decide +kernel
theorem dX12_wipe_0 : decode cX12_wipe 0 = .ok (.aload_n 0, 1) := by decide +kernel
theorem dX12_wipe_1 : decode cX12_wipe 1 = .ok (.getfield 84, 3) := by decide +kernel
theorem dX12_wipe_4 : decode cX12_wipe 4 = .ok (.istore_n 1, 1) := by decide +kernel
theorem dX12_wipe_5 : decode cX12_wipe 5 = .ok (.aload_n 0, 1) := by decide +kernel
theorem dX12_wipe_6 : decode cX12_wipe 6 = .ok (.iconst 0, 1) := by decide +kernel
theorem dX12_wipe_7 : decode cX12_wipe 7 = .ok (.putfield 84, 3) := by decide +kernel
theorem dX12_wipe_10 : decode cX12_wipe 10 = .ok (.iload_n 1, 1) := by decide +kernel
theorem dX12_wipe_11 : decode cX12_wipe 11 = .ok (.ireturn, 1) := by decide +kernel
theorem dX12_figures_0 : decode cX12_figures 0 = .ok (.iconst 0, 1) := by decide +kernel
theorem dX12_figures_1 : decode cX12_figures 1 = .ok (.istore_n 2, 1) := by decide +kernel
theorem dX12_figures_2 : decode cX12_figures 2 = .ok (.iload_n 2, 1) := by decide +kernel
theorem dX12_figures_3 : decode cX12_figures 3 = .ok (.iload_n 1, 1) := by decide +kernel
theorem dX12_figures_4 : decode cX12_figures 4 = .ok (.if_icmp .ge 157, 3) := by decide +kernel
theorem dX12_figures_7 : decode cX12_figures 7 = .ok (.iconst 0, 1) := by decide +kernel
theorem dX12_figures_8 : decode cX12_figures 8 = .ok (.istore_n 3, 1) := by decide +kernel
theorem dX12_figures_9 : decode cX12_figures 9 = .ok (.iconst 0, 1) := by decide +kernel
theorem dX12_figures_10 : decode cX12_figures 10 = .ok (.istore 4, 2) := by decide +kernel
theorem dX12_figures_12 : decode cX12_figures 12 = .ok (.aload_n 0, 1) := by decide +kernel
theorem dX12_figures_13 : decode cX12_figures 13 = .ok (.getfield 90, 3) := by decide +kernel
theorem dX12_figures_16 : decode cX12_figures 16 = .ok (.aload_n 0, 1) := by decide +kernel
theorem dX12_figures_17 : decode cX12_figures 17 = .ok (.getfield 84, 3) := by decide +kernel
theorem dX12_figures_20 : decode cX12_figures 20 = .ok (.if_icmp .ge 66, 3) := by decide +kernel
theorem dX12_figures_23 : decode cX12_figures 23 = .ok (.aload_n 0, 1) := by decide +kernel
theorem dX12_figures_24 : decode cX12_figures 24 = .ok (.getfield 7, 3) := by decide +kernel
theorem dX12_figures_27 : decode cX12_figures 27 = .ok (.aload_n 0, 1) := by decide +kernel
theorem dX12_figures_28 : decode cX12_figures 28 = .ok (.getfield 90, 3) := by decide +kernel
theorem dX12_figures_31 : decode cX12_figures 31 = .ok (.iaload, 1) := by decide +kernel
theorem dX12_figures_32 : decode cX12_figures 32 = .ok (.i2l, 1) := by decide +kernel
theorem dX12_figures_33 : decode cX12_figures 33 = .ok (.ldc2_w 93, 3) := by decide +kernel
theorem dX12_figures_36 : decode cX12_figures 36 = .ok (.ldc2_w 95, 3) := by decide +kernel
theorem dX12_figures_39 : decode cX12_figures 39 = .ok (.invokestatic 80, 3) := by decide +kernel
theorem dX12_figures_42 : decode cX12_figures 42 = .ok (.ifCond .eq 44, 3) := by decide +kernel
theorem dX12_figures_45 : decode cX12_figures 45 = .ok (.iload_n 3, 1) := by decide +kernel
theorem dX12_figures_46 : decode cX12_figures 46 = .ok (.iconst 3, 1) := by decide +kernel
theorem dX12_figures_47 : decode cX12_figures 47 = .ok (.if_icmp .ge 39, 3) := by decide +kernel
theorem dX12_figures_50 : decode cX12_figures 50 = .ok (.bipush 10, 2) := by decide +kernel
theorem dX12_figures_52 : decode cX12_figures 52 = .ok (.iload 4, 2) := by decide +kernel
theorem dX12_figures_54 : decode cX12_figures 54 = .ok (.imul, 1) := by decide +kernel
theorem dX12_figures_55 : decode cX12_figures 55 = .ok (.aload_n 0, 1) := by decide +kernel
theorem dX12_figures_56 : decode cX12_figures 56 = .ok (.getfield 7, 3) := by decide +kernel
theorem dX12_figures_59 : decode cX12_figures 59 = .ok (.aload_n 0, 1) := by decide +kernel
theorem dX12_figures_60 : decode cX12_figures 60 = .ok (.getfield 90, 3) := by decide +kernel
theorem dX12_figures_63 : decode cX12_figures 63 = .ok (.iaload, 1) := by decide +kernel
theorem dX12_figures_64 : decode cX12_figures 64 = .ok (.iadd, 1) := by decide +kernel
theorem dX12_figures_65 : decode cX12_figures 65 = .ok (.bipush 48, 2) := by decide +kernel
theorem dX12_figures_67 : decode cX12_figures 67 = .ok (.isub, 1) := by decide +kernel
theorem dX12_figures_68 : decode cX12_figures 68 = .ok (.istore 4, 2) := by decide +kernel
theorem dX12_figures_70 : decode cX12_figures 70 = .ok (.iinc 3 1, 3) := by decide +kernel
theorem dX12_figures_73 : decode cX12_figures 73 = .ok (.aload_n 0, 1) := by decide +kernel
theorem dX12_figures_74 : decode cX12_figures 74 = .ok (.dup, 1) := by decide +kernel
theorem dX12_figures_75 : decode cX12_figures 75 = .ok (.getfield 90, 3) := by decide +kernel
theorem dX12_figures_78 : decode cX12_figures 78 = .ok (.iconst 1, 1) := by decide +kernel
theorem dX12_figures_79 : decode cX12_figures 79 = .ok (.iadd, 1) := by decide +kernel
theorem dX12_figures_80 : decode cX12_figures 80 = .ok (.putfield 90, 3) := by decide +kernel
theorem dX12_figures_83 : decode cX12_figures 83 = .ok (.goto (-71), 3) := by decide +kernel
theorem dX12_figures_86 : decode cX12_figures 86 = .ok (.iload_n 3, 1) := by decide +kernel
theorem dX12_figures_87 : decode cX12_figures 87 = .ok (.i2l, 1) := by decide +kernel
theorem dX12_figures_88 : decode cX12_figures 88 = .ok (.lconst 1, 1) := by decide +kernel
theorem dX12_figures_89 : decode cX12_figures 89 = .ok (.ldc2_w 97, 3) := by decide +kernel
theorem dX12_figures_92 : decode cX12_figures 92 = .ok (.invokestatic 80, 3) := by decide +kernel
theorem dX12_figures_95 : decode cX12_figures 95 = .ok (.ifCond .eq 40, 3) := by decide +kernel
theorem dX12_figures_98 : decode cX12_figures 98 = .ok (.aload_n 0, 1) := by decide +kernel
theorem dX12_figures_99 : decode cX12_figures 99 = .ok (.getfield 90, 3) := by decide +kernel
theorem dX12_figures_102 : decode cX12_figures 102 = .ok (.aload_n 0, 1) := by decide +kernel
theorem dX12_figures_103 : decode cX12_figures 103 = .ok (.getfield 84, 3) := by decide +kernel
theorem dX12_figures_106 : decode cX12_figures 106 = .ok (.if_icmp .eq 29, 3) := by decide +kernel
theorem dX12_figures_109 : decode cX12_figures 109 = .ok (.aload_n 0, 1) := by decide +kernel
theorem dX12_figures_110 : decode cX12_figures 110 = .ok (.getfield 7, 3) := by decide +kernel
theorem dX12_figures_113 : decode cX12_figures 113 = .ok (.aload_n 0, 1) := by decide +kernel
theorem dX12_figures_114 : decode cX12_figures 114 = .ok (.getfield 90, 3) := by decide +kernel
theorem dX12_figures_117 : decode cX12_figures 117 = .ok (.iaload, 1) := by decide +kernel
theorem dX12_figures_118 : decode cX12_figures 118 = .ok (.iload_n 2, 1) := by decide +kernel
theorem dX12_figures_119 : decode cX12_figures 119 = .ok (.iload_n 1, 1) := by decide +kernel
theorem dX12_figures_120 : decode cX12_figures 120 = .ok (.iconst 1, 1) := by decide +kernel
theorem dX12_figures_121 : decode cX12_figures 121 = .ok (.isub, 1) := by decide +kernel
theorem dX12_figures_122 : decode cX12_figures 122 = .ok (.if_icmp .ge 8, 3) := by decide +kernel
theorem dX12_figures_125 : decode cX12_figures 125 = .ok (.bipush 44, 2) := by decide +kernel
theorem dX12_figures_127 : decode cX12_figures 127 = .ok (.goto 5, 3) := by decide +kernel
theorem dX12_figures_130 : decode cX12_figures 130 = .ok (.bipush 59, 2) := by decide +kernel
theorem dX12_figures_132 : decode cX12_figures 132 = .ok (.if_icmp .eq 5, 3) := by decide +kernel
theorem dX12_figures_135 : decode cX12_figures 135 = .ok (.iconst 0, 1) := by decide +kernel
theorem dX12_figures_136 : decode cX12_figures 136 = .ok (.ireturn, 1) := by decide +kernel
theorem dX12_figures_137 : decode cX12_figures 137 = .ok (.aload_n 0, 1) := by decide +kernel
theorem dX12_figures_138 : decode cX12_figures 138 = .ok (.getfield 46, 3) := by decide +kernel
theorem dX12_figures_141 : decode cX12_figures 141 = .ok (.iload_n 2, 1) := by decide +kernel
theorem dX12_figures_142 : decode cX12_figures 142 = .ok (.iload 4, 2) := by decide +kernel
theorem dX12_figures_144 : decode cX12_figures 144 = .ok (.iastore, 1) := by decide +kernel
theorem dX12_figures_145 : decode cX12_figures 145 = .ok (.aload_n 0, 1) := by decide +kernel
theorem dX12_figures_146 : decode cX12_figures 146 = .ok (.dup, 1) := by decide +kernel
theorem dX12_figures_147 : decode cX12_figures 147 = .ok (.getfield 90, 3) := by decide +kernel
theorem dX12_figures_150 : decode cX12_figures 150 = .ok (.iconst 1, 1) := by decide +kernel
theorem dX12_figures_151 : decode cX12_figures 151 = .ok (.iadd, 1) := by decide +kernel
theorem dX12_figures_152 : decode cX12_figures 152 = .ok (.putfield 90, 3) := by decide +kernel
theorem dX12_figures_155 : decode cX12_figures 155 = .ok (.iinc 2 1, 3) := by decide +kernel
theorem dX12_figures_158 : decode cX12_figures 158 = .ok (.goto (-156), 3) := by decide +kernel
theorem dX12_figures_161 : decode cX12_figures 161 = .ok (.iconst 1, 1) := by decide +kernel
theorem dX12_figures_162 : decode cX12_figures 162 = .ok (.ireturn, 1) := by decide +kernel
theorem dX12_wordItem_0 : decode cX12_wordItem 0 = .ok (.aload_n 0, 1) := by decide +kernel
theorem dX12_wordItem_1 : decode cX12_wordItem 1 = .ok (.iconst 4, 1) := by decide +kernel
theorem dX12_wordItem_2 : decode cX12_wordItem 2 = .ok (.invokevirtual 99, 3) := by decide +kernel
theorem dX12_wordItem_5 : decode cX12_wordItem 5 = .ok (.ifCond .eq 57, 3) := by decide +kernel
theorem dX12_wordItem_8 : decode cX12_wordItem 8 = .ok (.aload_n 0, 1) := by decide +kernel
theorem dX12_wordItem_9 : decode cX12_wordItem 9 = .ok (.getfield 46, 3) := by decide +kernel
theorem dX12_wordItem_12 : decode cX12_wordItem 12 = .ok (.iconst 0, 1) := by decide +kernel
theorem dX12_wordItem_13 : decode cX12_wordItem 13 = .ok (.iaload, 1) := by decide +kernel
theorem dX12_wordItem_14 : decode cX12_wordItem 14 = .ok (.bipush 9, 2) := by decide +kernel
theorem dX12_wordItem_16 : decode cX12_wordItem 16 = .ok (.if_icmp .gt 46, 3) := by decide +kernel
theorem dX12_wordItem_19 : decode cX12_wordItem 19 = .ok (.aload_n 0, 1) := by decide +kernel
theorem dX12_wordItem_20 : decode cX12_wordItem 20 = .ok (.getfield 46, 3) := by decide +kernel
theorem dX12_wordItem_23 : decode cX12_wordItem 23 = .ok (.iconst 1, 1) := by decide +kernel
theorem dX12_wordItem_24 : decode cX12_wordItem 24 = .ok (.iaload, 1) := by decide +kernel
theorem dX12_wordItem_25 : decode cX12_wordItem 25 = .ok (.iconst 3, 1) := by decide +kernel
theorem dX12_wordItem_26 : decode cX12_wordItem 26 = .ok (.if_icmp .gt 36, 3) := by decide +kernel
theorem dX12_wordItem_29 : decode cX12_wordItem 29 = .ok (.aload_n 0, 1) := by decide +kernel
theorem dX12_wordItem_30 : decode cX12_wordItem 30 = .ok (.getfield 46, 3) := by decide +kernel
theorem dX12_wordItem_33 : decode cX12_wordItem 33 = .ok (.iconst 2, 1) := by decide +kernel
theorem dX12_wordItem_34 : decode cX12_wordItem 34 = .ok (.iaload, 1) := by decide +kernel
theorem dX12_wordItem_35 : decode cX12_wordItem 35 = .ok (.bipush 15, 2) := by decide +kernel
theorem dX12_wordItem_37 : decode cX12_wordItem 37 = .ok (.if_icmp .gt 25, 3) := by decide +kernel
theorem dX12_wordItem_40 : decode cX12_wordItem 40 = .ok (.aload_n 0, 1) := by decide +kernel
theorem dX12_wordItem_41 : decode cX12_wordItem 41 = .ok (.getfield 46, 3) := by decide +kernel
theorem dX12_wordItem_44 : decode cX12_wordItem 44 = .ok (.iconst 3, 1) := by decide +kernel
theorem dX12_wordItem_45 : decode cX12_wordItem 45 = .ok (.iaload, 1) := by decide +kernel
theorem dX12_wordItem_46 : decode cX12_wordItem 46 = .ok (.bipush 15, 2) := by decide +kernel
theorem dX12_wordItem_48 : decode cX12_wordItem 48 = .ok (.if_icmp .gt 14, 3) := by decide +kernel
theorem dX12_wordItem_51 : decode cX12_wordItem 51 = .ok (.aload_n 0, 1) := by decide +kernel
theorem dX12_wordItem_52 : decode cX12_wordItem 52 = .ok (.getfield 13, 3) := by decide +kernel
theorem dX12_wordItem_55 : decode cX12_wordItem 55 = .ok (.iconst 1, 1) := by decide +kernel
theorem dX12_wordItem_56 : decode cX12_wordItem 56 = .ok (.iaload, 1) := by decide +kernel
theorem dX12_wordItem_57 : decode cX12_wordItem 57 = .ok (.bipush 16, 2) := by decide +kernel
theorem dX12_wordItem_59 : decode cX12_wordItem 59 = .ok (.if_icmp .ne 5, 3) := by decide +kernel
theorem dX12_wordItem_62 : decode cX12_wordItem 62 = .ok (.iconst 0, 1) := by decide +kernel
theorem dX12_wordItem_63 : decode cX12_wordItem 63 = .ok (.ireturn, 1) := by decide +kernel
theorem dX12_wordItem_64 : decode cX12_wordItem 64 = .ok (.iconst 0, 1) := by decide +kernel
theorem dX12_wordItem_65 : decode cX12_wordItem 65 = .ok (.istore_n 1, 1) := by decide +kernel
theorem dX12_wordItem_66 : decode cX12_wordItem 66 = .ok (.iload_n 1, 1) := by decide +kernel
theorem dX12_wordItem_67 : decode cX12_wordItem 67 = .ok (.iconst 4, 1) := by decide +kernel
theorem dX12_wordItem_68 : decode cX12_wordItem 68 = .ok (.if_icmp .ge 33, 3) := by decide +kernel
theorem dX12_wordItem_71 : decode cX12_wordItem 71 = .ok (.aload_n 0, 1) := by decide +kernel
theorem dX12_wordItem_72 : decode cX12_wordItem 72 = .ok (.getfield 16, 3) := by decide +kernel
theorem dX12_wordItem_75 : decode cX12_wordItem 75 = .ok (.bipush 64, 2) := by decide +kernel
theorem dX12_wordItem_77 : decode cX12_wordItem 77 = .ok (.iconst 4, 1) := by decide +kernel
theorem dX12_wordItem_78 : decode cX12_wordItem 78 = .ok (.aload_n 0, 1) := by decide +kernel
theorem dX12_wordItem_79 : decode cX12_wordItem 79 = .ok (.getfield 13, 3) := by decide +kernel
theorem dX12_wordItem_82 : decode cX12_wordItem 82 = .ok (.iconst 1, 1) := by decide +kernel
theorem dX12_wordItem_83 : decode cX12_wordItem 83 = .ok (.iaload, 1) := by decide +kernel
theorem dX12_wordItem_84 : decode cX12_wordItem 84 = .ok (.imul, 1) := by decide +kernel
theorem dX12_wordItem_85 : decode cX12_wordItem 85 = .ok (.iadd, 1) := by decide +kernel
theorem dX12_wordItem_86 : decode cX12_wordItem 86 = .ok (.iload_n 1, 1) := by decide +kernel
theorem dX12_wordItem_87 : decode cX12_wordItem 87 = .ok (.iadd, 1) := by decide +kernel
theorem dX12_wordItem_88 : decode cX12_wordItem 88 = .ok (.aload_n 0, 1) := by decide +kernel
theorem dX12_wordItem_89 : decode cX12_wordItem 89 = .ok (.getfield 46, 3) := by decide +kernel
theorem dX12_wordItem_92 : decode cX12_wordItem 92 = .ok (.iload_n 1, 1) := by decide +kernel
theorem dX12_wordItem_93 : decode cX12_wordItem 93 = .ok (.iaload, 1) := by decide +kernel
theorem dX12_wordItem_94 : decode cX12_wordItem 94 = .ok (.iastore, 1) := by decide +kernel
theorem dX12_wordItem_95 : decode cX12_wordItem 95 = .ok (.iinc 1 1, 3) := by decide +kernel
theorem dX12_wordItem_98 : decode cX12_wordItem 98 = .ok (.goto (-32), 3) := by decide +kernel
theorem dX12_wordItem_101 : decode cX12_wordItem 101 = .ok (.aload_n 0, 1) := by decide +kernel
theorem dX12_wordItem_102 : decode cX12_wordItem 102 = .ok (.getfield 13, 3) := by decide +kernel
theorem dX12_wordItem_105 : decode cX12_wordItem 105 = .ok (.iconst 1, 1) := by decide +kernel
theorem dX12_wordItem_106 : decode cX12_wordItem 106 = .ok (.dup2, 1) := by decide +kernel
theorem dX12_wordItem_107 : decode cX12_wordItem 107 = .ok (.iaload, 1) := by decide +kernel
theorem dX12_wordItem_108 : decode cX12_wordItem 108 = .ok (.iconst 1, 1) := by decide +kernel
theorem dX12_wordItem_109 : decode cX12_wordItem 109 = .ok (.iadd, 1) := by decide +kernel
theorem dX12_wordItem_110 : decode cX12_wordItem 110 = .ok (.iastore, 1) := by decide +kernel
theorem dX12_wordItem_111 : decode cX12_wordItem 111 = .ok (.iconst 1, 1) := by decide +kernel
theorem dX12_wordItem_112 : decode cX12_wordItem 112 = .ok (.ireturn, 1) := by decide +kernel
theorem dX12_ruleItem_0 : decode cX12_ruleItem 0 = .ok (.aload_n 0, 1) := by decide +kernel
theorem dX12_ruleItem_1 : decode cX12_ruleItem 1 = .ok (.iconst 5, 1) := by decide +kernel
theorem dX12_ruleItem_2 : decode cX12_ruleItem 2 = .ok (.invokevirtual 99, 3) := by decide +kernel
theorem dX12_ruleItem_5 : decode cX12_ruleItem 5 = .ok (.ifCond .eq 67, 3) := by decide +kernel
theorem dX12_ruleItem_8 : decode cX12_ruleItem 8 = .ok (.aload_n 0, 1) := by decide +kernel
theorem dX12_ruleItem_9 : decode cX12_ruleItem 9 = .ok (.getfield 46, 3) := by decide +kernel
theorem dX12_ruleItem_12 : decode cX12_ruleItem 12 = .ok (.iconst 0, 1) := by decide +kernel
theorem dX12_ruleItem_13 : decode cX12_ruleItem 13 = .ok (.iaload, 1) := by decide +kernel
theorem dX12_ruleItem_14 : decode cX12_ruleItem 14 = .ok (.bipush 9, 2) := by decide +kernel
theorem dX12_ruleItem_16 : decode cX12_ruleItem 16 = .ok (.if_icmp .gt 56, 3) := by decide +kernel
theorem dX12_ruleItem_19 : decode cX12_ruleItem 19 = .ok (.aload_n 0, 1) := by decide +kernel
theorem dX12_ruleItem_20 : decode cX12_ruleItem 20 = .ok (.getfield 46, 3) := by decide +kernel
theorem dX12_ruleItem_23 : decode cX12_ruleItem 23 = .ok (.iconst 1, 1) := by decide +kernel
theorem dX12_ruleItem_24 : decode cX12_ruleItem 24 = .ok (.iaload, 1) := by decide +kernel
theorem dX12_ruleItem_25 : decode cX12_ruleItem 25 = .ok (.bipush 9, 2) := by decide +kernel
theorem dX12_ruleItem_27 : decode cX12_ruleItem 27 = .ok (.if_icmp .gt 45, 3) := by decide +kernel
theorem dX12_ruleItem_30 : decode cX12_ruleItem 30 = .ok (.aload_n 0, 1) := by decide +kernel
theorem dX12_ruleItem_31 : decode cX12_ruleItem 31 = .ok (.getfield 46, 3) := by decide +kernel
theorem dX12_ruleItem_34 : decode cX12_ruleItem 34 = .ok (.iconst 2, 1) := by decide +kernel
theorem dX12_ruleItem_35 : decode cX12_ruleItem 35 = .ok (.iaload, 1) := by decide +kernel
theorem dX12_ruleItem_36 : decode cX12_ruleItem 36 = .ok (.bipush 9, 2) := by decide +kernel
theorem dX12_ruleItem_38 : decode cX12_ruleItem 38 = .ok (.if_icmp .gt 34, 3) := by decide +kernel
theorem dX12_ruleItem_41 : decode cX12_ruleItem 41 = .ok (.aload_n 0, 1) := by decide +kernel
theorem dX12_ruleItem_42 : decode cX12_ruleItem 42 = .ok (.getfield 46, 3) := by decide +kernel
theorem dX12_ruleItem_45 : decode cX12_ruleItem 45 = .ok (.iconst 3, 1) := by decide +kernel
theorem dX12_ruleItem_46 : decode cX12_ruleItem 46 = .ok (.iaload, 1) := by decide +kernel
theorem dX12_ruleItem_47 : decode cX12_ruleItem 47 = .ok (.iconst 1, 1) := by decide +kernel
theorem dX12_ruleItem_48 : decode cX12_ruleItem 48 = .ok (.if_icmp .gt 24, 3) := by decide +kernel
theorem dX12_ruleItem_51 : decode cX12_ruleItem 51 = .ok (.aload_n 0, 1) := by decide +kernel
theorem dX12_ruleItem_52 : decode cX12_ruleItem 52 = .ok (.getfield 46, 3) := by decide +kernel
theorem dX12_ruleItem_55 : decode cX12_ruleItem 55 = .ok (.iconst 4, 1) := by decide +kernel
theorem dX12_ruleItem_56 : decode cX12_ruleItem 56 = .ok (.iaload, 1) := by decide +kernel
theorem dX12_ruleItem_57 : decode cX12_ruleItem 57 = .ok (.iconst 1, 1) := by decide +kernel
theorem dX12_ruleItem_58 : decode cX12_ruleItem 58 = .ok (.if_icmp .gt 14, 3) := by decide +kernel
theorem dX12_ruleItem_61 : decode cX12_ruleItem 61 = .ok (.aload_n 0, 1) := by decide +kernel
theorem dX12_ruleItem_62 : decode cX12_ruleItem 62 = .ok (.getfield 19, 3) := by decide +kernel
theorem dX12_ruleItem_65 : decode cX12_ruleItem 65 = .ok (.iconst 1, 1) := by decide +kernel
theorem dX12_ruleItem_66 : decode cX12_ruleItem 66 = .ok (.iaload, 1) := by decide +kernel
theorem dX12_ruleItem_67 : decode cX12_ruleItem 67 = .ok (.bipush 24, 2) := by decide +kernel
theorem dX12_ruleItem_69 : decode cX12_ruleItem 69 = .ok (.if_icmp .ne 5, 3) := by decide +kernel
theorem dX12_ruleItem_72 : decode cX12_ruleItem 72 = .ok (.iconst 0, 1) := by decide +kernel
theorem dX12_ruleItem_73 : decode cX12_ruleItem 73 = .ok (.ireturn, 1) := by decide +kernel
theorem dX12_ruleItem_74 : decode cX12_ruleItem 74 = .ok (.iconst 0, 1) := by decide +kernel
theorem dX12_ruleItem_75 : decode cX12_ruleItem 75 = .ok (.istore_n 1, 1) := by decide +kernel
theorem dX12_ruleItem_76 : decode cX12_ruleItem 76 = .ok (.iload_n 1, 1) := by decide +kernel
theorem dX12_ruleItem_77 : decode cX12_ruleItem 77 = .ok (.iconst 5, 1) := by decide +kernel
theorem dX12_ruleItem_78 : decode cX12_ruleItem 78 = .ok (.if_icmp .ge 33, 3) := by decide +kernel
theorem dX12_ruleItem_81 : decode cX12_ruleItem 81 = .ok (.aload_n 0, 1) := by decide +kernel
theorem dX12_ruleItem_82 : decode cX12_ruleItem 82 = .ok (.getfield 22, 3) := by decide +kernel
theorem dX12_ruleItem_85 : decode cX12_ruleItem 85 = .ok (.bipush 120, 2) := by decide +kernel
theorem dX12_ruleItem_87 : decode cX12_ruleItem 87 = .ok (.iconst 5, 1) := by decide +kernel
theorem dX12_ruleItem_88 : decode cX12_ruleItem 88 = .ok (.aload_n 0, 1) := by decide +kernel
theorem dX12_ruleItem_89 : decode cX12_ruleItem 89 = .ok (.getfield 19, 3) := by decide +kernel
theorem dX12_ruleItem_92 : decode cX12_ruleItem 92 = .ok (.iconst 1, 1) := by decide +kernel
theorem dX12_ruleItem_93 : decode cX12_ruleItem 93 = .ok (.iaload, 1) := by decide +kernel
theorem dX12_ruleItem_94 : decode cX12_ruleItem 94 = .ok (.imul, 1) := by decide +kernel
theorem dX12_ruleItem_95 : decode cX12_ruleItem 95 = .ok (.iadd, 1) := by decide +kernel
theorem dX12_ruleItem_96 : decode cX12_ruleItem 96 = .ok (.iload_n 1, 1) := by decide +kernel
theorem dX12_ruleItem_97 : decode cX12_ruleItem 97 = .ok (.iadd, 1) := by decide +kernel
theorem dX12_ruleItem_98 : decode cX12_ruleItem 98 = .ok (.aload_n 0, 1) := by decide +kernel
theorem dX12_ruleItem_99 : decode cX12_ruleItem 99 = .ok (.getfield 46, 3) := by decide +kernel
theorem dX12_ruleItem_102 : decode cX12_ruleItem 102 = .ok (.iload_n 1, 1) := by decide +kernel
theorem dX12_ruleItem_103 : decode cX12_ruleItem 103 = .ok (.iaload, 1) := by decide +kernel
theorem dX12_ruleItem_104 : decode cX12_ruleItem 104 = .ok (.iastore, 1) := by decide +kernel
theorem dX12_ruleItem_105 : decode cX12_ruleItem 105 = .ok (.iinc 1 1, 3) := by decide +kernel
theorem dX12_ruleItem_108 : decode cX12_ruleItem 108 = .ok (.goto (-32), 3) := by decide +kernel
theorem dX12_ruleItem_111 : decode cX12_ruleItem 111 = .ok (.aload_n 0, 1) := by decide +kernel
theorem dX12_ruleItem_112 : decode cX12_ruleItem 112 = .ok (.getfield 19, 3) := by decide +kernel
theorem dX12_ruleItem_115 : decode cX12_ruleItem 115 = .ok (.iconst 1, 1) := by decide +kernel
theorem dX12_ruleItem_116 : decode cX12_ruleItem 116 = .ok (.dup2, 1) := by decide +kernel
theorem dX12_ruleItem_117 : decode cX12_ruleItem 117 = .ok (.iaload, 1) := by decide +kernel
theorem dX12_ruleItem_118 : decode cX12_ruleItem 118 = .ok (.iconst 1, 1) := by decide +kernel
theorem dX12_ruleItem_119 : decode cX12_ruleItem 119 = .ok (.iadd, 1) := by decide +kernel
theorem dX12_ruleItem_120 : decode cX12_ruleItem 120 = .ok (.iastore, 1) := by decide +kernel
theorem dX12_ruleItem_121 : decode cX12_ruleItem 121 = .ok (.iconst 1, 1) := by decide +kernel
theorem dX12_ruleItem_122 : decode cX12_ruleItem 122 = .ok (.ireturn, 1) := by decide +kernel
theorem dX12_priceItem_0 : decode cX12_priceItem 0 = .ok (.aload_n 0, 1) := by decide +kernel
theorem dX12_priceItem_1 : decode cX12_priceItem 1 = .ok (.iconst 2, 1) := by decide +kernel
theorem dX12_priceItem_2 : decode cX12_priceItem 2 = .ok (.invokevirtual 99, 3) := by decide +kernel
theorem dX12_priceItem_5 : decode cX12_priceItem 5 = .ok (.ifCond .eq 13, 3) := by decide +kernel
theorem dX12_priceItem_8 : decode cX12_priceItem 8 = .ok (.aload_n 0, 1) := by decide +kernel
theorem dX12_priceItem_9 : decode cX12_priceItem 9 = .ok (.getfield 46, 3) := by decide +kernel
theorem dX12_priceItem_12 : decode cX12_priceItem 12 = .ok (.iconst 0, 1) := by decide +kernel
theorem dX12_priceItem_13 : decode cX12_priceItem 13 = .ok (.iaload, 1) := by decide +kernel
theorem dX12_priceItem_14 : decode cX12_priceItem 14 = .ok (.iconst 4, 1) := by decide +kernel
theorem dX12_priceItem_15 : decode cX12_priceItem 15 = .ok (.if_icmp .le 5, 3) := by decide +kernel
theorem dX12_priceItem_18 : decode cX12_priceItem 18 = .ok (.iconst 0, 1) := by decide +kernel
theorem dX12_priceItem_19 : decode cX12_priceItem 19 = .ok (.ireturn, 1) := by decide +kernel
theorem dX12_priceItem_20 : decode cX12_priceItem 20 = .ok (.aload_n 0, 1) := by decide +kernel
theorem dX12_priceItem_21 : decode cX12_priceItem 21 = .ok (.getfield 25, 3) := by decide +kernel
theorem dX12_priceItem_24 : decode cX12_priceItem 24 = .ok (.iconst 5, 1) := by decide +kernel
theorem dX12_priceItem_25 : decode cX12_priceItem 25 = .ok (.aload_n 0, 1) := by decide +kernel
theorem dX12_priceItem_26 : decode cX12_priceItem 26 = .ok (.getfield 46, 3) := by decide +kernel
theorem dX12_priceItem_29 : decode cX12_priceItem 29 = .ok (.iconst 0, 1) := by decide +kernel
theorem dX12_priceItem_30 : decode cX12_priceItem 30 = .ok (.iaload, 1) := by decide +kernel
theorem dX12_priceItem_31 : decode cX12_priceItem 31 = .ok (.iadd, 1) := by decide +kernel
theorem dX12_priceItem_32 : decode cX12_priceItem 32 = .ok (.aload_n 0, 1) := by decide +kernel
theorem dX12_priceItem_33 : decode cX12_priceItem 33 = .ok (.getfield 46, 3) := by decide +kernel
theorem dX12_priceItem_36 : decode cX12_priceItem 36 = .ok (.iconst 1, 1) := by decide +kernel
theorem dX12_priceItem_37 : decode cX12_priceItem 37 = .ok (.iaload, 1) := by decide +kernel
theorem dX12_priceItem_38 : decode cX12_priceItem 38 = .ok (.iastore, 1) := by decide +kernel
theorem dX12_priceItem_39 : decode cX12_priceItem 39 = .ok (.iconst 1, 1) := by decide +kernel
theorem dX12_priceItem_40 : decode cX12_priceItem 40 = .ok (.ireturn, 1) := by decide +kernel
theorem dX12_readAll_0 : decode cX12_readAll 0 = .ok (.aload_n 0, 1) := by decide +kernel
theorem dX12_readAll_1 : decode cX12_readAll 1 = .ok (.getfield 13, 3) := by decide +kernel
theorem dX12_readAll_4 : decode cX12_readAll 4 = .ok (.iconst 1, 1) := by decide +kernel
theorem dX12_readAll_5 : decode cX12_readAll 5 = .ok (.iconst 0, 1) := by decide +kernel
theorem dX12_readAll_6 : decode cX12_readAll 6 = .ok (.iastore, 1) := by decide +kernel
theorem dX12_readAll_7 : decode cX12_readAll 7 = .ok (.aload_n 0, 1) := by decide +kernel
theorem dX12_readAll_8 : decode cX12_readAll 8 = .ok (.getfield 19, 3) := by decide +kernel
theorem dX12_readAll_11 : decode cX12_readAll 11 = .ok (.iconst 1, 1) := by decide +kernel
theorem dX12_readAll_12 : decode cX12_readAll 12 = .ok (.iconst 0, 1) := by decide +kernel
theorem dX12_readAll_13 : decode cX12_readAll 13 = .ok (.iastore, 1) := by decide +kernel
theorem dX12_readAll_14 : decode cX12_readAll 14 = .ok (.aload_n 0, 1) := by decide +kernel
theorem dX12_readAll_15 : decode cX12_readAll 15 = .ok (.iconst 1, 1) := by decide +kernel
theorem dX12_readAll_16 : decode cX12_readAll 16 = .ok (.invokevirtual 74, 3) := by decide +kernel
theorem dX12_readAll_19 : decode cX12_readAll 19 = .ok (.aload_n 0, 1) := by decide +kernel
theorem dX12_readAll_20 : decode cX12_readAll 20 = .ok (.iconst 0, 1) := by decide +kernel
theorem dX12_readAll_21 : decode cX12_readAll 21 = .ok (.putfield 90, 3) := by decide +kernel
theorem dX12_readAll_24 : decode cX12_readAll 24 = .ok (.aload_n 0, 1) := by decide +kernel
theorem dX12_readAll_25 : decode cX12_readAll 25 = .ok (.getfield 90, 3) := by decide +kernel
theorem dX12_readAll_28 : decode cX12_readAll 28 = .ok (.aload_n 0, 1) := by decide +kernel
theorem dX12_readAll_29 : decode cX12_readAll 29 = .ok (.getfield 84, 3) := by decide +kernel
theorem dX12_readAll_32 : decode cX12_readAll 32 = .ok (.if_icmp .ge 82, 3) := by decide +kernel
theorem dX12_readAll_35 : decode cX12_readAll 35 = .ok (.aload_n 0, 1) := by decide +kernel
theorem dX12_readAll_36 : decode cX12_readAll 36 = .ok (.getfield 90, 3) := by decide +kernel
theorem dX12_readAll_39 : decode cX12_readAll 39 = .ok (.istore_n 1, 1) := by decide +kernel
theorem dX12_readAll_40 : decode cX12_readAll 40 = .ok (.aload_n 0, 1) := by decide +kernel
theorem dX12_readAll_41 : decode cX12_readAll 41 = .ok (.getfield 7, 3) := by decide +kernel
theorem dX12_readAll_44 : decode cX12_readAll 44 = .ok (.aload_n 0, 1) := by decide +kernel
theorem dX12_readAll_45 : decode cX12_readAll 45 = .ok (.getfield 90, 3) := by decide +kernel
theorem dX12_readAll_48 : decode cX12_readAll 48 = .ok (.iaload, 1) := by decide +kernel
theorem dX12_readAll_49 : decode cX12_readAll 49 = .ok (.istore_n 2, 1) := by decide +kernel
theorem dX12_readAll_50 : decode cX12_readAll 50 = .ok (.aload_n 0, 1) := by decide +kernel
theorem dX12_readAll_51 : decode cX12_readAll 51 = .ok (.dup, 1) := by decide +kernel
theorem dX12_readAll_52 : decode cX12_readAll 52 = .ok (.getfield 90, 3) := by decide +kernel
theorem dX12_readAll_55 : decode cX12_readAll 55 = .ok (.iconst 1, 1) := by decide +kernel
theorem dX12_readAll_56 : decode cX12_readAll 56 = .ok (.iadd, 1) := by decide +kernel
theorem dX12_readAll_57 : decode cX12_readAll 57 = .ok (.putfield 90, 3) := by decide +kernel
theorem dX12_readAll_60 : decode cX12_readAll 60 = .ok (.iload_n 2, 1) := by decide +kernel
theorem dX12_readAll_61 : decode cX12_readAll 61 = .ok (.bipush 119, 2) := by decide +kernel
theorem dX12_readAll_63 : decode cX12_readAll 63 = .ok (.if_icmp .ne 10, 3) := by decide +kernel
theorem dX12_readAll_66 : decode cX12_readAll 66 = .ok (.aload_n 0, 1) := by decide +kernel
theorem dX12_readAll_67 : decode cX12_readAll 67 = .ok (.invokevirtual 103, 3) := by decide +kernel
theorem dX12_readAll_70 : decode cX12_readAll 70 = .ok (.goto 34, 3) := by decide +kernel
theorem dX12_readAll_73 : decode cX12_readAll 73 = .ok (.iload_n 2, 1) := by decide +kernel
theorem dX12_readAll_74 : decode cX12_readAll 74 = .ok (.bipush 114, 2) := by decide +kernel
theorem dX12_readAll_76 : decode cX12_readAll 76 = .ok (.if_icmp .ne 10, 3) := by decide +kernel
theorem dX12_readAll_79 : decode cX12_readAll 79 = .ok (.aload_n 0, 1) := by decide +kernel
theorem dX12_readAll_80 : decode cX12_readAll 80 = .ok (.invokevirtual 107, 3) := by decide +kernel
theorem dX12_readAll_83 : decode cX12_readAll 83 = .ok (.goto 21, 3) := by decide +kernel
theorem dX12_readAll_86 : decode cX12_readAll 86 = .ok (.iload_n 2, 1) := by decide +kernel
theorem dX12_readAll_87 : decode cX12_readAll 87 = .ok (.bipush 112, 2) := by decide +kernel
theorem dX12_readAll_89 : decode cX12_readAll 89 = .ok (.if_icmp .ne 14, 3) := by decide +kernel
theorem dX12_readAll_92 : decode cX12_readAll 92 = .ok (.aload_n 0, 1) := by decide +kernel
theorem dX12_readAll_93 : decode cX12_readAll 93 = .ok (.invokevirtual 110, 3) := by decide +kernel
theorem dX12_readAll_96 : decode cX12_readAll 96 = .ok (.ifCond .eq 7, 3) := by decide +kernel
theorem dX12_readAll_99 : decode cX12_readAll 99 = .ok (.iconst 1, 1) := by decide +kernel
theorem dX12_readAll_100 : decode cX12_readAll 100 = .ok (.goto 4, 3) := by decide +kernel
theorem dX12_readAll_103 : decode cX12_readAll 103 = .ok (.iconst 0, 1) := by decide +kernel
theorem dX12_readAll_104 : decode cX12_readAll 104 = .ok (.istore_n 3, 1) := by decide +kernel
theorem dX12_readAll_105 : decode cX12_readAll 105 = .ok (.iload_n 3, 1) := by decide +kernel
theorem dX12_readAll_106 : decode cX12_readAll 106 = .ok (.ifCond .ne 5, 3) := by decide +kernel
theorem dX12_readAll_109 : decode cX12_readAll 109 = .ok (.iload_n 1, 1) := by decide +kernel
theorem dX12_readAll_110 : decode cX12_readAll 110 = .ok (.ireturn, 1) := by decide +kernel
theorem dX12_readAll_111 : decode cX12_readAll 111 = .ok (.goto (-87), 3) := by decide +kernel
theorem dX12_readAll_114 : decode cX12_readAll 114 = .ok (.bipush (-4), 2) := by decide +kernel
theorem dX12_readAll_116 : decode cX12_readAll 116 = .ok (.ireturn, 1) := by decide +kernel
theorem dX12_fault_0 : decode cX12_fault 0 = .ok (.aload_n 0, 1) := by decide +kernel
theorem dX12_fault_1 : decode cX12_fault 1 = .ok (.invokevirtual 113, 3) := by decide +kernel
theorem dX12_fault_4 : decode cX12_fault 4 = .ok (.ireturn, 1) := by decide +kernel
theorem dX12_lay_0 : decode cX12_lay 0 = .ok (.aload_n 0, 1) := by decide +kernel
theorem dX12_lay_1 : decode cX12_lay 1 = .ok (.invokevirtual 113, 3) := by decide +kernel
theorem dX12_lay_4 : decode cX12_lay 4 = .ok (.bipush (-4), 2) := by decide +kernel
theorem dX12_lay_6 : decode cX12_lay 6 = .ok (.if_icmp .eq 6, 3) := by decide +kernel
theorem dX12_lay_9 : decode cX12_lay 9 = .ok (.bipush (-2), 2) := by decide +kernel
theorem dX12_lay_11 : decode cX12_lay 11 = .ok (.ireturn, 1) := by decide +kernel
theorem dX12_lay_12 : decode cX12_lay 12 = .ok (.aload_n 0, 1) := by decide +kernel
theorem dX12_lay_13 : decode cX12_lay 13 = .ok (.getfield 13, 3) := by decide +kernel
theorem dX12_lay_16 : decode cX12_lay 16 = .ok (.iconst 0, 1) := by decide +kernel
theorem dX12_lay_17 : decode cX12_lay 17 = .ok (.aload_n 0, 1) := by decide +kernel
theorem dX12_lay_18 : decode cX12_lay 18 = .ok (.getfield 13, 3) := by decide +kernel
theorem dX12_lay_21 : decode cX12_lay 21 = .ok (.iconst 1, 1) := by decide +kernel
theorem dX12_lay_22 : decode cX12_lay 22 = .ok (.iaload, 1) := by decide +kernel
theorem dX12_lay_23 : decode cX12_lay 23 = .ok (.iastore, 1) := by decide +kernel
theorem dX12_lay_24 : decode cX12_lay 24 = .ok (.aload_n 0, 1) := by decide +kernel
theorem dX12_lay_25 : decode cX12_lay 25 = .ok (.getfield 19, 3) := by decide +kernel
theorem dX12_lay_28 : decode cX12_lay 28 = .ok (.iconst 0, 1) := by decide +kernel
theorem dX12_lay_29 : decode cX12_lay 29 = .ok (.aload_n 0, 1) := by decide +kernel
theorem dX12_lay_30 : decode cX12_lay 30 = .ok (.getfield 19, 3) := by decide +kernel
theorem dX12_lay_33 : decode cX12_lay 33 = .ok (.iconst 1, 1) := by decide +kernel
theorem dX12_lay_34 : decode cX12_lay 34 = .ok (.iaload, 1) := by decide +kernel
theorem dX12_lay_35 : decode cX12_lay 35 = .ok (.iastore, 1) := by decide +kernel
theorem dX12_lay_36 : decode cX12_lay 36 = .ok (.iconst 0, 1) := by decide +kernel
theorem dX12_lay_37 : decode cX12_lay 37 = .ok (.istore_n 1, 1) := by decide +kernel
theorem dX12_lay_38 : decode cX12_lay 38 = .ok (.iload_n 1, 1) := by decide +kernel
theorem dX12_lay_39 : decode cX12_lay 39 = .ok (.bipush 64, 2) := by decide +kernel
theorem dX12_lay_41 : decode cX12_lay 41 = .ok (.if_icmp .ge 24, 3) := by decide +kernel
theorem dX12_lay_44 : decode cX12_lay 44 = .ok (.aload_n 0, 1) := by decide +kernel
theorem dX12_lay_45 : decode cX12_lay 45 = .ok (.getfield 16, 3) := by decide +kernel
theorem dX12_lay_48 : decode cX12_lay 48 = .ok (.iload_n 1, 1) := by decide +kernel
theorem dX12_lay_49 : decode cX12_lay 49 = .ok (.aload_n 0, 1) := by decide +kernel
theorem dX12_lay_50 : decode cX12_lay 50 = .ok (.getfield 16, 3) := by decide +kernel
theorem dX12_lay_53 : decode cX12_lay 53 = .ok (.bipush 64, 2) := by decide +kernel
theorem dX12_lay_55 : decode cX12_lay 55 = .ok (.iload_n 1, 1) := by decide +kernel
theorem dX12_lay_56 : decode cX12_lay 56 = .ok (.iadd, 1) := by decide +kernel
theorem dX12_lay_57 : decode cX12_lay 57 = .ok (.iaload, 1) := by decide +kernel
theorem dX12_lay_58 : decode cX12_lay 58 = .ok (.iastore, 1) := by decide +kernel
theorem dX12_lay_59 : decode cX12_lay 59 = .ok (.iinc 1 1, 3) := by decide +kernel
theorem dX12_lay_62 : decode cX12_lay 62 = .ok (.goto (-24), 3) := by decide +kernel
theorem dX12_lay_65 : decode cX12_lay 65 = .ok (.iconst 0, 1) := by decide +kernel
theorem dX12_lay_66 : decode cX12_lay 66 = .ok (.istore_n 1, 1) := by decide +kernel
theorem dX12_lay_67 : decode cX12_lay 67 = .ok (.iload_n 1, 1) := by decide +kernel
theorem dX12_lay_68 : decode cX12_lay 68 = .ok (.bipush 120, 2) := by decide +kernel
theorem dX12_lay_70 : decode cX12_lay 70 = .ok (.if_icmp .ge 24, 3) := by decide +kernel
theorem dX12_lay_73 : decode cX12_lay 73 = .ok (.aload_n 0, 1) := by decide +kernel
theorem dX12_lay_74 : decode cX12_lay 74 = .ok (.getfield 22, 3) := by decide +kernel
theorem dX12_lay_77 : decode cX12_lay 77 = .ok (.iload_n 1, 1) := by decide +kernel
theorem dX12_lay_78 : decode cX12_lay 78 = .ok (.aload_n 0, 1) := by decide +kernel
theorem dX12_lay_79 : decode cX12_lay 79 = .ok (.getfield 22, 3) := by decide +kernel
theorem dX12_lay_82 : decode cX12_lay 82 = .ok (.bipush 120, 2) := by decide +kernel
theorem dX12_lay_84 : decode cX12_lay 84 = .ok (.iload_n 1, 1) := by decide +kernel
theorem dX12_lay_85 : decode cX12_lay 85 = .ok (.iadd, 1) := by decide +kernel
theorem dX12_lay_86 : decode cX12_lay 86 = .ok (.iaload, 1) := by decide +kernel
theorem dX12_lay_87 : decode cX12_lay 87 = .ok (.iastore, 1) := by decide +kernel
theorem dX12_lay_88 : decode cX12_lay 88 = .ok (.iinc 1 1, 3) := by decide +kernel
theorem dX12_lay_91 : decode cX12_lay 91 = .ok (.goto (-24), 3) := by decide +kernel
theorem dX12_lay_94 : decode cX12_lay 94 = .ok (.iconst 0, 1) := by decide +kernel
theorem dX12_lay_95 : decode cX12_lay 95 = .ok (.istore_n 1, 1) := by decide +kernel
theorem dX12_lay_96 : decode cX12_lay 96 = .ok (.iload_n 1, 1) := by decide +kernel
theorem dX12_lay_97 : decode cX12_lay 97 = .ok (.iconst 5, 1) := by decide +kernel
theorem dX12_lay_98 : decode cX12_lay 98 = .ok (.if_icmp .ge 23, 3) := by decide +kernel
theorem dX12_lay_101 : decode cX12_lay 101 = .ok (.aload_n 0, 1) := by decide +kernel
theorem dX12_lay_102 : decode cX12_lay 102 = .ok (.getfield 25, 3) := by decide +kernel
theorem dX12_lay_105 : decode cX12_lay 105 = .ok (.iload_n 1, 1) := by decide +kernel
theorem dX12_lay_106 : decode cX12_lay 106 = .ok (.aload_n 0, 1) := by decide +kernel
theorem dX12_lay_107 : decode cX12_lay 107 = .ok (.getfield 25, 3) := by decide +kernel
theorem dX12_lay_110 : decode cX12_lay 110 = .ok (.iconst 5, 1) := by decide +kernel
theorem dX12_lay_111 : decode cX12_lay 111 = .ok (.iload_n 1, 1) := by decide +kernel
theorem dX12_lay_112 : decode cX12_lay 112 = .ok (.iadd, 1) := by decide +kernel
theorem dX12_lay_113 : decode cX12_lay 113 = .ok (.iaload, 1) := by decide +kernel
theorem dX12_lay_114 : decode cX12_lay 114 = .ok (.iastore, 1) := by decide +kernel
theorem dX12_lay_115 : decode cX12_lay 115 = .ok (.iinc 1 1, 3) := by decide +kernel
theorem dX12_lay_118 : decode cX12_lay 118 = .ok (.goto (-22), 3) := by decide +kernel
theorem dX12_lay_121 : decode cX12_lay 121 = .ok (.iconst 0, 1) := by decide +kernel
theorem dX12_lay_122 : decode cX12_lay 122 = .ok (.istore_n 1, 1) := by decide +kernel
theorem dX12_lay_123 : decode cX12_lay 123 = .ok (.iload_n 1, 1) := by decide +kernel
theorem dX12_lay_124 : decode cX12_lay 124 = .ok (.bipush 8, 2) := by decide +kernel
theorem dX12_lay_126 : decode cX12_lay 126 = .ok (.if_icmp .ge 23, 3) := by decide +kernel
theorem dX12_lay_129 : decode cX12_lay 129 = .ok (.aload_n 0, 1) := by decide +kernel
theorem dX12_lay_130 : decode cX12_lay 130 = .ok (.getfield 28, 3) := by decide +kernel
theorem dX12_lay_133 : decode cX12_lay 133 = .ok (.iload_n 1, 1) := by decide +kernel
theorem dX12_lay_134 : decode cX12_lay 134 = .ok (.iconst 0, 1) := by decide +kernel
theorem dX12_lay_135 : decode cX12_lay 135 = .ok (.iastore, 1) := by decide +kernel
theorem dX12_lay_136 : decode cX12_lay 136 = .ok (.aload_n 0, 1) := by decide +kernel
theorem dX12_lay_137 : decode cX12_lay 137 = .ok (.getfield 34, 3) := by decide +kernel
theorem dX12_lay_140 : decode cX12_lay 140 = .ok (.iload_n 1, 1) := by decide +kernel
theorem dX12_lay_141 : decode cX12_lay 141 = .ok (.iconst 0, 1) := by decide +kernel
theorem dX12_lay_142 : decode cX12_lay 142 = .ok (.iastore, 1) := by decide +kernel
theorem dX12_lay_143 : decode cX12_lay 143 = .ok (.iinc 1 1, 3) := by decide +kernel
theorem dX12_lay_146 : decode cX12_lay 146 = .ok (.goto (-23), 3) := by decide +kernel
theorem dX12_lay_149 : decode cX12_lay 149 = .ok (.aload_n 0, 1) := by decide +kernel
theorem dX12_lay_150 : decode cX12_lay 150 = .ok (.iconst 0, 1) := by decide +kernel
theorem dX12_lay_151 : decode cX12_lay 151 = .ok (.putfield 117, 3) := by decide +kernel
theorem dX12_lay_154 : decode cX12_lay 154 = .ok (.aload_n 0, 1) := by decide +kernel
theorem dX12_lay_155 : decode cX12_lay 155 = .ok (.iconst 0, 1) := by decide +kernel
theorem dX12_lay_156 : decode cX12_lay 156 = .ok (.putfield 120, 3) := by decide +kernel
theorem dX12_lay_159 : decode cX12_lay 159 = .ok (.aload_n 0, 1) := by decide +kernel
theorem dX12_lay_160 : decode cX12_lay 160 = .ok (.getfield 13, 3) := by decide +kernel
theorem dX12_lay_163 : decode cX12_lay 163 = .ok (.iconst 0, 1) := by decide +kernel
theorem dX12_lay_164 : decode cX12_lay 164 = .ok (.iaload, 1) := by decide +kernel
theorem dX12_lay_165 : decode cX12_lay 165 = .ok (.ireturn, 1) := by decide +kernel
theorem dX12_fitted_0 : decode cX12_fitted 0 = .ok (.aload_n 0, 1) := by decide +kernel
theorem dX12_fitted_1 : decode cX12_fitted 1 = .ok (.getfield 120, 3) := by decide +kernel
theorem dX12_fitted_4 : decode cX12_fitted 4 = .ok (.ifCond .ne 10, 3) := by decide +kernel
theorem dX12_fitted_7 : decode cX12_fitted 7 = .ok (.aload_n 0, 1) := by decide +kernel
theorem dX12_fitted_8 : decode cX12_fitted 8 = .ok (.getfield 25, 3) := by decide +kernel
theorem dX12_fitted_11 : decode cX12_fitted 11 = .ok (.iload_n 1, 1) := by decide +kernel
theorem dX12_fitted_12 : decode cX12_fitted 12 = .ok (.iaload, 1) := by decide +kernel
theorem dX12_fitted_13 : decode cX12_fitted 13 = .ok (.ireturn, 1) := by decide +kernel
theorem dX12_fitted_14 : decode cX12_fitted 14 = .ok (.iconst 0, 1) := by decide +kernel
theorem dX12_fitted_15 : decode cX12_fitted 15 = .ok (.istore_n 2, 1) := by decide +kernel
theorem dX12_fitted_16 : decode cX12_fitted 16 = .ok (.iconst 0, 1) := by decide +kernel
theorem dX12_fitted_17 : decode cX12_fitted 17 = .ok (.istore_n 3, 1) := by decide +kernel
theorem dX12_fitted_18 : decode cX12_fitted 18 = .ok (.iload_n 3, 1) := by decide +kernel
theorem dX12_fitted_19 : decode cX12_fitted 19 = .ok (.aload_n 0, 1) := by decide +kernel
theorem dX12_fitted_20 : decode cX12_fitted 20 = .ok (.getfield 120, 3) := by decide +kernel
theorem dX12_fitted_23 : decode cX12_fitted 23 = .ok (.if_icmp .ge 27, 3) := by decide +kernel
theorem dX12_fitted_26 : decode cX12_fitted 26 = .ok (.iload_n 2, 1) := by decide +kernel
theorem dX12_fitted_27 : decode cX12_fitted 27 = .ok (.aload_n 0, 1) := by decide +kernel
theorem dX12_fitted_28 : decode cX12_fitted 28 = .ok (.getfield 43, 3) := by decide +kernel
theorem dX12_fitted_31 : decode cX12_fitted 31 = .ok (.iload_n 3, 1) := by decide +kernel
theorem dX12_fitted_32 : decode cX12_fitted 32 = .ok (.iaload, 1) := by decide +kernel
theorem dX12_fitted_33 : decode cX12_fitted 33 = .ok (.iload_n 1, 1) := by decide +kernel
theorem dX12_fitted_34 : decode cX12_fitted 34 = .ok (.if_icmp .ne 7, 3) := by decide +kernel
theorem dX12_fitted_37 : decode cX12_fitted 37 = .ok (.iconst 1, 1) := by decide +kernel
theorem dX12_fitted_38 : decode cX12_fitted 38 = .ok (.goto 4, 3) := by decide +kernel
theorem dX12_fitted_41 : decode cX12_fitted 41 = .ok (.iconst 0, 1) := by decide +kernel
theorem dX12_fitted_42 : decode cX12_fitted 42 = .ok (.iadd, 1) := by decide +kernel
theorem dX12_fitted_43 : decode cX12_fitted 43 = .ok (.istore_n 2, 1) := by decide +kernel
theorem dX12_fitted_44 : decode cX12_fitted 44 = .ok (.iinc 3 1, 3) := by decide +kernel
theorem dX12_fitted_47 : decode cX12_fitted 47 = .ok (.goto (-29), 3) := by decide +kernel
theorem dX12_fitted_50 : decode cX12_fitted 50 = .ok (.bipush 10, 2) := by decide +kernel
theorem dX12_fitted_52 : decode cX12_fitted 52 = .ok (.bipush 9, 2) := by decide +kernel
theorem dX12_fitted_54 : decode cX12_fitted 54 = .ok (.iload_n 2, 1) := by decide +kernel
theorem dX12_fitted_55 : decode cX12_fitted 55 = .ok (.imul, 1) := by decide +kernel
theorem dX12_fitted_56 : decode cX12_fitted 56 = .ok (.aload_n 0, 1) := by decide +kernel
theorem dX12_fitted_57 : decode cX12_fitted 57 = .ok (.getfield 120, 3) := by decide +kernel
theorem dX12_fitted_60 : decode cX12_fitted 60 = .ok (.idiv, 1) := by decide +kernel
theorem dX12_fitted_61 : decode cX12_fitted 61 = .ok (.isub, 1) := by decide +kernel
theorem dX12_fitted_62 : decode cX12_fitted 62 = .ok (.ireturn, 1) := by decide +kernel
theorem dX12_isChange_0 : decode cX12_isChange 0 = .ok (.iload_n 0, 1) := by decide +kernel
theorem dX12_isChange_1 : decode cX12_isChange 1 = .ok (.i2l, 1) := by decide +kernel
theorem dX12_isChange_2 : decode cX12_isChange 2 = .ok (.lconst 0, 1) := by decide +kernel
theorem dX12_isChange_3 : decode cX12_isChange 3 = .ok (.ldc2_w 123, 3) := by decide +kernel
theorem dX12_isChange_6 : decode cX12_isChange 6 = .ok (.invokestatic 80, 3) := by decide +kernel
theorem dX12_isChange_9 : decode cX12_isChange 9 = .ok (.ireturn, 1) := by decide +kernel
theorem dX12_price_0 : decode cX12_price 0 = .ok (.iload_n 1, 1) := by decide +kernel
theorem dX12_price_1 : decode cX12_price 1 = .ok (.invokestatic 125, 3) := by decide +kernel
theorem dX12_price_4 : decode cX12_price 4 = .ok (.ifCond .ne 7, 3) := by decide +kernel
theorem dX12_price_7 : decode cX12_price 7 = .ok (.iconst (-1), 1) := by decide +kernel
theorem dX12_price_8 : decode cX12_price 8 = .ok (.goto 21, 3) := by decide +kernel
theorem dX12_price_11 : decode cX12_price 11 = .ok (.iload_n 2, 1) := by decide +kernel
theorem dX12_price_12 : decode cX12_price 12 = .ok (.ifCond .eq 11, 3) := by decide +kernel
theorem dX12_price_15 : decode cX12_price 15 = .ok (.aload_n 0, 1) := by decide +kernel
theorem dX12_price_16 : decode cX12_price 16 = .ok (.iload_n 1, 1) := by decide +kernel
theorem dX12_price_17 : decode cX12_price 17 = .ok (.invokevirtual 128, 3) := by decide +kernel
theorem dX12_price_20 : decode cX12_price 20 = .ok (.goto 9, 3) := by decide +kernel
theorem dX12_price_23 : decode cX12_price 23 = .ok (.aload_n 0, 1) := by decide +kernel
theorem dX12_price_24 : decode cX12_price 24 = .ok (.getfield 25, 3) := by decide +kernel
theorem dX12_price_27 : decode cX12_price 27 = .ok (.iload_n 1, 1) := by decide +kernel
theorem dX12_price_28 : decode cX12_price 28 = .ok (.iaload, 1) := by decide +kernel
theorem dX12_price_29 : decode cX12_price 29 = .ok (.ireturn, 1) := by decide +kernel
theorem dX12_isSentence_0 : decode cX12_isSentence 0 = .ok (.iload_n 0, 1) := by decide +kernel
theorem dX12_isSentence_1 : decode cX12_isSentence 1 = .ok (.i2l, 1) := by decide +kernel
theorem dX12_isSentence_2 : decode cX12_isSentence 2 = .ok (.lconst 0, 1) := by decide +kernel
theorem dX12_isSentence_3 : decode cX12_isSentence 3 = .ok (.ldc2_w 132, 3) := by decide +kernel
theorem dX12_isSentence_6 : decode cX12_isSentence 6 = .ok (.invokestatic 80, 3) := by decide +kernel
theorem dX12_isSentence_9 : decode cX12_isSentence 9 = .ok (.ireturn, 1) := by decide +kernel
theorem dX12_word_0 : decode cX12_word 0 = .ok (.iload_n 1, 1) := by decide +kernel
theorem dX12_word_1 : decode cX12_word 1 = .ok (.invokestatic 134, 3) := by decide +kernel
theorem dX12_word_4 : decode cX12_word 4 = .ok (.ifCond .eq 21, 3) := by decide +kernel
theorem dX12_word_7 : decode cX12_word 7 = .ok (.iload_n 2, 1) := by decide +kernel
theorem dX12_word_8 : decode cX12_word 8 = .ok (.i2l, 1) := by decide +kernel
theorem dX12_word_9 : decode cX12_word 9 = .ok (.lconst 0, 1) := by decide +kernel
theorem dX12_word_10 : decode cX12_word 10 = .ok (.aload_n 0, 1) := by decide +kernel
theorem dX12_word_11 : decode cX12_word 11 = .ok (.getfield 13, 3) := by decide +kernel
theorem dX12_word_14 : decode cX12_word 14 = .ok (.iconst 0, 1) := by decide +kernel
theorem dX12_word_15 : decode cX12_word 15 = .ok (.iaload, 1) := by decide +kernel
theorem dX12_word_16 : decode cX12_word 16 = .ok (.iconst 1, 1) := by decide +kernel
theorem dX12_word_17 : decode cX12_word 17 = .ok (.isub, 1) := by decide +kernel
theorem dX12_word_18 : decode cX12_word 18 = .ok (.i2l, 1) := by decide +kernel
theorem dX12_word_19 : decode cX12_word 19 = .ok (.invokestatic 80, 3) := by decide +kernel
theorem dX12_word_22 : decode cX12_word 22 = .ok (.ifCond .ne 5, 3) := by decide +kernel
theorem dX12_word_25 : decode cX12_word 25 = .ok (.iconst (-1), 1) := by decide +kernel
theorem dX12_word_26 : decode cX12_word 26 = .ok (.ireturn, 1) := by decide +kernel
theorem dX12_word_27 : decode cX12_word 27 = .ok (.aload_n 0, 1) := by decide +kernel
theorem dX12_word_28 : decode cX12_word 28 = .ok (.getfield 28, 3) := by decide +kernel
theorem dX12_word_31 : decode cX12_word 31 = .ok (.iload_n 1, 1) := by decide +kernel
theorem dX12_word_32 : decode cX12_word 32 = .ok (.iaload, 1) := by decide +kernel
theorem dX12_word_33 : decode cX12_word 33 = .ok (.bipush 8, 2) := by decide +kernel
theorem dX12_word_35 : decode cX12_word 35 = .ok (.if_icmp .ne 6, 3) := by decide +kernel
theorem dX12_word_38 : decode cX12_word 38 = .ok (.bipush (-3), 2) := by decide +kernel
theorem dX12_word_40 : decode cX12_word 40 = .ok (.ireturn, 1) := by decide +kernel
theorem dX12_word_41 : decode cX12_word 41 = .ok (.aload_n 0, 1) := by decide +kernel
theorem dX12_word_42 : decode cX12_word 42 = .ok (.getfield 31, 3) := by decide +kernel
theorem dX12_word_45 : decode cX12_word 45 = .ok (.bipush 10, 2) := by decide +kernel
theorem dX12_word_47 : decode cX12_word 47 = .ok (.iload_n 1, 1) := by decide +kernel
theorem dX12_word_48 : decode cX12_word 48 = .ok (.imul, 1) := by decide +kernel
theorem dX12_word_49 : decode cX12_word 49 = .ok (.aload_n 0, 1) := by decide +kernel
theorem dX12_word_50 : decode cX12_word 50 = .ok (.getfield 28, 3) := by decide +kernel
theorem dX12_word_53 : decode cX12_word 53 = .ok (.iload_n 1, 1) := by decide +kernel
theorem dX12_word_54 : decode cX12_word 54 = .ok (.iaload, 1) := by decide +kernel
theorem dX12_word_55 : decode cX12_word 55 = .ok (.iadd, 1) := by decide +kernel
theorem dX12_word_56 : decode cX12_word 56 = .ok (.iload_n 2, 1) := by decide +kernel
theorem dX12_word_57 : decode cX12_word 57 = .ok (.iastore, 1) := by decide +kernel
theorem dX12_word_58 : decode cX12_word 58 = .ok (.aload_n 0, 1) := by decide +kernel
theorem dX12_word_59 : decode cX12_word 59 = .ok (.getfield 28, 3) := by decide +kernel
theorem dX12_word_62 : decode cX12_word 62 = .ok (.iload_n 1, 1) := by decide +kernel
theorem dX12_word_63 : decode cX12_word 63 = .ok (.dup2, 1) := by decide +kernel
theorem dX12_word_64 : decode cX12_word 64 = .ok (.iaload, 1) := by decide +kernel
theorem dX12_word_65 : decode cX12_word 65 = .ok (.iconst 1, 1) := by decide +kernel
theorem dX12_word_66 : decode cX12_word 66 = .ok (.iadd, 1) := by decide +kernel
theorem dX12_word_67 : decode cX12_word 67 = .ok (.iastore, 1) := by decide +kernel
theorem dX12_word_68 : decode cX12_word 68 = .ok (.aload_n 0, 1) := by decide +kernel
theorem dX12_word_69 : decode cX12_word 69 = .ok (.getfield 28, 3) := by decide +kernel
theorem dX12_word_72 : decode cX12_word 72 = .ok (.iload_n 1, 1) := by decide +kernel
theorem dX12_word_73 : decode cX12_word 73 = .ok (.iaload, 1) := by decide +kernel
theorem dX12_word_74 : decode cX12_word 74 = .ok (.ireturn, 1) := by decide +kernel
theorem dX12_clear_0 : decode cX12_clear 0 = .ok (.iload_n 1, 1) := by decide +kernel
theorem dX12_clear_1 : decode cX12_clear 1 = .ok (.invokestatic 134, 3) := by decide +kernel
theorem dX12_clear_4 : decode cX12_clear 4 = .ok (.ifCond .ne 5, 3) := by decide +kernel
theorem dX12_clear_7 : decode cX12_clear 7 = .ok (.iconst (-1), 1) := by decide +kernel
theorem dX12_clear_8 : decode cX12_clear 8 = .ok (.ireturn, 1) := by decide +kernel
theorem dX12_clear_9 : decode cX12_clear 9 = .ok (.aload_n 0, 1) := by decide +kernel
theorem dX12_clear_10 : decode cX12_clear 10 = .ok (.getfield 28, 3) := by decide +kernel
theorem dX12_clear_13 : decode cX12_clear 13 = .ok (.iload_n 1, 1) := by decide +kernel
theorem dX12_clear_14 : decode cX12_clear 14 = .ok (.iaload, 1) := by decide +kernel
theorem dX12_clear_15 : decode cX12_clear 15 = .ok (.istore_n 2, 1) := by decide +kernel
theorem dX12_clear_16 : decode cX12_clear 16 = .ok (.aload_n 0, 1) := by decide +kernel
theorem dX12_clear_17 : decode cX12_clear 17 = .ok (.getfield 28, 3) := by decide +kernel
theorem dX12_clear_20 : decode cX12_clear 20 = .ok (.iload_n 1, 1) := by decide +kernel
theorem dX12_clear_21 : decode cX12_clear 21 = .ok (.iconst 0, 1) := by decide +kernel
theorem dX12_clear_22 : decode cX12_clear 22 = .ok (.iastore, 1) := by decide +kernel
theorem dX12_clear_23 : decode cX12_clear 23 = .ok (.aload_n 0, 1) := by decide +kernel
theorem dX12_clear_24 : decode cX12_clear 24 = .ok (.getfield 34, 3) := by decide +kernel
theorem dX12_clear_27 : decode cX12_clear 27 = .ok (.iload_n 1, 1) := by decide +kernel
theorem dX12_clear_28 : decode cX12_clear 28 = .ok (.iconst 0, 1) := by decide +kernel
theorem dX12_clear_29 : decode cX12_clear 29 = .ok (.iastore, 1) := by decide +kernel
theorem dX12_clear_30 : decode cX12_clear 30 = .ok (.iload_n 2, 1) := by decide +kernel
theorem dX12_clear_31 : decode cX12_clear 31 = .ok (.ireturn, 1) := by decide +kernel
theorem dX12_quote_0 : decode cX12_quote 0 = .ok (.iload_n 1, 1) := by decide +kernel
theorem dX12_quote_1 : decode cX12_quote 1 = .ok (.invokestatic 134, 3) := by decide +kernel
theorem dX12_quote_4 : decode cX12_quote 4 = .ok (.ifCond .eq 15, 3) := by decide +kernel
theorem dX12_quote_7 : decode cX12_quote 7 = .ok (.iload_n 2, 1) := by decide +kernel
theorem dX12_quote_8 : decode cX12_quote 8 = .ok (.i2l, 1) := by decide +kernel
theorem dX12_quote_9 : decode cX12_quote 9 = .ok (.lconst 0, 1) := by decide +kernel
theorem dX12_quote_10 : decode cX12_quote 10 = .ok (.ldc2_w 88, 3) := by decide +kernel
theorem dX12_quote_13 : decode cX12_quote 13 = .ok (.invokestatic 80, 3) := by decide +kernel
theorem dX12_quote_16 : decode cX12_quote 16 = .ok (.ifCond .ne 5, 3) := by decide +kernel
theorem dX12_quote_19 : decode cX12_quote 19 = .ok (.iconst (-1), 1) := by decide +kernel
theorem dX12_quote_20 : decode cX12_quote 20 = .ok (.ireturn, 1) := by decide +kernel
theorem dX12_quote_21 : decode cX12_quote 21 = .ok (.aload_n 0, 1) := by decide +kernel
theorem dX12_quote_22 : decode cX12_quote 22 = .ok (.getfield 34, 3) := by decide +kernel
theorem dX12_quote_25 : decode cX12_quote 25 = .ok (.iload_n 1, 1) := by decide +kernel
theorem dX12_quote_26 : decode cX12_quote 26 = .ok (.iaload, 1) := by decide +kernel
theorem dX12_quote_27 : decode cX12_quote 27 = .ok (.istore_n 3, 1) := by decide +kernel
theorem dX12_quote_28 : decode cX12_quote 28 = .ok (.aload_n 0, 1) := by decide +kernel
theorem dX12_quote_29 : decode cX12_quote 29 = .ok (.getfield 34, 3) := by decide +kernel
theorem dX12_quote_32 : decode cX12_quote 32 = .ok (.iload_n 1, 1) := by decide +kernel
theorem dX12_quote_33 : decode cX12_quote 33 = .ok (.iload_n 2, 1) := by decide +kernel
theorem dX12_quote_34 : decode cX12_quote 34 = .ok (.iastore, 1) := by decide +kernel
theorem dX12_quote_35 : decode cX12_quote 35 = .ok (.iload_n 3, 1) := by decide +kernel
theorem dX12_quote_36 : decode cX12_quote 36 = .ok (.ireturn, 1) := by decide +kernel
theorem dX12_marksOf_0 : decode cX12_marksOf 0 = .ok (.aload_n 0, 1) := by decide +kernel
theorem dX12_marksOf_1 : decode cX12_marksOf 1 = .ok (.getfield 49, 3) := by decide +kernel
theorem dX12_marksOf_4 : decode cX12_marksOf 4 = .ok (.bipush 9, 2) := by decide +kernel
theorem dX12_marksOf_6 : decode cX12_marksOf 6 = .ok (.iload_n 1, 1) := by decide +kernel
theorem dX12_marksOf_7 : decode cX12_marksOf 7 = .ok (.imul, 1) := by decide +kernel
theorem dX12_marksOf_8 : decode cX12_marksOf 8 = .ok (.iload_n 2, 1) := by decide +kernel
theorem dX12_marksOf_9 : decode cX12_marksOf 9 = .ok (.iadd, 1) := by decide +kernel
theorem dX12_marksOf_10 : decode cX12_marksOf 10 = .ok (.laload, 1) := by decide +kernel
theorem dX12_marksOf_11 : decode cX12_marksOf 11 = .ok (.iconst 4, 1) := by decide +kernel
theorem dX12_marksOf_12 : decode cX12_marksOf 12 = .ok (.iload_n 3, 1) := by decide +kernel
theorem dX12_marksOf_13 : decode cX12_marksOf 13 = .ok (.imul, 1) := by decide +kernel
theorem dX12_marksOf_14 : decode cX12_marksOf 14 = .ok (.lshr, 1) := by decide +kernel
theorem dX12_marksOf_15 : decode cX12_marksOf 15 = .ok (.ldc2_w 137, 3) := by decide +kernel
theorem dX12_marksOf_18 : decode cX12_marksOf 18 = .ok (.land, 1) := by decide +kernel
theorem dX12_marksOf_19 : decode cX12_marksOf 19 = .ok (.l2i, 1) := by decide +kernel
theorem dX12_marksOf_20 : decode cX12_marksOf 20 = .ok (.ireturn, 1) := by decide +kernel
theorem dX12_laySpans_0 : decode cX12_laySpans 0 = .ok (.iconst 1, 1) := by decide +kernel
theorem dX12_laySpans_1 : decode cX12_laySpans 1 = .ok (.istore_n 3, 1) := by decide +kernel
theorem dX12_laySpans_2 : decode cX12_laySpans 2 = .ok (.iload_n 3, 1) := by decide +kernel
theorem dX12_laySpans_3 : decode cX12_laySpans 3 = .ok (.aload_n 0, 1) := by decide +kernel
theorem dX12_laySpans_4 : decode cX12_laySpans 4 = .ok (.getfield 28, 3) := by decide +kernel
theorem dX12_laySpans_7 : decode cX12_laySpans 7 = .ok (.iload_n 1, 1) := by decide +kernel
theorem dX12_laySpans_8 : decode cX12_laySpans 8 = .ok (.iaload, 1) := by decide +kernel
theorem dX12_laySpans_9 : decode cX12_laySpans 9 = .ok (.if_icmp .gt 282, 3) := by decide +kernel
theorem dX12_laySpans_12 : decode cX12_laySpans 12 = .ok (.iconst 0, 1) := by decide +kernel
theorem dX12_laySpans_13 : decode cX12_laySpans 13 = .ok (.istore 4, 2) := by decide +kernel
theorem dX12_laySpans_15 : decode cX12_laySpans 15 = .ok (.iload 4, 2) := by decide +kernel
theorem dX12_laySpans_17 : decode cX12_laySpans 17 = .ok (.iload_n 3, 1) := by decide +kernel
theorem dX12_laySpans_18 : decode cX12_laySpans 18 = .ok (.iadd, 1) := by decide +kernel
theorem dX12_laySpans_19 : decode cX12_laySpans 19 = .ok (.aload_n 0, 1) := by decide +kernel
theorem dX12_laySpans_20 : decode cX12_laySpans 20 = .ok (.getfield 28, 3) := by decide +kernel
theorem dX12_laySpans_23 : decode cX12_laySpans 23 = .ok (.iload_n 1, 1) := by decide +kernel
theorem dX12_laySpans_24 : decode cX12_laySpans 24 = .ok (.iaload, 1) := by decide +kernel
theorem dX12_laySpans_25 : decode cX12_laySpans 25 = .ok (.if_icmp .gt 260, 3) := by decide +kernel
theorem dX12_laySpans_28 : decode cX12_laySpans 28 = .ok (.iconst 4, 1) := by decide +kernel
theorem dX12_laySpans_29 : decode cX12_laySpans 29 = .ok (.aload_n 0, 1) := by decide +kernel
theorem dX12_laySpans_30 : decode cX12_laySpans 30 = .ok (.getfield 31, 3) := by decide +kernel
theorem dX12_laySpans_33 : decode cX12_laySpans 33 = .ok (.bipush 10, 2) := by decide +kernel
theorem dX12_laySpans_35 : decode cX12_laySpans 35 = .ok (.iload_n 1, 1) := by decide +kernel
theorem dX12_laySpans_36 : decode cX12_laySpans 36 = .ok (.imul, 1) := by decide +kernel
theorem dX12_laySpans_37 : decode cX12_laySpans 37 = .ok (.iload 4, 2) := by decide +kernel
theorem dX12_laySpans_39 : decode cX12_laySpans 39 = .ok (.iadd, 1) := by decide +kernel
theorem dX12_laySpans_40 : decode cX12_laySpans 40 = .ok (.iaload, 1) := by decide +kernel
theorem dX12_laySpans_41 : decode cX12_laySpans 41 = .ok (.imul, 1) := by decide +kernel
theorem dX12_laySpans_42 : decode cX12_laySpans 42 = .ok (.istore 5, 2) := by decide +kernel
theorem dX12_laySpans_44 : decode cX12_laySpans 44 = .ok (.aload_n 0, 1) := by decide +kernel
theorem dX12_laySpans_45 : decode cX12_laySpans 45 = .ok (.getfield 49, 3) := by decide +kernel
theorem dX12_laySpans_48 : decode cX12_laySpans 48 = .ok (.bipush 9, 2) := by decide +kernel
theorem dX12_laySpans_50 : decode cX12_laySpans 50 = .ok (.iload 4, 2) := by decide +kernel
theorem dX12_laySpans_52 : decode cX12_laySpans 52 = .ok (.imul, 1) := by decide +kernel
theorem dX12_laySpans_53 : decode cX12_laySpans 53 = .ok (.iload_n 3, 1) := by decide +kernel
theorem dX12_laySpans_54 : decode cX12_laySpans 54 = .ok (.iadd, 1) := by decide +kernel
theorem dX12_laySpans_55 : decode cX12_laySpans 55 = .ok (.iload_n 3, 1) := by decide +kernel
theorem dX12_laySpans_56 : decode cX12_laySpans 56 = .ok (.iconst 1, 1) := by decide +kernel
theorem dX12_laySpans_57 : decode cX12_laySpans 57 = .ok (.if_icmp .ne 27, 3) := by decide +kernel
theorem dX12_laySpans_60 : decode cX12_laySpans 60 = .ok (.lconst 1, 1) := by decide +kernel
theorem dX12_laySpans_61 : decode cX12_laySpans 61 = .ok (.iconst 4, 1) := by decide +kernel
theorem dX12_laySpans_62 : decode cX12_laySpans 62 = .ok (.aload_n 0, 1) := by decide +kernel
theorem dX12_laySpans_63 : decode cX12_laySpans 63 = .ok (.getfield 16, 3) := by decide +kernel
theorem dX12_laySpans_66 : decode cX12_laySpans 66 = .ok (.iload 5, 2) := by decide +kernel
theorem dX12_laySpans_68 : decode cX12_laySpans 68 = .ok (.iaload, 1) := by decide +kernel
theorem dX12_laySpans_69 : decode cX12_laySpans 69 = .ok (.imul, 1) := by decide +kernel
theorem dX12_laySpans_70 : decode cX12_laySpans 70 = .ok (.aload_n 0, 1) := by decide +kernel
theorem dX12_laySpans_71 : decode cX12_laySpans 71 = .ok (.getfield 16, 3) := by decide +kernel
theorem dX12_laySpans_74 : decode cX12_laySpans 74 = .ok (.iload 5, 2) := by decide +kernel
theorem dX12_laySpans_76 : decode cX12_laySpans 76 = .ok (.iconst 1, 1) := by decide +kernel
theorem dX12_laySpans_77 : decode cX12_laySpans 77 = .ok (.iadd, 1) := by decide +kernel
theorem dX12_laySpans_78 : decode cX12_laySpans 78 = .ok (.iaload, 1) := by decide +kernel
theorem dX12_laySpans_79 : decode cX12_laySpans 79 = .ok (.iadd, 1) := by decide +kernel
theorem dX12_laySpans_80 : decode cX12_laySpans 80 = .ok (.lshl, 1) := by decide +kernel
theorem dX12_laySpans_81 : decode cX12_laySpans 81 = .ok (.goto 4, 3) := by decide +kernel
theorem dX12_laySpans_84 : decode cX12_laySpans 84 = .ok (.lconst 0, 1) := by decide +kernel
theorem dX12_laySpans_85 : decode cX12_laySpans 85 = .ok (.lastore, 1) := by decide +kernel
theorem dX12_laySpans_86 : decode cX12_laySpans 86 = .ok (.iconst 1, 1) := by decide +kernel
theorem dX12_laySpans_87 : decode cX12_laySpans 87 = .ok (.istore 6, 2) := by decide +kernel
theorem dX12_laySpans_89 : decode cX12_laySpans 89 = .ok (.iload 6, 2) := by decide +kernel
theorem dX12_laySpans_91 : decode cX12_laySpans 91 = .ok (.iload_n 3, 1) := by decide +kernel
theorem dX12_laySpans_92 : decode cX12_laySpans 92 = .ok (.if_icmp .ge 187, 3) := by decide +kernel
theorem dX12_laySpans_95 : decode cX12_laySpans 95 = .ok (.iconst 0, 1) := by decide +kernel
theorem dX12_laySpans_96 : decode cX12_laySpans 96 = .ok (.istore 7, 2) := by decide +kernel
theorem dX12_laySpans_98 : decode cX12_laySpans 98 = .ok (.iload 7, 2) := by decide +kernel
theorem dX12_laySpans_100 : decode cX12_laySpans 100 = .ok (.aload_n 0, 1) := by decide +kernel
theorem dX12_laySpans_101 : decode cX12_laySpans 101 = .ok (.getfield 19, 3) := by decide +kernel
theorem dX12_laySpans_104 : decode cX12_laySpans 104 = .ok (.iconst 0, 1) := by decide +kernel
theorem dX12_laySpans_105 : decode cX12_laySpans 105 = .ok (.iaload, 1) := by decide +kernel
theorem dX12_laySpans_106 : decode cX12_laySpans 106 = .ok (.if_icmp .ge 167, 3) := by decide +kernel
theorem dX12_laySpans_109 : decode cX12_laySpans 109 = .ok (.aload_n 0, 1) := by decide +kernel
theorem dX12_laySpans_110 : decode cX12_laySpans 110 = .ok (.iload 4, 2) := by decide +kernel
theorem dX12_laySpans_112 : decode cX12_laySpans 112 = .ok (.iload 6, 2) := by decide +kernel
theorem dX12_laySpans_114 : decode cX12_laySpans 114 = .ok (.aload_n 0, 1) := by decide +kernel
theorem dX12_laySpans_115 : decode cX12_laySpans 115 = .ok (.getfield 22, 3) := by decide +kernel
theorem dX12_laySpans_118 : decode cX12_laySpans 118 = .ok (.iconst 5, 1) := by decide +kernel
theorem dX12_laySpans_119 : decode cX12_laySpans 119 = .ok (.iload 7, 2) := by decide +kernel
theorem dX12_laySpans_121 : decode cX12_laySpans 121 = .ok (.imul, 1) := by decide +kernel
theorem dX12_laySpans_122 : decode cX12_laySpans 122 = .ok (.iconst 1, 1) := by decide +kernel
theorem dX12_laySpans_123 : decode cX12_laySpans 123 = .ok (.iadd, 1) := by decide +kernel
theorem dX12_laySpans_124 : decode cX12_laySpans 124 = .ok (.iaload, 1) := by decide +kernel
theorem dX12_laySpans_125 : decode cX12_laySpans 125 = .ok (.invokevirtual 139, 3) := by decide +kernel
theorem dX12_laySpans_128 : decode cX12_laySpans 128 = .ok (.istore 8, 2) := by decide +kernel
theorem dX12_laySpans_130 : decode cX12_laySpans 130 = .ok (.aload_n 0, 1) := by decide +kernel
theorem dX12_laySpans_131 : decode cX12_laySpans 131 = .ok (.iload 4, 2) := by decide +kernel
theorem dX12_laySpans_133 : decode cX12_laySpans 133 = .ok (.iload 6, 2) := by decide +kernel
theorem dX12_laySpans_135 : decode cX12_laySpans 135 = .ok (.iadd, 1) := by decide +kernel
theorem dX12_laySpans_136 : decode cX12_laySpans 136 = .ok (.iload_n 3, 1) := by decide +kernel
theorem dX12_laySpans_137 : decode cX12_laySpans 137 = .ok (.iload 6, 2) := by decide +kernel
theorem dX12_laySpans_139 : decode cX12_laySpans 139 = .ok (.isub, 1) := by decide +kernel
theorem dX12_laySpans_140 : decode cX12_laySpans 140 = .ok (.aload_n 0, 1) := by decide +kernel
theorem dX12_laySpans_141 : decode cX12_laySpans 141 = .ok (.getfield 22, 3) := by decide +kernel
theorem dX12_laySpans_144 : decode cX12_laySpans 144 = .ok (.iconst 5, 1) := by decide +kernel
theorem dX12_laySpans_145 : decode cX12_laySpans 145 = .ok (.iload 7, 2) := by decide +kernel
theorem dX12_laySpans_147 : decode cX12_laySpans 147 = .ok (.imul, 1) := by decide +kernel
theorem dX12_laySpans_148 : decode cX12_laySpans 148 = .ok (.iconst 2, 1) := by decide +kernel
theorem dX12_laySpans_149 : decode cX12_laySpans 149 = .ok (.iadd, 1) := by decide +kernel
theorem dX12_laySpans_150 : decode cX12_laySpans 150 = .ok (.iaload, 1) := by decide +kernel
theorem dX12_laySpans_151 : decode cX12_laySpans 151 = .ok (.invokevirtual 139, 3) := by decide +kernel
theorem dX12_laySpans_154 : decode cX12_laySpans 154 = .ok (.istore 9, 2) := by decide +kernel
theorem dX12_laySpans_156 : decode cX12_laySpans 156 = .ok (.aload_n 0, 1) := by decide +kernel
theorem dX12_laySpans_157 : decode cX12_laySpans 157 = .ok (.getfield 22, 3) := by decide +kernel
theorem dX12_laySpans_160 : decode cX12_laySpans 160 = .ok (.iconst 5, 1) := by decide +kernel
theorem dX12_laySpans_161 : decode cX12_laySpans 161 = .ok (.iload 7, 2) := by decide +kernel
theorem dX12_laySpans_163 : decode cX12_laySpans 163 = .ok (.imul, 1) := by decide +kernel
theorem dX12_laySpans_164 : decode cX12_laySpans 164 = .ok (.iconst 3, 1) := by decide +kernel
theorem dX12_laySpans_165 : decode cX12_laySpans 165 = .ok (.iadd, 1) := by decide +kernel
theorem dX12_laySpans_166 : decode cX12_laySpans 166 = .ok (.iaload, 1) := by decide +kernel
theorem dX12_laySpans_167 : decode cX12_laySpans 167 = .ok (.iconst 1, 1) := by decide +kernel
theorem dX12_laySpans_168 : decode cX12_laySpans 168 = .ok (.if_icmp .ne 16, 3) := by decide +kernel
theorem dX12_laySpans_171 : decode cX12_laySpans 171 = .ok (.iload_n 2, 1) := by decide +kernel
theorem dX12_laySpans_172 : decode cX12_laySpans 172 = .ok (.iload 7, 2) := by decide +kernel
theorem dX12_laySpans_174 : decode cX12_laySpans 174 = .ok (.invokestatic 143, 3) := by decide +kernel
theorem dX12_laySpans_177 : decode cX12_laySpans 177 = .ok (.ifCond .ne 7, 3) := by decide +kernel
theorem dX12_laySpans_180 : decode cX12_laySpans 180 = .ok (.iconst 1, 1) := by decide +kernel
theorem dX12_laySpans_181 : decode cX12_laySpans 181 = .ok (.goto 4, 3) := by decide +kernel
theorem dX12_laySpans_184 : decode cX12_laySpans 184 = .ok (.iconst 0, 1) := by decide +kernel
theorem dX12_laySpans_185 : decode cX12_laySpans 185 = .ok (.istore 10, 2) := by decide +kernel
theorem dX12_laySpans_187 : decode cX12_laySpans 187 = .ok (.iload 8, 2) := by decide +kernel
theorem dX12_laySpans_189 : decode cX12_laySpans 189 = .ok (.ifCond .eq 8, 3) := by decide +kernel
theorem dX12_laySpans_192 : decode cX12_laySpans 192 = .ok (.iload 9, 2) := by decide +kernel
theorem dX12_laySpans_194 : decode cX12_laySpans 194 = .ok (.ifCond .ne 7, 3) := by decide +kernel
theorem dX12_laySpans_197 : decode cX12_laySpans 197 = .ok (.iconst 0, 1) := by decide +kernel
theorem dX12_laySpans_198 : decode cX12_laySpans 198 = .ok (.goto 37, 3) := by decide +kernel
theorem dX12_laySpans_201 : decode cX12_laySpans 201 = .ok (.iload 10, 2) := by decide +kernel
theorem dX12_laySpans_203 : decode cX12_laySpans 203 = .ok (.ifCond .eq 11, 3) := by decide +kernel
theorem dX12_laySpans_206 : decode cX12_laySpans 206 = .ok (.iload 8, 2) := by decide +kernel
theorem dX12_laySpans_208 : decode cX12_laySpans 208 = .ok (.iload 9, 2) := by decide +kernel
theorem dX12_laySpans_210 : decode cX12_laySpans 210 = .ok (.iand, 1) := by decide +kernel
theorem dX12_laySpans_211 : decode cX12_laySpans 211 = .ok (.goto 24, 3) := by decide +kernel
theorem dX12_laySpans_214 : decode cX12_laySpans 214 = .ok (.aload_n 0, 1) := by decide +kernel
theorem dX12_laySpans_215 : decode cX12_laySpans 215 = .ok (.getfield 22, 3) := by decide +kernel
theorem dX12_laySpans_218 : decode cX12_laySpans 218 = .ok (.iconst 5, 1) := by decide +kernel
theorem dX12_laySpans_219 : decode cX12_laySpans 219 = .ok (.iload 7, 2) := by decide +kernel
theorem dX12_laySpans_221 : decode cX12_laySpans 221 = .ok (.imul, 1) := by decide +kernel
theorem dX12_laySpans_222 : decode cX12_laySpans 222 = .ok (.iconst 4, 1) := by decide +kernel
theorem dX12_laySpans_223 : decode cX12_laySpans 223 = .ok (.iadd, 1) := by decide +kernel
theorem dX12_laySpans_224 : decode cX12_laySpans 224 = .ok (.iaload, 1) := by decide +kernel
theorem dX12_laySpans_225 : decode cX12_laySpans 225 = .ok (.ifCond .ne 8, 3) := by decide +kernel
theorem dX12_laySpans_228 : decode cX12_laySpans 228 = .ok (.iload 8, 2) := by decide +kernel
theorem dX12_laySpans_230 : decode cX12_laySpans 230 = .ok (.goto 5, 3) := by decide +kernel
theorem dX12_laySpans_233 : decode cX12_laySpans 233 = .ok (.iload 9, 2) := by decide +kernel
theorem dX12_laySpans_235 : decode cX12_laySpans 235 = .ok (.istore 11, 2) := by decide +kernel
theorem dX12_laySpans_237 : decode cX12_laySpans 237 = .ok (.aload_n 0, 1) := by decide +kernel
theorem dX12_laySpans_238 : decode cX12_laySpans 238 = .ok (.getfield 49, 3) := by decide +kernel
theorem dX12_laySpans_241 : decode cX12_laySpans 241 = .ok (.bipush 9, 2) := by decide +kernel
theorem dX12_laySpans_243 : decode cX12_laySpans 243 = .ok (.iload 4, 2) := by decide +kernel
theorem dX12_laySpans_245 : decode cX12_laySpans 245 = .ok (.imul, 1) := by decide +kernel
theorem dX12_laySpans_246 : decode cX12_laySpans 246 = .ok (.iload_n 3, 1) := by decide +kernel
theorem dX12_laySpans_247 : decode cX12_laySpans 247 = .ok (.iadd, 1) := by decide +kernel
theorem dX12_laySpans_248 : decode cX12_laySpans 248 = .ok (.dup2, 1) := by decide +kernel
theorem dX12_laySpans_249 : decode cX12_laySpans 249 = .ok (.laload, 1) := by decide +kernel
theorem dX12_laySpans_250 : decode cX12_laySpans 250 = .ok (.iload 11, 2) := by decide +kernel
theorem dX12_laySpans_252 : decode cX12_laySpans 252 = .ok (.i2l, 1) := by decide +kernel
theorem dX12_laySpans_253 : decode cX12_laySpans 253 = .ok (.iconst 4, 1) := by decide +kernel
theorem dX12_laySpans_254 : decode cX12_laySpans 254 = .ok (.aload_n 0, 1) := by decide +kernel
theorem dX12_laySpans_255 : decode cX12_laySpans 255 = .ok (.getfield 22, 3) := by decide +kernel
theorem dX12_laySpans_258 : decode cX12_laySpans 258 = .ok (.iconst 5, 1) := by decide +kernel
theorem dX12_laySpans_259 : decode cX12_laySpans 259 = .ok (.iload 7, 2) := by decide +kernel
theorem dX12_laySpans_261 : decode cX12_laySpans 261 = .ok (.imul, 1) := by decide +kernel
theorem dX12_laySpans_262 : decode cX12_laySpans 262 = .ok (.iaload, 1) := by decide +kernel
theorem dX12_laySpans_263 : decode cX12_laySpans 263 = .ok (.imul, 1) := by decide +kernel
theorem dX12_laySpans_264 : decode cX12_laySpans 264 = .ok (.lshl, 1) := by decide +kernel
theorem dX12_laySpans_265 : decode cX12_laySpans 265 = .ok (.lor, 1) := by decide +kernel
theorem dX12_laySpans_266 : decode cX12_laySpans 266 = .ok (.lastore, 1) := by decide +kernel
theorem dX12_laySpans_267 : decode cX12_laySpans 267 = .ok (.iinc 7 1, 3) := by decide +kernel
theorem dX12_laySpans_270 : decode cX12_laySpans 270 = .ok (.goto (-172), 3) := by decide +kernel
theorem dX12_laySpans_273 : decode cX12_laySpans 273 = .ok (.iinc 6 1, 3) := by decide +kernel
theorem dX12_laySpans_276 : decode cX12_laySpans 276 = .ok (.goto (-187), 3) := by decide +kernel
theorem dX12_laySpans_279 : decode cX12_laySpans 279 = .ok (.iinc 4 1, 3) := by decide +kernel
theorem dX12_laySpans_282 : decode cX12_laySpans 282 = .ok (.goto (-267), 3) := by decide +kernel
theorem dX12_laySpans_285 : decode cX12_laySpans 285 = .ok (.iinc 3 1, 3) := by decide +kernel
theorem dX12_laySpans_288 : decode cX12_laySpans 288 = .ok (.goto (-286), 3) := by decide +kernel
theorem dX12_laySpans_291 : decode cX12_laySpans 291 = .ok (.return_, 1) := by decide +kernel
theorem dX12_isRead_0 : decode cX12_isRead 0 = .ok (.aload_n 0, 1) := by decide +kernel
theorem dX12_isRead_1 : decode cX12_isRead 1 = .ok (.getfield 28, 3) := by decide +kernel
theorem dX12_isRead_4 : decode cX12_isRead 4 = .ok (.iload_n 1, 1) := by decide +kernel
theorem dX12_isRead_5 : decode cX12_isRead 5 = .ok (.iaload, 1) := by decide +kernel
theorem dX12_isRead_6 : decode cX12_isRead 6 = .ok (.ifCond .ne 5, 3) := by decide +kernel
theorem dX12_isRead_9 : decode cX12_isRead 9 = .ok (.iconst 0, 1) := by decide +kernel
theorem dX12_isRead_10 : decode cX12_isRead 10 = .ok (.ireturn, 1) := by decide +kernel
theorem dX12_isRead_11 : decode cX12_isRead 11 = .ok (.aload_n 0, 1) := by decide +kernel
theorem dX12_isRead_12 : decode cX12_isRead 12 = .ok (.iload_n 1, 1) := by decide +kernel
theorem dX12_isRead_13 : decode cX12_isRead 13 = .ok (.iload_n 2, 1) := by decide +kernel
theorem dX12_isRead_14 : decode cX12_isRead 14 = .ok (.invokevirtual 147, 3) := by decide +kernel
theorem dX12_isRead_17 : decode cX12_isRead 17 = .ok (.aload_n 0, 1) := by decide +kernel
theorem dX12_isRead_18 : decode cX12_isRead 18 = .ok (.iconst 0, 1) := by decide +kernel
theorem dX12_isRead_19 : decode cX12_isRead 19 = .ok (.aload_n 0, 1) := by decide +kernel
theorem dX12_isRead_20 : decode cX12_isRead 20 = .ok (.getfield 28, 3) := by decide +kernel
theorem dX12_isRead_23 : decode cX12_isRead 23 = .ok (.iload_n 1, 1) := by decide +kernel
theorem dX12_isRead_24 : decode cX12_isRead 24 = .ok (.iaload, 1) := by decide +kernel
theorem dX12_isRead_25 : decode cX12_isRead 25 = .ok (.iconst 0, 1) := by decide +kernel
theorem dX12_isRead_26 : decode cX12_isRead 26 = .ok (.invokevirtual 139, 3) := by decide +kernel
theorem dX12_isRead_29 : decode cX12_isRead 29 = .ok (.ifCond .eq 7, 3) := by decide +kernel
theorem dX12_isRead_32 : decode cX12_isRead 32 = .ok (.iconst 1, 1) := by decide +kernel
theorem dX12_isRead_33 : decode cX12_isRead 33 = .ok (.goto 4, 3) := by decide +kernel
theorem dX12_isRead_36 : decode cX12_isRead 36 = .ok (.iconst 0, 1) := by decide +kernel
theorem dX12_isRead_37 : decode cX12_isRead 37 = .ok (.ireturn, 1) := by decide +kernel
theorem dX12_layCounts_0 : decode cX12_layCounts 0 = .ok (.iconst 1, 1) := by decide +kernel
theorem dX12_layCounts_1 : decode cX12_layCounts 1 = .ok (.istore_n 2, 1) := by decide +kernel
theorem dX12_layCounts_2 : decode cX12_layCounts 2 = .ok (.iload_n 2, 1) := by decide +kernel
theorem dX12_layCounts_3 : decode cX12_layCounts 3 = .ok (.aload_n 0, 1) := by decide +kernel
theorem dX12_layCounts_4 : decode cX12_layCounts 4 = .ok (.getfield 28, 3) := by decide +kernel
theorem dX12_layCounts_7 : decode cX12_layCounts 7 = .ok (.iload_n 1, 1) := by decide +kernel
theorem dX12_layCounts_8 : decode cX12_layCounts 8 = .ok (.iaload, 1) := by decide +kernel
theorem dX12_layCounts_9 : decode cX12_layCounts 9 = .ok (.if_icmp .gt 213, 3) := by decide +kernel
theorem dX12_layCounts_12 : decode cX12_layCounts 12 = .ok (.iconst 0, 1) := by decide +kernel
theorem dX12_layCounts_13 : decode cX12_layCounts 13 = .ok (.istore_n 3, 1) := by decide +kernel
theorem dX12_layCounts_14 : decode cX12_layCounts 14 = .ok (.iload_n 3, 1) := by decide +kernel
theorem dX12_layCounts_15 : decode cX12_layCounts 15 = .ok (.iload_n 2, 1) := by decide +kernel
theorem dX12_layCounts_16 : decode cX12_layCounts 16 = .ok (.iadd, 1) := by decide +kernel
theorem dX12_layCounts_17 : decode cX12_layCounts 17 = .ok (.aload_n 0, 1) := by decide +kernel
theorem dX12_layCounts_18 : decode cX12_layCounts 18 = .ok (.getfield 28, 3) := by decide +kernel
theorem dX12_layCounts_21 : decode cX12_layCounts 21 = .ok (.iload_n 1, 1) := by decide +kernel
theorem dX12_layCounts_22 : decode cX12_layCounts 22 = .ok (.iaload, 1) := by decide +kernel
theorem dX12_layCounts_23 : decode cX12_layCounts 23 = .ok (.if_icmp .gt 193, 3) := by decide +kernel
theorem dX12_layCounts_26 : decode cX12_layCounts 26 = .ok (.bipush 40, 2) := by decide +kernel
theorem dX12_layCounts_28 : decode cX12_layCounts 28 = .ok (.bipush 9, 2) := by decide +kernel
theorem dX12_layCounts_30 : decode cX12_layCounts 30 = .ok (.iload_n 3, 1) := by decide +kernel
theorem dX12_layCounts_31 : decode cX12_layCounts 31 = .ok (.imul, 1) := by decide +kernel
theorem dX12_layCounts_32 : decode cX12_layCounts 32 = .ok (.iload_n 2, 1) := by decide +kernel
theorem dX12_layCounts_33 : decode cX12_layCounts 33 = .ok (.iadd, 1) := by decide +kernel
theorem dX12_layCounts_34 : decode cX12_layCounts 34 = .ok (.imul, 1) := by decide +kernel
theorem dX12_layCounts_35 : decode cX12_layCounts 35 = .ok (.istore 4, 2) := by decide +kernel
theorem dX12_layCounts_37 : decode cX12_layCounts 37 = .ok (.iconst 4, 1) := by decide +kernel
theorem dX12_layCounts_38 : decode cX12_layCounts 38 = .ok (.aload_n 0, 1) := by decide +kernel
theorem dX12_layCounts_39 : decode cX12_layCounts 39 = .ok (.getfield 31, 3) := by decide +kernel
theorem dX12_layCounts_42 : decode cX12_layCounts 42 = .ok (.bipush 10, 2) := by decide +kernel
theorem dX12_layCounts_44 : decode cX12_layCounts 44 = .ok (.iload_n 1, 1) := by decide +kernel
theorem dX12_layCounts_45 : decode cX12_layCounts 45 = .ok (.imul, 1) := by decide +kernel
theorem dX12_layCounts_46 : decode cX12_layCounts 46 = .ok (.iload_n 3, 1) := by decide +kernel
theorem dX12_layCounts_47 : decode cX12_layCounts 47 = .ok (.iadd, 1) := by decide +kernel
theorem dX12_layCounts_48 : decode cX12_layCounts 48 = .ok (.iaload, 1) := by decide +kernel
theorem dX12_layCounts_49 : decode cX12_layCounts 49 = .ok (.imul, 1) := by decide +kernel
theorem dX12_layCounts_50 : decode cX12_layCounts 50 = .ok (.istore 5, 2) := by decide +kernel
theorem dX12_layCounts_52 : decode cX12_layCounts 52 = .ok (.iconst 0, 1) := by decide +kernel
theorem dX12_layCounts_53 : decode cX12_layCounts 53 = .ok (.istore 6, 2) := by decide +kernel
theorem dX12_layCounts_55 : decode cX12_layCounts 55 = .ok (.iload 6, 2) := by decide +kernel
theorem dX12_layCounts_57 : decode cX12_layCounts 57 = .ok (.bipush 40, 2) := by decide +kernel
theorem dX12_layCounts_59 : decode cX12_layCounts 59 = .ok (.if_icmp .ge 53, 3) := by decide +kernel
theorem dX12_layCounts_62 : decode cX12_layCounts 62 = .ok (.aload_n 0, 1) := by decide +kernel
theorem dX12_layCounts_63 : decode cX12_layCounts 63 = .ok (.getfield 53, 3) := by decide +kernel
theorem dX12_layCounts_66 : decode cX12_layCounts 66 = .ok (.iload 4, 2) := by decide +kernel
theorem dX12_layCounts_68 : decode cX12_layCounts 68 = .ok (.iload 6, 2) := by decide +kernel
theorem dX12_layCounts_70 : decode cX12_layCounts 70 = .ok (.iadd, 1) := by decide +kernel
theorem dX12_layCounts_71 : decode cX12_layCounts 71 = .ok (.iload_n 2, 1) := by decide +kernel
theorem dX12_layCounts_72 : decode cX12_layCounts 72 = .ok (.iconst 1, 1) := by decide +kernel
theorem dX12_layCounts_73 : decode cX12_layCounts 73 = .ok (.if_icmp .ne 31, 3) := by decide +kernel
theorem dX12_layCounts_76 : decode cX12_layCounts 76 = .ok (.iload 6, 2) := by decide +kernel
theorem dX12_layCounts_78 : decode cX12_layCounts 78 = .ok (.iconst 4, 1) := by decide +kernel
theorem dX12_layCounts_79 : decode cX12_layCounts 79 = .ok (.aload_n 0, 1) := by decide +kernel
theorem dX12_layCounts_80 : decode cX12_layCounts 80 = .ok (.getfield 16, 3) := by decide +kernel
theorem dX12_layCounts_83 : decode cX12_layCounts 83 = .ok (.iload 5, 2) := by decide +kernel
theorem dX12_layCounts_85 : decode cX12_layCounts 85 = .ok (.iaload, 1) := by decide +kernel
theorem dX12_layCounts_86 : decode cX12_layCounts 86 = .ok (.imul, 1) := by decide +kernel
theorem dX12_layCounts_87 : decode cX12_layCounts 87 = .ok (.aload_n 0, 1) := by decide +kernel
theorem dX12_layCounts_88 : decode cX12_layCounts 88 = .ok (.getfield 16, 3) := by decide +kernel
theorem dX12_layCounts_91 : decode cX12_layCounts 91 = .ok (.iload 5, 2) := by decide +kernel
theorem dX12_layCounts_93 : decode cX12_layCounts 93 = .ok (.iconst 1, 1) := by decide +kernel
theorem dX12_layCounts_94 : decode cX12_layCounts 94 = .ok (.iadd, 1) := by decide +kernel
theorem dX12_layCounts_95 : decode cX12_layCounts 95 = .ok (.iaload, 1) := by decide +kernel
theorem dX12_layCounts_96 : decode cX12_layCounts 96 = .ok (.iadd, 1) := by decide +kernel
theorem dX12_layCounts_97 : decode cX12_layCounts 97 = .ok (.if_icmp .ne 7, 3) := by decide +kernel
theorem dX12_layCounts_100 : decode cX12_layCounts 100 = .ok (.lconst 1, 1) := by decide +kernel
theorem dX12_layCounts_101 : decode cX12_layCounts 101 = .ok (.goto 4, 3) := by decide +kernel
theorem dX12_layCounts_104 : decode cX12_layCounts 104 = .ok (.lconst 0, 1) := by decide +kernel
theorem dX12_layCounts_105 : decode cX12_layCounts 105 = .ok (.lastore, 1) := by decide +kernel
theorem dX12_layCounts_106 : decode cX12_layCounts 106 = .ok (.iinc 6 1, 3) := by decide +kernel
theorem dX12_layCounts_109 : decode cX12_layCounts 109 = .ok (.goto (-54), 3) := by decide +kernel
theorem dX12_layCounts_112 : decode cX12_layCounts 112 = .ok (.iconst 1, 1) := by decide +kernel
theorem dX12_layCounts_113 : decode cX12_layCounts 113 = .ok (.istore 6, 2) := by decide +kernel
theorem dX12_layCounts_115 : decode cX12_layCounts 115 = .ok (.iload 6, 2) := by decide +kernel
theorem dX12_layCounts_117 : decode cX12_layCounts 117 = .ok (.iload_n 2, 1) := by decide +kernel
theorem dX12_layCounts_118 : decode cX12_layCounts 118 = .ok (.if_icmp .ge 92, 3) := by decide +kernel
theorem dX12_layCounts_121 : decode cX12_layCounts 121 = .ok (.iconst 0, 1) := by decide +kernel
theorem dX12_layCounts_122 : decode cX12_layCounts 122 = .ok (.istore 7, 2) := by decide +kernel
theorem dX12_layCounts_124 : decode cX12_layCounts 124 = .ok (.iload 7, 2) := by decide +kernel
theorem dX12_layCounts_126 : decode cX12_layCounts 126 = .ok (.aload_n 0, 1) := by decide +kernel
theorem dX12_layCounts_127 : decode cX12_layCounts 127 = .ok (.getfield 19, 3) := by decide +kernel
theorem dX12_layCounts_130 : decode cX12_layCounts 130 = .ok (.iconst 0, 1) := by decide +kernel
theorem dX12_layCounts_131 : decode cX12_layCounts 131 = .ok (.iaload, 1) := by decide +kernel
theorem dX12_layCounts_132 : decode cX12_layCounts 132 = .ok (.if_icmp .ge 72, 3) := by decide +kernel
theorem dX12_layCounts_135 : decode cX12_layCounts 135 = .ok (.aload_n 0, 1) := by decide +kernel
theorem dX12_layCounts_136 : decode cX12_layCounts 136 = .ok (.iload 4, 2) := by decide +kernel
theorem dX12_layCounts_138 : decode cX12_layCounts 138 = .ok (.bipush 40, 2) := by decide +kernel
theorem dX12_layCounts_140 : decode cX12_layCounts 140 = .ok (.bipush 9, 2) := by decide +kernel
theorem dX12_layCounts_142 : decode cX12_layCounts 142 = .ok (.iload_n 3, 1) := by decide +kernel
theorem dX12_layCounts_143 : decode cX12_layCounts 143 = .ok (.imul, 1) := by decide +kernel
theorem dX12_layCounts_144 : decode cX12_layCounts 144 = .ok (.iload 6, 2) := by decide +kernel
theorem dX12_layCounts_146 : decode cX12_layCounts 146 = .ok (.iadd, 1) := by decide +kernel
theorem dX12_layCounts_147 : decode cX12_layCounts 147 = .ok (.imul, 1) := by decide +kernel
theorem dX12_layCounts_148 : decode cX12_layCounts 148 = .ok (.iconst 4, 1) := by decide +kernel
theorem dX12_layCounts_149 : decode cX12_layCounts 149 = .ok (.aload_n 0, 1) := by decide +kernel
theorem dX12_layCounts_150 : decode cX12_layCounts 150 = .ok (.getfield 22, 3) := by decide +kernel
theorem dX12_layCounts_153 : decode cX12_layCounts 153 = .ok (.iconst 5, 1) := by decide +kernel
theorem dX12_layCounts_154 : decode cX12_layCounts 154 = .ok (.iload 7, 2) := by decide +kernel
theorem dX12_layCounts_156 : decode cX12_layCounts 156 = .ok (.imul, 1) := by decide +kernel
theorem dX12_layCounts_157 : decode cX12_layCounts 157 = .ok (.iconst 1, 1) := by decide +kernel
theorem dX12_layCounts_158 : decode cX12_layCounts 158 = .ok (.iadd, 1) := by decide +kernel
theorem dX12_layCounts_159 : decode cX12_layCounts 159 = .ok (.iaload, 1) := by decide +kernel
theorem dX12_layCounts_160 : decode cX12_layCounts 160 = .ok (.imul, 1) := by decide +kernel
theorem dX12_layCounts_161 : decode cX12_layCounts 161 = .ok (.iadd, 1) := by decide +kernel
theorem dX12_layCounts_162 : decode cX12_layCounts 162 = .ok (.bipush 40, 2) := by decide +kernel
theorem dX12_layCounts_164 : decode cX12_layCounts 164 = .ok (.bipush 9, 2) := by decide +kernel
theorem dX12_layCounts_166 : decode cX12_layCounts 166 = .ok (.iload_n 3, 1) := by decide +kernel
theorem dX12_layCounts_167 : decode cX12_layCounts 167 = .ok (.iload 6, 2) := by decide +kernel
theorem dX12_layCounts_169 : decode cX12_layCounts 169 = .ok (.iadd, 1) := by decide +kernel
theorem dX12_layCounts_170 : decode cX12_layCounts 170 = .ok (.imul, 1) := by decide +kernel
theorem dX12_layCounts_171 : decode cX12_layCounts 171 = .ok (.iload_n 2, 1) := by decide +kernel
theorem dX12_layCounts_172 : decode cX12_layCounts 172 = .ok (.iadd, 1) := by decide +kernel
theorem dX12_layCounts_173 : decode cX12_layCounts 173 = .ok (.iload 6, 2) := by decide +kernel
theorem dX12_layCounts_175 : decode cX12_layCounts 175 = .ok (.isub, 1) := by decide +kernel
theorem dX12_layCounts_176 : decode cX12_layCounts 176 = .ok (.imul, 1) := by decide +kernel
theorem dX12_layCounts_177 : decode cX12_layCounts 177 = .ok (.iconst 4, 1) := by decide +kernel
theorem dX12_layCounts_178 : decode cX12_layCounts 178 = .ok (.aload_n 0, 1) := by decide +kernel
theorem dX12_layCounts_179 : decode cX12_layCounts 179 = .ok (.getfield 22, 3) := by decide +kernel
theorem dX12_layCounts_182 : decode cX12_layCounts 182 = .ok (.iconst 5, 1) := by decide +kernel
theorem dX12_layCounts_183 : decode cX12_layCounts 183 = .ok (.iload 7, 2) := by decide +kernel
theorem dX12_layCounts_185 : decode cX12_layCounts 185 = .ok (.imul, 1) := by decide +kernel
theorem dX12_layCounts_186 : decode cX12_layCounts 186 = .ok (.iconst 2, 1) := by decide +kernel
theorem dX12_layCounts_187 : decode cX12_layCounts 187 = .ok (.iadd, 1) := by decide +kernel
theorem dX12_layCounts_188 : decode cX12_layCounts 188 = .ok (.iaload, 1) := by decide +kernel
theorem dX12_layCounts_189 : decode cX12_layCounts 189 = .ok (.imul, 1) := by decide +kernel
theorem dX12_layCounts_190 : decode cX12_layCounts 190 = .ok (.iadd, 1) := by decide +kernel
theorem dX12_layCounts_191 : decode cX12_layCounts 191 = .ok (.iconst 5, 1) := by decide +kernel
theorem dX12_layCounts_192 : decode cX12_layCounts 192 = .ok (.iload 7, 2) := by decide +kernel
theorem dX12_layCounts_194 : decode cX12_layCounts 194 = .ok (.imul, 1) := by decide +kernel
theorem dX12_layCounts_195 : decode cX12_layCounts 195 = .ok (.invokevirtual 151, 3) := by decide +kernel
theorem dX12_layCounts_198 : decode cX12_layCounts 198 = .ok (.iinc 7 1, 3) := by decide +kernel
theorem dX12_layCounts_201 : decode cX12_layCounts 201 = .ok (.goto (-77), 3) := by decide +kernel
theorem dX12_layCounts_204 : decode cX12_layCounts 204 = .ok (.iinc 6 1, 3) := by decide +kernel
theorem dX12_layCounts_207 : decode cX12_layCounts 207 = .ok (.goto (-92), 3) := by decide +kernel
theorem dX12_layCounts_210 : decode cX12_layCounts 210 = .ok (.iinc 3 1, 3) := by decide +kernel
theorem dX12_layCounts_213 : decode cX12_layCounts 213 = .ok (.goto (-199), 3) := by decide +kernel
theorem dX12_layCounts_216 : decode cX12_layCounts 216 = .ok (.iinc 2 1, 3) := by decide +kernel
theorem dX12_layCounts_219 : decode cX12_layCounts 219 = .ok (.goto (-217), 3) := by decide +kernel
theorem dX12_layCounts_222 : decode cX12_layCounts 222 = .ok (.return_, 1) := by decide +kernel
theorem dX12_addTrees_0 : decode cX12_addTrees 0 = .ok (.iconst 0, 1) := by decide +kernel
theorem dX12_addTrees_1 : decode cX12_addTrees 1 = .ok (.istore 5, 2) := by decide +kernel
theorem dX12_addTrees_3 : decode cX12_addTrees 3 = .ok (.iload 5, 2) := by decide +kernel
theorem dX12_addTrees_5 : decode cX12_addTrees 5 = .ok (.iconst 4, 1) := by decide +kernel
theorem dX12_addTrees_6 : decode cX12_addTrees 6 = .ok (.if_icmp .ge 101, 3) := by decide +kernel
theorem dX12_addTrees_9 : decode cX12_addTrees 9 = .ok (.iconst 0, 1) := by decide +kernel
theorem dX12_addTrees_10 : decode cX12_addTrees 10 = .ok (.istore 6, 2) := by decide +kernel
theorem dX12_addTrees_12 : decode cX12_addTrees 12 = .ok (.iload 6, 2) := by decide +kernel
theorem dX12_addTrees_14 : decode cX12_addTrees 14 = .ok (.iconst 4, 1) := by decide +kernel
theorem dX12_addTrees_15 : decode cX12_addTrees 15 = .ok (.if_icmp .ge 86, 3) := by decide +kernel
theorem dX12_addTrees_18 : decode cX12_addTrees 18 = .ok (.aload_n 0, 1) := by decide +kernel
theorem dX12_addTrees_19 : decode cX12_addTrees 19 = .ok (.getfield 22, 3) := by decide +kernel
theorem dX12_addTrees_22 : decode cX12_addTrees 22 = .ok (.iload 4, 2) := by decide +kernel
theorem dX12_addTrees_24 : decode cX12_addTrees 24 = .ok (.iconst 3, 1) := by decide +kernel
theorem dX12_addTrees_25 : decode cX12_addTrees 25 = .ok (.iadd, 1) := by decide +kernel
theorem dX12_addTrees_26 : decode cX12_addTrees 26 = .ok (.iaload, 1) := by decide +kernel
theorem dX12_addTrees_27 : decode cX12_addTrees 27 = .ok (.ifCond .eq 10, 3) := by decide +kernel
theorem dX12_addTrees_30 : decode cX12_addTrees 30 = .ok (.iload 5, 2) := by decide +kernel
theorem dX12_addTrees_32 : decode cX12_addTrees 32 = .ok (.iload 6, 2) := by decide +kernel
theorem dX12_addTrees_34 : decode cX12_addTrees 34 = .ok (.if_icmp .ne 61, 3) := by decide +kernel
theorem dX12_addTrees_37 : decode cX12_addTrees 37 = .ok (.aload_n 0, 1) := by decide +kernel
theorem dX12_addTrees_38 : decode cX12_addTrees 38 = .ok (.getfield 53, 3) := by decide +kernel
theorem dX12_addTrees_41 : decode cX12_addTrees 41 = .ok (.iload_n 1, 1) := by decide +kernel
theorem dX12_addTrees_42 : decode cX12_addTrees 42 = .ok (.iconst 4, 1) := by decide +kernel
theorem dX12_addTrees_43 : decode cX12_addTrees 43 = .ok (.aload_n 0, 1) := by decide +kernel
theorem dX12_addTrees_44 : decode cX12_addTrees 44 = .ok (.getfield 22, 3) := by decide +kernel
theorem dX12_addTrees_47 : decode cX12_addTrees 47 = .ok (.iload 4, 2) := by decide +kernel
theorem dX12_addTrees_49 : decode cX12_addTrees 49 = .ok (.iaload, 1) := by decide +kernel
theorem dX12_addTrees_50 : decode cX12_addTrees 50 = .ok (.imul, 1) := by decide +kernel
theorem dX12_addTrees_51 : decode cX12_addTrees 51 = .ok (.iadd, 1) := by decide +kernel
theorem dX12_addTrees_52 : decode cX12_addTrees 52 = .ok (.aload_n 0, 1) := by decide +kernel
theorem dX12_addTrees_53 : decode cX12_addTrees 53 = .ok (.getfield 22, 3) := by decide +kernel
theorem dX12_addTrees_56 : decode cX12_addTrees 56 = .ok (.iload 4, 2) := by decide +kernel
theorem dX12_addTrees_58 : decode cX12_addTrees 58 = .ok (.iconst 4, 1) := by decide +kernel
theorem dX12_addTrees_59 : decode cX12_addTrees 59 = .ok (.iadd, 1) := by decide +kernel
theorem dX12_addTrees_60 : decode cX12_addTrees 60 = .ok (.iaload, 1) := by decide +kernel
theorem dX12_addTrees_61 : decode cX12_addTrees 61 = .ok (.ifCond .ne 8, 3) := by decide +kernel
theorem dX12_addTrees_64 : decode cX12_addTrees 64 = .ok (.iload 5, 2) := by decide +kernel
theorem dX12_addTrees_66 : decode cX12_addTrees 66 = .ok (.goto 5, 3) := by decide +kernel
theorem dX12_addTrees_69 : decode cX12_addTrees 69 = .ok (.iload 6, 2) := by decide +kernel
theorem dX12_addTrees_71 : decode cX12_addTrees 71 = .ok (.iadd, 1) := by decide +kernel
theorem dX12_addTrees_72 : decode cX12_addTrees 72 = .ok (.dup2, 1) := by decide +kernel
theorem dX12_addTrees_73 : decode cX12_addTrees 73 = .ok (.laload, 1) := by decide +kernel
theorem dX12_addTrees_74 : decode cX12_addTrees 74 = .ok (.aload_n 0, 1) := by decide +kernel
theorem dX12_addTrees_75 : decode cX12_addTrees 75 = .ok (.getfield 53, 3) := by decide +kernel
theorem dX12_addTrees_78 : decode cX12_addTrees 78 = .ok (.iload_n 2, 1) := by decide +kernel
theorem dX12_addTrees_79 : decode cX12_addTrees 79 = .ok (.iload 5, 2) := by decide +kernel
theorem dX12_addTrees_81 : decode cX12_addTrees 81 = .ok (.iadd, 1) := by decide +kernel
theorem dX12_addTrees_82 : decode cX12_addTrees 82 = .ok (.laload, 1) := by decide +kernel
theorem dX12_addTrees_83 : decode cX12_addTrees 83 = .ok (.aload_n 0, 1) := by decide +kernel
theorem dX12_addTrees_84 : decode cX12_addTrees 84 = .ok (.getfield 53, 3) := by decide +kernel
theorem dX12_addTrees_87 : decode cX12_addTrees 87 = .ok (.iload_n 3, 1) := by decide +kernel
theorem dX12_addTrees_88 : decode cX12_addTrees 88 = .ok (.iload 6, 2) := by decide +kernel
theorem dX12_addTrees_90 : decode cX12_addTrees 90 = .ok (.iadd, 1) := by decide +kernel
theorem dX12_addTrees_91 : decode cX12_addTrees 91 = .ok (.laload, 1) := by decide +kernel
theorem dX12_addTrees_92 : decode cX12_addTrees 92 = .ok (.lmul, 1) := by decide +kernel
theorem dX12_addTrees_93 : decode cX12_addTrees 93 = .ok (.ladd, 1) := by decide +kernel
theorem dX12_addTrees_94 : decode cX12_addTrees 94 = .ok (.lastore, 1) := by decide +kernel
theorem dX12_addTrees_95 : decode cX12_addTrees 95 = .ok (.iinc 6 1, 3) := by decide +kernel
theorem dX12_addTrees_98 : decode cX12_addTrees 98 = .ok (.goto (-86), 3) := by decide +kernel
theorem dX12_addTrees_101 : decode cX12_addTrees 101 = .ok (.iinc 5 1, 3) := by decide +kernel
theorem dX12_addTrees_104 : decode cX12_addTrees 104 = .ok (.goto (-101), 3) := by decide +kernel
theorem dX12_addTrees_107 : decode cX12_addTrees 107 = .ok (.return_, 1) := by decide +kernel
theorem dX12_trees_0 : decode cX12_trees 0 = .ok (.iload_n 1, 1) := by decide +kernel
theorem dX12_trees_1 : decode cX12_trees 1 = .ok (.invokestatic 134, 3) := by decide +kernel
theorem dX12_trees_4 : decode cX12_trees 4 = .ok (.ifCond .eq 17, 3) := by decide +kernel
theorem dX12_trees_7 : decode cX12_trees 7 = .ok (.iload_n 2, 1) := by decide +kernel
theorem dX12_trees_8 : decode cX12_trees 8 = .ok (.i2l, 1) := by decide +kernel
theorem dX12_trees_9 : decode cX12_trees 9 = .ok (.ldc2_w 155, 3) := by decide +kernel
theorem dX12_trees_12 : decode cX12_trees 12 = .ok (.ldc2_w 157, 3) := by decide +kernel
theorem dX12_trees_15 : decode cX12_trees 15 = .ok (.invokestatic 80, 3) := by decide +kernel
theorem dX12_trees_18 : decode cX12_trees 18 = .ok (.ifCond .ne 7, 3) := by decide +kernel
theorem dX12_trees_21 : decode cX12_trees 21 = .ok (.ldc2_w 155, 3) := by decide +kernel
theorem dX12_trees_24 : decode cX12_trees 24 = .ok (.lreturn, 1) := by decide +kernel
theorem dX12_trees_25 : decode cX12_trees 25 = .ok (.aload_n 0, 1) := by decide +kernel
theorem dX12_trees_26 : decode cX12_trees 26 = .ok (.getfield 28, 3) := by decide +kernel
theorem dX12_trees_29 : decode cX12_trees 29 = .ok (.iload_n 1, 1) := by decide +kernel
theorem dX12_trees_30 : decode cX12_trees 30 = .ok (.iaload, 1) := by decide +kernel
theorem dX12_trees_31 : decode cX12_trees 31 = .ok (.ifCond .ne 7, 3) := by decide +kernel
theorem dX12_trees_34 : decode cX12_trees 34 = .ok (.ldc2_w 159, 3) := by decide +kernel
theorem dX12_trees_37 : decode cX12_trees 37 = .ok (.lreturn, 1) := by decide +kernel
theorem dX12_trees_38 : decode cX12_trees 38 = .ok (.aload_n 0, 1) := by decide +kernel
theorem dX12_trees_39 : decode cX12_trees 39 = .ok (.iload_n 1, 1) := by decide +kernel
theorem dX12_trees_40 : decode cX12_trees 40 = .ok (.invokevirtual 161, 3) := by decide +kernel
theorem dX12_trees_43 : decode cX12_trees 43 = .ok (.bipush 40, 2) := by decide +kernel
theorem dX12_trees_45 : decode cX12_trees 45 = .ok (.aload_n 0, 1) := by decide +kernel
theorem dX12_trees_46 : decode cX12_trees 46 = .ok (.getfield 28, 3) := by decide +kernel
theorem dX12_trees_49 : decode cX12_trees 49 = .ok (.iload_n 1, 1) := by decide +kernel
theorem dX12_trees_50 : decode cX12_trees 50 = .ok (.iaload, 1) := by decide +kernel
theorem dX12_trees_51 : decode cX12_trees 51 = .ok (.imul, 1) := by decide +kernel
theorem dX12_trees_52 : decode cX12_trees 52 = .ok (.istore_n 3, 1) := by decide +kernel
theorem dX12_trees_53 : decode cX12_trees 53 = .ok (.iload_n 2, 1) := by decide +kernel
theorem dX12_trees_54 : decode cX12_trees 54 = .ok (.ifCond .ge 39, 3) := by decide +kernel
theorem dX12_trees_57 : decode cX12_trees 57 = .ok (.aload_n 0, 1) := by decide +kernel
theorem dX12_trees_58 : decode cX12_trees 58 = .ok (.getfield 53, 3) := by decide +kernel
theorem dX12_trees_61 : decode cX12_trees 61 = .ok (.iload_n 3, 1) := by decide +kernel
theorem dX12_trees_62 : decode cX12_trees 62 = .ok (.laload, 1) := by decide +kernel
theorem dX12_trees_63 : decode cX12_trees 63 = .ok (.aload_n 0, 1) := by decide +kernel
theorem dX12_trees_64 : decode cX12_trees 64 = .ok (.getfield 53, 3) := by decide +kernel
theorem dX12_trees_67 : decode cX12_trees 67 = .ok (.iload_n 3, 1) := by decide +kernel
theorem dX12_trees_68 : decode cX12_trees 68 = .ok (.iconst 1, 1) := by decide +kernel
theorem dX12_trees_69 : decode cX12_trees 69 = .ok (.iadd, 1) := by decide +kernel
theorem dX12_trees_70 : decode cX12_trees 70 = .ok (.laload, 1) := by decide +kernel
theorem dX12_trees_71 : decode cX12_trees 71 = .ok (.ladd, 1) := by decide +kernel
theorem dX12_trees_72 : decode cX12_trees 72 = .ok (.aload_n 0, 1) := by decide +kernel
theorem dX12_trees_73 : decode cX12_trees 73 = .ok (.getfield 53, 3) := by decide +kernel
theorem dX12_trees_76 : decode cX12_trees 76 = .ok (.iload_n 3, 1) := by decide +kernel
theorem dX12_trees_77 : decode cX12_trees 77 = .ok (.iconst 2, 1) := by decide +kernel
theorem dX12_trees_78 : decode cX12_trees 78 = .ok (.iadd, 1) := by decide +kernel
theorem dX12_trees_79 : decode cX12_trees 79 = .ok (.laload, 1) := by decide +kernel
theorem dX12_trees_80 : decode cX12_trees 80 = .ok (.ladd, 1) := by decide +kernel
theorem dX12_trees_81 : decode cX12_trees 81 = .ok (.aload_n 0, 1) := by decide +kernel
theorem dX12_trees_82 : decode cX12_trees 82 = .ok (.getfield 53, 3) := by decide +kernel
theorem dX12_trees_85 : decode cX12_trees 85 = .ok (.iload_n 3, 1) := by decide +kernel
theorem dX12_trees_86 : decode cX12_trees 86 = .ok (.iconst 3, 1) := by decide +kernel
theorem dX12_trees_87 : decode cX12_trees 87 = .ok (.iadd, 1) := by decide +kernel
theorem dX12_trees_88 : decode cX12_trees 88 = .ok (.laload, 1) := by decide +kernel
theorem dX12_trees_89 : decode cX12_trees 89 = .ok (.ladd, 1) := by decide +kernel
theorem dX12_trees_90 : decode cX12_trees 90 = .ok (.goto 11, 3) := by decide +kernel
theorem dX12_trees_93 : decode cX12_trees 93 = .ok (.aload_n 0, 1) := by decide +kernel
theorem dX12_trees_94 : decode cX12_trees 94 = .ok (.getfield 53, 3) := by decide +kernel
theorem dX12_trees_97 : decode cX12_trees 97 = .ok (.iload_n 3, 1) := by decide +kernel
theorem dX12_trees_98 : decode cX12_trees 98 = .ok (.iload_n 2, 1) := by decide +kernel
theorem dX12_trees_99 : decode cX12_trees 99 = .ok (.iadd, 1) := by decide +kernel
theorem dX12_trees_100 : decode cX12_trees 100 = .ok (.laload, 1) := by decide +kernel
theorem dX12_trees_101 : decode cX12_trees 101 = .ok (.lreturn, 1) := by decide +kernel
theorem dX12_part_0 : decode cX12_part 0 = .ok (.iload_n 1, 1) := by decide +kernel
theorem dX12_part_1 : decode cX12_part 1 = .ok (.invokestatic 134, 3) := by decide +kernel
theorem dX12_part_4 : decode cX12_part 4 = .ok (.ifCond .eq 59, 3) := by decide +kernel
theorem dX12_part_7 : decode cX12_part 7 = .ok (.iload_n 2, 1) := by decide +kernel
theorem dX12_part_8 : decode cX12_part 8 = .ok (.i2l, 1) := by decide +kernel
theorem dX12_part_9 : decode cX12_part 9 = .ok (.lconst 0, 1) := by decide +kernel
theorem dX12_part_10 : decode cX12_part 10 = .ok (.ldc2_w 132, 3) := by decide +kernel
theorem dX12_part_13 : decode cX12_part 13 = .ok (.invokestatic 80, 3) := by decide +kernel
theorem dX12_part_16 : decode cX12_part 16 = .ok (.ifCond .eq 47, 3) := by decide +kernel
theorem dX12_part_19 : decode cX12_part 19 = .ok (.iload_n 3, 1) := by decide +kernel
theorem dX12_part_20 : decode cX12_part 20 = .ok (.i2l, 1) := by decide +kernel
theorem dX12_part_21 : decode cX12_part 21 = .ok (.lconst 1, 1) := by decide +kernel
theorem dX12_part_22 : decode cX12_part 22 = .ok (.aload_n 0, 1) := by decide +kernel
theorem dX12_part_23 : decode cX12_part 23 = .ok (.getfield 28, 3) := by decide +kernel
theorem dX12_part_26 : decode cX12_part 26 = .ok (.iload_n 1, 1) := by decide +kernel
theorem dX12_part_27 : decode cX12_part 27 = .ok (.iaload, 1) := by decide +kernel
theorem dX12_part_28 : decode cX12_part 28 = .ok (.iload_n 2, 1) := by decide +kernel
theorem dX12_part_29 : decode cX12_part 29 = .ok (.isub, 1) := by decide +kernel
theorem dX12_part_30 : decode cX12_part 30 = .ok (.i2l, 1) := by decide +kernel
theorem dX12_part_31 : decode cX12_part 31 = .ok (.invokestatic 80, 3) := by decide +kernel
theorem dX12_part_34 : decode cX12_part 34 = .ok (.ifCond .eq 29, 3) := by decide +kernel
theorem dX12_part_37 : decode cX12_part 37 = .ok (.iload 4, 2) := by decide +kernel
theorem dX12_part_39 : decode cX12_part 39 = .ok (.i2l, 1) := by decide +kernel
theorem dX12_part_40 : decode cX12_part 40 = .ok (.lconst 0, 1) := by decide +kernel
theorem dX12_part_41 : decode cX12_part 41 = .ok (.ldc2_w 164, 3) := by decide +kernel
theorem dX12_part_44 : decode cX12_part 44 = .ok (.invokestatic 80, 3) := by decide +kernel
theorem dX12_part_47 : decode cX12_part 47 = .ok (.ifCond .eq 16, 3) := by decide +kernel
theorem dX12_part_50 : decode cX12_part 50 = .ok (.iload 5, 2) := by decide +kernel
theorem dX12_part_52 : decode cX12_part 52 = .ok (.i2l, 1) := by decide +kernel
theorem dX12_part_53 : decode cX12_part 53 = .ok (.lconst 0, 1) := by decide +kernel
theorem dX12_part_54 : decode cX12_part 54 = .ok (.ldc2_w 157, 3) := by decide +kernel
theorem dX12_part_57 : decode cX12_part 57 = .ok (.invokestatic 80, 3) := by decide +kernel
theorem dX12_part_60 : decode cX12_part 60 = .ok (.ifCond .ne 5, 3) := by decide +kernel
theorem dX12_part_63 : decode cX12_part 63 = .ok (.iconst (-1), 1) := by decide +kernel
theorem dX12_part_64 : decode cX12_part 64 = .ok (.ireturn, 1) := by decide +kernel
theorem dX12_part_65 : decode cX12_part 65 = .ok (.aload_n 0, 1) := by decide +kernel
theorem dX12_part_66 : decode cX12_part 66 = .ok (.iload_n 1, 1) := by decide +kernel
theorem dX12_part_67 : decode cX12_part 67 = .ok (.iconst 0, 1) := by decide +kernel
theorem dX12_part_68 : decode cX12_part 68 = .ok (.invokevirtual 147, 3) := by decide +kernel
theorem dX12_part_71 : decode cX12_part 71 = .ok (.aload_n 0, 1) := by decide +kernel
theorem dX12_part_72 : decode cX12_part 72 = .ok (.iload_n 2, 1) := by decide +kernel
theorem dX12_part_73 : decode cX12_part 73 = .ok (.iload_n 3, 1) := by decide +kernel
theorem dX12_part_74 : decode cX12_part 74 = .ok (.iload 4, 2) := by decide +kernel
theorem dX12_part_76 : decode cX12_part 76 = .ok (.invokevirtual 139, 3) := by decide +kernel
theorem dX12_part_79 : decode cX12_part 79 = .ok (.iload 5, 2) := by decide +kernel
theorem dX12_part_81 : decode cX12_part 81 = .ok (.ishr, 1) := by decide +kernel
theorem dX12_part_82 : decode cX12_part 82 = .ok (.iconst 1, 1) := by decide +kernel
theorem dX12_part_83 : decode cX12_part 83 = .ok (.iand, 1) := by decide +kernel
theorem dX12_part_84 : decode cX12_part 84 = .ok (.ireturn, 1) := by decide +kernel
theorem dX12_changes_0 : decode cX12_changes 0 = .ok (.iconst 4, 1) := by decide +kernel
theorem dX12_changes_1 : decode cX12_changes 1 = .ok (.iload_n 1, 1) := by decide +kernel
theorem dX12_changes_2 : decode cX12_changes 2 = .ok (.imul, 1) := by decide +kernel
theorem dX12_changes_3 : decode cX12_changes 3 = .ok (.istore_n 3, 1) := by decide +kernel
theorem dX12_changes_4 : decode cX12_changes 4 = .ok (.iconst 4, 1) := by decide +kernel
theorem dX12_changes_5 : decode cX12_changes 5 = .ok (.iload_n 2, 1) := by decide +kernel
theorem dX12_changes_6 : decode cX12_changes 6 = .ok (.imul, 1) := by decide +kernel
theorem dX12_changes_7 : decode cX12_changes 7 = .ok (.istore 4, 2) := by decide +kernel
theorem dX12_changes_9 : decode cX12_changes 9 = .ok (.ldc 166, 2) := by decide +kernel
theorem dX12_changes_11 : decode cX12_changes 11 = .ok (.istore 5, 2) := by decide +kernel
theorem dX12_changes_13 : decode cX12_changes 13 = .ok (.iconst 0, 1) := by decide +kernel
theorem dX12_changes_14 : decode cX12_changes 14 = .ok (.istore 6, 2) := by decide +kernel
theorem dX12_changes_16 : decode cX12_changes 16 = .ok (.iload 6, 2) := by decide +kernel
theorem dX12_changes_18 : decode cX12_changes 18 = .ok (.iconst 3, 1) := by decide +kernel
theorem dX12_changes_19 : decode cX12_changes 19 = .ok (.if_icmp .ge 84, 3) := by decide +kernel
theorem dX12_changes_22 : decode cX12_changes 22 = .ok (.iload_n 1, 1) := by decide +kernel
theorem dX12_changes_23 : decode cX12_changes 23 = .ok (.iload_n 2, 1) := by decide +kernel
theorem dX12_changes_24 : decode cX12_changes 24 = .ok (.if_icmp .eq 79, 3) := by decide +kernel
theorem dX12_changes_27 : decode cX12_changes 27 = .ok (.iload 6, 2) := by decide +kernel
theorem dX12_changes_29 : decode cX12_changes 29 = .ok (.ifCond .ne 7, 3) := by decide +kernel
theorem dX12_changes_32 : decode cX12_changes 32 = .ok (.iconst 2, 1) := by decide +kernel
theorem dX12_changes_33 : decode cX12_changes 33 = .ok (.goto 14, 3) := by decide +kernel
theorem dX12_changes_36 : decode cX12_changes 36 = .ok (.iload 6, 2) := by decide +kernel
theorem dX12_changes_38 : decode cX12_changes 38 = .ok (.iconst 1, 1) := by decide +kernel
theorem dX12_changes_39 : decode cX12_changes 39 = .ok (.if_icmp .ne 7, 3) := by decide +kernel
theorem dX12_changes_42 : decode cX12_changes 42 = .ok (.iconst 3, 1) := by decide +kernel
theorem dX12_changes_43 : decode cX12_changes 43 = .ok (.goto 4, 3) := by decide +kernel
theorem dX12_changes_46 : decode cX12_changes 46 = .ok (.iconst 0, 1) := by decide +kernel
theorem dX12_changes_47 : decode cX12_changes 47 = .ok (.istore 7, 2) := by decide +kernel
theorem dX12_changes_49 : decode cX12_changes 49 = .ok (.aload_n 0, 1) := by decide +kernel
theorem dX12_changes_50 : decode cX12_changes 50 = .ok (.getfield 16, 3) := by decide +kernel
theorem dX12_changes_53 : decode cX12_changes 53 = .ok (.iload_n 3, 1) := by decide +kernel
theorem dX12_changes_54 : decode cX12_changes 54 = .ok (.iload 7, 2) := by decide +kernel
theorem dX12_changes_56 : decode cX12_changes 56 = .ok (.iadd, 1) := by decide +kernel
theorem dX12_changes_57 : decode cX12_changes 57 = .ok (.iaload, 1) := by decide +kernel
theorem dX12_changes_58 : decode cX12_changes 58 = .ok (.aload_n 0, 1) := by decide +kernel
theorem dX12_changes_59 : decode cX12_changes 59 = .ok (.getfield 16, 3) := by decide +kernel
theorem dX12_changes_62 : decode cX12_changes 62 = .ok (.iload 4, 2) := by decide +kernel
theorem dX12_changes_64 : decode cX12_changes 64 = .ok (.iload 7, 2) := by decide +kernel
theorem dX12_changes_66 : decode cX12_changes 66 = .ok (.iadd, 1) := by decide +kernel
theorem dX12_changes_67 : decode cX12_changes 67 = .ok (.iaload, 1) := by decide +kernel
theorem dX12_changes_68 : decode cX12_changes 68 = .ok (.if_icmp .ne 25, 3) := by decide +kernel
theorem dX12_changes_71 : decode cX12_changes 71 = .ok (.aload_n 0, 1) := by decide +kernel
theorem dX12_changes_72 : decode cX12_changes 72 = .ok (.getfield 59, 3) := by decide +kernel
theorem dX12_changes_75 : decode cX12_changes 75 = .ok (.iload 6, 2) := by decide +kernel
theorem dX12_changes_77 : decode cX12_changes 77 = .ok (.iaload, 1) := by decide +kernel
theorem dX12_changes_78 : decode cX12_changes 78 = .ok (.iload 5, 2) := by decide +kernel
theorem dX12_changes_80 : decode cX12_changes 80 = .ok (.if_icmp .ge 13, 3) := by decide +kernel
theorem dX12_changes_83 : decode cX12_changes 83 = .ok (.aload_n 0, 1) := by decide +kernel
theorem dX12_changes_84 : decode cX12_changes 84 = .ok (.getfield 59, 3) := by decide +kernel
theorem dX12_changes_87 : decode cX12_changes 87 = .ok (.iload 6, 2) := by decide +kernel
theorem dX12_changes_89 : decode cX12_changes 89 = .ok (.iaload, 1) := by decide +kernel
theorem dX12_changes_90 : decode cX12_changes 90 = .ok (.goto 5, 3) := by decide +kernel
theorem dX12_changes_93 : decode cX12_changes 93 = .ok (.iload 5, 2) := by decide +kernel
theorem dX12_changes_95 : decode cX12_changes 95 = .ok (.istore 5, 2) := by decide +kernel
theorem dX12_changes_97 : decode cX12_changes 97 = .ok (.iinc 6 1, 3) := by decide +kernel
theorem dX12_changes_100 : decode cX12_changes 100 = .ok (.goto (-84), 3) := by decide +kernel
theorem dX12_changes_103 : decode cX12_changes 103 = .ok (.iload_n 1, 1) := by decide +kernel
theorem dX12_changes_104 : decode cX12_changes 104 = .ok (.iload_n 2, 1) := by decide +kernel
theorem dX12_changes_105 : decode cX12_changes 105 = .ok (.if_icmp .ne 7, 3) := by decide +kernel
theorem dX12_changes_108 : decode cX12_changes 108 = .ok (.iconst 0, 1) := by decide +kernel
theorem dX12_changes_109 : decode cX12_changes 109 = .ok (.goto 5, 3) := by decide +kernel
theorem dX12_changes_112 : decode cX12_changes 112 = .ok (.iload 5, 2) := by decide +kernel
theorem dX12_changes_114 : decode cX12_changes 114 = .ok (.ireturn, 1) := by decide +kernel
theorem dX12_costAt_0 : decode cX12_costAt 0 = .ok (.bipush 40, 2) := by decide +kernel
theorem dX12_costAt_2 : decode cX12_costAt 2 = .ok (.bipush 10, 2) := by decide +kernel
theorem dX12_costAt_4 : decode cX12_costAt 4 = .ok (.iload_n 1, 1) := by decide +kernel
theorem dX12_costAt_5 : decode cX12_costAt 5 = .ok (.imul, 1) := by decide +kernel
theorem dX12_costAt_6 : decode cX12_costAt 6 = .ok (.iload_n 2, 1) := by decide +kernel
theorem dX12_costAt_7 : decode cX12_costAt 7 = .ok (.iadd, 1) := by decide +kernel
theorem dX12_costAt_8 : decode cX12_costAt 8 = .ok (.imul, 1) := by decide +kernel
theorem dX12_costAt_9 : decode cX12_costAt 9 = .ok (.ireturn, 1) := by decide +kernel
theorem dX12_layLeaves_0 : decode cX12_layLeaves 0 = .ok (.aload_n 0, 1) := by decide +kernel
theorem dX12_layLeaves_1 : decode cX12_layLeaves 1 = .ok (.iload_n 2, 1) := by decide +kernel
theorem dX12_layLeaves_2 : decode cX12_layLeaves 2 = .ok (.iload_n 3, 1) := by decide +kernel
theorem dX12_layLeaves_3 : decode cX12_layLeaves 3 = .ok (.invokevirtual 167, 3) := by decide +kernel
theorem dX12_layLeaves_6 : decode cX12_layLeaves 6 = .ok (.istore 4, 2) := by decide +kernel
theorem dX12_layLeaves_8 : decode cX12_layLeaves 8 = .ok (.iconst 0, 1) := by decide +kernel
theorem dX12_layLeaves_9 : decode cX12_layLeaves 9 = .ok (.istore 5, 2) := by decide +kernel
theorem dX12_layLeaves_11 : decode cX12_layLeaves 11 = .ok (.iload 5, 2) := by decide +kernel
theorem dX12_layLeaves_13 : decode cX12_layLeaves 13 = .ok (.bipush 40, 2) := by decide +kernel
theorem dX12_layLeaves_15 : decode cX12_layLeaves 15 = .ok (.if_icmp .ge 21, 3) := by decide +kernel
theorem dX12_layLeaves_18 : decode cX12_layLeaves 18 = .ok (.aload_n 0, 1) := by decide +kernel
theorem dX12_layLeaves_19 : decode cX12_layLeaves 19 = .ok (.getfield 56, 3) := by decide +kernel
theorem dX12_layLeaves_22 : decode cX12_layLeaves 22 = .ok (.iload 4, 2) := by decide +kernel
theorem dX12_layLeaves_24 : decode cX12_layLeaves 24 = .ok (.iload 5, 2) := by decide +kernel
theorem dX12_layLeaves_26 : decode cX12_layLeaves 26 = .ok (.iadd, 1) := by decide +kernel
theorem dX12_layLeaves_27 : decode cX12_layLeaves 27 = .ok (.ldc 166, 2) := by decide +kernel
theorem dX12_layLeaves_29 : decode cX12_layLeaves 29 = .ok (.iastore, 1) := by decide +kernel
theorem dX12_layLeaves_30 : decode cX12_layLeaves 30 = .ok (.iinc 5 1, 3) := by decide +kernel
theorem dX12_layLeaves_33 : decode cX12_layLeaves 33 = .ok (.goto (-22), 3) := by decide +kernel
theorem dX12_layLeaves_36 : decode cX12_layLeaves 36 = .ok (.iconst 0, 1) := by decide +kernel
theorem dX12_layLeaves_37 : decode cX12_layLeaves 37 = .ok (.istore 5, 2) := by decide +kernel
theorem dX12_layLeaves_39 : decode cX12_layLeaves 39 = .ok (.iload 5, 2) := by decide +kernel
theorem dX12_layLeaves_41 : decode cX12_layLeaves 41 = .ok (.aload_n 0, 1) := by decide +kernel
theorem dX12_layLeaves_42 : decode cX12_layLeaves 42 = .ok (.getfield 13, 3) := by decide +kernel
theorem dX12_layLeaves_45 : decode cX12_layLeaves 45 = .ok (.iconst 0, 1) := by decide +kernel
theorem dX12_layLeaves_46 : decode cX12_layLeaves 46 = .ok (.iaload, 1) := by decide +kernel
theorem dX12_layLeaves_47 : decode cX12_layLeaves 47 = .ok (.if_icmp .ge 143, 3) := by decide +kernel
theorem dX12_layLeaves_50 : decode cX12_layLeaves 50 = .ok (.iload_n 3, 1) := by decide +kernel
theorem dX12_layLeaves_51 : decode cX12_layLeaves 51 = .ok (.iload_n 2, 1) := by decide +kernel
theorem dX12_layLeaves_52 : decode cX12_layLeaves 52 = .ok (.isub, 1) := by decide +kernel
theorem dX12_layLeaves_53 : decode cX12_layLeaves 53 = .ok (.iconst 2, 1) := by decide +kernel
theorem dX12_layLeaves_54 : decode cX12_layLeaves 54 = .ok (.if_icmp .ge 136, 3) := by decide +kernel
theorem dX12_layLeaves_57 : decode cX12_layLeaves 57 = .ok (.iconst 4, 1) := by decide +kernel
theorem dX12_layLeaves_58 : decode cX12_layLeaves 58 = .ok (.aload_n 0, 1) := by decide +kernel
theorem dX12_layLeaves_59 : decode cX12_layLeaves 59 = .ok (.getfield 16, 3) := by decide +kernel
theorem dX12_layLeaves_62 : decode cX12_layLeaves 62 = .ok (.iconst 4, 1) := by decide +kernel
theorem dX12_layLeaves_63 : decode cX12_layLeaves 63 = .ok (.iload 5, 2) := by decide +kernel
theorem dX12_layLeaves_65 : decode cX12_layLeaves 65 = .ok (.imul, 1) := by decide +kernel
theorem dX12_layLeaves_66 : decode cX12_layLeaves 66 = .ok (.iaload, 1) := by decide +kernel
theorem dX12_layLeaves_67 : decode cX12_layLeaves 67 = .ok (.imul, 1) := by decide +kernel
theorem dX12_layLeaves_68 : decode cX12_layLeaves 68 = .ok (.aload_n 0, 1) := by decide +kernel
theorem dX12_layLeaves_69 : decode cX12_layLeaves 69 = .ok (.getfield 16, 3) := by decide +kernel
theorem dX12_layLeaves_72 : decode cX12_layLeaves 72 = .ok (.iconst 4, 1) := by decide +kernel
theorem dX12_layLeaves_73 : decode cX12_layLeaves 73 = .ok (.iload 5, 2) := by decide +kernel
theorem dX12_layLeaves_75 : decode cX12_layLeaves 75 = .ok (.imul, 1) := by decide +kernel
theorem dX12_layLeaves_76 : decode cX12_layLeaves 76 = .ok (.iconst 1, 1) := by decide +kernel
theorem dX12_layLeaves_77 : decode cX12_layLeaves 77 = .ok (.iadd, 1) := by decide +kernel
theorem dX12_layLeaves_78 : decode cX12_layLeaves 78 = .ok (.iaload, 1) := by decide +kernel
theorem dX12_layLeaves_79 : decode cX12_layLeaves 79 = .ok (.iadd, 1) := by decide +kernel
theorem dX12_layLeaves_80 : decode cX12_layLeaves 80 = .ok (.istore 6, 2) := by decide +kernel
theorem dX12_layLeaves_82 : decode cX12_layLeaves 82 = .ok (.aload_n 0, 1) := by decide +kernel
theorem dX12_layLeaves_83 : decode cX12_layLeaves 83 = .ok (.getfield 31, 3) := by decide +kernel
theorem dX12_layLeaves_86 : decode cX12_layLeaves 86 = .ok (.bipush 10, 2) := by decide +kernel
theorem dX12_layLeaves_88 : decode cX12_layLeaves 88 = .ok (.iload_n 1, 1) := by decide +kernel
theorem dX12_layLeaves_89 : decode cX12_layLeaves 89 = .ok (.imul, 1) := by decide +kernel
theorem dX12_layLeaves_90 : decode cX12_layLeaves 90 = .ok (.iload_n 2, 1) := by decide +kernel
theorem dX12_layLeaves_91 : decode cX12_layLeaves 91 = .ok (.iadd, 1) := by decide +kernel
theorem dX12_layLeaves_92 : decode cX12_layLeaves 92 = .ok (.iaload, 1) := by decide +kernel
theorem dX12_layLeaves_93 : decode cX12_layLeaves 93 = .ok (.istore 7, 2) := by decide +kernel
theorem dX12_layLeaves_95 : decode cX12_layLeaves 95 = .ok (.iload_n 2, 1) := by decide +kernel
theorem dX12_layLeaves_96 : decode cX12_layLeaves 96 = .ok (.iload_n 3, 1) := by decide +kernel
theorem dX12_layLeaves_97 : decode cX12_layLeaves 97 = .ok (.if_icmp .ne 12, 3) := by decide +kernel
theorem dX12_layLeaves_100 : decode cX12_layLeaves 100 = .ok (.aload_n 0, 1) := by decide +kernel
theorem dX12_layLeaves_101 : decode cX12_layLeaves 101 = .ok (.getfield 59, 3) := by decide +kernel
theorem dX12_layLeaves_104 : decode cX12_layLeaves 104 = .ok (.iconst 4, 1) := by decide +kernel
theorem dX12_layLeaves_105 : decode cX12_layLeaves 105 = .ok (.iaload, 1) := by decide +kernel
theorem dX12_layLeaves_106 : decode cX12_layLeaves 106 = .ok (.goto 36, 3) := by decide +kernel
theorem dX12_layLeaves_109 : decode cX12_layLeaves 109 = .ok (.aload_n 0, 1) := by decide +kernel
theorem dX12_layLeaves_110 : decode cX12_layLeaves 110 = .ok (.getfield 34, 3) := by decide +kernel
theorem dX12_layLeaves_113 : decode cX12_layLeaves 113 = .ok (.iload_n 1, 1) := by decide +kernel
theorem dX12_layLeaves_114 : decode cX12_layLeaves 114 = .ok (.iaload, 1) := by decide +kernel
theorem dX12_layLeaves_115 : decode cX12_layLeaves 115 = .ok (.iload_n 2, 1) := by decide +kernel
theorem dX12_layLeaves_116 : decode cX12_layLeaves 116 = .ok (.invokestatic 143, 3) := by decide +kernel
theorem dX12_layLeaves_119 : decode cX12_layLeaves 119 = .ok (.ifCond .eq 15, 3) := by decide +kernel
theorem dX12_layLeaves_122 : decode cX12_layLeaves 122 = .ok (.iload 7, 2) := by decide +kernel
theorem dX12_layLeaves_124 : decode cX12_layLeaves 124 = .ok (.iload 5, 2) := by decide +kernel
theorem dX12_layLeaves_126 : decode cX12_layLeaves 126 = .ok (.if_icmp .eq 8, 3) := by decide +kernel
theorem dX12_layLeaves_129 : decode cX12_layLeaves 129 = .ok (.ldc 166, 2) := by decide +kernel
theorem dX12_layLeaves_131 : decode cX12_layLeaves 131 = .ok (.goto 11, 3) := by decide +kernel
theorem dX12_layLeaves_134 : decode cX12_layLeaves 134 = .ok (.aload_n 0, 1) := by decide +kernel
theorem dX12_layLeaves_135 : decode cX12_layLeaves 135 = .ok (.iload 7, 2) := by decide +kernel
theorem dX12_layLeaves_137 : decode cX12_layLeaves 137 = .ok (.iload 5, 2) := by decide +kernel
theorem dX12_layLeaves_139 : decode cX12_layLeaves 139 = .ok (.invokevirtual 171, 3) := by decide +kernel
theorem dX12_layLeaves_142 : decode cX12_layLeaves 142 = .ok (.istore 8, 2) := by decide +kernel
theorem dX12_layLeaves_144 : decode cX12_layLeaves 144 = .ok (.aload_n 0, 1) := by decide +kernel
theorem dX12_layLeaves_145 : decode cX12_layLeaves 145 = .ok (.getfield 56, 3) := by decide +kernel
theorem dX12_layLeaves_148 : decode cX12_layLeaves 148 = .ok (.iload 4, 2) := by decide +kernel
theorem dX12_layLeaves_150 : decode cX12_layLeaves 150 = .ok (.iload 6, 2) := by decide +kernel
theorem dX12_layLeaves_152 : decode cX12_layLeaves 152 = .ok (.iadd, 1) := by decide +kernel
theorem dX12_layLeaves_153 : decode cX12_layLeaves 153 = .ok (.iload 8, 2) := by decide +kernel
theorem dX12_layLeaves_155 : decode cX12_layLeaves 155 = .ok (.aload_n 0, 1) := by decide +kernel
theorem dX12_layLeaves_156 : decode cX12_layLeaves 156 = .ok (.getfield 56, 3) := by decide +kernel
theorem dX12_layLeaves_159 : decode cX12_layLeaves 159 = .ok (.iload 4, 2) := by decide +kernel
theorem dX12_layLeaves_161 : decode cX12_layLeaves 161 = .ok (.iload 6, 2) := by decide +kernel
theorem dX12_layLeaves_163 : decode cX12_layLeaves 163 = .ok (.iadd, 1) := by decide +kernel
theorem dX12_layLeaves_164 : decode cX12_layLeaves 164 = .ok (.iaload, 1) := by decide +kernel
theorem dX12_layLeaves_165 : decode cX12_layLeaves 165 = .ok (.if_icmp .ge 8, 3) := by decide +kernel
theorem dX12_layLeaves_168 : decode cX12_layLeaves 168 = .ok (.iload 8, 2) := by decide +kernel
theorem dX12_layLeaves_170 : decode cX12_layLeaves 170 = .ok (.goto 13, 3) := by decide +kernel
theorem dX12_layLeaves_173 : decode cX12_layLeaves 173 = .ok (.aload_n 0, 1) := by decide +kernel
theorem dX12_layLeaves_174 : decode cX12_layLeaves 174 = .ok (.getfield 56, 3) := by decide +kernel
theorem dX12_layLeaves_177 : decode cX12_layLeaves 177 = .ok (.iload 4, 2) := by decide +kernel
theorem dX12_layLeaves_179 : decode cX12_layLeaves 179 = .ok (.iload 6, 2) := by decide +kernel
theorem dX12_layLeaves_181 : decode cX12_layLeaves 181 = .ok (.iadd, 1) := by decide +kernel
theorem dX12_layLeaves_182 : decode cX12_layLeaves 182 = .ok (.iaload, 1) := by decide +kernel
theorem dX12_layLeaves_183 : decode cX12_layLeaves 183 = .ok (.iastore, 1) := by decide +kernel
theorem dX12_layLeaves_184 : decode cX12_layLeaves 184 = .ok (.iinc 5 1, 3) := by decide +kernel
theorem dX12_layLeaves_187 : decode cX12_layLeaves 187 = .ok (.goto (-148), 3) := by decide +kernel
theorem dX12_layLeaves_190 : decode cX12_layLeaves 190 = .ok (.return_, 1) := by decide +kernel
theorem dX12_cheaper_0 : decode cX12_cheaper 0 = .ok (.iload_n 2, 1) := by decide +kernel
theorem dX12_cheaper_1 : decode cX12_cheaper 1 = .ok (.aload_n 0, 1) := by decide +kernel
theorem dX12_cheaper_2 : decode cX12_cheaper 2 = .ok (.getfield 56, 3) := by decide +kernel
theorem dX12_cheaper_5 : decode cX12_cheaper 5 = .ok (.iload_n 1, 1) := by decide +kernel
theorem dX12_cheaper_6 : decode cX12_cheaper 6 = .ok (.iaload, 1) := by decide +kernel
theorem dX12_cheaper_7 : decode cX12_cheaper 7 = .ok (.if_icmp .lt 5, 3) := by decide +kernel
theorem dX12_cheaper_10 : decode cX12_cheaper 10 = .ok (.iconst 0, 1) := by decide +kernel
theorem dX12_cheaper_11 : decode cX12_cheaper 11 = .ok (.ireturn, 1) := by decide +kernel
theorem dX12_cheaper_12 : decode cX12_cheaper 12 = .ok (.aload_n 0, 1) := by decide +kernel
theorem dX12_cheaper_13 : decode cX12_cheaper 13 = .ok (.getfield 56, 3) := by decide +kernel
theorem dX12_cheaper_16 : decode cX12_cheaper 16 = .ok (.iload_n 1, 1) := by decide +kernel
theorem dX12_cheaper_17 : decode cX12_cheaper 17 = .ok (.iload_n 2, 1) := by decide +kernel
theorem dX12_cheaper_18 : decode cX12_cheaper 18 = .ok (.iastore, 1) := by decide +kernel
theorem dX12_cheaper_19 : decode cX12_cheaper 19 = .ok (.iconst 1, 1) := by decide +kernel
theorem dX12_cheaper_20 : decode cX12_cheaper 20 = .ok (.ireturn, 1) := by decide +kernel
theorem dX12_goOver_0 : decode cX12_goOver 0 = .ok (.iconst 0, 1) := by decide +kernel
theorem dX12_goOver_1 : decode cX12_goOver 1 = .ok (.istore 4, 2) := by decide +kernel
theorem dX12_goOver_3 : decode cX12_goOver 3 = .ok (.aload_n 0, 1) := by decide +kernel
theorem dX12_goOver_4 : decode cX12_goOver 4 = .ok (.iload_n 2, 1) := by decide +kernel
theorem dX12_goOver_5 : decode cX12_goOver 5 = .ok (.iload_n 3, 1) := by decide +kernel
theorem dX12_goOver_6 : decode cX12_goOver 6 = .ok (.invokevirtual 167, 3) := by decide +kernel
theorem dX12_goOver_9 : decode cX12_goOver 9 = .ok (.istore 5, 2) := by decide +kernel
theorem dX12_goOver_11 : decode cX12_goOver 11 = .ok (.iconst 0, 1) := by decide +kernel
theorem dX12_goOver_12 : decode cX12_goOver 12 = .ok (.istore 6, 2) := by decide +kernel
theorem dX12_goOver_14 : decode cX12_goOver 14 = .ok (.iload 6, 2) := by decide +kernel
theorem dX12_goOver_16 : decode cX12_goOver 16 = .ok (.bipush 40, 2) := by decide +kernel
theorem dX12_goOver_18 : decode cX12_goOver 18 = .ok (.if_icmp .ge 116, 3) := by decide +kernel
theorem dX12_goOver_21 : decode cX12_goOver 21 = .ok (.iload_n 2, 1) := by decide +kernel
theorem dX12_goOver_22 : decode cX12_goOver 22 = .ok (.iload_n 3, 1) := by decide +kernel
theorem dX12_goOver_23 : decode cX12_goOver 23 = .ok (.if_icmp .ge 111, 3) := by decide +kernel
theorem dX12_goOver_26 : decode cX12_goOver 26 = .ok (.aload_n 0, 1) := by decide +kernel
theorem dX12_goOver_27 : decode cX12_goOver 27 = .ok (.getfield 34, 3) := by decide +kernel
theorem dX12_goOver_30 : decode cX12_goOver 30 = .ok (.iload_n 1, 1) := by decide +kernel
theorem dX12_goOver_31 : decode cX12_goOver 31 = .ok (.iaload, 1) := by decide +kernel
theorem dX12_goOver_32 : decode cX12_goOver 32 = .ok (.iload_n 2, 1) := by decide +kernel
theorem dX12_goOver_33 : decode cX12_goOver 33 = .ok (.invokestatic 143, 3) := by decide +kernel
theorem dX12_goOver_36 : decode cX12_goOver 36 = .ok (.ifCond .ne 40, 3) := by decide +kernel
theorem dX12_goOver_39 : decode cX12_goOver 39 = .ok (.iload 4, 2) := by decide +kernel
theorem dX12_goOver_41 : decode cX12_goOver 41 = .ok (.aload_n 0, 1) := by decide +kernel
theorem dX12_goOver_42 : decode cX12_goOver 42 = .ok (.iload 5, 2) := by decide +kernel
theorem dX12_goOver_44 : decode cX12_goOver 44 = .ok (.iload 6, 2) := by decide +kernel
theorem dX12_goOver_46 : decode cX12_goOver 46 = .ok (.iadd, 1) := by decide +kernel
theorem dX12_goOver_47 : decode cX12_goOver 47 = .ok (.aload_n 0, 1) := by decide +kernel
theorem dX12_goOver_48 : decode cX12_goOver 48 = .ok (.getfield 56, 3) := by decide +kernel
theorem dX12_goOver_51 : decode cX12_goOver 51 = .ok (.aload_n 0, 1) := by decide +kernel
theorem dX12_goOver_52 : decode cX12_goOver 52 = .ok (.iload_n 2, 1) := by decide +kernel
theorem dX12_goOver_53 : decode cX12_goOver 53 = .ok (.iconst 1, 1) := by decide +kernel
theorem dX12_goOver_54 : decode cX12_goOver 54 = .ok (.iadd, 1) := by decide +kernel
theorem dX12_goOver_55 : decode cX12_goOver 55 = .ok (.iload_n 3, 1) := by decide +kernel
theorem dX12_goOver_56 : decode cX12_goOver 56 = .ok (.invokevirtual 167, 3) := by decide +kernel
theorem dX12_goOver_59 : decode cX12_goOver 59 = .ok (.iload 6, 2) := by decide +kernel
theorem dX12_goOver_61 : decode cX12_goOver 61 = .ok (.iadd, 1) := by decide +kernel
theorem dX12_goOver_62 : decode cX12_goOver 62 = .ok (.iaload, 1) := by decide +kernel
theorem dX12_goOver_63 : decode cX12_goOver 63 = .ok (.aload_n 0, 1) := by decide +kernel
theorem dX12_goOver_64 : decode cX12_goOver 64 = .ok (.getfield 59, 3) := by decide +kernel
theorem dX12_goOver_67 : decode cX12_goOver 67 = .ok (.iconst 3, 1) := by decide +kernel
theorem dX12_goOver_68 : decode cX12_goOver 68 = .ok (.iaload, 1) := by decide +kernel
theorem dX12_goOver_69 : decode cX12_goOver 69 = .ok (.iadd, 1) := by decide +kernel
theorem dX12_goOver_70 : decode cX12_goOver 70 = .ok (.invokevirtual 174, 3) := by decide +kernel
theorem dX12_goOver_73 : decode cX12_goOver 73 = .ok (.ior, 1) := by decide +kernel
theorem dX12_goOver_74 : decode cX12_goOver 74 = .ok (.istore 4, 2) := by decide +kernel
theorem dX12_goOver_76 : decode cX12_goOver 76 = .ok (.aload_n 0, 1) := by decide +kernel
theorem dX12_goOver_77 : decode cX12_goOver 77 = .ok (.getfield 34, 3) := by decide +kernel
theorem dX12_goOver_80 : decode cX12_goOver 80 = .ok (.iload_n 1, 1) := by decide +kernel
theorem dX12_goOver_81 : decode cX12_goOver 81 = .ok (.iaload, 1) := by decide +kernel
theorem dX12_goOver_82 : decode cX12_goOver 82 = .ok (.iload_n 3, 1) := by decide +kernel
theorem dX12_goOver_83 : decode cX12_goOver 83 = .ok (.iconst 1, 1) := by decide +kernel
theorem dX12_goOver_84 : decode cX12_goOver 84 = .ok (.isub, 1) := by decide +kernel
theorem dX12_goOver_85 : decode cX12_goOver 85 = .ok (.invokestatic 143, 3) := by decide +kernel
theorem dX12_goOver_88 : decode cX12_goOver 88 = .ok (.ifCond .ne 40, 3) := by decide +kernel
theorem dX12_goOver_91 : decode cX12_goOver 91 = .ok (.iload 4, 2) := by decide +kernel
theorem dX12_goOver_93 : decode cX12_goOver 93 = .ok (.aload_n 0, 1) := by decide +kernel
theorem dX12_goOver_94 : decode cX12_goOver 94 = .ok (.iload 5, 2) := by decide +kernel
theorem dX12_goOver_96 : decode cX12_goOver 96 = .ok (.iload 6, 2) := by decide +kernel
theorem dX12_goOver_98 : decode cX12_goOver 98 = .ok (.iadd, 1) := by decide +kernel
theorem dX12_goOver_99 : decode cX12_goOver 99 = .ok (.aload_n 0, 1) := by decide +kernel
theorem dX12_goOver_100 : decode cX12_goOver 100 = .ok (.getfield 56, 3) := by decide +kernel
theorem dX12_goOver_103 : decode cX12_goOver 103 = .ok (.aload_n 0, 1) := by decide +kernel
theorem dX12_goOver_104 : decode cX12_goOver 104 = .ok (.iload_n 2, 1) := by decide +kernel
theorem dX12_goOver_105 : decode cX12_goOver 105 = .ok (.iload_n 3, 1) := by decide +kernel
theorem dX12_goOver_106 : decode cX12_goOver 106 = .ok (.iconst 1, 1) := by decide +kernel
theorem dX12_goOver_107 : decode cX12_goOver 107 = .ok (.isub, 1) := by decide +kernel
theorem dX12_goOver_108 : decode cX12_goOver 108 = .ok (.invokevirtual 167, 3) := by decide +kernel
theorem dX12_goOver_111 : decode cX12_goOver 111 = .ok (.iload 6, 2) := by decide +kernel
theorem dX12_goOver_113 : decode cX12_goOver 113 = .ok (.iadd, 1) := by decide +kernel
theorem dX12_goOver_114 : decode cX12_goOver 114 = .ok (.iaload, 1) := by decide +kernel
theorem dX12_goOver_115 : decode cX12_goOver 115 = .ok (.aload_n 0, 1) := by decide +kernel
theorem dX12_goOver_116 : decode cX12_goOver 116 = .ok (.getfield 59, 3) := by decide +kernel
theorem dX12_goOver_119 : decode cX12_goOver 119 = .ok (.iconst 3, 1) := by decide +kernel
theorem dX12_goOver_120 : decode cX12_goOver 120 = .ok (.iaload, 1) := by decide +kernel
theorem dX12_goOver_121 : decode cX12_goOver 121 = .ok (.iadd, 1) := by decide +kernel
theorem dX12_goOver_122 : decode cX12_goOver 122 = .ok (.invokevirtual 174, 3) := by decide +kernel
theorem dX12_goOver_125 : decode cX12_goOver 125 = .ok (.ior, 1) := by decide +kernel
theorem dX12_goOver_126 : decode cX12_goOver 126 = .ok (.istore 4, 2) := by decide +kernel
theorem dX12_goOver_128 : decode cX12_goOver 128 = .ok (.iinc 6 1, 3) := by decide +kernel
theorem dX12_goOver_131 : decode cX12_goOver 131 = .ok (.goto (-117), 3) := by decide +kernel
theorem dX12_goOver_134 : decode cX12_goOver 134 = .ok (.iload_n 2, 1) := by decide +kernel
theorem dX12_goOver_135 : decode cX12_goOver 135 = .ok (.istore 6, 2) := by decide +kernel
theorem dX12_goOver_137 : decode cX12_goOver 137 = .ok (.iload 6, 2) := by decide +kernel
theorem dX12_goOver_139 : decode cX12_goOver 139 = .ok (.iload_n 3, 1) := by decide +kernel
theorem dX12_goOver_140 : decode cX12_goOver 140 = .ok (.if_icmp .gt 192, 3) := by decide +kernel
theorem dX12_goOver_143 : decode cX12_goOver 143 = .ok (.iconst 0, 1) := by decide +kernel
theorem dX12_goOver_144 : decode cX12_goOver 144 = .ok (.istore 7, 2) := by decide +kernel
theorem dX12_goOver_146 : decode cX12_goOver 146 = .ok (.iload 7, 2) := by decide +kernel
theorem dX12_goOver_148 : decode cX12_goOver 148 = .ok (.aload_n 0, 1) := by decide +kernel
theorem dX12_goOver_149 : decode cX12_goOver 149 = .ok (.getfield 19, 3) := by decide +kernel
theorem dX12_goOver_152 : decode cX12_goOver 152 = .ok (.iconst 0, 1) := by decide +kernel
theorem dX12_goOver_153 : decode cX12_goOver 153 = .ok (.iaload, 1) := by decide +kernel
theorem dX12_goOver_154 : decode cX12_goOver 154 = .ok (.if_icmp .ge 172, 3) := by decide +kernel
theorem dX12_goOver_157 : decode cX12_goOver 157 = .ok (.aload_n 0, 1) := by decide +kernel
theorem dX12_goOver_158 : decode cX12_goOver 158 = .ok (.iload_n 2, 1) := by decide +kernel
theorem dX12_goOver_159 : decode cX12_goOver 159 = .ok (.iload 6, 2) := by decide +kernel
theorem dX12_goOver_161 : decode cX12_goOver 161 = .ok (.invokevirtual 167, 3) := by decide +kernel
theorem dX12_goOver_164 : decode cX12_goOver 164 = .ok (.iconst 4, 1) := by decide +kernel
theorem dX12_goOver_165 : decode cX12_goOver 165 = .ok (.aload_n 0, 1) := by decide +kernel
theorem dX12_goOver_166 : decode cX12_goOver 166 = .ok (.getfield 22, 3) := by decide +kernel
theorem dX12_goOver_169 : decode cX12_goOver 169 = .ok (.iconst 5, 1) := by decide +kernel
theorem dX12_goOver_170 : decode cX12_goOver 170 = .ok (.iload 7, 2) := by decide +kernel
theorem dX12_goOver_172 : decode cX12_goOver 172 = .ok (.imul, 1) := by decide +kernel
theorem dX12_goOver_173 : decode cX12_goOver 173 = .ok (.iconst 1, 1) := by decide +kernel
theorem dX12_goOver_174 : decode cX12_goOver 174 = .ok (.iadd, 1) := by decide +kernel
theorem dX12_goOver_175 : decode cX12_goOver 175 = .ok (.iaload, 1) := by decide +kernel
theorem dX12_goOver_176 : decode cX12_goOver 176 = .ok (.imul, 1) := by decide +kernel
theorem dX12_goOver_177 : decode cX12_goOver 177 = .ok (.iadd, 1) := by decide +kernel
theorem dX12_goOver_178 : decode cX12_goOver 178 = .ok (.istore 8, 2) := by decide +kernel
theorem dX12_goOver_180 : decode cX12_goOver 180 = .ok (.aload_n 0, 1) := by decide +kernel
theorem dX12_goOver_181 : decode cX12_goOver 181 = .ok (.iload 6, 2) := by decide +kernel
theorem dX12_goOver_183 : decode cX12_goOver 183 = .ok (.iload_n 3, 1) := by decide +kernel
theorem dX12_goOver_184 : decode cX12_goOver 184 = .ok (.invokevirtual 167, 3) := by decide +kernel
theorem dX12_goOver_187 : decode cX12_goOver 187 = .ok (.iconst 4, 1) := by decide +kernel
theorem dX12_goOver_188 : decode cX12_goOver 188 = .ok (.aload_n 0, 1) := by decide +kernel
theorem dX12_goOver_189 : decode cX12_goOver 189 = .ok (.getfield 22, 3) := by decide +kernel
theorem dX12_goOver_192 : decode cX12_goOver 192 = .ok (.iconst 5, 1) := by decide +kernel
theorem dX12_goOver_193 : decode cX12_goOver 193 = .ok (.iload 7, 2) := by decide +kernel
theorem dX12_goOver_195 : decode cX12_goOver 195 = .ok (.imul, 1) := by decide +kernel
theorem dX12_goOver_196 : decode cX12_goOver 196 = .ok (.iconst 2, 1) := by decide +kernel
theorem dX12_goOver_197 : decode cX12_goOver 197 = .ok (.iadd, 1) := by decide +kernel
theorem dX12_goOver_198 : decode cX12_goOver 198 = .ok (.iaload, 1) := by decide +kernel
theorem dX12_goOver_199 : decode cX12_goOver 199 = .ok (.imul, 1) := by decide +kernel
theorem dX12_goOver_200 : decode cX12_goOver 200 = .ok (.iadd, 1) := by decide +kernel
theorem dX12_goOver_201 : decode cX12_goOver 201 = .ok (.istore 9, 2) := by decide +kernel
theorem dX12_goOver_203 : decode cX12_goOver 203 = .ok (.iconst 0, 1) := by decide +kernel
theorem dX12_goOver_204 : decode cX12_goOver 204 = .ok (.istore 10, 2) := by decide +kernel
theorem dX12_goOver_206 : decode cX12_goOver 206 = .ok (.iload 10, 2) := by decide +kernel
theorem dX12_goOver_208 : decode cX12_goOver 208 = .ok (.iconst 4, 1) := by decide +kernel
theorem dX12_goOver_209 : decode cX12_goOver 209 = .ok (.if_icmp .ge 111, 3) := by decide +kernel
theorem dX12_goOver_212 : decode cX12_goOver 212 = .ok (.iconst 0, 1) := by decide +kernel
theorem dX12_goOver_213 : decode cX12_goOver 213 = .ok (.istore 11, 2) := by decide +kernel
theorem dX12_goOver_215 : decode cX12_goOver 215 = .ok (.iload 11, 2) := by decide +kernel
theorem dX12_goOver_217 : decode cX12_goOver 217 = .ok (.iconst 4, 1) := by decide +kernel
theorem dX12_goOver_218 : decode cX12_goOver 218 = .ok (.if_icmp .ge 96, 3) := by decide +kernel
theorem dX12_goOver_221 : decode cX12_goOver 221 = .ok (.aload_n 0, 1) := by decide +kernel
theorem dX12_goOver_222 : decode cX12_goOver 222 = .ok (.getfield 22, 3) := by decide +kernel
theorem dX12_goOver_225 : decode cX12_goOver 225 = .ok (.iconst 5, 1) := by decide +kernel
theorem dX12_goOver_226 : decode cX12_goOver 226 = .ok (.iload 7, 2) := by decide +kernel
theorem dX12_goOver_228 : decode cX12_goOver 228 = .ok (.imul, 1) := by decide +kernel
theorem dX12_goOver_229 : decode cX12_goOver 229 = .ok (.iconst 3, 1) := by decide +kernel
theorem dX12_goOver_230 : decode cX12_goOver 230 = .ok (.iadd, 1) := by decide +kernel
theorem dX12_goOver_231 : decode cX12_goOver 231 = .ok (.iaload, 1) := by decide +kernel
theorem dX12_goOver_232 : decode cX12_goOver 232 = .ok (.ifCond .eq 10, 3) := by decide +kernel
theorem dX12_goOver_235 : decode cX12_goOver 235 = .ok (.iload 10, 2) := by decide +kernel
theorem dX12_goOver_237 : decode cX12_goOver 237 = .ok (.iload 11, 2) := by decide +kernel
theorem dX12_goOver_239 : decode cX12_goOver 239 = .ok (.if_icmp .ne 69, 3) := by decide +kernel
theorem dX12_goOver_242 : decode cX12_goOver 242 = .ok (.iload 4, 2) := by decide +kernel
theorem dX12_goOver_244 : decode cX12_goOver 244 = .ok (.aload_n 0, 1) := by decide +kernel
theorem dX12_goOver_245 : decode cX12_goOver 245 = .ok (.iload 5, 2) := by decide +kernel
theorem dX12_goOver_247 : decode cX12_goOver 247 = .ok (.iconst 4, 1) := by decide +kernel
theorem dX12_goOver_248 : decode cX12_goOver 248 = .ok (.aload_n 0, 1) := by decide +kernel
theorem dX12_goOver_249 : decode cX12_goOver 249 = .ok (.getfield 22, 3) := by decide +kernel
theorem dX12_goOver_252 : decode cX12_goOver 252 = .ok (.iconst 5, 1) := by decide +kernel
theorem dX12_goOver_253 : decode cX12_goOver 253 = .ok (.iload 7, 2) := by decide +kernel
theorem dX12_goOver_255 : decode cX12_goOver 255 = .ok (.imul, 1) := by decide +kernel
theorem dX12_goOver_256 : decode cX12_goOver 256 = .ok (.iaload, 1) := by decide +kernel
theorem dX12_goOver_257 : decode cX12_goOver 257 = .ok (.imul, 1) := by decide +kernel
theorem dX12_goOver_258 : decode cX12_goOver 258 = .ok (.iadd, 1) := by decide +kernel
theorem dX12_goOver_259 : decode cX12_goOver 259 = .ok (.aload_n 0, 1) := by decide +kernel
theorem dX12_goOver_260 : decode cX12_goOver 260 = .ok (.getfield 22, 3) := by decide +kernel
theorem dX12_goOver_263 : decode cX12_goOver 263 = .ok (.iconst 5, 1) := by decide +kernel
theorem dX12_goOver_264 : decode cX12_goOver 264 = .ok (.iload 7, 2) := by decide +kernel
theorem dX12_goOver_266 : decode cX12_goOver 266 = .ok (.imul, 1) := by decide +kernel
theorem dX12_goOver_267 : decode cX12_goOver 267 = .ok (.iconst 4, 1) := by decide +kernel
theorem dX12_goOver_268 : decode cX12_goOver 268 = .ok (.iadd, 1) := by decide +kernel
theorem dX12_goOver_269 : decode cX12_goOver 269 = .ok (.iaload, 1) := by decide +kernel
theorem dX12_goOver_270 : decode cX12_goOver 270 = .ok (.ifCond .ne 8, 3) := by decide +kernel
theorem dX12_goOver_273 : decode cX12_goOver 273 = .ok (.iload 10, 2) := by decide +kernel
theorem dX12_goOver_275 : decode cX12_goOver 275 = .ok (.goto 5, 3) := by decide +kernel
theorem dX12_goOver_278 : decode cX12_goOver 278 = .ok (.iload 11, 2) := by decide +kernel
