theorem dX11_init_0 : decode cX11_init 0 = .ok (.aload_n 0, 1) := by decide +kernel
theorem dX11_init_1 : decode cX11_init 1 = .ok (.invokespecial 3, 3) := by decide +kernel
theorem dX11_init_4 : decode cX11_init 4 = .ok (.aload_n 0, 1) := by decide +kernel
theorem dX11_init_5 : decode cX11_init 5 = .ok (.new 9, 3) := by decide +kernel
theorem dX11_init_8 : decode cX11_init 8 = .ok (.dup, 1) := by decide +kernel
theorem dX11_init_9 : decode cX11_init 9 = .ok (.invokespecial 11, 3) := by decide +kernel
theorem dX11_init_12 : decode cX11_init 12 = .ok (.putfield 12, 3) := by decide +kernel
theorem dX11_init_15 : decode cX11_init 15 = .ok (.aload_n 0, 1) := by decide +kernel
theorem dX11_init_16 : decode cX11_init 16 = .ok (.new 16, 3) := by decide +kernel
theorem dX11_init_19 : decode cX11_init 19 = .ok (.dup, 1) := by decide +kernel
theorem dX11_init_20 : decode cX11_init 20 = .ok (.invokespecial 18, 3) := by decide +kernel
theorem dX11_init_23 : decode cX11_init 23 = .ok (.putfield 19, 3) := by decide +kernel
theorem dX11_init_26 : decode cX11_init 26 = .ok (.aload_n 0, 1) := by decide +kernel
theorem dX11_init_27 : decode cX11_init 27 = .ok (.new 16, 3) := by decide +kernel
theorem dX11_init_30 : decode cX11_init 30 = .ok (.dup, 1) := by decide +kernel
theorem dX11_init_31 : decode cX11_init 31 = .ok (.invokespecial 18, 3) := by decide +kernel
theorem dX11_init_34 : decode cX11_init 34 = .ok (.putfield 23, 3) := by decide +kernel
theorem dX11_init_37 : decode cX11_init 37 = .ok (.aload_n 0, 1) := by decide +kernel
theorem dX11_init_38 : decode cX11_init 38 = .ok (.bipush 8, 2) := by decide +kernel
theorem dX11_init_40 : decode cX11_init 40 = .ok (.anewarray 26, 3) := by decide +kernel
theorem dX11_init_43 : decode cX11_init 43 = .ok (.putfield 28, 3) := by decide +kernel
theorem dX11_init_46 : decode cX11_init 46 = .ok (.aload_n 0, 1) := by decide +kernel
theorem dX11_init_47 : decode cX11_init 47 = .ok (.bipush 12, 2) := by decide +kernel
theorem dX11_init_49 : decode cX11_init 49 = .ok (.anewarray 32, 3) := by decide +kernel
theorem dX11_init_52 : decode cX11_init 52 = .ok (.putfield 34, 3) := by decide +kernel
theorem dX11_init_55 : decode cX11_init 55 = .ok (.aload_n 0, 1) := by decide +kernel
theorem dX11_init_56 : decode cX11_init 56 = .ok (.iconst 0, 1) := by decide +kernel
theorem dX11_init_57 : decode cX11_init 57 = .ok (.putfield 38, 3) := by decide +kernel
theorem dX11_init_60 : decode cX11_init 60 = .ok (.aload_n 0, 1) := by decide +kernel
theorem dX11_init_61 : decode cX11_init 61 = .ok (.new 42, 3) := by decide +kernel
theorem dX11_init_64 : decode cX11_init 64 = .ok (.dup, 1) := by decide +kernel
theorem dX11_init_65 : decode cX11_init 65 = .ok (.invokespecial 44, 3) := by decide +kernel
theorem dX11_init_68 : decode cX11_init 68 = .ok (.putfield 45, 3) := by decide +kernel
theorem dX11_init_71 : decode cX11_init 71 = .ok (.aload_n 0, 1) := by decide +kernel
theorem dX11_init_72 : decode cX11_init 72 = .ok (.iconst 5, 1) := by decide +kernel
theorem dX11_init_73 : decode cX11_init 73 = .ok (.newarray .int, 2) := by decide +kernel
theorem dX11_init_75 : decode cX11_init 75 = .ok (.putfield 49, 3) := by decide +kernel
theorem dX11_init_78 : decode cX11_init 78 = .ok (.aload_n 0, 1) := by decide +kernel
theorem dX11_init_79 : decode cX11_init 79 = .ok (.new 53, 3) := by decide +kernel
theorem dX11_init_82 : decode cX11_init 82 = .ok (.dup, 1) := by decide +kernel
theorem dX11_init_83 : decode cX11_init 83 = .ok (.invokespecial 55, 3) := by decide +kernel
theorem dX11_init_86 : decode cX11_init 86 = .ok (.putfield 56, 3) := by decide +kernel
theorem dX11_init_89 : decode cX11_init 89 = .ok (.aload_n 0, 1) := by decide +kernel
theorem dX11_init_90 : decode cX11_init 90 = .ok (.new 60, 3) := by decide +kernel
theorem dX11_init_93 : decode cX11_init 93 = .ok (.dup, 1) := by decide +kernel
theorem dX11_init_94 : decode cX11_init 94 = .ok (.invokespecial 62, 3) := by decide +kernel
theorem dX11_init_97 : decode cX11_init 97 = .ok (.putfield 63, 3) := by decide +kernel
theorem dX11_init_100 : decode cX11_init 100 = .ok (.aload_n 0, 1) := by decide +kernel
theorem dX11_init_101 : decode cX11_init 101 = .ok (.new 67, 3) := by decide +kernel
theorem dX11_init_104 : decode cX11_init 104 = .ok (.dup, 1) := by decide +kernel
theorem dX11_init_105 : decode cX11_init 105 = .ok (.invokespecial 69, 3) := by decide +kernel
theorem dX11_init_108 : decode cX11_init 108 = .ok (.putfield 70, 3) := by decide +kernel
theorem dX11_init_111 : decode cX11_init 111 = .ok (.aload_n 0, 1) := by decide +kernel
theorem dX11_init_112 : decode cX11_init 112 = .ok (.new 74, 3) := by decide +kernel
theorem dX11_init_115 : decode cX11_init 115 = .ok (.dup, 1) := by decide +kernel
theorem dX11_init_116 : decode cX11_init 116 = .ok (.invokespecial 76, 3) := by decide +kernel
theorem dX11_init_119 : decode cX11_init 119 = .ok (.putfield 77, 3) := by decide +kernel
theorem dX11_init_122 : decode cX11_init 122 = .ok (.aload_n 0, 1) := by decide +kernel
theorem dX11_init_123 : decode cX11_init 123 = .ok (.new 81, 3) := by decide +kernel
theorem dX11_init_126 : decode cX11_init 126 = .ok (.dup, 1) := by decide +kernel
theorem dX11_init_127 : decode cX11_init 127 = .ok (.invokespecial 83, 3) := by decide +kernel
theorem dX11_init_130 : decode cX11_init 130 = .ok (.putfield 84, 3) := by decide +kernel
theorem dX11_init_133 : decode cX11_init 133 = .ok (.aload_n 0, 1) := by decide +kernel
theorem dX11_init_134 : decode cX11_init 134 = .ok (.iconst (-1), 1) := by decide +kernel
theorem dX11_init_135 : decode cX11_init 135 = .ok (.putfield 88, 3) := by decide +kernel
theorem dX11_init_138 : decode cX11_init 138 = .ok (.iconst 0, 1) := by decide +kernel
theorem dX11_init_139 : decode cX11_init 139 = .ok (.istore_n 1, 1) := by decide +kernel
theorem dX11_init_140 : decode cX11_init 140 = .ok (.iload_n 1, 1) := by decide +kernel
theorem dX11_init_141 : decode cX11_init 141 = .ok (.bipush 8, 2) := by decide +kernel
theorem dX11_init_143 : decode cX11_init 143 = .ok (.if_icmp .ge 22, 3) := by decide +kernel
theorem dX11_init_146 : decode cX11_init 146 = .ok (.aload_n 0, 1) := by decide +kernel
theorem dX11_init_147 : decode cX11_init 147 = .ok (.getfield 28, 3) := by decide +kernel
theorem dX11_init_150 : decode cX11_init 150 = .ok (.iload_n 1, 1) := by decide +kernel
theorem dX11_init_151 : decode cX11_init 151 = .ok (.new 26, 3) := by decide +kernel
theorem dX11_init_154 : decode cX11_init 154 = .ok (.dup, 1) := by decide +kernel
theorem dX11_init_155 : decode cX11_init 155 = .ok (.invokespecial 91, 3) := by decide +kernel
theorem dX11_init_158 : decode cX11_init 158 = .ok (.aastore, 1) := by decide +kernel
theorem dX11_init_159 : decode cX11_init 159 = .ok (.iinc 1 1, 3) := by decide +kernel
theorem dX11_init_162 : decode cX11_init 162 = .ok (.goto (-22), 3) := by decide +kernel
theorem dX11_init_165 : decode cX11_init 165 = .ok (.iconst 0, 1) := by decide +kernel
theorem dX11_init_166 : decode cX11_init 166 = .ok (.istore_n 1, 1) := by decide +kernel
theorem dX11_init_167 : decode cX11_init 167 = .ok (.iload_n 1, 1) := by decide +kernel
theorem dX11_init_168 : decode cX11_init 168 = .ok (.bipush 12, 2) := by decide +kernel
theorem dX11_init_170 : decode cX11_init 170 = .ok (.if_icmp .ge 22, 3) := by decide +kernel
theorem dX11_init_173 : decode cX11_init 173 = .ok (.aload_n 0, 1) := by decide +kernel
theorem dX11_init_174 : decode cX11_init 174 = .ok (.getfield 34, 3) := by decide +kernel
theorem dX11_init_177 : decode cX11_init 177 = .ok (.iload_n 1, 1) := by decide +kernel
theorem dX11_init_178 : decode cX11_init 178 = .ok (.new 32, 3) := by decide +kernel
theorem dX11_init_181 : decode cX11_init 181 = .ok (.dup, 1) := by decide +kernel
theorem dX11_init_182 : decode cX11_init 182 = .ok (.invokespecial 92, 3) := by decide +kernel
theorem dX11_init_185 : decode cX11_init 185 = .ok (.aastore, 1) := by decide +kernel
theorem dX11_init_186 : decode cX11_init 186 = .ok (.iinc 1 1, 3) := by decide +kernel
theorem dX11_init_189 : decode cX11_init 189 = .ok (.goto (-22), 3) := by decide +kernel
theorem dX11_init_192 : decode cX11_init 192 = .ok (.return_, 1) := by decide +kernel
theorem dX11_write_0 : decode cX11_write 0 = .ok (.iload_n 1, 1) := by decide +kernel
theorem dX11_write_1 : decode cX11_write 1 = .ok (.iconst 1, 1) := by decide +kernel
theorem dX11_write_2 : decode cX11_write 2 = .ok (.bipush 8, 2) := by decide +kernel
theorem dX11_write_4 : decode cX11_write 4 = .ok (.invokestatic 93, 3) := by decide +kernel
theorem dX11_write_7 : decode cX11_write 7 = .ok (.ifCond .ne 5, 3) := by decide +kernel
theorem dX11_write_10 : decode cX11_write 10 = .ok (.iconst (-1), 1) := by decide +kernel
theorem dX11_write_11 : decode cX11_write 11 = .ok (.ireturn, 1) := by decide +kernel
theorem dX11_write_12 : decode cX11_write 12 = .ok (.aload_n 0, 1) := by decide +kernel
theorem dX11_write_13 : decode cX11_write 13 = .ok (.getfield 12, 3) := by decide +kernel
theorem dX11_write_16 : decode cX11_write 16 = .ok (.getfield 97, 3) := by decide +kernel
theorem dX11_write_19 : decode cX11_write 19 = .ok (.iload_n 1, 1) := by decide +kernel
theorem dX11_write_20 : decode cX11_write 20 = .ok (.iadd, 1) := by decide +kernel
theorem dX11_write_21 : decode cX11_write 21 = .ok (.sipush 400, 3) := by decide +kernel
theorem dX11_write_24 : decode cX11_write 24 = .ok (.if_icmp .le 6, 3) := by decide +kernel
theorem dX11_write_27 : decode cX11_write 27 = .ok (.bipush (-3), 2) := by decide +kernel
theorem dX11_write_29 : decode cX11_write 29 = .ok (.ireturn, 1) := by decide +kernel
theorem dX11_write_30 : decode cX11_write 30 = .ok (.iload_n 1, 1) := by decide +kernel
theorem dX11_write_31 : decode cX11_write 31 = .ok (.iconst 1, 1) := by decide +kernel
theorem dX11_write_32 : decode cX11_write 32 = .ok (.isub, 1) := by decide +kernel
theorem dX11_write_33 : decode cX11_write 33 = .ok (.istore 4, 2) := by decide +kernel
theorem dX11_write_35 : decode cX11_write 35 = .ok (.iload 4, 2) := by decide +kernel
theorem dX11_write_37 : decode cX11_write 37 = .ok (.ifCond .lt 28, 3) := by decide +kernel
theorem dX11_write_40 : decode cX11_write 40 = .ok (.aload_n 0, 1) := by decide +kernel
theorem dX11_write_41 : decode cX11_write 41 = .ok (.getfield 12, 3) := by decide +kernel
theorem dX11_write_44 : decode cX11_write 44 = .ok (.lload_n 2, 1) := by decide +kernel
theorem dX11_write_45 : decode cX11_write 45 = .ok (.bipush 8, 2) := by decide +kernel
theorem dX11_write_47 : decode cX11_write 47 = .ok (.iload 4, 2) := by decide +kernel
theorem dX11_write_49 : decode cX11_write 49 = .ok (.imul, 1) := by decide +kernel
theorem dX11_write_50 : decode cX11_write 50 = .ok (.lushr, 1) := by decide +kernel
theorem dX11_write_51 : decode cX11_write 51 = .ok (.l2i, 1) := by decide +kernel
theorem dX11_write_52 : decode cX11_write 52 = .ok (.sipush 255, 3) := by decide +kernel
theorem dX11_write_55 : decode cX11_write 55 = .ok (.iand, 1) := by decide +kernel
theorem dX11_write_56 : decode cX11_write 56 = .ok (.invokevirtual 100, 3) := by decide +kernel
theorem dX11_write_59 : decode cX11_write 59 = .ok (.iinc 4 (-1), 3) := by decide +kernel
theorem dX11_write_62 : decode cX11_write 62 = .ok (.goto (-27), 3) := by decide +kernel
theorem dX11_write_65 : decode cX11_write 65 = .ok (.aload_n 0, 1) := by decide +kernel
theorem dX11_write_66 : decode cX11_write 66 = .ok (.getfield 12, 3) := by decide +kernel
theorem dX11_write_69 : decode cX11_write 69 = .ok (.getfield 97, 3) := by decide +kernel
theorem dX11_write_72 : decode cX11_write 72 = .ok (.ireturn, 1) := by decide +kernel
theorem dX11_wipe_0 : decode cX11_wipe 0 = .ok (.aload_n 0, 1) := by decide +kernel
theorem dX11_wipe_1 : decode cX11_wipe 1 = .ok (.getfield 12, 3) := by decide +kernel
theorem dX11_wipe_4 : decode cX11_wipe 4 = .ok (.getfield 97, 3) := by decide +kernel
theorem dX11_wipe_7 : decode cX11_wipe 7 = .ok (.istore_n 1, 1) := by decide +kernel
theorem dX11_wipe_8 : decode cX11_wipe 8 = .ok (.aload_n 0, 1) := by decide +kernel
theorem dX11_wipe_9 : decode cX11_wipe 9 = .ok (.getfield 12, 3) := by decide +kernel
theorem dX11_wipe_12 : decode cX11_wipe 12 = .ok (.iconst 0, 1) := by decide +kernel
theorem dX11_wipe_13 : decode cX11_wipe 13 = .ok (.putfield 97, 3) := by decide +kernel
theorem dX11_wipe_16 : decode cX11_wipe 16 = .ok (.iload_n 1, 1) := by decide +kernel
theorem dX11_wipe_17 : decode cX11_wipe 17 = .ok (.ireturn, 1) := by decide +kernel
theorem dX11_fault_0 : decode cX11_fault 0 = .ok (.aload_n 0, 1) := by decide +kernel
theorem dX11_fault_1 : decode cX11_fault 1 = .ok (.getfield 12, 3) := by decide +kernel
theorem dX11_fault_4 : decode cX11_fault 4 = .ok (.aload_n 0, 1) := by decide +kernel
theorem dX11_fault_5 : decode cX11_fault 5 = .ok (.getfield 23, 3) := by decide +kernel
theorem dX11_fault_8 : decode cX11_fault 8 = .ok (.invokevirtual 104, 3) := by decide +kernel
theorem dX11_fault_11 : decode cX11_fault 11 = .ok (.ireturn, 1) := by decide +kernel
theorem dX11_lay_0 : decode cX11_lay 0 = .ok (.aload_n 0, 1) := by decide +kernel
theorem dX11_lay_1 : decode cX11_lay 1 = .ok (.getfield 12, 3) := by decide +kernel
theorem dX11_lay_4 : decode cX11_lay 4 = .ok (.aload_n 0, 1) := by decide +kernel
theorem dX11_lay_5 : decode cX11_lay 5 = .ok (.getfield 23, 3) := by decide +kernel
theorem dX11_lay_8 : decode cX11_lay 8 = .ok (.invokevirtual 104, 3) := by decide +kernel
theorem dX11_lay_11 : decode cX11_lay 11 = .ok (.bipush (-4), 2) := by decide +kernel
theorem dX11_lay_13 : decode cX11_lay 13 = .ok (.if_icmp .eq 6, 3) := by decide +kernel
theorem dX11_lay_16 : decode cX11_lay 16 = .ok (.bipush (-2), 2) := by decide +kernel
theorem dX11_lay_18 : decode cX11_lay 18 = .ok (.ireturn, 1) := by decide +kernel
theorem dX11_lay_19 : decode cX11_lay 19 = .ok (.aload_n 0, 1) := by decide +kernel
theorem dX11_lay_20 : decode cX11_lay 20 = .ok (.getfield 19, 3) := by decide +kernel
theorem dX11_lay_23 : decode cX11_lay 23 = .ok (.astore_n 1, 1) := by decide +kernel
theorem dX11_lay_24 : decode cX11_lay 24 = .ok (.aload_n 0, 1) := by decide +kernel
theorem dX11_lay_25 : decode cX11_lay 25 = .ok (.aload_n 0, 1) := by decide +kernel
theorem dX11_lay_26 : decode cX11_lay 26 = .ok (.getfield 23, 3) := by decide +kernel
theorem dX11_lay_29 : decode cX11_lay 29 = .ok (.putfield 19, 3) := by decide +kernel
theorem dX11_lay_32 : decode cX11_lay 32 = .ok (.aload_n 0, 1) := by decide +kernel
theorem dX11_lay_33 : decode cX11_lay 33 = .ok (.aload_n 1, 1) := by decide +kernel
theorem dX11_lay_34 : decode cX11_lay 34 = .ok (.putfield 23, 3) := by decide +kernel
theorem dX11_lay_37 : decode cX11_lay 37 = .ok (.iconst 0, 1) := by decide +kernel
theorem dX11_lay_38 : decode cX11_lay 38 = .ok (.istore_n 2, 1) := by decide +kernel
theorem dX11_lay_39 : decode cX11_lay 39 = .ok (.iload_n 2, 1) := by decide +kernel
theorem dX11_lay_40 : decode cX11_lay 40 = .ok (.bipush 8, 2) := by decide +kernel
theorem dX11_lay_42 : decode cX11_lay 42 = .ok (.if_icmp .ge 18, 3) := by decide +kernel
theorem dX11_lay_45 : decode cX11_lay 45 = .ok (.aload_n 0, 1) := by decide +kernel
theorem dX11_lay_46 : decode cX11_lay 46 = .ok (.getfield 28, 3) := by decide +kernel
theorem dX11_lay_49 : decode cX11_lay 49 = .ok (.iload_n 2, 1) := by decide +kernel
theorem dX11_lay_50 : decode cX11_lay 50 = .ok (.aaload, 1) := by decide +kernel
theorem dX11_lay_51 : decode cX11_lay 51 = .ok (.invokevirtual 108, 3) := by decide +kernel
theorem dX11_lay_54 : decode cX11_lay 54 = .ok (.iinc 2 1, 3) := by decide +kernel
theorem dX11_lay_57 : decode cX11_lay 57 = .ok (.goto (-18), 3) := by decide +kernel
theorem dX11_lay_60 : decode cX11_lay 60 = .ok (.aload_n 0, 1) := by decide +kernel
theorem dX11_lay_61 : decode cX11_lay 61 = .ok (.iconst 0, 1) := by decide +kernel
theorem dX11_lay_62 : decode cX11_lay 62 = .ok (.putfield 38, 3) := by decide +kernel
theorem dX11_lay_65 : decode cX11_lay 65 = .ok (.aload_n 0, 1) := by decide +kernel
theorem dX11_lay_66 : decode cX11_lay 66 = .ok (.getfield 45, 3) := by decide +kernel
theorem dX11_lay_69 : decode cX11_lay 69 = .ok (.iconst 0, 1) := by decide +kernel
theorem dX11_lay_70 : decode cX11_lay 70 = .ok (.putfield 111, 3) := by decide +kernel
theorem dX11_lay_73 : decode cX11_lay 73 = .ok (.aload_n 0, 1) := by decide +kernel
theorem dX11_lay_74 : decode cX11_lay 74 = .ok (.iconst (-1), 1) := by decide +kernel
theorem dX11_lay_75 : decode cX11_lay 75 = .ok (.putfield 88, 3) := by decide +kernel
theorem dX11_lay_78 : decode cX11_lay 78 = .ok (.aload_n 0, 1) := by decide +kernel
theorem dX11_lay_79 : decode cX11_lay 79 = .ok (.getfield 19, 3) := by decide +kernel
theorem dX11_lay_82 : decode cX11_lay 82 = .ok (.getfield 112, 3) := by decide +kernel
theorem dX11_lay_85 : decode cX11_lay 85 = .ok (.ireturn, 1) := by decide +kernel
theorem dX11_price_0 : decode cX11_price 0 = .ok (.iload_n 1, 1) := by decide +kernel
theorem dX11_price_1 : decode cX11_price 1 = .ok (.iconst 0, 1) := by decide +kernel
theorem dX11_price_2 : decode cX11_price 2 = .ok (.iconst 4, 1) := by decide +kernel
theorem dX11_price_3 : decode cX11_price 3 = .ok (.invokestatic 93, 3) := by decide +kernel
theorem dX11_price_6 : decode cX11_price 6 = .ok (.ifCond .ne 5, 3) := by decide +kernel
theorem dX11_price_9 : decode cX11_price 9 = .ok (.iconst (-1), 1) := by decide +kernel
theorem dX11_price_10 : decode cX11_price 10 = .ok (.ireturn, 1) := by decide +kernel
theorem dX11_price_11 : decode cX11_price 11 = .ok (.aload_n 0, 1) := by decide +kernel
theorem dX11_price_12 : decode cX11_price 12 = .ok (.iload_n 1, 1) := by decide +kernel
theorem dX11_price_13 : decode cX11_price 13 = .ok (.iload_n 2, 1) := by decide +kernel
theorem dX11_price_14 : decode cX11_price 14 = .ok (.invokevirtual 115, 3) := by decide +kernel
theorem dX11_price_17 : decode cX11_price 17 = .ok (.ireturn, 1) := by decide +kernel
theorem dX11_word_0 : decode cX11_word 0 = .ok (.iload_n 1, 1) := by decide +kernel
theorem dX11_word_1 : decode cX11_word 1 = .ok (.invokestatic 119, 3) := by decide +kernel
theorem dX11_word_4 : decode cX11_word 4 = .ok (.ifCond .eq 20, 3) := by decide +kernel
theorem dX11_word_7 : decode cX11_word 7 = .ok (.iload_n 2, 1) := by decide +kernel
theorem dX11_word_8 : decode cX11_word 8 = .ok (.iconst 0, 1) := by decide +kernel
theorem dX11_word_9 : decode cX11_word 9 = .ok (.aload_n 0, 1) := by decide +kernel
theorem dX11_word_10 : decode cX11_word 10 = .ok (.getfield 19, 3) := by decide +kernel
theorem dX11_word_13 : decode cX11_word 13 = .ok (.getfield 112, 3) := by decide +kernel
theorem dX11_word_16 : decode cX11_word 16 = .ok (.iconst 1, 1) := by decide +kernel
theorem dX11_word_17 : decode cX11_word 17 = .ok (.isub, 1) := by decide +kernel
theorem dX11_word_18 : decode cX11_word 18 = .ok (.invokestatic 93, 3) := by decide +kernel
theorem dX11_word_21 : decode cX11_word 21 = .ok (.ifCond .ne 5, 3) := by decide +kernel
theorem dX11_word_24 : decode cX11_word 24 = .ok (.iconst (-1), 1) := by decide +kernel
theorem dX11_word_25 : decode cX11_word 25 = .ok (.ireturn, 1) := by decide +kernel
theorem dX11_word_26 : decode cX11_word 26 = .ok (.aload_n 0, 1) := by decide +kernel
theorem dX11_word_27 : decode cX11_word 27 = .ok (.getfield 28, 3) := by decide +kernel
theorem dX11_word_30 : decode cX11_word 30 = .ok (.iload_n 1, 1) := by decide +kernel
theorem dX11_word_31 : decode cX11_word 31 = .ok (.aaload, 1) := by decide +kernel
theorem dX11_word_32 : decode cX11_word 32 = .ok (.astore_n 3, 1) := by decide +kernel
theorem dX11_word_33 : decode cX11_word 33 = .ok (.aload_n 3, 1) := by decide +kernel
theorem dX11_word_34 : decode cX11_word 34 = .ok (.getfield 123, 3) := by decide +kernel
theorem dX11_word_37 : decode cX11_word 37 = .ok (.bipush 8, 2) := by decide +kernel
theorem dX11_word_39 : decode cX11_word 39 = .ok (.if_icmp .lt 6, 3) := by decide +kernel
theorem dX11_word_42 : decode cX11_word 42 = .ok (.bipush (-3), 2) := by decide +kernel
theorem dX11_word_44 : decode cX11_word 44 = .ok (.ireturn, 1) := by decide +kernel
theorem dX11_word_45 : decode cX11_word 45 = .ok (.aload_n 3, 1) := by decide +kernel
theorem dX11_word_46 : decode cX11_word 46 = .ok (.iload_n 2, 1) := by decide +kernel
theorem dX11_word_47 : decode cX11_word 47 = .ok (.invokevirtual 124, 3) := by decide +kernel
theorem dX11_word_50 : decode cX11_word 50 = .ok (.aload_n 0, 1) := by decide +kernel
theorem dX11_word_51 : decode cX11_word 51 = .ok (.iconst (-1), 1) := by decide +kernel
theorem dX11_word_52 : decode cX11_word 52 = .ok (.putfield 88, 3) := by decide +kernel
theorem dX11_word_55 : decode cX11_word 55 = .ok (.aload_n 3, 1) := by decide +kernel
theorem dX11_word_56 : decode cX11_word 56 = .ok (.getfield 123, 3) := by decide +kernel
theorem dX11_word_59 : decode cX11_word 59 = .ok (.ireturn, 1) := by decide +kernel
theorem dX11_clear_0 : decode cX11_clear 0 = .ok (.iload_n 1, 1) := by decide +kernel
theorem dX11_clear_1 : decode cX11_clear 1 = .ok (.invokestatic 119, 3) := by decide +kernel
theorem dX11_clear_4 : decode cX11_clear 4 = .ok (.ifCond .ne 5, 3) := by decide +kernel
theorem dX11_clear_7 : decode cX11_clear 7 = .ok (.iconst (-1), 1) := by decide +kernel
theorem dX11_clear_8 : decode cX11_clear 8 = .ok (.ireturn, 1) := by decide +kernel
theorem dX11_clear_9 : decode cX11_clear 9 = .ok (.aload_n 0, 1) := by decide +kernel
theorem dX11_clear_10 : decode cX11_clear 10 = .ok (.getfield 28, 3) := by decide +kernel
theorem dX11_clear_13 : decode cX11_clear 13 = .ok (.iload_n 1, 1) := by decide +kernel
theorem dX11_clear_14 : decode cX11_clear 14 = .ok (.aaload, 1) := by decide +kernel
theorem dX11_clear_15 : decode cX11_clear 15 = .ok (.getfield 123, 3) := by decide +kernel
theorem dX11_clear_18 : decode cX11_clear 18 = .ok (.istore_n 2, 1) := by decide +kernel
theorem dX11_clear_19 : decode cX11_clear 19 = .ok (.aload_n 0, 1) := by decide +kernel
theorem dX11_clear_20 : decode cX11_clear 20 = .ok (.getfield 28, 3) := by decide +kernel
theorem dX11_clear_23 : decode cX11_clear 23 = .ok (.iload_n 1, 1) := by decide +kernel
theorem dX11_clear_24 : decode cX11_clear 24 = .ok (.aaload, 1) := by decide +kernel
theorem dX11_clear_25 : decode cX11_clear 25 = .ok (.invokevirtual 108, 3) := by decide +kernel
theorem dX11_clear_28 : decode cX11_clear 28 = .ok (.aload_n 0, 1) := by decide +kernel
theorem dX11_clear_29 : decode cX11_clear 29 = .ok (.iconst (-1), 1) := by decide +kernel
theorem dX11_clear_30 : decode cX11_clear 30 = .ok (.putfield 88, 3) := by decide +kernel
theorem dX11_clear_33 : decode cX11_clear 33 = .ok (.iload_n 2, 1) := by decide +kernel
theorem dX11_clear_34 : decode cX11_clear 34 = .ok (.ireturn, 1) := by decide +kernel
theorem dX11_quote_0 : decode cX11_quote 0 = .ok (.iload_n 1, 1) := by decide +kernel
theorem dX11_quote_1 : decode cX11_quote 1 = .ok (.invokestatic 119, 3) := by decide +kernel
theorem dX11_quote_4 : decode cX11_quote 4 = .ok (.ifCond .eq 14, 3) := by decide +kernel
theorem dX11_quote_7 : decode cX11_quote 7 = .ok (.iload_n 2, 1) := by decide +kernel
theorem dX11_quote_8 : decode cX11_quote 8 = .ok (.iconst 0, 1) := by decide +kernel
theorem dX11_quote_9 : decode cX11_quote 9 = .ok (.sipush 255, 3) := by decide +kernel
theorem dX11_quote_12 : decode cX11_quote 12 = .ok (.invokestatic 93, 3) := by decide +kernel
theorem dX11_quote_15 : decode cX11_quote 15 = .ok (.ifCond .ne 5, 3) := by decide +kernel
theorem dX11_quote_18 : decode cX11_quote 18 = .ok (.iconst (-1), 1) := by decide +kernel
theorem dX11_quote_19 : decode cX11_quote 19 = .ok (.ireturn, 1) := by decide +kernel
theorem dX11_quote_20 : decode cX11_quote 20 = .ok (.aload_n 0, 1) := by decide +kernel
theorem dX11_quote_21 : decode cX11_quote 21 = .ok (.getfield 28, 3) := by decide +kernel
theorem dX11_quote_24 : decode cX11_quote 24 = .ok (.iload_n 1, 1) := by decide +kernel
theorem dX11_quote_25 : decode cX11_quote 25 = .ok (.aaload, 1) := by decide +kernel
theorem dX11_quote_26 : decode cX11_quote 26 = .ok (.getfield 125, 3) := by decide +kernel
theorem dX11_quote_29 : decode cX11_quote 29 = .ok (.istore_n 3, 1) := by decide +kernel
theorem dX11_quote_30 : decode cX11_quote 30 = .ok (.aload_n 0, 1) := by decide +kernel
theorem dX11_quote_31 : decode cX11_quote 31 = .ok (.getfield 28, 3) := by decide +kernel
theorem dX11_quote_34 : decode cX11_quote 34 = .ok (.iload_n 1, 1) := by decide +kernel
theorem dX11_quote_35 : decode cX11_quote 35 = .ok (.aaload, 1) := by decide +kernel
theorem dX11_quote_36 : decode cX11_quote 36 = .ok (.iload_n 2, 1) := by decide +kernel
theorem dX11_quote_37 : decode cX11_quote 37 = .ok (.putfield 125, 3) := by decide +kernel
theorem dX11_quote_40 : decode cX11_quote 40 = .ok (.aload_n 0, 1) := by decide +kernel
theorem dX11_quote_41 : decode cX11_quote 41 = .ok (.iconst (-1), 1) := by decide +kernel
theorem dX11_quote_42 : decode cX11_quote 42 = .ok (.putfield 88, 3) := by decide +kernel
theorem dX11_quote_45 : decode cX11_quote 45 = .ok (.iload_n 3, 1) := by decide +kernel
theorem dX11_quote_46 : decode cX11_quote 46 = .ok (.ireturn, 1) := by decide +kernel
theorem dX11_trees_0 : decode cX11_trees 0 = .ok (.iload_n 1, 1) := by decide +kernel
theorem dX11_trees_1 : decode cX11_trees 1 = .ok (.invokestatic 119, 3) := by decide +kernel
theorem dX11_trees_4 : decode cX11_trees 4 = .ok (.ifCond .eq 12, 3) := by decide +kernel
theorem dX11_trees_7 : decode cX11_trees 7 = .ok (.iload_n 2, 1) := by decide +kernel
theorem dX11_trees_8 : decode cX11_trees 8 = .ok (.iconst (-1), 1) := by decide +kernel
theorem dX11_trees_9 : decode cX11_trees 9 = .ok (.iconst 3, 1) := by decide +kernel
theorem dX11_trees_10 : decode cX11_trees 10 = .ok (.invokestatic 93, 3) := by decide +kernel
theorem dX11_trees_13 : decode cX11_trees 13 = .ok (.ifCond .ne 7, 3) := by decide +kernel
theorem dX11_trees_16 : decode cX11_trees 16 = .ok (.ldc2_w 128, 3) := by decide +kernel
theorem dX11_trees_19 : decode cX11_trees 19 = .ok (.lreturn, 1) := by decide +kernel
theorem dX11_trees_20 : decode cX11_trees 20 = .ok (.aload_n 0, 1) := by decide +kernel
theorem dX11_trees_21 : decode cX11_trees 21 = .ok (.getfield 28, 3) := by decide +kernel
theorem dX11_trees_24 : decode cX11_trees 24 = .ok (.iload_n 1, 1) := by decide +kernel
theorem dX11_trees_25 : decode cX11_trees 25 = .ok (.aaload, 1) := by decide +kernel
theorem dX11_trees_26 : decode cX11_trees 26 = .ok (.astore_n 3, 1) := by decide +kernel
theorem dX11_trees_27 : decode cX11_trees 27 = .ok (.aload_n 3, 1) := by decide +kernel
theorem dX11_trees_28 : decode cX11_trees 28 = .ok (.getfield 123, 3) := by decide +kernel
theorem dX11_trees_31 : decode cX11_trees 31 = .ok (.ifCond .ne 7, 3) := by decide +kernel
theorem dX11_trees_34 : decode cX11_trees 34 = .ok (.ldc2_w 130, 3) := by decide +kernel
theorem dX11_trees_37 : decode cX11_trees 37 = .ok (.lreturn, 1) := by decide +kernel
theorem dX11_trees_38 : decode cX11_trees 38 = .ok (.aload_n 0, 1) := by decide +kernel
theorem dX11_trees_39 : decode cX11_trees 39 = .ok (.getfield 56, 3) := by decide +kernel
theorem dX11_trees_42 : decode cX11_trees 42 = .ok (.aload_n 0, 1) := by decide +kernel
theorem dX11_trees_43 : decode cX11_trees 43 = .ok (.getfield 19, 3) := by decide +kernel
theorem dX11_trees_46 : decode cX11_trees 46 = .ok (.aload_n 3, 1) := by decide +kernel
theorem dX11_trees_47 : decode cX11_trees 47 = .ok (.invokevirtual 132, 3) := by decide +kernel
theorem dX11_trees_50 : decode cX11_trees 50 = .ok (.iload_n 2, 1) := by decide +kernel
theorem dX11_trees_51 : decode cX11_trees 51 = .ok (.iconst (-1), 1) := by decide +kernel
theorem dX11_trees_52 : decode cX11_trees 52 = .ok (.if_icmp .ne 17, 3) := by decide +kernel
theorem dX11_trees_55 : decode cX11_trees 55 = .ok (.aload_n 0, 1) := by decide +kernel
theorem dX11_trees_56 : decode cX11_trees 56 = .ok (.getfield 56, 3) := by decide +kernel
theorem dX11_trees_59 : decode cX11_trees 59 = .ok (.aload_n 3, 1) := by decide +kernel
theorem dX11_trees_60 : decode cX11_trees 60 = .ok (.getfield 123, 3) := by decide +kernel
theorem dX11_trees_63 : decode cX11_trees 63 = .ok (.invokevirtual 136, 3) := by decide +kernel
theorem dX11_trees_66 : decode cX11_trees 66 = .ok (.goto 17, 3) := by decide +kernel
theorem dX11_trees_69 : decode cX11_trees 69 = .ok (.aload_n 0, 1) := by decide +kernel
theorem dX11_trees_70 : decode cX11_trees 70 = .ok (.getfield 56, 3) := by decide +kernel
theorem dX11_trees_73 : decode cX11_trees 73 = .ok (.iconst 0, 1) := by decide +kernel
theorem dX11_trees_74 : decode cX11_trees 74 = .ok (.aload_n 3, 1) := by decide +kernel
theorem dX11_trees_75 : decode cX11_trees 75 = .ok (.getfield 123, 3) := by decide +kernel
theorem dX11_trees_78 : decode cX11_trees 78 = .ok (.iconst 0, 1) := by decide +kernel
theorem dX11_trees_79 : decode cX11_trees 79 = .ok (.iload_n 2, 1) := by decide +kernel
theorem dX11_trees_80 : decode cX11_trees 80 = .ok (.invokevirtual 140, 3) := by decide +kernel
theorem dX11_trees_83 : decode cX11_trees 83 = .ok (.lreturn, 1) := by decide +kernel
theorem dX11_part_0 : decode cX11_part 0 = .ok (.iload_n 1, 1) := by decide +kernel
theorem dX11_part_1 : decode cX11_part 1 = .ok (.invokestatic 119, 3) := by decide +kernel
theorem dX11_part_4 : decode cX11_part 4 = .ok (.ifCond .eq 24, 3) := by decide +kernel
theorem dX11_part_7 : decode cX11_part 7 = .ok (.iload 4, 2) := by decide +kernel
theorem dX11_part_9 : decode cX11_part 9 = .ok (.iconst 0, 1) := by decide +kernel
theorem dX11_part_10 : decode cX11_part 10 = .ok (.bipush 9, 2) := by decide +kernel
theorem dX11_part_12 : decode cX11_part 12 = .ok (.invokestatic 93, 3) := by decide +kernel
theorem dX11_part_15 : decode cX11_part 15 = .ok (.ifCond .eq 13, 3) := by decide +kernel
theorem dX11_part_18 : decode cX11_part 18 = .ok (.iload 5, 2) := by decide +kernel
theorem dX11_part_20 : decode cX11_part 20 = .ok (.iconst 0, 1) := by decide +kernel
theorem dX11_part_21 : decode cX11_part 21 = .ok (.iconst 3, 1) := by decide +kernel
theorem dX11_part_22 : decode cX11_part 22 = .ok (.invokestatic 93, 3) := by decide +kernel
theorem dX11_part_25 : decode cX11_part 25 = .ok (.ifCond .ne 5, 3) := by decide +kernel
theorem dX11_part_28 : decode cX11_part 28 = .ok (.iconst (-1), 1) := by decide +kernel
theorem dX11_part_29 : decode cX11_part 29 = .ok (.ireturn, 1) := by decide +kernel
theorem dX11_part_30 : decode cX11_part 30 = .ok (.aload_n 0, 1) := by decide +kernel
theorem dX11_part_31 : decode cX11_part 31 = .ok (.getfield 28, 3) := by decide +kernel
theorem dX11_part_34 : decode cX11_part 34 = .ok (.iload_n 1, 1) := by decide +kernel
theorem dX11_part_35 : decode cX11_part 35 = .ok (.aaload, 1) := by decide +kernel
theorem dX11_part_36 : decode cX11_part 36 = .ok (.astore 6, 2) := by decide +kernel
theorem dX11_part_38 : decode cX11_part 38 = .ok (.iload_n 2, 1) := by decide +kernel
theorem dX11_part_39 : decode cX11_part 39 = .ok (.iconst 0, 1) := by decide +kernel
theorem dX11_part_40 : decode cX11_part 40 = .ok (.aload 6, 2) := by decide +kernel
theorem dX11_part_42 : decode cX11_part 42 = .ok (.getfield 123, 3) := by decide +kernel
theorem dX11_part_45 : decode cX11_part 45 = .ok (.iconst 1, 1) := by decide +kernel
theorem dX11_part_46 : decode cX11_part 46 = .ok (.isub, 1) := by decide +kernel
theorem dX11_part_47 : decode cX11_part 47 = .ok (.invokestatic 93, 3) := by decide +kernel
theorem dX11_part_50 : decode cX11_part 50 = .ok (.ifCond .eq 18, 3) := by decide +kernel
theorem dX11_part_53 : decode cX11_part 53 = .ok (.iload_n 3, 1) := by decide +kernel
theorem dX11_part_54 : decode cX11_part 54 = .ok (.iconst 1, 1) := by decide +kernel
theorem dX11_part_55 : decode cX11_part 55 = .ok (.aload 6, 2) := by decide +kernel
theorem dX11_part_57 : decode cX11_part 57 = .ok (.getfield 123, 3) := by decide +kernel
theorem dX11_part_60 : decode cX11_part 60 = .ok (.iload_n 2, 1) := by decide +kernel
theorem dX11_part_61 : decode cX11_part 61 = .ok (.isub, 1) := by decide +kernel
theorem dX11_part_62 : decode cX11_part 62 = .ok (.invokestatic 93, 3) := by decide +kernel
theorem dX11_part_65 : decode cX11_part 65 = .ok (.ifCond .ne 5, 3) := by decide +kernel
theorem dX11_part_68 : decode cX11_part 68 = .ok (.iconst (-1), 1) := by decide +kernel
theorem dX11_part_69 : decode cX11_part 69 = .ok (.ireturn, 1) := by decide +kernel
theorem dX11_part_70 : decode cX11_part 70 = .ok (.aload_n 0, 1) := by decide +kernel
theorem dX11_part_71 : decode cX11_part 71 = .ok (.getfield 56, 3) := by decide +kernel
theorem dX11_part_74 : decode cX11_part 74 = .ok (.aload_n 0, 1) := by decide +kernel
theorem dX11_part_75 : decode cX11_part 75 = .ok (.getfield 19, 3) := by decide +kernel
theorem dX11_part_78 : decode cX11_part 78 = .ok (.aload 6, 2) := by decide +kernel
theorem dX11_part_80 : decode cX11_part 80 = .ok (.invokevirtual 132, 3) := by decide +kernel
theorem dX11_part_83 : decode cX11_part 83 = .ok (.aload_n 0, 1) := by decide +kernel
theorem dX11_part_84 : decode cX11_part 84 = .ok (.getfield 56, 3) := by decide +kernel
theorem dX11_part_87 : decode cX11_part 87 = .ok (.iload_n 2, 1) := by decide +kernel
theorem dX11_part_88 : decode cX11_part 88 = .ok (.iload_n 3, 1) := by decide +kernel
theorem dX11_part_89 : decode cX11_part 89 = .ok (.iload 4, 2) := by decide +kernel
theorem dX11_part_91 : decode cX11_part 91 = .ok (.iload 5, 2) := by decide +kernel
theorem dX11_part_93 : decode cX11_part 93 = .ok (.invokevirtual 140, 3) := by decide +kernel
theorem dX11_part_96 : decode cX11_part 96 = .ok (.lconst 0, 1) := by decide +kernel
theorem dX11_part_97 : decode cX11_part 97 = .ok (.lcmp, 1) := by decide +kernel
theorem dX11_part_98 : decode cX11_part 98 = .ok (.ifCond .le 7, 3) := by decide +kernel
theorem dX11_part_101 : decode cX11_part 101 = .ok (.iconst 1, 1) := by decide +kernel
theorem dX11_part_102 : decode cX11_part 102 = .ok (.goto 4, 3) := by decide +kernel
theorem dX11_part_105 : decode cX11_part 105 = .ok (.iconst 0, 1) := by decide +kernel
theorem dX11_part_106 : decode cX11_part 106 = .ok (.ireturn, 1) := by decide +kernel
theorem dX11_least_0 : decode cX11_least 0 = .ok (.iload_n 1, 1) := by decide +kernel
theorem dX11_least_1 : decode cX11_least 1 = .ok (.invokestatic 119, 3) := by decide +kernel
theorem dX11_least_4 : decode cX11_least 4 = .ok (.ifCond .ne 5, 3) := by decide +kernel
theorem dX11_least_7 : decode cX11_least 7 = .ok (.iconst (-1), 1) := by decide +kernel
theorem dX11_least_8 : decode cX11_least 8 = .ok (.ireturn, 1) := by decide +kernel
theorem dX11_least_9 : decode cX11_least 9 = .ok (.aload_n 0, 1) := by decide +kernel
theorem dX11_least_10 : decode cX11_least 10 = .ok (.getfield 28, 3) := by decide +kernel
theorem dX11_least_13 : decode cX11_least 13 = .ok (.iload_n 1, 1) := by decide +kernel
theorem dX11_least_14 : decode cX11_least 14 = .ok (.aaload, 1) := by decide +kernel
theorem dX11_least_15 : decode cX11_least 15 = .ok (.getfield 123, 3) := by decide +kernel
theorem dX11_least_18 : decode cX11_least 18 = .ok (.ifCond .ne 6, 3) := by decide +kernel
theorem dX11_least_21 : decode cX11_least 21 = .ok (.bipush (-2), 2) := by decide +kernel
theorem dX11_least_23 : decode cX11_least 23 = .ok (.ireturn, 1) := by decide +kernel
theorem dX11_least_24 : decode cX11_least 24 = .ok (.iconst 0, 1) := by decide +kernel
theorem dX11_least_25 : decode cX11_least 25 = .ok (.istore_n 3, 1) := by decide +kernel
theorem dX11_least_26 : decode cX11_least 26 = .ok (.iload_n 3, 1) := by decide +kernel
theorem dX11_least_27 : decode cX11_least 27 = .ok (.iconst 5, 1) := by decide +kernel
theorem dX11_least_28 : decode cX11_least 28 = .ok (.if_icmp .ge 21, 3) := by decide +kernel
theorem dX11_least_31 : decode cX11_least 31 = .ok (.aload_n 0, 1) := by decide +kernel
theorem dX11_least_32 : decode cX11_least 32 = .ok (.getfield 49, 3) := by decide +kernel
theorem dX11_least_35 : decode cX11_least 35 = .ok (.iload_n 3, 1) := by decide +kernel
theorem dX11_least_36 : decode cX11_least 36 = .ok (.aload_n 0, 1) := by decide +kernel
theorem dX11_least_37 : decode cX11_least 37 = .ok (.iload_n 3, 1) := by decide +kernel
theorem dX11_least_38 : decode cX11_least 38 = .ok (.iload_n 2, 1) := by decide +kernel
theorem dX11_least_39 : decode cX11_least 39 = .ok (.invokevirtual 115, 3) := by decide +kernel
theorem dX11_least_42 : decode cX11_least 42 = .ok (.iastore, 1) := by decide +kernel
theorem dX11_least_43 : decode cX11_least 43 = .ok (.iinc 3 1, 3) := by decide +kernel
theorem dX11_least_46 : decode cX11_least 46 = .ok (.goto (-20), 3) := by decide +kernel
theorem dX11_least_49 : decode cX11_least 49 = .ok (.aload_n 0, 1) := by decide +kernel
theorem dX11_least_50 : decode cX11_least 50 = .ok (.getfield 63, 3) := by decide +kernel
theorem dX11_least_53 : decode cX11_least 53 = .ok (.aload_n 0, 1) := by decide +kernel
theorem dX11_least_54 : decode cX11_least 54 = .ok (.getfield 19, 3) := by decide +kernel
theorem dX11_least_57 : decode cX11_least 57 = .ok (.aload_n 0, 1) := by decide +kernel
theorem dX11_least_58 : decode cX11_least 58 = .ok (.getfield 28, 3) := by decide +kernel
theorem dX11_least_61 : decode cX11_least 61 = .ok (.iload_n 1, 1) := by decide +kernel
theorem dX11_least_62 : decode cX11_least 62 = .ok (.aaload, 1) := by decide +kernel
theorem dX11_least_63 : decode cX11_least 63 = .ok (.aload_n 0, 1) := by decide +kernel
theorem dX11_least_64 : decode cX11_least 64 = .ok (.getfield 49, 3) := by decide +kernel
theorem dX11_least_67 : decode cX11_least 67 = .ok (.invokevirtual 144, 3) := by decide +kernel
theorem dX11_least_70 : decode cX11_least 70 = .ok (.istore_n 3, 1) := by decide +kernel
theorem dX11_least_71 : decode cX11_least 71 = .ok (.iload_n 3, 1) := by decide +kernel
theorem dX11_least_72 : decode cX11_least 72 = .ok (.bipush 99, 2) := by decide +kernel
theorem dX11_least_74 : decode cX11_least 74 = .ok (.if_icmp .gt 7, 3) := by decide +kernel
theorem dX11_least_77 : decode cX11_least 77 = .ok (.iload_n 3, 1) := by decide +kernel
theorem dX11_least_78 : decode cX11_least 78 = .ok (.goto 5, 3) := by decide +kernel
theorem dX11_least_81 : decode cX11_least 81 = .ok (.bipush (-4), 2) := by decide +kernel
theorem dX11_least_83 : decode cX11_least 83 = .ok (.ireturn, 1) := by decide +kernel
theorem dX11_mend_0 : decode cX11_mend 0 = .ok (.iload_n 1, 1) := by decide +kernel
theorem dX11_mend_1 : decode cX11_mend 1 = .ok (.invokestatic 119, 3) := by decide +kernel
theorem dX11_mend_4 : decode cX11_mend 4 = .ok (.ifCond .eq 18, 3) := by decide +kernel
theorem dX11_mend_7 : decode cX11_mend 7 = .ok (.iload_n 2, 1) := by decide +kernel
theorem dX11_mend_8 : decode cX11_mend 8 = .ok (.iconst (-1), 1) := by decide +kernel
theorem dX11_mend_9 : decode cX11_mend 9 = .ok (.if_icmp .lt 13, 3) := by decide +kernel
theorem dX11_mend_12 : decode cX11_mend 12 = .ok (.iload_n 3, 1) := by decide +kernel
theorem dX11_mend_13 : decode cX11_mend 13 = .ok (.iconst 0, 1) := by decide +kernel
theorem dX11_mend_14 : decode cX11_mend 14 = .ok (.bipush 9, 2) := by decide +kernel
theorem dX11_mend_16 : decode cX11_mend 16 = .ok (.invokestatic 93, 3) := by decide +kernel
theorem dX11_mend_19 : decode cX11_mend 19 = .ok (.ifCond .ne 5, 3) := by decide +kernel
theorem dX11_mend_22 : decode cX11_mend 22 = .ok (.iconst (-1), 1) := by decide +kernel
theorem dX11_mend_23 : decode cX11_mend 23 = .ok (.ireturn, 1) := by decide +kernel
theorem dX11_mend_24 : decode cX11_mend 24 = .ok (.aload_n 0, 1) := by decide +kernel
theorem dX11_mend_25 : decode cX11_mend 25 = .ok (.aload_n 0, 1) := by decide +kernel
theorem dX11_mend_26 : decode cX11_mend 26 = .ok (.getfield 28, 3) := by decide +kernel
theorem dX11_mend_29 : decode cX11_mend 29 = .ok (.iload_n 1, 1) := by decide +kernel
theorem dX11_mend_30 : decode cX11_mend 30 = .ok (.aaload, 1) := by decide +kernel
theorem dX11_mend_31 : decode cX11_mend 31 = .ok (.invokevirtual 148, 3) := by decide +kernel
theorem dX11_mend_34 : decode cX11_mend 34 = .ok (.ifCond .ne 6, 3) := by decide +kernel
theorem dX11_mend_37 : decode cX11_mend 37 = .ok (.bipush (-2), 2) := by decide +kernel
theorem dX11_mend_39 : decode cX11_mend 39 = .ok (.ireturn, 1) := by decide +kernel
theorem dX11_mend_40 : decode cX11_mend 40 = .ok (.aload_n 0, 1) := by decide +kernel
theorem dX11_mend_41 : decode cX11_mend 41 = .ok (.iload_n 1, 1) := by decide +kernel
theorem dX11_mend_42 : decode cX11_mend 42 = .ok (.invokevirtual 152, 3) := by decide +kernel
theorem dX11_mend_45 : decode cX11_mend 45 = .ok (.iload_n 2, 1) := by decide +kernel
theorem dX11_mend_46 : decode cX11_mend 46 = .ok (.iconst (-1), 1) := by decide +kernel
theorem dX11_mend_47 : decode cX11_mend 47 = .ok (.if_icmp .ne 11, 3) := by decide +kernel
theorem dX11_mend_50 : decode cX11_mend 50 = .ok (.aload_n 0, 1) := by decide +kernel
theorem dX11_mend_51 : decode cX11_mend 51 = .ok (.getfield 84, 3) := by decide +kernel
theorem dX11_mend_54 : decode cX11_mend 54 = .ok (.getfield 155, 3) := by decide +kernel
theorem dX11_mend_57 : decode cX11_mend 57 = .ok (.ireturn, 1) := by decide +kernel
theorem dX11_mend_58 : decode cX11_mend 58 = .ok (.iload_n 2, 1) := by decide +kernel
theorem dX11_mend_59 : decode cX11_mend 59 = .ok (.aload_n 0, 1) := by decide +kernel
theorem dX11_mend_60 : decode cX11_mend 60 = .ok (.getfield 84, 3) := by decide +kernel
theorem dX11_mend_63 : decode cX11_mend 63 = .ok (.getfield 155, 3) := by decide +kernel
theorem dX11_mend_66 : decode cX11_mend 66 = .ok (.if_icmp .lt 6, 3) := by decide +kernel
theorem dX11_mend_69 : decode cX11_mend 69 = .ok (.bipush (-4), 2) := by decide +kernel
theorem dX11_mend_71 : decode cX11_mend 71 = .ok (.ireturn, 1) := by decide +kernel
theorem dX11_mend_72 : decode cX11_mend 72 = .ok (.aload_n 0, 1) := by decide +kernel
theorem dX11_mend_73 : decode cX11_mend 73 = .ok (.getfield 84, 3) := by decide +kernel
theorem dX11_mend_76 : decode cX11_mend 76 = .ok (.getfield 156, 3) := by decide +kernel
theorem dX11_mend_79 : decode cX11_mend 79 = .ok (.iload_n 2, 1) := by decide +kernel
theorem dX11_mend_80 : decode cX11_mend 80 = .ok (.aaload, 1) := by decide +kernel
theorem dX11_mend_81 : decode cX11_mend 81 = .ok (.astore 4, 2) := by decide +kernel
theorem dX11_mend_83 : decode cX11_mend 83 = .ok (.iload_n 3, 1) := by decide +kernel
theorem dX11_mend_84 : decode cX11_mend 84 = .ok (.ifCond .ne 13, 3) := by decide +kernel
theorem dX11_mend_87 : decode cX11_mend 87 = .ok (.aload_n 0, 1) := by decide +kernel
theorem dX11_mend_88 : decode cX11_mend 88 = .ok (.getfield 84, 3) := by decide +kernel
theorem dX11_mend_91 : decode cX11_mend 91 = .ok (.getfield 159, 3) := by decide +kernel
theorem dX11_mend_94 : decode cX11_mend 94 = .ok (.iload_n 2, 1) := by decide +kernel
theorem dX11_mend_95 : decode cX11_mend 95 = .ok (.iaload, 1) := by decide +kernel
theorem dX11_mend_96 : decode cX11_mend 96 = .ok (.ireturn, 1) := by decide +kernel
theorem dX11_mend_97 : decode cX11_mend 97 = .ok (.iload_n 3, 1) := by decide +kernel
theorem dX11_mend_98 : decode cX11_mend 98 = .ok (.iconst 1, 1) := by decide +kernel
theorem dX11_mend_99 : decode cX11_mend 99 = .ok (.if_icmp .ne 9, 3) := by decide +kernel
theorem dX11_mend_102 : decode cX11_mend 102 = .ok (.aload 4, 2) := by decide +kernel
theorem dX11_mend_104 : decode cX11_mend 104 = .ok (.getfield 123, 3) := by decide +kernel
theorem dX11_mend_107 : decode cX11_mend 107 = .ok (.ireturn, 1) := by decide +kernel
theorem dX11_mend_108 : decode cX11_mend 108 = .ok (.iload_n 3, 1) := by decide +kernel
theorem dX11_mend_109 : decode cX11_mend 109 = .ok (.iconst 2, 1) := by decide +kernel
theorem dX11_mend_110 : decode cX11_mend 110 = .ok (.isub, 1) := by decide +kernel
theorem dX11_mend_111 : decode cX11_mend 111 = .ok (.aload 4, 2) := by decide +kernel
theorem dX11_mend_113 : decode cX11_mend 113 = .ok (.getfield 123, 3) := by decide +kernel
theorem dX11_mend_116 : decode cX11_mend 116 = .ok (.if_icmp .ge 15, 3) := by decide +kernel
theorem dX11_mend_119 : decode cX11_mend 119 = .ok (.aload 4, 2) := by decide +kernel
theorem dX11_mend_121 : decode cX11_mend 121 = .ok (.getfield 162, 3) := by decide +kernel
theorem dX11_mend_124 : decode cX11_mend 124 = .ok (.iload_n 3, 1) := by decide +kernel
theorem dX11_mend_125 : decode cX11_mend 125 = .ok (.iconst 2, 1) := by decide +kernel
theorem dX11_mend_126 : decode cX11_mend 126 = .ok (.isub, 1) := by decide +kernel
theorem dX11_mend_127 : decode cX11_mend 127 = .ok (.iaload, 1) := by decide +kernel
theorem dX11_mend_128 : decode cX11_mend 128 = .ok (.goto 5, 3) := by decide +kernel
theorem dX11_mend_131 : decode cX11_mend 131 = .ok (.bipush (-4), 2) := by decide +kernel
theorem dX11_mend_133 : decode cX11_mend 133 = .ok (.ireturn, 1) := by decide +kernel
theorem dX11_heaps_0 : decode cX11_heaps 0 = .ok (.iload_n 1, 1) := by decide +kernel
theorem dX11_heaps_1 : decode cX11_heaps 1 = .ok (.invokestatic 119, 3) := by decide +kernel
theorem dX11_heaps_4 : decode cX11_heaps 4 = .ok (.ifCond .eq 22, 3) := by decide +kernel
theorem dX11_heaps_7 : decode cX11_heaps 7 = .ok (.iload_n 2, 1) := by decide +kernel
theorem dX11_heaps_8 : decode cX11_heaps 8 = .ok (.iconst 0, 1) := by decide +kernel
theorem dX11_heaps_9 : decode cX11_heaps 9 = .ok (.bipush 99, 2) := by decide +kernel
theorem dX11_heaps_11 : decode cX11_heaps 11 = .ok (.invokestatic 93, 3) := by decide +kernel
theorem dX11_heaps_14 : decode cX11_heaps 14 = .ok (.ifCond .eq 12, 3) := by decide +kernel
theorem dX11_heaps_17 : decode cX11_heaps 17 = .ok (.iload_n 3, 1) := by decide +kernel
theorem dX11_heaps_18 : decode cX11_heaps 18 = .ok (.iconst 0, 1) := by decide +kernel
theorem dX11_heaps_19 : decode cX11_heaps 19 = .ok (.iconst 2, 1) := by decide +kernel
theorem dX11_heaps_20 : decode cX11_heaps 20 = .ok (.invokestatic 93, 3) := by decide +kernel
theorem dX11_heaps_23 : decode cX11_heaps 23 = .ok (.ifCond .ne 5, 3) := by decide +kernel
theorem dX11_heaps_26 : decode cX11_heaps 26 = .ok (.iconst (-1), 1) := by decide +kernel
theorem dX11_heaps_27 : decode cX11_heaps 27 = .ok (.ireturn, 1) := by decide +kernel
theorem dX11_heaps_28 : decode cX11_heaps 28 = .ok (.aload_n 0, 1) := by decide +kernel
theorem dX11_heaps_29 : decode cX11_heaps 29 = .ok (.aload_n 0, 1) := by decide +kernel
theorem dX11_heaps_30 : decode cX11_heaps 30 = .ok (.getfield 28, 3) := by decide +kernel
theorem dX11_heaps_33 : decode cX11_heaps 33 = .ok (.iload_n 1, 1) := by decide +kernel
theorem dX11_heaps_34 : decode cX11_heaps 34 = .ok (.aaload, 1) := by decide +kernel
theorem dX11_heaps_35 : decode cX11_heaps 35 = .ok (.invokevirtual 148, 3) := by decide +kernel
theorem dX11_heaps_38 : decode cX11_heaps 38 = .ok (.ifCond .ne 6, 3) := by decide +kernel
theorem dX11_heaps_41 : decode cX11_heaps 41 = .ok (.bipush (-2), 2) := by decide +kernel
theorem dX11_heaps_43 : decode cX11_heaps 43 = .ok (.ireturn, 1) := by decide +kernel
theorem dX11_heaps_44 : decode cX11_heaps 44 = .ok (.aload_n 0, 1) := by decide +kernel
theorem dX11_heaps_45 : decode cX11_heaps 45 = .ok (.iload_n 1, 1) := by decide +kernel
theorem dX11_heaps_46 : decode cX11_heaps 46 = .ok (.invokevirtual 152, 3) := by decide +kernel
theorem dX11_heaps_49 : decode cX11_heaps 49 = .ok (.aload_n 0, 1) := by decide +kernel
theorem dX11_heaps_50 : decode cX11_heaps 50 = .ok (.getfield 84, 3) := by decide +kernel
theorem dX11_heaps_53 : decode cX11_heaps 53 = .ok (.aload_n 0, 1) := by decide +kernel
theorem dX11_heaps_54 : decode cX11_heaps 54 = .ok (.getfield 19, 3) := by decide +kernel
theorem dX11_heaps_57 : decode cX11_heaps 57 = .ok (.invokevirtual 164, 3) := by decide +kernel
theorem dX11_heaps_60 : decode cX11_heaps 60 = .ok (.iload_n 3, 1) := by decide +kernel
theorem dX11_heaps_61 : decode cX11_heaps 61 = .ok (.ifCond .ne 11, 3) := by decide +kernel
theorem dX11_heaps_64 : decode cX11_heaps 64 = .ok (.aload_n 0, 1) := by decide +kernel
theorem dX11_heaps_65 : decode cX11_heaps 65 = .ok (.getfield 84, 3) := by decide +kernel
theorem dX11_heaps_68 : decode cX11_heaps 68 = .ok (.getfield 168, 3) := by decide +kernel
theorem dX11_heaps_71 : decode cX11_heaps 71 = .ok (.ireturn, 1) := by decide +kernel
theorem dX11_heaps_72 : decode cX11_heaps 72 = .ok (.aload_n 0, 1) := by decide +kernel
theorem dX11_heaps_73 : decode cX11_heaps 73 = .ok (.getfield 84, 3) := by decide +kernel
theorem dX11_heaps_76 : decode cX11_heaps 76 = .ok (.getfield 168, 3) := by decide +kernel
theorem dX11_heaps_79 : decode cX11_heaps 79 = .ok (.ifCond .ne 6, 3) := by decide +kernel
theorem dX11_heaps_82 : decode cX11_heaps 82 = .ok (.bipush (-4), 2) := by decide +kernel
theorem dX11_heaps_84 : decode cX11_heaps 84 = .ok (.ireturn, 1) := by decide +kernel
theorem dX11_heaps_85 : decode cX11_heaps 85 = .ok (.iload_n 3, 1) := by decide +kernel
theorem dX11_heaps_86 : decode cX11_heaps 86 = .ok (.iconst 1, 1) := by decide +kernel
theorem dX11_heaps_87 : decode cX11_heaps 87 = .ok (.if_icmp .ne 20, 3) := by decide +kernel
theorem dX11_heaps_90 : decode cX11_heaps 90 = .ok (.aload_n 0, 1) := by decide +kernel
theorem dX11_heaps_91 : decode cX11_heaps 91 = .ok (.getfield 84, 3) := by decide +kernel
theorem dX11_heaps_94 : decode cX11_heaps 94 = .ok (.iload_n 2, 1) := by decide +kernel
theorem dX11_heaps_95 : decode cX11_heaps 95 = .ok (.invokevirtual 171, 3) := by decide +kernel
theorem dX11_heaps_98 : decode cX11_heaps 98 = .ok (.ifCond .eq 7, 3) := by decide +kernel
theorem dX11_heaps_101 : decode cX11_heaps 101 = .ok (.iconst 1, 1) := by decide +kernel
theorem dX11_heaps_102 : decode cX11_heaps 102 = .ok (.goto 4, 3) := by decide +kernel
theorem dX11_heaps_105 : decode cX11_heaps 105 = .ok (.iconst 0, 1) := by decide +kernel
theorem dX11_heaps_106 : decode cX11_heaps 106 = .ok (.ireturn, 1) := by decide +kernel
theorem dX11_heaps_107 : decode cX11_heaps 107 = .ok (.aload_n 0, 1) := by decide +kernel
theorem dX11_heaps_108 : decode cX11_heaps 108 = .ok (.getfield 84, 3) := by decide +kernel
theorem dX11_heaps_111 : decode cX11_heaps 111 = .ok (.getfield 168, 3) := by decide +kernel
theorem dX11_heaps_114 : decode cX11_heaps 114 = .ok (.iconst 2, 1) := by decide +kernel
theorem dX11_heaps_115 : decode cX11_heaps 115 = .ok (.if_icmp .ge 8, 3) := by decide +kernel
theorem dX11_heaps_118 : decode cX11_heaps 118 = .ok (.bipush (-4), 2) := by decide +kernel
theorem dX11_heaps_120 : decode cX11_heaps 120 = .ok (.goto 14, 3) := by decide +kernel
theorem dX11_heaps_123 : decode cX11_heaps 123 = .ok (.aload_n 0, 1) := by decide +kernel
theorem dX11_heaps_124 : decode cX11_heaps 124 = .ok (.getfield 84, 3) := by decide +kernel
theorem dX11_heaps_127 : decode cX11_heaps 127 = .ok (.aload_n 0, 1) := by decide +kernel
theorem dX11_heaps_128 : decode cX11_heaps 128 = .ok (.getfield 19, 3) := by decide +kernel
theorem dX11_heaps_131 : decode cX11_heaps 131 = .ok (.invokevirtual 174, 3) := by decide +kernel
theorem dX11_heaps_134 : decode cX11_heaps 134 = .ok (.ireturn, 1) := by decide +kernel
theorem dX11_bars_0 : decode cX11_bars 0 = .ok (.iload_n 1, 1) := by decide +kernel
theorem dX11_bars_1 : decode cX11_bars 1 = .ok (.invokestatic 119, 3) := by decide +kernel
theorem dX11_bars_4 : decode cX11_bars 4 = .ok (.ifCond .ne 5, 3) := by decide +kernel
theorem dX11_bars_7 : decode cX11_bars 7 = .ok (.iconst (-1), 1) := by decide +kernel
theorem dX11_bars_8 : decode cX11_bars 8 = .ok (.ireturn, 1) := by decide +kernel
theorem dX11_bars_9 : decode cX11_bars 9 = .ok (.aload_n 0, 1) := by decide +kernel
theorem dX11_bars_10 : decode cX11_bars 10 = .ok (.getfield 28, 3) := by decide +kernel
theorem dX11_bars_13 : decode cX11_bars 13 = .ok (.iload_n 1, 1) := by decide +kernel
theorem dX11_bars_14 : decode cX11_bars 14 = .ok (.aaload, 1) := by decide +kernel
theorem dX11_bars_15 : decode cX11_bars 15 = .ok (.astore_n 2, 1) := by decide +kernel
theorem dX11_bars_16 : decode cX11_bars 16 = .ok (.aload_n 2, 1) := by decide +kernel
theorem dX11_bars_17 : decode cX11_bars 17 = .ok (.getfield 123, 3) := by decide +kernel
theorem dX11_bars_20 : decode cX11_bars 20 = .ok (.ifCond .ne 6, 3) := by decide +kernel
theorem dX11_bars_23 : decode cX11_bars 23 = .ok (.bipush (-2), 2) := by decide +kernel
theorem dX11_bars_25 : decode cX11_bars 25 = .ok (.ireturn, 1) := by decide +kernel
theorem dX11_bars_26 : decode cX11_bars 26 = .ok (.aload_n 0, 1) := by decide +kernel
theorem dX11_bars_27 : decode cX11_bars 27 = .ok (.aload_n 2, 1) := by decide +kernel
theorem dX11_bars_28 : decode cX11_bars 28 = .ok (.invokevirtual 177, 3) := by decide +kernel
theorem dX11_bars_31 : decode cX11_bars 31 = .ok (.ifCond .eq 7, 3) := by decide +kernel
theorem dX11_bars_34 : decode cX11_bars 34 = .ok (.iconst 0, 1) := by decide +kernel
theorem dX11_bars_35 : decode cX11_bars 35 = .ok (.goto 19, 3) := by decide +kernel
theorem dX11_bars_38 : decode cX11_bars 38 = .ok (.aload_n 0, 1) := by decide +kernel
theorem dX11_bars_39 : decode cX11_bars 39 = .ok (.getfield 77, 3) := by decide +kernel
theorem dX11_bars_42 : decode cX11_bars 42 = .ok (.aload_n 0, 1) := by decide +kernel
theorem dX11_bars_43 : decode cX11_bars 43 = .ok (.getfield 19, 3) := by decide +kernel
theorem dX11_bars_46 : decode cX11_bars 46 = .ok (.aload_n 2, 1) := by decide +kernel
theorem dX11_bars_47 : decode cX11_bars 47 = .ok (.aload_n 0, 1) := by decide +kernel
theorem dX11_bars_48 : decode cX11_bars 48 = .ok (.getfield 70, 3) := by decide +kernel
theorem dX11_bars_51 : decode cX11_bars 51 = .ok (.invokevirtual 180, 3) := by decide +kernel
theorem dX11_bars_54 : decode cX11_bars 54 = .ok (.ireturn, 1) := by decide +kernel
theorem dX11_keep_0 : decode cX11_keep 0 = .ok (.iload_n 1, 1) := by decide +kernel
theorem dX11_keep_1 : decode cX11_keep 1 = .ok (.invokestatic 119, 3) := by decide +kernel
theorem dX11_keep_4 : decode cX11_keep 4 = .ok (.ifCond .eq 10, 3) := by decide +kernel
theorem dX11_keep_7 : decode cX11_keep 7 = .ok (.iload_n 2, 1) := by decide +kernel
theorem dX11_keep_8 : decode cX11_keep 8 = .ok (.invokestatic 119, 3) := by decide +kernel
theorem dX11_keep_11 : decode cX11_keep 11 = .ok (.ifCond .ne 5, 3) := by decide +kernel
theorem dX11_keep_14 : decode cX11_keep 14 = .ok (.iconst (-1), 1) := by decide +kernel
theorem dX11_keep_15 : decode cX11_keep 15 = .ok (.ireturn, 1) := by decide +kernel
theorem dX11_keep_16 : decode cX11_keep 16 = .ok (.aload_n 0, 1) := by decide +kernel
theorem dX11_keep_17 : decode cX11_keep 17 = .ok (.getfield 28, 3) := by decide +kernel
theorem dX11_keep_20 : decode cX11_keep 20 = .ok (.iload_n 1, 1) := by decide +kernel
theorem dX11_keep_21 : decode cX11_keep 21 = .ok (.aaload, 1) := by decide +kernel
theorem dX11_keep_22 : decode cX11_keep 22 = .ok (.astore_n 3, 1) := by decide +kernel
theorem dX11_keep_23 : decode cX11_keep 23 = .ok (.aload_n 0, 1) := by decide +kernel
theorem dX11_keep_24 : decode cX11_keep 24 = .ok (.getfield 28, 3) := by decide +kernel
theorem dX11_keep_27 : decode cX11_keep 27 = .ok (.iload_n 2, 1) := by decide +kernel
theorem dX11_keep_28 : decode cX11_keep 28 = .ok (.aaload, 1) := by decide +kernel
theorem dX11_keep_29 : decode cX11_keep 29 = .ok (.astore 4, 2) := by decide +kernel
theorem dX11_keep_31 : decode cX11_keep 31 = .ok (.aload_n 3, 1) := by decide +kernel
theorem dX11_keep_32 : decode cX11_keep 32 = .ok (.getfield 123, 3) := by decide +kernel
theorem dX11_keep_35 : decode cX11_keep 35 = .ok (.ifCond .eq 11, 3) := by decide +kernel
theorem dX11_keep_38 : decode cX11_keep 38 = .ok (.aload 4, 2) := by decide +kernel
theorem dX11_keep_40 : decode cX11_keep 40 = .ok (.getfield 123, 3) := by decide +kernel
theorem dX11_keep_43 : decode cX11_keep 43 = .ok (.ifCond .ne 6, 3) := by decide +kernel
theorem dX11_keep_46 : decode cX11_keep 46 = .ok (.bipush (-2), 2) := by decide +kernel
theorem dX11_keep_48 : decode cX11_keep 48 = .ok (.ireturn, 1) := by decide +kernel
theorem dX11_keep_49 : decode cX11_keep 49 = .ok (.aload_n 0, 1) := by decide +kernel
theorem dX11_keep_50 : decode cX11_keep 50 = .ok (.getfield 38, 3) := by decide +kernel
theorem dX11_keep_53 : decode cX11_keep 53 = .ok (.bipush 12, 2) := by decide +kernel
theorem dX11_keep_55 : decode cX11_keep 55 = .ok (.if_icmp .lt 6, 3) := by decide +kernel
theorem dX11_keep_58 : decode cX11_keep 58 = .ok (.bipush (-3), 2) := by decide +kernel
theorem dX11_keep_60 : decode cX11_keep 60 = .ok (.ireturn, 1) := by decide +kernel
theorem dX11_keep_61 : decode cX11_keep 61 = .ok (.aload_n 0, 1) := by decide +kernel
theorem dX11_keep_62 : decode cX11_keep 62 = .ok (.getfield 34, 3) := by decide +kernel
theorem dX11_keep_65 : decode cX11_keep 65 = .ok (.aload_n 0, 1) := by decide +kernel
theorem dX11_keep_66 : decode cX11_keep 66 = .ok (.getfield 38, 3) := by decide +kernel
theorem dX11_keep_69 : decode cX11_keep 69 = .ok (.aaload, 1) := by decide +kernel
theorem dX11_keep_70 : decode cX11_keep 70 = .ok (.astore 5, 2) := by decide +kernel
theorem dX11_keep_72 : decode cX11_keep 72 = .ok (.aload 5, 2) := by decide +kernel
theorem dX11_keep_74 : decode cX11_keep 74 = .ok (.aload_n 3, 1) := by decide +kernel
theorem dX11_keep_75 : decode cX11_keep 75 = .ok (.aload 4, 2) := by decide +kernel
theorem dX11_keep_77 : decode cX11_keep 77 = .ok (.invokevirtual 184, 3) := by decide +kernel
theorem dX11_keep_80 : decode cX11_keep 80 = .ok (.ifCond .ne 7, 3) := by decide +kernel
theorem dX11_keep_83 : decode cX11_keep 83 = .ok (.iconst 1, 1) := by decide +kernel
theorem dX11_keep_84 : decode cX11_keep 84 = .ok (.goto 4, 3) := by decide +kernel
theorem dX11_keep_87 : decode cX11_keep 87 = .ok (.iconst 0, 1) := by decide +kernel
theorem dX11_keep_88 : decode cX11_keep 88 = .ok (.putfield 188, 3) := by decide +kernel
theorem dX11_keep_91 : decode cX11_keep 91 = .ok (.aload 5, 2) := by decide +kernel
theorem dX11_keep_93 : decode cX11_keep 93 = .ok (.aload_n 0, 1) := by decide +kernel
theorem dX11_keep_94 : decode cX11_keep 94 = .ok (.aload_n 3, 1) := by decide +kernel
theorem dX11_keep_95 : decode cX11_keep 95 = .ok (.invokevirtual 177, 3) := by decide +kernel
theorem dX11_keep_98 : decode cX11_keep 98 = .ok (.putfield 192, 3) := by decide +kernel
theorem dX11_keep_101 : decode cX11_keep 101 = .ok (.aload 5, 2) := by decide +kernel
theorem dX11_keep_103 : decode cX11_keep 103 = .ok (.bipush (-4), 2) := by decide +kernel
theorem dX11_keep_105 : decode cX11_keep 105 = .ok (.putfield 195, 3) := by decide +kernel
theorem dX11_keep_108 : decode cX11_keep 108 = .ok (.aload 5, 2) := by decide +kernel
theorem dX11_keep_110 : decode cX11_keep 110 = .ok (.iconst 0, 1) := by decide +kernel
theorem dX11_keep_111 : decode cX11_keep 111 = .ok (.putfield 198, 3) := by decide +kernel
theorem dX11_keep_114 : decode cX11_keep 114 = .ok (.aload 5, 2) := by decide +kernel
theorem dX11_keep_116 : decode cX11_keep 116 = .ok (.getfield 192, 3) := by decide +kernel
theorem dX11_keep_119 : decode cX11_keep 119 = .ok (.ifCond .ne 32, 3) := by decide +kernel
theorem dX11_keep_122 : decode cX11_keep 122 = .ok (.aload 5, 2) := by decide +kernel
theorem dX11_keep_124 : decode cX11_keep 124 = .ok (.getfield 188, 3) := by decide +kernel
theorem dX11_keep_127 : decode cX11_keep 127 = .ok (.ifCond .eq 24, 3) := by decide +kernel
theorem dX11_keep_130 : decode cX11_keep 130 = .ok (.aload 5, 2) := by decide +kernel
theorem dX11_keep_132 : decode cX11_keep 132 = .ok (.aload_n 0, 1) := by decide +kernel
theorem dX11_keep_133 : decode cX11_keep 133 = .ok (.getfield 77, 3) := by decide +kernel
theorem dX11_keep_136 : decode cX11_keep 136 = .ok (.aload_n 0, 1) := by decide +kernel
theorem dX11_keep_137 : decode cX11_keep 137 = .ok (.getfield 19, 3) := by decide +kernel
theorem dX11_keep_140 : decode cX11_keep 140 = .ok (.aload_n 3, 1) := by decide +kernel
theorem dX11_keep_141 : decode cX11_keep 141 = .ok (.aload_n 0, 1) := by decide +kernel
theorem dX11_keep_142 : decode cX11_keep 142 = .ok (.getfield 70, 3) := by decide +kernel
theorem dX11_keep_145 : decode cX11_keep 145 = .ok (.invokevirtual 201, 3) := by decide +kernel
theorem dX11_keep_148 : decode cX11_keep 148 = .ok (.putfield 198, 3) := by decide +kernel
theorem dX11_keep_151 : decode cX11_keep 151 = .ok (.aload 5, 2) := by decide +kernel
theorem dX11_keep_153 : decode cX11_keep 153 = .ok (.getfield 192, 3) := by decide +kernel
theorem dX11_keep_156 : decode cX11_keep 156 = .ok (.ifCond .ne 47, 3) := by decide +kernel
theorem dX11_keep_159 : decode cX11_keep 159 = .ok (.aload 5, 2) := by decide +kernel
theorem dX11_keep_161 : decode cX11_keep 161 = .ok (.getfield 188, 3) := by decide +kernel
theorem dX11_keep_164 : decode cX11_keep 164 = .ok (.ifCond .ne 39, 3) := by decide +kernel
theorem dX11_keep_167 : decode cX11_keep 167 = .ok (.aload_n 0, 1) := by decide +kernel
theorem dX11_keep_168 : decode cX11_keep 168 = .ok (.iconst (-1), 1) := by decide +kernel
theorem dX11_keep_169 : decode cX11_keep 169 = .ok (.putfield 88, 3) := by decide +kernel
theorem dX11_keep_172 : decode cX11_keep 172 = .ok (.aload_n 0, 1) := by decide +kernel
theorem dX11_keep_173 : decode cX11_keep 173 = .ok (.getfield 84, 3) := by decide +kernel
theorem dX11_keep_176 : decode cX11_keep 176 = .ok (.aload_n 0, 1) := by decide +kernel
theorem dX11_keep_177 : decode cX11_keep 177 = .ok (.getfield 19, 3) := by decide +kernel
theorem dX11_keep_180 : decode cX11_keep 180 = .ok (.aload_n 3, 1) := by decide +kernel
theorem dX11_keep_181 : decode cX11_keep 181 = .ok (.iconst 0, 1) := by decide +kernel
theorem dX11_keep_182 : decode cX11_keep 182 = .ok (.aload_n 0, 1) := by decide +kernel
theorem dX11_keep_183 : decode cX11_keep 183 = .ok (.getfield 70, 3) := by decide +kernel
theorem dX11_keep_186 : decode cX11_keep 186 = .ok (.invokevirtual 204, 3) := by decide +kernel
theorem dX11_keep_189 : decode cX11_keep 189 = .ok (.aload 5, 2) := by decide +kernel
theorem dX11_keep_191 : decode cX11_keep 191 = .ok (.aload_n 0, 1) := by decide +kernel
theorem dX11_keep_192 : decode cX11_keep 192 = .ok (.getfield 84, 3) := by decide +kernel
theorem dX11_keep_195 : decode cX11_keep 195 = .ok (.aload 4, 2) := by decide +kernel
theorem dX11_keep_197 : decode cX11_keep 197 = .ok (.invokevirtual 208, 3) := by decide +kernel
theorem dX11_keep_200 : decode cX11_keep 200 = .ok (.putfield 195, 3) := by decide +kernel
theorem dX11_keep_203 : decode cX11_keep 203 = .ok (.aload_n 0, 1) := by decide +kernel
theorem dX11_keep_204 : decode cX11_keep 204 = .ok (.dup, 1) := by decide +kernel
theorem dX11_keep_205 : decode cX11_keep 205 = .ok (.getfield 38, 3) := by decide +kernel
theorem dX11_keep_208 : decode cX11_keep 208 = .ok (.iconst 1, 1) := by decide +kernel
theorem dX11_keep_209 : decode cX11_keep 209 = .ok (.iadd, 1) := by decide +kernel
theorem dX11_keep_210 : decode cX11_keep 210 = .ok (.putfield 38, 3) := by decide +kernel
theorem dX11_keep_213 : decode cX11_keep 213 = .ok (.aload_n 0, 1) := by decide +kernel
theorem dX11_keep_214 : decode cX11_keep 214 = .ok (.getfield 38, 3) := by decide +kernel
theorem dX11_keep_217 : decode cX11_keep 217 = .ok (.iconst 1, 1) := by decide +kernel
theorem dX11_keep_218 : decode cX11_keep 218 = .ok (.isub, 1) := by decide +kernel
theorem dX11_keep_219 : decode cX11_keep 219 = .ok (.ireturn, 1) := by decide +kernel
theorem dX11_kept_0 : decode cX11_kept 0 = .ok (.iload_n 1, 1) := by decide +kernel
theorem dX11_kept_1 : decode cX11_kept 1 = .ok (.iconst 0, 1) := by decide +kernel
theorem dX11_kept_2 : decode cX11_kept 2 = .ok (.iconst 2, 1) := by decide +kernel
theorem dX11_kept_3 : decode cX11_kept 3 = .ok (.invokestatic 93, 3) := by decide +kernel
theorem dX11_kept_6 : decode cX11_kept 6 = .ok (.ifCond .ne 5, 3) := by decide +kernel
theorem dX11_kept_9 : decode cX11_kept 9 = .ok (.iconst (-1), 1) := by decide +kernel
theorem dX11_kept_10 : decode cX11_kept 10 = .ok (.ireturn, 1) := by decide +kernel
theorem dX11_kept_11 : decode cX11_kept 11 = .ok (.iconst 0, 1) := by decide +kernel
theorem dX11_kept_12 : decode cX11_kept 12 = .ok (.istore_n 2, 1) := by decide +kernel
theorem dX11_kept_13 : decode cX11_kept 13 = .ok (.iconst 0, 1) := by decide +kernel
theorem dX11_kept_14 : decode cX11_kept 14 = .ok (.istore_n 3, 1) := by decide +kernel
theorem dX11_kept_15 : decode cX11_kept 15 = .ok (.iload_n 3, 1) := by decide +kernel
theorem dX11_kept_16 : decode cX11_kept 16 = .ok (.aload_n 0, 1) := by decide +kernel
theorem dX11_kept_17 : decode cX11_kept 17 = .ok (.getfield 38, 3) := by decide +kernel
theorem dX11_kept_20 : decode cX11_kept 20 = .ok (.if_icmp .ge 57, 3) := by decide +kernel
theorem dX11_kept_23 : decode cX11_kept 23 = .ok (.aload_n 0, 1) := by decide +kernel
theorem dX11_kept_24 : decode cX11_kept 24 = .ok (.getfield 34, 3) := by decide +kernel
theorem dX11_kept_27 : decode cX11_kept 27 = .ok (.iload_n 3, 1) := by decide +kernel
theorem dX11_kept_28 : decode cX11_kept 28 = .ok (.aaload, 1) := by decide +kernel
theorem dX11_kept_29 : decode cX11_kept 29 = .ok (.astore 4, 2) := by decide +kernel
theorem dX11_kept_31 : decode cX11_kept 31 = .ok (.iload_n 1, 1) := by decide +kernel
theorem dX11_kept_32 : decode cX11_kept 32 = .ok (.iconst 2, 1) := by decide +kernel
theorem dX11_kept_33 : decode cX11_kept 33 = .ok (.if_icmp .ne 11, 3) := by decide +kernel
theorem dX11_kept_36 : decode cX11_kept 36 = .ok (.aload 4, 2) := by decide +kernel
theorem dX11_kept_38 : decode cX11_kept 38 = .ok (.invokevirtual 211, 3) := by decide +kernel
theorem dX11_kept_41 : decode cX11_kept 41 = .ok (.goto 8, 3) := by decide +kernel
theorem dX11_kept_44 : decode cX11_kept 44 = .ok (.aload 4, 2) := by decide +kernel
theorem dX11_kept_46 : decode cX11_kept 46 = .ok (.invokevirtual 215, 3) := by decide +kernel
theorem dX11_kept_49 : decode cX11_kept 49 = .ok (.istore 5, 2) := by decide +kernel
theorem dX11_kept_51 : decode cX11_kept 51 = .ok (.iload 5, 2) := by decide +kernel
theorem dX11_kept_53 : decode cX11_kept 53 = .ok (.ifCond .eq 18, 3) := by decide +kernel
theorem dX11_kept_56 : decode cX11_kept 56 = .ok (.iload_n 1, 1) := by decide +kernel
theorem dX11_kept_57 : decode cX11_kept 57 = .ok (.ifCond .ne 11, 3) := by decide +kernel
theorem dX11_kept_60 : decode cX11_kept 60 = .ok (.aload 4, 2) := by decide +kernel
theorem dX11_kept_62 : decode cX11_kept 62 = .ok (.getfield 195, 3) := by decide +kernel
theorem dX11_kept_65 : decode cX11_kept 65 = .ok (.ifCond .ne 6, 3) := by decide +kernel
theorem dX11_kept_68 : decode cX11_kept 68 = .ok (.iinc 2 1, 3) := by decide +kernel
theorem dX11_kept_71 : decode cX11_kept 71 = .ok (.iinc 3 1, 3) := by decide +kernel
theorem dX11_kept_74 : decode cX11_kept 74 = .ok (.goto (-59), 3) := by decide +kernel
theorem dX11_kept_77 : decode cX11_kept 77 = .ok (.iload_n 2, 1) := by decide +kernel
theorem dX11_kept_78 : decode cX11_kept 78 = .ok (.ireturn, 1) := by decide +kernel
theorem dX11_byRule_0 : decode cX11_byRule 0 = .ok (.iload_n 1, 1) := by decide +kernel
theorem dX11_byRule_1 : decode cX11_byRule 1 = .ok (.iconst 0, 1) := by decide +kernel
theorem dX11_byRule_2 : decode cX11_byRule 2 = .ok (.aload_n 0, 1) := by decide +kernel
theorem dX11_byRule_3 : decode cX11_byRule 3 = .ok (.getfield 19, 3) := by decide +kernel
theorem dX11_byRule_6 : decode cX11_byRule 6 = .ok (.getfield 218, 3) := by decide +kernel
theorem dX11_byRule_9 : decode cX11_byRule 9 = .ok (.iconst 1, 1) := by decide +kernel
theorem dX11_byRule_10 : decode cX11_byRule 10 = .ok (.isub, 1) := by decide +kernel
theorem dX11_byRule_11 : decode cX11_byRule 11 = .ok (.invokestatic 93, 3) := by decide +kernel
theorem dX11_byRule_14 : decode cX11_byRule 14 = .ok (.ifCond .ne 5, 3) := by decide +kernel
theorem dX11_byRule_17 : decode cX11_byRule 17 = .ok (.iconst (-1), 1) := by decide +kernel
theorem dX11_byRule_18 : decode cX11_byRule 18 = .ok (.ireturn, 1) := by decide +kernel
theorem dX11_byRule_19 : decode cX11_byRule 19 = .ok (.iconst 0, 1) := by decide +kernel
theorem dX11_byRule_20 : decode cX11_byRule 20 = .ok (.istore_n 2, 1) := by decide +kernel
theorem dX11_byRule_21 : decode cX11_byRule 21 = .ok (.iconst 0, 1) := by decide +kernel
theorem dX11_byRule_22 : decode cX11_byRule 22 = .ok (.istore_n 3, 1) := by decide +kernel
theorem dX11_byRule_23 : decode cX11_byRule 23 = .ok (.iload_n 3, 1) := by decide +kernel
theorem dX11_byRule_24 : decode cX11_byRule 24 = .ok (.aload_n 0, 1) := by decide +kernel
theorem dX11_byRule_25 : decode cX11_byRule 25 = .ok (.getfield 38, 3) := by decide +kernel
theorem dX11_byRule_28 : decode cX11_byRule 28 = .ok (.if_icmp .ge 40, 3) := by decide +kernel
theorem dX11_byRule_31 : decode cX11_byRule 31 = .ok (.aload_n 0, 1) := by decide +kernel
theorem dX11_byRule_32 : decode cX11_byRule 32 = .ok (.getfield 34, 3) := by decide +kernel
theorem dX11_byRule_35 : decode cX11_byRule 35 = .ok (.iload_n 3, 1) := by decide +kernel
theorem dX11_byRule_36 : decode cX11_byRule 36 = .ok (.aaload, 1) := by decide +kernel
theorem dX11_byRule_37 : decode cX11_byRule 37 = .ok (.invokevirtual 211, 3) := by decide +kernel
theorem dX11_byRule_40 : decode cX11_byRule 40 = .ok (.ifCond .eq 22, 3) := by decide +kernel
theorem dX11_byRule_43 : decode cX11_byRule 43 = .ok (.aload_n 0, 1) := by decide +kernel
theorem dX11_byRule_44 : decode cX11_byRule 44 = .ok (.getfield 34, 3) := by decide +kernel
theorem dX11_byRule_47 : decode cX11_byRule 47 = .ok (.iload_n 3, 1) := by decide +kernel
theorem dX11_byRule_48 : decode cX11_byRule 48 = .ok (.aaload, 1) := by decide +kernel
theorem dX11_byRule_49 : decode cX11_byRule 49 = .ok (.getfield 198, 3) := by decide +kernel
theorem dX11_byRule_52 : decode cX11_byRule 52 = .ok (.iload_n 1, 1) := by decide +kernel
theorem dX11_byRule_53 : decode cX11_byRule 53 = .ok (.invokestatic 221, 3) := by decide +kernel
theorem dX11_byRule_56 : decode cX11_byRule 56 = .ok (.ifCond .eq 6, 3) := by decide +kernel
theorem dX11_byRule_59 : decode cX11_byRule 59 = .ok (.iinc 2 1, 3) := by decide +kernel
theorem dX11_byRule_62 : decode cX11_byRule 62 = .ok (.iinc 3 1, 3) := by decide +kernel
theorem dX11_byRule_65 : decode cX11_byRule 65 = .ok (.goto (-42), 3) := by decide +kernel
theorem dX11_byRule_68 : decode cX11_byRule 68 = .ok (.iload_n 2, 1) := by decide +kernel
theorem dX11_byRule_69 : decode cX11_byRule 69 = .ok (.ireturn, 1) := by decide +kernel
theorem dX11_theirs_0 : decode cX11_theirs 0 = .ok (.iload_n 1, 1) := by decide +kernel
theorem dX11_theirs_1 : decode cX11_theirs 1 = .ok (.iconst 0, 1) := by decide +kernel
theorem dX11_theirs_2 : decode cX11_theirs 2 = .ok (.aload_n 0, 1) := by decide +kernel
theorem dX11_theirs_3 : decode cX11_theirs 3 = .ok (.getfield 38, 3) := by decide +kernel
theorem dX11_theirs_6 : decode cX11_theirs 6 = .ok (.iconst 1, 1) := by decide +kernel
theorem dX11_theirs_7 : decode cX11_theirs 7 = .ok (.isub, 1) := by decide +kernel
theorem dX11_theirs_8 : decode cX11_theirs 8 = .ok (.invokestatic 93, 3) := by decide +kernel
theorem dX11_theirs_11 : decode cX11_theirs 11 = .ok (.ifCond .ne 5, 3) := by decide +kernel
theorem dX11_theirs_14 : decode cX11_theirs 14 = .ok (.iconst (-1), 1) := by decide +kernel
theorem dX11_theirs_15 : decode cX11_theirs 15 = .ok (.ireturn, 1) := by decide +kernel
theorem dX11_theirs_16 : decode cX11_theirs 16 = .ok (.aload_n 0, 1) := by decide +kernel
theorem dX11_theirs_17 : decode cX11_theirs 17 = .ok (.getfield 34, 3) := by decide +kernel
theorem dX11_theirs_20 : decode cX11_theirs 20 = .ok (.iload_n 1, 1) := by decide +kernel
theorem dX11_theirs_21 : decode cX11_theirs 21 = .ok (.aaload, 1) := by decide +kernel
theorem dX11_theirs_22 : decode cX11_theirs 22 = .ok (.invokevirtual 215, 3) := by decide +kernel
theorem dX11_theirs_25 : decode cX11_theirs 25 = .ok (.ifCond .eq 15, 3) := by decide +kernel
theorem dX11_theirs_28 : decode cX11_theirs 28 = .ok (.aload_n 0, 1) := by decide +kernel
theorem dX11_theirs_29 : decode cX11_theirs 29 = .ok (.getfield 34, 3) := by decide +kernel
theorem dX11_theirs_32 : decode cX11_theirs 32 = .ok (.iload_n 1, 1) := by decide +kernel
theorem dX11_theirs_33 : decode cX11_theirs 33 = .ok (.aaload, 1) := by decide +kernel
theorem dX11_theirs_34 : decode cX11_theirs 34 = .ok (.getfield 195, 3) := by decide +kernel
theorem dX11_theirs_37 : decode cX11_theirs 37 = .ok (.goto 5, 3) := by decide +kernel
theorem dX11_theirs_40 : decode cX11_theirs 40 = .ok (.bipush (-2), 2) := by decide +kernel
theorem dX11_theirs_42 : decode cX11_theirs 42 = .ok (.ireturn, 1) := by decide +kernel
theorem dX11_err_0 : decode cX11_err 0 = .ok (.iload_n 1, 1) := by decide +kernel
theorem dX11_err_1 : decode cX11_err 1 = .ok (.iconst 0, 1) := by decide +kernel
theorem dX11_err_2 : decode cX11_err 2 = .ok (.iconst 4, 1) := by decide +kernel
theorem dX11_err_3 : decode cX11_err 3 = .ok (.invokestatic 93, 3) := by decide +kernel
theorem dX11_err_6 : decode cX11_err 6 = .ok (.ifCond .ne 5, 3) := by decide +kernel
theorem dX11_err_9 : decode cX11_err 9 = .ok (.iconst (-1), 1) := by decide +kernel
theorem dX11_err_10 : decode cX11_err 10 = .ok (.ireturn, 1) := by decide +kernel
theorem dX11_err_11 : decode cX11_err 11 = .ok (.aload_n 0, 1) := by decide +kernel
theorem dX11_err_12 : decode cX11_err 12 = .ok (.getfield 45, 3) := by decide +kernel
theorem dX11_err_15 : decode cX11_err 15 = .ok (.getfield 111, 3) := by decide +kernel
theorem dX11_err_18 : decode cX11_err 18 = .ok (.bipush 60, 2) := by decide +kernel
theorem dX11_err_20 : decode cX11_err 20 = .ok (.if_icmp .lt 6, 3) := by decide +kernel
theorem dX11_err_23 : decode cX11_err 23 = .ok (.bipush (-3), 2) := by decide +kernel
theorem dX11_err_25 : decode cX11_err 25 = .ok (.ireturn, 1) := by decide +kernel
theorem dX11_err_26 : decode cX11_err 26 = .ok (.aload_n 0, 1) := by decide +kernel
theorem dX11_err_27 : decode cX11_err 27 = .ok (.getfield 45, 3) := by decide +kernel
theorem dX11_err_30 : decode cX11_err 30 = .ok (.iload_n 1, 1) := by decide +kernel
theorem dX11_err_31 : decode cX11_err 31 = .ok (.invokevirtual 225, 3) := by decide +kernel
theorem dX11_err_34 : decode cX11_err 34 = .ok (.aload_n 0, 1) := by decide +kernel
theorem dX11_err_35 : decode cX11_err 35 = .ok (.getfield 45, 3) := by decide +kernel
theorem dX11_err_38 : decode cX11_err 38 = .ok (.getfield 111, 3) := by decide +kernel
theorem dX11_err_41 : decode cX11_err 41 = .ok (.ireturn, 1) := by decide +kernel
theorem dX11_gone_0 : decode cX11_gone 0 = .ok (.iload_n 1, 1) := by decide +kernel
theorem dX11_gone_1 : decode cX11_gone 1 = .ok (.iconst 0, 1) := by decide +kernel
theorem dX11_gone_2 : decode cX11_gone 2 = .ok (.iconst 4, 1) := by decide +kernel
theorem dX11_gone_3 : decode cX11_gone 3 = .ok (.invokestatic 93, 3) := by decide +kernel
theorem dX11_gone_6 : decode cX11_gone 6 = .ok (.ifCond .eq 13, 3) := by decide +kernel
theorem dX11_gone_9 : decode cX11_gone 9 = .ok (.iload_n 2, 1) := by decide +kernel
theorem dX11_gone_10 : decode cX11_gone 10 = .ok (.iconst 1, 1) := by decide +kernel
theorem dX11_gone_11 : decode cX11_gone 11 = .ok (.bipush 60, 2) := by decide +kernel
theorem dX11_gone_13 : decode cX11_gone 13 = .ok (.invokestatic 93, 3) := by decide +kernel
theorem dX11_gone_16 : decode cX11_gone 16 = .ok (.ifCond .ne 5, 3) := by decide +kernel
theorem dX11_gone_19 : decode cX11_gone 19 = .ok (.iconst (-1), 1) := by decide +kernel
theorem dX11_gone_20 : decode cX11_gone 20 = .ok (.ireturn, 1) := by decide +kernel
theorem dX11_gone_21 : decode cX11_gone 21 = .ok (.aload_n 0, 1) := by decide +kernel
theorem dX11_gone_22 : decode cX11_gone 22 = .ok (.getfield 45, 3) := by decide +kernel
theorem dX11_gone_25 : decode cX11_gone 25 = .ok (.iload_n 1, 1) := by decide +kernel
theorem dX11_gone_26 : decode cX11_gone 26 = .ok (.iconst 0, 1) := by decide +kernel
theorem dX11_gone_27 : decode cX11_gone 27 = .ok (.invokevirtual 226, 3) := by decide +kernel
theorem dX11_gone_30 : decode cX11_gone 30 = .ok (.ifCond .eq 27, 3) := by decide +kernel
theorem dX11_gone_33 : decode cX11_gone 33 = .ok (.aload_n 0, 1) := by decide +kernel
theorem dX11_gone_34 : decode cX11_gone 34 = .ok (.getfield 45, 3) := by decide +kernel
theorem dX11_gone_37 : decode cX11_gone 37 = .ok (.iload_n 1, 1) := by decide +kernel
theorem dX11_gone_38 : decode cX11_gone 38 = .ok (.aload_n 0, 1) := by decide +kernel
theorem dX11_gone_39 : decode cX11_gone 39 = .ok (.getfield 45, 3) := by decide +kernel
theorem dX11_gone_42 : decode cX11_gone 42 = .ok (.getfield 111, 3) := by decide +kernel
theorem dX11_gone_45 : decode cX11_gone 45 = .ok (.iload_n 2, 1) := by decide +kernel
theorem dX11_gone_46 : decode cX11_gone 46 = .ok (.isub, 1) := by decide +kernel
theorem dX11_gone_47 : decode cX11_gone 47 = .ok (.invokevirtual 226, 3) := by decide +kernel
theorem dX11_gone_50 : decode cX11_gone 50 = .ok (.ifCond .ne 7, 3) := by decide +kernel
theorem dX11_gone_53 : decode cX11_gone 53 = .ok (.iconst 1, 1) := by decide +kernel
theorem dX11_gone_54 : decode cX11_gone 54 = .ok (.goto 4, 3) := by decide +kernel
theorem dX11_gone_57 : decode cX11_gone 57 = .ok (.iconst 0, 1) := by decide +kernel
theorem dX11_gone_58 : decode cX11_gone 58 = .ok (.ireturn, 1) := by decide +kernel
theorem dX11_count_0 : decode cX11_count 0 = .ok (.iload_n 1, 1) := by decide +kernel
theorem dX11_count_1 : decode cX11_count 1 = .ok (.tableswitch 81 0 5 #[39, 47, 55, 63, 68, 76], 39) := by decide +kernel
theorem dX11_count_40 : decode cX11_count 40 = .ok (.aload_n 0, 1) := by decide +kernel
theorem dX11_count_41 : decode cX11_count 41 = .ok (.getfield 19, 3) := by decide +kernel
theorem dX11_count_44 : decode cX11_count 44 = .ok (.getfield 112, 3) := by decide +kernel
theorem dX11_count_47 : decode cX11_count 47 = .ok (.ireturn, 1) := by decide +kernel
theorem dX11_count_48 : decode cX11_count 48 = .ok (.aload_n 0, 1) := by decide +kernel
theorem dX11_count_49 : decode cX11_count 49 = .ok (.getfield 19, 3) := by decide +kernel
theorem dX11_count_52 : decode cX11_count 52 = .ok (.getfield 218, 3) := by decide +kernel
theorem dX11_count_55 : decode cX11_count 55 = .ok (.ireturn, 1) := by decide +kernel
theorem dX11_count_56 : decode cX11_count 56 = .ok (.aload_n 0, 1) := by decide +kernel
theorem dX11_count_57 : decode cX11_count 57 = .ok (.getfield 12, 3) := by decide +kernel
theorem dX11_count_60 : decode cX11_count 60 = .ok (.getfield 97, 3) := by decide +kernel
theorem dX11_count_63 : decode cX11_count 63 = .ok (.ireturn, 1) := by decide +kernel
theorem dX11_count_64 : decode cX11_count 64 = .ok (.aload_n 0, 1) := by decide +kernel
theorem dX11_count_65 : decode cX11_count 65 = .ok (.getfield 38, 3) := by decide +kernel
theorem dX11_count_68 : decode cX11_count 68 = .ok (.ireturn, 1) := by decide +kernel
theorem dX11_count_69 : decode cX11_count 69 = .ok (.aload_n 0, 1) := by decide +kernel
theorem dX11_count_70 : decode cX11_count 70 = .ok (.getfield 45, 3) := by decide +kernel
theorem dX11_count_73 : decode cX11_count 73 = .ok (.getfield 111, 3) := by decide +kernel
theorem dX11_count_76 : decode cX11_count 76 = .ok (.ireturn, 1) := by decide +kernel
theorem dX11_count_77 : decode cX11_count 77 = .ok (.aload_n 0, 1) := by decide +kernel
theorem dX11_count_78 : decode cX11_count 78 = .ok (.invokevirtual 229, 3) := by decide +kernel
theorem dX11_count_81 : decode cX11_count 81 = .ok (.ireturn, 1) := by decide +kernel
theorem dX11_count_82 : decode cX11_count 82 = .ok (.iconst (-1), 1) := by decide +kernel
theorem dX11_count_83 : decode cX11_count 83 = .ok (.ireturn, 1) := by decide +kernel
theorem dX11_isWithin_0 : decode cX11_isWithin 0 = .ok (.iload_n 0, 1) := by decide +kernel
theorem dX11_isWithin_1 : decode cX11_isWithin 1 = .ok (.iload_n 1, 1) := by decide +kernel
theorem dX11_isWithin_2 : decode cX11_isWithin 2 = .ok (.if_icmp .lt 12, 3) := by decide +kernel
theorem dX11_isWithin_5 : decode cX11_isWithin 5 = .ok (.iload_n 0, 1) := by decide +kernel
theorem dX11_isWithin_6 : decode cX11_isWithin 6 = .ok (.iload_n 2, 1) := by decide +kernel
theorem dX11_isWithin_7 : decode cX11_isWithin 7 = .ok (.if_icmp .gt 7, 3) := by decide +kernel
theorem dX11_isWithin_10 : decode cX11_isWithin 10 = .ok (.iconst 1, 1) := by decide +kernel
theorem dX11_isWithin_11 : decode cX11_isWithin 11 = .ok (.goto 4, 3) := by decide +kernel
theorem dX11_isWithin_14 : decode cX11_isWithin 14 = .ok (.iconst 0, 1) := by decide +kernel
theorem dX11_isWithin_15 : decode cX11_isWithin 15 = .ok (.ireturn, 1) := by decide +kernel
theorem dX11_isSentence_0 : decode cX11_isSentence 0 = .ok (.iload_n 0, 1) := by decide +kernel
theorem dX11_isSentence_1 : decode cX11_isSentence 1 = .ok (.iconst 0, 1) := by decide +kernel
theorem dX11_isSentence_2 : decode cX11_isSentence 2 = .ok (.bipush 7, 2) := by decide +kernel
theorem dX11_isSentence_4 : decode cX11_isSentence 4 = .ok (.invokestatic 93, 3) := by decide +kernel
theorem dX11_isSentence_7 : decode cX11_isSentence 7 = .ok (.ireturn, 1) := by decide +kernel
theorem dX11_hasBit_0 : decode cX11_hasBit 0 = .ok (.iload_n 0, 1) := by decide +kernel
theorem dX11_hasBit_1 : decode cX11_hasBit 1 = .ok (.iload_n 1, 1) := by decide +kernel
theorem dX11_hasBit_2 : decode cX11_hasBit 2 = .ok (.ishr, 1) := by decide +kernel
theorem dX11_hasBit_3 : decode cX11_hasBit 3 = .ok (.iconst 1, 1) := by decide +kernel
theorem dX11_hasBit_4 : decode cX11_hasBit 4 = .ok (.iand, 1) := by decide +kernel
theorem dX11_hasBit_5 : decode cX11_hasBit 5 = .ok (.iconst 1, 1) := by decide +kernel
theorem dX11_hasBit_6 : decode cX11_hasBit 6 = .ok (.if_icmp .ne 7, 3) := by decide +kernel
theorem dX11_hasBit_9 : decode cX11_hasBit 9 = .ok (.iconst 1, 1) := by decide +kernel
theorem dX11_hasBit_10 : decode cX11_hasBit 10 = .ok (.goto 4, 3) := by decide +kernel
theorem dX11_hasBit_13 : decode cX11_hasBit 13 = .ok (.iconst 0, 1) := by decide +kernel
theorem dX11_hasBit_14 : decode cX11_hasBit 14 = .ok (.ireturn, 1) := by decide +kernel
theorem dX11_priceOf_0 : decode cX11_priceOf 0 = .ok (.iload_n 2, 1) := by decide +kernel
theorem dX11_priceOf_1 : decode cX11_priceOf 1 = .ok (.ifCond .eq 24, 3) := by decide +kernel
theorem dX11_priceOf_4 : decode cX11_priceOf 4 = .ok (.aload_n 0, 1) := by decide +kernel
theorem dX11_priceOf_5 : decode cX11_priceOf 5 = .ok (.getfield 45, 3) := by decide +kernel
theorem dX11_priceOf_8 : decode cX11_priceOf 8 = .ok (.getfield 111, 3) := by decide +kernel
theorem dX11_priceOf_11 : decode cX11_priceOf 11 = .ok (.ifCond .le 14, 3) := by decide +kernel
theorem dX11_priceOf_14 : decode cX11_priceOf 14 = .ok (.aload_n 0, 1) := by decide +kernel
theorem dX11_priceOf_15 : decode cX11_priceOf 15 = .ok (.getfield 45, 3) := by decide +kernel
theorem dX11_priceOf_18 : decode cX11_priceOf 18 = .ok (.iload_n 1, 1) := by decide +kernel
theorem dX11_priceOf_19 : decode cX11_priceOf 19 = .ok (.invokevirtual 233, 3) := by decide +kernel
theorem dX11_priceOf_22 : decode cX11_priceOf 22 = .ok (.goto 12, 3) := by decide +kernel
theorem dX11_priceOf_25 : decode cX11_priceOf 25 = .ok (.aload_n 0, 1) := by decide +kernel
theorem dX11_priceOf_26 : decode cX11_priceOf 26 = .ok (.getfield 19, 3) := by decide +kernel
theorem dX11_priceOf_29 : decode cX11_priceOf 29 = .ok (.getfield 237, 3) := by decide +kernel
theorem dX11_priceOf_32 : decode cX11_priceOf 32 = .ok (.iload_n 1, 1) := by decide +kernel
theorem dX11_priceOf_33 : decode cX11_priceOf 33 = .ok (.iaload, 1) := by decide +kernel
theorem dX11_priceOf_34 : decode cX11_priceOf 34 = .ok (.ireturn, 1) := by decide +kernel
theorem dX11_isRead_0 : decode cX11_isRead 0 = .ok (.aload_n 0, 1) := by decide +kernel
theorem dX11_isRead_1 : decode cX11_isRead 1 = .ok (.getfield 56, 3) := by decide +kernel
theorem dX11_isRead_4 : decode cX11_isRead 4 = .ok (.aload_n 0, 1) := by decide +kernel
theorem dX11_isRead_5 : decode cX11_isRead 5 = .ok (.getfield 19, 3) := by decide +kernel
theorem dX11_isRead_8 : decode cX11_isRead 8 = .ok (.aload_n 1, 1) := by decide +kernel
theorem dX11_isRead_9 : decode cX11_isRead 9 = .ok (.invokevirtual 132, 3) := by decide +kernel
theorem dX11_isRead_12 : decode cX11_isRead 12 = .ok (.aload_n 0, 1) := by decide +kernel
theorem dX11_isRead_13 : decode cX11_isRead 13 = .ok (.getfield 56, 3) := by decide +kernel
theorem dX11_isRead_16 : decode cX11_isRead 16 = .ok (.aload_n 1, 1) := by decide +kernel
theorem dX11_isRead_17 : decode cX11_isRead 17 = .ok (.getfield 123, 3) := by decide +kernel
theorem dX11_isRead_20 : decode cX11_isRead 20 = .ok (.invokevirtual 136, 3) := by decide +kernel
theorem dX11_isRead_23 : decode cX11_isRead 23 = .ok (.lconst 0, 1) := by decide +kernel
theorem dX11_isRead_24 : decode cX11_isRead 24 = .ok (.lcmp, 1) := by decide +kernel
theorem dX11_isRead_25 : decode cX11_isRead 25 = .ok (.ifCond .le 7, 3) := by decide +kernel
theorem dX11_isRead_28 : decode cX11_isRead 28 = .ok (.iconst 1, 1) := by decide +kernel
theorem dX11_isRead_29 : decode cX11_isRead 29 = .ok (.goto 4, 3) := by decide +kernel
theorem dX11_isRead_32 : decode cX11_isRead 32 = .ok (.iconst 0, 1) := by decide +kernel
theorem dX11_isRead_33 : decode cX11_isRead 33 = .ok (.ireturn, 1) := by decide +kernel
theorem dX11_canBeMended_0 : decode cX11_canBeMended 0 = .ok (.aload_n 1, 1) := by decide +kernel
theorem dX11_canBeMended_1 : decode cX11_canBeMended 1 = .ok (.getfield 123, 3) := by decide +kernel
theorem dX11_canBeMended_4 : decode cX11_canBeMended 4 = .ok (.ifCond .le 15, 3) := by decide +kernel
theorem dX11_canBeMended_7 : decode cX11_canBeMended 7 = .ok (.aload_n 0, 1) := by decide +kernel
theorem dX11_canBeMended_8 : decode cX11_canBeMended 8 = .ok (.aload_n 1, 1) := by decide +kernel
theorem dX11_canBeMended_9 : decode cX11_canBeMended 9 = .ok (.invokevirtual 177, 3) := by decide +kernel
theorem dX11_canBeMended_12 : decode cX11_canBeMended 12 = .ok (.ifCond .ne 7, 3) := by decide +kernel
theorem dX11_canBeMended_15 : decode cX11_canBeMended 15 = .ok (.iconst 1, 1) := by decide +kernel
theorem dX11_canBeMended_16 : decode cX11_canBeMended 16 = .ok (.goto 4, 3) := by decide +kernel
theorem dX11_canBeMended_19 : decode cX11_canBeMended 19 = .ok (.iconst 0, 1) := by decide +kernel
theorem dX11_canBeMended_20 : decode cX11_canBeMended 20 = .ok (.ireturn, 1) := by decide +kernel
theorem dX11_findMends_0 : decode cX11_findMends 0 = .ok (.aload_n 0, 1) := by decide +kernel
theorem dX11_findMends_1 : decode cX11_findMends 1 = .ok (.getfield 88, 3) := by decide +kernel
theorem dX11_findMends_4 : decode cX11_findMends 4 = .ok (.iload_n 1, 1) := by decide +kernel
theorem dX11_findMends_5 : decode cX11_findMends 5 = .ok (.if_icmp .eq 38, 3) := by decide +kernel
theorem dX11_findMends_8 : decode cX11_findMends 8 = .ok (.aload_n 0, 1) := by decide +kernel
theorem dX11_findMends_9 : decode cX11_findMends 9 = .ok (.getfield 84, 3) := by decide +kernel
theorem dX11_findMends_12 : decode cX11_findMends 12 = .ok (.aload_n 0, 1) := by decide +kernel
theorem dX11_findMends_13 : decode cX11_findMends 13 = .ok (.getfield 19, 3) := by decide +kernel
theorem dX11_findMends_16 : decode cX11_findMends 16 = .ok (.aload_n 0, 1) := by decide +kernel
theorem dX11_findMends_17 : decode cX11_findMends 17 = .ok (.getfield 28, 3) := by decide +kernel
theorem dX11_findMends_20 : decode cX11_findMends 20 = .ok (.iload_n 1, 1) := by decide +kernel
theorem dX11_findMends_21 : decode cX11_findMends 21 = .ok (.aaload, 1) := by decide +kernel
theorem dX11_findMends_22 : decode cX11_findMends 22 = .ok (.aload_n 0, 1) := by decide +kernel
theorem dX11_findMends_23 : decode cX11_findMends 23 = .ok (.getfield 28, 3) := by decide +kernel
theorem dX11_findMends_26 : decode cX11_findMends 26 = .ok (.iload_n 1, 1) := by decide +kernel
theorem dX11_findMends_27 : decode cX11_findMends 27 = .ok (.aaload, 1) := by decide +kernel
theorem dX11_findMends_28 : decode cX11_findMends 28 = .ok (.getfield 125, 3) := by decide +kernel
theorem dX11_findMends_31 : decode cX11_findMends 31 = .ok (.aload_n 0, 1) := by decide +kernel
theorem dX11_findMends_32 : decode cX11_findMends 32 = .ok (.getfield 70, 3) := by decide +kernel
theorem dX11_findMends_35 : decode cX11_findMends 35 = .ok (.invokevirtual 204, 3) := by decide +kernel
theorem dX11_findMends_38 : decode cX11_findMends 38 = .ok (.aload_n 0, 1) := by decide +kernel
theorem dX11_findMends_39 : decode cX11_findMends 39 = .ok (.iload_n 1, 1) := by decide +kernel
theorem dX11_findMends_40 : decode cX11_findMends 40 = .ok (.putfield 88, 3) := by decide +kernel
theorem dX11_findMends_43 : decode cX11_findMends 43 = .ok (.return_, 1) := by decide +kernel
theorem dX11_wordsOfSentences_0 : decode cX11_wordsOfSentences 0 = .ok (.iconst 0, 1) := by decide +kernel
theorem dX11_wordsOfSentences_1 : decode cX11_wordsOfSentences 1 = .ok (.istore_n 1, 1) := by decide +kernel
theorem dX11_wordsOfSentences_2 : decode cX11_wordsOfSentences 2 = .ok (.iconst 0, 1) := by decide +kernel
theorem dX11_wordsOfSentences_3 : decode cX11_wordsOfSentences 3 = .ok (.istore_n 2, 1) := by decide +kernel
theorem dX11_wordsOfSentences_4 : decode cX11_wordsOfSentences 4 = .ok (.iload_n 2, 1) := by decide +kernel
theorem dX11_wordsOfSentences_5 : decode cX11_wordsOfSentences 5 = .ok (.bipush 8, 2) := by decide +kernel
theorem dX11_wordsOfSentences_7 : decode cX11_wordsOfSentences 7 = .ok (.if_icmp .ge 21, 3) := by decide +kernel
theorem dX11_wordsOfSentences_10 : decode cX11_wordsOfSentences 10 = .ok (.iload_n 1, 1) := by decide +kernel
theorem dX11_wordsOfSentences_11 : decode cX11_wordsOfSentences 11 = .ok (.aload_n 0, 1) := by decide +kernel
theorem dX11_wordsOfSentences_12 : decode cX11_wordsOfSentences 12 = .ok (.getfield 28, 3) := by decide +kernel
theorem dX11_wordsOfSentences_15 : decode cX11_wordsOfSentences 15 = .ok (.iload_n 2, 1) := by decide +kernel
theorem dX11_wordsOfSentences_16 : decode cX11_wordsOfSentences 16 = .ok (.aaload, 1) := by decide +kernel
theorem dX11_wordsOfSentences_17 : decode cX11_wordsOfSentences 17 = .ok (.getfield 123, 3) := by decide +kernel
theorem dX11_wordsOfSentences_20 : decode cX11_wordsOfSentences 20 = .ok (.iadd, 1) := by decide +kernel
theorem dX11_wordsOfSentences_21 : decode cX11_wordsOfSentences 21 = .ok (.istore_n 1, 1) := by decide +kernel
theorem dX11_wordsOfSentences_22 : decode cX11_wordsOfSentences 22 = .ok (.iinc 2 1, 3) := by decide +kernel
theorem dX11_wordsOfSentences_25 : decode cX11_wordsOfSentences 25 = .ok (.goto (-21), 3) := by decide +kernel
theorem dX11_wordsOfSentences_28 : decode cX11_wordsOfSentences 28 = .ok (.iload_n 1, 1) := by decide +kernel
theorem dX11_wordsOfSentences_29 : decode cX11_wordsOfSentences 29 = .ok (.ireturn, 1) := by decide +kernel
