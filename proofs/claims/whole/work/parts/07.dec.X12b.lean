theorem dX12_goOver_280 : decode cX12_goOver 280 = .ok (.iadd, 1) := by decide +kernel
theorem dX12_goOver_281 : decode cX12_goOver 281 = .ok (.aload_n 0, 1) := by decide +kernel
theorem dX12_goOver_282 : decode cX12_goOver 282 = .ok (.getfield 56, 3) := by decide +kernel
theorem dX12_goOver_285 : decode cX12_goOver 285 = .ok (.iload 8, 2) := by decide +kernel
theorem dX12_goOver_287 : decode cX12_goOver 287 = .ok (.iload 10, 2) := by decide +kernel
theorem dX12_goOver_289 : decode cX12_goOver 289 = .ok (.iadd, 1) := by decide +kernel
theorem dX12_goOver_290 : decode cX12_goOver 290 = .ok (.iaload, 1) := by decide +kernel
theorem dX12_goOver_291 : decode cX12_goOver 291 = .ok (.aload_n 0, 1) := by decide +kernel
theorem dX12_goOver_292 : decode cX12_goOver 292 = .ok (.getfield 56, 3) := by decide +kernel
theorem dX12_goOver_295 : decode cX12_goOver 295 = .ok (.iload 9, 2) := by decide +kernel
theorem dX12_goOver_297 : decode cX12_goOver 297 = .ok (.iload 11, 2) := by decide +kernel
theorem dX12_goOver_299 : decode cX12_goOver 299 = .ok (.iadd, 1) := by decide +kernel
theorem dX12_goOver_300 : decode cX12_goOver 300 = .ok (.iaload, 1) := by decide +kernel
theorem dX12_goOver_301 : decode cX12_goOver 301 = .ok (.iadd, 1) := by decide +kernel
theorem dX12_goOver_302 : decode cX12_goOver 302 = .ok (.invokevirtual 174, 3) := by decide +kernel
theorem dX12_goOver_305 : decode cX12_goOver 305 = .ok (.ior, 1) := by decide +kernel
theorem dX12_goOver_306 : decode cX12_goOver 306 = .ok (.istore 4, 2) := by decide +kernel
theorem dX12_goOver_308 : decode cX12_goOver 308 = .ok (.iinc 11 1, 3) := by decide +kernel
theorem dX12_goOver_311 : decode cX12_goOver 311 = .ok (.goto (-96), 3) := by decide +kernel
theorem dX12_goOver_314 : decode cX12_goOver 314 = .ok (.iinc 10 1, 3) := by decide +kernel
theorem dX12_goOver_317 : decode cX12_goOver 317 = .ok (.goto (-111), 3) := by decide +kernel
theorem dX12_goOver_320 : decode cX12_goOver 320 = .ok (.iinc 7 1, 3) := by decide +kernel
theorem dX12_goOver_323 : decode cX12_goOver 323 = .ok (.goto (-177), 3) := by decide +kernel
theorem dX12_goOver_326 : decode cX12_goOver 326 = .ok (.iinc 6 1, 3) := by decide +kernel
theorem dX12_goOver_329 : decode cX12_goOver 329 = .ok (.goto (-192), 3) := by decide +kernel
theorem dX12_goOver_332 : decode cX12_goOver 332 = .ok (.iload 4, 2) := by decide +kernel
theorem dX12_goOver_334 : decode cX12_goOver 334 = .ok (.ireturn, 1) := by decide +kernel
theorem dX12_least_0 : decode cX12_least 0 = .ok (.iload_n 1, 1) := by decide +kernel
theorem dX12_least_1 : decode cX12_least 1 = .ok (.invokestatic 134, 3) := by decide +kernel
theorem dX12_least_4 : decode cX12_least 4 = .ok (.ifCond .ne 5, 3) := by decide +kernel
theorem dX12_least_7 : decode cX12_least 7 = .ok (.iconst (-1), 1) := by decide +kernel
theorem dX12_least_8 : decode cX12_least 8 = .ok (.ireturn, 1) := by decide +kernel
theorem dX12_least_9 : decode cX12_least 9 = .ok (.aload_n 0, 1) := by decide +kernel
theorem dX12_least_10 : decode cX12_least 10 = .ok (.getfield 28, 3) := by decide +kernel
theorem dX12_least_13 : decode cX12_least 13 = .ok (.iload_n 1, 1) := by decide +kernel
theorem dX12_least_14 : decode cX12_least 14 = .ok (.iaload, 1) := by decide +kernel
theorem dX12_least_15 : decode cX12_least 15 = .ok (.ifCond .ne 6, 3) := by decide +kernel
theorem dX12_least_18 : decode cX12_least 18 = .ok (.bipush (-2), 2) := by decide +kernel
theorem dX12_least_20 : decode cX12_least 20 = .ok (.ireturn, 1) := by decide +kernel
theorem dX12_least_21 : decode cX12_least 21 = .ok (.iconst 0, 1) := by decide +kernel
theorem dX12_least_22 : decode cX12_least 22 = .ok (.istore_n 3, 1) := by decide +kernel
theorem dX12_least_23 : decode cX12_least 23 = .ok (.iload_n 3, 1) := by decide +kernel
theorem dX12_least_24 : decode cX12_least 24 = .ok (.iconst 5, 1) := by decide +kernel
theorem dX12_least_25 : decode cX12_least 25 = .ok (.if_icmp .ge 33, 3) := by decide +kernel
theorem dX12_least_28 : decode cX12_least 28 = .ok (.aload_n 0, 1) := by decide +kernel
theorem dX12_least_29 : decode cX12_least 29 = .ok (.getfield 59, 3) := by decide +kernel
theorem dX12_least_32 : decode cX12_least 32 = .ok (.iload_n 3, 1) := by decide +kernel
theorem dX12_least_33 : decode cX12_least 33 = .ok (.iload_n 2, 1) := by decide +kernel
theorem dX12_least_34 : decode cX12_least 34 = .ok (.ifCond .eq 11, 3) := by decide +kernel
theorem dX12_least_37 : decode cX12_least 37 = .ok (.aload_n 0, 1) := by decide +kernel
theorem dX12_least_38 : decode cX12_least 38 = .ok (.iload_n 3, 1) := by decide +kernel
theorem dX12_least_39 : decode cX12_least 39 = .ok (.invokevirtual 128, 3) := by decide +kernel
theorem dX12_least_42 : decode cX12_least 42 = .ok (.goto 9, 3) := by decide +kernel
theorem dX12_least_45 : decode cX12_least 45 = .ok (.aload_n 0, 1) := by decide +kernel
theorem dX12_least_46 : decode cX12_least 46 = .ok (.getfield 25, 3) := by decide +kernel
theorem dX12_least_49 : decode cX12_least 49 = .ok (.iload_n 3, 1) := by decide +kernel
theorem dX12_least_50 : decode cX12_least 50 = .ok (.iaload, 1) := by decide +kernel
theorem dX12_least_51 : decode cX12_least 51 = .ok (.iastore, 1) := by decide +kernel
theorem dX12_least_52 : decode cX12_least 52 = .ok (.iinc 3 1, 3) := by decide +kernel
theorem dX12_least_55 : decode cX12_least 55 = .ok (.goto (-32), 3) := by decide +kernel
theorem dX12_least_58 : decode cX12_least 58 = .ok (.iconst 0, 1) := by decide +kernel
theorem dX12_least_59 : decode cX12_least 59 = .ok (.istore_n 3, 1) := by decide +kernel
theorem dX12_least_60 : decode cX12_least 60 = .ok (.iload_n 3, 1) := by decide +kernel
theorem dX12_least_61 : decode cX12_least 61 = .ok (.aload_n 0, 1) := by decide +kernel
theorem dX12_least_62 : decode cX12_least 62 = .ok (.getfield 28, 3) := by decide +kernel
theorem dX12_least_65 : decode cX12_least 65 = .ok (.iload_n 1, 1) := by decide +kernel
theorem dX12_least_66 : decode cX12_least 66 = .ok (.iaload, 1) := by decide +kernel
theorem dX12_least_67 : decode cX12_least 67 = .ok (.if_icmp .gt 66, 3) := by decide +kernel
theorem dX12_least_70 : decode cX12_least 70 = .ok (.iconst 0, 1) := by decide +kernel
theorem dX12_least_71 : decode cX12_least 71 = .ok (.istore 4, 2) := by decide +kernel
theorem dX12_least_73 : decode cX12_least 73 = .ok (.iload 4, 2) := by decide +kernel
theorem dX12_least_75 : decode cX12_least 75 = .ok (.iload_n 3, 1) := by decide +kernel
theorem dX12_least_76 : decode cX12_least 76 = .ok (.iadd, 1) := by decide +kernel
theorem dX12_least_77 : decode cX12_least 77 = .ok (.aload_n 0, 1) := by decide +kernel
theorem dX12_least_78 : decode cX12_least 78 = .ok (.getfield 28, 3) := by decide +kernel
theorem dX12_least_81 : decode cX12_least 81 = .ok (.iload_n 1, 1) := by decide +kernel
theorem dX12_least_82 : decode cX12_least 82 = .ok (.iaload, 1) := by decide +kernel
theorem dX12_least_83 : decode cX12_least 83 = .ok (.if_icmp .gt 44, 3) := by decide +kernel
theorem dX12_least_86 : decode cX12_least 86 = .ok (.aload_n 0, 1) := by decide +kernel
theorem dX12_least_87 : decode cX12_least 87 = .ok (.iload_n 1, 1) := by decide +kernel
theorem dX12_least_88 : decode cX12_least 88 = .ok (.iload 4, 2) := by decide +kernel
theorem dX12_least_90 : decode cX12_least 90 = .ok (.iload 4, 2) := by decide +kernel
theorem dX12_least_92 : decode cX12_least 92 = .ok (.iload_n 3, 1) := by decide +kernel
theorem dX12_least_93 : decode cX12_least 93 = .ok (.iadd, 1) := by decide +kernel
theorem dX12_least_94 : decode cX12_least 94 = .ok (.invokevirtual 177, 3) := by decide +kernel
theorem dX12_least_97 : decode cX12_least 97 = .ok (.iconst 1, 1) := by decide +kernel
theorem dX12_least_98 : decode cX12_least 98 = .ok (.istore 5, 2) := by decide +kernel
theorem dX12_least_100 : decode cX12_least 100 = .ok (.iload 5, 2) := by decide +kernel
theorem dX12_least_102 : decode cX12_least 102 = .ok (.ifCond .eq 19, 3) := by decide +kernel
theorem dX12_least_105 : decode cX12_least 105 = .ok (.aload_n 0, 1) := by decide +kernel
theorem dX12_least_106 : decode cX12_least 106 = .ok (.iload_n 1, 1) := by decide +kernel
theorem dX12_least_107 : decode cX12_least 107 = .ok (.iload 4, 2) := by decide +kernel
theorem dX12_least_109 : decode cX12_least 109 = .ok (.iload 4, 2) := by decide +kernel
theorem dX12_least_111 : decode cX12_least 111 = .ok (.iload_n 3, 1) := by decide +kernel
theorem dX12_least_112 : decode cX12_least 112 = .ok (.iadd, 1) := by decide +kernel
theorem dX12_least_113 : decode cX12_least 113 = .ok (.invokevirtual 181, 3) := by decide +kernel
theorem dX12_least_116 : decode cX12_least 116 = .ok (.istore 5, 2) := by decide +kernel
theorem dX12_least_118 : decode cX12_least 118 = .ok (.goto (-18), 3) := by decide +kernel
theorem dX12_least_121 : decode cX12_least 121 = .ok (.iinc 4 1, 3) := by decide +kernel
theorem dX12_least_124 : decode cX12_least 124 = .ok (.goto (-51), 3) := by decide +kernel
theorem dX12_least_127 : decode cX12_least 127 = .ok (.iinc 3 1, 3) := by decide +kernel
theorem dX12_least_130 : decode cX12_least 130 = .ok (.goto (-70), 3) := by decide +kernel
theorem dX12_least_133 : decode cX12_least 133 = .ok (.ldc 166, 2) := by decide +kernel
theorem dX12_least_135 : decode cX12_least 135 = .ok (.istore_n 3, 1) := by decide +kernel
theorem dX12_least_136 : decode cX12_least 136 = .ok (.iconst 0, 1) := by decide +kernel
theorem dX12_least_137 : decode cX12_least 137 = .ok (.istore 4, 2) := by decide +kernel
theorem dX12_least_139 : decode cX12_least 139 = .ok (.iload 4, 2) := by decide +kernel
theorem dX12_least_141 : decode cX12_least 141 = .ok (.iconst 4, 1) := by decide +kernel
theorem dX12_least_142 : decode cX12_least 142 = .ok (.if_icmp .ge 43, 3) := by decide +kernel
theorem dX12_least_145 : decode cX12_least 145 = .ok (.aload_n 0, 1) := by decide +kernel
theorem dX12_least_146 : decode cX12_least 146 = .ok (.getfield 56, 3) := by decide +kernel
theorem dX12_least_149 : decode cX12_least 149 = .ok (.aload_n 0, 1) := by decide +kernel
theorem dX12_least_150 : decode cX12_least 150 = .ok (.iconst 0, 1) := by decide +kernel
theorem dX12_least_151 : decode cX12_least 151 = .ok (.aload_n 0, 1) := by decide +kernel
theorem dX12_least_152 : decode cX12_least 152 = .ok (.getfield 28, 3) := by decide +kernel
theorem dX12_least_155 : decode cX12_least 155 = .ok (.iload_n 1, 1) := by decide +kernel
theorem dX12_least_156 : decode cX12_least 156 = .ok (.iaload, 1) := by decide +kernel
theorem dX12_least_157 : decode cX12_least 157 = .ok (.invokevirtual 167, 3) := by decide +kernel
theorem dX12_least_160 : decode cX12_least 160 = .ok (.iload 4, 2) := by decide +kernel
theorem dX12_least_162 : decode cX12_least 162 = .ok (.iadd, 1) := by decide +kernel
theorem dX12_least_163 : decode cX12_least 163 = .ok (.iaload, 1) := by decide +kernel
theorem dX12_least_164 : decode cX12_least 164 = .ok (.istore 5, 2) := by decide +kernel
theorem dX12_least_166 : decode cX12_least 166 = .ok (.iload 5, 2) := by decide +kernel
theorem dX12_least_168 : decode cX12_least 168 = .ok (.iload_n 3, 1) := by decide +kernel
theorem dX12_least_169 : decode cX12_least 169 = .ok (.if_icmp .ge 8, 3) := by decide +kernel
theorem dX12_least_172 : decode cX12_least 172 = .ok (.iload 5, 2) := by decide +kernel
theorem dX12_least_174 : decode cX12_least 174 = .ok (.goto 4, 3) := by decide +kernel
theorem dX12_least_177 : decode cX12_least 177 = .ok (.iload_n 3, 1) := by decide +kernel
theorem dX12_least_178 : decode cX12_least 178 = .ok (.istore_n 3, 1) := by decide +kernel
theorem dX12_least_179 : decode cX12_least 179 = .ok (.iinc 4 1, 3) := by decide +kernel
theorem dX12_least_182 : decode cX12_least 182 = .ok (.goto (-43), 3) := by decide +kernel
theorem dX12_least_185 : decode cX12_least 185 = .ok (.iload_n 3, 1) := by decide +kernel
theorem dX12_least_186 : decode cX12_least 186 = .ok (.bipush 99, 2) := by decide +kernel
theorem dX12_least_188 : decode cX12_least 188 = .ok (.if_icmp .gt 7, 3) := by decide +kernel
theorem dX12_least_191 : decode cX12_least 191 = .ok (.iload_n 3, 1) := by decide +kernel
theorem dX12_least_192 : decode cX12_least 192 = .ok (.goto 5, 3) := by decide +kernel
theorem dX12_least_195 : decode cX12_least 195 = .ok (.bipush (-4), 2) := by decide +kernel
theorem dX12_least_197 : decode cX12_least 197 = .ok (.ireturn, 1) := by decide +kernel
theorem dX12_order_0 : decode cX12_order 0 = .ok (.iload_n 1, 1) := by decide +kernel
theorem dX12_order_1 : decode cX12_order 1 = .ok (.aload_n 0, 1) := by decide +kernel
theorem dX12_order_2 : decode cX12_order 2 = .ok (.getfield 62, 3) := by decide +kernel
theorem dX12_order_5 : decode cX12_order 5 = .ok (.iload_n 2, 1) := by decide +kernel
theorem dX12_order_6 : decode cX12_order 6 = .ok (.iaload, 1) := by decide +kernel
theorem dX12_order_7 : decode cX12_order 7 = .ok (.if_icmp .eq 19, 3) := by decide +kernel
theorem dX12_order_10 : decode cX12_order 10 = .ok (.iload_n 1, 1) := by decide +kernel
theorem dX12_order_11 : decode cX12_order 11 = .ok (.aload_n 0, 1) := by decide +kernel
theorem dX12_order_12 : decode cX12_order 12 = .ok (.getfield 62, 3) := by decide +kernel
theorem dX12_order_15 : decode cX12_order 15 = .ok (.iload_n 2, 1) := by decide +kernel
theorem dX12_order_16 : decode cX12_order 16 = .ok (.iaload, 1) := by decide +kernel
theorem dX12_order_17 : decode cX12_order 17 = .ok (.if_icmp .ge 7, 3) := by decide +kernel
theorem dX12_order_20 : decode cX12_order 20 = .ok (.iconst 1, 1) := by decide +kernel
theorem dX12_order_21 : decode cX12_order 21 = .ok (.goto 4, 3) := by decide +kernel
theorem dX12_order_24 : decode cX12_order 24 = .ok (.iconst (-1), 1) := by decide +kernel
theorem dX12_order_25 : decode cX12_order 25 = .ok (.ireturn, 1) := by decide +kernel
theorem dX12_order_26 : decode cX12_order 26 = .ok (.aload_n 0, 1) := by decide +kernel
theorem dX12_order_27 : decode cX12_order 27 = .ok (.getfield 28, 3) := by decide +kernel
theorem dX12_order_30 : decode cX12_order 30 = .ok (.bipush 9, 2) := by decide +kernel
theorem dX12_order_32 : decode cX12_order 32 = .ok (.iaload, 1) := by decide +kernel
theorem dX12_order_33 : decode cX12_order 33 = .ok (.aload_n 0, 1) := by decide +kernel
theorem dX12_order_34 : decode cX12_order 34 = .ok (.getfield 65, 3) := by decide +kernel
theorem dX12_order_37 : decode cX12_order 37 = .ok (.iload_n 2, 1) := by decide +kernel
theorem dX12_order_38 : decode cX12_order 38 = .ok (.iaload, 1) := by decide +kernel
theorem dX12_order_39 : decode cX12_order 39 = .ok (.if_icmp .eq 25, 3) := by decide +kernel
theorem dX12_order_42 : decode cX12_order 42 = .ok (.aload_n 0, 1) := by decide +kernel
theorem dX12_order_43 : decode cX12_order 43 = .ok (.getfield 28, 3) := by decide +kernel
theorem dX12_order_46 : decode cX12_order 46 = .ok (.bipush 9, 2) := by decide +kernel
theorem dX12_order_48 : decode cX12_order 48 = .ok (.iaload, 1) := by decide +kernel
theorem dX12_order_49 : decode cX12_order 49 = .ok (.aload_n 0, 1) := by decide +kernel
theorem dX12_order_50 : decode cX12_order 50 = .ok (.getfield 65, 3) := by decide +kernel
theorem dX12_order_53 : decode cX12_order 53 = .ok (.iload_n 2, 1) := by decide +kernel
theorem dX12_order_54 : decode cX12_order 54 = .ok (.iaload, 1) := by decide +kernel
theorem dX12_order_55 : decode cX12_order 55 = .ok (.if_icmp .ge 7, 3) := by decide +kernel
theorem dX12_order_58 : decode cX12_order 58 = .ok (.iconst 1, 1) := by decide +kernel
theorem dX12_order_59 : decode cX12_order 59 = .ok (.goto 4, 3) := by decide +kernel
theorem dX12_order_62 : decode cX12_order 62 = .ok (.iconst (-1), 1) := by decide +kernel
theorem dX12_order_63 : decode cX12_order 63 = .ok (.ireturn, 1) := by decide +kernel
theorem dX12_order_64 : decode cX12_order 64 = .ok (.iconst 0, 1) := by decide +kernel
theorem dX12_order_65 : decode cX12_order 65 = .ok (.istore_n 3, 1) := by decide +kernel
theorem dX12_order_66 : decode cX12_order 66 = .ok (.iload_n 3, 1) := by decide +kernel
theorem dX12_order_67 : decode cX12_order 67 = .ok (.aload_n 0, 1) := by decide +kernel
theorem dX12_order_68 : decode cX12_order 68 = .ok (.getfield 28, 3) := by decide +kernel
theorem dX12_order_71 : decode cX12_order 71 = .ok (.bipush 9, 2) := by decide +kernel
theorem dX12_order_73 : decode cX12_order 73 = .ok (.iaload, 1) := by decide +kernel
theorem dX12_order_74 : decode cX12_order 74 = .ok (.if_icmp .ge 61, 3) := by decide +kernel
theorem dX12_order_77 : decode cX12_order 77 = .ok (.aload_n 0, 1) := by decide +kernel
theorem dX12_order_78 : decode cX12_order 78 = .ok (.getfield 31, 3) := by decide +kernel
theorem dX12_order_81 : decode cX12_order 81 = .ok (.bipush 90, 2) := by decide +kernel
theorem dX12_order_83 : decode cX12_order 83 = .ok (.iload_n 3, 1) := by decide +kernel
theorem dX12_order_84 : decode cX12_order 84 = .ok (.iadd, 1) := by decide +kernel
theorem dX12_order_85 : decode cX12_order 85 = .ok (.iaload, 1) := by decide +kernel
theorem dX12_order_86 : decode cX12_order 86 = .ok (.aload_n 0, 1) := by decide +kernel
theorem dX12_order_87 : decode cX12_order 87 = .ok (.getfield 68, 3) := by decide +kernel
theorem dX12_order_90 : decode cX12_order 90 = .ok (.bipush 8, 2) := by decide +kernel
theorem dX12_order_92 : decode cX12_order 92 = .ok (.iload_n 2, 1) := by decide +kernel
theorem dX12_order_93 : decode cX12_order 93 = .ok (.imul, 1) := by decide +kernel
theorem dX12_order_94 : decode cX12_order 94 = .ok (.iload_n 3, 1) := by decide +kernel
theorem dX12_order_95 : decode cX12_order 95 = .ok (.iadd, 1) := by decide +kernel
theorem dX12_order_96 : decode cX12_order 96 = .ok (.iaload, 1) := by decide +kernel
theorem dX12_order_97 : decode cX12_order 97 = .ok (.if_icmp .eq 32, 3) := by decide +kernel
theorem dX12_order_100 : decode cX12_order 100 = .ok (.aload_n 0, 1) := by decide +kernel
theorem dX12_order_101 : decode cX12_order 101 = .ok (.getfield 31, 3) := by decide +kernel
theorem dX12_order_104 : decode cX12_order 104 = .ok (.bipush 90, 2) := by decide +kernel
theorem dX12_order_106 : decode cX12_order 106 = .ok (.iload_n 3, 1) := by decide +kernel
theorem dX12_order_107 : decode cX12_order 107 = .ok (.iadd, 1) := by decide +kernel
theorem dX12_order_108 : decode cX12_order 108 = .ok (.iaload, 1) := by decide +kernel
theorem dX12_order_109 : decode cX12_order 109 = .ok (.aload_n 0, 1) := by decide +kernel
theorem dX12_order_110 : decode cX12_order 110 = .ok (.getfield 68, 3) := by decide +kernel
theorem dX12_order_113 : decode cX12_order 113 = .ok (.bipush 8, 2) := by decide +kernel
theorem dX12_order_115 : decode cX12_order 115 = .ok (.iload_n 2, 1) := by decide +kernel
theorem dX12_order_116 : decode cX12_order 116 = .ok (.imul, 1) := by decide +kernel
theorem dX12_order_117 : decode cX12_order 117 = .ok (.iload_n 3, 1) := by decide +kernel
theorem dX12_order_118 : decode cX12_order 118 = .ok (.iadd, 1) := by decide +kernel
theorem dX12_order_119 : decode cX12_order 119 = .ok (.iaload, 1) := by decide +kernel
theorem dX12_order_120 : decode cX12_order 120 = .ok (.if_icmp .ge 7, 3) := by decide +kernel
theorem dX12_order_123 : decode cX12_order 123 = .ok (.iconst 1, 1) := by decide +kernel
theorem dX12_order_124 : decode cX12_order 124 = .ok (.goto 4, 3) := by decide +kernel
theorem dX12_order_127 : decode cX12_order 127 = .ok (.iconst (-1), 1) := by decide +kernel
theorem dX12_order_128 : decode cX12_order 128 = .ok (.ireturn, 1) := by decide +kernel
theorem dX12_order_129 : decode cX12_order 129 = .ok (.iinc 3 1, 3) := by decide +kernel
theorem dX12_order_132 : decode cX12_order 132 = .ok (.goto (-66), 3) := by decide +kernel
theorem dX12_order_135 : decode cX12_order 135 = .ok (.iconst 0, 1) := by decide +kernel
theorem dX12_order_136 : decode cX12_order 136 = .ok (.ireturn, 1) := by decide +kernel
theorem dX12_tryRow_0 : decode cX12_tryRow 0 = .ok (.aload_n 0, 1) := by decide +kernel
theorem dX12_tryRow_1 : decode cX12_tryRow 1 = .ok (.getfield 28, 3) := by decide +kernel
theorem dX12_tryRow_4 : decode cX12_tryRow 4 = .ok (.bipush 9, 2) := by decide +kernel
theorem dX12_tryRow_6 : decode cX12_tryRow 6 = .ok (.iaload, 1) := by decide +kernel
theorem dX12_tryRow_7 : decode cX12_tryRow 7 = .ok (.i2l, 1) := by decide +kernel
theorem dX12_tryRow_8 : decode cX12_tryRow 8 = .ok (.lconst 1, 1) := by decide +kernel
theorem dX12_tryRow_9 : decode cX12_tryRow 9 = .ok (.ldc2_w 78, 3) := by decide +kernel
theorem dX12_tryRow_12 : decode cX12_tryRow 12 = .ok (.invokestatic 80, 3) := by decide +kernel
theorem dX12_tryRow_15 : decode cX12_tryRow 15 = .ok (.ifCond .eq 13, 3) := by decide +kernel
theorem dX12_tryRow_18 : decode cX12_tryRow 18 = .ok (.aload_n 0, 1) := by decide +kernel
theorem dX12_tryRow_19 : decode cX12_tryRow 19 = .ok (.bipush 9, 2) := by decide +kernel
theorem dX12_tryRow_21 : decode cX12_tryRow 21 = .ok (.iconst 0, 1) := by decide +kernel
theorem dX12_tryRow_22 : decode cX12_tryRow 22 = .ok (.invokevirtual 185, 3) := by decide +kernel
theorem dX12_tryRow_25 : decode cX12_tryRow 25 = .ok (.ifCond .ne 4, 3) := by decide +kernel
theorem dX12_tryRow_28 : decode cX12_tryRow 28 = .ok (.return_, 1) := by decide +kernel
theorem dX12_tryRow_29 : decode cX12_tryRow 29 = .ok (.iconst 0, 1) := by decide +kernel
theorem dX12_tryRow_30 : decode cX12_tryRow 30 = .ok (.istore_n 2, 1) := by decide +kernel
theorem dX12_tryRow_31 : decode cX12_tryRow 31 = .ok (.iload_n 2, 1) := by decide +kernel
theorem dX12_tryRow_32 : decode cX12_tryRow 32 = .ok (.aload_n 0, 1) := by decide +kernel
theorem dX12_tryRow_33 : decode cX12_tryRow 33 = .ok (.getfield 188, 3) := by decide +kernel
theorem dX12_tryRow_36 : decode cX12_tryRow 36 = .ok (.if_icmp .ge 18, 3) := by decide +kernel
theorem dX12_tryRow_39 : decode cX12_tryRow 39 = .ok (.aload_n 0, 1) := by decide +kernel
theorem dX12_tryRow_40 : decode cX12_tryRow 40 = .ok (.iload_n 1, 1) := by decide +kernel
theorem dX12_tryRow_41 : decode cX12_tryRow 41 = .ok (.iload_n 2, 1) := by decide +kernel
theorem dX12_tryRow_42 : decode cX12_tryRow 42 = .ok (.invokevirtual 191, 3) := by decide +kernel
theorem dX12_tryRow_45 : decode cX12_tryRow 45 = .ok (.ifCond .ge 9, 3) := by decide +kernel
theorem dX12_tryRow_48 : decode cX12_tryRow 48 = .ok (.iinc 2 1, 3) := by decide +kernel
theorem dX12_tryRow_51 : decode cX12_tryRow 51 = .ok (.goto (-20), 3) := by decide +kernel
theorem dX12_tryRow_54 : decode cX12_tryRow 54 = .ok (.iload_n 2, 1) := by decide +kernel
theorem dX12_tryRow_55 : decode cX12_tryRow 55 = .ok (.bipush 40, 2) := by decide +kernel
theorem dX12_tryRow_57 : decode cX12_tryRow 57 = .ok (.if_icmp .eq 20, 3) := by decide +kernel
theorem dX12_tryRow_60 : decode cX12_tryRow 60 = .ok (.iload_n 2, 1) := by decide +kernel
theorem dX12_tryRow_61 : decode cX12_tryRow 61 = .ok (.aload_n 0, 1) := by decide +kernel
theorem dX12_tryRow_62 : decode cX12_tryRow 62 = .ok (.getfield 188, 3) := by decide +kernel
theorem dX12_tryRow_65 : decode cX12_tryRow 65 = .ok (.if_icmp .ge 13, 3) := by decide +kernel
theorem dX12_tryRow_68 : decode cX12_tryRow 68 = .ok (.aload_n 0, 1) := by decide +kernel
theorem dX12_tryRow_69 : decode cX12_tryRow 69 = .ok (.iload_n 1, 1) := by decide +kernel
theorem dX12_tryRow_70 : decode cX12_tryRow 70 = .ok (.iload_n 2, 1) := by decide +kernel
theorem dX12_tryRow_71 : decode cX12_tryRow 71 = .ok (.invokevirtual 191, 3) := by decide +kernel
theorem dX12_tryRow_74 : decode cX12_tryRow 74 = .ok (.ifCond .ne 4, 3) := by decide +kernel
theorem dX12_tryRow_77 : decode cX12_tryRow 77 = .ok (.return_, 1) := by decide +kernel
theorem dX12_tryRow_78 : decode cX12_tryRow 78 = .ok (.aload_n 0, 1) := by decide +kernel
theorem dX12_tryRow_79 : decode cX12_tryRow 79 = .ok (.getfield 188, 3) := by decide +kernel
theorem dX12_tryRow_82 : decode cX12_tryRow 82 = .ok (.bipush 40, 2) := by decide +kernel
theorem dX12_tryRow_84 : decode cX12_tryRow 84 = .ok (.if_icmp .ge 10, 3) := by decide +kernel
theorem dX12_tryRow_87 : decode cX12_tryRow 87 = .ok (.aload_n 0, 1) := by decide +kernel
theorem dX12_tryRow_88 : decode cX12_tryRow 88 = .ok (.getfield 188, 3) := by decide +kernel
theorem dX12_tryRow_91 : decode cX12_tryRow 91 = .ok (.goto 5, 3) := by decide +kernel
theorem dX12_tryRow_94 : decode cX12_tryRow 94 = .ok (.bipush 39, 2) := by decide +kernel
theorem dX12_tryRow_96 : decode cX12_tryRow 96 = .ok (.istore_n 3, 1) := by decide +kernel
theorem dX12_tryRow_97 : decode cX12_tryRow 97 = .ok (.iload_n 3, 1) := by decide +kernel
theorem dX12_tryRow_98 : decode cX12_tryRow 98 = .ok (.istore 4, 2) := by decide +kernel
theorem dX12_tryRow_100 : decode cX12_tryRow 100 = .ok (.iload 4, 2) := by decide +kernel
theorem dX12_tryRow_102 : decode cX12_tryRow 102 = .ok (.iload_n 2, 1) := by decide +kernel
theorem dX12_tryRow_103 : decode cX12_tryRow 103 = .ok (.if_icmp .le 86, 3) := by decide +kernel
theorem dX12_tryRow_106 : decode cX12_tryRow 106 = .ok (.aload_n 0, 1) := by decide +kernel
theorem dX12_tryRow_107 : decode cX12_tryRow 107 = .ok (.getfield 62, 3) := by decide +kernel
theorem dX12_tryRow_110 : decode cX12_tryRow 110 = .ok (.iload 4, 2) := by decide +kernel
theorem dX12_tryRow_112 : decode cX12_tryRow 112 = .ok (.aload_n 0, 1) := by decide +kernel
theorem dX12_tryRow_113 : decode cX12_tryRow 113 = .ok (.getfield 62, 3) := by decide +kernel
theorem dX12_tryRow_116 : decode cX12_tryRow 116 = .ok (.iload 4, 2) := by decide +kernel
theorem dX12_tryRow_118 : decode cX12_tryRow 118 = .ok (.iconst 1, 1) := by decide +kernel
theorem dX12_tryRow_119 : decode cX12_tryRow 119 = .ok (.isub, 1) := by decide +kernel
theorem dX12_tryRow_120 : decode cX12_tryRow 120 = .ok (.iaload, 1) := by decide +kernel
theorem dX12_tryRow_121 : decode cX12_tryRow 121 = .ok (.iastore, 1) := by decide +kernel
theorem dX12_tryRow_122 : decode cX12_tryRow 122 = .ok (.aload_n 0, 1) := by decide +kernel
theorem dX12_tryRow_123 : decode cX12_tryRow 123 = .ok (.getfield 65, 3) := by decide +kernel
theorem dX12_tryRow_126 : decode cX12_tryRow 126 = .ok (.iload 4, 2) := by decide +kernel
theorem dX12_tryRow_128 : decode cX12_tryRow 128 = .ok (.aload_n 0, 1) := by decide +kernel
theorem dX12_tryRow_129 : decode cX12_tryRow 129 = .ok (.getfield 65, 3) := by decide +kernel
theorem dX12_tryRow_132 : decode cX12_tryRow 132 = .ok (.iload 4, 2) := by decide +kernel
theorem dX12_tryRow_134 : decode cX12_tryRow 134 = .ok (.iconst 1, 1) := by decide +kernel
theorem dX12_tryRow_135 : decode cX12_tryRow 135 = .ok (.isub, 1) := by decide +kernel
theorem dX12_tryRow_136 : decode cX12_tryRow 136 = .ok (.iaload, 1) := by decide +kernel
theorem dX12_tryRow_137 : decode cX12_tryRow 137 = .ok (.iastore, 1) := by decide +kernel
theorem dX12_tryRow_138 : decode cX12_tryRow 138 = .ok (.iconst 0, 1) := by decide +kernel
theorem dX12_tryRow_139 : decode cX12_tryRow 139 = .ok (.istore 5, 2) := by decide +kernel
theorem dX12_tryRow_141 : decode cX12_tryRow 141 = .ok (.iload 5, 2) := by decide +kernel
theorem dX12_tryRow_143 : decode cX12_tryRow 143 = .ok (.bipush 8, 2) := by decide +kernel
theorem dX12_tryRow_145 : decode cX12_tryRow 145 = .ok (.if_icmp .ge 38, 3) := by decide +kernel
theorem dX12_tryRow_148 : decode cX12_tryRow 148 = .ok (.aload_n 0, 1) := by decide +kernel
theorem dX12_tryRow_149 : decode cX12_tryRow 149 = .ok (.getfield 68, 3) := by decide +kernel
theorem dX12_tryRow_152 : decode cX12_tryRow 152 = .ok (.bipush 8, 2) := by decide +kernel
theorem dX12_tryRow_154 : decode cX12_tryRow 154 = .ok (.iload 4, 2) := by decide +kernel
theorem dX12_tryRow_156 : decode cX12_tryRow 156 = .ok (.imul, 1) := by decide +kernel
theorem dX12_tryRow_157 : decode cX12_tryRow 157 = .ok (.iload 5, 2) := by decide +kernel
theorem dX12_tryRow_159 : decode cX12_tryRow 159 = .ok (.iadd, 1) := by decide +kernel
theorem dX12_tryRow_160 : decode cX12_tryRow 160 = .ok (.aload_n 0, 1) := by decide +kernel
theorem dX12_tryRow_161 : decode cX12_tryRow 161 = .ok (.getfield 68, 3) := by decide +kernel
theorem dX12_tryRow_164 : decode cX12_tryRow 164 = .ok (.bipush 8, 2) := by decide +kernel
theorem dX12_tryRow_166 : decode cX12_tryRow 166 = .ok (.iload 4, 2) := by decide +kernel
theorem dX12_tryRow_168 : decode cX12_tryRow 168 = .ok (.imul, 1) := by decide +kernel
theorem dX12_tryRow_169 : decode cX12_tryRow 169 = .ok (.bipush 8, 2) := by decide +kernel
theorem dX12_tryRow_171 : decode cX12_tryRow 171 = .ok (.isub, 1) := by decide +kernel
theorem dX12_tryRow_172 : decode cX12_tryRow 172 = .ok (.iload 5, 2) := by decide +kernel
theorem dX12_tryRow_174 : decode cX12_tryRow 174 = .ok (.iadd, 1) := by decide +kernel
theorem dX12_tryRow_175 : decode cX12_tryRow 175 = .ok (.iaload, 1) := by decide +kernel
theorem dX12_tryRow_176 : decode cX12_tryRow 176 = .ok (.iastore, 1) := by decide +kernel
theorem dX12_tryRow_177 : decode cX12_tryRow 177 = .ok (.iinc 5 1, 3) := by decide +kernel
theorem dX12_tryRow_180 : decode cX12_tryRow 180 = .ok (.goto (-39), 3) := by decide +kernel
theorem dX12_tryRow_183 : decode cX12_tryRow 183 = .ok (.iinc 4 (-1), 3) := by decide +kernel
theorem dX12_tryRow_186 : decode cX12_tryRow 186 = .ok (.goto (-86), 3) := by decide +kernel
theorem dX12_tryRow_189 : decode cX12_tryRow 189 = .ok (.aload_n 0, 1) := by decide +kernel
theorem dX12_tryRow_190 : decode cX12_tryRow 190 = .ok (.getfield 62, 3) := by decide +kernel
theorem dX12_tryRow_193 : decode cX12_tryRow 193 = .ok (.iload_n 2, 1) := by decide +kernel
theorem dX12_tryRow_194 : decode cX12_tryRow 194 = .ok (.iload_n 1, 1) := by decide +kernel
theorem dX12_tryRow_195 : decode cX12_tryRow 195 = .ok (.iastore, 1) := by decide +kernel
theorem dX12_tryRow_196 : decode cX12_tryRow 196 = .ok (.aload_n 0, 1) := by decide +kernel
theorem dX12_tryRow_197 : decode cX12_tryRow 197 = .ok (.getfield 65, 3) := by decide +kernel
theorem dX12_tryRow_200 : decode cX12_tryRow 200 = .ok (.iload_n 2, 1) := by decide +kernel
theorem dX12_tryRow_201 : decode cX12_tryRow 201 = .ok (.aload_n 0, 1) := by decide +kernel
theorem dX12_tryRow_202 : decode cX12_tryRow 202 = .ok (.getfield 28, 3) := by decide +kernel
theorem dX12_tryRow_205 : decode cX12_tryRow 205 = .ok (.bipush 9, 2) := by decide +kernel
theorem dX12_tryRow_207 : decode cX12_tryRow 207 = .ok (.iaload, 1) := by decide +kernel
theorem dX12_tryRow_208 : decode cX12_tryRow 208 = .ok (.iastore, 1) := by decide +kernel
theorem dX12_tryRow_209 : decode cX12_tryRow 209 = .ok (.iconst 0, 1) := by decide +kernel
theorem dX12_tryRow_210 : decode cX12_tryRow 210 = .ok (.istore 4, 2) := by decide +kernel
theorem dX12_tryRow_212 : decode cX12_tryRow 212 = .ok (.iload 4, 2) := by decide +kernel
theorem dX12_tryRow_214 : decode cX12_tryRow 214 = .ok (.bipush 8, 2) := by decide +kernel
theorem dX12_tryRow_216 : decode cX12_tryRow 216 = .ok (.if_icmp .ge 48, 3) := by decide +kernel
theorem dX12_tryRow_219 : decode cX12_tryRow 219 = .ok (.aload_n 0, 1) := by decide +kernel
theorem dX12_tryRow_220 : decode cX12_tryRow 220 = .ok (.getfield 68, 3) := by decide +kernel
theorem dX12_tryRow_223 : decode cX12_tryRow 223 = .ok (.bipush 8, 2) := by decide +kernel
theorem dX12_tryRow_225 : decode cX12_tryRow 225 = .ok (.iload_n 2, 1) := by decide +kernel
theorem dX12_tryRow_226 : decode cX12_tryRow 226 = .ok (.imul, 1) := by decide +kernel
theorem dX12_tryRow_227 : decode cX12_tryRow 227 = .ok (.iload 4, 2) := by decide +kernel
theorem dX12_tryRow_229 : decode cX12_tryRow 229 = .ok (.iadd, 1) := by decide +kernel
theorem dX12_tryRow_230 : decode cX12_tryRow 230 = .ok (.iload 4, 2) := by decide +kernel
theorem dX12_tryRow_232 : decode cX12_tryRow 232 = .ok (.aload_n 0, 1) := by decide +kernel
theorem dX12_tryRow_233 : decode cX12_tryRow 233 = .ok (.getfield 28, 3) := by decide +kernel
theorem dX12_tryRow_236 : decode cX12_tryRow 236 = .ok (.bipush 9, 2) := by decide +kernel
theorem dX12_tryRow_238 : decode cX12_tryRow 238 = .ok (.iaload, 1) := by decide +kernel
theorem dX12_tryRow_239 : decode cX12_tryRow 239 = .ok (.if_icmp .ge 16, 3) := by decide +kernel
theorem dX12_tryRow_242 : decode cX12_tryRow 242 = .ok (.aload_n 0, 1) := by decide +kernel
theorem dX12_tryRow_243 : decode cX12_tryRow 243 = .ok (.getfield 31, 3) := by decide +kernel
theorem dX12_tryRow_246 : decode cX12_tryRow 246 = .ok (.bipush 90, 2) := by decide +kernel
theorem dX12_tryRow_248 : decode cX12_tryRow 248 = .ok (.iload 4, 2) := by decide +kernel
theorem dX12_tryRow_250 : decode cX12_tryRow 250 = .ok (.iadd, 1) := by decide +kernel
theorem dX12_tryRow_251 : decode cX12_tryRow 251 = .ok (.iaload, 1) := by decide +kernel
theorem dX12_tryRow_252 : decode cX12_tryRow 252 = .ok (.goto 5, 3) := by decide +kernel
theorem dX12_tryRow_255 : decode cX12_tryRow 255 = .ok (.bipush (-4), 2) := by decide +kernel
theorem dX12_tryRow_257 : decode cX12_tryRow 257 = .ok (.iastore, 1) := by decide +kernel
theorem dX12_tryRow_258 : decode cX12_tryRow 258 = .ok (.iinc 4 1, 3) := by decide +kernel
theorem dX12_tryRow_261 : decode cX12_tryRow 261 = .ok (.goto (-49), 3) := by decide +kernel
theorem dX12_tryRow_264 : decode cX12_tryRow 264 = .ok (.aload_n 0, 1) := by decide +kernel
theorem dX12_tryRow_265 : decode cX12_tryRow 265 = .ok (.iload_n 3, 1) := by decide +kernel
theorem dX12_tryRow_266 : decode cX12_tryRow 266 = .ok (.iconst 1, 1) := by decide +kernel
theorem dX12_tryRow_267 : decode cX12_tryRow 267 = .ok (.iadd, 1) := by decide +kernel
theorem dX12_tryRow_268 : decode cX12_tryRow 268 = .ok (.putfield 188, 3) := by decide +kernel
theorem dX12_tryRow_271 : decode cX12_tryRow 271 = .ok (.return_, 1) := by decide +kernel
theorem dX12_layTried_0 : decode cX12_layTried 0 = .ok (.aload_n 0, 1) := by decide +kernel
theorem dX12_layTried_1 : decode cX12_layTried 1 = .ok (.getfield 28, 3) := by decide +kernel
theorem dX12_layTried_4 : decode cX12_layTried 4 = .ok (.bipush 9, 2) := by decide +kernel
theorem dX12_layTried_6 : decode cX12_layTried 6 = .ok (.iconst 0, 1) := by decide +kernel
theorem dX12_layTried_7 : decode cX12_layTried 7 = .ok (.iastore, 1) := by decide +kernel
theorem dX12_layTried_8 : decode cX12_layTried 8 = .ok (.iconst 0, 1) := by decide +kernel
theorem dX12_layTried_9 : decode cX12_layTried 9 = .ok (.istore 5, 2) := by decide +kernel
theorem dX12_layTried_11 : decode cX12_layTried 11 = .ok (.iload 5, 2) := by decide +kernel
theorem dX12_layTried_13 : decode cX12_layTried 13 = .ok (.aload_n 0, 1) := by decide +kernel
theorem dX12_layTried_14 : decode cX12_layTried 14 = .ok (.getfield 28, 3) := by decide +kernel
theorem dX12_layTried_17 : decode cX12_layTried 17 = .ok (.iload_n 1, 1) := by decide +kernel
theorem dX12_layTried_18 : decode cX12_layTried 18 = .ok (.iaload, 1) := by decide +kernel
theorem dX12_layTried_19 : decode cX12_layTried 19 = .ok (.if_icmp .ge 95, 3) := by decide +kernel
theorem dX12_layTried_22 : decode cX12_layTried 22 = .ok (.iload 5, 2) := by decide +kernel
theorem dX12_layTried_24 : decode cX12_layTried 24 = .ok (.iload_n 2, 1) := by decide +kernel
theorem dX12_layTried_25 : decode cX12_layTried 25 = .ok (.if_icmp .ne 34, 3) := by decide +kernel
theorem dX12_layTried_28 : decode cX12_layTried 28 = .ok (.iload_n 3, 1) := by decide +kernel
theorem dX12_layTried_29 : decode cX12_layTried 29 = .ok (.ifCond .lt 30, 3) := by decide +kernel
theorem dX12_layTried_32 : decode cX12_layTried 32 = .ok (.aload_n 0, 1) := by decide +kernel
theorem dX12_layTried_33 : decode cX12_layTried 33 = .ok (.getfield 31, 3) := by decide +kernel
theorem dX12_layTried_36 : decode cX12_layTried 36 = .ok (.bipush 90, 2) := by decide +kernel
theorem dX12_layTried_38 : decode cX12_layTried 38 = .ok (.aload_n 0, 1) := by decide +kernel
theorem dX12_layTried_39 : decode cX12_layTried 39 = .ok (.getfield 28, 3) := by decide +kernel
theorem dX12_layTried_42 : decode cX12_layTried 42 = .ok (.bipush 9, 2) := by decide +kernel
theorem dX12_layTried_44 : decode cX12_layTried 44 = .ok (.iaload, 1) := by decide +kernel
theorem dX12_layTried_45 : decode cX12_layTried 45 = .ok (.iadd, 1) := by decide +kernel
theorem dX12_layTried_46 : decode cX12_layTried 46 = .ok (.iload_n 3, 1) := by decide +kernel
theorem dX12_layTried_47 : decode cX12_layTried 47 = .ok (.iastore, 1) := by decide +kernel
theorem dX12_layTried_48 : decode cX12_layTried 48 = .ok (.aload_n 0, 1) := by decide +kernel
theorem dX12_layTried_49 : decode cX12_layTried 49 = .ok (.getfield 28, 3) := by decide +kernel
theorem dX12_layTried_52 : decode cX12_layTried 52 = .ok (.bipush 9, 2) := by decide +kernel
theorem dX12_layTried_54 : decode cX12_layTried 54 = .ok (.dup2, 1) := by decide +kernel
theorem dX12_layTried_55 : decode cX12_layTried 55 = .ok (.iaload, 1) := by decide +kernel
theorem dX12_layTried_56 : decode cX12_layTried 56 = .ok (.iconst 1, 1) := by decide +kernel
theorem dX12_layTried_57 : decode cX12_layTried 57 = .ok (.iadd, 1) := by decide +kernel
theorem dX12_layTried_58 : decode cX12_layTried 58 = .ok (.iastore, 1) := by decide +kernel
theorem dX12_layTried_59 : decode cX12_layTried 59 = .ok (.iload 5, 2) := by decide +kernel
theorem dX12_layTried_61 : decode cX12_layTried 61 = .ok (.iload_n 2, 1) := by decide +kernel
theorem dX12_layTried_62 : decode cX12_layTried 62 = .ok (.if_icmp .ne 8, 3) := by decide +kernel
theorem dX12_layTried_65 : decode cX12_layTried 65 = .ok (.iload 4, 2) := by decide +kernel
theorem dX12_layTried_67 : decode cX12_layTried 67 = .ok (.ifCond .eq 41, 3) := by decide +kernel
theorem dX12_layTried_70 : decode cX12_layTried 70 = .ok (.aload_n 0, 1) := by decide +kernel
theorem dX12_layTried_71 : decode cX12_layTried 71 = .ok (.getfield 31, 3) := by decide +kernel
theorem dX12_layTried_74 : decode cX12_layTried 74 = .ok (.bipush 90, 2) := by decide +kernel
theorem dX12_layTried_76 : decode cX12_layTried 76 = .ok (.aload_n 0, 1) := by decide +kernel
theorem dX12_layTried_77 : decode cX12_layTried 77 = .ok (.getfield 28, 3) := by decide +kernel
theorem dX12_layTried_80 : decode cX12_layTried 80 = .ok (.bipush 9, 2) := by decide +kernel
theorem dX12_layTried_82 : decode cX12_layTried 82 = .ok (.iaload, 1) := by decide +kernel
theorem dX12_layTried_83 : decode cX12_layTried 83 = .ok (.iadd, 1) := by decide +kernel
theorem dX12_layTried_84 : decode cX12_layTried 84 = .ok (.aload_n 0, 1) := by decide +kernel
theorem dX12_layTried_85 : decode cX12_layTried 85 = .ok (.getfield 31, 3) := by decide +kernel
theorem dX12_layTried_88 : decode cX12_layTried 88 = .ok (.bipush 10, 2) := by decide +kernel
theorem dX12_layTried_90 : decode cX12_layTried 90 = .ok (.iload_n 1, 1) := by decide +kernel
theorem dX12_layTried_91 : decode cX12_layTried 91 = .ok (.imul, 1) := by decide +kernel
theorem dX12_layTried_92 : decode cX12_layTried 92 = .ok (.iload 5, 2) := by decide +kernel
theorem dX12_layTried_94 : decode cX12_layTried 94 = .ok (.iadd, 1) := by decide +kernel
theorem dX12_layTried_95 : decode cX12_layTried 95 = .ok (.iaload, 1) := by decide +kernel
theorem dX12_layTried_96 : decode cX12_layTried 96 = .ok (.iastore, 1) := by decide +kernel
theorem dX12_layTried_97 : decode cX12_layTried 97 = .ok (.aload_n 0, 1) := by decide +kernel
theorem dX12_layTried_98 : decode cX12_layTried 98 = .ok (.getfield 28, 3) := by decide +kernel
theorem dX12_layTried_101 : decode cX12_layTried 101 = .ok (.bipush 9, 2) := by decide +kernel
theorem dX12_layTried_103 : decode cX12_layTried 103 = .ok (.dup2, 1) := by decide +kernel
theorem dX12_layTried_104 : decode cX12_layTried 104 = .ok (.iaload, 1) := by decide +kernel
theorem dX12_layTried_105 : decode cX12_layTried 105 = .ok (.iconst 1, 1) := by decide +kernel
theorem dX12_layTried_106 : decode cX12_layTried 106 = .ok (.iadd, 1) := by decide +kernel
theorem dX12_layTried_107 : decode cX12_layTried 107 = .ok (.iastore, 1) := by decide +kernel
theorem dX12_layTried_108 : decode cX12_layTried 108 = .ok (.iinc 5 1, 3) := by decide +kernel
theorem dX12_layTried_111 : decode cX12_layTried 111 = .ok (.goto (-100), 3) := by decide +kernel
theorem dX12_layTried_114 : decode cX12_layTried 114 = .ok (.iload_n 2, 1) := by decide +kernel
theorem dX12_layTried_115 : decode cX12_layTried 115 = .ok (.aload_n 0, 1) := by decide +kernel
theorem dX12_layTried_116 : decode cX12_layTried 116 = .ok (.getfield 28, 3) := by decide +kernel
theorem dX12_layTried_119 : decode cX12_layTried 119 = .ok (.iload_n 1, 1) := by decide +kernel
theorem dX12_layTried_120 : decode cX12_layTried 120 = .ok (.iaload, 1) := by decide +kernel
theorem dX12_layTried_121 : decode cX12_layTried 121 = .ok (.if_icmp .ne 30, 3) := by decide +kernel
theorem dX12_layTried_124 : decode cX12_layTried 124 = .ok (.aload_n 0, 1) := by decide +kernel
theorem dX12_layTried_125 : decode cX12_layTried 125 = .ok (.getfield 31, 3) := by decide +kernel
theorem dX12_layTried_128 : decode cX12_layTried 128 = .ok (.bipush 90, 2) := by decide +kernel
theorem dX12_layTried_130 : decode cX12_layTried 130 = .ok (.aload_n 0, 1) := by decide +kernel
theorem dX12_layTried_131 : decode cX12_layTried 131 = .ok (.getfield 28, 3) := by decide +kernel
theorem dX12_layTried_134 : decode cX12_layTried 134 = .ok (.bipush 9, 2) := by decide +kernel
theorem dX12_layTried_136 : decode cX12_layTried 136 = .ok (.iaload, 1) := by decide +kernel
theorem dX12_layTried_137 : decode cX12_layTried 137 = .ok (.iadd, 1) := by decide +kernel
theorem dX12_layTried_138 : decode cX12_layTried 138 = .ok (.iload_n 3, 1) := by decide +kernel
theorem dX12_layTried_139 : decode cX12_layTried 139 = .ok (.iastore, 1) := by decide +kernel
theorem dX12_layTried_140 : decode cX12_layTried 140 = .ok (.aload_n 0, 1) := by decide +kernel
theorem dX12_layTried_141 : decode cX12_layTried 141 = .ok (.getfield 28, 3) := by decide +kernel
theorem dX12_layTried_144 : decode cX12_layTried 144 = .ok (.bipush 9, 2) := by decide +kernel
theorem dX12_layTried_146 : decode cX12_layTried 146 = .ok (.dup2, 1) := by decide +kernel
theorem dX12_layTried_147 : decode cX12_layTried 147 = .ok (.iaload, 1) := by decide +kernel
theorem dX12_layTried_148 : decode cX12_layTried 148 = .ok (.iconst 1, 1) := by decide +kernel
theorem dX12_layTried_149 : decode cX12_layTried 149 = .ok (.iadd, 1) := by decide +kernel
theorem dX12_layTried_150 : decode cX12_layTried 150 = .ok (.iastore, 1) := by decide +kernel
theorem dX12_layTried_151 : decode cX12_layTried 151 = .ok (.return_, 1) := by decide +kernel
theorem dX12_layMends_0 : decode cX12_layMends 0 = .ok (.aload_n 0, 1) := by decide +kernel
theorem dX12_layMends_1 : decode cX12_layMends 1 = .ok (.iconst 0, 1) := by decide +kernel
theorem dX12_layMends_2 : decode cX12_layMends 2 = .ok (.putfield 188, 3) := by decide +kernel
theorem dX12_layMends_5 : decode cX12_layMends 5 = .ok (.iconst 0, 1) := by decide +kernel
theorem dX12_layMends_6 : decode cX12_layMends 6 = .ok (.istore_n 2, 1) := by decide +kernel
theorem dX12_layMends_7 : decode cX12_layMends 7 = .ok (.iload_n 2, 1) := by decide +kernel
theorem dX12_layMends_8 : decode cX12_layMends 8 = .ok (.iconst 5, 1) := by decide +kernel
theorem dX12_layMends_9 : decode cX12_layMends 9 = .ok (.if_icmp .ge 21, 3) := by decide +kernel
theorem dX12_layMends_12 : decode cX12_layMends 12 = .ok (.aload_n 0, 1) := by decide +kernel
theorem dX12_layMends_13 : decode cX12_layMends 13 = .ok (.getfield 59, 3) := by decide +kernel
theorem dX12_layMends_16 : decode cX12_layMends 16 = .ok (.iload_n 2, 1) := by decide +kernel
theorem dX12_layMends_17 : decode cX12_layMends 17 = .ok (.aload_n 0, 1) := by decide +kernel
theorem dX12_layMends_18 : decode cX12_layMends 18 = .ok (.getfield 25, 3) := by decide +kernel
theorem dX12_layMends_21 : decode cX12_layMends 21 = .ok (.iload_n 2, 1) := by decide +kernel
theorem dX12_layMends_22 : decode cX12_layMends 22 = .ok (.iaload, 1) := by decide +kernel
theorem dX12_layMends_23 : decode cX12_layMends 23 = .ok (.iastore, 1) := by decide +kernel
theorem dX12_layMends_24 : decode cX12_layMends 24 = .ok (.iinc 2 1, 3) := by decide +kernel
theorem dX12_layMends_27 : decode cX12_layMends 27 = .ok (.goto (-20), 3) := by decide +kernel
theorem dX12_layMends_30 : decode cX12_layMends 30 = .ok (.iconst 0, 1) := by decide +kernel
theorem dX12_layMends_31 : decode cX12_layMends 31 = .ok (.istore_n 2, 1) := by decide +kernel
theorem dX12_layMends_32 : decode cX12_layMends 32 = .ok (.iload_n 2, 1) := by decide +kernel
theorem dX12_layMends_33 : decode cX12_layMends 33 = .ok (.aload_n 0, 1) := by decide +kernel
theorem dX12_layMends_34 : decode cX12_layMends 34 = .ok (.getfield 28, 3) := by decide +kernel
theorem dX12_layMends_37 : decode cX12_layMends 37 = .ok (.iload_n 1, 1) := by decide +kernel
theorem dX12_layMends_38 : decode cX12_layMends 38 = .ok (.iaload, 1) := by decide +kernel
theorem dX12_layMends_39 : decode cX12_layMends 39 = .ok (.if_icmp .gt 169, 3) := by decide +kernel
theorem dX12_layMends_42 : decode cX12_layMends 42 = .ok (.iload_n 2, 1) := by decide +kernel
theorem dX12_layMends_43 : decode cX12_layMends 43 = .ok (.aload_n 0, 1) := by decide +kernel
theorem dX12_layMends_44 : decode cX12_layMends 44 = .ok (.getfield 28, 3) := by decide +kernel
theorem dX12_layMends_47 : decode cX12_layMends 47 = .ok (.iload_n 1, 1) := by decide +kernel
theorem dX12_layMends_48 : decode cX12_layMends 48 = .ok (.iaload, 1) := by decide +kernel
theorem dX12_layMends_49 : decode cX12_layMends 49 = .ok (.if_icmp .ge 20, 3) := by decide +kernel
theorem dX12_layMends_52 : decode cX12_layMends 52 = .ok (.aload_n 0, 1) := by decide +kernel
theorem dX12_layMends_53 : decode cX12_layMends 53 = .ok (.getfield 34, 3) := by decide +kernel
theorem dX12_layMends_56 : decode cX12_layMends 56 = .ok (.iload_n 1, 1) := by decide +kernel
theorem dX12_layMends_57 : decode cX12_layMends 57 = .ok (.iaload, 1) := by decide +kernel
theorem dX12_layMends_58 : decode cX12_layMends 58 = .ok (.iload_n 2, 1) := by decide +kernel
theorem dX12_layMends_59 : decode cX12_layMends 59 = .ok (.invokestatic 143, 3) := by decide +kernel
theorem dX12_layMends_62 : decode cX12_layMends 62 = .ok (.ifCond .ne 7, 3) := by decide +kernel
theorem dX12_layMends_65 : decode cX12_layMends 65 = .ok (.iconst 1, 1) := by decide +kernel
theorem dX12_layMends_66 : decode cX12_layMends 66 = .ok (.goto 4, 3) := by decide +kernel
theorem dX12_layMends_69 : decode cX12_layMends 69 = .ok (.iconst 0, 1) := by decide +kernel
theorem dX12_layMends_70 : decode cX12_layMends 70 = .ok (.istore_n 3, 1) := by decide +kernel
theorem dX12_layMends_71 : decode cX12_layMends 71 = .ok (.iconst 0, 1) := by decide +kernel
theorem dX12_layMends_72 : decode cX12_layMends 72 = .ok (.istore 4, 2) := by decide +kernel
theorem dX12_layMends_74 : decode cX12_layMends 74 = .ok (.iload 4, 2) := by decide +kernel
theorem dX12_layMends_76 : decode cX12_layMends 76 = .ok (.aload_n 0, 1) := by decide +kernel
theorem dX12_layMends_77 : decode cX12_layMends 77 = .ok (.getfield 13, 3) := by decide +kernel
theorem dX12_layMends_80 : decode cX12_layMends 80 = .ok (.iconst 0, 1) := by decide +kernel
theorem dX12_layMends_81 : decode cX12_layMends 81 = .ok (.iaload, 1) := by decide +kernel
theorem dX12_layMends_82 : decode cX12_layMends 82 = .ok (.if_icmp .ge 97, 3) := by decide +kernel
theorem dX12_layMends_85 : decode cX12_layMends 85 = .ok (.aload_n 0, 1) := by decide +kernel
theorem dX12_layMends_86 : decode cX12_layMends 86 = .ok (.getfield 31, 3) := by decide +kernel
theorem dX12_layMends_89 : decode cX12_layMends 89 = .ok (.bipush 10, 2) := by decide +kernel
theorem dX12_layMends_91 : decode cX12_layMends 91 = .ok (.iload_n 1, 1) := by decide +kernel
theorem dX12_layMends_92 : decode cX12_layMends 92 = .ok (.imul, 1) := by decide +kernel
theorem dX12_layMends_93 : decode cX12_layMends 93 = .ok (.iload_n 2, 1) := by decide +kernel
theorem dX12_layMends_94 : decode cX12_layMends 94 = .ok (.iadd, 1) := by decide +kernel
theorem dX12_layMends_95 : decode cX12_layMends 95 = .ok (.iaload, 1) := by decide +kernel
theorem dX12_layMends_96 : decode cX12_layMends 96 = .ok (.istore 5, 2) := by decide +kernel
theorem dX12_layMends_98 : decode cX12_layMends 98 = .ok (.iload_n 3, 1) := by decide +kernel
theorem dX12_layMends_99 : decode cX12_layMends 99 = .ok (.ifCond .eq 44, 3) := by decide +kernel
theorem dX12_layMends_102 : decode cX12_layMends 102 = .ok (.iload 4, 2) := by decide +kernel
theorem dX12_layMends_104 : decode cX12_layMends 104 = .ok (.iload 5, 2) := by decide +kernel
theorem dX12_layMends_106 : decode cX12_layMends 106 = .ok (.if_icmp .eq 37, 3) := by decide +kernel
theorem dX12_layMends_109 : decode cX12_layMends 109 = .ok (.aload_n 0, 1) := by decide +kernel
theorem dX12_layMends_110 : decode cX12_layMends 110 = .ok (.iload 5, 2) := by decide +kernel
theorem dX12_layMends_112 : decode cX12_layMends 112 = .ok (.iload 4, 2) := by decide +kernel
theorem dX12_layMends_114 : decode cX12_layMends 114 = .ok (.invokevirtual 171, 3) := by decide +kernel
theorem dX12_layMends_117 : decode cX12_layMends 117 = .ok (.ldc 166, 2) := by decide +kernel
theorem dX12_layMends_119 : decode cX12_layMends 119 = .ok (.if_icmp .ge 24, 3) := by decide +kernel
theorem dX12_layMends_122 : decode cX12_layMends 122 = .ok (.aload_n 0, 1) := by decide +kernel
theorem dX12_layMends_123 : decode cX12_layMends 123 = .ok (.iload_n 1, 1) := by decide +kernel
theorem dX12_layMends_124 : decode cX12_layMends 124 = .ok (.iload_n 2, 1) := by decide +kernel
theorem dX12_layMends_125 : decode cX12_layMends 125 = .ok (.iload 4, 2) := by decide +kernel
theorem dX12_layMends_127 : decode cX12_layMends 127 = .ok (.iconst 0, 1) := by decide +kernel
theorem dX12_layMends_128 : decode cX12_layMends 128 = .ok (.invokevirtual 194, 3) := by decide +kernel
theorem dX12_layMends_131 : decode cX12_layMends 131 = .ok (.aload_n 0, 1) := by decide +kernel
theorem dX12_layMends_132 : decode cX12_layMends 132 = .ok (.aload_n 0, 1) := by decide +kernel
theorem dX12_layMends_133 : decode cX12_layMends 133 = .ok (.iload 5, 2) := by decide +kernel
theorem dX12_layMends_135 : decode cX12_layMends 135 = .ok (.iload 4, 2) := by decide +kernel
theorem dX12_layMends_137 : decode cX12_layMends 137 = .ok (.invokevirtual 171, 3) := by decide +kernel
theorem dX12_layMends_140 : decode cX12_layMends 140 = .ok (.invokevirtual 198, 3) := by decide +kernel
theorem dX12_layMends_143 : decode cX12_layMends 143 = .ok (.aload_n 0, 1) := by decide +kernel
theorem dX12_layMends_144 : decode cX12_layMends 144 = .ok (.getfield 28, 3) := by decide +kernel
theorem dX12_layMends_147 : decode cX12_layMends 147 = .ok (.iload_n 1, 1) := by decide +kernel
theorem dX12_layMends_148 : decode cX12_layMends 148 = .ok (.iaload, 1) := by decide +kernel
theorem dX12_layMends_149 : decode cX12_layMends 149 = .ok (.bipush 8, 2) := by decide +kernel
theorem dX12_layMends_151 : decode cX12_layMends 151 = .ok (.if_icmp .ge 22, 3) := by decide +kernel
theorem dX12_layMends_154 : decode cX12_layMends 154 = .ok (.aload_n 0, 1) := by decide +kernel
theorem dX12_layMends_155 : decode cX12_layMends 155 = .ok (.iload_n 1, 1) := by decide +kernel
theorem dX12_layMends_156 : decode cX12_layMends 156 = .ok (.iload_n 2, 1) := by decide +kernel
theorem dX12_layMends_157 : decode cX12_layMends 157 = .ok (.iload 4, 2) := by decide +kernel
theorem dX12_layMends_159 : decode cX12_layMends 159 = .ok (.iconst 1, 1) := by decide +kernel
theorem dX12_layMends_160 : decode cX12_layMends 160 = .ok (.invokevirtual 194, 3) := by decide +kernel
theorem dX12_layMends_163 : decode cX12_layMends 163 = .ok (.aload_n 0, 1) := by decide +kernel
theorem dX12_layMends_164 : decode cX12_layMends 164 = .ok (.aload_n 0, 1) := by decide +kernel
theorem dX12_layMends_165 : decode cX12_layMends 165 = .ok (.getfield 59, 3) := by decide +kernel
theorem dX12_layMends_168 : decode cX12_layMends 168 = .ok (.iconst 4, 1) := by decide +kernel
theorem dX12_layMends_169 : decode cX12_layMends 169 = .ok (.iaload, 1) := by decide +kernel
theorem dX12_layMends_170 : decode cX12_layMends 170 = .ok (.invokevirtual 198, 3) := by decide +kernel
theorem dX12_layMends_173 : decode cX12_layMends 173 = .ok (.iinc 4 1, 3) := by decide +kernel
theorem dX12_layMends_176 : decode cX12_layMends 176 = .ok (.goto (-102), 3) := by decide +kernel
theorem dX12_layMends_179 : decode cX12_layMends 179 = .ok (.iload_n 3, 1) := by decide +kernel
theorem dX12_layMends_180 : decode cX12_layMends 180 = .ok (.ifCond .eq 22, 3) := by decide +kernel
theorem dX12_layMends_183 : decode cX12_layMends 183 = .ok (.aload_n 0, 1) := by decide +kernel
theorem dX12_layMends_184 : decode cX12_layMends 184 = .ok (.iload_n 1, 1) := by decide +kernel
theorem dX12_layMends_185 : decode cX12_layMends 185 = .ok (.iload_n 2, 1) := by decide +kernel
theorem dX12_layMends_186 : decode cX12_layMends 186 = .ok (.bipush (-4), 2) := by decide +kernel
theorem dX12_layMends_188 : decode cX12_layMends 188 = .ok (.iconst 0, 1) := by decide +kernel
theorem dX12_layMends_189 : decode cX12_layMends 189 = .ok (.invokevirtual 194, 3) := by decide +kernel
theorem dX12_layMends_192 : decode cX12_layMends 192 = .ok (.aload_n 0, 1) := by decide +kernel
theorem dX12_layMends_193 : decode cX12_layMends 193 = .ok (.aload_n 0, 1) := by decide +kernel
theorem dX12_layMends_194 : decode cX12_layMends 194 = .ok (.getfield 59, 3) := by decide +kernel
theorem dX12_layMends_197 : decode cX12_layMends 197 = .ok (.iconst 3, 1) := by decide +kernel
theorem dX12_layMends_198 : decode cX12_layMends 198 = .ok (.iaload, 1) := by decide +kernel
theorem dX12_layMends_199 : decode cX12_layMends 199 = .ok (.invokevirtual 198, 3) := by decide +kernel
theorem dX12_layMends_202 : decode cX12_layMends 202 = .ok (.iinc 2 1, 3) := by decide +kernel
theorem dX12_layMends_205 : decode cX12_layMends 205 = .ok (.goto (-173), 3) := by decide +kernel
theorem dX12_layMends_208 : decode cX12_layMends 208 = .ok (.return_, 1) := by decide +kernel
theorem dX12_mend_0 : decode cX12_mend 0 = .ok (.iload_n 1, 1) := by decide +kernel
theorem dX12_mend_1 : decode cX12_mend 1 = .ok (.invokestatic 134, 3) := by decide +kernel
theorem dX12_mend_4 : decode cX12_mend 4 = .ok (.ifCond .eq 20, 3) := by decide +kernel
theorem dX12_mend_7 : decode cX12_mend 7 = .ok (.iload_n 2, 1) := by decide +kernel
theorem dX12_mend_8 : decode cX12_mend 8 = .ok (.iconst (-1), 1) := by decide +kernel
theorem dX12_mend_9 : decode cX12_mend 9 = .ok (.if_icmp .lt 15, 3) := by decide +kernel
theorem dX12_mend_12 : decode cX12_mend 12 = .ok (.iload_n 3, 1) := by decide +kernel
theorem dX12_mend_13 : decode cX12_mend 13 = .ok (.i2l, 1) := by decide +kernel
theorem dX12_mend_14 : decode cX12_mend 14 = .ok (.lconst 0, 1) := by decide +kernel
theorem dX12_mend_15 : decode cX12_mend 15 = .ok (.ldc2_w 164, 3) := by decide +kernel
theorem dX12_mend_18 : decode cX12_mend 18 = .ok (.invokestatic 80, 3) := by decide +kernel
theorem dX12_mend_21 : decode cX12_mend 21 = .ok (.ifCond .ne 5, 3) := by decide +kernel
theorem dX12_mend_24 : decode cX12_mend 24 = .ok (.iconst (-1), 1) := by decide +kernel
theorem dX12_mend_25 : decode cX12_mend 25 = .ok (.ireturn, 1) := by decide +kernel
theorem dX12_mend_26 : decode cX12_mend 26 = .ok (.aload_n 0, 1) := by decide +kernel
theorem dX12_mend_27 : decode cX12_mend 27 = .ok (.getfield 28, 3) := by decide +kernel
theorem dX12_mend_30 : decode cX12_mend 30 = .ok (.iload_n 1, 1) := by decide +kernel
theorem dX12_mend_31 : decode cX12_mend 31 = .ok (.iaload, 1) := by decide +kernel
theorem dX12_mend_32 : decode cX12_mend 32 = .ok (.ifCond .eq 12, 3) := by decide +kernel
theorem dX12_mend_35 : decode cX12_mend 35 = .ok (.aload_n 0, 1) := by decide +kernel
theorem dX12_mend_36 : decode cX12_mend 36 = .ok (.iload_n 1, 1) := by decide +kernel
theorem dX12_mend_37 : decode cX12_mend 37 = .ok (.iconst 0, 1) := by decide +kernel
theorem dX12_mend_38 : decode cX12_mend 38 = .ok (.invokevirtual 185, 3) := by decide +kernel
theorem dX12_mend_41 : decode cX12_mend 41 = .ok (.ifCond .eq 6, 3) := by decide +kernel
theorem dX12_mend_44 : decode cX12_mend 44 = .ok (.bipush (-2), 2) := by decide +kernel
theorem dX12_mend_46 : decode cX12_mend 46 = .ok (.ireturn, 1) := by decide +kernel
theorem dX12_mend_47 : decode cX12_mend 47 = .ok (.aload_n 0, 1) := by decide +kernel
theorem dX12_mend_48 : decode cX12_mend 48 = .ok (.iload_n 1, 1) := by decide +kernel
theorem dX12_mend_49 : decode cX12_mend 49 = .ok (.invokevirtual 201, 3) := by decide +kernel
theorem dX12_mend_52 : decode cX12_mend 52 = .ok (.iload_n 2, 1) := by decide +kernel
theorem dX12_mend_53 : decode cX12_mend 53 = .ok (.ifCond .lt 11, 3) := by decide +kernel
theorem dX12_mend_56 : decode cX12_mend 56 = .ok (.iload_n 2, 1) := by decide +kernel
theorem dX12_mend_57 : decode cX12_mend 57 = .ok (.aload_n 0, 1) := by decide +kernel
theorem dX12_mend_58 : decode cX12_mend 58 = .ok (.getfield 188, 3) := by decide +kernel
theorem dX12_mend_61 : decode cX12_mend 61 = .ok (.if_icmp .lt 17, 3) := by decide +kernel
theorem dX12_mend_64 : decode cX12_mend 64 = .ok (.iload_n 2, 1) := by decide +kernel
theorem dX12_mend_65 : decode cX12_mend 65 = .ok (.ifCond .ge 10, 3) := by decide +kernel
theorem dX12_mend_68 : decode cX12_mend 68 = .ok (.aload_n 0, 1) := by decide +kernel
theorem dX12_mend_69 : decode cX12_mend 69 = .ok (.getfield 188, 3) := by decide +kernel
theorem dX12_mend_72 : decode cX12_mend 72 = .ok (.goto 5, 3) := by decide +kernel
theorem dX12_mend_75 : decode cX12_mend 75 = .ok (.bipush (-4), 2) := by decide +kernel
theorem dX12_mend_77 : decode cX12_mend 77 = .ok (.ireturn, 1) := by decide +kernel
theorem dX12_mend_78 : decode cX12_mend 78 = .ok (.iload_n 3, 1) := by decide +kernel
theorem dX12_mend_79 : decode cX12_mend 79 = .ok (.ifCond .ne 12, 3) := by decide +kernel
theorem dX12_mend_82 : decode cX12_mend 82 = .ok (.aload_n 0, 1) := by decide +kernel
theorem dX12_mend_83 : decode cX12_mend 83 = .ok (.getfield 62, 3) := by decide +kernel
theorem dX12_mend_86 : decode cX12_mend 86 = .ok (.iload_n 2, 1) := by decide +kernel
theorem dX12_mend_87 : decode cX12_mend 87 = .ok (.iaload, 1) := by decide +kernel
theorem dX12_mend_88 : decode cX12_mend 88 = .ok (.goto 30, 3) := by decide +kernel
theorem dX12_mend_91 : decode cX12_mend 91 = .ok (.iload_n 3, 1) := by decide +kernel
theorem dX12_mend_92 : decode cX12_mend 92 = .ok (.iconst 1, 1) := by decide +kernel
theorem dX12_mend_93 : decode cX12_mend 93 = .ok (.if_icmp .ne 12, 3) := by decide +kernel
theorem dX12_mend_96 : decode cX12_mend 96 = .ok (.aload_n 0, 1) := by decide +kernel
theorem dX12_mend_97 : decode cX12_mend 97 = .ok (.getfield 65, 3) := by decide +kernel
theorem dX12_mend_100 : decode cX12_mend 100 = .ok (.iload_n 2, 1) := by decide +kernel
theorem dX12_mend_101 : decode cX12_mend 101 = .ok (.iaload, 1) := by decide +kernel
theorem dX12_mend_102 : decode cX12_mend 102 = .ok (.goto 16, 3) := by decide +kernel
theorem dX12_mend_105 : decode cX12_mend 105 = .ok (.aload_n 0, 1) := by decide +kernel
theorem dX12_mend_106 : decode cX12_mend 106 = .ok (.getfield 68, 3) := by decide +kernel
theorem dX12_mend_109 : decode cX12_mend 109 = .ok (.bipush 8, 2) := by decide +kernel
theorem dX12_mend_111 : decode cX12_mend 111 = .ok (.iload_n 2, 1) := by decide +kernel
theorem dX12_mend_112 : decode cX12_mend 112 = .ok (.imul, 1) := by decide +kernel
theorem dX12_mend_113 : decode cX12_mend 113 = .ok (.iload_n 3, 1) := by decide +kernel
theorem dX12_mend_114 : decode cX12_mend 114 = .ok (.iadd, 1) := by decide +kernel
theorem dX12_mend_115 : decode cX12_mend 115 = .ok (.iconst 2, 1) := by decide +kernel
theorem dX12_mend_116 : decode cX12_mend 116 = .ok (.isub, 1) := by decide +kernel
theorem dX12_mend_117 : decode cX12_mend 117 = .ok (.iaload, 1) := by decide +kernel
theorem dX12_mend_118 : decode cX12_mend 118 = .ok (.ireturn, 1) := by decide +kernel
theorem dX12_familyAt_0 : decode cX12_familyAt 0 = .ok (.aload_n 0, 1) := by decide +kernel
theorem dX12_familyAt_1 : decode cX12_familyAt 1 = .ok (.getfield 68, 3) := by decide +kernel
theorem dX12_familyAt_4 : decode cX12_familyAt 4 = .ok (.bipush 8, 2) := by decide +kernel
theorem dX12_familyAt_6 : decode cX12_familyAt 6 = .ok (.iload_n 1, 1) := by decide +kernel
theorem dX12_familyAt_7 : decode cX12_familyAt 7 = .ok (.imul, 1) := by decide +kernel
theorem dX12_familyAt_8 : decode cX12_familyAt 8 = .ok (.iload_n 2, 1) := by decide +kernel
theorem dX12_familyAt_9 : decode cX12_familyAt 9 = .ok (.iadd, 1) := by decide +kernel
theorem dX12_familyAt_10 : decode cX12_familyAt 10 = .ok (.iaload, 1) := by decide +kernel
theorem dX12_familyAt_11 : decode cX12_familyAt 11 = .ok (.istore_n 3, 1) := by decide +kernel
theorem dX12_familyAt_12 : decode cX12_familyAt 12 = .ok (.iload_n 3, 1) := by decide +kernel
theorem dX12_familyAt_13 : decode cX12_familyAt 13 = .ok (.ifCond .ge 8, 3) := by decide +kernel
theorem dX12_familyAt_16 : decode cX12_familyAt 16 = .ok (.bipush (-4), 2) := by decide +kernel
theorem dX12_familyAt_18 : decode cX12_familyAt 18 = .ok (.goto 13, 3) := by decide +kernel
theorem dX12_familyAt_21 : decode cX12_familyAt 21 = .ok (.aload_n 0, 1) := by decide +kernel
theorem dX12_familyAt_22 : decode cX12_familyAt 22 = .ok (.getfield 16, 3) := by decide +kernel
theorem dX12_familyAt_25 : decode cX12_familyAt 25 = .ok (.iconst 4, 1) := by decide +kernel
theorem dX12_familyAt_26 : decode cX12_familyAt 26 = .ok (.iload_n 3, 1) := by decide +kernel
theorem dX12_familyAt_27 : decode cX12_familyAt 27 = .ok (.imul, 1) := by decide +kernel
theorem dX12_familyAt_28 : decode cX12_familyAt 28 = .ok (.iconst 2, 1) := by decide +kernel
theorem dX12_familyAt_29 : decode cX12_familyAt 29 = .ok (.iadd, 1) := by decide +kernel
theorem dX12_familyAt_30 : decode cX12_familyAt 30 = .ok (.iaload, 1) := by decide +kernel
theorem dX12_familyAt_31 : decode cX12_familyAt 31 = .ok (.ireturn, 1) := by decide +kernel
theorem dX12_layHeaps_0 : decode cX12_layHeaps 0 = .ok (.aload_n 0, 1) := by decide +kernel
theorem dX12_layHeaps_1 : decode cX12_layHeaps 1 = .ok (.iconst 0, 1) := by decide +kernel
theorem dX12_layHeaps_2 : decode cX12_layHeaps 2 = .ok (.putfield 204, 3) := by decide +kernel
theorem dX12_layHeaps_5 : decode cX12_layHeaps 5 = .ok (.iconst 0, 1) := by decide +kernel
theorem dX12_layHeaps_6 : decode cX12_layHeaps 6 = .ok (.istore_n 1, 1) := by decide +kernel
theorem dX12_layHeaps_7 : decode cX12_layHeaps 7 = .ok (.iload_n 1, 1) := by decide +kernel
theorem dX12_layHeaps_8 : decode cX12_layHeaps 8 = .ok (.aload_n 0, 1) := by decide +kernel
theorem dX12_layHeaps_9 : decode cX12_layHeaps 9 = .ok (.getfield 188, 3) := by decide +kernel
theorem dX12_layHeaps_12 : decode cX12_layHeaps 12 = .ok (.if_icmp .ge 105, 3) := by decide +kernel
theorem dX12_layHeaps_15 : decode cX12_layHeaps 15 = .ok (.iconst 0, 1) := by decide +kernel
theorem dX12_layHeaps_16 : decode cX12_layHeaps 16 = .ok (.istore_n 2, 1) := by decide +kernel
theorem dX12_layHeaps_17 : decode cX12_layHeaps 17 = .ok (.iconst 0, 1) := by decide +kernel
theorem dX12_layHeaps_18 : decode cX12_layHeaps 18 = .ok (.istore_n 3, 1) := by decide +kernel
theorem dX12_layHeaps_19 : decode cX12_layHeaps 19 = .ok (.iload_n 3, 1) := by decide +kernel
theorem dX12_layHeaps_20 : decode cX12_layHeaps 20 = .ok (.aload_n 0, 1) := by decide +kernel
theorem dX12_layHeaps_21 : decode cX12_layHeaps 21 = .ok (.getfield 204, 3) := by decide +kernel
theorem dX12_layHeaps_24 : decode cX12_layHeaps 24 = .ok (.if_icmp .ge 63, 3) := by decide +kernel
theorem dX12_layHeaps_27 : decode cX12_layHeaps 27 = .ok (.iload_n 2, 1) := by decide +kernel
theorem dX12_layHeaps_28 : decode cX12_layHeaps 28 = .ok (.ifCond .ne 59, 3) := by decide +kernel
theorem dX12_layHeaps_31 : decode cX12_layHeaps 31 = .ok (.iconst 1, 1) := by decide +kernel
theorem dX12_layHeaps_32 : decode cX12_layHeaps 32 = .ok (.istore_n 2, 1) := by decide +kernel
theorem dX12_layHeaps_33 : decode cX12_layHeaps 33 = .ok (.iconst 0, 1) := by decide +kernel
theorem dX12_layHeaps_34 : decode cX12_layHeaps 34 = .ok (.istore 4, 2) := by decide +kernel
theorem dX12_layHeaps_36 : decode cX12_layHeaps 36 = .ok (.iload 4, 2) := by decide +kernel
theorem dX12_layHeaps_38 : decode cX12_layHeaps 38 = .ok (.bipush 8, 2) := by decide +kernel
theorem dX12_layHeaps_40 : decode cX12_layHeaps 40 = .ok (.if_icmp .ge 41, 3) := by decide +kernel
theorem dX12_layHeaps_43 : decode cX12_layHeaps 43 = .ok (.iload_n 2, 1) := by decide +kernel
theorem dX12_layHeaps_44 : decode cX12_layHeaps 44 = .ok (.ifCond .eq 29, 3) := by decide +kernel
theorem dX12_layHeaps_47 : decode cX12_layHeaps 47 = .ok (.aload_n 0, 1) := by decide +kernel
theorem dX12_layHeaps_48 : decode cX12_layHeaps 48 = .ok (.iload_n 1, 1) := by decide +kernel
theorem dX12_layHeaps_49 : decode cX12_layHeaps 49 = .ok (.iload 4, 2) := by decide +kernel
theorem dX12_layHeaps_51 : decode cX12_layHeaps 51 = .ok (.invokevirtual 207, 3) := by decide +kernel
theorem dX12_layHeaps_54 : decode cX12_layHeaps 54 = .ok (.aload_n 0, 1) := by decide +kernel
theorem dX12_layHeaps_55 : decode cX12_layHeaps 55 = .ok (.aload_n 0, 1) := by decide +kernel
theorem dX12_layHeaps_56 : decode cX12_layHeaps 56 = .ok (.getfield 71, 3) := by decide +kernel
theorem dX12_layHeaps_59 : decode cX12_layHeaps 59 = .ok (.iload_n 3, 1) := by decide +kernel
theorem dX12_layHeaps_60 : decode cX12_layHeaps 60 = .ok (.iaload, 1) := by decide +kernel
theorem dX12_layHeaps_61 : decode cX12_layHeaps 61 = .ok (.iload 4, 2) := by decide +kernel
theorem dX12_layHeaps_63 : decode cX12_layHeaps 63 = .ok (.invokevirtual 207, 3) := by decide +kernel
theorem dX12_layHeaps_66 : decode cX12_layHeaps 66 = .ok (.if_icmp .ne 7, 3) := by decide +kernel
theorem dX12_layHeaps_69 : decode cX12_layHeaps 69 = .ok (.iconst 1, 1) := by decide +kernel
theorem dX12_layHeaps_70 : decode cX12_layHeaps 70 = .ok (.goto 4, 3) := by decide +kernel
theorem dX12_layHeaps_73 : decode cX12_layHeaps 73 = .ok (.iconst 0, 1) := by decide +kernel
theorem dX12_layHeaps_74 : decode cX12_layHeaps 74 = .ok (.istore_n 2, 1) := by decide +kernel
theorem dX12_layHeaps_75 : decode cX12_layHeaps 75 = .ok (.iinc 4 1, 3) := by decide +kernel
theorem dX12_layHeaps_78 : decode cX12_layHeaps 78 = .ok (.goto (-42), 3) := by decide +kernel
theorem dX12_layHeaps_81 : decode cX12_layHeaps 81 = .ok (.iinc 3 1, 3) := by decide +kernel
theorem dX12_layHeaps_84 : decode cX12_layHeaps 84 = .ok (.goto (-65), 3) := by decide +kernel
theorem dX12_layHeaps_87 : decode cX12_layHeaps 87 = .ok (.iload_n 2, 1) := by decide +kernel
theorem dX12_layHeaps_88 : decode cX12_layHeaps 88 = .ok (.ifCond .ne 23, 3) := by decide +kernel
theorem dX12_layHeaps_91 : decode cX12_layHeaps 91 = .ok (.aload_n 0, 1) := by decide +kernel
theorem dX12_layHeaps_92 : decode cX12_layHeaps 92 = .ok (.getfield 71, 3) := by decide +kernel
theorem dX12_layHeaps_95 : decode cX12_layHeaps 95 = .ok (.aload_n 0, 1) := by decide +kernel
theorem dX12_layHeaps_96 : decode cX12_layHeaps 96 = .ok (.getfield 204, 3) := by decide +kernel
theorem dX12_layHeaps_99 : decode cX12_layHeaps 99 = .ok (.iload_n 1, 1) := by decide +kernel
theorem dX12_layHeaps_100 : decode cX12_layHeaps 100 = .ok (.iastore, 1) := by decide +kernel
theorem dX12_layHeaps_101 : decode cX12_layHeaps 101 = .ok (.aload_n 0, 1) := by decide +kernel
theorem dX12_layHeaps_102 : decode cX12_layHeaps 102 = .ok (.dup, 1) := by decide +kernel
theorem dX12_layHeaps_103 : decode cX12_layHeaps 103 = .ok (.getfield 204, 3) := by decide +kernel
theorem dX12_layHeaps_106 : decode cX12_layHeaps 106 = .ok (.iconst 1, 1) := by decide +kernel
theorem dX12_layHeaps_107 : decode cX12_layHeaps 107 = .ok (.iadd, 1) := by decide +kernel
theorem dX12_layHeaps_108 : decode cX12_layHeaps 108 = .ok (.putfield 204, 3) := by decide +kernel
theorem dX12_layHeaps_111 : decode cX12_layHeaps 111 = .ok (.iinc 1 1, 3) := by decide +kernel
theorem dX12_layHeaps_114 : decode cX12_layHeaps 114 = .ok (.goto (-107), 3) := by decide +kernel
theorem dX12_layHeaps_117 : decode cX12_layHeaps 117 = .ok (.return_, 1) := by decide +kernel
theorem dX12_asked_0 : decode cX12_asked 0 = .ok (.bipush (-4), 2) := by decide +kernel
theorem dX12_asked_2 : decode cX12_asked 2 = .ok (.istore_n 1, 1) := by decide +kernel
theorem dX12_asked_3 : decode cX12_asked 3 = .ok (.iconst 0, 1) := by decide +kernel
theorem dX12_asked_4 : decode cX12_asked 4 = .ok (.istore_n 2, 1) := by decide +kernel
theorem dX12_asked_5 : decode cX12_asked 5 = .ok (.iconst 0, 1) := by decide +kernel
theorem dX12_asked_6 : decode cX12_asked 6 = .ok (.istore_n 3, 1) := by decide +kernel
theorem dX12_asked_7 : decode cX12_asked 7 = .ok (.iload_n 3, 1) := by decide +kernel
theorem dX12_asked_8 : decode cX12_asked 8 = .ok (.bipush 8, 2) := by decide +kernel
theorem dX12_asked_10 : decode cX12_asked 10 = .ok (.if_icmp .ge 121, 3) := by decide +kernel
theorem dX12_asked_13 : decode cX12_asked 13 = .ok (.iconst 0, 1) := by decide +kernel
theorem dX12_asked_14 : decode cX12_asked 14 = .ok (.istore 4, 2) := by decide +kernel
theorem dX12_asked_16 : decode cX12_asked 16 = .ok (.iconst 0, 1) := by decide +kernel
theorem dX12_asked_17 : decode cX12_asked 17 = .ok (.istore 5, 2) := by decide +kernel
theorem dX12_asked_19 : decode cX12_asked 19 = .ok (.iload 5, 2) := by decide +kernel
theorem dX12_asked_21 : decode cX12_asked 21 = .ok (.aload_n 0, 1) := by decide +kernel
theorem dX12_asked_22 : decode cX12_asked 22 = .ok (.getfield 204, 3) := by decide +kernel
theorem dX12_asked_25 : decode cX12_asked 25 = .ok (.if_icmp .ge 83, 3) := by decide +kernel
theorem dX12_asked_28 : decode cX12_asked 28 = .ok (.iconst 0, 1) := by decide +kernel
theorem dX12_asked_29 : decode cX12_asked 29 = .ok (.istore 6, 2) := by decide +kernel
theorem dX12_asked_31 : decode cX12_asked 31 = .ok (.iconst 0, 1) := by decide +kernel
theorem dX12_asked_32 : decode cX12_asked 32 = .ok (.istore 7, 2) := by decide +kernel
theorem dX12_asked_34 : decode cX12_asked 34 = .ok (.iload 7, 2) := by decide +kernel
theorem dX12_asked_36 : decode cX12_asked 36 = .ok (.aload_n 0, 1) := by decide +kernel
theorem dX12_asked_37 : decode cX12_asked 37 = .ok (.getfield 204, 3) := by decide +kernel
theorem dX12_asked_40 : decode cX12_asked 40 = .ok (.if_icmp .ge 46, 3) := by decide +kernel
theorem dX12_asked_43 : decode cX12_asked 43 = .ok (.iload 6, 2) := by decide +kernel
theorem dX12_asked_45 : decode cX12_asked 45 = .ok (.aload_n 0, 1) := by decide +kernel
theorem dX12_asked_46 : decode cX12_asked 46 = .ok (.aload_n 0, 1) := by decide +kernel
theorem dX12_asked_47 : decode cX12_asked 47 = .ok (.getfield 71, 3) := by decide +kernel
theorem dX12_asked_50 : decode cX12_asked 50 = .ok (.iload 5, 2) := by decide +kernel
theorem dX12_asked_52 : decode cX12_asked 52 = .ok (.iaload, 1) := by decide +kernel
theorem dX12_asked_53 : decode cX12_asked 53 = .ok (.iload_n 3, 1) := by decide +kernel
theorem dX12_asked_54 : decode cX12_asked 54 = .ok (.invokevirtual 207, 3) := by decide +kernel
theorem dX12_asked_57 : decode cX12_asked 57 = .ok (.aload_n 0, 1) := by decide +kernel
theorem dX12_asked_58 : decode cX12_asked 58 = .ok (.aload_n 0, 1) := by decide +kernel
theorem dX12_asked_59 : decode cX12_asked 59 = .ok (.getfield 71, 3) := by decide +kernel
theorem dX12_asked_62 : decode cX12_asked 62 = .ok (.iload 7, 2) := by decide +kernel
theorem dX12_asked_64 : decode cX12_asked 64 = .ok (.iaload, 1) := by decide +kernel
theorem dX12_asked_65 : decode cX12_asked 65 = .ok (.iload_n 3, 1) := by decide +kernel
theorem dX12_asked_66 : decode cX12_asked 66 = .ok (.invokevirtual 207, 3) := by decide +kernel
theorem dX12_asked_69 : decode cX12_asked 69 = .ok (.if_icmp .ne 7, 3) := by decide +kernel
theorem dX12_asked_72 : decode cX12_asked 72 = .ok (.iconst 1, 1) := by decide +kernel
theorem dX12_asked_73 : decode cX12_asked 73 = .ok (.goto 4, 3) := by decide +kernel
theorem dX12_asked_76 : decode cX12_asked 76 = .ok (.iconst 0, 1) := by decide +kernel
theorem dX12_asked_77 : decode cX12_asked 77 = .ok (.iadd, 1) := by decide +kernel
theorem dX12_asked_78 : decode cX12_asked 78 = .ok (.istore 6, 2) := by decide +kernel
theorem dX12_asked_80 : decode cX12_asked 80 = .ok (.iinc 7 1, 3) := by decide +kernel
theorem dX12_asked_83 : decode cX12_asked 83 = .ok (.goto (-49), 3) := by decide +kernel
theorem dX12_asked_86 : decode cX12_asked 86 = .ok (.iload 6, 2) := by decide +kernel
theorem dX12_asked_88 : decode cX12_asked 88 = .ok (.iload 4, 2) := by decide +kernel
theorem dX12_asked_90 : decode cX12_asked 90 = .ok (.if_icmp .le 8, 3) := by decide +kernel
theorem dX12_asked_93 : decode cX12_asked 93 = .ok (.iload 6, 2) := by decide +kernel
theorem dX12_asked_95 : decode cX12_asked 95 = .ok (.goto 5, 3) := by decide +kernel
theorem dX12_asked_98 : decode cX12_asked 98 = .ok (.iload 4, 2) := by decide +kernel
theorem dX12_asked_100 : decode cX12_asked 100 = .ok (.istore 4, 2) := by decide +kernel
theorem dX12_asked_102 : decode cX12_asked 102 = .ok (.iinc 5 1, 3) := by decide +kernel
theorem dX12_asked_105 : decode cX12_asked 105 = .ok (.goto (-86), 3) := by decide +kernel
theorem dX12_asked_108 : decode cX12_asked 108 = .ok (.iload_n 1, 1) := by decide +kernel
theorem dX12_asked_109 : decode cX12_asked 109 = .ok (.bipush (-4), 2) := by decide +kernel
theorem dX12_asked_111 : decode cX12_asked 111 = .ok (.if_icmp .eq 9, 3) := by decide +kernel
theorem dX12_asked_114 : decode cX12_asked 114 = .ok (.iload 4, 2) := by decide +kernel
theorem dX12_asked_116 : decode cX12_asked 116 = .ok (.iload_n 2, 1) := by decide +kernel
theorem dX12_asked_117 : decode cX12_asked 117 = .ok (.if_icmp .ge 8, 3) := by decide +kernel
theorem dX12_asked_120 : decode cX12_asked 120 = .ok (.iload_n 3, 1) := by decide +kernel
theorem dX12_asked_121 : decode cX12_asked 121 = .ok (.istore_n 1, 1) := by decide +kernel
theorem dX12_asked_122 : decode cX12_asked 122 = .ok (.iload 4, 2) := by decide +kernel
theorem dX12_asked_124 : decode cX12_asked 124 = .ok (.istore_n 2, 1) := by decide +kernel
theorem dX12_asked_125 : decode cX12_asked 125 = .ok (.iinc 3 1, 3) := by decide +kernel
theorem dX12_asked_128 : decode cX12_asked 128 = .ok (.goto (-121), 3) := by decide +kernel
theorem dX12_asked_131 : decode cX12_asked 131 = .ok (.iload_n 1, 1) := by decide +kernel
theorem dX12_asked_132 : decode cX12_asked 132 = .ok (.ireturn, 1) := by decide +kernel
theorem dX12_heaps_0 : decode cX12_heaps 0 = .ok (.iload_n 1, 1) := by decide +kernel
theorem dX12_heaps_1 : decode cX12_heaps 1 = .ok (.invokestatic 134, 3) := by decide +kernel
theorem dX12_heaps_4 : decode cX12_heaps 4 = .ok (.ifCond .eq 27, 3) := by decide +kernel
theorem dX12_heaps_7 : decode cX12_heaps 7 = .ok (.iload_n 2, 1) := by decide +kernel
theorem dX12_heaps_8 : decode cX12_heaps 8 = .ok (.i2l, 1) := by decide +kernel
theorem dX12_heaps_9 : decode cX12_heaps 9 = .ok (.lconst 0, 1) := by decide +kernel
theorem dX12_heaps_10 : decode cX12_heaps 10 = .ok (.ldc2_w 210, 3) := by decide +kernel
theorem dX12_heaps_13 : decode cX12_heaps 13 = .ok (.invokestatic 80, 3) := by decide +kernel
theorem dX12_heaps_16 : decode cX12_heaps 16 = .ok (.ifCond .eq 15, 3) := by decide +kernel
theorem dX12_heaps_19 : decode cX12_heaps 19 = .ok (.iload_n 3, 1) := by decide +kernel
theorem dX12_heaps_20 : decode cX12_heaps 20 = .ok (.i2l, 1) := by decide +kernel
theorem dX12_heaps_21 : decode cX12_heaps 21 = .ok (.lconst 0, 1) := by decide +kernel
theorem dX12_heaps_22 : decode cX12_heaps 22 = .ok (.ldc2_w 97, 3) := by decide +kernel
theorem dX12_heaps_25 : decode cX12_heaps 25 = .ok (.invokestatic 80, 3) := by decide +kernel
theorem dX12_heaps_28 : decode cX12_heaps 28 = .ok (.ifCond .ne 5, 3) := by decide +kernel
theorem dX12_heaps_31 : decode cX12_heaps 31 = .ok (.iconst (-1), 1) := by decide +kernel
theorem dX12_heaps_32 : decode cX12_heaps 32 = .ok (.ireturn, 1) := by decide +kernel
theorem dX12_heaps_33 : decode cX12_heaps 33 = .ok (.aload_n 0, 1) := by decide +kernel
theorem dX12_heaps_34 : decode cX12_heaps 34 = .ok (.getfield 28, 3) := by decide +kernel
theorem dX12_heaps_37 : decode cX12_heaps 37 = .ok (.iload_n 1, 1) := by decide +kernel
theorem dX12_heaps_38 : decode cX12_heaps 38 = .ok (.iaload, 1) := by decide +kernel
theorem dX12_heaps_39 : decode cX12_heaps 39 = .ok (.ifCond .eq 12, 3) := by decide +kernel
theorem dX12_heaps_42 : decode cX12_heaps 42 = .ok (.aload_n 0, 1) := by decide +kernel
theorem dX12_heaps_43 : decode cX12_heaps 43 = .ok (.iload_n 1, 1) := by decide +kernel
theorem dX12_heaps_44 : decode cX12_heaps 44 = .ok (.iconst 0, 1) := by decide +kernel
theorem dX12_heaps_45 : decode cX12_heaps 45 = .ok (.invokevirtual 185, 3) := by decide +kernel
theorem dX12_heaps_48 : decode cX12_heaps 48 = .ok (.ifCond .eq 6, 3) := by decide +kernel
theorem dX12_heaps_51 : decode cX12_heaps 51 = .ok (.bipush (-2), 2) := by decide +kernel
theorem dX12_heaps_53 : decode cX12_heaps 53 = .ok (.ireturn, 1) := by decide +kernel
theorem dX12_heaps_54 : decode cX12_heaps 54 = .ok (.aload_n 0, 1) := by decide +kernel
theorem dX12_heaps_55 : decode cX12_heaps 55 = .ok (.iload_n 1, 1) := by decide +kernel
theorem dX12_heaps_56 : decode cX12_heaps 56 = .ok (.invokevirtual 201, 3) := by decide +kernel
theorem dX12_heaps_59 : decode cX12_heaps 59 = .ok (.aload_n 0, 1) := by decide +kernel
theorem dX12_heaps_60 : decode cX12_heaps 60 = .ok (.invokevirtual 212, 3) := by decide +kernel
theorem dX12_heaps_63 : decode cX12_heaps 63 = .ok (.iload_n 3, 1) := by decide +kernel
theorem dX12_heaps_64 : decode cX12_heaps 64 = .ok (.ifCond .ne 8, 3) := by decide +kernel
theorem dX12_heaps_67 : decode cX12_heaps 67 = .ok (.aload_n 0, 1) := by decide +kernel
theorem dX12_heaps_68 : decode cX12_heaps 68 = .ok (.getfield 204, 3) := by decide +kernel
theorem dX12_heaps_71 : decode cX12_heaps 71 = .ok (.ireturn, 1) := by decide +kernel
theorem dX12_heaps_72 : decode cX12_heaps 72 = .ok (.aload_n 0, 1) := by decide +kernel
theorem dX12_heaps_73 : decode cX12_heaps 73 = .ok (.getfield 204, 3) := by decide +kernel
theorem dX12_heaps_76 : decode cX12_heaps 76 = .ok (.ifCond .eq 16, 3) := by decide +kernel
theorem dX12_heaps_79 : decode cX12_heaps 79 = .ok (.iload_n 3, 1) := by decide +kernel
theorem dX12_heaps_80 : decode cX12_heaps 80 = .ok (.iconst 2, 1) := by decide +kernel
theorem dX12_heaps_81 : decode cX12_heaps 81 = .ok (.if_icmp .ne 14, 3) := by decide +kernel
theorem dX12_heaps_84 : decode cX12_heaps 84 = .ok (.aload_n 0, 1) := by decide +kernel
theorem dX12_heaps_85 : decode cX12_heaps 85 = .ok (.getfield 204, 3) := by decide +kernel
theorem dX12_heaps_88 : decode cX12_heaps 88 = .ok (.iconst 2, 1) := by decide +kernel
theorem dX12_heaps_89 : decode cX12_heaps 89 = .ok (.if_icmp .ge 6, 3) := by decide +kernel
theorem dX12_heaps_92 : decode cX12_heaps 92 = .ok (.bipush (-4), 2) := by decide +kernel
theorem dX12_heaps_94 : decode cX12_heaps 94 = .ok (.ireturn, 1) := by decide +kernel
theorem dX12_heaps_95 : decode cX12_heaps 95 = .ok (.iload_n 3, 1) := by decide +kernel
theorem dX12_heaps_96 : decode cX12_heaps 96 = .ok (.iconst 2, 1) := by decide +kernel
theorem dX12_heaps_97 : decode cX12_heaps 97 = .ok (.if_icmp .ne 8, 3) := by decide +kernel
theorem dX12_heaps_100 : decode cX12_heaps 100 = .ok (.aload_n 0, 1) := by decide +kernel
theorem dX12_heaps_101 : decode cX12_heaps 101 = .ok (.invokevirtual 215, 3) := by decide +kernel
theorem dX12_heaps_104 : decode cX12_heaps 104 = .ok (.ireturn, 1) := by decide +kernel
theorem dX12_heaps_105 : decode cX12_heaps 105 = .ok (.aload_n 0, 1) := by decide +kernel
theorem dX12_heaps_106 : decode cX12_heaps 106 = .ok (.getfield 204, 3) := by decide +kernel
theorem dX12_heaps_109 : decode cX12_heaps 109 = .ok (.iconst 1, 1) := by decide +kernel
theorem dX12_heaps_110 : decode cX12_heaps 110 = .ok (.if_icmp .eq 30, 3) := by decide +kernel
theorem dX12_heaps_113 : decode cX12_heaps 113 = .ok (.aload_n 0, 1) := by decide +kernel
theorem dX12_heaps_114 : decode cX12_heaps 114 = .ok (.getfield 62, 3) := by decide +kernel
theorem dX12_heaps_117 : decode cX12_heaps 117 = .ok (.aload_n 0, 1) := by decide +kernel
theorem dX12_heaps_118 : decode cX12_heaps 118 = .ok (.getfield 71, 3) := by decide +kernel
theorem dX12_heaps_121 : decode cX12_heaps 121 = .ok (.iconst 1, 1) := by decide +kernel
theorem dX12_heaps_122 : decode cX12_heaps 122 = .ok (.iaload, 1) := by decide +kernel
theorem dX12_heaps_123 : decode cX12_heaps 123 = .ok (.iaload, 1) := by decide +kernel
theorem dX12_heaps_124 : decode cX12_heaps 124 = .ok (.aload_n 0, 1) := by decide +kernel
theorem dX12_heaps_125 : decode cX12_heaps 125 = .ok (.getfield 62, 3) := by decide +kernel
theorem dX12_heaps_128 : decode cX12_heaps 128 = .ok (.aload_n 0, 1) := by decide +kernel
theorem dX12_heaps_129 : decode cX12_heaps 129 = .ok (.getfield 71, 3) := by decide +kernel
theorem dX12_heaps_132 : decode cX12_heaps 132 = .ok (.iconst 0, 1) := by decide +kernel
theorem dX12_heaps_133 : decode cX12_heaps 133 = .ok (.iaload, 1) := by decide +kernel
theorem dX12_heaps_134 : decode cX12_heaps 134 = .ok (.iaload, 1) := by decide +kernel
theorem dX12_heaps_135 : decode cX12_heaps 135 = .ok (.isub, 1) := by decide +kernel
theorem dX12_heaps_136 : decode cX12_heaps 136 = .ok (.iload_n 2, 1) := by decide +kernel
theorem dX12_heaps_137 : decode cX12_heaps 137 = .ok (.if_icmp .lt 7, 3) := by decide +kernel
theorem dX12_heaps_140 : decode cX12_heaps 140 = .ok (.iconst 1, 1) := by decide +kernel
theorem dX12_heaps_141 : decode cX12_heaps 141 = .ok (.goto 4, 3) := by decide +kernel
theorem dX12_heaps_144 : decode cX12_heaps 144 = .ok (.iconst 0, 1) := by decide +kernel
theorem dX12_heaps_145 : decode cX12_heaps 145 = .ok (.ireturn, 1) := by decide +kernel
theorem dX12_isAgreeing_0 : decode cX12_isAgreeing 0 = .ok (.iload_n 1, 1) := by decide +kernel
theorem dX12_isAgreeing_1 : decode cX12_isAgreeing 1 = .ok (.aload_n 0, 1) := by decide +kernel
theorem dX12_isAgreeing_2 : decode cX12_isAgreeing 2 = .ok (.getfield 19, 3) := by decide +kernel
theorem dX12_isAgreeing_5 : decode cX12_isAgreeing 5 = .ok (.iconst 0, 1) := by decide +kernel
theorem dX12_isAgreeing_6 : decode cX12_isAgreeing 6 = .ok (.iaload, 1) := by decide +kernel
theorem dX12_isAgreeing_7 : decode cX12_isAgreeing 7 = .ok (.if_icmp .ge 21, 3) := by decide +kernel
theorem dX12_isAgreeing_10 : decode cX12_isAgreeing 10 = .ok (.aload_n 0, 1) := by decide +kernel
theorem dX12_isAgreeing_11 : decode cX12_isAgreeing 11 = .ok (.getfield 22, 3) := by decide +kernel
theorem dX12_isAgreeing_14 : decode cX12_isAgreeing 14 = .ok (.iconst 5, 1) := by decide +kernel
theorem dX12_isAgreeing_15 : decode cX12_isAgreeing 15 = .ok (.iload_n 1, 1) := by decide +kernel
theorem dX12_isAgreeing_16 : decode cX12_isAgreeing 16 = .ok (.imul, 1) := by decide +kernel
theorem dX12_isAgreeing_17 : decode cX12_isAgreeing 17 = .ok (.iconst 3, 1) := by decide +kernel
theorem dX12_isAgreeing_18 : decode cX12_isAgreeing 18 = .ok (.iadd, 1) := by decide +kernel
theorem dX12_isAgreeing_19 : decode cX12_isAgreeing 19 = .ok (.iaload, 1) := by decide +kernel
theorem dX12_isAgreeing_20 : decode cX12_isAgreeing 20 = .ok (.iconst 1, 1) := by decide +kernel
theorem dX12_isAgreeing_21 : decode cX12_isAgreeing 21 = .ok (.if_icmp .ne 7, 3) := by decide +kernel
theorem dX12_isAgreeing_24 : decode cX12_isAgreeing 24 = .ok (.iconst 1, 1) := by decide +kernel
theorem dX12_isAgreeing_25 : decode cX12_isAgreeing 25 = .ok (.goto 4, 3) := by decide +kernel
theorem dX12_isAgreeing_28 : decode cX12_isAgreeing 28 = .ok (.iconst 0, 1) := by decide +kernel
theorem dX12_isAgreeing_29 : decode cX12_isAgreeing 29 = .ok (.ireturn, 1) := by decide +kernel
theorem dX12_lesser_0 : decode cX12_lesser 0 = .ok (.iload_n 1, 1) := by decide +kernel
theorem dX12_lesser_1 : decode cX12_lesser 1 = .ok (.bipush (-4), 2) := by decide +kernel
theorem dX12_lesser_3 : decode cX12_lesser 3 = .ok (.if_icmp .eq 8, 3) := by decide +kernel
theorem dX12_lesser_6 : decode cX12_lesser 6 = .ok (.iload_n 2, 1) := by decide +kernel
theorem dX12_lesser_7 : decode cX12_lesser 7 = .ok (.iload_n 1, 1) := by decide +kernel
theorem dX12_lesser_8 : decode cX12_lesser 8 = .ok (.if_icmp .ge 7, 3) := by decide +kernel
theorem dX12_lesser_11 : decode cX12_lesser 11 = .ok (.iconst 1, 1) := by decide +kernel
theorem dX12_lesser_12 : decode cX12_lesser 12 = .ok (.goto 4, 3) := by decide +kernel
theorem dX12_lesser_15 : decode cX12_lesser 15 = .ok (.iconst 0, 1) := by decide +kernel
theorem dX12_lesser_16 : decode cX12_lesser 16 = .ok (.istore 4, 2) := by decide +kernel
theorem dX12_lesser_18 : decode cX12_lesser 18 = .ok (.iload 4, 2) := by decide +kernel
theorem dX12_lesser_20 : decode cX12_lesser 20 = .ok (.ifCond .eq 16, 3) := by decide +kernel
theorem dX12_lesser_23 : decode cX12_lesser 23 = .ok (.aload_n 0, 1) := by decide +kernel
theorem dX12_lesser_24 : decode cX12_lesser 24 = .ok (.iload_n 3, 1) := by decide +kernel
theorem dX12_lesser_25 : decode cX12_lesser 25 = .ok (.iload_n 2, 1) := by decide +kernel
theorem dX12_lesser_26 : decode cX12_lesser 26 = .ok (.invokevirtual 185, 3) := by decide +kernel
theorem dX12_lesser_29 : decode cX12_lesser 29 = .ok (.ifCond .eq 7, 3) := by decide +kernel
theorem dX12_lesser_32 : decode cX12_lesser 32 = .ok (.iload_n 2, 1) := by decide +kernel
theorem dX12_lesser_33 : decode cX12_lesser 33 = .ok (.goto 4, 3) := by decide +kernel
theorem dX12_lesser_36 : decode cX12_lesser 36 = .ok (.iload_n 1, 1) := by decide +kernel
theorem dX12_lesser_37 : decode cX12_lesser 37 = .ok (.ireturn, 1) := by decide +kernel
theorem dX12_bars_0 : decode cX12_bars 0 = .ok (.iload_n 1, 1) := by decide +kernel
theorem dX12_bars_1 : decode cX12_bars 1 = .ok (.invokestatic 134, 3) := by decide +kernel
theorem dX12_bars_4 : decode cX12_bars 4 = .ok (.ifCond .ne 5, 3) := by decide +kernel
theorem dX12_bars_7 : decode cX12_bars 7 = .ok (.iconst (-1), 1) := by decide +kernel
theorem dX12_bars_8 : decode cX12_bars 8 = .ok (.ireturn, 1) := by decide +kernel
theorem dX12_bars_9 : decode cX12_bars 9 = .ok (.aload_n 0, 1) := by decide +kernel
theorem dX12_bars_10 : decode cX12_bars 10 = .ok (.getfield 28, 3) := by decide +kernel
theorem dX12_bars_13 : decode cX12_bars 13 = .ok (.iload_n 1, 1) := by decide +kernel
theorem dX12_bars_14 : decode cX12_bars 14 = .ok (.iaload, 1) := by decide +kernel
theorem dX12_bars_15 : decode cX12_bars 15 = .ok (.ifCond .ne 6, 3) := by decide +kernel
theorem dX12_bars_18 : decode cX12_bars 18 = .ok (.bipush (-2), 2) := by decide +kernel
theorem dX12_bars_20 : decode cX12_bars 20 = .ok (.ireturn, 1) := by decide +kernel
theorem dX12_bars_21 : decode cX12_bars 21 = .ok (.aload_n 0, 1) := by decide +kernel
theorem dX12_bars_22 : decode cX12_bars 22 = .ok (.iload_n 1, 1) := by decide +kernel
theorem dX12_bars_23 : decode cX12_bars 23 = .ok (.iconst 0, 1) := by decide +kernel
theorem dX12_bars_24 : decode cX12_bars 24 = .ok (.invokevirtual 185, 3) := by decide +kernel
theorem dX12_bars_27 : decode cX12_bars 27 = .ok (.ifCond .eq 5, 3) := by decide +kernel
theorem dX12_bars_30 : decode cX12_bars 30 = .ok (.iconst 0, 1) := by decide +kernel
theorem dX12_bars_31 : decode cX12_bars 31 = .ok (.ireturn, 1) := by decide +kernel
theorem dX12_bars_32 : decode cX12_bars 32 = .ok (.iconst 1, 1) := by decide +kernel
theorem dX12_bars_33 : decode cX12_bars 33 = .ok (.istore_n 2, 1) := by decide +kernel
theorem dX12_bars_34 : decode cX12_bars 34 = .ok (.iload_n 2, 1) := by decide +kernel
theorem dX12_bars_35 : decode cX12_bars 35 = .ok (.iconst 3, 1) := by decide +kernel
theorem dX12_bars_36 : decode cX12_bars 36 = .ok (.if_icmp .gt 190, 3) := by decide +kernel
theorem dX12_bars_39 : decode cX12_bars 39 = .ok (.bipush (-4), 2) := by decide +kernel
theorem dX12_bars_41 : decode cX12_bars 41 = .ok (.istore_n 3, 1) := by decide +kernel
theorem dX12_bars_42 : decode cX12_bars 42 = .ok (.iconst 0, 1) := by decide +kernel
theorem dX12_bars_43 : decode cX12_bars 43 = .ok (.istore 4, 2) := by decide +kernel
theorem dX12_bars_45 : decode cX12_bars 45 = .ok (.iload 4, 2) := by decide +kernel
theorem dX12_bars_47 : decode cX12_bars 47 = .ok (.bipush 24, 2) := by decide +kernel
theorem dX12_bars_49 : decode cX12_bars 49 = .ok (.if_icmp .ge 163, 3) := by decide +kernel
theorem dX12_bars_52 : decode cX12_bars 52 = .ok (.iload_n 2, 1) := by decide +kernel
theorem dX12_bars_53 : decode cX12_bars 53 = .ok (.iconst 1, 1) := by decide +kernel
theorem dX12_bars_54 : decode cX12_bars 54 = .ok (.if_icmp .le 10, 3) := by decide +kernel
theorem dX12_bars_57 : decode cX12_bars 57 = .ok (.iload 4, 2) := by decide +kernel
theorem dX12_bars_59 : decode cX12_bars 59 = .ok (.iconst 1, 1) := by decide +kernel
theorem dX12_bars_60 : decode cX12_bars 60 = .ok (.iadd, 1) := by decide +kernel
theorem dX12_bars_61 : decode cX12_bars 61 = .ok (.goto 5, 3) := by decide +kernel
theorem dX12_bars_64 : decode cX12_bars 64 = .ok (.bipush 23, 2) := by decide +kernel
theorem dX12_bars_66 : decode cX12_bars 66 = .ok (.istore 5, 2) := by decide +kernel
theorem dX12_bars_68 : decode cX12_bars 68 = .ok (.iload 5, 2) := by decide +kernel
theorem dX12_bars_70 : decode cX12_bars 70 = .ok (.bipush 24, 2) := by decide +kernel
theorem dX12_bars_72 : decode cX12_bars 72 = .ok (.if_icmp .ge 134, 3) := by decide +kernel
theorem dX12_bars_75 : decode cX12_bars 75 = .ok (.aload_n 0, 1) := by decide +kernel
theorem dX12_bars_76 : decode cX12_bars 76 = .ok (.iload 4, 2) := by decide +kernel
theorem dX12_bars_78 : decode cX12_bars 78 = .ok (.invokevirtual 218, 3) := by decide +kernel
theorem dX12_bars_81 : decode cX12_bars 81 = .ok (.ifCond .eq 125, 3) := by decide +kernel
theorem dX12_bars_84 : decode cX12_bars 84 = .ok (.iload_n 2, 1) := by decide +kernel
theorem dX12_bars_85 : decode cX12_bars 85 = .ok (.iconst 2, 1) := by decide +kernel
theorem dX12_bars_86 : decode cX12_bars 86 = .ok (.if_icmp .le 10, 3) := by decide +kernel
theorem dX12_bars_89 : decode cX12_bars 89 = .ok (.iload 5, 2) := by decide +kernel
theorem dX12_bars_91 : decode cX12_bars 91 = .ok (.iconst 1, 1) := by decide +kernel
theorem dX12_bars_92 : decode cX12_bars 92 = .ok (.iadd, 1) := by decide +kernel
theorem dX12_bars_93 : decode cX12_bars 93 = .ok (.goto 5, 3) := by decide +kernel
theorem dX12_bars_96 : decode cX12_bars 96 = .ok (.bipush 23, 2) := by decide +kernel
theorem dX12_bars_98 : decode cX12_bars 98 = .ok (.istore 6, 2) := by decide +kernel
theorem dX12_bars_100 : decode cX12_bars 100 = .ok (.iload 6, 2) := by decide +kernel
theorem dX12_bars_102 : decode cX12_bars 102 = .ok (.bipush 24, 2) := by decide +kernel
theorem dX12_bars_104 : decode cX12_bars 104 = .ok (.if_icmp .ge 96, 3) := by decide +kernel
theorem dX12_bars_107 : decode cX12_bars 107 = .ok (.iload_n 2, 1) := by decide +kernel
theorem dX12_bars_108 : decode cX12_bars 108 = .ok (.iconst 2, 1) := by decide +kernel
theorem dX12_bars_109 : decode cX12_bars 109 = .ok (.if_icmp .lt 12, 3) := by decide +kernel
theorem dX12_bars_112 : decode cX12_bars 112 = .ok (.aload_n 0, 1) := by decide +kernel
theorem dX12_bars_113 : decode cX12_bars 113 = .ok (.iload 5, 2) := by decide +kernel
theorem dX12_bars_115 : decode cX12_bars 115 = .ok (.invokevirtual 218, 3) := by decide +kernel
theorem dX12_bars_118 : decode cX12_bars 118 = .ok (.ifCond .eq 21, 3) := by decide +kernel
theorem dX12_bars_121 : decode cX12_bars 121 = .ok (.iload_n 2, 1) := by decide +kernel
theorem dX12_bars_122 : decode cX12_bars 122 = .ok (.iconst 3, 1) := by decide +kernel
theorem dX12_bars_123 : decode cX12_bars 123 = .ok (.if_icmp .lt 12, 3) := by decide +kernel
theorem dX12_bars_126 : decode cX12_bars 126 = .ok (.aload_n 0, 1) := by decide +kernel
theorem dX12_bars_127 : decode cX12_bars 127 = .ok (.iload 6, 2) := by decide +kernel
theorem dX12_bars_129 : decode cX12_bars 129 = .ok (.invokevirtual 218, 3) := by decide +kernel
theorem dX12_bars_132 : decode cX12_bars 132 = .ok (.ifCond .eq 7, 3) := by decide +kernel
theorem dX12_bars_135 : decode cX12_bars 135 = .ok (.iconst 1, 1) := by decide +kernel
theorem dX12_bars_136 : decode cX12_bars 136 = .ok (.goto 4, 3) := by decide +kernel
theorem dX12_bars_139 : decode cX12_bars 139 = .ok (.iconst 0, 1) := by decide +kernel
theorem dX12_bars_140 : decode cX12_bars 140 = .ok (.istore 7, 2) := by decide +kernel
theorem dX12_bars_142 : decode cX12_bars 142 = .ok (.iconst 1, 1) := by decide +kernel
theorem dX12_bars_143 : decode cX12_bars 143 = .ok (.iload 4, 2) := by decide +kernel
theorem dX12_bars_145 : decode cX12_bars 145 = .ok (.ishl, 1) := by decide +kernel
theorem dX12_bars_146 : decode cX12_bars 146 = .ok (.iload_n 2, 1) := by decide +kernel
theorem dX12_bars_147 : decode cX12_bars 147 = .ok (.iconst 1, 1) := by decide +kernel
theorem dX12_bars_148 : decode cX12_bars 148 = .ok (.if_icmp .le 10, 3) := by decide +kernel
theorem dX12_bars_151 : decode cX12_bars 151 = .ok (.iconst 1, 1) := by decide +kernel
theorem dX12_bars_152 : decode cX12_bars 152 = .ok (.iload 5, 2) := by decide +kernel
theorem dX12_bars_154 : decode cX12_bars 154 = .ok (.ishl, 1) := by decide +kernel
theorem dX12_bars_155 : decode cX12_bars 155 = .ok (.goto 4, 3) := by decide +kernel
theorem dX12_bars_158 : decode cX12_bars 158 = .ok (.iconst 0, 1) := by decide +kernel
theorem dX12_bars_159 : decode cX12_bars 159 = .ok (.ior, 1) := by decide +kernel
theorem dX12_bars_160 : decode cX12_bars 160 = .ok (.iload_n 2, 1) := by decide +kernel
theorem dX12_bars_161 : decode cX12_bars 161 = .ok (.iconst 2, 1) := by decide +kernel
theorem dX12_bars_162 : decode cX12_bars 162 = .ok (.if_icmp .le 10, 3) := by decide +kernel
theorem dX12_bars_165 : decode cX12_bars 165 = .ok (.iconst 1, 1) := by decide +kernel
theorem dX12_bars_166 : decode cX12_bars 166 = .ok (.iload 6, 2) := by decide +kernel
theorem dX12_bars_168 : decode cX12_bars 168 = .ok (.ishl, 1) := by decide +kernel
theorem dX12_bars_169 : decode cX12_bars 169 = .ok (.goto 4, 3) := by decide +kernel
theorem dX12_bars_172 : decode cX12_bars 172 = .ok (.iconst 0, 1) := by decide +kernel
theorem dX12_bars_173 : decode cX12_bars 173 = .ok (.ior, 1) := by decide +kernel
theorem dX12_bars_174 : decode cX12_bars 174 = .ok (.istore 8, 2) := by decide +kernel
theorem dX12_bars_176 : decode cX12_bars 176 = .ok (.iload 7, 2) := by decide +kernel
theorem dX12_bars_178 : decode cX12_bars 178 = .ok (.ifCond .eq 14, 3) := by decide +kernel
theorem dX12_bars_181 : decode cX12_bars 181 = .ok (.aload_n 0, 1) := by decide +kernel
theorem dX12_bars_182 : decode cX12_bars 182 = .ok (.iload_n 3, 1) := by decide +kernel
theorem dX12_bars_183 : decode cX12_bars 183 = .ok (.iload 8, 2) := by decide +kernel
theorem dX12_bars_185 : decode cX12_bars 185 = .ok (.iload_n 1, 1) := by decide +kernel
theorem dX12_bars_186 : decode cX12_bars 186 = .ok (.invokevirtual 221, 3) := by decide +kernel
theorem dX12_bars_189 : decode cX12_bars 189 = .ok (.goto 4, 3) := by decide +kernel
theorem dX12_bars_192 : decode cX12_bars 192 = .ok (.iload_n 3, 1) := by decide +kernel
theorem dX12_bars_193 : decode cX12_bars 193 = .ok (.istore_n 3, 1) := by decide +kernel
theorem dX12_bars_194 : decode cX12_bars 194 = .ok (.iinc 6 1, 3) := by decide +kernel
theorem dX12_bars_197 : decode cX12_bars 197 = .ok (.goto (-97), 3) := by decide +kernel
theorem dX12_bars_200 : decode cX12_bars 200 = .ok (.iinc 5 1, 3) := by decide +kernel
theorem dX12_bars_203 : decode cX12_bars 203 = .ok (.goto (-135), 3) := by decide +kernel
theorem dX12_bars_206 : decode cX12_bars 206 = .ok (.iinc 4 1, 3) := by decide +kernel
theorem dX12_bars_209 : decode cX12_bars 209 = .ok (.goto (-164), 3) := by decide +kernel
theorem dX12_bars_212 : decode cX12_bars 212 = .ok (.iload_n 3, 1) := by decide +kernel
theorem dX12_bars_213 : decode cX12_bars 213 = .ok (.bipush (-4), 2) := by decide +kernel
theorem dX12_bars_215 : decode cX12_bars 215 = .ok (.if_icmp .eq 5, 3) := by decide +kernel
theorem dX12_bars_218 : decode cX12_bars 218 = .ok (.iload_n 3, 1) := by decide +kernel
theorem dX12_bars_219 : decode cX12_bars 219 = .ok (.ireturn, 1) := by decide +kernel
theorem dX12_bars_220 : decode cX12_bars 220 = .ok (.iinc 2 1, 3) := by decide +kernel
theorem dX12_bars_223 : decode cX12_bars 223 = .ok (.goto (-189), 3) := by decide +kernel
theorem dX12_bars_226 : decode cX12_bars 226 = .ok (.bipush (-4), 2) := by decide +kernel
theorem dX12_bars_228 : decode cX12_bars 228 = .ok (.ireturn, 1) := by decide +kernel
theorem dX12_keep_0 : decode cX12_keep 0 = .ok (.iload_n 1, 1) := by decide +kernel
theorem dX12_keep_1 : decode cX12_keep 1 = .ok (.invokestatic 134, 3) := by decide +kernel
theorem dX12_keep_4 : decode cX12_keep 4 = .ok (.ifCond .eq 10, 3) := by decide +kernel
theorem dX12_keep_7 : decode cX12_keep 7 = .ok (.iload_n 2, 1) := by decide +kernel
theorem dX12_keep_8 : decode cX12_keep 8 = .ok (.invokestatic 134, 3) := by decide +kernel
theorem dX12_keep_11 : decode cX12_keep 11 = .ok (.ifCond .ne 5, 3) := by decide +kernel
theorem dX12_keep_14 : decode cX12_keep 14 = .ok (.iconst (-1), 1) := by decide +kernel
theorem dX12_keep_15 : decode cX12_keep 15 = .ok (.ireturn, 1) := by decide +kernel
theorem dX12_keep_16 : decode cX12_keep 16 = .ok (.aload_n 0, 1) := by decide +kernel
theorem dX12_keep_17 : decode cX12_keep 17 = .ok (.getfield 28, 3) := by decide +kernel
theorem dX12_keep_20 : decode cX12_keep 20 = .ok (.iload_n 1, 1) := by decide +kernel
theorem dX12_keep_21 : decode cX12_keep 21 = .ok (.iaload, 1) := by decide +kernel
theorem dX12_keep_22 : decode cX12_keep 22 = .ok (.ifCond .eq 12, 3) := by decide +kernel
theorem dX12_keep_25 : decode cX12_keep 25 = .ok (.aload_n 0, 1) := by decide +kernel
theorem dX12_keep_26 : decode cX12_keep 26 = .ok (.getfield 28, 3) := by decide +kernel
theorem dX12_keep_29 : decode cX12_keep 29 = .ok (.iload_n 2, 1) := by decide +kernel
theorem dX12_keep_30 : decode cX12_keep 30 = .ok (.iaload, 1) := by decide +kernel
theorem dX12_keep_31 : decode cX12_keep 31 = .ok (.ifCond .ne 6, 3) := by decide +kernel
theorem dX12_keep_34 : decode cX12_keep 34 = .ok (.bipush (-2), 2) := by decide +kernel
theorem dX12_keep_36 : decode cX12_keep 36 = .ok (.ireturn, 1) := by decide +kernel
theorem dX12_keep_37 : decode cX12_keep 37 = .ok (.aload_n 0, 1) := by decide +kernel
theorem dX12_keep_38 : decode cX12_keep 38 = .ok (.getfield 117, 3) := by decide +kernel
theorem dX12_keep_41 : decode cX12_keep 41 = .ok (.bipush 12, 2) := by decide +kernel
theorem dX12_keep_43 : decode cX12_keep 43 = .ok (.if_icmp .ne 6, 3) := by decide +kernel
theorem dX12_keep_46 : decode cX12_keep 46 = .ok (.bipush (-3), 2) := by decide +kernel
theorem dX12_keep_48 : decode cX12_keep 48 = .ok (.ireturn, 1) := by decide +kernel
theorem dX12_keep_49 : decode cX12_keep 49 = .ok (.aload_n 0, 1) := by decide +kernel
theorem dX12_keep_50 : decode cX12_keep 50 = .ok (.getfield 37, 3) := by decide +kernel
theorem dX12_keep_53 : decode cX12_keep 53 = .ok (.iconst 2, 1) := by decide +kernel
theorem dX12_keep_54 : decode cX12_keep 54 = .ok (.aload_n 0, 1) := by decide +kernel
theorem dX12_keep_55 : decode cX12_keep 55 = .ok (.getfield 117, 3) := by decide +kernel
theorem dX12_keep_58 : decode cX12_keep 58 = .ok (.imul, 1) := by decide +kernel
theorem dX12_keep_59 : decode cX12_keep 59 = .ok (.aload_n 0, 1) := by decide +kernel
theorem dX12_keep_60 : decode cX12_keep 60 = .ok (.getfield 28, 3) := by decide +kernel
theorem dX12_keep_63 : decode cX12_keep 63 = .ok (.iload_n 1, 1) := by decide +kernel
theorem dX12_keep_64 : decode cX12_keep 64 = .ok (.iaload, 1) := by decide +kernel
theorem dX12_keep_65 : decode cX12_keep 65 = .ok (.iastore, 1) := by decide +kernel
theorem dX12_keep_66 : decode cX12_keep 66 = .ok (.aload_n 0, 1) := by decide +kernel
theorem dX12_keep_67 : decode cX12_keep 67 = .ok (.getfield 37, 3) := by decide +kernel
theorem dX12_keep_70 : decode cX12_keep 70 = .ok (.iconst 2, 1) := by decide +kernel
theorem dX12_keep_71 : decode cX12_keep 71 = .ok (.aload_n 0, 1) := by decide +kernel
theorem dX12_keep_72 : decode cX12_keep 72 = .ok (.getfield 117, 3) := by decide +kernel
theorem dX12_keep_75 : decode cX12_keep 75 = .ok (.imul, 1) := by decide +kernel
theorem dX12_keep_76 : decode cX12_keep 76 = .ok (.iconst 1, 1) := by decide +kernel
theorem dX12_keep_77 : decode cX12_keep 77 = .ok (.iadd, 1) := by decide +kernel
theorem dX12_keep_78 : decode cX12_keep 78 = .ok (.aload_n 0, 1) := by decide +kernel
theorem dX12_keep_79 : decode cX12_keep 79 = .ok (.getfield 28, 3) := by decide +kernel
theorem dX12_keep_82 : decode cX12_keep 82 = .ok (.iload_n 2, 1) := by decide +kernel
theorem dX12_keep_83 : decode cX12_keep 83 = .ok (.iaload, 1) := by decide +kernel
theorem dX12_keep_84 : decode cX12_keep 84 = .ok (.iastore, 1) := by decide +kernel
theorem dX12_keep_85 : decode cX12_keep 85 = .ok (.iconst 0, 1) := by decide +kernel
theorem dX12_keep_86 : decode cX12_keep 86 = .ok (.istore_n 3, 1) := by decide +kernel
theorem dX12_keep_87 : decode cX12_keep 87 = .ok (.iload_n 3, 1) := by decide +kernel
theorem dX12_keep_88 : decode cX12_keep 88 = .ok (.bipush 8, 2) := by decide +kernel
theorem dX12_keep_90 : decode cX12_keep 90 = .ok (.if_icmp .ge 62, 3) := by decide +kernel
theorem dX12_keep_93 : decode cX12_keep 93 = .ok (.aload_n 0, 1) := by decide +kernel
theorem dX12_keep_94 : decode cX12_keep 94 = .ok (.getfield 40, 3) := by decide +kernel
theorem dX12_keep_97 : decode cX12_keep 97 = .ok (.bipush 16, 2) := by decide +kernel
theorem dX12_keep_99 : decode cX12_keep 99 = .ok (.aload_n 0, 1) := by decide +kernel
theorem dX12_keep_100 : decode cX12_keep 100 = .ok (.getfield 117, 3) := by decide +kernel
theorem dX12_keep_103 : decode cX12_keep 103 = .ok (.imul, 1) := by decide +kernel
theorem dX12_keep_104 : decode cX12_keep 104 = .ok (.iload_n 3, 1) := by decide +kernel
theorem dX12_keep_105 : decode cX12_keep 105 = .ok (.iadd, 1) := by decide +kernel
theorem dX12_keep_106 : decode cX12_keep 106 = .ok (.aload_n 0, 1) := by decide +kernel
theorem dX12_keep_107 : decode cX12_keep 107 = .ok (.getfield 31, 3) := by decide +kernel
theorem dX12_keep_110 : decode cX12_keep 110 = .ok (.bipush 10, 2) := by decide +kernel
theorem dX12_keep_112 : decode cX12_keep 112 = .ok (.iload_n 1, 1) := by decide +kernel
theorem dX12_keep_113 : decode cX12_keep 113 = .ok (.imul, 1) := by decide +kernel
theorem dX12_keep_114 : decode cX12_keep 114 = .ok (.iload_n 3, 1) := by decide +kernel
theorem dX12_keep_115 : decode cX12_keep 115 = .ok (.iadd, 1) := by decide +kernel
theorem dX12_keep_116 : decode cX12_keep 116 = .ok (.iaload, 1) := by decide +kernel
theorem dX12_keep_117 : decode cX12_keep 117 = .ok (.iastore, 1) := by decide +kernel
theorem dX12_keep_118 : decode cX12_keep 118 = .ok (.aload_n 0, 1) := by decide +kernel
theorem dX12_keep_119 : decode cX12_keep 119 = .ok (.getfield 40, 3) := by decide +kernel
theorem dX12_keep_122 : decode cX12_keep 122 = .ok (.bipush 16, 2) := by decide +kernel
theorem dX12_keep_124 : decode cX12_keep 124 = .ok (.aload_n 0, 1) := by decide +kernel
theorem dX12_keep_125 : decode cX12_keep 125 = .ok (.getfield 117, 3) := by decide +kernel
theorem dX12_keep_128 : decode cX12_keep 128 = .ok (.imul, 1) := by decide +kernel
theorem dX12_keep_129 : decode cX12_keep 129 = .ok (.bipush 8, 2) := by decide +kernel
theorem dX12_keep_131 : decode cX12_keep 131 = .ok (.iadd, 1) := by decide +kernel
theorem dX12_keep_132 : decode cX12_keep 132 = .ok (.iload_n 3, 1) := by decide +kernel
theorem dX12_keep_133 : decode cX12_keep 133 = .ok (.iadd, 1) := by decide +kernel
theorem dX12_keep_134 : decode cX12_keep 134 = .ok (.aload_n 0, 1) := by decide +kernel
theorem dX12_keep_135 : decode cX12_keep 135 = .ok (.getfield 31, 3) := by decide +kernel
theorem dX12_keep_138 : decode cX12_keep 138 = .ok (.bipush 10, 2) := by decide +kernel
theorem dX12_keep_140 : decode cX12_keep 140 = .ok (.iload_n 2, 1) := by decide +kernel
theorem dX12_keep_141 : decode cX12_keep 141 = .ok (.imul, 1) := by decide +kernel
theorem dX12_keep_142 : decode cX12_keep 142 = .ok (.iload_n 3, 1) := by decide +kernel
theorem dX12_keep_143 : decode cX12_keep 143 = .ok (.iadd, 1) := by decide +kernel
theorem dX12_keep_144 : decode cX12_keep 144 = .ok (.iaload, 1) := by decide +kernel
theorem dX12_keep_145 : decode cX12_keep 145 = .ok (.iastore, 1) := by decide +kernel
theorem dX12_keep_146 : decode cX12_keep 146 = .ok (.iinc 3 1, 3) := by decide +kernel
theorem dX12_keep_149 : decode cX12_keep 149 = .ok (.goto (-62), 3) := by decide +kernel
theorem dX12_keep_152 : decode cX12_keep 152 = .ok (.aload_n 0, 1) := by decide +kernel
theorem dX12_keep_153 : decode cX12_keep 153 = .ok (.dup, 1) := by decide +kernel
theorem dX12_keep_154 : decode cX12_keep 154 = .ok (.getfield 117, 3) := by decide +kernel
theorem dX12_keep_157 : decode cX12_keep 157 = .ok (.iconst 1, 1) := by decide +kernel
theorem dX12_keep_158 : decode cX12_keep 158 = .ok (.iadd, 1) := by decide +kernel
theorem dX12_keep_159 : decode cX12_keep 159 = .ok (.putfield 117, 3) := by decide +kernel
theorem dX12_keep_162 : decode cX12_keep 162 = .ok (.aload_n 0, 1) := by decide +kernel
theorem dX12_keep_163 : decode cX12_keep 163 = .ok (.getfield 117, 3) := by decide +kernel
theorem dX12_keep_166 : decode cX12_keep 166 = .ok (.iconst 1, 1) := by decide +kernel
theorem dX12_keep_167 : decode cX12_keep 167 = .ok (.isub, 1) := by decide +kernel
theorem dX12_keep_168 : decode cX12_keep 168 = .ok (.ireturn, 1) := by decide +kernel
theorem dX12_look_0 : decode cX12_look 0 = .ok (.aload_n 0, 1) := by decide +kernel
theorem dX12_look_1 : decode cX12_look 1 = .ok (.getfield 28, 3) := by decide +kernel
theorem dX12_look_4 : decode cX12_look 4 = .ok (.bipush 8, 2) := by decide +kernel
theorem dX12_look_6 : decode cX12_look 6 = .ok (.aload_n 0, 1) := by decide +kernel
theorem dX12_look_7 : decode cX12_look 7 = .ok (.getfield 37, 3) := by decide +kernel
theorem dX12_look_10 : decode cX12_look 10 = .ok (.iconst 2, 1) := by decide +kernel
theorem dX12_look_11 : decode cX12_look 11 = .ok (.iload_n 1, 1) := by decide +kernel
theorem dX12_look_12 : decode cX12_look 12 = .ok (.imul, 1) := by decide +kernel
theorem dX12_look_13 : decode cX12_look 13 = .ok (.iaload, 1) := by decide +kernel
theorem dX12_look_14 : decode cX12_look 14 = .ok (.iastore, 1) := by decide +kernel
theorem dX12_look_15 : decode cX12_look 15 = .ok (.aload_n 0, 1) := by decide +kernel
theorem dX12_look_16 : decode cX12_look 16 = .ok (.getfield 34, 3) := by decide +kernel
theorem dX12_look_19 : decode cX12_look 19 = .ok (.bipush 8, 2) := by decide +kernel
theorem dX12_look_21 : decode cX12_look 21 = .ok (.iconst 0, 1) := by decide +kernel
theorem dX12_look_22 : decode cX12_look 22 = .ok (.iastore, 1) := by decide +kernel
theorem dX12_look_23 : decode cX12_look 23 = .ok (.iconst 0, 1) := by decide +kernel
theorem dX12_look_24 : decode cX12_look 24 = .ok (.istore_n 2, 1) := by decide +kernel
theorem dX12_look_25 : decode cX12_look 25 = .ok (.iload_n 2, 1) := by decide +kernel
theorem dX12_look_26 : decode cX12_look 26 = .ok (.bipush 8, 2) := by decide +kernel
theorem dX12_look_28 : decode cX12_look 28 = .ok (.if_icmp .ge 29, 3) := by decide +kernel
theorem dX12_look_31 : decode cX12_look 31 = .ok (.aload_n 0, 1) := by decide +kernel
theorem dX12_look_32 : decode cX12_look 32 = .ok (.getfield 31, 3) := by decide +kernel
theorem dX12_look_35 : decode cX12_look 35 = .ok (.bipush 80, 2) := by decide +kernel
theorem dX12_look_37 : decode cX12_look 37 = .ok (.iload_n 2, 1) := by decide +kernel
theorem dX12_look_38 : decode cX12_look 38 = .ok (.iadd, 1) := by decide +kernel
theorem dX12_look_39 : decode cX12_look 39 = .ok (.aload_n 0, 1) := by decide +kernel
theorem dX12_look_40 : decode cX12_look 40 = .ok (.getfield 40, 3) := by decide +kernel
theorem dX12_look_43 : decode cX12_look 43 = .ok (.bipush 16, 2) := by decide +kernel
theorem dX12_look_45 : decode cX12_look 45 = .ok (.iload_n 1, 1) := by decide +kernel
theorem dX12_look_46 : decode cX12_look 46 = .ok (.imul, 1) := by decide +kernel
theorem dX12_look_47 : decode cX12_look 47 = .ok (.iload_n 2, 1) := by decide +kernel
theorem dX12_look_48 : decode cX12_look 48 = .ok (.iadd, 1) := by decide +kernel
theorem dX12_look_49 : decode cX12_look 49 = .ok (.iaload, 1) := by decide +kernel
theorem dX12_look_50 : decode cX12_look 50 = .ok (.iastore, 1) := by decide +kernel
theorem dX12_look_51 : decode cX12_look 51 = .ok (.iinc 2 1, 3) := by decide +kernel
theorem dX12_look_54 : decode cX12_look 54 = .ok (.goto (-29), 3) := by decide +kernel
theorem dX12_look_57 : decode cX12_look 57 = .ok (.return_, 1) := by decide +kernel
theorem dX12_isRight_0 : decode cX12_isRight 0 = .ok (.aload_n 0, 1) := by decide +kernel
theorem dX12_isRight_1 : decode cX12_isRight 1 = .ok (.getfield 37, 3) := by decide +kernel
theorem dX12_isRight_4 : decode cX12_isRight 4 = .ok (.iconst 2, 1) := by decide +kernel
theorem dX12_isRight_5 : decode cX12_isRight 5 = .ok (.iload_n 1, 1) := by decide +kernel
theorem dX12_isRight_6 : decode cX12_isRight 6 = .ok (.imul, 1) := by decide +kernel
theorem dX12_isRight_7 : decode cX12_isRight 7 = .ok (.iaload, 1) := by decide +kernel
theorem dX12_isRight_8 : decode cX12_isRight 8 = .ok (.aload_n 0, 1) := by decide +kernel
theorem dX12_isRight_9 : decode cX12_isRight 9 = .ok (.getfield 37, 3) := by decide +kernel
theorem dX12_isRight_12 : decode cX12_isRight 12 = .ok (.iconst 2, 1) := by decide +kernel
theorem dX12_isRight_13 : decode cX12_isRight 13 = .ok (.iload_n 1, 1) := by decide +kernel
theorem dX12_isRight_14 : decode cX12_isRight 14 = .ok (.imul, 1) := by decide +kernel
theorem dX12_isRight_15 : decode cX12_isRight 15 = .ok (.iconst 1, 1) := by decide +kernel
theorem dX12_isRight_16 : decode cX12_isRight 16 = .ok (.iadd, 1) := by decide +kernel
theorem dX12_isRight_17 : decode cX12_isRight 17 = .ok (.iaload, 1) := by decide +kernel
theorem dX12_isRight_18 : decode cX12_isRight 18 = .ok (.if_icmp .ne 7, 3) := by decide +kernel
theorem dX12_isRight_21 : decode cX12_isRight 21 = .ok (.iconst 1, 1) := by decide +kernel
theorem dX12_isRight_22 : decode cX12_isRight 22 = .ok (.goto 4, 3) := by decide +kernel
theorem dX12_isRight_25 : decode cX12_isRight 25 = .ok (.iconst 0, 1) := by decide +kernel
theorem dX12_isRight_26 : decode cX12_isRight 26 = .ok (.istore_n 2, 1) := by decide +kernel
theorem dX12_isRight_27 : decode cX12_isRight 27 = .ok (.iconst 0, 1) := by decide +kernel
theorem dX12_isRight_28 : decode cX12_isRight 28 = .ok (.istore_n 3, 1) := by decide +kernel
theorem dX12_isRight_29 : decode cX12_isRight 29 = .ok (.iload_n 3, 1) := by decide +kernel
theorem dX12_isRight_30 : decode cX12_isRight 30 = .ok (.aload_n 0, 1) := by decide +kernel
theorem dX12_isRight_31 : decode cX12_isRight 31 = .ok (.getfield 37, 3) := by decide +kernel
theorem dX12_isRight_34 : decode cX12_isRight 34 = .ok (.iconst 2, 1) := by decide +kernel
theorem dX12_isRight_35 : decode cX12_isRight 35 = .ok (.iload_n 1, 1) := by decide +kernel
theorem dX12_isRight_36 : decode cX12_isRight 36 = .ok (.imul, 1) := by decide +kernel
theorem dX12_isRight_37 : decode cX12_isRight 37 = .ok (.iaload, 1) := by decide +kernel
theorem dX12_isRight_38 : decode cX12_isRight 38 = .ok (.if_icmp .ge 47, 3) := by decide +kernel
theorem dX12_isRight_41 : decode cX12_isRight 41 = .ok (.iload_n 2, 1) := by decide +kernel
theorem dX12_isRight_42 : decode cX12_isRight 42 = .ok (.ifCond .eq 43, 3) := by decide +kernel
theorem dX12_isRight_45 : decode cX12_isRight 45 = .ok (.aload_n 0, 1) := by decide +kernel
theorem dX12_isRight_46 : decode cX12_isRight 46 = .ok (.getfield 40, 3) := by decide +kernel
theorem dX12_isRight_49 : decode cX12_isRight 49 = .ok (.bipush 16, 2) := by decide +kernel
theorem dX12_isRight_51 : decode cX12_isRight 51 = .ok (.iload_n 1, 1) := by decide +kernel
theorem dX12_isRight_52 : decode cX12_isRight 52 = .ok (.imul, 1) := by decide +kernel
theorem dX12_isRight_53 : decode cX12_isRight 53 = .ok (.iload_n 3, 1) := by decide +kernel
theorem dX12_isRight_54 : decode cX12_isRight 54 = .ok (.iadd, 1) := by decide +kernel
theorem dX12_isRight_55 : decode cX12_isRight 55 = .ok (.iaload, 1) := by decide +kernel
theorem dX12_isRight_56 : decode cX12_isRight 56 = .ok (.aload_n 0, 1) := by decide +kernel
theorem dX12_isRight_57 : decode cX12_isRight 57 = .ok (.getfield 40, 3) := by decide +kernel
theorem dX12_isRight_60 : decode cX12_isRight 60 = .ok (.bipush 16, 2) := by decide +kernel
theorem dX12_isRight_62 : decode cX12_isRight 62 = .ok (.iload_n 1, 1) := by decide +kernel
theorem dX12_isRight_63 : decode cX12_isRight 63 = .ok (.imul, 1) := by decide +kernel
theorem dX12_isRight_64 : decode cX12_isRight 64 = .ok (.bipush 8, 2) := by decide +kernel
theorem dX12_isRight_66 : decode cX12_isRight 66 = .ok (.iadd, 1) := by decide +kernel
theorem dX12_isRight_67 : decode cX12_isRight 67 = .ok (.iload_n 3, 1) := by decide +kernel
theorem dX12_isRight_68 : decode cX12_isRight 68 = .ok (.iadd, 1) := by decide +kernel
theorem dX12_isRight_69 : decode cX12_isRight 69 = .ok (.iaload, 1) := by decide +kernel
theorem dX12_isRight_70 : decode cX12_isRight 70 = .ok (.if_icmp .ne 7, 3) := by decide +kernel
theorem dX12_isRight_73 : decode cX12_isRight 73 = .ok (.iconst 1, 1) := by decide +kernel
theorem dX12_isRight_74 : decode cX12_isRight 74 = .ok (.goto 4, 3) := by decide +kernel
theorem dX12_isRight_77 : decode cX12_isRight 77 = .ok (.iconst 0, 1) := by decide +kernel
theorem dX12_isRight_78 : decode cX12_isRight 78 = .ok (.istore_n 2, 1) := by decide +kernel
theorem dX12_isRight_79 : decode cX12_isRight 79 = .ok (.iinc 3 1, 3) := by decide +kernel
theorem dX12_isRight_82 : decode cX12_isRight 82 = .ok (.goto (-53), 3) := by decide +kernel
theorem dX12_isRight_85 : decode cX12_isRight 85 = .ok (.iload_n 2, 1) := by decide +kernel
theorem dX12_isRight_86 : decode cX12_isRight 86 = .ok (.ireturn, 1) := by decide +kernel
theorem dX12_placeOf_0 : decode cX12_placeOf 0 = .ok (.iconst 0, 1) := by decide +kernel
theorem dX12_placeOf_1 : decode cX12_placeOf 1 = .ok (.istore_n 2, 1) := by decide +kernel
theorem dX12_placeOf_2 : decode cX12_placeOf 2 = .ok (.iload_n 2, 1) := by decide +kernel
theorem dX12_placeOf_3 : decode cX12_placeOf 3 = .ok (.aload_n 0, 1) := by decide +kernel
theorem dX12_placeOf_4 : decode cX12_placeOf 4 = .ok (.getfield 188, 3) := by decide +kernel
theorem dX12_placeOf_7 : decode cX12_placeOf 7 = .ok (.if_icmp .ge 100, 3) := by decide +kernel
theorem dX12_placeOf_10 : decode cX12_placeOf 10 = .ok (.aload_n 0, 1) := by decide +kernel
theorem dX12_placeOf_11 : decode cX12_placeOf 11 = .ok (.getfield 65, 3) := by decide +kernel
theorem dX12_placeOf_14 : decode cX12_placeOf 14 = .ok (.iload_n 2, 1) := by decide +kernel
theorem dX12_placeOf_15 : decode cX12_placeOf 15 = .ok (.iaload, 1) := by decide +kernel
theorem dX12_placeOf_16 : decode cX12_placeOf 16 = .ok (.aload_n 0, 1) := by decide +kernel
theorem dX12_placeOf_17 : decode cX12_placeOf 17 = .ok (.getfield 37, 3) := by decide +kernel
theorem dX12_placeOf_20 : decode cX12_placeOf 20 = .ok (.iconst 2, 1) := by decide +kernel
theorem dX12_placeOf_21 : decode cX12_placeOf 21 = .ok (.iload_n 1, 1) := by decide +kernel
theorem dX12_placeOf_22 : decode cX12_placeOf 22 = .ok (.imul, 1) := by decide +kernel
theorem dX12_placeOf_23 : decode cX12_placeOf 23 = .ok (.iconst 1, 1) := by decide +kernel
theorem dX12_placeOf_24 : decode cX12_placeOf 24 = .ok (.iadd, 1) := by decide +kernel
theorem dX12_placeOf_25 : decode cX12_placeOf 25 = .ok (.iaload, 1) := by decide +kernel
theorem dX12_placeOf_26 : decode cX12_placeOf 26 = .ok (.if_icmp .ne 7, 3) := by decide +kernel
theorem dX12_placeOf_29 : decode cX12_placeOf 29 = .ok (.iconst 1, 1) := by decide +kernel
theorem dX12_placeOf_30 : decode cX12_placeOf 30 = .ok (.goto 4, 3) := by decide +kernel
theorem dX12_placeOf_33 : decode cX12_placeOf 33 = .ok (.iconst 0, 1) := by decide +kernel
theorem dX12_placeOf_34 : decode cX12_placeOf 34 = .ok (.istore_n 3, 1) := by decide +kernel
theorem dX12_placeOf_35 : decode cX12_placeOf 35 = .ok (.iconst 0, 1) := by decide +kernel
theorem dX12_placeOf_36 : decode cX12_placeOf 36 = .ok (.istore 4, 2) := by decide +kernel
theorem dX12_placeOf_38 : decode cX12_placeOf 38 = .ok (.iload 4, 2) := by decide +kernel
theorem dX12_placeOf_40 : decode cX12_placeOf 40 = .ok (.aload_n 0, 1) := by decide +kernel
theorem dX12_placeOf_41 : decode cX12_placeOf 41 = .ok (.getfield 65, 3) := by decide +kernel
theorem dX12_placeOf_44 : decode cX12_placeOf 44 = .ok (.iload_n 2, 1) := by decide +kernel
theorem dX12_placeOf_45 : decode cX12_placeOf 45 = .ok (.iaload, 1) := by decide +kernel
theorem dX12_placeOf_46 : decode cX12_placeOf 46 = .ok (.if_icmp .ge 49, 3) := by decide +kernel
theorem dX12_placeOf_49 : decode cX12_placeOf 49 = .ok (.iload_n 3, 1) := by decide +kernel
theorem dX12_placeOf_50 : decode cX12_placeOf 50 = .ok (.ifCond .eq 45, 3) := by decide +kernel
theorem dX12_placeOf_53 : decode cX12_placeOf 53 = .ok (.aload_n 0, 1) := by decide +kernel
theorem dX12_placeOf_54 : decode cX12_placeOf 54 = .ok (.getfield 68, 3) := by decide +kernel
theorem dX12_placeOf_57 : decode cX12_placeOf 57 = .ok (.bipush 8, 2) := by decide +kernel
theorem dX12_placeOf_59 : decode cX12_placeOf 59 = .ok (.iload_n 2, 1) := by decide +kernel
theorem dX12_placeOf_60 : decode cX12_placeOf 60 = .ok (.imul, 1) := by decide +kernel
theorem dX12_placeOf_61 : decode cX12_placeOf 61 = .ok (.iload 4, 2) := by decide +kernel
theorem dX12_placeOf_63 : decode cX12_placeOf 63 = .ok (.iadd, 1) := by decide +kernel
theorem dX12_placeOf_64 : decode cX12_placeOf 64 = .ok (.iaload, 1) := by decide +kernel
theorem dX12_placeOf_65 : decode cX12_placeOf 65 = .ok (.aload_n 0, 1) := by decide +kernel
theorem dX12_placeOf_66 : decode cX12_placeOf 66 = .ok (.getfield 40, 3) := by decide +kernel
theorem dX12_placeOf_69 : decode cX12_placeOf 69 = .ok (.bipush 16, 2) := by decide +kernel
theorem dX12_placeOf_71 : decode cX12_placeOf 71 = .ok (.iload_n 1, 1) := by decide +kernel
theorem dX12_placeOf_72 : decode cX12_placeOf 72 = .ok (.imul, 1) := by decide +kernel
theorem dX12_placeOf_73 : decode cX12_placeOf 73 = .ok (.bipush 8, 2) := by decide +kernel
theorem dX12_placeOf_75 : decode cX12_placeOf 75 = .ok (.iadd, 1) := by decide +kernel
theorem dX12_placeOf_76 : decode cX12_placeOf 76 = .ok (.iload 4, 2) := by decide +kernel
theorem dX12_placeOf_78 : decode cX12_placeOf 78 = .ok (.iadd, 1) := by decide +kernel
theorem dX12_placeOf_79 : decode cX12_placeOf 79 = .ok (.iaload, 1) := by decide +kernel
theorem dX12_placeOf_80 : decode cX12_placeOf 80 = .ok (.if_icmp .ne 7, 3) := by decide +kernel
theorem dX12_placeOf_83 : decode cX12_placeOf 83 = .ok (.iconst 1, 1) := by decide +kernel
theorem dX12_placeOf_84 : decode cX12_placeOf 84 = .ok (.goto 4, 3) := by decide +kernel
theorem dX12_placeOf_87 : decode cX12_placeOf 87 = .ok (.iconst 0, 1) := by decide +kernel
theorem dX12_placeOf_88 : decode cX12_placeOf 88 = .ok (.istore_n 3, 1) := by decide +kernel
theorem dX12_placeOf_89 : decode cX12_placeOf 89 = .ok (.iinc 4 1, 3) := by decide +kernel
theorem dX12_placeOf_92 : decode cX12_placeOf 92 = .ok (.goto (-54), 3) := by decide +kernel
theorem dX12_placeOf_95 : decode cX12_placeOf 95 = .ok (.iload_n 3, 1) := by decide +kernel
theorem dX12_placeOf_96 : decode cX12_placeOf 96 = .ok (.ifCond .eq 5, 3) := by decide +kernel
theorem dX12_placeOf_99 : decode cX12_placeOf 99 = .ok (.iload_n 2, 1) := by decide +kernel
theorem dX12_placeOf_100 : decode cX12_placeOf 100 = .ok (.ireturn, 1) := by decide +kernel
theorem dX12_placeOf_101 : decode cX12_placeOf 101 = .ok (.iinc 2 1, 3) := by decide +kernel
theorem dX12_placeOf_104 : decode cX12_placeOf 104 = .ok (.goto (-102), 3) := by decide +kernel
theorem dX12_placeOf_107 : decode cX12_placeOf 107 = .ok (.bipush (-4), 2) := by decide +kernel
theorem dX12_placeOf_109 : decode cX12_placeOf 109 = .ok (.ireturn, 1) := by decide +kernel
theorem dX12_kept_0 : decode cX12_kept 0 = .ok (.iload_n 1, 1) := by decide +kernel
theorem dX12_kept_1 : decode cX12_kept 1 = .ok (.i2l, 1) := by decide +kernel
theorem dX12_kept_2 : decode cX12_kept 2 = .ok (.lconst 0, 1) := by decide +kernel
theorem dX12_kept_3 : decode cX12_kept 3 = .ok (.ldc2_w 97, 3) := by decide +kernel
theorem dX12_kept_6 : decode cX12_kept 6 = .ok (.invokestatic 80, 3) := by decide +kernel
theorem dX12_kept_9 : decode cX12_kept 9 = .ok (.ifCond .ne 5, 3) := by decide +kernel
theorem dX12_kept_12 : decode cX12_kept 12 = .ok (.iconst (-1), 1) := by decide +kernel
theorem dX12_kept_13 : decode cX12_kept 13 = .ok (.ireturn, 1) := by decide +kernel
theorem dX12_kept_14 : decode cX12_kept 14 = .ok (.iconst 0, 1) := by decide +kernel
theorem dX12_kept_15 : decode cX12_kept 15 = .ok (.istore_n 2, 1) := by decide +kernel
theorem dX12_kept_16 : decode cX12_kept 16 = .ok (.iconst 0, 1) := by decide +kernel
theorem dX12_kept_17 : decode cX12_kept 17 = .ok (.istore_n 3, 1) := by decide +kernel
theorem dX12_kept_18 : decode cX12_kept 18 = .ok (.iload_n 3, 1) := by decide +kernel
theorem dX12_kept_19 : decode cX12_kept 19 = .ok (.aload_n 0, 1) := by decide +kernel
theorem dX12_kept_20 : decode cX12_kept 20 = .ok (.getfield 117, 3) := by decide +kernel
theorem dX12_kept_23 : decode cX12_kept 23 = .ok (.if_icmp .ge 85, 3) := by decide +kernel
theorem dX12_kept_26 : decode cX12_kept 26 = .ok (.aload_n 0, 1) := by decide +kernel
theorem dX12_kept_27 : decode cX12_kept 27 = .ok (.iload_n 3, 1) := by decide +kernel
theorem dX12_kept_28 : decode cX12_kept 28 = .ok (.invokevirtual 224, 3) := by decide +kernel
theorem dX12_kept_31 : decode cX12_kept 31 = .ok (.aload_n 0, 1) := by decide +kernel
theorem dX12_kept_32 : decode cX12_kept 32 = .ok (.bipush 8, 2) := by decide +kernel
theorem dX12_kept_34 : decode cX12_kept 34 = .ok (.iconst 0, 1) := by decide +kernel
theorem dX12_kept_35 : decode cX12_kept 35 = .ok (.invokevirtual 185, 3) := by decide +kernel
theorem dX12_kept_38 : decode cX12_kept 38 = .ok (.ifCond .ne 64, 3) := by decide +kernel
theorem dX12_kept_41 : decode cX12_kept 41 = .ok (.aload_n 0, 1) := by decide +kernel
theorem dX12_kept_42 : decode cX12_kept 42 = .ok (.iload_n 3, 1) := by decide +kernel
theorem dX12_kept_43 : decode cX12_kept 43 = .ok (.invokevirtual 227, 3) := by decide +kernel
theorem dX12_kept_46 : decode cX12_kept 46 = .ok (.ifCond .eq 19, 3) := by decide +kernel
theorem dX12_kept_49 : decode cX12_kept 49 = .ok (.iload_n 2, 1) := by decide +kernel
theorem dX12_kept_50 : decode cX12_kept 50 = .ok (.iload_n 1, 1) := by decide +kernel
theorem dX12_kept_51 : decode cX12_kept 51 = .ok (.iconst 2, 1) := by decide +kernel
theorem dX12_kept_52 : decode cX12_kept 52 = .ok (.if_icmp .ne 7, 3) := by decide +kernel
theorem dX12_kept_55 : decode cX12_kept 55 = .ok (.iconst 1, 1) := by decide +kernel
theorem dX12_kept_56 : decode cX12_kept 56 = .ok (.goto 4, 3) := by decide +kernel
theorem dX12_kept_59 : decode cX12_kept 59 = .ok (.iconst 0, 1) := by decide +kernel
theorem dX12_kept_60 : decode cX12_kept 60 = .ok (.iadd, 1) := by decide +kernel
theorem dX12_kept_61 : decode cX12_kept 61 = .ok (.istore_n 2, 1) := by decide +kernel
theorem dX12_kept_62 : decode cX12_kept 62 = .ok (.goto 40, 3) := by decide +kernel
theorem dX12_kept_65 : decode cX12_kept 65 = .ok (.iload_n 1, 1) := by decide +kernel
theorem dX12_kept_66 : decode cX12_kept 66 = .ok (.iconst 1, 1) := by decide +kernel
theorem dX12_kept_67 : decode cX12_kept 67 = .ok (.if_icmp .ne 9, 3) := by decide +kernel
theorem dX12_kept_70 : decode cX12_kept 70 = .ok (.iinc 2 1, 3) := by decide +kernel
theorem dX12_kept_73 : decode cX12_kept 73 = .ok (.goto 29, 3) := by decide +kernel
theorem dX12_kept_76 : decode cX12_kept 76 = .ok (.iload_n 1, 1) := by decide +kernel
theorem dX12_kept_77 : decode cX12_kept 77 = .ok (.ifCond .ne 25, 3) := by decide +kernel
theorem dX12_kept_80 : decode cX12_kept 80 = .ok (.aload_n 0, 1) := by decide +kernel
theorem dX12_kept_81 : decode cX12_kept 81 = .ok (.bipush 8, 2) := by decide +kernel
theorem dX12_kept_83 : decode cX12_kept 83 = .ok (.invokevirtual 201, 3) := by decide +kernel
theorem dX12_kept_86 : decode cX12_kept 86 = .ok (.iload_n 2, 1) := by decide +kernel
theorem dX12_kept_87 : decode cX12_kept 87 = .ok (.aload_n 0, 1) := by decide +kernel
theorem dX12_kept_88 : decode cX12_kept 88 = .ok (.iload_n 3, 1) := by decide +kernel
theorem dX12_kept_89 : decode cX12_kept 89 = .ok (.invokevirtual 230, 3) := by decide +kernel
theorem dX12_kept_92 : decode cX12_kept 92 = .ok (.ifCond .ne 7, 3) := by decide +kernel
theorem dX12_kept_95 : decode cX12_kept 95 = .ok (.iconst 1, 1) := by decide +kernel
theorem dX12_kept_96 : decode cX12_kept 96 = .ok (.goto 4, 3) := by decide +kernel
theorem dX12_kept_99 : decode cX12_kept 99 = .ok (.iconst 0, 1) := by decide +kernel
theorem dX12_kept_100 : decode cX12_kept 100 = .ok (.iadd, 1) := by decide +kernel
theorem dX12_kept_101 : decode cX12_kept 101 = .ok (.istore_n 2, 1) := by decide +kernel
theorem dX12_kept_102 : decode cX12_kept 102 = .ok (.iinc 3 1, 3) := by decide +kernel
theorem dX12_kept_105 : decode cX12_kept 105 = .ok (.goto (-87), 3) := by decide +kernel
theorem dX12_kept_108 : decode cX12_kept 108 = .ok (.iload_n 2, 1) := by decide +kernel
theorem dX12_kept_109 : decode cX12_kept 109 = .ok (.ireturn, 1) := by decide +kernel
theorem dX12_byRule_0 : decode cX12_byRule 0 = .ok (.iload_n 1, 1) := by decide +kernel
theorem dX12_byRule_1 : decode cX12_byRule 1 = .ok (.i2l, 1) := by decide +kernel
theorem dX12_byRule_2 : decode cX12_byRule 2 = .ok (.lconst 0, 1) := by decide +kernel
theorem dX12_byRule_3 : decode cX12_byRule 3 = .ok (.aload_n 0, 1) := by decide +kernel
theorem dX12_byRule_4 : decode cX12_byRule 4 = .ok (.getfield 19, 3) := by decide +kernel
theorem dX12_byRule_7 : decode cX12_byRule 7 = .ok (.iconst 0, 1) := by decide +kernel
theorem dX12_byRule_8 : decode cX12_byRule 8 = .ok (.iaload, 1) := by decide +kernel
theorem dX12_byRule_9 : decode cX12_byRule 9 = .ok (.iconst 1, 1) := by decide +kernel
theorem dX12_byRule_10 : decode cX12_byRule 10 = .ok (.isub, 1) := by decide +kernel
theorem dX12_byRule_11 : decode cX12_byRule 11 = .ok (.i2l, 1) := by decide +kernel
theorem dX12_byRule_12 : decode cX12_byRule 12 = .ok (.invokestatic 80, 3) := by decide +kernel
theorem dX12_byRule_15 : decode cX12_byRule 15 = .ok (.ifCond .ne 5, 3) := by decide +kernel
theorem dX12_byRule_18 : decode cX12_byRule 18 = .ok (.iconst (-1), 1) := by decide +kernel
theorem dX12_byRule_19 : decode cX12_byRule 19 = .ok (.ireturn, 1) := by decide +kernel
theorem dX12_byRule_20 : decode cX12_byRule 20 = .ok (.iconst 0, 1) := by decide +kernel
theorem dX12_byRule_21 : decode cX12_byRule 21 = .ok (.istore_n 2, 1) := by decide +kernel
theorem dX12_byRule_22 : decode cX12_byRule 22 = .ok (.iconst 0, 1) := by decide +kernel
theorem dX12_byRule_23 : decode cX12_byRule 23 = .ok (.istore_n 3, 1) := by decide +kernel
theorem dX12_byRule_24 : decode cX12_byRule 24 = .ok (.iload_n 3, 1) := by decide +kernel
theorem dX12_byRule_25 : decode cX12_byRule 25 = .ok (.aload_n 0, 1) := by decide +kernel
theorem dX12_byRule_26 : decode cX12_byRule 26 = .ok (.getfield 117, 3) := by decide +kernel
theorem dX12_byRule_29 : decode cX12_byRule 29 = .ok (.if_icmp .ge 52, 3) := by decide +kernel
theorem dX12_byRule_32 : decode cX12_byRule 32 = .ok (.aload_n 0, 1) := by decide +kernel
theorem dX12_byRule_33 : decode cX12_byRule 33 = .ok (.iload_n 3, 1) := by decide +kernel
theorem dX12_byRule_34 : decode cX12_byRule 34 = .ok (.invokevirtual 224, 3) := by decide +kernel
theorem dX12_byRule_37 : decode cX12_byRule 37 = .ok (.iload_n 2, 1) := by decide +kernel
theorem dX12_byRule_38 : decode cX12_byRule 38 = .ok (.aload_n 0, 1) := by decide +kernel
theorem dX12_byRule_39 : decode cX12_byRule 39 = .ok (.iload_n 3, 1) := by decide +kernel
theorem dX12_byRule_40 : decode cX12_byRule 40 = .ok (.invokevirtual 227, 3) := by decide +kernel
theorem dX12_byRule_43 : decode cX12_byRule 43 = .ok (.ifCond .eq 29, 3) := by decide +kernel
theorem dX12_byRule_46 : decode cX12_byRule 46 = .ok (.aload_n 0, 1) := by decide +kernel
theorem dX12_byRule_47 : decode cX12_byRule 47 = .ok (.bipush 8, 2) := by decide +kernel
theorem dX12_byRule_49 : decode cX12_byRule 49 = .ok (.iconst 0, 1) := by decide +kernel
theorem dX12_byRule_50 : decode cX12_byRule 50 = .ok (.invokevirtual 185, 3) := by decide +kernel
theorem dX12_byRule_53 : decode cX12_byRule 53 = .ok (.ifCond .ne 19, 3) := by decide +kernel
theorem dX12_byRule_56 : decode cX12_byRule 56 = .ok (.aload_n 0, 1) := by decide +kernel
theorem dX12_byRule_57 : decode cX12_byRule 57 = .ok (.bipush 8, 2) := by decide +kernel
theorem dX12_byRule_59 : decode cX12_byRule 59 = .ok (.iconst 1, 1) := by decide +kernel
theorem dX12_byRule_60 : decode cX12_byRule 60 = .ok (.iload_n 1, 1) := by decide +kernel
theorem dX12_byRule_61 : decode cX12_byRule 61 = .ok (.ishl, 1) := by decide +kernel
theorem dX12_byRule_62 : decode cX12_byRule 62 = .ok (.invokevirtual 185, 3) := by decide +kernel
theorem dX12_byRule_65 : decode cX12_byRule 65 = .ok (.ifCond .eq 7, 3) := by decide +kernel
theorem dX12_byRule_68 : decode cX12_byRule 68 = .ok (.iconst 1, 1) := by decide +kernel
theorem dX12_byRule_69 : decode cX12_byRule 69 = .ok (.goto 4, 3) := by decide +kernel
theorem dX12_byRule_72 : decode cX12_byRule 72 = .ok (.iconst 0, 1) := by decide +kernel
theorem dX12_byRule_73 : decode cX12_byRule 73 = .ok (.iadd, 1) := by decide +kernel
theorem dX12_byRule_74 : decode cX12_byRule 74 = .ok (.istore_n 2, 1) := by decide +kernel
theorem dX12_byRule_75 : decode cX12_byRule 75 = .ok (.iinc 3 1, 3) := by decide +kernel
theorem dX12_byRule_78 : decode cX12_byRule 78 = .ok (.goto (-54), 3) := by decide +kernel
theorem dX12_byRule_81 : decode cX12_byRule 81 = .ok (.iload_n 2, 1) := by decide +kernel
theorem dX12_byRule_82 : decode cX12_byRule 82 = .ok (.ireturn, 1) := by decide +kernel
theorem dX12_theirs_0 : decode cX12_theirs 0 = .ok (.iload_n 1, 1) := by decide +kernel
theorem dX12_theirs_1 : decode cX12_theirs 1 = .ok (.i2l, 1) := by decide +kernel
theorem dX12_theirs_2 : decode cX12_theirs 2 = .ok (.lconst 0, 1) := by decide +kernel
theorem dX12_theirs_3 : decode cX12_theirs 3 = .ok (.aload_n 0, 1) := by decide +kernel
theorem dX12_theirs_4 : decode cX12_theirs 4 = .ok (.getfield 117, 3) := by decide +kernel
theorem dX12_theirs_7 : decode cX12_theirs 7 = .ok (.iconst 1, 1) := by decide +kernel
theorem dX12_theirs_8 : decode cX12_theirs 8 = .ok (.isub, 1) := by decide +kernel
theorem dX12_theirs_9 : decode cX12_theirs 9 = .ok (.i2l, 1) := by decide +kernel
theorem dX12_theirs_10 : decode cX12_theirs 10 = .ok (.invokestatic 80, 3) := by decide +kernel
theorem dX12_theirs_13 : decode cX12_theirs 13 = .ok (.ifCond .ne 5, 3) := by decide +kernel
theorem dX12_theirs_16 : decode cX12_theirs 16 = .ok (.iconst (-1), 1) := by decide +kernel
theorem dX12_theirs_17 : decode cX12_theirs 17 = .ok (.ireturn, 1) := by decide +kernel
theorem dX12_theirs_18 : decode cX12_theirs 18 = .ok (.aload_n 0, 1) := by decide +kernel
theorem dX12_theirs_19 : decode cX12_theirs 19 = .ok (.iload_n 1, 1) := by decide +kernel
theorem dX12_theirs_20 : decode cX12_theirs 20 = .ok (.invokevirtual 224, 3) := by decide +kernel
theorem dX12_theirs_23 : decode cX12_theirs 23 = .ok (.aload_n 0, 1) := by decide +kernel
theorem dX12_theirs_24 : decode cX12_theirs 24 = .ok (.iload_n 1, 1) := by decide +kernel
theorem dX12_theirs_25 : decode cX12_theirs 25 = .ok (.invokevirtual 227, 3) := by decide +kernel
theorem dX12_theirs_28 : decode cX12_theirs 28 = .ok (.ifCond .ne 13, 3) := by decide +kernel
theorem dX12_theirs_31 : decode cX12_theirs 31 = .ok (.aload_n 0, 1) := by decide +kernel
theorem dX12_theirs_32 : decode cX12_theirs 32 = .ok (.bipush 8, 2) := by decide +kernel
theorem dX12_theirs_34 : decode cX12_theirs 34 = .ok (.iconst 0, 1) := by decide +kernel
theorem dX12_theirs_35 : decode cX12_theirs 35 = .ok (.invokevirtual 185, 3) := by decide +kernel
theorem dX12_theirs_38 : decode cX12_theirs 38 = .ok (.ifCond .eq 6, 3) := by decide +kernel
theorem dX12_theirs_41 : decode cX12_theirs 41 = .ok (.bipush (-2), 2) := by decide +kernel
theorem dX12_theirs_43 : decode cX12_theirs 43 = .ok (.ireturn, 1) := by decide +kernel
theorem dX12_theirs_44 : decode cX12_theirs 44 = .ok (.aload_n 0, 1) := by decide +kernel
theorem dX12_theirs_45 : decode cX12_theirs 45 = .ok (.bipush 8, 2) := by decide +kernel
theorem dX12_theirs_47 : decode cX12_theirs 47 = .ok (.invokevirtual 201, 3) := by decide +kernel
theorem dX12_theirs_50 : decode cX12_theirs 50 = .ok (.aload_n 0, 1) := by decide +kernel
theorem dX12_theirs_51 : decode cX12_theirs 51 = .ok (.iload_n 1, 1) := by decide +kernel
theorem dX12_theirs_52 : decode cX12_theirs 52 = .ok (.invokevirtual 230, 3) := by decide +kernel
theorem dX12_theirs_55 : decode cX12_theirs 55 = .ok (.ireturn, 1) := by decide +kernel
theorem dX12_err_0 : decode cX12_err 0 = .ok (.iload_n 1, 1) := by decide +kernel
theorem dX12_err_1 : decode cX12_err 1 = .ok (.invokestatic 125, 3) := by decide +kernel
theorem dX12_err_4 : decode cX12_err 4 = .ok (.ifCond .ne 5, 3) := by decide +kernel
theorem dX12_err_7 : decode cX12_err 7 = .ok (.iconst (-1), 1) := by decide +kernel
theorem dX12_err_8 : decode cX12_err 8 = .ok (.ireturn, 1) := by decide +kernel
theorem dX12_err_9 : decode cX12_err 9 = .ok (.aload_n 0, 1) := by decide +kernel
theorem dX12_err_10 : decode cX12_err 10 = .ok (.getfield 120, 3) := by decide +kernel
theorem dX12_err_13 : decode cX12_err 13 = .ok (.bipush 60, 2) := by decide +kernel
theorem dX12_err_15 : decode cX12_err 15 = .ok (.if_icmp .ne 6, 3) := by decide +kernel
theorem dX12_err_18 : decode cX12_err 18 = .ok (.bipush (-3), 2) := by decide +kernel
theorem dX12_err_20 : decode cX12_err 20 = .ok (.ireturn, 1) := by decide +kernel
theorem dX12_err_21 : decode cX12_err 21 = .ok (.aload_n 0, 1) := by decide +kernel
theorem dX12_err_22 : decode cX12_err 22 = .ok (.getfield 43, 3) := by decide +kernel
theorem dX12_err_25 : decode cX12_err 25 = .ok (.aload_n 0, 1) := by decide +kernel
theorem dX12_err_26 : decode cX12_err 26 = .ok (.getfield 120, 3) := by decide +kernel
theorem dX12_err_29 : decode cX12_err 29 = .ok (.iload_n 1, 1) := by decide +kernel
theorem dX12_err_30 : decode cX12_err 30 = .ok (.iastore, 1) := by decide +kernel
theorem dX12_err_31 : decode cX12_err 31 = .ok (.aload_n 0, 1) := by decide +kernel
theorem dX12_err_32 : decode cX12_err 32 = .ok (.dup, 1) := by decide +kernel
theorem dX12_err_33 : decode cX12_err 33 = .ok (.getfield 120, 3) := by decide +kernel
theorem dX12_err_36 : decode cX12_err 36 = .ok (.iconst 1, 1) := by decide +kernel
theorem dX12_err_37 : decode cX12_err 37 = .ok (.iadd, 1) := by decide +kernel
theorem dX12_err_38 : decode cX12_err 38 = .ok (.putfield 120, 3) := by decide +kernel
theorem dX12_err_41 : decode cX12_err 41 = .ok (.aload_n 0, 1) := by decide +kernel
theorem dX12_err_42 : decode cX12_err 42 = .ok (.getfield 120, 3) := by decide +kernel
theorem dX12_err_45 : decode cX12_err 45 = .ok (.ireturn, 1) := by decide +kernel
theorem dX12_gone_0 : decode cX12_gone 0 = .ok (.iload_n 1, 1) := by decide +kernel
theorem dX12_gone_1 : decode cX12_gone 1 = .ok (.invokestatic 125, 3) := by decide +kernel
theorem dX12_gone_4 : decode cX12_gone 4 = .ok (.ifCond .eq 15, 3) := by decide +kernel
theorem dX12_gone_7 : decode cX12_gone 7 = .ok (.iload_n 2, 1) := by decide +kernel
theorem dX12_gone_8 : decode cX12_gone 8 = .ok (.i2l, 1) := by decide +kernel
theorem dX12_gone_9 : decode cX12_gone 9 = .ok (.lconst 1, 1) := by decide +kernel
theorem dX12_gone_10 : decode cX12_gone 10 = .ok (.ldc2_w 233, 3) := by decide +kernel
theorem dX12_gone_13 : decode cX12_gone 13 = .ok (.invokestatic 80, 3) := by decide +kernel
theorem dX12_gone_16 : decode cX12_gone 16 = .ok (.ifCond .ne 5, 3) := by decide +kernel
theorem dX12_gone_19 : decode cX12_gone 19 = .ok (.iconst (-1), 1) := by decide +kernel
theorem dX12_gone_20 : decode cX12_gone 20 = .ok (.ireturn, 1) := by decide +kernel
theorem dX12_gone_21 : decode cX12_gone 21 = .ok (.iconst 0, 1) := by decide +kernel
theorem dX12_gone_22 : decode cX12_gone 22 = .ok (.istore_n 3, 1) := by decide +kernel
theorem dX12_gone_23 : decode cX12_gone 23 = .ok (.iconst 0, 1) := by decide +kernel
theorem dX12_gone_24 : decode cX12_gone 24 = .ok (.istore 4, 2) := by decide +kernel
theorem dX12_gone_26 : decode cX12_gone 26 = .ok (.iconst 0, 1) := by decide +kernel
theorem dX12_gone_27 : decode cX12_gone 27 = .ok (.istore 5, 2) := by decide +kernel
theorem dX12_gone_29 : decode cX12_gone 29 = .ok (.iload 5, 2) := by decide +kernel
theorem dX12_gone_31 : decode cX12_gone 31 = .ok (.aload_n 0, 1) := by decide +kernel
theorem dX12_gone_32 : decode cX12_gone 32 = .ok (.getfield 120, 3) := by decide +kernel
theorem dX12_gone_35 : decode cX12_gone 35 = .ok (.if_icmp .ge 64, 3) := by decide +kernel
theorem dX12_gone_38 : decode cX12_gone 38 = .ok (.iload_n 3, 1) := by decide +kernel
theorem dX12_gone_39 : decode cX12_gone 39 = .ok (.ifCond .ne 14, 3) := by decide +kernel
theorem dX12_gone_42 : decode cX12_gone 42 = .ok (.aload_n 0, 1) := by decide +kernel
theorem dX12_gone_43 : decode cX12_gone 43 = .ok (.getfield 43, 3) := by decide +kernel
theorem dX12_gone_46 : decode cX12_gone 46 = .ok (.iload 5, 2) := by decide +kernel
theorem dX12_gone_48 : decode cX12_gone 48 = .ok (.iaload, 1) := by decide +kernel
theorem dX12_gone_49 : decode cX12_gone 49 = .ok (.iload_n 1, 1) := by decide +kernel
theorem dX12_gone_50 : decode cX12_gone 50 = .ok (.if_icmp .ne 7, 3) := by decide +kernel
theorem dX12_gone_53 : decode cX12_gone 53 = .ok (.iconst 1, 1) := by decide +kernel
theorem dX12_gone_54 : decode cX12_gone 54 = .ok (.goto 4, 3) := by decide +kernel
theorem dX12_gone_57 : decode cX12_gone 57 = .ok (.iconst 0, 1) := by decide +kernel
theorem dX12_gone_58 : decode cX12_gone 58 = .ok (.istore_n 3, 1) := by decide +kernel
theorem dX12_gone_59 : decode cX12_gone 59 = .ok (.iload 4, 2) := by decide +kernel
theorem dX12_gone_61 : decode cX12_gone 61 = .ok (.ifCond .ne 25, 3) := by decide +kernel
theorem dX12_gone_64 : decode cX12_gone 64 = .ok (.aload_n 0, 1) := by decide +kernel
theorem dX12_gone_65 : decode cX12_gone 65 = .ok (.getfield 43, 3) := by decide +kernel
theorem dX12_gone_68 : decode cX12_gone 68 = .ok (.iload 5, 2) := by decide +kernel
theorem dX12_gone_70 : decode cX12_gone 70 = .ok (.iaload, 1) := by decide +kernel
theorem dX12_gone_71 : decode cX12_gone 71 = .ok (.iload_n 1, 1) := by decide +kernel
theorem dX12_gone_72 : decode cX12_gone 72 = .ok (.if_icmp .ne 18, 3) := by decide +kernel
theorem dX12_gone_75 : decode cX12_gone 75 = .ok (.iload 5, 2) := by decide +kernel
theorem dX12_gone_77 : decode cX12_gone 77 = .ok (.aload_n 0, 1) := by decide +kernel
theorem dX12_gone_78 : decode cX12_gone 78 = .ok (.getfield 120, 3) := by decide +kernel
theorem dX12_gone_81 : decode cX12_gone 81 = .ok (.iload_n 2, 1) := by decide +kernel
theorem dX12_gone_82 : decode cX12_gone 82 = .ok (.isub, 1) := by decide +kernel
theorem dX12_gone_83 : decode cX12_gone 83 = .ok (.if_icmp .lt 7, 3) := by decide +kernel
theorem dX12_gone_86 : decode cX12_gone 86 = .ok (.iconst 1, 1) := by decide +kernel
theorem dX12_gone_87 : decode cX12_gone 87 = .ok (.goto 4, 3) := by decide +kernel
theorem dX12_gone_90 : decode cX12_gone 90 = .ok (.iconst 0, 1) := by decide +kernel
theorem dX12_gone_91 : decode cX12_gone 91 = .ok (.istore 4, 2) := by decide +kernel
theorem dX12_gone_93 : decode cX12_gone 93 = .ok (.iinc 5 1, 3) := by decide +kernel
theorem dX12_gone_96 : decode cX12_gone 96 = .ok (.goto (-67), 3) := by decide +kernel
theorem dX12_gone_99 : decode cX12_gone 99 = .ok (.iload_n 3, 1) := by decide +kernel
theorem dX12_gone_100 : decode cX12_gone 100 = .ok (.ifCond .eq 12, 3) := by decide +kernel
theorem dX12_gone_103 : decode cX12_gone 103 = .ok (.iload 4, 2) := by decide +kernel
theorem dX12_gone_105 : decode cX12_gone 105 = .ok (.ifCond .ne 7, 3) := by decide +kernel
theorem dX12_gone_108 : decode cX12_gone 108 = .ok (.iconst 1, 1) := by decide +kernel
theorem dX12_gone_109 : decode cX12_gone 109 = .ok (.goto 4, 3) := by decide +kernel
theorem dX12_gone_112 : decode cX12_gone 112 = .ok (.iconst 0, 1) := by decide +kernel
theorem dX12_gone_113 : decode cX12_gone 113 = .ok (.ireturn, 1) := by decide +kernel
theorem dX12_count_0 : decode cX12_count 0 = .ok (.iconst 0, 1) := by decide +kernel
theorem dX12_count_1 : decode cX12_count 1 = .ok (.istore_n 2, 1) := by decide +kernel
theorem dX12_count_2 : decode cX12_count 2 = .ok (.iload_n 1, 1) := by decide +kernel
theorem dX12_count_3 : decode cX12_count 3 = .ok (.tableswitch 91 0 5 #[37, 44, 51, 56, 61, 66], 37) := by decide +kernel
theorem dX12_count_40 : decode cX12_count 40 = .ok (.aload_n 0, 1) := by decide +kernel
theorem dX12_count_41 : decode cX12_count 41 = .ok (.getfield 13, 3) := by decide +kernel
theorem dX12_count_44 : decode cX12_count 44 = .ok (.iconst 0, 1) := by decide +kernel
theorem dX12_count_45 : decode cX12_count 45 = .ok (.iaload, 1) := by decide +kernel
theorem dX12_count_46 : decode cX12_count 46 = .ok (.ireturn, 1) := by decide +kernel
theorem dX12_count_47 : decode cX12_count 47 = .ok (.aload_n 0, 1) := by decide +kernel
theorem dX12_count_48 : decode cX12_count 48 = .ok (.getfield 19, 3) := by decide +kernel
theorem dX12_count_51 : decode cX12_count 51 = .ok (.iconst 0, 1) := by decide +kernel
theorem dX12_count_52 : decode cX12_count 52 = .ok (.iaload, 1) := by decide +kernel
theorem dX12_count_53 : decode cX12_count 53 = .ok (.ireturn, 1) := by decide +kernel
theorem dX12_count_54 : decode cX12_count 54 = .ok (.aload_n 0, 1) := by decide +kernel
theorem dX12_count_55 : decode cX12_count 55 = .ok (.getfield 84, 3) := by decide +kernel
theorem dX12_count_58 : decode cX12_count 58 = .ok (.ireturn, 1) := by decide +kernel
theorem dX12_count_59 : decode cX12_count 59 = .ok (.aload_n 0, 1) := by decide +kernel
theorem dX12_count_60 : decode cX12_count 60 = .ok (.getfield 117, 3) := by decide +kernel
theorem dX12_count_63 : decode cX12_count 63 = .ok (.ireturn, 1) := by decide +kernel
theorem dX12_count_64 : decode cX12_count 64 = .ok (.aload_n 0, 1) := by decide +kernel
theorem dX12_count_65 : decode cX12_count 65 = .ok (.getfield 120, 3) := by decide +kernel
theorem dX12_count_68 : decode cX12_count 68 = .ok (.ireturn, 1) := by decide +kernel
theorem dX12_count_69 : decode cX12_count 69 = .ok (.iconst 0, 1) := by decide +kernel
theorem dX12_count_70 : decode cX12_count 70 = .ok (.istore_n 3, 1) := by decide +kernel
theorem dX12_count_71 : decode cX12_count 71 = .ok (.iload_n 3, 1) := by decide +kernel
theorem dX12_count_72 : decode cX12_count 72 = .ok (.bipush 8, 2) := by decide +kernel
theorem dX12_count_74 : decode cX12_count 74 = .ok (.if_icmp .ge 18, 3) := by decide +kernel
theorem dX12_count_77 : decode cX12_count 77 = .ok (.iload_n 2, 1) := by decide +kernel
theorem dX12_count_78 : decode cX12_count 78 = .ok (.aload_n 0, 1) := by decide +kernel
theorem dX12_count_79 : decode cX12_count 79 = .ok (.getfield 28, 3) := by decide +kernel
theorem dX12_count_82 : decode cX12_count 82 = .ok (.iload_n 3, 1) := by decide +kernel
theorem dX12_count_83 : decode cX12_count 83 = .ok (.iaload, 1) := by decide +kernel
theorem dX12_count_84 : decode cX12_count 84 = .ok (.iadd, 1) := by decide +kernel
theorem dX12_count_85 : decode cX12_count 85 = .ok (.istore_n 2, 1) := by decide +kernel
theorem dX12_count_86 : decode cX12_count 86 = .ok (.iinc 3 1, 3) := by decide +kernel
theorem dX12_count_89 : decode cX12_count 89 = .ok (.goto (-18), 3) := by decide +kernel
theorem dX12_count_92 : decode cX12_count 92 = .ok (.iload_n 2, 1) := by decide +kernel
theorem dX12_count_93 : decode cX12_count 93 = .ok (.ireturn, 1) := by decide +kernel
theorem dX12_count_94 : decode cX12_count 94 = .ok (.iconst (-1), 1) := by decide +kernel
theorem dX12_count_95 : decode cX12_count 95 = .ok (.ireturn, 1) := by decide +kernel
