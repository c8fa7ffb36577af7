theorem dX4_init_0 : decode cX4_init 0 = .ok (.aload_n 0, 1) := by decide +kernel
theorem dX4_init_1 : decode cX4_init 1 = .ok (.invokespecial 3, 3) := by decide +kernel
theorem dX4_init_4 : decode cX4_init 4 = .ok (.aload_n 0, 1) := by decide +kernel
theorem dX4_init_5 : decode cX4_init 5 = .ok (.bipush 24, 2) := by decide +kernel
theorem dX4_init_7 : decode cX4_init 7 = .ok (.newarray .long, 2) := by decide +kernel
theorem dX4_init_9 : decode cX4_init 9 = .ok (.putfield 9, 3) := by decide +kernel
theorem dX4_init_12 : decode cX4_init 12 = .ok (.return_, 1) := by decide +kernel
theorem dX4_restart_0 : decode cX4_restart 0 = .ok (.aload_n 0, 1) := by decide +kernel
theorem dX4_restart_1 : decode cX4_restart 1 = .ok (.getfield 15, 3) := by decide +kernel
theorem dX4_restart_4 : decode cX4_restart 4 = .ok (.lconst 0, 1) := by decide +kernel
theorem dX4_restart_5 : decode cX4_restart 5 = .ok (.invokestatic 18, 3) := by decide +kernel
theorem dX4_restart_8 : decode cX4_restart 8 = .ok (.aload_n 0, 1) := by decide +kernel
theorem dX4_restart_9 : decode cX4_restart 9 = .ok (.getfield 9, 3) := by decide +kernel
theorem dX4_restart_12 : decode cX4_restart 12 = .ok (.lconst 0, 1) := by decide +kernel
theorem dX4_restart_13 : decode cX4_restart 13 = .ok (.invokestatic 18, 3) := by decide +kernel
theorem dX4_restart_16 : decode cX4_restart 16 = .ok (.return_, 1) := by decide +kernel
theorem dX4_putRow_0 : decode cX4_putRow 0 = .ok (.iconst 0, 1) := by decide +kernel
theorem dX4_putRow_1 : decode cX4_putRow 1 = .ok (.istore 5, 2) := by decide +kernel
theorem dX4_putRow_3 : decode cX4_putRow 3 = .ok (.iload 5, 2) := by decide +kernel
theorem dX4_putRow_5 : decode cX4_putRow 5 = .ok (.aload_n 2, 1) := by decide +kernel
theorem dX4_putRow_6 : decode cX4_putRow 6 = .ok (.getfield 24, 3) := by decide +kernel
theorem dX4_putRow_9 : decode cX4_putRow 9 = .ok (.if_icmp .ge 36, 3) := by decide +kernel
theorem dX4_putRow_12 : decode cX4_putRow 12 = .ok (.aload_n 0, 1) := by decide +kernel
theorem dX4_putRow_13 : decode cX4_putRow 13 = .ok (.getfield 15, 3) := by decide +kernel
theorem dX4_putRow_16 : decode cX4_putRow 16 = .ok (.iload 5, 2) := by decide +kernel
theorem dX4_putRow_18 : decode cX4_putRow 18 = .ok (.iconst 1, 1) := by decide +kernel
theorem dX4_putRow_19 : decode cX4_putRow 19 = .ok (.invokestatic 30, 3) := by decide +kernel
theorem dX4_putRow_22 : decode cX4_putRow 22 = .ok (.aload_n 1, 1) := by decide +kernel
theorem dX4_putRow_23 : decode cX4_putRow 23 = .ok (.aload_n 2, 1) := by decide +kernel
theorem dX4_putRow_24 : decode cX4_putRow 24 = .ok (.getfield 34, 3) := by decide +kernel
theorem dX4_putRow_27 : decode cX4_putRow 27 = .ok (.iload 5, 2) := by decide +kernel
theorem dX4_putRow_29 : decode cX4_putRow 29 = .ok (.iaload, 1) := by decide +kernel
theorem dX4_putRow_30 : decode cX4_putRow 30 = .ok (.invokevirtual 38, 3) := by decide +kernel
theorem dX4_putRow_33 : decode cX4_putRow 33 = .ok (.iadd, 1) := by decide +kernel
theorem dX4_putRow_34 : decode cX4_putRow 34 = .ok (.dup2, 1) := by decide +kernel
theorem dX4_putRow_35 : decode cX4_putRow 35 = .ok (.laload, 1) := by decide +kernel
theorem dX4_putRow_36 : decode cX4_putRow 36 = .ok (.lload_n 3, 1) := by decide +kernel
theorem dX4_putRow_37 : decode cX4_putRow 37 = .ok (.lor, 1) := by decide +kernel
theorem dX4_putRow_38 : decode cX4_putRow 38 = .ok (.lastore, 1) := by decide +kernel
theorem dX4_putRow_39 : decode cX4_putRow 39 = .ok (.iinc 5 1, 3) := by decide +kernel
theorem dX4_putRow_42 : decode cX4_putRow 42 = .ok (.goto (-39), 3) := by decide +kernel
theorem dX4_putRow_45 : decode cX4_putRow 45 = .ok (.return_, 1) := by decide +kernel
theorem dX4_freeRule_0 : decode cX4_freeRule 0 = .ok (.aload_n 0, 1) := by decide +kernel
theorem dX4_freeRule_1 : decode cX4_freeRule 1 = .ok (.getfield 9, 3) := by decide +kernel
theorem dX4_freeRule_4 : decode cX4_freeRule 4 = .ok (.iload_n 1, 1) := by decide +kernel
theorem dX4_freeRule_5 : decode cX4_freeRule 5 = .ok (.dup2, 1) := by decide +kernel
theorem dX4_freeRule_6 : decode cX4_freeRule 6 = .ok (.laload, 1) := by decide +kernel
theorem dX4_freeRule_7 : decode cX4_freeRule 7 = .ok (.lload_n 2, 1) := by decide +kernel
theorem dX4_freeRule_8 : decode cX4_freeRule 8 = .ok (.lor, 1) := by decide +kernel
theorem dX4_freeRule_9 : decode cX4_freeRule 9 = .ok (.lastore, 1) := by decide +kernel
theorem dX4_freeRule_10 : decode cX4_freeRule 10 = .ok (.return_, 1) := by decide +kernel
theorem dX4_readLanes_0 : decode cX4_readLanes 0 = .ok (.aload_n 0, 1) := by decide +kernel
theorem dX4_readLanes_1 : decode cX4_readLanes 1 = .ok (.iconst 0, 1) := by decide +kernel
theorem dX4_readLanes_2 : decode cX4_readLanes 2 = .ok (.iload_n 1, 1) := by decide +kernel
theorem dX4_readLanes_3 : decode cX4_readLanes 3 = .ok (.invokestatic 30, 3) := by decide +kernel
theorem dX4_readLanes_6 : decode cX4_readLanes 6 = .ok (.invokevirtual 44, 3) := by decide +kernel
theorem dX4_readLanes_9 : decode cX4_readLanes 9 = .ok (.lreturn, 1) := by decide +kernel
theorem dX4_joinSpans_0 : decode cX4_joinSpans 0 = .ok (.iconst 0, 1) := by decide +kernel
theorem dX4_joinSpans_1 : decode cX4_joinSpans 1 = .ok (.istore 5, 2) := by decide +kernel
theorem dX4_joinSpans_3 : decode cX4_joinSpans 3 = .ok (.iload 5, 2) := by decide +kernel
theorem dX4_joinSpans_5 : decode cX4_joinSpans 5 = .ok (.aload_n 1, 1) := by decide +kernel
theorem dX4_joinSpans_6 : decode cX4_joinSpans 6 = .ok (.getfield 48, 3) := by decide +kernel
theorem dX4_joinSpans_9 : decode cX4_joinSpans 9 = .ok (.if_icmp .ge 209, 3) := by decide +kernel
theorem dX4_joinSpans_12 : decode cX4_joinSpans 12 = .ok (.iload_n 2, 1) := by decide +kernel
theorem dX4_joinSpans_13 : decode cX4_joinSpans 13 = .ok (.aload_n 1, 1) := by decide +kernel
theorem dX4_joinSpans_14 : decode cX4_joinSpans 14 = .ok (.getfield 51, 3) := by decide +kernel
theorem dX4_joinSpans_17 : decode cX4_joinSpans 17 = .ok (.iload 5, 2) := by decide +kernel
theorem dX4_joinSpans_19 : decode cX4_joinSpans 19 = .ok (.iaload, 1) := by decide +kernel
theorem dX4_joinSpans_20 : decode cX4_joinSpans 20 = .ok (.iconst 4, 1) := by decide +kernel
theorem dX4_joinSpans_21 : decode cX4_joinSpans 21 = .ok (.imul, 1) := by decide +kernel
theorem dX4_joinSpans_22 : decode cX4_joinSpans 22 = .ok (.iadd, 1) := by decide +kernel
theorem dX4_joinSpans_23 : decode cX4_joinSpans 23 = .ok (.istore 6, 2) := by decide +kernel
theorem dX4_joinSpans_25 : decode cX4_joinSpans 25 = .ok (.iload_n 3, 1) := by decide +kernel
theorem dX4_joinSpans_26 : decode cX4_joinSpans 26 = .ok (.aload_n 1, 1) := by decide +kernel
theorem dX4_joinSpans_27 : decode cX4_joinSpans 27 = .ok (.getfield 54, 3) := by decide +kernel
theorem dX4_joinSpans_30 : decode cX4_joinSpans 30 = .ok (.iload 5, 2) := by decide +kernel
theorem dX4_joinSpans_32 : decode cX4_joinSpans 32 = .ok (.iaload, 1) := by decide +kernel
theorem dX4_joinSpans_33 : decode cX4_joinSpans 33 = .ok (.iconst 4, 1) := by decide +kernel
theorem dX4_joinSpans_34 : decode cX4_joinSpans 34 = .ok (.imul, 1) := by decide +kernel
theorem dX4_joinSpans_35 : decode cX4_joinSpans 35 = .ok (.iadd, 1) := by decide +kernel
theorem dX4_joinSpans_36 : decode cX4_joinSpans 36 = .ok (.istore 7, 2) := by decide +kernel
theorem dX4_joinSpans_38 : decode cX4_joinSpans 38 = .ok (.iload 4, 2) := by decide +kernel
theorem dX4_joinSpans_40 : decode cX4_joinSpans 40 = .ok (.aload_n 1, 1) := by decide +kernel
theorem dX4_joinSpans_41 : decode cX4_joinSpans 41 = .ok (.getfield 57, 3) := by decide +kernel
theorem dX4_joinSpans_44 : decode cX4_joinSpans 44 = .ok (.iload 5, 2) := by decide +kernel
theorem dX4_joinSpans_46 : decode cX4_joinSpans 46 = .ok (.iaload, 1) := by decide +kernel
theorem dX4_joinSpans_47 : decode cX4_joinSpans 47 = .ok (.iconst 4, 1) := by decide +kernel
theorem dX4_joinSpans_48 : decode cX4_joinSpans 48 = .ok (.imul, 1) := by decide +kernel
theorem dX4_joinSpans_49 : decode cX4_joinSpans 49 = .ok (.iadd, 1) := by decide +kernel
theorem dX4_joinSpans_50 : decode cX4_joinSpans 50 = .ok (.istore 8, 2) := by decide +kernel
theorem dX4_joinSpans_52 : decode cX4_joinSpans 52 = .ok (.aload_n 0, 1) := by decide +kernel
theorem dX4_joinSpans_53 : decode cX4_joinSpans 53 = .ok (.iload 6, 2) := by decide +kernel
theorem dX4_joinSpans_55 : decode cX4_joinSpans 55 = .ok (.invokevirtual 44, 3) := by decide +kernel
theorem dX4_joinSpans_58 : decode cX4_joinSpans 58 = .ok (.lstore 9, 2) := by decide +kernel
theorem dX4_joinSpans_60 : decode cX4_joinSpans 60 = .ok (.aload_n 0, 1) := by decide +kernel
theorem dX4_joinSpans_61 : decode cX4_joinSpans 61 = .ok (.iload 7, 2) := by decide +kernel
theorem dX4_joinSpans_63 : decode cX4_joinSpans 63 = .ok (.invokevirtual 44, 3) := by decide +kernel
theorem dX4_joinSpans_66 : decode cX4_joinSpans 66 = .ok (.lstore 11, 2) := by decide +kernel
theorem dX4_joinSpans_68 : decode cX4_joinSpans 68 = .ok (.aload_n 1, 1) := by decide +kernel
theorem dX4_joinSpans_69 : decode cX4_joinSpans 69 = .ok (.getfield 60, 3) := by decide +kernel
theorem dX4_joinSpans_72 : decode cX4_joinSpans 72 = .ok (.iload 5, 2) := by decide +kernel
theorem dX4_joinSpans_74 : decode cX4_joinSpans 74 = .ok (.baload, 1) := by decide +kernel
theorem dX4_joinSpans_75 : decode cX4_joinSpans 75 = .ok (.ifCond .eq 17, 3) := by decide +kernel
theorem dX4_joinSpans_78 : decode cX4_joinSpans 78 = .ok (.aload_n 0, 1) := by decide +kernel
theorem dX4_joinSpans_79 : decode cX4_joinSpans 79 = .ok (.getfield 9, 3) := by decide +kernel
theorem dX4_joinSpans_82 : decode cX4_joinSpans 82 = .ok (.iload 5, 2) := by decide +kernel
theorem dX4_joinSpans_84 : decode cX4_joinSpans 84 = .ok (.laload, 1) := by decide +kernel
theorem dX4_joinSpans_85 : decode cX4_joinSpans 85 = .ok (.ldc2_w 64, 3) := by decide +kernel
theorem dX4_joinSpans_88 : decode cX4_joinSpans 88 = .ok (.lxor, 1) := by decide +kernel
theorem dX4_joinSpans_89 : decode cX4_joinSpans 89 = .ok (.goto 4, 3) := by decide +kernel
theorem dX4_joinSpans_92 : decode cX4_joinSpans 92 = .ok (.lconst 0, 1) := by decide +kernel
theorem dX4_joinSpans_93 : decode cX4_joinSpans 93 = .ok (.lstore 13, 2) := by decide +kernel
theorem dX4_joinSpans_95 : decode cX4_joinSpans 95 = .ok (.iconst 0, 1) := by decide +kernel
theorem dX4_joinSpans_96 : decode cX4_joinSpans 96 = .ok (.istore 15, 2) := by decide +kernel
theorem dX4_joinSpans_98 : decode cX4_joinSpans 98 = .ok (.iload 15, 2) := by decide +kernel
theorem dX4_joinSpans_100 : decode cX4_joinSpans 100 = .ok (.iconst 4, 1) := by decide +kernel
theorem dX4_joinSpans_101 : decode cX4_joinSpans 101 = .ok (.if_icmp .ge 111, 3) := by decide +kernel
theorem dX4_joinSpans_104 : decode cX4_joinSpans 104 = .ok (.lload 9, 2) := by decide +kernel
theorem dX4_joinSpans_106 : decode cX4_joinSpans 106 = .ok (.lload 11, 2) := by decide +kernel
theorem dX4_joinSpans_108 : decode cX4_joinSpans 108 = .ok (.land, 1) := by decide +kernel
theorem dX4_joinSpans_109 : decode cX4_joinSpans 109 = .ok (.lconst 0, 1) := by decide +kernel
theorem dX4_joinSpans_110 : decode cX4_joinSpans 110 = .ok (.lcmp, 1) := by decide +kernel
theorem dX4_joinSpans_111 : decode cX4_joinSpans 111 = .ok (.ifCond .eq 101, 3) := by decide +kernel
theorem dX4_joinSpans_114 : decode cX4_joinSpans 114 = .ok (.aload_n 0, 1) := by decide +kernel
theorem dX4_joinSpans_115 : decode cX4_joinSpans 115 = .ok (.getfield 15, 3) := by decide +kernel
theorem dX4_joinSpans_118 : decode cX4_joinSpans 118 = .ok (.iload 6, 2) := by decide +kernel
theorem dX4_joinSpans_120 : decode cX4_joinSpans 120 = .ok (.iload 15, 2) := by decide +kernel
theorem dX4_joinSpans_122 : decode cX4_joinSpans 122 = .ok (.iadd, 1) := by decide +kernel
theorem dX4_joinSpans_123 : decode cX4_joinSpans 123 = .ok (.laload, 1) := by decide +kernel
theorem dX4_joinSpans_124 : decode cX4_joinSpans 124 = .ok (.aload_n 0, 1) := by decide +kernel
theorem dX4_joinSpans_125 : decode cX4_joinSpans 125 = .ok (.getfield 15, 3) := by decide +kernel
theorem dX4_joinSpans_128 : decode cX4_joinSpans 128 = .ok (.iload 7, 2) := by decide +kernel
theorem dX4_joinSpans_130 : decode cX4_joinSpans 130 = .ok (.iload 15, 2) := by decide +kernel
theorem dX4_joinSpans_132 : decode cX4_joinSpans 132 = .ok (.iadd, 1) := by decide +kernel
theorem dX4_joinSpans_133 : decode cX4_joinSpans 133 = .ok (.laload, 1) := by decide +kernel
theorem dX4_joinSpans_134 : decode cX4_joinSpans 134 = .ok (.land, 1) := by decide +kernel
theorem dX4_joinSpans_135 : decode cX4_joinSpans 135 = .ok (.lstore 16, 2) := by decide +kernel
theorem dX4_joinSpans_137 : decode cX4_joinSpans 137 = .ok (.aload_n 1, 1) := by decide +kernel
theorem dX4_joinSpans_138 : decode cX4_joinSpans 138 = .ok (.getfield 66, 3) := by decide +kernel
theorem dX4_joinSpans_141 : decode cX4_joinSpans 141 = .ok (.iload 5, 2) := by decide +kernel
theorem dX4_joinSpans_143 : decode cX4_joinSpans 143 = .ok (.baload, 1) := by decide +kernel
theorem dX4_joinSpans_144 : decode cX4_joinSpans 144 = .ok (.ifCond .eq 19, 3) := by decide +kernel
theorem dX4_joinSpans_147 : decode cX4_joinSpans 147 = .ok (.lload 9, 2) := by decide +kernel
theorem dX4_joinSpans_149 : decode cX4_joinSpans 149 = .ok (.aload_n 0, 1) := by decide +kernel
theorem dX4_joinSpans_150 : decode cX4_joinSpans 150 = .ok (.getfield 15, 3) := by decide +kernel
theorem dX4_joinSpans_153 : decode cX4_joinSpans 153 = .ok (.iload 7, 2) := by decide +kernel
theorem dX4_joinSpans_155 : decode cX4_joinSpans 155 = .ok (.iload 15, 2) := by decide +kernel
theorem dX4_joinSpans_157 : decode cX4_joinSpans 157 = .ok (.iadd, 1) := by decide +kernel
theorem dX4_joinSpans_158 : decode cX4_joinSpans 158 = .ok (.laload, 1) := by decide +kernel
theorem dX4_joinSpans_159 : decode cX4_joinSpans 159 = .ok (.land, 1) := by decide +kernel
theorem dX4_joinSpans_160 : decode cX4_joinSpans 160 = .ok (.goto 16, 3) := by decide +kernel
theorem dX4_joinSpans_163 : decode cX4_joinSpans 163 = .ok (.aload_n 0, 1) := by decide +kernel
theorem dX4_joinSpans_164 : decode cX4_joinSpans 164 = .ok (.getfield 15, 3) := by decide +kernel
theorem dX4_joinSpans_167 : decode cX4_joinSpans 167 = .ok (.iload 6, 2) := by decide +kernel
theorem dX4_joinSpans_169 : decode cX4_joinSpans 169 = .ok (.iload 15, 2) := by decide +kernel
theorem dX4_joinSpans_171 : decode cX4_joinSpans 171 = .ok (.iadd, 1) := by decide +kernel
theorem dX4_joinSpans_172 : decode cX4_joinSpans 172 = .ok (.laload, 1) := by decide +kernel
theorem dX4_joinSpans_173 : decode cX4_joinSpans 173 = .ok (.lload 11, 2) := by decide +kernel
theorem dX4_joinSpans_175 : decode cX4_joinSpans 175 = .ok (.land, 1) := by decide +kernel
theorem dX4_joinSpans_176 : decode cX4_joinSpans 176 = .ok (.lstore 18, 2) := by decide +kernel
theorem dX4_joinSpans_178 : decode cX4_joinSpans 178 = .ok (.aload_n 0, 1) := by decide +kernel
theorem dX4_joinSpans_179 : decode cX4_joinSpans 179 = .ok (.getfield 15, 3) := by decide +kernel
theorem dX4_joinSpans_182 : decode cX4_joinSpans 182 = .ok (.iload 8, 2) := by decide +kernel
theorem dX4_joinSpans_184 : decode cX4_joinSpans 184 = .ok (.iload 15, 2) := by decide +kernel
theorem dX4_joinSpans_186 : decode cX4_joinSpans 186 = .ok (.iadd, 1) := by decide +kernel
theorem dX4_joinSpans_187 : decode cX4_joinSpans 187 = .ok (.dup2, 1) := by decide +kernel
theorem dX4_joinSpans_188 : decode cX4_joinSpans 188 = .ok (.laload, 1) := by decide +kernel
theorem dX4_joinSpans_189 : decode cX4_joinSpans 189 = .ok (.lload 16, 2) := by decide +kernel
theorem dX4_joinSpans_191 : decode cX4_joinSpans 191 = .ok (.lload 13, 2) := by decide +kernel
theorem dX4_joinSpans_193 : decode cX4_joinSpans 193 = .ok (.land, 1) := by decide +kernel
theorem dX4_joinSpans_194 : decode cX4_joinSpans 194 = .ok (.lload 18, 2) := by decide +kernel
theorem dX4_joinSpans_196 : decode cX4_joinSpans 196 = .ok (.lload 13, 2) := by decide +kernel
theorem dX4_joinSpans_198 : decode cX4_joinSpans 198 = .ok (.ldc2_w 64, 3) := by decide +kernel
theorem dX4_joinSpans_201 : decode cX4_joinSpans 201 = .ok (.lxor, 1) := by decide +kernel
theorem dX4_joinSpans_202 : decode cX4_joinSpans 202 = .ok (.land, 1) := by decide +kernel
theorem dX4_joinSpans_203 : decode cX4_joinSpans 203 = .ok (.lor, 1) := by decide +kernel
theorem dX4_joinSpans_204 : decode cX4_joinSpans 204 = .ok (.lor, 1) := by decide +kernel
theorem dX4_joinSpans_205 : decode cX4_joinSpans 205 = .ok (.lastore, 1) := by decide +kernel
theorem dX4_joinSpans_206 : decode cX4_joinSpans 206 = .ok (.iinc 15 1, 3) := by decide +kernel
theorem dX4_joinSpans_209 : decode cX4_joinSpans 209 = .ok (.goto (-111), 3) := by decide +kernel
theorem dX4_joinSpans_212 : decode cX4_joinSpans 212 = .ok (.iinc 5 1, 3) := by decide +kernel
theorem dX4_joinSpans_215 : decode cX4_joinSpans 215 = .ok (.goto (-212), 3) := by decide +kernel
theorem dX4_joinSpans_218 : decode cX4_joinSpans 218 = .ok (.return_, 1) := by decide +kernel
theorem dX4_anyAt_0 : decode cX4_anyAt 0 = .ok (.aload_n 0, 1) := by decide +kernel
theorem dX4_anyAt_1 : decode cX4_anyAt 1 = .ok (.getfield 15, 3) := by decide +kernel
theorem dX4_anyAt_4 : decode cX4_anyAt 4 = .ok (.iload_n 1, 1) := by decide +kernel
theorem dX4_anyAt_5 : decode cX4_anyAt 5 = .ok (.laload, 1) := by decide +kernel
theorem dX4_anyAt_6 : decode cX4_anyAt 6 = .ok (.aload_n 0, 1) := by decide +kernel
theorem dX4_anyAt_7 : decode cX4_anyAt 7 = .ok (.getfield 15, 3) := by decide +kernel
theorem dX4_anyAt_10 : decode cX4_anyAt 10 = .ok (.iload_n 1, 1) := by decide +kernel
theorem dX4_anyAt_11 : decode cX4_anyAt 11 = .ok (.iconst 1, 1) := by decide +kernel
theorem dX4_anyAt_12 : decode cX4_anyAt 12 = .ok (.iadd, 1) := by decide +kernel
theorem dX4_anyAt_13 : decode cX4_anyAt 13 = .ok (.laload, 1) := by decide +kernel
theorem dX4_anyAt_14 : decode cX4_anyAt 14 = .ok (.lor, 1) := by decide +kernel
theorem dX4_anyAt_15 : decode cX4_anyAt 15 = .ok (.aload_n 0, 1) := by decide +kernel
theorem dX4_anyAt_16 : decode cX4_anyAt 16 = .ok (.getfield 15, 3) := by decide +kernel
theorem dX4_anyAt_19 : decode cX4_anyAt 19 = .ok (.iload_n 1, 1) := by decide +kernel
theorem dX4_anyAt_20 : decode cX4_anyAt 20 = .ok (.iconst 2, 1) := by decide +kernel
theorem dX4_anyAt_21 : decode cX4_anyAt 21 = .ok (.iadd, 1) := by decide +kernel
theorem dX4_anyAt_22 : decode cX4_anyAt 22 = .ok (.laload, 1) := by decide +kernel
theorem dX4_anyAt_23 : decode cX4_anyAt 23 = .ok (.lor, 1) := by decide +kernel
theorem dX4_anyAt_24 : decode cX4_anyAt 24 = .ok (.aload_n 0, 1) := by decide +kernel
theorem dX4_anyAt_25 : decode cX4_anyAt 25 = .ok (.getfield 15, 3) := by decide +kernel
theorem dX4_anyAt_28 : decode cX4_anyAt 28 = .ok (.iload_n 1, 1) := by decide +kernel
theorem dX4_anyAt_29 : decode cX4_anyAt 29 = .ok (.iconst 3, 1) := by decide +kernel
theorem dX4_anyAt_30 : decode cX4_anyAt 30 = .ok (.iadd, 1) := by decide +kernel
theorem dX4_anyAt_31 : decode cX4_anyAt 31 = .ok (.laload, 1) := by decide +kernel
theorem dX4_anyAt_32 : decode cX4_anyAt 32 = .ok (.lor, 1) := by decide +kernel
theorem dX4_anyAt_33 : decode cX4_anyAt 33 = .ok (.lreturn, 1) := by decide +kernel
theorem dX5_init_0 : decode cX5_init 0 = .ok (.aload_n 0, 1) := by decide +kernel
theorem dX5_init_1 : decode cX5_init 1 = .ok (.invokespecial 3, 3) := by decide +kernel
theorem dX5_init_4 : decode cX5_init 4 = .ok (.aload_n 0, 1) := by decide +kernel
theorem dX5_init_5 : decode cX5_init 5 = .ok (.bipush 40, 2) := by decide +kernel
theorem dX5_init_7 : decode cX5_init 7 = .ok (.anewarray 9, 3) := by decide +kernel
theorem dX5_init_10 : decode cX5_init 10 = .ok (.putfield 11, 3) := by decide +kernel
theorem dX5_init_13 : decode cX5_init 13 = .ok (.aload_n 0, 1) := by decide +kernel
theorem dX5_init_14 : decode cX5_init 14 = .ok (.bipush 40, 2) := by decide +kernel
theorem dX5_init_16 : decode cX5_init 16 = .ok (.newarray .int, 2) := by decide +kernel
theorem dX5_init_18 : decode cX5_init 18 = .ok (.putfield 17, 3) := by decide +kernel
theorem dX5_init_21 : decode cX5_init 21 = .ok (.aload_n 0, 1) := by decide +kernel
theorem dX5_init_22 : decode cX5_init 22 = .ok (.iconst 0, 1) := by decide +kernel
theorem dX5_init_23 : decode cX5_init 23 = .ok (.putfield 21, 3) := by decide +kernel
theorem dX5_init_26 : decode cX5_init 26 = .ok (.aload_n 0, 1) := by decide +kernel
theorem dX5_init_27 : decode cX5_init 27 = .ok (.bipush 64, 2) := by decide +kernel
theorem dX5_init_29 : decode cX5_init 29 = .ok (.anewarray 9, 3) := by decide +kernel
theorem dX5_init_32 : decode cX5_init 32 = .ok (.putfield 25, 3) := by decide +kernel
theorem dX5_init_35 : decode cX5_init 35 = .ok (.aload_n 0, 1) := by decide +kernel
theorem dX5_init_36 : decode cX5_init 36 = .ok (.bipush 64, 2) := by decide +kernel
theorem dX5_init_38 : decode cX5_init 38 = .ok (.newarray .int, 2) := by decide +kernel
theorem dX5_init_40 : decode cX5_init 40 = .ok (.putfield 28, 3) := by decide +kernel
theorem dX5_init_43 : decode cX5_init 43 = .ok (.aload_n 0, 1) := by decide +kernel
theorem dX5_init_44 : decode cX5_init 44 = .ok (.iconst 0, 1) := by decide +kernel
theorem dX5_init_45 : decode cX5_init 45 = .ok (.putfield 31, 3) := by decide +kernel
theorem dX5_init_48 : decode cX5_init 48 = .ok (.aload_n 0, 1) := by decide +kernel
theorem dX5_init_49 : decode cX5_init 49 = .ok (.bipush 40, 2) := by decide +kernel
theorem dX5_init_51 : decode cX5_init 51 = .ok (.newarray .int, 2) := by decide +kernel
theorem dX5_init_53 : decode cX5_init 53 = .ok (.putfield 34, 3) := by decide +kernel
theorem dX5_init_56 : decode cX5_init 56 = .ok (.aload_n 0, 1) := by decide +kernel
theorem dX5_init_57 : decode cX5_init 57 = .ok (.iconst 0, 1) := by decide +kernel
theorem dX5_init_58 : decode cX5_init 58 = .ok (.putfield 37, 3) := by decide +kernel
theorem dX5_init_61 : decode cX5_init 61 = .ok (.aload_n 0, 1) := by decide +kernel
theorem dX5_init_62 : decode cX5_init 62 = .ok (.bipush 17, 2) := by decide +kernel
theorem dX5_init_64 : decode cX5_init 64 = .ok (.newarray .int, 2) := by decide +kernel
theorem dX5_init_66 : decode cX5_init 66 = .ok (.putfield 40, 3) := by decide +kernel
theorem dX5_init_69 : decode cX5_init 69 = .ok (.iconst 0, 1) := by decide +kernel
theorem dX5_init_70 : decode cX5_init 70 = .ok (.istore_n 1, 1) := by decide +kernel
theorem dX5_init_71 : decode cX5_init 71 = .ok (.iload_n 1, 1) := by decide +kernel
theorem dX5_init_72 : decode cX5_init 72 = .ok (.bipush 40, 2) := by decide +kernel
theorem dX5_init_74 : decode cX5_init 74 = .ok (.if_icmp .ge 22, 3) := by decide +kernel
theorem dX5_init_77 : decode cX5_init 77 = .ok (.aload_n 0, 1) := by decide +kernel
theorem dX5_init_78 : decode cX5_init 78 = .ok (.getfield 11, 3) := by decide +kernel
theorem dX5_init_81 : decode cX5_init 81 = .ok (.iload_n 1, 1) := by decide +kernel
theorem dX5_init_82 : decode cX5_init 82 = .ok (.new 9, 3) := by decide +kernel
theorem dX5_init_85 : decode cX5_init 85 = .ok (.dup, 1) := by decide +kernel
theorem dX5_init_86 : decode cX5_init 86 = .ok (.invokespecial 43, 3) := by decide +kernel
theorem dX5_init_89 : decode cX5_init 89 = .ok (.aastore, 1) := by decide +kernel
theorem dX5_init_90 : decode cX5_init 90 = .ok (.iinc 1 1, 3) := by decide +kernel
theorem dX5_init_93 : decode cX5_init 93 = .ok (.goto (-22), 3) := by decide +kernel
theorem dX5_init_96 : decode cX5_init 96 = .ok (.iconst 0, 1) := by decide +kernel
theorem dX5_init_97 : decode cX5_init 97 = .ok (.istore_n 1, 1) := by decide +kernel
theorem dX5_init_98 : decode cX5_init 98 = .ok (.iload_n 1, 1) := by decide +kernel
theorem dX5_init_99 : decode cX5_init 99 = .ok (.bipush 64, 2) := by decide +kernel
theorem dX5_init_101 : decode cX5_init 101 = .ok (.if_icmp .ge 22, 3) := by decide +kernel
theorem dX5_init_104 : decode cX5_init 104 = .ok (.aload_n 0, 1) := by decide +kernel
theorem dX5_init_105 : decode cX5_init 105 = .ok (.getfield 25, 3) := by decide +kernel
theorem dX5_init_108 : decode cX5_init 108 = .ok (.iload_n 1, 1) := by decide +kernel
theorem dX5_init_109 : decode cX5_init 109 = .ok (.new 9, 3) := by decide +kernel
theorem dX5_init_112 : decode cX5_init 112 = .ok (.dup, 1) := by decide +kernel
theorem dX5_init_113 : decode cX5_init 113 = .ok (.invokespecial 43, 3) := by decide +kernel
theorem dX5_init_116 : decode cX5_init 116 = .ok (.aastore, 1) := by decide +kernel
theorem dX5_init_117 : decode cX5_init 117 = .ok (.iinc 1 1, 3) := by decide +kernel
theorem dX5_init_120 : decode cX5_init 120 = .ok (.goto (-22), 3) := by decide +kernel
theorem dX5_init_123 : decode cX5_init 123 = .ok (.return_, 1) := by decide +kernel
theorem dX5_find_0 : decode cX5_find 0 = .ok (.aload_n 0, 1) := by decide +kernel
theorem dX5_find_1 : decode cX5_find 1 = .ok (.iconst 0, 1) := by decide +kernel
theorem dX5_find_2 : decode cX5_find 2 = .ok (.putfield 21, 3) := by decide +kernel
theorem dX5_find_5 : decode cX5_find 5 = .ok (.aload_n 0, 1) := by decide +kernel
theorem dX5_find_6 : decode cX5_find 6 = .ok (.iconst 0, 1) := by decide +kernel
theorem dX5_find_7 : decode cX5_find 7 = .ok (.putfield 31, 3) := by decide +kernel
theorem dX5_find_10 : decode cX5_find 10 = .ok (.iconst 0, 1) := by decide +kernel
theorem dX5_find_11 : decode cX5_find 11 = .ok (.istore 5, 2) := by decide +kernel
theorem dX5_find_13 : decode cX5_find 13 = .ok (.iload 5, 2) := by decide +kernel
theorem dX5_find_15 : decode cX5_find 15 = .ok (.aload_n 2, 1) := by decide +kernel
theorem dX5_find_16 : decode cX5_find 16 = .ok (.getfield 44, 3) := by decide +kernel
theorem dX5_find_19 : decode cX5_find 19 = .ok (.if_icmp .ge 35, 3) := by decide +kernel
theorem dX5_find_22 : decode cX5_find 22 = .ok (.iload_n 3, 1) := by decide +kernel
theorem dX5_find_23 : decode cX5_find 23 = .ok (.iload 5, 2) := by decide +kernel
theorem dX5_find_25 : decode cX5_find 25 = .ok (.invokestatic 45, 3) := by decide +kernel
theorem dX5_find_28 : decode cX5_find 28 = .ok (.ifCond .ne 11, 3) := by decide +kernel
theorem dX5_find_31 : decode cX5_find 31 = .ok (.aload_n 0, 1) := by decide +kernel
theorem dX5_find_32 : decode cX5_find 32 = .ok (.aload_n 1, 1) := by decide +kernel
theorem dX5_find_33 : decode cX5_find 33 = .ok (.aload_n 2, 1) := by decide +kernel
theorem dX5_find_34 : decode cX5_find 34 = .ok (.iload 5, 2) := by decide +kernel
theorem dX5_find_36 : decode cX5_find 36 = .ok (.invokevirtual 49, 3) := by decide +kernel
theorem dX5_find_39 : decode cX5_find 39 = .ok (.aload_n 0, 1) := by decide +kernel
theorem dX5_find_40 : decode cX5_find 40 = .ok (.aload_n 1, 1) := by decide +kernel
theorem dX5_find_41 : decode cX5_find 41 = .ok (.aload 4, 2) := by decide +kernel
theorem dX5_find_43 : decode cX5_find 43 = .ok (.bipush 48, 2) := by decide +kernel
theorem dX5_find_45 : decode cX5_find 45 = .ok (.invokevirtual 53, 3) := by decide +kernel
theorem dX5_find_48 : decode cX5_find 48 = .ok (.iinc 5 1, 3) := by decide +kernel
theorem dX5_find_51 : decode cX5_find 51 = .ok (.goto (-38), 3) := by decide +kernel
theorem dX5_find_54 : decode cX5_find 54 = .ok (.aload_n 0, 1) := by decide +kernel
theorem dX5_find_55 : decode cX5_find 55 = .ok (.aload_n 1, 1) := by decide +kernel
theorem dX5_find_56 : decode cX5_find 56 = .ok (.aload 4, 2) := by decide +kernel
theorem dX5_find_58 : decode cX5_find 58 = .ok (.iconst 0, 1) := by decide +kernel
theorem dX5_find_59 : decode cX5_find 59 = .ok (.invokevirtual 53, 3) := by decide +kernel
theorem dX5_find_62 : decode cX5_find 62 = .ok (.iconst 0, 1) := by decide +kernel
theorem dX5_find_63 : decode cX5_find 63 = .ok (.istore 5, 2) := by decide +kernel
theorem dX5_find_65 : decode cX5_find 65 = .ok (.iload 5, 2) := by decide +kernel
theorem dX5_find_67 : decode cX5_find 67 = .ok (.aload_n 2, 1) := by decide +kernel
theorem dX5_find_68 : decode cX5_find 68 = .ok (.getfield 44, 3) := by decide +kernel
theorem dX5_find_71 : decode cX5_find 71 = .ok (.if_icmp .ge 42, 3) := by decide +kernel
theorem dX5_find_74 : decode cX5_find 74 = .ok (.aload_n 2, 1) := by decide +kernel
theorem dX5_find_75 : decode cX5_find 75 = .ok (.getfield 44, 3) := by decide +kernel
theorem dX5_find_78 : decode cX5_find 78 = .ok (.iconst 1, 1) := by decide +kernel
theorem dX5_find_79 : decode cX5_find 79 = .ok (.if_icmp .le 34, 3) := by decide +kernel
theorem dX5_find_82 : decode cX5_find 82 = .ok (.iload_n 3, 1) := by decide +kernel
theorem dX5_find_83 : decode cX5_find 83 = .ok (.iload 5, 2) := by decide +kernel
theorem dX5_find_85 : decode cX5_find 85 = .ok (.invokestatic 45, 3) := by decide +kernel
theorem dX5_find_88 : decode cX5_find 88 = .ok (.ifCond .ne 19, 3) := by decide +kernel
theorem dX5_find_91 : decode cX5_find 91 = .ok (.aload_n 0, 1) := by decide +kernel
theorem dX5_find_92 : decode cX5_find 92 = .ok (.aload_n 1, 1) := by decide +kernel
theorem dX5_find_93 : decode cX5_find 93 = .ok (.getfield 57, 3) := by decide +kernel
theorem dX5_find_96 : decode cX5_find 96 = .ok (.iconst 3, 1) := by decide +kernel
theorem dX5_find_97 : decode cX5_find 97 = .ok (.iaload, 1) := by decide +kernel
theorem dX5_find_98 : decode cX5_find 98 = .ok (.invokevirtual 62, 3) := by decide +kernel
theorem dX5_find_101 : decode cX5_find 101 = .ok (.aload_n 2, 1) := by decide +kernel
theorem dX5_find_102 : decode cX5_find 102 = .ok (.iload 5, 2) := by decide +kernel
theorem dX5_find_104 : decode cX5_find 104 = .ok (.invokevirtual 66, 3) := by decide +kernel
theorem dX5_find_107 : decode cX5_find 107 = .ok (.iinc 5 1, 3) := by decide +kernel
theorem dX5_find_110 : decode cX5_find 110 = .ok (.goto (-45), 3) := by decide +kernel
theorem dX5_find_113 : decode cX5_find 113 = .ok (.aload_n 0, 1) := by decide +kernel
theorem dX5_find_114 : decode cX5_find 114 = .ok (.aload_n 1, 1) := by decide +kernel
theorem dX5_find_115 : decode cX5_find 115 = .ok (.aload 4, 2) := by decide +kernel
theorem dX5_find_117 : decode cX5_find 117 = .ok (.iconst 0, 1) := by decide +kernel
theorem dX5_find_118 : decode cX5_find 118 = .ok (.invokevirtual 53, 3) := by decide +kernel
theorem dX5_find_121 : decode cX5_find 121 = .ok (.iconst 0, 1) := by decide +kernel
theorem dX5_find_122 : decode cX5_find 122 = .ok (.istore 5, 2) := by decide +kernel
theorem dX5_find_124 : decode cX5_find 124 = .ok (.iload 5, 2) := by decide +kernel
theorem dX5_find_126 : decode cX5_find 126 = .ok (.aload_n 2, 1) := by decide +kernel
theorem dX5_find_127 : decode cX5_find 127 = .ok (.getfield 44, 3) := by decide +kernel
theorem dX5_find_130 : decode cX5_find 130 = .ok (.if_icmp .gt 63, 3) := by decide +kernel
theorem dX5_find_133 : decode cX5_find 133 = .ok (.aload_n 2, 1) := by decide +kernel
theorem dX5_find_134 : decode cX5_find 134 = .ok (.getfield 44, 3) := by decide +kernel
theorem dX5_find_137 : decode cX5_find 137 = .ok (.bipush 8, 2) := by decide +kernel
theorem dX5_find_139 : decode cX5_find 139 = .ok (.if_icmp .ge 54, 3) := by decide +kernel
theorem dX5_find_142 : decode cX5_find 142 = .ok (.iconst 0, 1) := by decide +kernel
theorem dX5_find_143 : decode cX5_find 143 = .ok (.istore 6, 2) := by decide +kernel
theorem dX5_find_145 : decode cX5_find 145 = .ok (.iload 6, 2) := by decide +kernel
theorem dX5_find_147 : decode cX5_find 147 = .ok (.aload_n 1, 1) := by decide +kernel
theorem dX5_find_148 : decode cX5_find 148 = .ok (.getfield 70, 3) := by decide +kernel
theorem dX5_find_151 : decode cX5_find 151 = .ok (.if_icmp .ge 27, 3) := by decide +kernel
theorem dX5_find_154 : decode cX5_find 154 = .ok (.aload_n 0, 1) := by decide +kernel
theorem dX5_find_155 : decode cX5_find 155 = .ok (.aload_n 1, 1) := by decide +kernel
theorem dX5_find_156 : decode cX5_find 156 = .ok (.getfield 57, 3) := by decide +kernel
theorem dX5_find_159 : decode cX5_find 159 = .ok (.iconst 4, 1) := by decide +kernel
theorem dX5_find_160 : decode cX5_find 160 = .ok (.iaload, 1) := by decide +kernel
theorem dX5_find_161 : decode cX5_find 161 = .ok (.invokevirtual 62, 3) := by decide +kernel
theorem dX5_find_164 : decode cX5_find 164 = .ok (.aload_n 2, 1) := by decide +kernel
theorem dX5_find_165 : decode cX5_find 165 = .ok (.iload 5, 2) := by decide +kernel
theorem dX5_find_167 : decode cX5_find 167 = .ok (.iload 6, 2) := by decide +kernel
theorem dX5_find_169 : decode cX5_find 169 = .ok (.invokevirtual 73, 3) := by decide +kernel
theorem dX5_find_172 : decode cX5_find 172 = .ok (.iinc 6 1, 3) := by decide +kernel
theorem dX5_find_175 : decode cX5_find 175 = .ok (.goto (-30), 3) := by decide +kernel
theorem dX5_find_178 : decode cX5_find 178 = .ok (.aload_n 0, 1) := by decide +kernel
theorem dX5_find_179 : decode cX5_find 179 = .ok (.aload_n 1, 1) := by decide +kernel
theorem dX5_find_180 : decode cX5_find 180 = .ok (.aload 4, 2) := by decide +kernel
theorem dX5_find_182 : decode cX5_find 182 = .ok (.bipush 48, 2) := by decide +kernel
theorem dX5_find_184 : decode cX5_find 184 = .ok (.invokevirtual 53, 3) := by decide +kernel
theorem dX5_find_187 : decode cX5_find 187 = .ok (.iinc 5 1, 3) := by decide +kernel
theorem dX5_find_190 : decode cX5_find 190 = .ok (.goto (-66), 3) := by decide +kernel
theorem dX5_find_193 : decode cX5_find 193 = .ok (.aload_n 0, 1) := by decide +kernel
theorem dX5_find_194 : decode cX5_find 194 = .ok (.aload_n 1, 1) := by decide +kernel
theorem dX5_find_195 : decode cX5_find 195 = .ok (.aload 4, 2) := by decide +kernel
theorem dX5_find_197 : decode cX5_find 197 = .ok (.iconst 0, 1) := by decide +kernel
theorem dX5_find_198 : decode cX5_find 198 = .ok (.invokevirtual 53, 3) := by decide +kernel
theorem dX5_find_201 : decode cX5_find 201 = .ok (.return_, 1) := by decide +kernel
theorem dX5_placeOf_0 : decode cX5_placeOf 0 = .ok (.iconst 0, 1) := by decide +kernel
theorem dX5_placeOf_1 : decode cX5_placeOf 1 = .ok (.istore_n 2, 1) := by decide +kernel
theorem dX5_placeOf_2 : decode cX5_placeOf 2 = .ok (.iload_n 2, 1) := by decide +kernel
theorem dX5_placeOf_3 : decode cX5_placeOf 3 = .ok (.aload_n 0, 1) := by decide +kernel
theorem dX5_placeOf_4 : decode cX5_placeOf 4 = .ok (.getfield 21, 3) := by decide +kernel
theorem dX5_placeOf_7 : decode cX5_placeOf 7 = .ok (.if_icmp .ge 24, 3) := by decide +kernel
theorem dX5_placeOf_10 : decode cX5_placeOf 10 = .ok (.aload_n 0, 1) := by decide +kernel
theorem dX5_placeOf_11 : decode cX5_placeOf 11 = .ok (.getfield 11, 3) := by decide +kernel
theorem dX5_placeOf_14 : decode cX5_placeOf 14 = .ok (.iload_n 2, 1) := by decide +kernel
theorem dX5_placeOf_15 : decode cX5_placeOf 15 = .ok (.aaload, 1) := by decide +kernel
theorem dX5_placeOf_16 : decode cX5_placeOf 16 = .ok (.aload_n 1, 1) := by decide +kernel
theorem dX5_placeOf_17 : decode cX5_placeOf 17 = .ok (.invokevirtual 77, 3) := by decide +kernel
theorem dX5_placeOf_20 : decode cX5_placeOf 20 = .ok (.ifCond .ne 5, 3) := by decide +kernel
theorem dX5_placeOf_23 : decode cX5_placeOf 23 = .ok (.iload_n 2, 1) := by decide +kernel
theorem dX5_placeOf_24 : decode cX5_placeOf 24 = .ok (.ireturn, 1) := by decide +kernel
theorem dX5_placeOf_25 : decode cX5_placeOf 25 = .ok (.iinc 2 1, 3) := by decide +kernel
theorem dX5_placeOf_28 : decode cX5_placeOf 28 = .ok (.goto (-26), 3) := by decide +kernel
theorem dX5_placeOf_31 : decode cX5_placeOf 31 = .ok (.bipush (-4), 2) := by decide +kernel
theorem dX5_placeOf_33 : decode cX5_placeOf 33 = .ok (.ireturn, 1) := by decide +kernel
theorem dX5_addSwaps_0 : decode cX5_addSwaps 0 = .ok (.aload_n 2, 1) := by decide +kernel
theorem dX5_addSwaps_1 : decode cX5_addSwaps 1 = .ok (.getfield 81, 3) := by decide +kernel
theorem dX5_addSwaps_4 : decode cX5_addSwaps 4 = .ok (.iload_n 3, 1) := by decide +kernel
theorem dX5_addSwaps_5 : decode cX5_addSwaps 5 = .ok (.iaload, 1) := by decide +kernel
theorem dX5_addSwaps_6 : decode cX5_addSwaps 6 = .ok (.istore 4, 2) := by decide +kernel
theorem dX5_addSwaps_8 : decode cX5_addSwaps 8 = .ok (.iconst 0, 1) := by decide +kernel
theorem dX5_addSwaps_9 : decode cX5_addSwaps 9 = .ok (.istore 5, 2) := by decide +kernel
theorem dX5_addSwaps_11 : decode cX5_addSwaps 11 = .ok (.iload 5, 2) := by decide +kernel
theorem dX5_addSwaps_13 : decode cX5_addSwaps 13 = .ok (.aload_n 1, 1) := by decide +kernel
theorem dX5_addSwaps_14 : decode cX5_addSwaps 14 = .ok (.getfield 70, 3) := by decide +kernel
theorem dX5_addSwaps_17 : decode cX5_addSwaps 17 = .ok (.if_icmp .ge 50, 3) := by decide +kernel
theorem dX5_addSwaps_20 : decode cX5_addSwaps 20 = .ok (.aload_n 1, 1) := by decide +kernel
theorem dX5_addSwaps_21 : decode cX5_addSwaps 21 = .ok (.iload 4, 2) := by decide +kernel
theorem dX5_addSwaps_23 : decode cX5_addSwaps 23 = .ok (.iload 5, 2) := by decide +kernel
theorem dX5_addSwaps_25 : decode cX5_addSwaps 25 = .ok (.aload_n 1, 1) := by decide +kernel
theorem dX5_addSwaps_26 : decode cX5_addSwaps 26 = .ok (.getfield 57, 3) := by decide +kernel
theorem dX5_addSwaps_29 : decode cX5_addSwaps 29 = .ok (.invokevirtual 83, 3) := by decide +kernel
theorem dX5_addSwaps_32 : decode cX5_addSwaps 32 = .ok (.istore 6, 2) := by decide +kernel
theorem dX5_addSwaps_34 : decode cX5_addSwaps 34 = .ok (.iload 5, 2) := by decide +kernel
theorem dX5_addSwaps_36 : decode cX5_addSwaps 36 = .ok (.iload 4, 2) := by decide +kernel
theorem dX5_addSwaps_38 : decode cX5_addSwaps 38 = .ok (.if_icmp .eq 23, 3) := by decide +kernel
theorem dX5_addSwaps_41 : decode cX5_addSwaps 41 = .ok (.iload 6, 2) := by decide +kernel
theorem dX5_addSwaps_43 : decode cX5_addSwaps 43 = .ok (.bipush 100, 2) := by decide +kernel
theorem dX5_addSwaps_45 : decode cX5_addSwaps 45 = .ok (.if_icmp .ge 16, 3) := by decide +kernel
theorem dX5_addSwaps_48 : decode cX5_addSwaps 48 = .ok (.aload_n 0, 1) := by decide +kernel
theorem dX5_addSwaps_49 : decode cX5_addSwaps 49 = .ok (.iload 6, 2) := by decide +kernel
theorem dX5_addSwaps_51 : decode cX5_addSwaps 51 = .ok (.invokevirtual 62, 3) := by decide +kernel
theorem dX5_addSwaps_54 : decode cX5_addSwaps 54 = .ok (.aload_n 2, 1) := by decide +kernel
theorem dX5_addSwaps_55 : decode cX5_addSwaps 55 = .ok (.iload_n 3, 1) := by decide +kernel
theorem dX5_addSwaps_56 : decode cX5_addSwaps 56 = .ok (.iload 5, 2) := by decide +kernel
theorem dX5_addSwaps_58 : decode cX5_addSwaps 58 = .ok (.invokevirtual 87, 3) := by decide +kernel
theorem dX5_addSwaps_61 : decode cX5_addSwaps 61 = .ok (.iinc 5 1, 3) := by decide +kernel
theorem dX5_addSwaps_64 : decode cX5_addSwaps 64 = .ok (.goto (-53), 3) := by decide +kernel
theorem dX5_addSwaps_67 : decode cX5_addSwaps 67 = .ok (.return_, 1) := by decide +kernel
theorem dX5_nextTry_0 : decode cX5_nextTry 0 = .ok (.aload_n 0, 1) := by decide +kernel
theorem dX5_nextTry_1 : decode cX5_nextTry 1 = .ok (.getfield 31, 3) := by decide +kernel
theorem dX5_nextTry_4 : decode cX5_nextTry 4 = .ok (.bipush 63, 2) := by decide +kernel
theorem dX5_nextTry_6 : decode cX5_nextTry 6 = .ok (.invokestatic 90, 3) := by decide +kernel
theorem dX5_nextTry_9 : decode cX5_nextTry 9 = .ok (.istore_n 2, 1) := by decide +kernel
theorem dX5_nextTry_10 : decode cX5_nextTry 10 = .ok (.aload_n 0, 1) := by decide +kernel
theorem dX5_nextTry_11 : decode cX5_nextTry 11 = .ok (.getfield 28, 3) := by decide +kernel
theorem dX5_nextTry_14 : decode cX5_nextTry 14 = .ok (.iload_n 2, 1) := by decide +kernel
theorem dX5_nextTry_15 : decode cX5_nextTry 15 = .ok (.iload_n 1, 1) := by decide +kernel
theorem dX5_nextTry_16 : decode cX5_nextTry 16 = .ok (.iastore, 1) := by decide +kernel
theorem dX5_nextTry_17 : decode cX5_nextTry 17 = .ok (.aload_n 0, 1) := by decide +kernel
theorem dX5_nextTry_18 : decode cX5_nextTry 18 = .ok (.iload_n 2, 1) := by decide +kernel
theorem dX5_nextTry_19 : decode cX5_nextTry 19 = .ok (.iconst 1, 1) := by decide +kernel
theorem dX5_nextTry_20 : decode cX5_nextTry 20 = .ok (.iadd, 1) := by decide +kernel
theorem dX5_nextTry_21 : decode cX5_nextTry 21 = .ok (.putfield 31, 3) := by decide +kernel
theorem dX5_nextTry_24 : decode cX5_nextTry 24 = .ok (.aload_n 0, 1) := by decide +kernel
theorem dX5_nextTry_25 : decode cX5_nextTry 25 = .ok (.getfield 25, 3) := by decide +kernel
theorem dX5_nextTry_28 : decode cX5_nextTry 28 = .ok (.iload_n 2, 1) := by decide +kernel
theorem dX5_nextTry_29 : decode cX5_nextTry 29 = .ok (.aaload, 1) := by decide +kernel
theorem dX5_nextTry_30 : decode cX5_nextTry 30 = .ok (.areturn, 1) := by decide +kernel
theorem dX5_readTries_0 : decode cX5_readTries 0 = .ok (.aload_n 0, 1) := by decide +kernel
theorem dX5_readTries_1 : decode cX5_readTries 1 = .ok (.getfield 31, 3) := by decide +kernel
theorem dX5_readTries_4 : decode cX5_readTries 4 = .ok (.iload_n 3, 1) := by decide +kernel
theorem dX5_readTries_5 : decode cX5_readTries 5 = .ok (.if_icmp .gt 4, 3) := by decide +kernel
theorem dX5_readTries_8 : decode cX5_readTries 8 = .ok (.return_, 1) := by decide +kernel
theorem dX5_readTries_9 : decode cX5_readTries 9 = .ok (.aload_n 2, 1) := by decide +kernel
theorem dX5_readTries_10 : decode cX5_readTries 10 = .ok (.invokevirtual 96, 3) := by decide +kernel
theorem dX5_readTries_13 : decode cX5_readTries 13 = .ok (.iconst 0, 1) := by decide +kernel
theorem dX5_readTries_14 : decode cX5_readTries 14 = .ok (.istore 4, 2) := by decide +kernel
theorem dX5_readTries_16 : decode cX5_readTries 16 = .ok (.iload 4, 2) := by decide +kernel
theorem dX5_readTries_18 : decode cX5_readTries 18 = .ok (.aload_n 0, 1) := by decide +kernel
theorem dX5_readTries_19 : decode cX5_readTries 19 = .ok (.getfield 31, 3) := by decide +kernel
theorem dX5_readTries_22 : decode cX5_readTries 22 = .ok (.if_icmp .ge 25, 3) := by decide +kernel
theorem dX5_readTries_25 : decode cX5_readTries 25 = .ok (.aload_n 2, 1) := by decide +kernel
theorem dX5_readTries_26 : decode cX5_readTries 26 = .ok (.aload_n 1, 1) := by decide +kernel
theorem dX5_readTries_27 : decode cX5_readTries 27 = .ok (.aload_n 0, 1) := by decide +kernel
theorem dX5_readTries_28 : decode cX5_readTries 28 = .ok (.getfield 25, 3) := by decide +kernel
theorem dX5_readTries_31 : decode cX5_readTries 31 = .ok (.iload 4, 2) := by decide +kernel
theorem dX5_readTries_33 : decode cX5_readTries 33 = .ok (.aaload, 1) := by decide +kernel
theorem dX5_readTries_34 : decode cX5_readTries 34 = .ok (.lconst 1, 1) := by decide +kernel
theorem dX5_readTries_35 : decode cX5_readTries 35 = .ok (.iload 4, 2) := by decide +kernel
theorem dX5_readTries_37 : decode cX5_readTries 37 = .ok (.lshl, 1) := by decide +kernel
theorem dX5_readTries_38 : decode cX5_readTries 38 = .ok (.invokevirtual 101, 3) := by decide +kernel
theorem dX5_readTries_41 : decode cX5_readTries 41 = .ok (.iinc 4 1, 3) := by decide +kernel
theorem dX5_readTries_44 : decode cX5_readTries 44 = .ok (.goto (-28), 3) := by decide +kernel
theorem dX5_readTries_47 : decode cX5_readTries 47 = .ok (.aload_n 2, 1) := by decide +kernel
theorem dX5_readTries_48 : decode cX5_readTries 48 = .ok (.aload_n 1, 1) := by decide +kernel
theorem dX5_readTries_49 : decode cX5_readTries 49 = .ok (.aload_n 0, 1) := by decide +kernel
theorem dX5_readTries_50 : decode cX5_readTries 50 = .ok (.getfield 25, 3) := by decide +kernel
theorem dX5_readTries_53 : decode cX5_readTries 53 = .ok (.iconst 0, 1) := by decide +kernel
theorem dX5_readTries_54 : decode cX5_readTries 54 = .ok (.aaload, 1) := by decide +kernel
theorem dX5_readTries_55 : decode cX5_readTries 55 = .ok (.getfield 44, 3) := by decide +kernel
theorem dX5_readTries_58 : decode cX5_readTries 58 = .ok (.invokevirtual 105, 3) := by decide +kernel
theorem dX5_readTries_61 : decode cX5_readTries 61 = .ok (.aload_n 2, 1) := by decide +kernel
theorem dX5_readTries_62 : decode cX5_readTries 62 = .ok (.aload_n 0, 1) := by decide +kernel
theorem dX5_readTries_63 : decode cX5_readTries 63 = .ok (.getfield 25, 3) := by decide +kernel
theorem dX5_readTries_66 : decode cX5_readTries 66 = .ok (.iconst 0, 1) := by decide +kernel
theorem dX5_readTries_67 : decode cX5_readTries 67 = .ok (.aaload, 1) := by decide +kernel
theorem dX5_readTries_68 : decode cX5_readTries 68 = .ok (.getfield 44, 3) := by decide +kernel
theorem dX5_readTries_71 : decode cX5_readTries 71 = .ok (.invokevirtual 109, 3) := by decide +kernel
theorem dX5_readTries_74 : decode cX5_readTries 74 = .ok (.lstore 4, 2) := by decide +kernel
theorem dX5_readTries_76 : decode cX5_readTries 76 = .ok (.iconst 0, 1) := by decide +kernel
theorem dX5_readTries_77 : decode cX5_readTries 77 = .ok (.istore 6, 2) := by decide +kernel
theorem dX5_readTries_79 : decode cX5_readTries 79 = .ok (.iload 6, 2) := by decide +kernel
theorem dX5_readTries_81 : decode cX5_readTries 81 = .ok (.aload_n 0, 1) := by decide +kernel
theorem dX5_readTries_82 : decode cX5_readTries 82 = .ok (.getfield 31, 3) := by decide +kernel
theorem dX5_readTries_85 : decode cX5_readTries 85 = .ok (.if_icmp .ge 39, 3) := by decide +kernel
theorem dX5_readTries_88 : decode cX5_readTries 88 = .ok (.lload 4, 2) := by decide +kernel
theorem dX5_readTries_90 : decode cX5_readTries 90 = .ok (.iload 6, 2) := by decide +kernel
theorem dX5_readTries_92 : decode cX5_readTries 92 = .ok (.lushr, 1) := by decide +kernel
theorem dX5_readTries_93 : decode cX5_readTries 93 = .ok (.lconst 1, 1) := by decide +kernel
theorem dX5_readTries_94 : decode cX5_readTries 94 = .ok (.land, 1) := by decide +kernel
theorem dX5_readTries_95 : decode cX5_readTries 95 = .ok (.lconst 1, 1) := by decide +kernel
theorem dX5_readTries_96 : decode cX5_readTries 96 = .ok (.lcmp, 1) := by decide +kernel
theorem dX5_readTries_97 : decode cX5_readTries 97 = .ok (.ifCond .ne 21, 3) := by decide +kernel
theorem dX5_readTries_100 : decode cX5_readTries 100 = .ok (.aload_n 0, 1) := by decide +kernel
theorem dX5_readTries_101 : decode cX5_readTries 101 = .ok (.aload_n 0, 1) := by decide +kernel
theorem dX5_readTries_102 : decode cX5_readTries 102 = .ok (.getfield 25, 3) := by decide +kernel
theorem dX5_readTries_105 : decode cX5_readTries 105 = .ok (.iload 6, 2) := by decide +kernel
theorem dX5_readTries_107 : decode cX5_readTries 107 = .ok (.aaload, 1) := by decide +kernel
theorem dX5_readTries_108 : decode cX5_readTries 108 = .ok (.aload_n 0, 1) := by decide +kernel
theorem dX5_readTries_109 : decode cX5_readTries 109 = .ok (.getfield 28, 3) := by decide +kernel
theorem dX5_readTries_112 : decode cX5_readTries 112 = .ok (.iload 6, 2) := by decide +kernel
theorem dX5_readTries_114 : decode cX5_readTries 114 = .ok (.iaload, 1) := by decide +kernel
theorem dX5_readTries_115 : decode cX5_readTries 115 = .ok (.invokevirtual 113, 3) := by decide +kernel
theorem dX5_readTries_118 : decode cX5_readTries 118 = .ok (.iinc 6 1, 3) := by decide +kernel
theorem dX5_readTries_121 : decode cX5_readTries 121 = .ok (.goto (-42), 3) := by decide +kernel
theorem dX5_readTries_124 : decode cX5_readTries 124 = .ok (.aload_n 0, 1) := by decide +kernel
theorem dX5_readTries_125 : decode cX5_readTries 125 = .ok (.iconst 0, 1) := by decide +kernel
theorem dX5_readTries_126 : decode cX5_readTries 126 = .ok (.putfield 31, 3) := by decide +kernel
theorem dX5_readTries_129 : decode cX5_readTries 129 = .ok (.return_, 1) := by decide +kernel
theorem dX5_insert_0 : decode cX5_insert 0 = .ok (.iconst 0, 1) := by decide +kernel
theorem dX5_insert_1 : decode cX5_insert 1 = .ok (.istore_n 3, 1) := by decide +kernel
theorem dX5_insert_2 : decode cX5_insert 2 = .ok (.iload_n 3, 1) := by decide +kernel
theorem dX5_insert_3 : decode cX5_insert 3 = .ok (.aload_n 0, 1) := by decide +kernel
theorem dX5_insert_4 : decode cX5_insert 4 = .ok (.getfield 21, 3) := by decide +kernel
theorem dX5_insert_7 : decode cX5_insert 7 = .ok (.if_icmp .ge 19, 3) := by decide +kernel
theorem dX5_insert_10 : decode cX5_insert 10 = .ok (.aload_n 0, 1) := by decide +kernel
theorem dX5_insert_11 : decode cX5_insert 11 = .ok (.iload_n 3, 1) := by decide +kernel
theorem dX5_insert_12 : decode cX5_insert 12 = .ok (.aload_n 1, 1) := by decide +kernel
theorem dX5_insert_13 : decode cX5_insert 13 = .ok (.iload_n 2, 1) := by decide +kernel
theorem dX5_insert_14 : decode cX5_insert 14 = .ok (.invokevirtual 116, 3) := by decide +kernel
theorem dX5_insert_17 : decode cX5_insert 17 = .ok (.ifCond .ge 9, 3) := by decide +kernel
theorem dX5_insert_20 : decode cX5_insert 20 = .ok (.iinc 3 1, 3) := by decide +kernel
theorem dX5_insert_23 : decode cX5_insert 23 = .ok (.goto (-21), 3) := by decide +kernel
theorem dX5_insert_26 : decode cX5_insert 26 = .ok (.iload_n 3, 1) := by decide +kernel
theorem dX5_insert_27 : decode cX5_insert 27 = .ok (.bipush 40, 2) := by decide +kernel
theorem dX5_insert_29 : decode cX5_insert 29 = .ok (.if_icmp .eq 21, 3) := by decide +kernel
theorem dX5_insert_32 : decode cX5_insert 32 = .ok (.iload_n 3, 1) := by decide +kernel
theorem dX5_insert_33 : decode cX5_insert 33 = .ok (.aload_n 0, 1) := by decide +kernel
theorem dX5_insert_34 : decode cX5_insert 34 = .ok (.getfield 21, 3) := by decide +kernel
theorem dX5_insert_37 : decode cX5_insert 37 = .ok (.if_icmp .ge 14, 3) := by decide +kernel
theorem dX5_insert_40 : decode cX5_insert 40 = .ok (.aload_n 0, 1) := by decide +kernel
theorem dX5_insert_41 : decode cX5_insert 41 = .ok (.iload_n 3, 1) := by decide +kernel
theorem dX5_insert_42 : decode cX5_insert 42 = .ok (.aload_n 1, 1) := by decide +kernel
theorem dX5_insert_43 : decode cX5_insert 43 = .ok (.iload_n 2, 1) := by decide +kernel
theorem dX5_insert_44 : decode cX5_insert 44 = .ok (.invokevirtual 116, 3) := by decide +kernel
theorem dX5_insert_47 : decode cX5_insert 47 = .ok (.ifCond .ne 4, 3) := by decide +kernel
theorem dX5_insert_50 : decode cX5_insert 50 = .ok (.return_, 1) := by decide +kernel
theorem dX5_insert_51 : decode cX5_insert 51 = .ok (.aload_n 0, 1) := by decide +kernel
theorem dX5_insert_52 : decode cX5_insert 52 = .ok (.getfield 21, 3) := by decide +kernel
theorem dX5_insert_55 : decode cX5_insert 55 = .ok (.bipush 40, 2) := by decide +kernel
theorem dX5_insert_57 : decode cX5_insert 57 = .ok (.if_icmp .ge 13, 3) := by decide +kernel
theorem dX5_insert_60 : decode cX5_insert 60 = .ok (.aload_n 0, 1) := by decide +kernel
theorem dX5_insert_61 : decode cX5_insert 61 = .ok (.dup, 1) := by decide +kernel
theorem dX5_insert_62 : decode cX5_insert 62 = .ok (.getfield 21, 3) := by decide +kernel
theorem dX5_insert_65 : decode cX5_insert 65 = .ok (.iconst 1, 1) := by decide +kernel
theorem dX5_insert_66 : decode cX5_insert 66 = .ok (.iadd, 1) := by decide +kernel
theorem dX5_insert_67 : decode cX5_insert 67 = .ok (.putfield 21, 3) := by decide +kernel
theorem dX5_insert_70 : decode cX5_insert 70 = .ok (.aload_n 0, 1) := by decide +kernel
theorem dX5_insert_71 : decode cX5_insert 71 = .ok (.getfield 11, 3) := by decide +kernel
theorem dX5_insert_74 : decode cX5_insert 74 = .ok (.aload_n 0, 1) := by decide +kernel
theorem dX5_insert_75 : decode cX5_insert 75 = .ok (.getfield 21, 3) := by decide +kernel
theorem dX5_insert_78 : decode cX5_insert 78 = .ok (.iconst 1, 1) := by decide +kernel
theorem dX5_insert_79 : decode cX5_insert 79 = .ok (.isub, 1) := by decide +kernel
theorem dX5_insert_80 : decode cX5_insert 80 = .ok (.aaload, 1) := by decide +kernel
theorem dX5_insert_81 : decode cX5_insert 81 = .ok (.astore 4, 2) := by decide +kernel
theorem dX5_insert_83 : decode cX5_insert 83 = .ok (.aload_n 0, 1) := by decide +kernel
theorem dX5_insert_84 : decode cX5_insert 84 = .ok (.getfield 21, 3) := by decide +kernel
theorem dX5_insert_87 : decode cX5_insert 87 = .ok (.iconst 1, 1) := by decide +kernel
theorem dX5_insert_88 : decode cX5_insert 88 = .ok (.isub, 1) := by decide +kernel
theorem dX5_insert_89 : decode cX5_insert 89 = .ok (.istore 5, 2) := by decide +kernel
theorem dX5_insert_91 : decode cX5_insert 91 = .ok (.iload 5, 2) := by decide +kernel
theorem dX5_insert_93 : decode cX5_insert 93 = .ok (.iload_n 3, 1) := by decide +kernel
theorem dX5_insert_94 : decode cX5_insert 94 = .ok (.if_icmp .le 41, 3) := by decide +kernel
theorem dX5_insert_97 : decode cX5_insert 97 = .ok (.aload_n 0, 1) := by decide +kernel
theorem dX5_insert_98 : decode cX5_insert 98 = .ok (.getfield 11, 3) := by decide +kernel
theorem dX5_insert_101 : decode cX5_insert 101 = .ok (.iload 5, 2) := by decide +kernel
theorem dX5_insert_103 : decode cX5_insert 103 = .ok (.aload_n 0, 1) := by decide +kernel
theorem dX5_insert_104 : decode cX5_insert 104 = .ok (.getfield 11, 3) := by decide +kernel
theorem dX5_insert_107 : decode cX5_insert 107 = .ok (.iload 5, 2) := by decide +kernel
theorem dX5_insert_109 : decode cX5_insert 109 = .ok (.iconst 1, 1) := by decide +kernel
theorem dX5_insert_110 : decode cX5_insert 110 = .ok (.isub, 1) := by decide +kernel
theorem dX5_insert_111 : decode cX5_insert 111 = .ok (.aaload, 1) := by decide +kernel
theorem dX5_insert_112 : decode cX5_insert 112 = .ok (.aastore, 1) := by decide +kernel
theorem dX5_insert_113 : decode cX5_insert 113 = .ok (.aload_n 0, 1) := by decide +kernel
theorem dX5_insert_114 : decode cX5_insert 114 = .ok (.getfield 17, 3) := by decide +kernel
theorem dX5_insert_117 : decode cX5_insert 117 = .ok (.iload 5, 2) := by decide +kernel
theorem dX5_insert_119 : decode cX5_insert 119 = .ok (.aload_n 0, 1) := by decide +kernel
theorem dX5_insert_120 : decode cX5_insert 120 = .ok (.getfield 17, 3) := by decide +kernel
theorem dX5_insert_123 : decode cX5_insert 123 = .ok (.iload 5, 2) := by decide +kernel
theorem dX5_insert_125 : decode cX5_insert 125 = .ok (.iconst 1, 1) := by decide +kernel
theorem dX5_insert_126 : decode cX5_insert 126 = .ok (.isub, 1) := by decide +kernel
theorem dX5_insert_127 : decode cX5_insert 127 = .ok (.iaload, 1) := by decide +kernel
theorem dX5_insert_128 : decode cX5_insert 128 = .ok (.iastore, 1) := by decide +kernel
theorem dX5_insert_129 : decode cX5_insert 129 = .ok (.iinc 5 (-1), 3) := by decide +kernel
theorem dX5_insert_132 : decode cX5_insert 132 = .ok (.goto (-41), 3) := by decide +kernel
theorem dX5_insert_135 : decode cX5_insert 135 = .ok (.aload_n 0, 1) := by decide +kernel
theorem dX5_insert_136 : decode cX5_insert 136 = .ok (.getfield 11, 3) := by decide +kernel
theorem dX5_insert_139 : decode cX5_insert 139 = .ok (.iload_n 3, 1) := by decide +kernel
theorem dX5_insert_140 : decode cX5_insert 140 = .ok (.aload 4, 2) := by decide +kernel
theorem dX5_insert_142 : decode cX5_insert 142 = .ok (.aastore, 1) := by decide +kernel
theorem dX5_insert_143 : decode cX5_insert 143 = .ok (.aload 4, 2) := by decide +kernel
theorem dX5_insert_145 : decode cX5_insert 145 = .ok (.aload_n 1, 1) := by decide +kernel
theorem dX5_insert_146 : decode cX5_insert 146 = .ok (.invokevirtual 120, 3) := by decide +kernel
theorem dX5_insert_149 : decode cX5_insert 149 = .ok (.aload_n 0, 1) := by decide +kernel
theorem dX5_insert_150 : decode cX5_insert 150 = .ok (.getfield 17, 3) := by decide +kernel
theorem dX5_insert_153 : decode cX5_insert 153 = .ok (.iload_n 3, 1) := by decide +kernel
theorem dX5_insert_154 : decode cX5_insert 154 = .ok (.iload_n 2, 1) := by decide +kernel
theorem dX5_insert_155 : decode cX5_insert 155 = .ok (.iastore, 1) := by decide +kernel
theorem dX5_insert_156 : decode cX5_insert 156 = .ok (.return_, 1) := by decide +kernel
theorem dX5_orderAt_0 : decode cX5_orderAt 0 = .ok (.aload_n 0, 1) := by decide +kernel
theorem dX5_orderAt_1 : decode cX5_orderAt 1 = .ok (.getfield 17, 3) := by decide +kernel
theorem dX5_orderAt_4 : decode cX5_orderAt 4 = .ok (.iload_n 1, 1) := by decide +kernel
theorem dX5_orderAt_5 : decode cX5_orderAt 5 = .ok (.iaload, 1) := by decide +kernel
theorem dX5_orderAt_6 : decode cX5_orderAt 6 = .ok (.iload_n 3, 1) := by decide +kernel
theorem dX5_orderAt_7 : decode cX5_orderAt 7 = .ok (.if_icmp .eq 14, 3) := by decide +kernel
theorem dX5_orderAt_10 : decode cX5_orderAt 10 = .ok (.aload_n 0, 1) := by decide +kernel
theorem dX5_orderAt_11 : decode cX5_orderAt 11 = .ok (.getfield 17, 3) := by decide +kernel
theorem dX5_orderAt_14 : decode cX5_orderAt 14 = .ok (.iload_n 1, 1) := by decide +kernel
theorem dX5_orderAt_15 : decode cX5_orderAt 15 = .ok (.iaload, 1) := by decide +kernel
theorem dX5_orderAt_16 : decode cX5_orderAt 16 = .ok (.iload_n 3, 1) := by decide +kernel
theorem dX5_orderAt_17 : decode cX5_orderAt 17 = .ok (.isub, 1) := by decide +kernel
theorem dX5_orderAt_18 : decode cX5_orderAt 18 = .ok (.goto 13, 3) := by decide +kernel
theorem dX5_orderAt_21 : decode cX5_orderAt 21 = .ok (.aload_n 0, 1) := by decide +kernel
theorem dX5_orderAt_22 : decode cX5_orderAt 22 = .ok (.getfield 11, 3) := by decide +kernel
theorem dX5_orderAt_25 : decode cX5_orderAt 25 = .ok (.iload_n 1, 1) := by decide +kernel
theorem dX5_orderAt_26 : decode cX5_orderAt 26 = .ok (.aaload, 1) := by decide +kernel
theorem dX5_orderAt_27 : decode cX5_orderAt 27 = .ok (.aload_n 2, 1) := by decide +kernel
theorem dX5_orderAt_28 : decode cX5_orderAt 28 = .ok (.invokevirtual 77, 3) := by decide +kernel
theorem dX5_orderAt_31 : decode cX5_orderAt 31 = .ok (.ireturn, 1) := by decide +kernel
theorem dX5_gatherHeaps_0 : decode cX5_gatherHeaps 0 = .ok (.aload_n 0, 1) := by decide +kernel
theorem dX5_gatherHeaps_1 : decode cX5_gatherHeaps 1 = .ok (.iconst 0, 1) := by decide +kernel
theorem dX5_gatherHeaps_2 : decode cX5_gatherHeaps 2 = .ok (.putfield 37, 3) := by decide +kernel
theorem dX5_gatherHeaps_5 : decode cX5_gatherHeaps 5 = .ok (.iconst 0, 1) := by decide +kernel
theorem dX5_gatherHeaps_6 : decode cX5_gatherHeaps 6 = .ok (.istore_n 2, 1) := by decide +kernel
theorem dX5_gatherHeaps_7 : decode cX5_gatherHeaps 7 = .ok (.iload_n 2, 1) := by decide +kernel
theorem dX5_gatherHeaps_8 : decode cX5_gatherHeaps 8 = .ok (.aload_n 0, 1) := by decide +kernel
theorem dX5_gatherHeaps_9 : decode cX5_gatherHeaps 9 = .ok (.getfield 21, 3) := by decide +kernel
theorem dX5_gatherHeaps_12 : decode cX5_gatherHeaps 12 = .ok (.if_icmp .ge 43, 3) := by decide +kernel
theorem dX5_gatherHeaps_15 : decode cX5_gatherHeaps 15 = .ok (.aload_n 0, 1) := by decide +kernel
theorem dX5_gatherHeaps_16 : decode cX5_gatherHeaps 16 = .ok (.aload_n 1, 1) := by decide +kernel
theorem dX5_gatherHeaps_17 : decode cX5_gatherHeaps 17 = .ok (.aload_n 0, 1) := by decide +kernel
theorem dX5_gatherHeaps_18 : decode cX5_gatherHeaps 18 = .ok (.getfield 11, 3) := by decide +kernel
theorem dX5_gatherHeaps_21 : decode cX5_gatherHeaps 21 = .ok (.iload_n 2, 1) := by decide +kernel
theorem dX5_gatherHeaps_22 : decode cX5_gatherHeaps 22 = .ok (.aaload, 1) := by decide +kernel
theorem dX5_gatherHeaps_23 : decode cX5_gatherHeaps 23 = .ok (.invokevirtual 124, 3) := by decide +kernel
theorem dX5_gatherHeaps_26 : decode cX5_gatherHeaps 26 = .ok (.ifCond .ne 23, 3) := by decide +kernel
theorem dX5_gatherHeaps_29 : decode cX5_gatherHeaps 29 = .ok (.aload_n 0, 1) := by decide +kernel
theorem dX5_gatherHeaps_30 : decode cX5_gatherHeaps 30 = .ok (.getfield 34, 3) := by decide +kernel
theorem dX5_gatherHeaps_33 : decode cX5_gatherHeaps 33 = .ok (.aload_n 0, 1) := by decide +kernel
theorem dX5_gatherHeaps_34 : decode cX5_gatherHeaps 34 = .ok (.getfield 37, 3) := by decide +kernel
theorem dX5_gatherHeaps_37 : decode cX5_gatherHeaps 37 = .ok (.iload_n 2, 1) := by decide +kernel
theorem dX5_gatherHeaps_38 : decode cX5_gatherHeaps 38 = .ok (.iastore, 1) := by decide +kernel
theorem dX5_gatherHeaps_39 : decode cX5_gatherHeaps 39 = .ok (.aload_n 0, 1) := by decide +kernel
theorem dX5_gatherHeaps_40 : decode cX5_gatherHeaps 40 = .ok (.dup, 1) := by decide +kernel
theorem dX5_gatherHeaps_41 : decode cX5_gatherHeaps 41 = .ok (.getfield 37, 3) := by decide +kernel
theorem dX5_gatherHeaps_44 : decode cX5_gatherHeaps 44 = .ok (.iconst 1, 1) := by decide +kernel
theorem dX5_gatherHeaps_45 : decode cX5_gatherHeaps 45 = .ok (.iadd, 1) := by decide +kernel
theorem dX5_gatherHeaps_46 : decode cX5_gatherHeaps 46 = .ok (.putfield 37, 3) := by decide +kernel
theorem dX5_gatherHeaps_49 : decode cX5_gatherHeaps 49 = .ok (.iinc 2 1, 3) := by decide +kernel
theorem dX5_gatherHeaps_52 : decode cX5_gatherHeaps 52 = .ok (.goto (-45), 3) := by decide +kernel
theorem dX5_gatherHeaps_55 : decode cX5_gatherHeaps 55 = .ok (.return_, 1) := by decide +kernel
theorem dX5_isHeaped_0 : decode cX5_isHeaped 0 = .ok (.iconst 0, 1) := by decide +kernel
theorem dX5_isHeaped_1 : decode cX5_isHeaped 1 = .ok (.istore_n 3, 1) := by decide +kernel
theorem dX5_isHeaped_2 : decode cX5_isHeaped 2 = .ok (.iload_n 3, 1) := by decide +kernel
theorem dX5_isHeaped_3 : decode cX5_isHeaped 3 = .ok (.aload_n 0, 1) := by decide +kernel
theorem dX5_isHeaped_4 : decode cX5_isHeaped 4 = .ok (.getfield 37, 3) := by decide +kernel
theorem dX5_isHeaped_7 : decode cX5_isHeaped 7 = .ok (.if_icmp .ge 30, 3) := by decide +kernel
theorem dX5_isHeaped_10 : decode cX5_isHeaped 10 = .ok (.aload_n 2, 1) := by decide +kernel
theorem dX5_isHeaped_11 : decode cX5_isHeaped 11 = .ok (.aload_n 1, 1) := by decide +kernel
theorem dX5_isHeaped_12 : decode cX5_isHeaped 12 = .ok (.aload_n 0, 1) := by decide +kernel
theorem dX5_isHeaped_13 : decode cX5_isHeaped 13 = .ok (.getfield 11, 3) := by decide +kernel
theorem dX5_isHeaped_16 : decode cX5_isHeaped 16 = .ok (.aload_n 0, 1) := by decide +kernel
theorem dX5_isHeaped_17 : decode cX5_isHeaped 17 = .ok (.getfield 34, 3) := by decide +kernel
theorem dX5_isHeaped_20 : decode cX5_isHeaped 20 = .ok (.iload_n 3, 1) := by decide +kernel
theorem dX5_isHeaped_21 : decode cX5_isHeaped 21 = .ok (.iaload, 1) := by decide +kernel
theorem dX5_isHeaped_22 : decode cX5_isHeaped 22 = .ok (.aaload, 1) := by decide +kernel
theorem dX5_isHeaped_23 : decode cX5_isHeaped 23 = .ok (.invokevirtual 128, 3) := by decide +kernel
theorem dX5_isHeaped_26 : decode cX5_isHeaped 26 = .ok (.ifCond .eq 5, 3) := by decide +kernel
theorem dX5_isHeaped_29 : decode cX5_isHeaped 29 = .ok (.iconst 1, 1) := by decide +kernel
theorem dX5_isHeaped_30 : decode cX5_isHeaped 30 = .ok (.ireturn, 1) := by decide +kernel
theorem dX5_isHeaped_31 : decode cX5_isHeaped 31 = .ok (.iinc 3 1, 3) := by decide +kernel
theorem dX5_isHeaped_34 : decode cX5_isHeaped 34 = .ok (.goto (-32), 3) := by decide +kernel
theorem dX5_isHeaped_37 : decode cX5_isHeaped 37 = .ok (.iconst 0, 1) := by decide +kernel
theorem dX5_isHeaped_38 : decode cX5_isHeaped 38 = .ok (.ireturn, 1) := by decide +kernel
theorem dX5_firstStandsOut_0 : decode cX5_firstStandsOut 0 = .ok (.aload_n 0, 1) := by decide +kernel
theorem dX5_firstStandsOut_1 : decode cX5_firstStandsOut 1 = .ok (.getfield 37, 3) := by decide +kernel
theorem dX5_firstStandsOut_4 : decode cX5_firstStandsOut 4 = .ok (.iconst 1, 1) := by decide +kernel
theorem dX5_firstStandsOut_5 : decode cX5_firstStandsOut 5 = .ok (.if_icmp .eq 38, 3) := by decide +kernel
theorem dX5_firstStandsOut_8 : decode cX5_firstStandsOut 8 = .ok (.aload_n 0, 1) := by decide +kernel
theorem dX5_firstStandsOut_9 : decode cX5_firstStandsOut 9 = .ok (.getfield 37, 3) := by decide +kernel
theorem dX5_firstStandsOut_12 : decode cX5_firstStandsOut 12 = .ok (.iconst 1, 1) := by decide +kernel
theorem dX5_firstStandsOut_13 : decode cX5_firstStandsOut 13 = .ok (.if_icmp .le 34, 3) := by decide +kernel
theorem dX5_firstStandsOut_16 : decode cX5_firstStandsOut 16 = .ok (.aload_n 0, 1) := by decide +kernel
theorem dX5_firstStandsOut_17 : decode cX5_firstStandsOut 17 = .ok (.getfield 17, 3) := by decide +kernel
theorem dX5_firstStandsOut_20 : decode cX5_firstStandsOut 20 = .ok (.aload_n 0, 1) := by decide +kernel
theorem dX5_firstStandsOut_21 : decode cX5_firstStandsOut 21 = .ok (.getfield 34, 3) := by decide +kernel
theorem dX5_firstStandsOut_24 : decode cX5_firstStandsOut 24 = .ok (.iconst 1, 1) := by decide +kernel
theorem dX5_firstStandsOut_25 : decode cX5_firstStandsOut 25 = .ok (.iaload, 1) := by decide +kernel
theorem dX5_firstStandsOut_26 : decode cX5_firstStandsOut 26 = .ok (.iaload, 1) := by decide +kernel
theorem dX5_firstStandsOut_27 : decode cX5_firstStandsOut 27 = .ok (.aload_n 0, 1) := by decide +kernel
theorem dX5_firstStandsOut_28 : decode cX5_firstStandsOut 28 = .ok (.getfield 17, 3) := by decide +kernel
theorem dX5_firstStandsOut_31 : decode cX5_firstStandsOut 31 = .ok (.aload_n 0, 1) := by decide +kernel
theorem dX5_firstStandsOut_32 : decode cX5_firstStandsOut 32 = .ok (.getfield 34, 3) := by decide +kernel
theorem dX5_firstStandsOut_35 : decode cX5_firstStandsOut 35 = .ok (.iconst 0, 1) := by decide +kernel
theorem dX5_firstStandsOut_36 : decode cX5_firstStandsOut 36 = .ok (.iaload, 1) := by decide +kernel
theorem dX5_firstStandsOut_37 : decode cX5_firstStandsOut 37 = .ok (.iaload, 1) := by decide +kernel
theorem dX5_firstStandsOut_38 : decode cX5_firstStandsOut 38 = .ok (.isub, 1) := by decide +kernel
theorem dX5_firstStandsOut_39 : decode cX5_firstStandsOut 39 = .ok (.iload_n 1, 1) := by decide +kernel
theorem dX5_firstStandsOut_40 : decode cX5_firstStandsOut 40 = .ok (.if_icmp .lt 7, 3) := by decide +kernel
theorem dX5_firstStandsOut_43 : decode cX5_firstStandsOut 43 = .ok (.iconst 1, 1) := by decide +kernel
theorem dX5_firstStandsOut_44 : decode cX5_firstStandsOut 44 = .ok (.goto 4, 3) := by decide +kernel
theorem dX5_firstStandsOut_47 : decode cX5_firstStandsOut 47 = .ok (.iconst 0, 1) := by decide +kernel
theorem dX5_firstStandsOut_48 : decode cX5_firstStandsOut 48 = .ok (.ireturn, 1) := by decide +kernel
theorem dX5_askedPlace_0 : decode cX5_askedPlace 0 = .ok (.iconst 0, 1) := by decide +kernel
theorem dX5_askedPlace_1 : decode cX5_askedPlace 1 = .ok (.istore_n 2, 1) := by decide +kernel
theorem dX5_askedPlace_2 : decode cX5_askedPlace 2 = .ok (.iconst 1, 1) := by decide +kernel
theorem dX5_askedPlace_3 : decode cX5_askedPlace 3 = .ok (.istore_n 3, 1) := by decide +kernel
theorem dX5_askedPlace_4 : decode cX5_askedPlace 4 = .ok (.iload_n 3, 1) := by decide +kernel
theorem dX5_askedPlace_5 : decode cX5_askedPlace 5 = .ok (.bipush 8, 2) := by decide +kernel
theorem dX5_askedPlace_7 : decode cX5_askedPlace 7 = .ok (.if_icmp .ge 26, 3) := by decide +kernel
theorem dX5_askedPlace_10 : decode cX5_askedPlace 10 = .ok (.aload_n 0, 1) := by decide +kernel
theorem dX5_askedPlace_11 : decode cX5_askedPlace 11 = .ok (.aload_n 1, 1) := by decide +kernel
theorem dX5_askedPlace_12 : decode cX5_askedPlace 12 = .ok (.iload_n 3, 1) := by decide +kernel
theorem dX5_askedPlace_13 : decode cX5_askedPlace 13 = .ok (.invokevirtual 131, 3) := by decide +kernel
theorem dX5_askedPlace_16 : decode cX5_askedPlace 16 = .ok (.aload_n 0, 1) := by decide +kernel
theorem dX5_askedPlace_17 : decode cX5_askedPlace 17 = .ok (.aload_n 1, 1) := by decide +kernel
theorem dX5_askedPlace_18 : decode cX5_askedPlace 18 = .ok (.iload_n 2, 1) := by decide +kernel
theorem dX5_askedPlace_19 : decode cX5_askedPlace 19 = .ok (.invokevirtual 131, 3) := by decide +kernel
theorem dX5_askedPlace_22 : decode cX5_askedPlace 22 = .ok (.if_icmp .ge 5, 3) := by decide +kernel
theorem dX5_askedPlace_25 : decode cX5_askedPlace 25 = .ok (.iload_n 3, 1) := by decide +kernel
theorem dX5_askedPlace_26 : decode cX5_askedPlace 26 = .ok (.istore_n 2, 1) := by decide +kernel
theorem dX5_askedPlace_27 : decode cX5_askedPlace 27 = .ok (.iinc 3 1, 3) := by decide +kernel
theorem dX5_askedPlace_30 : decode cX5_askedPlace 30 = .ok (.goto (-26), 3) := by decide +kernel
theorem dX5_askedPlace_33 : decode cX5_askedPlace 33 = .ok (.iload_n 2, 1) := by decide +kernel
theorem dX5_askedPlace_34 : decode cX5_askedPlace 34 = .ok (.ireturn, 1) := by decide +kernel
theorem dX5_greatestAt_0 : decode cX5_greatestAt 0 = .ok (.aload_n 0, 1) := by decide +kernel
theorem dX5_greatestAt_1 : decode cX5_greatestAt 1 = .ok (.getfield 40, 3) := by decide +kernel
theorem dX5_greatestAt_4 : decode cX5_greatestAt 4 = .ok (.iconst 0, 1) := by decide +kernel
theorem dX5_greatestAt_5 : decode cX5_greatestAt 5 = .ok (.invokestatic 135, 3) := by decide +kernel
theorem dX5_greatestAt_8 : decode cX5_greatestAt 8 = .ok (.iconst 0, 1) := by decide +kernel
theorem dX5_greatestAt_9 : decode cX5_greatestAt 9 = .ok (.istore_n 3, 1) := by decide +kernel
theorem dX5_greatestAt_10 : decode cX5_greatestAt 10 = .ok (.iconst 0, 1) := by decide +kernel
theorem dX5_greatestAt_11 : decode cX5_greatestAt 11 = .ok (.istore 4, 2) := by decide +kernel
theorem dX5_greatestAt_13 : decode cX5_greatestAt 13 = .ok (.iload 4, 2) := by decide +kernel
theorem dX5_greatestAt_15 : decode cX5_greatestAt 15 = .ok (.aload_n 0, 1) := by decide +kernel
theorem dX5_greatestAt_16 : decode cX5_greatestAt 16 = .ok (.getfield 37, 3) := by decide +kernel
theorem dX5_greatestAt_19 : decode cX5_greatestAt 19 = .ok (.if_icmp .ge 51, 3) := by decide +kernel
theorem dX5_greatestAt_22 : decode cX5_greatestAt 22 = .ok (.aload_n 0, 1) := by decide +kernel
theorem dX5_greatestAt_23 : decode cX5_greatestAt 23 = .ok (.getfield 11, 3) := by decide +kernel
theorem dX5_greatestAt_26 : decode cX5_greatestAt 26 = .ok (.aload_n 0, 1) := by decide +kernel
theorem dX5_greatestAt_27 : decode cX5_greatestAt 27 = .ok (.getfield 34, 3) := by decide +kernel
theorem dX5_greatestAt_30 : decode cX5_greatestAt 30 = .ok (.iload 4, 2) := by decide +kernel
theorem dX5_greatestAt_32 : decode cX5_greatestAt 32 = .ok (.iaload, 1) := by decide +kernel
theorem dX5_greatestAt_33 : decode cX5_greatestAt 33 = .ok (.aaload, 1) := by decide +kernel
theorem dX5_greatestAt_34 : decode cX5_greatestAt 34 = .ok (.aload_n 1, 1) := by decide +kernel
theorem dX5_greatestAt_35 : decode cX5_greatestAt 35 = .ok (.iload_n 2, 1) := by decide +kernel
theorem dX5_greatestAt_36 : decode cX5_greatestAt 36 = .ok (.invokevirtual 141, 3) := by decide +kernel
theorem dX5_greatestAt_39 : decode cX5_greatestAt 39 = .ok (.istore 5, 2) := by decide +kernel
theorem dX5_greatestAt_41 : decode cX5_greatestAt 41 = .ok (.aload_n 0, 1) := by decide +kernel
theorem dX5_greatestAt_42 : decode cX5_greatestAt 42 = .ok (.getfield 40, 3) := by decide +kernel
theorem dX5_greatestAt_45 : decode cX5_greatestAt 45 = .ok (.iload 5, 2) := by decide +kernel
theorem dX5_greatestAt_47 : decode cX5_greatestAt 47 = .ok (.dup2, 1) := by decide +kernel
theorem dX5_greatestAt_48 : decode cX5_greatestAt 48 = .ok (.iaload, 1) := by decide +kernel
theorem dX5_greatestAt_49 : decode cX5_greatestAt 49 = .ok (.iconst 1, 1) := by decide +kernel
theorem dX5_greatestAt_50 : decode cX5_greatestAt 50 = .ok (.iadd, 1) := by decide +kernel
theorem dX5_greatestAt_51 : decode cX5_greatestAt 51 = .ok (.iastore, 1) := by decide +kernel
theorem dX5_greatestAt_52 : decode cX5_greatestAt 52 = .ok (.iload_n 3, 1) := by decide +kernel
theorem dX5_greatestAt_53 : decode cX5_greatestAt 53 = .ok (.aload_n 0, 1) := by decide +kernel
theorem dX5_greatestAt_54 : decode cX5_greatestAt 54 = .ok (.getfield 40, 3) := by decide +kernel
theorem dX5_greatestAt_57 : decode cX5_greatestAt 57 = .ok (.iload 5, 2) := by decide +kernel
theorem dX5_greatestAt_59 : decode cX5_greatestAt 59 = .ok (.iaload, 1) := by decide +kernel
theorem dX5_greatestAt_60 : decode cX5_greatestAt 60 = .ok (.invokestatic 144, 3) := by decide +kernel
theorem dX5_greatestAt_63 : decode cX5_greatestAt 63 = .ok (.istore_n 3, 1) := by decide +kernel
theorem dX5_greatestAt_64 : decode cX5_greatestAt 64 = .ok (.iinc 4 1, 3) := by decide +kernel
theorem dX5_greatestAt_67 : decode cX5_greatestAt 67 = .ok (.goto (-54), 3) := by decide +kernel
theorem dX5_greatestAt_70 : decode cX5_greatestAt 70 = .ok (.iload_n 3, 1) := by decide +kernel
theorem dX5_greatestAt_71 : decode cX5_greatestAt 71 = .ok (.ireturn, 1) := by decide +kernel
theorem dX6_init_0 : decode cX6_init 0 = .ok (.aload_n 0, 1) := by decide +kernel
theorem dX6_init_1 : decode cX6_init 1 = .ok (.invokespecial 3, 3) := by decide +kernel
theorem dX6_init_4 : decode cX6_init 4 = .ok (.aload_n 0, 1) := by decide +kernel
theorem dX6_init_5 : decode cX6_init 5 = .ok (.sipush 3240, 3) := by decide +kernel
theorem dX6_init_8 : decode cX6_init 8 = .ok (.newarray .int, 2) := by decide +kernel
theorem dX6_init_10 : decode cX6_init 10 = .ok (.putfield 11, 3) := by decide +kernel
theorem dX6_init_13 : decode cX6_init 13 = .ok (.return_, 1) := by decide +kernel
theorem dX6_leastSum_0 : decode cX6_leastSum 0 = .ok (.aload_n 2, 1) := by decide +kernel
theorem dX6_leastSum_1 : decode cX6_leastSum 1 = .ok (.getfield 15, 3) := by decide +kernel
theorem dX6_leastSum_4 : decode cX6_leastSum 4 = .ok (.istore 4, 2) := by decide +kernel
theorem dX6_leastSum_6 : decode cX6_leastSum 6 = .ok (.aload_n 0, 1) := by decide +kernel
theorem dX6_leastSum_7 : decode cX6_leastSum 7 = .ok (.aload_n 1, 1) := by decide +kernel
theorem dX6_leastSum_8 : decode cX6_leastSum 8 = .ok (.aload_n 3, 1) := by decide +kernel
theorem dX6_leastSum_9 : decode cX6_leastSum 9 = .ok (.iconst 4, 1) := by decide +kernel
theorem dX6_leastSum_10 : decode cX6_leastSum 10 = .ok (.iaload, 1) := by decide +kernel
theorem dX6_leastSum_11 : decode cX6_leastSum 11 = .ok (.iload 4, 2) := by decide +kernel
theorem dX6_leastSum_13 : decode cX6_leastSum 13 = .ok (.invokevirtual 21, 3) := by decide +kernel
theorem dX6_leastSum_16 : decode cX6_leastSum 16 = .ok (.iconst 1, 1) := by decide +kernel
theorem dX6_leastSum_17 : decode cX6_leastSum 17 = .ok (.istore 5, 2) := by decide +kernel
theorem dX6_leastSum_19 : decode cX6_leastSum 19 = .ok (.iload 5, 2) := by decide +kernel
theorem dX6_leastSum_21 : decode cX6_leastSum 21 = .ok (.iload 4, 2) := by decide +kernel
theorem dX6_leastSum_23 : decode cX6_leastSum 23 = .ok (.if_icmp .gt 66, 3) := by decide +kernel
theorem dX6_leastSum_26 : decode cX6_leastSum 26 = .ok (.iconst 0, 1) := by decide +kernel
theorem dX6_leastSum_27 : decode cX6_leastSum 27 = .ok (.istore 6, 2) := by decide +kernel
theorem dX6_leastSum_29 : decode cX6_leastSum 29 = .ok (.iload 6, 2) := by decide +kernel
theorem dX6_leastSum_31 : decode cX6_leastSum 31 = .ok (.iload 5, 2) := by decide +kernel
theorem dX6_leastSum_33 : decode cX6_leastSum 33 = .ok (.iadd, 1) := by decide +kernel
theorem dX6_leastSum_34 : decode cX6_leastSum 34 = .ok (.iload 4, 2) := by decide +kernel
theorem dX6_leastSum_36 : decode cX6_leastSum 36 = .ok (.if_icmp .gt 47, 3) := by decide +kernel
theorem dX6_leastSum_39 : decode cX6_leastSum 39 = .ok (.aload_n 0, 1) := by decide +kernel
theorem dX6_leastSum_40 : decode cX6_leastSum 40 = .ok (.aload_n 1, 1) := by decide +kernel
theorem dX6_leastSum_41 : decode cX6_leastSum 41 = .ok (.aload_n 2, 1) := by decide +kernel
theorem dX6_leastSum_42 : decode cX6_leastSum 42 = .ok (.aload_n 3, 1) := by decide +kernel
theorem dX6_leastSum_43 : decode cX6_leastSum 43 = .ok (.iload 6, 2) := by decide +kernel
theorem dX6_leastSum_45 : decode cX6_leastSum 45 = .ok (.iload 6, 2) := by decide +kernel
theorem dX6_leastSum_47 : decode cX6_leastSum 47 = .ok (.iload 5, 2) := by decide +kernel
theorem dX6_leastSum_49 : decode cX6_leastSum 49 = .ok (.iadd, 1) := by decide +kernel
theorem dX6_leastSum_50 : decode cX6_leastSum 50 = .ok (.invokevirtual 25, 3) := by decide +kernel
theorem dX6_leastSum_53 : decode cX6_leastSum 53 = .ok (.aload_n 0, 1) := by decide +kernel
theorem dX6_leastSum_54 : decode cX6_leastSum 54 = .ok (.aload_n 1, 1) := by decide +kernel
theorem dX6_leastSum_55 : decode cX6_leastSum 55 = .ok (.iload 6, 2) := by decide +kernel
theorem dX6_leastSum_57 : decode cX6_leastSum 57 = .ok (.iload 6, 2) := by decide +kernel
theorem dX6_leastSum_59 : decode cX6_leastSum 59 = .ok (.iload 5, 2) := by decide +kernel
theorem dX6_leastSum_61 : decode cX6_leastSum 61 = .ok (.iadd, 1) := by decide +kernel
theorem dX6_leastSum_62 : decode cX6_leastSum 62 = .ok (.invokevirtual 29, 3) := by decide +kernel
theorem dX6_leastSum_65 : decode cX6_leastSum 65 = .ok (.aload_n 0, 1) := by decide +kernel
theorem dX6_leastSum_66 : decode cX6_leastSum 66 = .ok (.aload_n 1, 1) := by decide +kernel
theorem dX6_leastSum_67 : decode cX6_leastSum 67 = .ok (.iload 6, 2) := by decide +kernel
theorem dX6_leastSum_69 : decode cX6_leastSum 69 = .ok (.iload 6, 2) := by decide +kernel
theorem dX6_leastSum_71 : decode cX6_leastSum 71 = .ok (.iload 5, 2) := by decide +kernel
theorem dX6_leastSum_73 : decode cX6_leastSum 73 = .ok (.iadd, 1) := by decide +kernel
theorem dX6_leastSum_74 : decode cX6_leastSum 74 = .ok (.invokevirtual 32, 3) := by decide +kernel
theorem dX6_leastSum_77 : decode cX6_leastSum 77 = .ok (.iinc 6 1, 3) := by decide +kernel
theorem dX6_leastSum_80 : decode cX6_leastSum 80 = .ok (.goto (-51), 3) := by decide +kernel
theorem dX6_leastSum_83 : decode cX6_leastSum 83 = .ok (.iinc 5 1, 3) := by decide +kernel
theorem dX6_leastSum_86 : decode cX6_leastSum 86 = .ok (.goto (-67), 3) := by decide +kernel
theorem dX6_leastSum_89 : decode cX6_leastSum 89 = .ok (.aload_n 0, 1) := by decide +kernel
theorem dX6_leastSum_90 : decode cX6_leastSum 90 = .ok (.iconst 0, 1) := by decide +kernel
theorem dX6_leastSum_91 : decode cX6_leastSum 91 = .ok (.iload 4, 2) := by decide +kernel
theorem dX6_leastSum_93 : decode cX6_leastSum 93 = .ok (.invokestatic 35, 3) := by decide +kernel
theorem dX6_leastSum_96 : decode cX6_leastSum 96 = .ok (.invokevirtual 39, 3) := by decide +kernel
theorem dX6_leastSum_99 : decode cX6_leastSum 99 = .ok (.ireturn, 1) := by decide +kernel
theorem dX6_run_0 : decode cX6_run 0 = .ok (.iload_n 0, 1) := by decide +kernel
theorem dX6_run_1 : decode cX6_run 1 = .ok (.bipush 9, 2) := by decide +kernel
theorem dX6_run_3 : decode cX6_run 3 = .ok (.imul, 1) := by decide +kernel
theorem dX6_run_4 : decode cX6_run 4 = .ok (.iload_n 1, 1) := by decide +kernel
theorem dX6_run_5 : decode cX6_run 5 = .ok (.iadd, 1) := by decide +kernel
theorem dX6_run_6 : decode cX6_run 6 = .ok (.bipush 40, 2) := by decide +kernel
theorem dX6_run_8 : decode cX6_run 8 = .ok (.imul, 1) := by decide +kernel
theorem dX6_run_9 : decode cX6_run 9 = .ok (.ireturn, 1) := by decide +kernel
theorem dX6_fillEmptyRuns_0 : decode cX6_fillEmptyRuns 0 = .ok (.iconst 0, 1) := by decide +kernel
theorem dX6_fillEmptyRuns_1 : decode cX6_fillEmptyRuns 1 = .ok (.iconst 0, 1) := by decide +kernel
theorem dX6_fillEmptyRuns_2 : decode cX6_fillEmptyRuns 2 = .ok (.invokestatic 35, 3) := by decide +kernel
theorem dX6_fillEmptyRuns_5 : decode cX6_fillEmptyRuns 5 = .ok (.istore 4, 2) := by decide +kernel
theorem dX6_fillEmptyRuns_7 : decode cX6_fillEmptyRuns 7 = .ok (.aload_n 0, 1) := by decide +kernel
theorem dX6_fillEmptyRuns_8 : decode cX6_fillEmptyRuns 8 = .ok (.iload 4, 2) := by decide +kernel
theorem dX6_fillEmptyRuns_10 : decode cX6_fillEmptyRuns 10 = .ok (.invokevirtual 43, 3) := by decide +kernel
theorem dX6_fillEmptyRuns_13 : decode cX6_fillEmptyRuns 13 = .ok (.iconst 0, 1) := by decide +kernel
theorem dX6_fillEmptyRuns_14 : decode cX6_fillEmptyRuns 14 = .ok (.istore 5, 2) := by decide +kernel
theorem dX6_fillEmptyRuns_16 : decode cX6_fillEmptyRuns 16 = .ok (.iload 5, 2) := by decide +kernel
theorem dX6_fillEmptyRuns_18 : decode cX6_fillEmptyRuns 18 = .ok (.aload_n 1, 1) := by decide +kernel
theorem dX6_fillEmptyRuns_19 : decode cX6_fillEmptyRuns 19 = .ok (.getfield 47, 3) := by decide +kernel
theorem dX6_fillEmptyRuns_22 : decode cX6_fillEmptyRuns 22 = .ok (.if_icmp .ge 24, 3) := by decide +kernel
theorem dX6_fillEmptyRuns_25 : decode cX6_fillEmptyRuns 25 = .ok (.aload_n 0, 1) := by decide +kernel
theorem dX6_fillEmptyRuns_26 : decode cX6_fillEmptyRuns 26 = .ok (.getfield 11, 3) := by decide +kernel
theorem dX6_fillEmptyRuns_29 : decode cX6_fillEmptyRuns 29 = .ok (.iload 4, 2) := by decide +kernel
theorem dX6_fillEmptyRuns_31 : decode cX6_fillEmptyRuns 31 = .ok (.aload_n 1, 1) := by decide +kernel
theorem dX6_fillEmptyRuns_32 : decode cX6_fillEmptyRuns 32 = .ok (.iload 5, 2) := by decide +kernel
theorem dX6_fillEmptyRuns_34 : decode cX6_fillEmptyRuns 34 = .ok (.invokevirtual 52, 3) := by decide +kernel
theorem dX6_fillEmptyRuns_37 : decode cX6_fillEmptyRuns 37 = .ok (.iadd, 1) := by decide +kernel
theorem dX6_fillEmptyRuns_38 : decode cX6_fillEmptyRuns 38 = .ok (.iload_n 2, 1) := by decide +kernel
theorem dX6_fillEmptyRuns_39 : decode cX6_fillEmptyRuns 39 = .ok (.iastore, 1) := by decide +kernel
theorem dX6_fillEmptyRuns_40 : decode cX6_fillEmptyRuns 40 = .ok (.iinc 5 1, 3) := by decide +kernel
theorem dX6_fillEmptyRuns_43 : decode cX6_fillEmptyRuns 43 = .ok (.goto (-27), 3) := by decide +kernel
theorem dX6_fillEmptyRuns_46 : decode cX6_fillEmptyRuns 46 = .ok (.iconst 1, 1) := by decide +kernel
theorem dX6_fillEmptyRuns_47 : decode cX6_fillEmptyRuns 47 = .ok (.istore 5, 2) := by decide +kernel
theorem dX6_fillEmptyRuns_49 : decode cX6_fillEmptyRuns 49 = .ok (.iconst 0, 1) := by decide +kernel
theorem dX6_fillEmptyRuns_50 : decode cX6_fillEmptyRuns 50 = .ok (.istore 6, 2) := by decide +kernel
theorem dX6_fillEmptyRuns_52 : decode cX6_fillEmptyRuns 52 = .ok (.iload 6, 2) := by decide +kernel
theorem dX6_fillEmptyRuns_54 : decode cX6_fillEmptyRuns 54 = .ok (.bipush 40, 2) := by decide +kernel
theorem dX6_fillEmptyRuns_56 : decode cX6_fillEmptyRuns 56 = .ok (.if_icmp .gt 27, 3) := by decide +kernel
theorem dX6_fillEmptyRuns_59 : decode cX6_fillEmptyRuns 59 = .ok (.iload 5, 2) := by decide +kernel
theorem dX6_fillEmptyRuns_61 : decode cX6_fillEmptyRuns 61 = .ok (.ifCond .eq 22, 3) := by decide +kernel
theorem dX6_fillEmptyRuns_64 : decode cX6_fillEmptyRuns 64 = .ok (.aload_n 0, 1) := by decide +kernel
theorem dX6_fillEmptyRuns_65 : decode cX6_fillEmptyRuns 65 = .ok (.aload_n 1, 1) := by decide +kernel
theorem dX6_fillEmptyRuns_66 : decode cX6_fillEmptyRuns 66 = .ok (.iload 4, 2) := by decide +kernel
theorem dX6_fillEmptyRuns_68 : decode cX6_fillEmptyRuns 68 = .ok (.iload 4, 2) := by decide +kernel
theorem dX6_fillEmptyRuns_70 : decode cX6_fillEmptyRuns 70 = .ok (.iload 4, 2) := by decide +kernel
theorem dX6_fillEmptyRuns_72 : decode cX6_fillEmptyRuns 72 = .ok (.invokevirtual 55, 3) := by decide +kernel
theorem dX6_fillEmptyRuns_75 : decode cX6_fillEmptyRuns 75 = .ok (.istore 5, 2) := by decide +kernel
theorem dX6_fillEmptyRuns_77 : decode cX6_fillEmptyRuns 77 = .ok (.iinc 6 1, 3) := by decide +kernel
theorem dX6_fillEmptyRuns_80 : decode cX6_fillEmptyRuns 80 = .ok (.goto (-28), 3) := by decide +kernel
theorem dX6_fillEmptyRuns_83 : decode cX6_fillEmptyRuns 83 = .ok (.iconst 1, 1) := by decide +kernel
theorem dX6_fillEmptyRuns_84 : decode cX6_fillEmptyRuns 84 = .ok (.istore 6, 2) := by decide +kernel
theorem dX6_fillEmptyRuns_86 : decode cX6_fillEmptyRuns 86 = .ok (.iload 6, 2) := by decide +kernel
theorem dX6_fillEmptyRuns_88 : decode cX6_fillEmptyRuns 88 = .ok (.iload_n 3, 1) := by decide +kernel
theorem dX6_fillEmptyRuns_89 : decode cX6_fillEmptyRuns 89 = .ok (.if_icmp .gt 31, 3) := by decide +kernel
theorem dX6_fillEmptyRuns_92 : decode cX6_fillEmptyRuns 92 = .ok (.aload_n 0, 1) := by decide +kernel
theorem dX6_fillEmptyRuns_93 : decode cX6_fillEmptyRuns 93 = .ok (.getfield 11, 3) := by decide +kernel
theorem dX6_fillEmptyRuns_96 : decode cX6_fillEmptyRuns 96 = .ok (.iload 4, 2) := by decide +kernel
theorem dX6_fillEmptyRuns_98 : decode cX6_fillEmptyRuns 98 = .ok (.aload_n 0, 1) := by decide +kernel
theorem dX6_fillEmptyRuns_99 : decode cX6_fillEmptyRuns 99 = .ok (.getfield 11, 3) := by decide +kernel
theorem dX6_fillEmptyRuns_102 : decode cX6_fillEmptyRuns 102 = .ok (.iload 6, 2) := by decide +kernel
theorem dX6_fillEmptyRuns_104 : decode cX6_fillEmptyRuns 104 = .ok (.iload 6, 2) := by decide +kernel
theorem dX6_fillEmptyRuns_106 : decode cX6_fillEmptyRuns 106 = .ok (.invokestatic 35, 3) := by decide +kernel
theorem dX6_fillEmptyRuns_109 : decode cX6_fillEmptyRuns 109 = .ok (.bipush 40, 2) := by decide +kernel
theorem dX6_fillEmptyRuns_111 : decode cX6_fillEmptyRuns 111 = .ok (.invokestatic 59, 3) := by decide +kernel
theorem dX6_fillEmptyRuns_114 : decode cX6_fillEmptyRuns 114 = .ok (.iinc 6 1, 3) := by decide +kernel
theorem dX6_fillEmptyRuns_117 : decode cX6_fillEmptyRuns 117 = .ok (.goto (-31), 3) := by decide +kernel
theorem dX6_fillEmptyRuns_120 : decode cX6_fillEmptyRuns 120 = .ok (.return_, 1) := by decide +kernel
theorem dX6_startRun_0 : decode cX6_startRun 0 = .ok (.iload 4, 2) := by decide +kernel
theorem dX6_startRun_2 : decode cX6_startRun 2 = .ok (.iload 5, 2) := by decide +kernel
theorem dX6_startRun_4 : decode cX6_startRun 4 = .ok (.invokestatic 35, 3) := by decide +kernel
theorem dX6_startRun_7 : decode cX6_startRun 7 = .ok (.istore 6, 2) := by decide +kernel
theorem dX6_startRun_9 : decode cX6_startRun 9 = .ok (.aload_n 0, 1) := by decide +kernel
theorem dX6_startRun_10 : decode cX6_startRun 10 = .ok (.iload 6, 2) := by decide +kernel
theorem dX6_startRun_12 : decode cX6_startRun 12 = .ok (.invokevirtual 43, 3) := by decide +kernel
theorem dX6_startRun_15 : decode cX6_startRun 15 = .ok (.iload 5, 2) := by decide +kernel
theorem dX6_startRun_17 : decode cX6_startRun 17 = .ok (.iload 4, 2) := by decide +kernel
theorem dX6_startRun_19 : decode cX6_startRun 19 = .ok (.iconst 1, 1) := by decide +kernel
theorem dX6_startRun_20 : decode cX6_startRun 20 = .ok (.iadd, 1) := by decide +kernel
theorem dX6_startRun_21 : decode cX6_startRun 21 = .ok (.if_icmp .ne 12, 3) := by decide +kernel
theorem dX6_startRun_24 : decode cX6_startRun 24 = .ok (.aload_n 0, 1) := by decide +kernel
theorem dX6_startRun_25 : decode cX6_startRun 25 = .ok (.aload_n 1, 1) := by decide +kernel
theorem dX6_startRun_26 : decode cX6_startRun 26 = .ok (.aload_n 2, 1) := by decide +kernel
theorem dX6_startRun_27 : decode cX6_startRun 27 = .ok (.aload_n 3, 1) := by decide +kernel
theorem dX6_startRun_28 : decode cX6_startRun 28 = .ok (.iload 4, 2) := by decide +kernel
theorem dX6_startRun_30 : decode cX6_startRun 30 = .ok (.invokevirtual 65, 3) := by decide +kernel
theorem dX6_startRun_33 : decode cX6_startRun 33 = .ok (.aload_n 2, 1) := by decide +kernel
theorem dX6_startRun_34 : decode cX6_startRun 34 = .ok (.getfield 69, 3) := by decide +kernel
theorem dX6_startRun_37 : decode cX6_startRun 37 = .ok (.iload 4, 2) := by decide +kernel
theorem dX6_startRun_39 : decode cX6_startRun 39 = .ok (.invokestatic 72, 3) := by decide +kernel
theorem dX6_startRun_42 : decode cX6_startRun 42 = .ok (.ifCond .ne 21, 3) := by decide +kernel
theorem dX6_startRun_45 : decode cX6_startRun 45 = .ok (.aload_n 0, 1) := by decide +kernel
theorem dX6_startRun_46 : decode cX6_startRun 46 = .ok (.iload 6, 2) := by decide +kernel
theorem dX6_startRun_48 : decode cX6_startRun 48 = .ok (.iload 4, 2) := by decide +kernel
theorem dX6_startRun_50 : decode cX6_startRun 50 = .ok (.iconst 1, 1) := by decide +kernel
theorem dX6_startRun_51 : decode cX6_startRun 51 = .ok (.iadd, 1) := by decide +kernel
theorem dX6_startRun_52 : decode cX6_startRun 52 = .ok (.iload 5, 2) := by decide +kernel
theorem dX6_startRun_54 : decode cX6_startRun 54 = .ok (.invokestatic 35, 3) := by decide +kernel
theorem dX6_startRun_57 : decode cX6_startRun 57 = .ok (.aload_n 3, 1) := by decide +kernel
theorem dX6_startRun_58 : decode cX6_startRun 58 = .ok (.iconst 3, 1) := by decide +kernel
theorem dX6_startRun_59 : decode cX6_startRun 59 = .ok (.iaload, 1) := by decide +kernel
theorem dX6_startRun_60 : decode cX6_startRun 60 = .ok (.invokevirtual 76, 3) := by decide +kernel
theorem dX6_startRun_63 : decode cX6_startRun 63 = .ok (.aload_n 2, 1) := by decide +kernel
theorem dX6_startRun_64 : decode cX6_startRun 64 = .ok (.getfield 69, 3) := by decide +kernel
theorem dX6_startRun_67 : decode cX6_startRun 67 = .ok (.iload 5, 2) := by decide +kernel
theorem dX6_startRun_69 : decode cX6_startRun 69 = .ok (.iconst 1, 1) := by decide +kernel
theorem dX6_startRun_70 : decode cX6_startRun 70 = .ok (.isub, 1) := by decide +kernel
theorem dX6_startRun_71 : decode cX6_startRun 71 = .ok (.invokestatic 72, 3) := by decide +kernel
theorem dX6_startRun_74 : decode cX6_startRun 74 = .ok (.ifCond .ne 21, 3) := by decide +kernel
theorem dX6_startRun_77 : decode cX6_startRun 77 = .ok (.aload_n 0, 1) := by decide +kernel
theorem dX6_startRun_78 : decode cX6_startRun 78 = .ok (.iload 6, 2) := by decide +kernel
theorem dX6_startRun_80 : decode cX6_startRun 80 = .ok (.iload 4, 2) := by decide +kernel
theorem dX6_startRun_82 : decode cX6_startRun 82 = .ok (.iload 5, 2) := by decide +kernel
theorem dX6_startRun_84 : decode cX6_startRun 84 = .ok (.iconst 1, 1) := by decide +kernel
theorem dX6_startRun_85 : decode cX6_startRun 85 = .ok (.isub, 1) := by decide +kernel
theorem dX6_startRun_86 : decode cX6_startRun 86 = .ok (.invokestatic 35, 3) := by decide +kernel
theorem dX6_startRun_89 : decode cX6_startRun 89 = .ok (.aload_n 3, 1) := by decide +kernel
theorem dX6_startRun_90 : decode cX6_startRun 90 = .ok (.iconst 3, 1) := by decide +kernel
theorem dX6_startRun_91 : decode cX6_startRun 91 = .ok (.iaload, 1) := by decide +kernel
theorem dX6_startRun_92 : decode cX6_startRun 92 = .ok (.invokevirtual 76, 3) := by decide +kernel
theorem dX6_startRun_95 : decode cX6_startRun 95 = .ok (.return_, 1) := by decide +kernel
theorem dX6_putChanged_0 : decode cX6_putChanged 0 = .ok (.iload 4, 2) := by decide +kernel
theorem dX6_putChanged_2 : decode cX6_putChanged 2 = .ok (.iload 4, 2) := by decide +kernel
theorem dX6_putChanged_4 : decode cX6_putChanged 4 = .ok (.iconst 1, 1) := by decide +kernel
theorem dX6_putChanged_5 : decode cX6_putChanged 5 = .ok (.iadd, 1) := by decide +kernel
theorem dX6_putChanged_6 : decode cX6_putChanged 6 = .ok (.invokestatic 35, 3) := by decide +kernel
theorem dX6_putChanged_9 : decode cX6_putChanged 9 = .ok (.istore 5, 2) := by decide +kernel
theorem dX6_putChanged_11 : decode cX6_putChanged 11 = .ok (.aload_n 2, 1) := by decide +kernel
theorem dX6_putChanged_12 : decode cX6_putChanged 12 = .ok (.getfield 80, 3) := by decide +kernel
theorem dX6_putChanged_15 : decode cX6_putChanged 15 = .ok (.iload 4, 2) := by decide +kernel
theorem dX6_putChanged_17 : decode cX6_putChanged 17 = .ok (.iaload, 1) := by decide +kernel
theorem dX6_putChanged_18 : decode cX6_putChanged 18 = .ok (.istore 6, 2) := by decide +kernel
theorem dX6_putChanged_20 : decode cX6_putChanged 20 = .ok (.aload_n 0, 1) := by decide +kernel
theorem dX6_putChanged_21 : decode cX6_putChanged 21 = .ok (.getfield 11, 3) := by decide +kernel
theorem dX6_putChanged_24 : decode cX6_putChanged 24 = .ok (.iload 5, 2) := by decide +kernel
theorem dX6_putChanged_26 : decode cX6_putChanged 26 = .ok (.aload_n 1, 1) := by decide +kernel
theorem dX6_putChanged_27 : decode cX6_putChanged 27 = .ok (.iload 6, 2) := by decide +kernel
theorem dX6_putChanged_29 : decode cX6_putChanged 29 = .ok (.invokevirtual 52, 3) := by decide +kernel
theorem dX6_putChanged_32 : decode cX6_putChanged 32 = .ok (.iadd, 1) := by decide +kernel
theorem dX6_putChanged_33 : decode cX6_putChanged 33 = .ok (.iconst 0, 1) := by decide +kernel
theorem dX6_putChanged_34 : decode cX6_putChanged 34 = .ok (.iastore, 1) := by decide +kernel
theorem dX6_putChanged_35 : decode cX6_putChanged 35 = .ok (.iconst 0, 1) := by decide +kernel
theorem dX6_putChanged_36 : decode cX6_putChanged 36 = .ok (.istore 7, 2) := by decide +kernel
theorem dX6_putChanged_38 : decode cX6_putChanged 38 = .ok (.iload 7, 2) := by decide +kernel
theorem dX6_putChanged_40 : decode cX6_putChanged 40 = .ok (.aload_n 1, 1) := by decide +kernel
theorem dX6_putChanged_41 : decode cX6_putChanged 41 = .ok (.getfield 47, 3) := by decide +kernel
theorem dX6_putChanged_44 : decode cX6_putChanged 44 = .ok (.if_icmp .ge 44, 3) := by decide +kernel
theorem dX6_putChanged_47 : decode cX6_putChanged 47 = .ok (.aload_n 2, 1) := by decide +kernel
theorem dX6_putChanged_48 : decode cX6_putChanged 48 = .ok (.getfield 69, 3) := by decide +kernel
theorem dX6_putChanged_51 : decode cX6_putChanged 51 = .ok (.iload 4, 2) := by decide +kernel
theorem dX6_putChanged_53 : decode cX6_putChanged 53 = .ok (.invokestatic 72, 3) := by decide +kernel
theorem dX6_putChanged_56 : decode cX6_putChanged 56 = .ok (.ifCond .ne 32, 3) := by decide +kernel
theorem dX6_putChanged_59 : decode cX6_putChanged 59 = .ok (.aload_n 0, 1) := by decide +kernel
theorem dX6_putChanged_60 : decode cX6_putChanged 60 = .ok (.iload 5, 2) := by decide +kernel
theorem dX6_putChanged_62 : decode cX6_putChanged 62 = .ok (.aload_n 1, 1) := by decide +kernel
theorem dX6_putChanged_63 : decode cX6_putChanged 63 = .ok (.iload 7, 2) := by decide +kernel
theorem dX6_putChanged_65 : decode cX6_putChanged 65 = .ok (.invokevirtual 52, 3) := by decide +kernel
theorem dX6_putChanged_68 : decode cX6_putChanged 68 = .ok (.iadd, 1) := by decide +kernel
theorem dX6_putChanged_69 : decode cX6_putChanged 69 = .ok (.aload_n 1, 1) := by decide +kernel
theorem dX6_putChanged_70 : decode cX6_putChanged 70 = .ok (.iload 6, 2) := by decide +kernel
theorem dX6_putChanged_72 : decode cX6_putChanged 72 = .ok (.iload 7, 2) := by decide +kernel
theorem dX6_putChanged_74 : decode cX6_putChanged 74 = .ok (.aload_n 3, 1) := by decide +kernel
theorem dX6_putChanged_75 : decode cX6_putChanged 75 = .ok (.invokevirtual 82, 3) := by decide +kernel
theorem dX6_putChanged_78 : decode cX6_putChanged 78 = .ok (.invokevirtual 86, 3) := by decide +kernel
theorem dX6_putChanged_81 : decode cX6_putChanged 81 = .ok (.pop, 1) := by decide +kernel
theorem dX6_putChanged_82 : decode cX6_putChanged 82 = .ok (.iinc 7 1, 3) := by decide +kernel
theorem dX6_putChanged_85 : decode cX6_putChanged 85 = .ok (.goto (-47), 3) := by decide +kernel
theorem dX6_putChanged_88 : decode cX6_putChanged 88 = .ok (.return_, 1) := by decide +kernel
theorem dX6_forbidAll_0 : decode cX6_forbidAll 0 = .ok (.iconst 0, 1) := by decide +kernel
theorem dX6_forbidAll_1 : decode cX6_forbidAll 1 = .ok (.istore_n 2, 1) := by decide +kernel
theorem dX6_forbidAll_2 : decode cX6_forbidAll 2 = .ok (.iload_n 2, 1) := by decide +kernel
theorem dX6_forbidAll_3 : decode cX6_forbidAll 3 = .ok (.bipush 40, 2) := by decide +kernel
theorem dX6_forbidAll_5 : decode cX6_forbidAll 5 = .ok (.if_icmp .ge 19, 3) := by decide +kernel
theorem dX6_forbidAll_8 : decode cX6_forbidAll 8 = .ok (.aload_n 0, 1) := by decide +kernel
theorem dX6_forbidAll_9 : decode cX6_forbidAll 9 = .ok (.getfield 11, 3) := by decide +kernel
theorem dX6_forbidAll_12 : decode cX6_forbidAll 12 = .ok (.iload_n 1, 1) := by decide +kernel
theorem dX6_forbidAll_13 : decode cX6_forbidAll 13 = .ok (.iload_n 2, 1) := by decide +kernel
theorem dX6_forbidAll_14 : decode cX6_forbidAll 14 = .ok (.iadd, 1) := by decide +kernel
theorem dX6_forbidAll_15 : decode cX6_forbidAll 15 = .ok (.bipush 100, 2) := by decide +kernel
theorem dX6_forbidAll_17 : decode cX6_forbidAll 17 = .ok (.iastore, 1) := by decide +kernel
theorem dX6_forbidAll_18 : decode cX6_forbidAll 18 = .ok (.iinc 2 1, 3) := by decide +kernel
theorem dX6_forbidAll_21 : decode cX6_forbidAll 21 = .ok (.goto (-19), 3) := by decide +kernel
theorem dX6_forbidAll_24 : decode cX6_forbidAll 24 = .ok (.return_, 1) := by decide +kernel
theorem dX6_lowerAll_0 : decode cX6_lowerAll 0 = .ok (.iconst 0, 1) := by decide +kernel
theorem dX6_lowerAll_1 : decode cX6_lowerAll 1 = .ok (.istore 4, 2) := by decide +kernel
theorem dX6_lowerAll_3 : decode cX6_lowerAll 3 = .ok (.iload 4, 2) := by decide +kernel
theorem dX6_lowerAll_5 : decode cX6_lowerAll 5 = .ok (.bipush 40, 2) := by decide +kernel
theorem dX6_lowerAll_7 : decode cX6_lowerAll 7 = .ok (.if_icmp .ge 29, 3) := by decide +kernel
theorem dX6_lowerAll_10 : decode cX6_lowerAll 10 = .ok (.aload_n 0, 1) := by decide +kernel
theorem dX6_lowerAll_11 : decode cX6_lowerAll 11 = .ok (.iload_n 1, 1) := by decide +kernel
theorem dX6_lowerAll_12 : decode cX6_lowerAll 12 = .ok (.iload 4, 2) := by decide +kernel
theorem dX6_lowerAll_14 : decode cX6_lowerAll 14 = .ok (.iadd, 1) := by decide +kernel
theorem dX6_lowerAll_15 : decode cX6_lowerAll 15 = .ok (.aload_n 0, 1) := by decide +kernel
theorem dX6_lowerAll_16 : decode cX6_lowerAll 16 = .ok (.getfield 11, 3) := by decide +kernel
theorem dX6_lowerAll_19 : decode cX6_lowerAll 19 = .ok (.iload_n 2, 1) := by decide +kernel
theorem dX6_lowerAll_20 : decode cX6_lowerAll 20 = .ok (.iload 4, 2) := by decide +kernel
theorem dX6_lowerAll_22 : decode cX6_lowerAll 22 = .ok (.iadd, 1) := by decide +kernel
theorem dX6_lowerAll_23 : decode cX6_lowerAll 23 = .ok (.iaload, 1) := by decide +kernel
theorem dX6_lowerAll_24 : decode cX6_lowerAll 24 = .ok (.iload_n 3, 1) := by decide +kernel
theorem dX6_lowerAll_25 : decode cX6_lowerAll 25 = .ok (.iadd, 1) := by decide +kernel
theorem dX6_lowerAll_26 : decode cX6_lowerAll 26 = .ok (.invokevirtual 86, 3) := by decide +kernel
theorem dX6_lowerAll_29 : decode cX6_lowerAll 29 = .ok (.pop, 1) := by decide +kernel
theorem dX6_lowerAll_30 : decode cX6_lowerAll 30 = .ok (.iinc 4 1, 3) := by decide +kernel
theorem dX6_lowerAll_33 : decode cX6_lowerAll 33 = .ok (.goto (-30), 3) := by decide +kernel
theorem dX6_lowerAll_36 : decode cX6_lowerAll 36 = .ok (.return_, 1) := by decide +kernel
theorem dX6_lower_0 : decode cX6_lower 0 = .ok (.iload_n 2, 1) := by decide +kernel
theorem dX6_lower_1 : decode cX6_lower 1 = .ok (.aload_n 0, 1) := by decide +kernel
theorem dX6_lower_2 : decode cX6_lower 2 = .ok (.getfield 11, 3) := by decide +kernel
theorem dX6_lower_5 : decode cX6_lower 5 = .ok (.iload_n 1, 1) := by decide +kernel
theorem dX6_lower_6 : decode cX6_lower 6 = .ok (.iaload, 1) := by decide +kernel
theorem dX6_lower_7 : decode cX6_lower 7 = .ok (.if_icmp .ge 12, 3) := by decide +kernel
theorem dX6_lower_10 : decode cX6_lower 10 = .ok (.aload_n 0, 1) := by decide +kernel
theorem dX6_lower_11 : decode cX6_lower 11 = .ok (.getfield 11, 3) := by decide +kernel
theorem dX6_lower_14 : decode cX6_lower 14 = .ok (.iload_n 1, 1) := by decide +kernel
theorem dX6_lower_15 : decode cX6_lower 15 = .ok (.iload_n 2, 1) := by decide +kernel
theorem dX6_lower_16 : decode cX6_lower 16 = .ok (.iastore, 1) := by decide +kernel
theorem dX6_lower_17 : decode cX6_lower 17 = .ok (.iconst 1, 1) := by decide +kernel
theorem dX6_lower_18 : decode cX6_lower 18 = .ok (.ireturn, 1) := by decide +kernel
theorem dX6_lower_19 : decode cX6_lower 19 = .ok (.iconst 0, 1) := by decide +kernel
theorem dX6_lower_20 : decode cX6_lower 20 = .ok (.ireturn, 1) := by decide +kernel
theorem dX6_joinInside_0 : decode cX6_joinInside 0 = .ok (.iload_n 2, 1) := by decide +kernel
theorem dX6_joinInside_1 : decode cX6_joinInside 1 = .ok (.iconst 1, 1) := by decide +kernel
theorem dX6_joinInside_2 : decode cX6_joinInside 2 = .ok (.iadd, 1) := by decide +kernel
theorem dX6_joinInside_3 : decode cX6_joinInside 3 = .ok (.istore 4, 2) := by decide +kernel
theorem dX6_joinInside_5 : decode cX6_joinInside 5 = .ok (.iload 4, 2) := by decide +kernel
theorem dX6_joinInside_7 : decode cX6_joinInside 7 = .ok (.iload_n 3, 1) := by decide +kernel
theorem dX6_joinInside_8 : decode cX6_joinInside 8 = .ok (.if_icmp .ge 32, 3) := by decide +kernel
theorem dX6_joinInside_11 : decode cX6_joinInside 11 = .ok (.aload_n 0, 1) := by decide +kernel
theorem dX6_joinInside_12 : decode cX6_joinInside 12 = .ok (.aload_n 1, 1) := by decide +kernel
theorem dX6_joinInside_13 : decode cX6_joinInside 13 = .ok (.iload_n 2, 1) := by decide +kernel
theorem dX6_joinInside_14 : decode cX6_joinInside 14 = .ok (.iload 4, 2) := by decide +kernel
theorem dX6_joinInside_16 : decode cX6_joinInside 16 = .ok (.invokestatic 35, 3) := by decide +kernel
theorem dX6_joinInside_19 : decode cX6_joinInside 19 = .ok (.iload 4, 2) := by decide +kernel
theorem dX6_joinInside_21 : decode cX6_joinInside 21 = .ok (.iload_n 3, 1) := by decide +kernel
theorem dX6_joinInside_22 : decode cX6_joinInside 22 = .ok (.invokestatic 35, 3) := by decide +kernel
theorem dX6_joinInside_25 : decode cX6_joinInside 25 = .ok (.iload_n 2, 1) := by decide +kernel
theorem dX6_joinInside_26 : decode cX6_joinInside 26 = .ok (.iload_n 3, 1) := by decide +kernel
theorem dX6_joinInside_27 : decode cX6_joinInside 27 = .ok (.invokestatic 35, 3) := by decide +kernel
theorem dX6_joinInside_30 : decode cX6_joinInside 30 = .ok (.invokevirtual 55, 3) := by decide +kernel
theorem dX6_joinInside_33 : decode cX6_joinInside 33 = .ok (.pop, 1) := by decide +kernel
theorem dX6_joinInside_34 : decode cX6_joinInside 34 = .ok (.iinc 4 1, 3) := by decide +kernel
theorem dX6_joinInside_37 : decode cX6_joinInside 37 = .ok (.goto (-32), 3) := by decide +kernel
theorem dX6_joinInside_40 : decode cX6_joinInside 40 = .ok (.return_, 1) := by decide +kernel
theorem dX6_joinWithPutIn_0 : decode cX6_joinWithPutIn 0 = .ok (.iload_n 2, 1) := by decide +kernel
theorem dX6_joinWithPutIn_1 : decode cX6_joinWithPutIn 1 = .ok (.iload_n 3, 1) := by decide +kernel
theorem dX6_joinWithPutIn_2 : decode cX6_joinWithPutIn 2 = .ok (.invokestatic 35, 3) := by decide +kernel
theorem dX6_joinWithPutIn_5 : decode cX6_joinWithPutIn 5 = .ok (.istore 4, 2) := by decide +kernel
theorem dX6_joinWithPutIn_7 : decode cX6_joinWithPutIn 7 = .ok (.iconst 1, 1) := by decide +kernel
theorem dX6_joinWithPutIn_8 : decode cX6_joinWithPutIn 8 = .ok (.istore 5, 2) := by decide +kernel
theorem dX6_joinWithPutIn_10 : decode cX6_joinWithPutIn 10 = .ok (.iconst 0, 1) := by decide +kernel
theorem dX6_joinWithPutIn_11 : decode cX6_joinWithPutIn 11 = .ok (.istore 6, 2) := by decide +kernel
theorem dX6_joinWithPutIn_13 : decode cX6_joinWithPutIn 13 = .ok (.iload 6, 2) := by decide +kernel
theorem dX6_joinWithPutIn_15 : decode cX6_joinWithPutIn 15 = .ok (.bipush 40, 2) := by decide +kernel
theorem dX6_joinWithPutIn_17 : decode cX6_joinWithPutIn 17 = .ok (.if_icmp .gt 63, 3) := by decide +kernel
theorem dX6_joinWithPutIn_20 : decode cX6_joinWithPutIn 20 = .ok (.iload 5, 2) := by decide +kernel
theorem dX6_joinWithPutIn_22 : decode cX6_joinWithPutIn 22 = .ok (.ifCond .eq 58, 3) := by decide +kernel
theorem dX6_joinWithPutIn_25 : decode cX6_joinWithPutIn 25 = .ok (.aload_n 0, 1) := by decide +kernel
theorem dX6_joinWithPutIn_26 : decode cX6_joinWithPutIn 26 = .ok (.aload_n 1, 1) := by decide +kernel
theorem dX6_joinWithPutIn_27 : decode cX6_joinWithPutIn 27 = .ok (.iload_n 2, 1) := by decide +kernel
theorem dX6_joinWithPutIn_28 : decode cX6_joinWithPutIn 28 = .ok (.iload_n 2, 1) := by decide +kernel
theorem dX6_joinWithPutIn_29 : decode cX6_joinWithPutIn 29 = .ok (.invokestatic 35, 3) := by decide +kernel
theorem dX6_joinWithPutIn_32 : decode cX6_joinWithPutIn 32 = .ok (.iload 4, 2) := by decide +kernel
theorem dX6_joinWithPutIn_34 : decode cX6_joinWithPutIn 34 = .ok (.iload 4, 2) := by decide +kernel
theorem dX6_joinWithPutIn_36 : decode cX6_joinWithPutIn 36 = .ok (.invokevirtual 55, 3) := by decide +kernel
theorem dX6_joinWithPutIn_39 : decode cX6_joinWithPutIn 39 = .ok (.istore 7, 2) := by decide +kernel
theorem dX6_joinWithPutIn_41 : decode cX6_joinWithPutIn 41 = .ok (.aload_n 0, 1) := by decide +kernel
theorem dX6_joinWithPutIn_42 : decode cX6_joinWithPutIn 42 = .ok (.aload_n 1, 1) := by decide +kernel
theorem dX6_joinWithPutIn_43 : decode cX6_joinWithPutIn 43 = .ok (.iload 4, 2) := by decide +kernel
theorem dX6_joinWithPutIn_45 : decode cX6_joinWithPutIn 45 = .ok (.iload_n 3, 1) := by decide +kernel
theorem dX6_joinWithPutIn_46 : decode cX6_joinWithPutIn 46 = .ok (.iload_n 3, 1) := by decide +kernel
theorem dX6_joinWithPutIn_47 : decode cX6_joinWithPutIn 47 = .ok (.invokestatic 35, 3) := by decide +kernel
theorem dX6_joinWithPutIn_50 : decode cX6_joinWithPutIn 50 = .ok (.iload 4, 2) := by decide +kernel
theorem dX6_joinWithPutIn_52 : decode cX6_joinWithPutIn 52 = .ok (.invokevirtual 55, 3) := by decide +kernel
theorem dX6_joinWithPutIn_55 : decode cX6_joinWithPutIn 55 = .ok (.istore 8, 2) := by decide +kernel
theorem dX6_joinWithPutIn_57 : decode cX6_joinWithPutIn 57 = .ok (.iload 7, 2) := by decide +kernel
theorem dX6_joinWithPutIn_59 : decode cX6_joinWithPutIn 59 = .ok (.ifCond .ne 8, 3) := by decide +kernel
theorem dX6_joinWithPutIn_62 : decode cX6_joinWithPutIn 62 = .ok (.iload 8, 2) := by decide +kernel
theorem dX6_joinWithPutIn_64 : decode cX6_joinWithPutIn 64 = .ok (.ifCond .eq 7, 3) := by decide +kernel
theorem dX6_joinWithPutIn_67 : decode cX6_joinWithPutIn 67 = .ok (.iconst 1, 1) := by decide +kernel
theorem dX6_joinWithPutIn_68 : decode cX6_joinWithPutIn 68 = .ok (.goto 4, 3) := by decide +kernel
theorem dX6_joinWithPutIn_71 : decode cX6_joinWithPutIn 71 = .ok (.iconst 0, 1) := by decide +kernel
theorem dX6_joinWithPutIn_72 : decode cX6_joinWithPutIn 72 = .ok (.istore 5, 2) := by decide +kernel
theorem dX6_joinWithPutIn_74 : decode cX6_joinWithPutIn 74 = .ok (.iinc 6 1, 3) := by decide +kernel
theorem dX6_joinWithPutIn_77 : decode cX6_joinWithPutIn 77 = .ok (.goto (-64), 3) := by decide +kernel
theorem dX6_joinWithPutIn_80 : decode cX6_joinWithPutIn 80 = .ok (.return_, 1) := by decide +kernel
theorem dX6_joinCells_0 : decode cX6_joinCells 0 = .ok (.iconst 0, 1) := by decide +kernel
theorem dX6_joinCells_1 : decode cX6_joinCells 1 = .ok (.istore 5, 2) := by decide +kernel
theorem dX6_joinCells_3 : decode cX6_joinCells 3 = .ok (.iconst 0, 1) := by decide +kernel
theorem dX6_joinCells_4 : decode cX6_joinCells 4 = .ok (.istore 6, 2) := by decide +kernel
theorem dX6_joinCells_6 : decode cX6_joinCells 6 = .ok (.iload 6, 2) := by decide +kernel
theorem dX6_joinCells_8 : decode cX6_joinCells 8 = .ok (.aload_n 1, 1) := by decide +kernel
theorem dX6_joinCells_9 : decode cX6_joinCells 9 = .ok (.getfield 89, 3) := by decide +kernel
theorem dX6_joinCells_12 : decode cX6_joinCells 12 = .ok (.if_icmp .ge 64, 3) := by decide +kernel
theorem dX6_joinCells_15 : decode cX6_joinCells 15 = .ok (.iload_n 2, 1) := by decide +kernel
theorem dX6_joinCells_16 : decode cX6_joinCells 16 = .ok (.aload_n 1, 1) := by decide +kernel
theorem dX6_joinCells_17 : decode cX6_joinCells 17 = .ok (.getfield 92, 3) := by decide +kernel
theorem dX6_joinCells_20 : decode cX6_joinCells 20 = .ok (.iload 6, 2) := by decide +kernel
theorem dX6_joinCells_22 : decode cX6_joinCells 22 = .ok (.iaload, 1) := by decide +kernel
theorem dX6_joinCells_23 : decode cX6_joinCells 23 = .ok (.iconst 4, 1) := by decide +kernel
theorem dX6_joinCells_24 : decode cX6_joinCells 24 = .ok (.imul, 1) := by decide +kernel
theorem dX6_joinCells_25 : decode cX6_joinCells 25 = .ok (.iadd, 1) := by decide +kernel
theorem dX6_joinCells_26 : decode cX6_joinCells 26 = .ok (.istore 7, 2) := by decide +kernel
theorem dX6_joinCells_28 : decode cX6_joinCells 28 = .ok (.iload_n 3, 1) := by decide +kernel
theorem dX6_joinCells_29 : decode cX6_joinCells 29 = .ok (.aload_n 1, 1) := by decide +kernel
theorem dX6_joinCells_30 : decode cX6_joinCells 30 = .ok (.getfield 95, 3) := by decide +kernel
theorem dX6_joinCells_33 : decode cX6_joinCells 33 = .ok (.iload 6, 2) := by decide +kernel
theorem dX6_joinCells_35 : decode cX6_joinCells 35 = .ok (.iaload, 1) := by decide +kernel
theorem dX6_joinCells_36 : decode cX6_joinCells 36 = .ok (.iconst 4, 1) := by decide +kernel
theorem dX6_joinCells_37 : decode cX6_joinCells 37 = .ok (.imul, 1) := by decide +kernel
theorem dX6_joinCells_38 : decode cX6_joinCells 38 = .ok (.iadd, 1) := by decide +kernel
theorem dX6_joinCells_39 : decode cX6_joinCells 39 = .ok (.istore 8, 2) := by decide +kernel
theorem dX6_joinCells_41 : decode cX6_joinCells 41 = .ok (.aload_n 0, 1) := by decide +kernel
theorem dX6_joinCells_42 : decode cX6_joinCells 42 = .ok (.aload_n 1, 1) := by decide +kernel
theorem dX6_joinCells_43 : decode cX6_joinCells 43 = .ok (.iload 6, 2) := by decide +kernel
theorem dX6_joinCells_45 : decode cX6_joinCells 45 = .ok (.iload 7, 2) := by decide +kernel
theorem dX6_joinCells_47 : decode cX6_joinCells 47 = .ok (.iload 8, 2) := by decide +kernel
theorem dX6_joinCells_49 : decode cX6_joinCells 49 = .ok (.iload 4, 2) := by decide +kernel
theorem dX6_joinCells_51 : decode cX6_joinCells 51 = .ok (.aload_n 1, 1) := by decide +kernel
theorem dX6_joinCells_52 : decode cX6_joinCells 52 = .ok (.getfield 98, 3) := by decide +kernel
theorem dX6_joinCells_55 : decode cX6_joinCells 55 = .ok (.iload 6, 2) := by decide +kernel
theorem dX6_joinCells_57 : decode cX6_joinCells 57 = .ok (.iaload, 1) := by decide +kernel
theorem dX6_joinCells_58 : decode cX6_joinCells 58 = .ok (.iconst 4, 1) := by decide +kernel
theorem dX6_joinCells_59 : decode cX6_joinCells 59 = .ok (.imul, 1) := by decide +kernel
theorem dX6_joinCells_60 : decode cX6_joinCells 60 = .ok (.iadd, 1) := by decide +kernel
theorem dX6_joinCells_61 : decode cX6_joinCells 61 = .ok (.invokevirtual 101, 3) := by decide +kernel
theorem dX6_joinCells_64 : decode cX6_joinCells 64 = .ok (.ifCond .eq 6, 3) := by decide +kernel
theorem dX6_joinCells_67 : decode cX6_joinCells 67 = .ok (.iconst 1, 1) := by decide +kernel
theorem dX6_joinCells_68 : decode cX6_joinCells 68 = .ok (.istore 5, 2) := by decide +kernel
theorem dX6_joinCells_70 : decode cX6_joinCells 70 = .ok (.iinc 6 1, 3) := by decide +kernel
theorem dX6_joinCells_73 : decode cX6_joinCells 73 = .ok (.goto (-67), 3) := by decide +kernel
theorem dX6_joinCells_76 : decode cX6_joinCells 76 = .ok (.iload 5, 2) := by decide +kernel
theorem dX6_joinCells_78 : decode cX6_joinCells 78 = .ok (.ireturn, 1) := by decide +kernel
theorem dX6_joinByRule_0 : decode cX6_joinByRule 0 = .ok (.aload_n 0, 1) := by decide +kernel
theorem dX6_joinByRule_1 : decode cX6_joinByRule 1 = .ok (.iload_n 3, 1) := by decide +kernel
theorem dX6_joinByRule_2 : decode cX6_joinByRule 2 = .ok (.invokevirtual 39, 3) := by decide +kernel
theorem dX6_joinByRule_5 : decode cX6_joinByRule 5 = .ok (.istore 6, 2) := by decide +kernel
theorem dX6_joinByRule_7 : decode cX6_joinByRule 7 = .ok (.aload_n 0, 1) := by decide +kernel
theorem dX6_joinByRule_8 : decode cX6_joinByRule 8 = .ok (.iload 4, 2) := by decide +kernel
theorem dX6_joinByRule_10 : decode cX6_joinByRule 10 = .ok (.invokevirtual 39, 3) := by decide +kernel
theorem dX6_joinByRule_13 : decode cX6_joinByRule 13 = .ok (.istore 7, 2) := by decide +kernel
theorem dX6_joinByRule_15 : decode cX6_joinByRule 15 = .ok (.iload 6, 2) := by decide +kernel
theorem dX6_joinByRule_17 : decode cX6_joinByRule 17 = .ok (.iload 7, 2) := by decide +kernel
theorem dX6_joinByRule_19 : decode cX6_joinByRule 19 = .ok (.iadd, 1) := by decide +kernel
theorem dX6_joinByRule_20 : decode cX6_joinByRule 20 = .ok (.bipush 100, 2) := by decide +kernel
theorem dX6_joinByRule_22 : decode cX6_joinByRule 22 = .ok (.if_icmp .lt 5, 3) := by decide +kernel
theorem dX6_joinByRule_25 : decode cX6_joinByRule 25 = .ok (.iconst 0, 1) := by decide +kernel
theorem dX6_joinByRule_26 : decode cX6_joinByRule 26 = .ok (.ireturn, 1) := by decide +kernel
theorem dX6_joinByRule_27 : decode cX6_joinByRule 27 = .ok (.iconst 0, 1) := by decide +kernel
theorem dX6_joinByRule_28 : decode cX6_joinByRule 28 = .ok (.istore 8, 2) := by decide +kernel
theorem dX6_joinByRule_30 : decode cX6_joinByRule 30 = .ok (.iconst 0, 1) := by decide +kernel
theorem dX6_joinByRule_31 : decode cX6_joinByRule 31 = .ok (.istore 9, 2) := by decide +kernel
theorem dX6_joinByRule_33 : decode cX6_joinByRule 33 = .ok (.iload 9, 2) := by decide +kernel
theorem dX6_joinByRule_35 : decode cX6_joinByRule 35 = .ok (.iconst 4, 1) := by decide +kernel
theorem dX6_joinByRule_36 : decode cX6_joinByRule 36 = .ok (.if_icmp .ge 101, 3) := by decide +kernel
theorem dX6_joinByRule_39 : decode cX6_joinByRule 39 = .ok (.aload_n 1, 1) := by decide +kernel
theorem dX6_joinByRule_40 : decode cX6_joinByRule 40 = .ok (.getfield 105, 3) := by decide +kernel
theorem dX6_joinByRule_43 : decode cX6_joinByRule 43 = .ok (.iload_n 2, 1) := by decide +kernel
theorem dX6_joinByRule_44 : decode cX6_joinByRule 44 = .ok (.baload, 1) := by decide +kernel
theorem dX6_joinByRule_45 : decode cX6_joinByRule 45 = .ok (.ifCond .eq 28, 3) := by decide +kernel
theorem dX6_joinByRule_48 : decode cX6_joinByRule 48 = .ok (.aload_n 0, 1) := by decide +kernel
theorem dX6_joinByRule_49 : decode cX6_joinByRule 49 = .ok (.getfield 11, 3) := by decide +kernel
theorem dX6_joinByRule_52 : decode cX6_joinByRule 52 = .ok (.iload_n 3, 1) := by decide +kernel
theorem dX6_joinByRule_53 : decode cX6_joinByRule 53 = .ok (.iload 9, 2) := by decide +kernel
theorem dX6_joinByRule_55 : decode cX6_joinByRule 55 = .ok (.iadd, 1) := by decide +kernel
theorem dX6_joinByRule_56 : decode cX6_joinByRule 56 = .ok (.iaload, 1) := by decide +kernel
theorem dX6_joinByRule_57 : decode cX6_joinByRule 57 = .ok (.aload_n 0, 1) := by decide +kernel
theorem dX6_joinByRule_58 : decode cX6_joinByRule 58 = .ok (.getfield 11, 3) := by decide +kernel
theorem dX6_joinByRule_61 : decode cX6_joinByRule 61 = .ok (.iload 4, 2) := by decide +kernel
theorem dX6_joinByRule_63 : decode cX6_joinByRule 63 = .ok (.iload 9, 2) := by decide +kernel
theorem dX6_joinByRule_65 : decode cX6_joinByRule 65 = .ok (.iadd, 1) := by decide +kernel
theorem dX6_joinByRule_66 : decode cX6_joinByRule 66 = .ok (.iaload, 1) := by decide +kernel
theorem dX6_joinByRule_67 : decode cX6_joinByRule 67 = .ok (.iadd, 1) := by decide +kernel
theorem dX6_joinByRule_68 : decode cX6_joinByRule 68 = .ok (.istore 10, 2) := by decide +kernel
theorem dX6_joinByRule_70 : decode cX6_joinByRule 70 = .ok (.goto 44, 3) := by decide +kernel
theorem dX6_joinByRule_73 : decode cX6_joinByRule 73 = .ok (.aload_n 1, 1) := by decide +kernel
theorem dX6_joinByRule_74 : decode cX6_joinByRule 74 = .ok (.getfield 109, 3) := by decide +kernel
theorem dX6_joinByRule_77 : decode cX6_joinByRule 77 = .ok (.iload_n 2, 1) := by decide +kernel
theorem dX6_joinByRule_78 : decode cX6_joinByRule 78 = .ok (.baload, 1) := by decide +kernel
theorem dX6_joinByRule_79 : decode cX6_joinByRule 79 = .ok (.ifCond .eq 21, 3) := by decide +kernel
theorem dX6_joinByRule_82 : decode cX6_joinByRule 82 = .ok (.iload 6, 2) := by decide +kernel
theorem dX6_joinByRule_84 : decode cX6_joinByRule 84 = .ok (.aload_n 0, 1) := by decide +kernel
theorem dX6_joinByRule_85 : decode cX6_joinByRule 85 = .ok (.getfield 11, 3) := by decide +kernel
theorem dX6_joinByRule_88 : decode cX6_joinByRule 88 = .ok (.iload 4, 2) := by decide +kernel
theorem dX6_joinByRule_90 : decode cX6_joinByRule 90 = .ok (.iload 9, 2) := by decide +kernel
theorem dX6_joinByRule_92 : decode cX6_joinByRule 92 = .ok (.iadd, 1) := by decide +kernel
theorem dX6_joinByRule_93 : decode cX6_joinByRule 93 = .ok (.iaload, 1) := by decide +kernel
theorem dX6_joinByRule_94 : decode cX6_joinByRule 94 = .ok (.iadd, 1) := by decide +kernel
theorem dX6_joinByRule_95 : decode cX6_joinByRule 95 = .ok (.istore 10, 2) := by decide +kernel
theorem dX6_joinByRule_97 : decode cX6_joinByRule 97 = .ok (.goto 17, 3) := by decide +kernel
theorem dX6_joinByRule_100 : decode cX6_joinByRule 100 = .ok (.aload_n 0, 1) := by decide +kernel
theorem dX6_joinByRule_101 : decode cX6_joinByRule 101 = .ok (.getfield 11, 3) := by decide +kernel
theorem dX6_joinByRule_104 : decode cX6_joinByRule 104 = .ok (.iload_n 3, 1) := by decide +kernel
theorem dX6_joinByRule_105 : decode cX6_joinByRule 105 = .ok (.iload 9, 2) := by decide +kernel
theorem dX6_joinByRule_107 : decode cX6_joinByRule 107 = .ok (.iadd, 1) := by decide +kernel
theorem dX6_joinByRule_108 : decode cX6_joinByRule 108 = .ok (.iaload, 1) := by decide +kernel
theorem dX6_joinByRule_109 : decode cX6_joinByRule 109 = .ok (.iload 7, 2) := by decide +kernel
theorem dX6_joinByRule_111 : decode cX6_joinByRule 111 = .ok (.iadd, 1) := by decide +kernel
theorem dX6_joinByRule_112 : decode cX6_joinByRule 112 = .ok (.istore 10, 2) := by decide +kernel
theorem dX6_joinByRule_114 : decode cX6_joinByRule 114 = .ok (.aload_n 0, 1) := by decide +kernel
theorem dX6_joinByRule_115 : decode cX6_joinByRule 115 = .ok (.iload 5, 2) := by decide +kernel
theorem dX6_joinByRule_117 : decode cX6_joinByRule 117 = .ok (.iload 9, 2) := by decide +kernel
theorem dX6_joinByRule_119 : decode cX6_joinByRule 119 = .ok (.iadd, 1) := by decide +kernel
theorem dX6_joinByRule_120 : decode cX6_joinByRule 120 = .ok (.iload 10, 2) := by decide +kernel
theorem dX6_joinByRule_122 : decode cX6_joinByRule 122 = .ok (.invokevirtual 86, 3) := by decide +kernel
theorem dX6_joinByRule_125 : decode cX6_joinByRule 125 = .ok (.ifCond .eq 6, 3) := by decide +kernel
theorem dX6_joinByRule_128 : decode cX6_joinByRule 128 = .ok (.iconst 1, 1) := by decide +kernel
theorem dX6_joinByRule_129 : decode cX6_joinByRule 129 = .ok (.istore 8, 2) := by decide +kernel
theorem dX6_joinByRule_131 : decode cX6_joinByRule 131 = .ok (.iinc 9 1, 3) := by decide +kernel
theorem dX6_joinByRule_134 : decode cX6_joinByRule 134 = .ok (.goto (-101), 3) := by decide +kernel
theorem dX6_joinByRule_137 : decode cX6_joinByRule 137 = .ok (.iload 8, 2) := by decide +kernel
theorem dX6_joinByRule_139 : decode cX6_joinByRule 139 = .ok (.ireturn, 1) := by decide +kernel
theorem dX6_cheapestAt_0 : decode cX6_cheapestAt 0 = .ok (.aload_n 0, 1) := by decide +kernel
theorem dX6_cheapestAt_1 : decode cX6_cheapestAt 1 = .ok (.getfield 11, 3) := by decide +kernel
theorem dX6_cheapestAt_4 : decode cX6_cheapestAt 4 = .ok (.iload_n 1, 1) := by decide +kernel
theorem dX6_cheapestAt_5 : decode cX6_cheapestAt 5 = .ok (.iaload, 1) := by decide +kernel
theorem dX6_cheapestAt_6 : decode cX6_cheapestAt 6 = .ok (.aload_n 0, 1) := by decide +kernel
theorem dX6_cheapestAt_7 : decode cX6_cheapestAt 7 = .ok (.getfield 11, 3) := by decide +kernel
theorem dX6_cheapestAt_10 : decode cX6_cheapestAt 10 = .ok (.iload_n 1, 1) := by decide +kernel
theorem dX6_cheapestAt_11 : decode cX6_cheapestAt 11 = .ok (.iconst 1, 1) := by decide +kernel
theorem dX6_cheapestAt_12 : decode cX6_cheapestAt 12 = .ok (.iadd, 1) := by decide +kernel
theorem dX6_cheapestAt_13 : decode cX6_cheapestAt 13 = .ok (.iaload, 1) := by decide +kernel
theorem dX6_cheapestAt_14 : decode cX6_cheapestAt 14 = .ok (.invokestatic 112, 3) := by decide +kernel
theorem dX6_cheapestAt_17 : decode cX6_cheapestAt 17 = .ok (.aload_n 0, 1) := by decide +kernel
theorem dX6_cheapestAt_18 : decode cX6_cheapestAt 18 = .ok (.getfield 11, 3) := by decide +kernel
theorem dX6_cheapestAt_21 : decode cX6_cheapestAt 21 = .ok (.iload_n 1, 1) := by decide +kernel
theorem dX6_cheapestAt_22 : decode cX6_cheapestAt 22 = .ok (.iconst 2, 1) := by decide +kernel
theorem dX6_cheapestAt_23 : decode cX6_cheapestAt 23 = .ok (.iadd, 1) := by decide +kernel
theorem dX6_cheapestAt_24 : decode cX6_cheapestAt 24 = .ok (.iaload, 1) := by decide +kernel
theorem dX6_cheapestAt_25 : decode cX6_cheapestAt 25 = .ok (.aload_n 0, 1) := by decide +kernel
theorem dX6_cheapestAt_26 : decode cX6_cheapestAt 26 = .ok (.getfield 11, 3) := by decide +kernel
theorem dX6_cheapestAt_29 : decode cX6_cheapestAt 29 = .ok (.iload_n 1, 1) := by decide +kernel
theorem dX6_cheapestAt_30 : decode cX6_cheapestAt 30 = .ok (.iconst 3, 1) := by decide +kernel
theorem dX6_cheapestAt_31 : decode cX6_cheapestAt 31 = .ok (.iadd, 1) := by decide +kernel
theorem dX6_cheapestAt_32 : decode cX6_cheapestAt 32 = .ok (.iaload, 1) := by decide +kernel
theorem dX6_cheapestAt_33 : decode cX6_cheapestAt 33 = .ok (.invokestatic 112, 3) := by decide +kernel
theorem dX6_cheapestAt_36 : decode cX6_cheapestAt 36 = .ok (.invokestatic 112, 3) := by decide +kernel
theorem dX6_cheapestAt_39 : decode cX6_cheapestAt 39 = .ok (.ireturn, 1) := by decide +kernel
