theorem dX11_init_0 : decode cX11_init 0 = .ok (.aload_n 0, 1) := by decide +kernel
theorem dX11_init_1 : decode cX11_init 1 = .ok (.invokespecial 1, 3) := by decide +kernel
theorem dX11_init_4 : decode cX11_init 4 = .ok (.aload_n 0, 1) := by decide +kernel
theorem dX11_init_5 : decode cX11_init 5 = .ok (.sipush 1663, 3) := by decide +kernel
theorem dX11_init_8 : decode cX11_init 8 = .ok (.newarray .int, 2) := by decide +kernel
theorem dX11_init_10 : decode cX11_init 10 = .ok (.putfield 7, 3) := by decide +kernel
theorem dX11_init_13 : decode cX11_init 13 = .ok (.aload_n 0, 1) := by decide +kernel
theorem dX11_init_14 : decode cX11_init 14 = .ok (.sipush 1663, 3) := by decide +kernel
theorem dX11_init_17 : decode cX11_init 17 = .ok (.newarray .int, 2) := by decide +kernel
theorem dX11_init_19 : decode cX11_init 19 = .ok (.putfield 13, 3) := by decide +kernel
theorem dX11_init_22 : decode cX11_init 22 = .ok (.aload_n 0, 1) := by decide +kernel
theorem dX11_init_23 : decode cX11_init 23 = .ok (.sipush 2724, 3) := by decide +kernel
theorem dX11_init_26 : decode cX11_init 26 = .ok (.newarray .int, 2) := by decide +kernel
theorem dX11_init_28 : decode cX11_init 28 = .ok (.putfield 16, 3) := by decide +kernel
theorem dX11_init_31 : decode cX11_init 31 = .ok (.aload_n 0, 1) := by decide +kernel
theorem dX11_init_32 : decode cX11_init 32 = .ok (.sipush 300, 3) := by decide +kernel
theorem dX11_init_35 : decode cX11_init 35 = .ok (.newarray .int, 2) := by decide +kernel
theorem dX11_init_37 : decode cX11_init 37 = .ok (.putfield 19, 3) := by decide +kernel
theorem dX11_init_40 : decode cX11_init 40 = .ok (.aload_n 0, 1) := by decide +kernel
theorem dX11_init_41 : decode cX11_init 41 = .ok (.iconst (-1), 1) := by decide +kernel
theorem dX11_init_42 : decode cX11_init 42 = .ok (.putfield 22, 3) := by decide +kernel
theorem dX11_init_45 : decode cX11_init 45 = .ok (.aload_n 0, 1) := by decide +kernel
theorem dX11_init_46 : decode cX11_init 46 = .ok (.iconst (-1), 1) := by decide +kernel
theorem dX11_init_47 : decode cX11_init 47 = .ok (.putfield 26, 3) := by decide +kernel
theorem dX11_init_50 : decode cX11_init 50 = .ok (.aload_n 0, 1) := by decide +kernel
theorem dX11_init_51 : decode cX11_init 51 = .ok (.sipush 160, 3) := by decide +kernel
theorem dX11_init_54 : decode cX11_init 54 = .ok (.newarray .int, 2) := by decide +kernel
theorem dX11_init_56 : decode cX11_init 56 = .ok (.putfield 29, 3) := by decide +kernel
theorem dX11_init_59 : decode cX11_init 59 = .ok (.aload_n 0, 1) := by decide +kernel
theorem dX11_init_60 : decode cX11_init 60 = .ok (.bipush 7, 2) := by decide +kernel
theorem dX11_init_62 : decode cX11_init 62 = .ok (.newarray .int, 2) := by decide +kernel
theorem dX11_init_64 : decode cX11_init 64 = .ok (.putfield 32, 3) := by decide +kernel
theorem dX11_init_67 : decode cX11_init 67 = .ok (.aload_n 0, 1) := by decide +kernel
theorem dX11_init_68 : decode cX11_init 68 = .ok (.sipush 330, 3) := by decide +kernel
theorem dX11_init_71 : decode cX11_init 71 = .ok (.newarray .long, 2) := by decide +kernel
theorem dX11_init_73 : decode cX11_init 73 = .ok (.putfield 35, 3) := by decide +kernel
theorem dX11_init_76 : decode cX11_init 76 = .ok (.aload_n 0, 1) := by decide +kernel
theorem dX11_init_77 : decode cX11_init 77 = .ok (.sipush 330, 3) := by decide +kernel
theorem dX11_init_80 : decode cX11_init 80 = .ok (.newarray .boolean, 2) := by decide +kernel
theorem dX11_init_82 : decode cX11_init 82 = .ok (.putfield 39, 3) := by decide +kernel
theorem dX11_init_85 : decode cX11_init 85 = .ok (.aload_n 0, 1) := by decide +kernel
theorem dX11_init_86 : decode cX11_init 86 = .ok (.iconst 1, 1) := by decide +kernel
theorem dX11_init_87 : decode cX11_init 87 = .ok (.putfield 43, 3) := by decide +kernel
theorem dX11_init_90 : decode cX11_init 90 = .ok (.aload_n 0, 1) := by decide +kernel
theorem dX11_init_91 : decode cX11_init 91 = .ok (.bipush 32, 2) := by decide +kernel
theorem dX11_init_93 : decode cX11_init 93 = .ok (.newarray .int, 2) := by decide +kernel
theorem dX11_init_95 : decode cX11_init 95 = .ok (.putfield 47, 3) := by decide +kernel
theorem dX11_init_98 : decode cX11_init 98 = .ok (.aload_n 0, 1) := by decide +kernel
theorem dX11_init_99 : decode cX11_init 99 = .ok (.bipush 8, 2) := by decide +kernel
theorem dX11_init_101 : decode cX11_init 101 = .ok (.newarray .int, 2) := by decide +kernel
theorem dX11_init_103 : decode cX11_init 103 = .ok (.putfield 50, 3) := by decide +kernel
theorem dX11_init_106 : decode cX11_init 106 = .ok (.aload_n 0, 1) := by decide +kernel
theorem dX11_init_107 : decode cX11_init 107 = .ok (.bipush 8, 2) := by decide +kernel
theorem dX11_init_109 : decode cX11_init 109 = .ok (.newarray .int, 2) := by decide +kernel
theorem dX11_init_111 : decode cX11_init 111 = .ok (.putfield 53, 3) := by decide +kernel
theorem dX11_init_114 : decode cX11_init 114 = .ok (.aload_n 0, 1) := by decide +kernel
theorem dX11_init_115 : decode cX11_init 115 = .ok (.sipush 128, 3) := by decide +kernel
theorem dX11_init_118 : decode cX11_init 118 = .ok (.newarray .int, 2) := by decide +kernel
theorem dX11_init_120 : decode cX11_init 120 = .ok (.putfield 56, 3) := by decide +kernel
theorem dX11_init_123 : decode cX11_init 123 = .ok (.aload_n 0, 1) := by decide +kernel
theorem dX11_init_124 : decode cX11_init 124 = .ok (.bipush 8, 2) := by decide +kernel
theorem dX11_init_126 : decode cX11_init 126 = .ok (.newarray .int, 2) := by decide +kernel
theorem dX11_init_128 : decode cX11_init 128 = .ok (.putfield 59, 3) := by decide +kernel
theorem dX11_init_131 : decode cX11_init 131 = .ok (.aload_n 0, 1) := by decide +kernel
theorem dX11_init_132 : decode cX11_init 132 = .ok (.bipush 8, 2) := by decide +kernel
theorem dX11_init_134 : decode cX11_init 134 = .ok (.newarray .int, 2) := by decide +kernel
theorem dX11_init_136 : decode cX11_init 136 = .ok (.putfield 62, 3) := by decide +kernel
theorem dX11_init_139 : decode cX11_init 139 = .ok (.aload_n 0, 1) := by decide +kernel
theorem dX11_init_140 : decode cX11_init 140 = .ok (.bipush 8, 2) := by decide +kernel
theorem dX11_init_142 : decode cX11_init 142 = .ok (.newarray .int, 2) := by decide +kernel
theorem dX11_init_144 : decode cX11_init 144 = .ok (.putfield 65, 3) := by decide +kernel
theorem dX11_init_147 : decode cX11_init 147 = .ok (.aload_n 0, 1) := by decide +kernel
theorem dX11_init_148 : decode cX11_init 148 = .ok (.bipush 16, 2) := by decide +kernel
theorem dX11_init_150 : decode cX11_init 150 = .ok (.newarray .int, 2) := by decide +kernel
theorem dX11_init_152 : decode cX11_init 152 = .ok (.putfield 68, 3) := by decide +kernel
theorem dX11_init_155 : decode cX11_init 155 = .ok (.aload_n 0, 1) := by decide +kernel
theorem dX11_init_156 : decode cX11_init 156 = .ok (.ldc 71, 2) := by decide +kernel
theorem dX11_init_158 : decode cX11_init 158 = .ok (.newarray .boolean, 2) := by decide +kernel
theorem dX11_init_160 : decode cX11_init 160 = .ok (.putfield 72, 3) := by decide +kernel
theorem dX11_init_163 : decode cX11_init 163 = .ok (.aload_n 0, 1) := by decide +kernel
theorem dX11_init_164 : decode cX11_init 164 = .ok (.getfield 7, 3) := by decide +kernel
theorem dX11_init_167 : decode cX11_init 167 = .ok (.iconst 5, 1) := by decide +kernel
theorem dX11_init_168 : decode cX11_init 168 = .ok (.sipush 443, 3) := by decide +kernel
theorem dX11_init_171 : decode cX11_init 171 = .ok (.iastore, 1) := by decide +kernel
theorem dX11_init_172 : decode cX11_init 172 = .ok (.aload_n 0, 1) := by decide +kernel
theorem dX11_init_173 : decode cX11_init 173 = .ok (.getfield 7, 3) := by decide +kernel
theorem dX11_init_176 : decode cX11_init 176 = .ok (.iconst 1, 1) := by decide +kernel
theorem dX11_init_177 : decode cX11_init 177 = .ok (.iconst (-1), 1) := by decide +kernel
theorem dX11_init_178 : decode cX11_init 178 = .ok (.iastore, 1) := by decide +kernel
theorem dX11_init_179 : decode cX11_init 179 = .ok (.aload_n 0, 1) := by decide +kernel
theorem dX11_init_180 : decode cX11_init 180 = .ok (.getfield 7, 3) := by decide +kernel
theorem dX11_init_183 : decode cX11_init 183 = .ok (.bipush 7, 2) := by decide +kernel
theorem dX11_init_185 : decode cX11_init 185 = .ok (.bipush 8, 2) := by decide +kernel
theorem dX11_init_187 : decode cX11_init 187 = .ok (.iastore, 1) := by decide +kernel
theorem dX11_init_188 : decode cX11_init 188 = .ok (.iconst 0, 1) := by decide +kernel
theorem dX11_init_189 : decode cX11_init 189 = .ok (.istore_n 1, 1) := by decide +kernel
theorem dX11_init_190 : decode cX11_init 190 = .ok (.iload_n 1, 1) := by decide +kernel
theorem dX11_init_191 : decode cX11_init 191 = .ok (.bipush 8, 2) := by decide +kernel
theorem dX11_init_193 : decode cX11_init 193 = .ok (.if_icmp .ge 16, 3) := by decide +kernel
theorem dX11_init_196 : decode cX11_init 196 = .ok (.aload_n 0, 1) := by decide +kernel
theorem dX11_init_197 : decode cX11_init 197 = .ok (.iload_n 1, 1) := by decide +kernel
theorem dX11_init_198 : decode cX11_init 198 = .ok (.iconst (-1), 1) := by decide +kernel
theorem dX11_init_199 : decode cX11_init 199 = .ok (.iconst (-1), 1) := by decide +kernel
theorem dX11_init_200 : decode cX11_init 200 = .ok (.invokevirtual 75, 3) := by decide +kernel
theorem dX11_init_203 : decode cX11_init 203 = .ok (.iinc 1 1, 3) := by decide +kernel
theorem dX11_init_206 : decode cX11_init 206 = .ok (.goto (-16), 3) := by decide +kernel
theorem dX11_init_209 : decode cX11_init 209 = .ok (.aload_n 0, 1) := by decide +kernel
theorem dX11_init_210 : decode cX11_init 210 = .ok (.getfield 7, 3) := by decide +kernel
theorem dX11_init_213 : decode cX11_init 213 = .ok (.aload_n 0, 1) := by decide +kernel
theorem dX11_init_214 : decode cX11_init 214 = .ok (.getfield 13, 3) := by decide +kernel
theorem dX11_init_217 : decode cX11_init 217 = .ok (.invokestatic 79, 3) := by decide +kernel
theorem dX11_init_220 : decode cX11_init 220 = .ok (.return_, 1) := by decide +kernel
theorem dX11_copy_0 : decode cX11_copy 0 = .ok (.iconst 0, 1) := by decide +kernel
theorem dX11_copy_1 : decode cX11_copy 1 = .ok (.istore_n 2, 1) := by decide +kernel
theorem dX11_copy_2 : decode cX11_copy 2 = .ok (.iload_n 2, 1) := by decide +kernel
theorem dX11_copy_3 : decode cX11_copy 3 = .ok (.sipush 1663, 3) := by decide +kernel
theorem dX11_copy_6 : decode cX11_copy 6 = .ok (.if_icmp .ge 15, 3) := by decide +kernel
theorem dX11_copy_9 : decode cX11_copy 9 = .ok (.aload_n 1, 1) := by decide +kernel
theorem dX11_copy_10 : decode cX11_copy 10 = .ok (.iload_n 2, 1) := by decide +kernel
theorem dX11_copy_11 : decode cX11_copy 11 = .ok (.aload_n 0, 1) := by decide +kernel
theorem dX11_copy_12 : decode cX11_copy 12 = .ok (.iload_n 2, 1) := by decide +kernel
theorem dX11_copy_13 : decode cX11_copy 13 = .ok (.iaload, 1) := by decide +kernel
theorem dX11_copy_14 : decode cX11_copy 14 = .ok (.iastore, 1) := by decide +kernel
theorem dX11_copy_15 : decode cX11_copy 15 = .ok (.iinc 2 1, 3) := by decide +kernel
theorem dX11_copy_18 : decode cX11_copy 18 = .ok (.goto (-16), 3) := by decide +kernel
theorem dX11_copy_21 : decode cX11_copy 21 = .ok (.return_, 1) := by decide +kernel
theorem dX11_isIn_0 : decode cX11_isIn 0 = .ok (.iload_n 0, 1) := by decide +kernel
theorem dX11_isIn_1 : decode cX11_isIn 1 = .ok (.iload_n 1, 1) := by decide +kernel
theorem dX11_isIn_2 : decode cX11_isIn 2 = .ok (.if_icmp .lt 12, 3) := by decide +kernel
theorem dX11_isIn_5 : decode cX11_isIn 5 = .ok (.iload_n 0, 1) := by decide +kernel
theorem dX11_isIn_6 : decode cX11_isIn 6 = .ok (.iload_n 2, 1) := by decide +kernel
theorem dX11_isIn_7 : decode cX11_isIn 7 = .ok (.if_icmp .gt 7, 3) := by decide +kernel
theorem dX11_isIn_10 : decode cX11_isIn 10 = .ok (.iconst 1, 1) := by decide +kernel
theorem dX11_isIn_11 : decode cX11_isIn 11 = .ok (.goto 4, 3) := by decide +kernel
theorem dX11_isIn_14 : decode cX11_isIn 14 = .ok (.iconst 0, 1) := by decide +kernel
theorem dX11_isIn_15 : decode cX11_isIn 15 = .ok (.ireturn, 1) := by decide +kernel
theorem dX11_held_0 : decode cX11_held 0 = .ok (.lload_n 0, 1) := by decide +kernel
theorem dX11_held_1 : decode cX11_held 1 = .ok (.iload_n 2, 1) := by decide +kernel
theorem dX11_held_2 : decode cX11_held 2 = .ok (.i2l, 1) := by decide +kernel
theorem dX11_held_3 : decode cX11_held 3 = .ok (.lcmp, 1) := by decide +kernel
theorem dX11_held_4 : decode cX11_held 4 = .ok (.ifCond .ge 7, 3) := by decide +kernel
theorem dX11_held_7 : decode cX11_held 7 = .ok (.iload_n 2, 1) := by decide +kernel
theorem dX11_held_8 : decode cX11_held 8 = .ok (.goto 16, 3) := by decide +kernel
theorem dX11_held_11 : decode cX11_held 11 = .ok (.lload_n 0, 1) := by decide +kernel
theorem dX11_held_12 : decode cX11_held 12 = .ok (.iload_n 3, 1) := by decide +kernel
theorem dX11_held_13 : decode cX11_held 13 = .ok (.i2l, 1) := by decide +kernel
theorem dX11_held_14 : decode cX11_held 14 = .ok (.lcmp, 1) := by decide +kernel
theorem dX11_held_15 : decode cX11_held 15 = .ok (.ifCond .le 7, 3) := by decide +kernel
theorem dX11_held_18 : decode cX11_held 18 = .ok (.iload_n 3, 1) := by decide +kernel
theorem dX11_held_19 : decode cX11_held 19 = .ok (.goto 5, 3) := by decide +kernel
theorem dX11_held_22 : decode cX11_held 22 = .ok (.lload_n 0, 1) := by decide +kernel
theorem dX11_held_23 : decode cX11_held 23 = .ok (.l2i, 1) := by decide +kernel
theorem dX11_held_24 : decode cX11_held 24 = .ok (.ireturn, 1) := by decide +kernel
theorem dX11_has_0 : decode cX11_has 0 = .ok (.iload_n 0, 1) := by decide +kernel
theorem dX11_has_1 : decode cX11_has 1 = .ok (.iload_n 1, 1) := by decide +kernel
theorem dX11_has_2 : decode cX11_has 2 = .ok (.ishr, 1) := by decide +kernel
theorem dX11_has_3 : decode cX11_has 3 = .ok (.iconst 1, 1) := by decide +kernel
theorem dX11_has_4 : decode cX11_has 4 = .ok (.iand, 1) := by decide +kernel
theorem dX11_has_5 : decode cX11_has 5 = .ok (.iconst 1, 1) := by decide +kernel
theorem dX11_has_6 : decode cX11_has 6 = .ok (.if_icmp .ne 7, 3) := by decide +kernel
theorem dX11_has_9 : decode cX11_has 9 = .ok (.iconst 1, 1) := by decide +kernel
theorem dX11_has_10 : decode cX11_has 10 = .ok (.goto 4, 3) := by decide +kernel
theorem dX11_has_13 : decode cX11_has 13 = .ok (.iconst 0, 1) := by decide +kernel
theorem dX11_has_14 : decode cX11_has 14 = .ok (.ireturn, 1) := by decide +kernel
theorem dX11_bits_0 : decode cX11_bits 0 = .ok (.iconst 0, 1) := by decide +kernel
theorem dX11_bits_1 : decode cX11_bits 1 = .ok (.istore_n 1, 1) := by decide +kernel
theorem dX11_bits_2 : decode cX11_bits 2 = .ok (.iload_n 0, 1) := by decide +kernel
theorem dX11_bits_3 : decode cX11_bits 3 = .ok (.istore_n 2, 1) := by decide +kernel
theorem dX11_bits_4 : decode cX11_bits 4 = .ok (.iload_n 2, 1) := by decide +kernel
theorem dX11_bits_5 : decode cX11_bits 5 = .ok (.ifCond .eq 15, 3) := by decide +kernel
theorem dX11_bits_8 : decode cX11_bits 8 = .ok (.iinc 1 1, 3) := by decide +kernel
theorem dX11_bits_11 : decode cX11_bits 11 = .ok (.iload_n 2, 1) := by decide +kernel
theorem dX11_bits_12 : decode cX11_bits 12 = .ok (.iload_n 2, 1) := by decide +kernel
theorem dX11_bits_13 : decode cX11_bits 13 = .ok (.iconst 1, 1) := by decide +kernel
theorem dX11_bits_14 : decode cX11_bits 14 = .ok (.isub, 1) := by decide +kernel
theorem dX11_bits_15 : decode cX11_bits 15 = .ok (.iand, 1) := by decide +kernel
theorem dX11_bits_16 : decode cX11_bits 16 = .ok (.istore_n 2, 1) := by decide +kernel
theorem dX11_bits_17 : decode cX11_bits 17 = .ok (.goto (-13), 3) := by decide +kernel
theorem dX11_bits_20 : decode cX11_bits 20 = .ok (.iload_n 1, 1) := by decide +kernel
theorem dX11_bits_21 : decode cX11_bits 21 = .ok (.ireturn, 1) := by decide +kernel
theorem dX11_isNumber_0 : decode cX11_isNumber 0 = .ok (.iload_n 0, 1) := by decide +kernel
theorem dX11_isNumber_1 : decode cX11_isNumber 1 = .ok (.iconst 0, 1) := by decide +kernel
theorem dX11_isNumber_2 : decode cX11_isNumber 2 = .ok (.bipush 7, 2) := by decide +kernel
theorem dX11_isNumber_4 : decode cX11_isNumber 4 = .ok (.invokestatic 83, 3) := by decide +kernel
theorem dX11_isNumber_7 : decode cX11_isNumber 7 = .ok (.ireturn, 1) := by decide +kernel
theorem dX11_layPlaces_0 : decode cX11_layPlaces 0 = .ok (.aload_n 0, 1) := by decide +kernel
theorem dX11_layPlaces_1 : decode cX11_layPlaces 1 = .ok (.getfield 7, 3) := by decide +kernel
theorem dX11_layPlaces_4 : decode cX11_layPlaces 4 = .ok (.bipush 8, 2) := by decide +kernel
theorem dX11_layPlaces_6 : decode cX11_layPlaces 6 = .ok (.iload_n 1, 1) := by decide +kernel
theorem dX11_layPlaces_7 : decode cX11_layPlaces 7 = .ok (.iadd, 1) := by decide +kernel
theorem dX11_layPlaces_8 : decode cX11_layPlaces 8 = .ok (.iload_n 2, 1) := by decide +kernel
theorem dX11_layPlaces_9 : decode cX11_layPlaces 9 = .ok (.iastore, 1) := by decide +kernel
theorem dX11_layPlaces_10 : decode cX11_layPlaces 10 = .ok (.aload_n 0, 1) := by decide +kernel
theorem dX11_layPlaces_11 : decode cX11_layPlaces 11 = .ok (.getfield 7, 3) := by decide +kernel
theorem dX11_layPlaces_14 : decode cX11_layPlaces 14 = .ok (.bipush 16, 2) := by decide +kernel
theorem dX11_layPlaces_16 : decode cX11_layPlaces 16 = .ok (.iload_n 1, 1) := by decide +kernel
theorem dX11_layPlaces_17 : decode cX11_layPlaces 17 = .ok (.iadd, 1) := by decide +kernel
theorem dX11_layPlaces_18 : decode cX11_layPlaces 18 = .ok (.iload_n 3, 1) := by decide +kernel
theorem dX11_layPlaces_19 : decode cX11_layPlaces 19 = .ok (.iastore, 1) := by decide +kernel
theorem dX11_layPlaces_20 : decode cX11_layPlaces 20 = .ok (.return_, 1) := by decide +kernel
theorem dX11_stands_0 : decode cX11_stands 0 = .ok (.iload_n 1, 1) := by decide +kernel
theorem dX11_stands_1 : decode cX11_stands 1 = .ok (.invokestatic 87, 3) := by decide +kernel
theorem dX11_stands_4 : decode cX11_stands 4 = .ok (.ifCond .eq 20, 3) := by decide +kernel
theorem dX11_stands_7 : decode cX11_stands 7 = .ok (.aload_n 0, 1) := by decide +kernel
theorem dX11_stands_8 : decode cX11_stands 8 = .ok (.getfield 7, 3) := by decide +kernel
theorem dX11_stands_11 : decode cX11_stands 11 = .ok (.bipush 8, 2) := by decide +kernel
theorem dX11_stands_13 : decode cX11_stands 13 = .ok (.iload_n 1, 1) := by decide +kernel
theorem dX11_stands_14 : decode cX11_stands 14 = .ok (.iadd, 1) := by decide +kernel
theorem dX11_stands_15 : decode cX11_stands 15 = .ok (.iaload, 1) := by decide +kernel
theorem dX11_stands_16 : decode cX11_stands 16 = .ok (.iconst (-1), 1) := by decide +kernel
theorem dX11_stands_17 : decode cX11_stands 17 = .ok (.if_icmp .eq 7, 3) := by decide +kernel
theorem dX11_stands_20 : decode cX11_stands 20 = .ok (.iconst 1, 1) := by decide +kernel
theorem dX11_stands_21 : decode cX11_stands 21 = .ok (.goto 4, 3) := by decide +kernel
theorem dX11_stands_24 : decode cX11_stands 24 = .ok (.iconst 0, 1) := by decide +kernel
theorem dX11_stands_25 : decode cX11_stands 25 = .ok (.ireturn, 1) := by decide +kernel
theorem dX11_standing_0 : decode cX11_standing 0 = .ok (.iconst 0, 1) := by decide +kernel
theorem dX11_standing_1 : decode cX11_standing 1 = .ok (.istore_n 1, 1) := by decide +kernel
theorem dX11_standing_2 : decode cX11_standing 2 = .ok (.iconst 0, 1) := by decide +kernel
theorem dX11_standing_3 : decode cX11_standing 3 = .ok (.istore_n 2, 1) := by decide +kernel
theorem dX11_standing_4 : decode cX11_standing 4 = .ok (.iload_n 2, 1) := by decide +kernel
theorem dX11_standing_5 : decode cX11_standing 5 = .ok (.bipush 8, 2) := by decide +kernel
theorem dX11_standing_7 : decode cX11_standing 7 = .ok (.if_icmp .ge 27, 3) := by decide +kernel
theorem dX11_standing_10 : decode cX11_standing 10 = .ok (.iload_n 1, 1) := by decide +kernel
theorem dX11_standing_11 : decode cX11_standing 11 = .ok (.aload_n 0, 1) := by decide +kernel
theorem dX11_standing_12 : decode cX11_standing 12 = .ok (.iload_n 2, 1) := by decide +kernel
theorem dX11_standing_13 : decode cX11_standing 13 = .ok (.invokevirtual 91, 3) := by decide +kernel
theorem dX11_standing_16 : decode cX11_standing 16 = .ok (.ifCond .eq 9, 3) := by decide +kernel
theorem dX11_standing_19 : decode cX11_standing 19 = .ok (.iconst 1, 1) := by decide +kernel
theorem dX11_standing_20 : decode cX11_standing 20 = .ok (.iload_n 2, 1) := by decide +kernel
theorem dX11_standing_21 : decode cX11_standing 21 = .ok (.ishl, 1) := by decide +kernel
theorem dX11_standing_22 : decode cX11_standing 22 = .ok (.goto 4, 3) := by decide +kernel
theorem dX11_standing_25 : decode cX11_standing 25 = .ok (.iconst 0, 1) := by decide +kernel
theorem dX11_standing_26 : decode cX11_standing 26 = .ok (.ior, 1) := by decide +kernel
theorem dX11_standing_27 : decode cX11_standing 27 = .ok (.istore_n 1, 1) := by decide +kernel
theorem dX11_standing_28 : decode cX11_standing 28 = .ok (.iinc 2 1, 3) := by decide +kernel
theorem dX11_standing_31 : decode cX11_standing 31 = .ok (.goto (-27), 3) := by decide +kernel
theorem dX11_standing_34 : decode cX11_standing 34 = .ok (.iload_n 1, 1) := by decide +kernel
theorem dX11_standing_35 : decode cX11_standing 35 = .ok (.ireturn, 1) := by decide +kernel
theorem dX11_placesOf_0 : decode cX11_placesOf 0 = .ok (.iconst 1, 1) := by decide +kernel
theorem dX11_placesOf_1 : decode cX11_placesOf 1 = .ok (.aload_n 0, 1) := by decide +kernel
theorem dX11_placesOf_2 : decode cX11_placesOf 2 = .ok (.getfield 7, 3) := by decide +kernel
theorem dX11_placesOf_5 : decode cX11_placesOf 5 = .ok (.bipush 8, 2) := by decide +kernel
theorem dX11_placesOf_7 : decode cX11_placesOf 7 = .ok (.iload_n 1, 1) := by decide +kernel
theorem dX11_placesOf_8 : decode cX11_placesOf 8 = .ok (.iadd, 1) := by decide +kernel
theorem dX11_placesOf_9 : decode cX11_placesOf 9 = .ok (.iaload, 1) := by decide +kernel
theorem dX11_placesOf_10 : decode cX11_placesOf 10 = .ok (.ishl, 1) := by decide +kernel
theorem dX11_placesOf_11 : decode cX11_placesOf 11 = .ok (.iconst 1, 1) := by decide +kernel
theorem dX11_placesOf_12 : decode cX11_placesOf 12 = .ok (.aload_n 0, 1) := by decide +kernel
theorem dX11_placesOf_13 : decode cX11_placesOf 13 = .ok (.getfield 7, 3) := by decide +kernel
theorem dX11_placesOf_16 : decode cX11_placesOf 16 = .ok (.bipush 16, 2) := by decide +kernel
theorem dX11_placesOf_18 : decode cX11_placesOf 18 = .ok (.iload_n 1, 1) := by decide +kernel
theorem dX11_placesOf_19 : decode cX11_placesOf 19 = .ok (.iadd, 1) := by decide +kernel
theorem dX11_placesOf_20 : decode cX11_placesOf 20 = .ok (.iaload, 1) := by decide +kernel
theorem dX11_placesOf_21 : decode cX11_placesOf 21 = .ok (.ishl, 1) := by decide +kernel
theorem dX11_placesOf_22 : decode cX11_placesOf 22 = .ok (.ior, 1) := by decide +kernel
theorem dX11_placesOf_23 : decode cX11_placesOf 23 = .ok (.ireturn, 1) := by decide +kernel
theorem dX11_taken_0 : decode cX11_taken 0 = .ok (.iconst 0, 1) := by decide +kernel
theorem dX11_taken_1 : decode cX11_taken 1 = .ok (.istore_n 1, 1) := by decide +kernel
theorem dX11_taken_2 : decode cX11_taken 2 = .ok (.iconst 0, 1) := by decide +kernel
theorem dX11_taken_3 : decode cX11_taken 3 = .ok (.istore_n 2, 1) := by decide +kernel
theorem dX11_taken_4 : decode cX11_taken 4 = .ok (.iload_n 2, 1) := by decide +kernel
theorem dX11_taken_5 : decode cX11_taken 5 = .ok (.bipush 8, 2) := by decide +kernel
theorem dX11_taken_7 : decode cX11_taken 7 = .ok (.if_icmp .ge 29, 3) := by decide +kernel
theorem dX11_taken_10 : decode cX11_taken 10 = .ok (.iload_n 1, 1) := by decide +kernel
theorem dX11_taken_11 : decode cX11_taken 11 = .ok (.aload_n 0, 1) := by decide +kernel
theorem dX11_taken_12 : decode cX11_taken 12 = .ok (.iload_n 2, 1) := by decide +kernel
theorem dX11_taken_13 : decode cX11_taken 13 = .ok (.invokevirtual 91, 3) := by decide +kernel
theorem dX11_taken_16 : decode cX11_taken 16 = .ok (.ifCond .eq 11, 3) := by decide +kernel
theorem dX11_taken_19 : decode cX11_taken 19 = .ok (.aload_n 0, 1) := by decide +kernel
theorem dX11_taken_20 : decode cX11_taken 20 = .ok (.iload_n 2, 1) := by decide +kernel
theorem dX11_taken_21 : decode cX11_taken 21 = .ok (.invokevirtual 94, 3) := by decide +kernel
theorem dX11_taken_24 : decode cX11_taken 24 = .ok (.goto 4, 3) := by decide +kernel
theorem dX11_taken_27 : decode cX11_taken 27 = .ok (.iconst 0, 1) := by decide +kernel
theorem dX11_taken_28 : decode cX11_taken 28 = .ok (.ior, 1) := by decide +kernel
theorem dX11_taken_29 : decode cX11_taken 29 = .ok (.istore_n 1, 1) := by decide +kernel
theorem dX11_taken_30 : decode cX11_taken 30 = .ok (.iinc 2 1, 3) := by decide +kernel
theorem dX11_taken_33 : decode cX11_taken 33 = .ok (.goto (-29), 3) := by decide +kernel
theorem dX11_taken_36 : decode cX11_taken 36 = .ok (.iload_n 1, 1) := by decide +kernel
theorem dX11_taken_37 : decode cX11_taken 37 = .ok (.ireturn, 1) := by decide +kernel
theorem dX11_everyPlace_0 : decode cX11_everyPlace 0 = .ok (.iconst 1, 1) := by decide +kernel
theorem dX11_everyPlace_1 : decode cX11_everyPlace 1 = .ok (.aload_n 0, 1) := by decide +kernel
theorem dX11_everyPlace_2 : decode cX11_everyPlace 2 = .ok (.getfield 7, 3) := by decide +kernel
theorem dX11_everyPlace_5 : decode cX11_everyPlace 5 = .ok (.bipush 7, 2) := by decide +kernel
theorem dX11_everyPlace_7 : decode cX11_everyPlace 7 = .ok (.iaload, 1) := by decide +kernel
theorem dX11_everyPlace_8 : decode cX11_everyPlace 8 = .ok (.ishl, 1) := by decide +kernel
theorem dX11_everyPlace_9 : decode cX11_everyPlace 9 = .ok (.iconst 1, 1) := by decide +kernel
theorem dX11_everyPlace_10 : decode cX11_everyPlace 10 = .ok (.isub, 1) := by decide +kernel
theorem dX11_everyPlace_11 : decode cX11_everyPlace 11 = .ok (.ireturn, 1) := by decide +kernel
theorem dX11_four_0 : decode cX11_four 0 = .ok (.bipush 24, 2) := by decide +kernel
theorem dX11_four_2 : decode cX11_four 2 = .ok (.istore_n 2, 1) := by decide +kernel
theorem dX11_four_3 : decode cX11_four 3 = .ok (.iload_n 2, 1) := by decide +kernel
theorem dX11_four_4 : decode cX11_four 4 = .ok (.ifCond .lt 35, 3) := by decide +kernel
theorem dX11_four_7 : decode cX11_four 7 = .ok (.aload_n 0, 1) := by decide +kernel
theorem dX11_four_8 : decode cX11_four 8 = .ok (.getfield 19, 3) := by decide +kernel
theorem dX11_four_11 : decode cX11_four 11 = .ok (.aload_n 0, 1) := by decide +kernel
theorem dX11_four_12 : decode cX11_four 12 = .ok (.getfield 98, 3) := by decide +kernel
theorem dX11_four_15 : decode cX11_four 15 = .ok (.iload_n 1, 1) := by decide +kernel
theorem dX11_four_16 : decode cX11_four 16 = .ok (.iload_n 2, 1) := by decide +kernel
theorem dX11_four_17 : decode cX11_four 17 = .ok (.ishr, 1) := by decide +kernel
theorem dX11_four_18 : decode cX11_four 18 = .ok (.sipush 255, 3) := by decide +kernel
theorem dX11_four_21 : decode cX11_four 21 = .ok (.iand, 1) := by decide +kernel
theorem dX11_four_22 : decode cX11_four 22 = .ok (.iastore, 1) := by decide +kernel
theorem dX11_four_23 : decode cX11_four 23 = .ok (.aload_n 0, 1) := by decide +kernel
theorem dX11_four_24 : decode cX11_four 24 = .ok (.dup, 1) := by decide +kernel
theorem dX11_four_25 : decode cX11_four 25 = .ok (.getfield 98, 3) := by decide +kernel
theorem dX11_four_28 : decode cX11_four 28 = .ok (.iconst 1, 1) := by decide +kernel
theorem dX11_four_29 : decode cX11_four 29 = .ok (.iadd, 1) := by decide +kernel
theorem dX11_four_30 : decode cX11_four 30 = .ok (.putfield 98, 3) := by decide +kernel
theorem dX11_four_33 : decode cX11_four 33 = .ok (.iinc 2 (-8), 3) := by decide +kernel
theorem dX11_four_36 : decode cX11_four 36 = .ok (.goto (-33), 3) := by decide +kernel
theorem dX11_four_39 : decode cX11_four 39 = .ok (.return_, 1) := by decide +kernel
theorem dX11_feed_0 : decode cX11_feed 0 = .ok (.aload_n 0, 1) := by decide +kernel
theorem dX11_feed_1 : decode cX11_feed 1 = .ok (.getfield 98, 3) := by decide +kernel
theorem dX11_feed_4 : decode cX11_feed 4 = .ok (.bipush 20, 2) := by decide +kernel
theorem dX11_feed_6 : decode cX11_feed 6 = .ok (.iadd, 1) := by decide +kernel
theorem dX11_feed_7 : decode cX11_feed 7 = .ok (.sipush 300, 3) := by decide +kernel
theorem dX11_feed_10 : decode cX11_feed 10 = .ok (.if_icmp .le 5, 3) := by decide +kernel
theorem dX11_feed_13 : decode cX11_feed 13 = .ok (.iconst (-1), 1) := by decide +kernel
theorem dX11_feed_14 : decode cX11_feed 14 = .ok (.ireturn, 1) := by decide +kernel
theorem dX11_feed_15 : decode cX11_feed 15 = .ok (.aload_n 0, 1) := by decide +kernel
theorem dX11_feed_16 : decode cX11_feed 16 = .ok (.iload_n 1, 1) := by decide +kernel
theorem dX11_feed_17 : decode cX11_feed 17 = .ok (.invokevirtual 101, 3) := by decide +kernel
theorem dX11_feed_20 : decode cX11_feed 20 = .ok (.aload_n 0, 1) := by decide +kernel
theorem dX11_feed_21 : decode cX11_feed 21 = .ok (.iload_n 2, 1) := by decide +kernel
theorem dX11_feed_22 : decode cX11_feed 22 = .ok (.invokevirtual 101, 3) := by decide +kernel
theorem dX11_feed_25 : decode cX11_feed 25 = .ok (.aload_n 0, 1) := by decide +kernel
theorem dX11_feed_26 : decode cX11_feed 26 = .ok (.iload_n 3, 1) := by decide +kernel
theorem dX11_feed_27 : decode cX11_feed 27 = .ok (.invokevirtual 101, 3) := by decide +kernel
theorem dX11_feed_30 : decode cX11_feed 30 = .ok (.aload_n 0, 1) := by decide +kernel
theorem dX11_feed_31 : decode cX11_feed 31 = .ok (.iload 4, 2) := by decide +kernel
theorem dX11_feed_33 : decode cX11_feed 33 = .ok (.invokevirtual 101, 3) := by decide +kernel
theorem dX11_feed_36 : decode cX11_feed 36 = .ok (.aload_n 0, 1) := by decide +kernel
theorem dX11_feed_37 : decode cX11_feed 37 = .ok (.iload 5, 2) := by decide +kernel
theorem dX11_feed_39 : decode cX11_feed 39 = .ok (.invokevirtual 101, 3) := by decide +kernel
theorem dX11_feed_42 : decode cX11_feed 42 = .ok (.aload_n 0, 1) := by decide +kernel
theorem dX11_feed_43 : decode cX11_feed 43 = .ok (.getfield 98, 3) := by decide +kernel
theorem dX11_feed_46 : decode cX11_feed 46 = .ok (.ireturn, 1) := by decide +kernel
theorem dX11_end_0 : decode cX11_end 0 = .ok (.iload_n 1, 1) := by decide +kernel
theorem dX11_end_1 : decode cX11_end 1 = .ok (.iconst 0, 1) := by decide +kernel
theorem dX11_end_2 : decode cX11_end 2 = .ok (.aload_n 0, 1) := by decide +kernel
theorem dX11_end_3 : decode cX11_end 3 = .ok (.getfield 98, 3) := by decide +kernel
theorem dX11_end_6 : decode cX11_end 6 = .ok (.invokestatic 83, 3) := by decide +kernel
theorem dX11_end_9 : decode cX11_end 9 = .ok (.ifCond .ne 5, 3) := by decide +kernel
theorem dX11_end_12 : decode cX11_end 12 = .ok (.iconst (-1), 1) := by decide +kernel
theorem dX11_end_13 : decode cX11_end 13 = .ok (.ireturn, 1) := by decide +kernel
theorem dX11_end_14 : decode cX11_end 14 = .ok (.aload_n 0, 1) := by decide +kernel
theorem dX11_end_15 : decode cX11_end 15 = .ok (.iload_n 1, 1) := by decide +kernel
theorem dX11_end_16 : decode cX11_end 16 = .ok (.putfield 98, 3) := by decide +kernel
theorem dX11_end_19 : decode cX11_end 19 = .ok (.iload_n 1, 1) := by decide +kernel
theorem dX11_end_20 : decode cX11_end 20 = .ok (.ireturn, 1) := by decide +kernel
theorem dX11_byteAt_0 : decode cX11_byteAt 0 = .ok (.iload_n 1, 1) := by decide +kernel
theorem dX11_byteAt_1 : decode cX11_byteAt 1 = .ok (.aload_n 0, 1) := by decide +kernel
theorem dX11_byteAt_2 : decode cX11_byteAt 2 = .ok (.getfield 98, 3) := by decide +kernel
theorem dX11_byteAt_5 : decode cX11_byteAt 5 = .ok (.if_icmp .ge 12, 3) := by decide +kernel
theorem dX11_byteAt_8 : decode cX11_byteAt 8 = .ok (.aload_n 0, 1) := by decide +kernel
theorem dX11_byteAt_9 : decode cX11_byteAt 9 = .ok (.getfield 19, 3) := by decide +kernel
theorem dX11_byteAt_12 : decode cX11_byteAt 12 = .ok (.iload_n 1, 1) := by decide +kernel
theorem dX11_byteAt_13 : decode cX11_byteAt 13 = .ok (.iaload, 1) := by decide +kernel
theorem dX11_byteAt_14 : decode cX11_byteAt 14 = .ok (.goto 4, 3) := by decide +kernel
theorem dX11_byteAt_17 : decode cX11_byteAt 17 = .ok (.iconst (-1), 1) := by decide +kernel
theorem dX11_byteAt_18 : decode cX11_byteAt 18 = .ok (.ireturn, 1) := by decide +kernel
theorem dX11_isLetterByte_0 : decode cX11_isLetterByte 0 = .ok (.iload_n 0, 1) := by decide +kernel
theorem dX11_isLetterByte_1 : decode cX11_isLetterByte 1 = .ok (.bipush 97, 2) := by decide +kernel
theorem dX11_isLetterByte_3 : decode cX11_isLetterByte 3 = .ok (.if_icmp .lt 9, 3) := by decide +kernel
theorem dX11_isLetterByte_6 : decode cX11_isLetterByte 6 = .ok (.iload_n 0, 1) := by decide +kernel
theorem dX11_isLetterByte_7 : decode cX11_isLetterByte 7 = .ok (.bipush 122, 2) := by decide +kernel
theorem dX11_isLetterByte_9 : decode cX11_isLetterByte 9 = .ok (.if_icmp .le 15, 3) := by decide +kernel
theorem dX11_isLetterByte_12 : decode cX11_isLetterByte 12 = .ok (.iload_n 0, 1) := by decide +kernel
theorem dX11_isLetterByte_13 : decode cX11_isLetterByte 13 = .ok (.bipush 65, 2) := by decide +kernel
theorem dX11_isLetterByte_15 : decode cX11_isLetterByte 15 = .ok (.if_icmp .lt 13, 3) := by decide +kernel
theorem dX11_isLetterByte_18 : decode cX11_isLetterByte 18 = .ok (.iload_n 0, 1) := by decide +kernel
theorem dX11_isLetterByte_19 : decode cX11_isLetterByte 19 = .ok (.bipush 90, 2) := by decide +kernel
theorem dX11_isLetterByte_21 : decode cX11_isLetterByte 21 = .ok (.if_icmp .gt 7, 3) := by decide +kernel
theorem dX11_isLetterByte_24 : decode cX11_isLetterByte 24 = .ok (.iconst 1, 1) := by decide +kernel
theorem dX11_isLetterByte_25 : decode cX11_isLetterByte 25 = .ok (.goto 4, 3) := by decide +kernel
theorem dX11_isLetterByte_28 : decode cX11_isLetterByte 28 = .ok (.iconst 0, 1) := by decide +kernel
theorem dX11_isLetterByte_29 : decode cX11_isLetterByte 29 = .ok (.ireturn, 1) := by decide +kernel
theorem dX11_isFigure_0 : decode cX11_isFigure 0 = .ok (.iload_n 0, 1) := by decide +kernel
theorem dX11_isFigure_1 : decode cX11_isFigure 1 = .ok (.bipush 48, 2) := by decide +kernel
theorem dX11_isFigure_3 : decode cX11_isFigure 3 = .ok (.if_icmp .lt 13, 3) := by decide +kernel
theorem dX11_isFigure_6 : decode cX11_isFigure 6 = .ok (.iload_n 0, 1) := by decide +kernel
theorem dX11_isFigure_7 : decode cX11_isFigure 7 = .ok (.bipush 57, 2) := by decide +kernel
theorem dX11_isFigure_9 : decode cX11_isFigure 9 = .ok (.if_icmp .gt 7, 3) := by decide +kernel
theorem dX11_isFigure_12 : decode cX11_isFigure 12 = .ok (.iconst 1, 1) := by decide +kernel
theorem dX11_isFigure_13 : decode cX11_isFigure 13 = .ok (.goto 4, 3) := by decide +kernel
theorem dX11_isFigure_16 : decode cX11_isFigure 16 = .ok (.iconst 0, 1) := by decide +kernel
theorem dX11_isFigure_17 : decode cX11_isFigure 17 = .ok (.ireturn, 1) := by decide +kernel
theorem dX11_isSign_0 : decode cX11_isSign 0 = .ok (.iload_n 0, 1) := by decide +kernel
theorem dX11_isSign_1 : decode cX11_isSign 1 = .ok (.tableswitch 129 35 62 #[127, 129, 129, 129, 129, 127, 127, 127, 127, 129, 127, 129, 127, 129, 129, 129, 129, 129, 129, 129, 129, 129, 129, 127, 127, 127, 127, 127], 127) := by decide +kernel
theorem dX11_isSign_128 : decode cX11_isSign 128 = .ok (.iconst 1, 1) := by decide +kernel
theorem dX11_isSign_129 : decode cX11_isSign 129 = .ok (.ireturn, 1) := by decide +kernel
theorem dX11_isSign_130 : decode cX11_isSign 130 = .ok (.iconst 0, 1) := by decide +kernel
theorem dX11_isSign_131 : decode cX11_isSign 131 = .ok (.ireturn, 1) := by decide +kernel
theorem dX11_nextToken_0 : decode cX11_nextToken 0 = .ok (.aload_n 0, 1) := by decide +kernel
theorem dX11_nextToken_1 : decode cX11_nextToken 1 = .ok (.aload_n 0, 1) := by decide +kernel
theorem dX11_nextToken_2 : decode cX11_nextToken 2 = .ok (.getfield 105, 3) := by decide +kernel
theorem dX11_nextToken_5 : decode cX11_nextToken 5 = .ok (.invokevirtual 108, 3) := by decide +kernel
theorem dX11_nextToken_8 : decode cX11_nextToken 8 = .ok (.bipush 32, 2) := by decide +kernel
theorem dX11_nextToken_10 : decode cX11_nextToken 10 = .ok (.if_icmp .eq 16, 3) := by decide +kernel
theorem dX11_nextToken_13 : decode cX11_nextToken 13 = .ok (.aload_n 0, 1) := by decide +kernel
theorem dX11_nextToken_14 : decode cX11_nextToken 14 = .ok (.aload_n 0, 1) := by decide +kernel
theorem dX11_nextToken_15 : decode cX11_nextToken 15 = .ok (.getfield 105, 3) := by decide +kernel
theorem dX11_nextToken_18 : decode cX11_nextToken 18 = .ok (.invokevirtual 108, 3) := by decide +kernel
theorem dX11_nextToken_21 : decode cX11_nextToken 21 = .ok (.bipush 10, 2) := by decide +kernel
theorem dX11_nextToken_23 : decode cX11_nextToken 23 = .ok (.if_icmp .ne 16, 3) := by decide +kernel
theorem dX11_nextToken_26 : decode cX11_nextToken 26 = .ok (.aload_n 0, 1) := by decide +kernel
theorem dX11_nextToken_27 : decode cX11_nextToken 27 = .ok (.dup, 1) := by decide +kernel
theorem dX11_nextToken_28 : decode cX11_nextToken 28 = .ok (.getfield 105, 3) := by decide +kernel
theorem dX11_nextToken_31 : decode cX11_nextToken 31 = .ok (.iconst 1, 1) := by decide +kernel
theorem dX11_nextToken_32 : decode cX11_nextToken 32 = .ok (.iadd, 1) := by decide +kernel
theorem dX11_nextToken_33 : decode cX11_nextToken 33 = .ok (.putfield 105, 3) := by decide +kernel
theorem dX11_nextToken_36 : decode cX11_nextToken 36 = .ok (.goto (-36), 3) := by decide +kernel
theorem dX11_nextToken_39 : decode cX11_nextToken 39 = .ok (.aload_n 0, 1) := by decide +kernel
theorem dX11_nextToken_40 : decode cX11_nextToken 40 = .ok (.aload_n 0, 1) := by decide +kernel
theorem dX11_nextToken_41 : decode cX11_nextToken 41 = .ok (.getfield 105, 3) := by decide +kernel
theorem dX11_nextToken_44 : decode cX11_nextToken 44 = .ok (.putfield 111, 3) := by decide +kernel
theorem dX11_nextToken_47 : decode cX11_nextToken 47 = .ok (.aload_n 0, 1) := by decide +kernel
theorem dX11_nextToken_48 : decode cX11_nextToken 48 = .ok (.aload_n 0, 1) := by decide +kernel
theorem dX11_nextToken_49 : decode cX11_nextToken 49 = .ok (.getfield 105, 3) := by decide +kernel
theorem dX11_nextToken_52 : decode cX11_nextToken 52 = .ok (.invokevirtual 108, 3) := by decide +kernel
theorem dX11_nextToken_55 : decode cX11_nextToken 55 = .ok (.istore_n 1, 1) := by decide +kernel
theorem dX11_nextToken_56 : decode cX11_nextToken 56 = .ok (.iload_n 1, 1) := by decide +kernel
theorem dX11_nextToken_57 : decode cX11_nextToken 57 = .ok (.ifCond .ge 11, 3) := by decide +kernel
theorem dX11_nextToken_60 : decode cX11_nextToken 60 = .ok (.aload_n 0, 1) := by decide +kernel
theorem dX11_nextToken_61 : decode cX11_nextToken 61 = .ok (.iconst 0, 1) := by decide +kernel
theorem dX11_nextToken_62 : decode cX11_nextToken 62 = .ok (.putfield 114, 3) := by decide +kernel
theorem dX11_nextToken_65 : decode cX11_nextToken 65 = .ok (.goto 245, 3) := by decide +kernel
theorem dX11_nextToken_68 : decode cX11_nextToken 68 = .ok (.iload_n 1, 1) := by decide +kernel
theorem dX11_nextToken_69 : decode cX11_nextToken 69 = .ok (.invokestatic 117, 3) := by decide +kernel
theorem dX11_nextToken_72 : decode cX11_nextToken 72 = .ok (.ifCond .eq 79, 3) := by decide +kernel
theorem dX11_nextToken_75 : decode cX11_nextToken 75 = .ok (.aload_n 0, 1) := by decide +kernel
theorem dX11_nextToken_76 : decode cX11_nextToken 76 = .ok (.iconst 1, 1) := by decide +kernel
theorem dX11_nextToken_77 : decode cX11_nextToken 77 = .ok (.putfield 114, 3) := by decide +kernel
theorem dX11_nextToken_80 : decode cX11_nextToken 80 = .ok (.aload_n 0, 1) := by decide +kernel
theorem dX11_nextToken_81 : decode cX11_nextToken 81 = .ok (.iconst 0, 1) := by decide +kernel
theorem dX11_nextToken_82 : decode cX11_nextToken 82 = .ok (.putfield 120, 3) := by decide +kernel
theorem dX11_nextToken_85 : decode cX11_nextToken 85 = .ok (.aload_n 0, 1) := by decide +kernel
theorem dX11_nextToken_86 : decode cX11_nextToken 86 = .ok (.aload_n 0, 1) := by decide +kernel
theorem dX11_nextToken_87 : decode cX11_nextToken 87 = .ok (.getfield 105, 3) := by decide +kernel
theorem dX11_nextToken_90 : decode cX11_nextToken 90 = .ok (.invokevirtual 108, 3) := by decide +kernel
theorem dX11_nextToken_93 : decode cX11_nextToken 93 = .ok (.invokestatic 117, 3) := by decide +kernel
theorem dX11_nextToken_96 : decode cX11_nextToken 96 = .ok (.ifCond .eq 214, 3) := by decide +kernel
theorem dX11_nextToken_99 : decode cX11_nextToken 99 = .ok (.aload_n 0, 1) := by decide +kernel
theorem dX11_nextToken_100 : decode cX11_nextToken 100 = .ok (.aload_n 0, 1) := by decide +kernel
theorem dX11_nextToken_101 : decode cX11_nextToken 101 = .ok (.getfield 120, 3) := by decide +kernel
theorem dX11_nextToken_104 : decode cX11_nextToken 104 = .ok (.ldc 123, 2) := by decide +kernel
theorem dX11_nextToken_106 : decode cX11_nextToken 106 = .ok (.if_icmp .le 10, 3) := by decide +kernel
theorem dX11_nextToken_109 : decode cX11_nextToken 109 = .ok (.aload_n 0, 1) := by decide +kernel
theorem dX11_nextToken_110 : decode cX11_nextToken 110 = .ok (.getfield 120, 3) := by decide +kernel
theorem dX11_nextToken_113 : decode cX11_nextToken 113 = .ok (.goto 22, 3) := by decide +kernel
theorem dX11_nextToken_116 : decode cX11_nextToken 116 = .ok (.bipush 10, 2) := by decide +kernel
theorem dX11_nextToken_118 : decode cX11_nextToken 118 = .ok (.aload_n 0, 1) := by decide +kernel
theorem dX11_nextToken_119 : decode cX11_nextToken 119 = .ok (.getfield 120, 3) := by decide +kernel
theorem dX11_nextToken_122 : decode cX11_nextToken 122 = .ok (.imul, 1) := by decide +kernel
theorem dX11_nextToken_123 : decode cX11_nextToken 123 = .ok (.aload_n 0, 1) := by decide +kernel
theorem dX11_nextToken_124 : decode cX11_nextToken 124 = .ok (.aload_n 0, 1) := by decide +kernel
theorem dX11_nextToken_125 : decode cX11_nextToken 125 = .ok (.getfield 105, 3) := by decide +kernel
theorem dX11_nextToken_128 : decode cX11_nextToken 128 = .ok (.invokevirtual 108, 3) := by decide +kernel
theorem dX11_nextToken_131 : decode cX11_nextToken 131 = .ok (.iadd, 1) := by decide +kernel
theorem dX11_nextToken_132 : decode cX11_nextToken 132 = .ok (.bipush 48, 2) := by decide +kernel
theorem dX11_nextToken_134 : decode cX11_nextToken 134 = .ok (.isub, 1) := by decide +kernel
theorem dX11_nextToken_135 : decode cX11_nextToken 135 = .ok (.putfield 120, 3) := by decide +kernel
theorem dX11_nextToken_138 : decode cX11_nextToken 138 = .ok (.aload_n 0, 1) := by decide +kernel
theorem dX11_nextToken_139 : decode cX11_nextToken 139 = .ok (.dup, 1) := by decide +kernel
theorem dX11_nextToken_140 : decode cX11_nextToken 140 = .ok (.getfield 105, 3) := by decide +kernel
theorem dX11_nextToken_143 : decode cX11_nextToken 143 = .ok (.iconst 1, 1) := by decide +kernel
theorem dX11_nextToken_144 : decode cX11_nextToken 144 = .ok (.iadd, 1) := by decide +kernel
theorem dX11_nextToken_145 : decode cX11_nextToken 145 = .ok (.putfield 105, 3) := by decide +kernel
theorem dX11_nextToken_148 : decode cX11_nextToken 148 = .ok (.goto (-63), 3) := by decide +kernel
theorem dX11_nextToken_151 : decode cX11_nextToken 151 = .ok (.iload_n 1, 1) := by decide +kernel
theorem dX11_nextToken_152 : decode cX11_nextToken 152 = .ok (.invokestatic 124, 3) := by decide +kernel
theorem dX11_nextToken_155 : decode cX11_nextToken 155 = .ok (.ifCond .eq 79, 3) := by decide +kernel
theorem dX11_nextToken_158 : decode cX11_nextToken 158 = .ok (.aload_n 0, 1) := by decide +kernel
theorem dX11_nextToken_159 : decode cX11_nextToken 159 = .ok (.iconst 2, 1) := by decide +kernel
theorem dX11_nextToken_160 : decode cX11_nextToken 160 = .ok (.putfield 114, 3) := by decide +kernel
theorem dX11_nextToken_163 : decode cX11_nextToken 163 = .ok (.aload_n 0, 1) := by decide +kernel
theorem dX11_nextToken_164 : decode cX11_nextToken 164 = .ok (.lconst 0, 1) := by decide +kernel
theorem dX11_nextToken_165 : decode cX11_nextToken 165 = .ok (.putfield 127, 3) := by decide +kernel
theorem dX11_nextToken_168 : decode cX11_nextToken 168 = .ok (.aload_n 0, 1) := by decide +kernel
theorem dX11_nextToken_169 : decode cX11_nextToken 169 = .ok (.aload_n 0, 1) := by decide +kernel
theorem dX11_nextToken_170 : decode cX11_nextToken 170 = .ok (.getfield 105, 3) := by decide +kernel
theorem dX11_nextToken_173 : decode cX11_nextToken 173 = .ok (.invokevirtual 108, 3) := by decide +kernel
theorem dX11_nextToken_176 : decode cX11_nextToken 176 = .ok (.invokestatic 124, 3) := by decide +kernel
theorem dX11_nextToken_179 : decode cX11_nextToken 179 = .ok (.ifCond .eq 131, 3) := by decide +kernel
theorem dX11_nextToken_182 : decode cX11_nextToken 182 = .ok (.aload_n 0, 1) := by decide +kernel
theorem dX11_nextToken_183 : decode cX11_nextToken 183 = .ok (.aload_n 0, 1) := by decide +kernel
theorem dX11_nextToken_184 : decode cX11_nextToken 184 = .ok (.getfield 127, 3) := by decide +kernel
theorem dX11_nextToken_187 : decode cX11_nextToken 187 = .ok (.bipush 48, 2) := by decide +kernel
theorem dX11_nextToken_189 : decode cX11_nextToken 189 = .ok (.lshr, 1) := by decide +kernel
theorem dX11_nextToken_190 : decode cX11_nextToken 190 = .ok (.lconst 0, 1) := by decide +kernel
theorem dX11_nextToken_191 : decode cX11_nextToken 191 = .ok (.lcmp, 1) := by decide +kernel
theorem dX11_nextToken_192 : decode cX11_nextToken 192 = .ok (.ifCond .eq 9, 3) := by decide +kernel
theorem dX11_nextToken_195 : decode cX11_nextToken 195 = .ok (.ldc2_w 131, 3) := by decide +kernel
theorem dX11_nextToken_198 : decode cX11_nextToken 198 = .ok (.goto 20, 3) := by decide +kernel
theorem dX11_nextToken_201 : decode cX11_nextToken 201 = .ok (.aload_n 0, 1) := by decide +kernel
theorem dX11_nextToken_202 : decode cX11_nextToken 202 = .ok (.getfield 127, 3) := by decide +kernel
theorem dX11_nextToken_205 : decode cX11_nextToken 205 = .ok (.bipush 8, 2) := by decide +kernel
theorem dX11_nextToken_207 : decode cX11_nextToken 207 = .ok (.lshl, 1) := by decide +kernel
theorem dX11_nextToken_208 : decode cX11_nextToken 208 = .ok (.aload_n 0, 1) := by decide +kernel
theorem dX11_nextToken_209 : decode cX11_nextToken 209 = .ok (.aload_n 0, 1) := by decide +kernel
theorem dX11_nextToken_210 : decode cX11_nextToken 210 = .ok (.getfield 105, 3) := by decide +kernel
theorem dX11_nextToken_213 : decode cX11_nextToken 213 = .ok (.invokevirtual 108, 3) := by decide +kernel
theorem dX11_nextToken_216 : decode cX11_nextToken 216 = .ok (.i2l, 1) := by decide +kernel
theorem dX11_nextToken_217 : decode cX11_nextToken 217 = .ok (.lor, 1) := by decide +kernel
theorem dX11_nextToken_218 : decode cX11_nextToken 218 = .ok (.putfield 127, 3) := by decide +kernel
theorem dX11_nextToken_221 : decode cX11_nextToken 221 = .ok (.aload_n 0, 1) := by decide +kernel
theorem dX11_nextToken_222 : decode cX11_nextToken 222 = .ok (.dup, 1) := by decide +kernel
theorem dX11_nextToken_223 : decode cX11_nextToken 223 = .ok (.getfield 105, 3) := by decide +kernel
theorem dX11_nextToken_226 : decode cX11_nextToken 226 = .ok (.iconst 1, 1) := by decide +kernel
theorem dX11_nextToken_227 : decode cX11_nextToken 227 = .ok (.iadd, 1) := by decide +kernel
theorem dX11_nextToken_228 : decode cX11_nextToken 228 = .ok (.putfield 105, 3) := by decide +kernel
theorem dX11_nextToken_231 : decode cX11_nextToken 231 = .ok (.goto (-63), 3) := by decide +kernel
theorem dX11_nextToken_234 : decode cX11_nextToken 234 = .ok (.aload_n 0, 1) := by decide +kernel
theorem dX11_nextToken_235 : decode cX11_nextToken 235 = .ok (.iload_n 1, 1) := by decide +kernel
theorem dX11_nextToken_236 : decode cX11_nextToken 236 = .ok (.invokestatic 133, 3) := by decide +kernel
theorem dX11_nextToken_239 : decode cX11_nextToken 239 = .ok (.ifCond .eq 7, 3) := by decide +kernel
theorem dX11_nextToken_242 : decode cX11_nextToken 242 = .ok (.iload_n 1, 1) := by decide +kernel
theorem dX11_nextToken_243 : decode cX11_nextToken 243 = .ok (.goto 4, 3) := by decide +kernel
theorem dX11_nextToken_246 : decode cX11_nextToken 246 = .ok (.iconst 3, 1) := by decide +kernel
theorem dX11_nextToken_247 : decode cX11_nextToken 247 = .ok (.putfield 114, 3) := by decide +kernel
theorem dX11_nextToken_250 : decode cX11_nextToken 250 = .ok (.aload_n 0, 1) := by decide +kernel
theorem dX11_nextToken_251 : decode cX11_nextToken 251 = .ok (.dup, 1) := by decide +kernel
theorem dX11_nextToken_252 : decode cX11_nextToken 252 = .ok (.getfield 105, 3) := by decide +kernel
theorem dX11_nextToken_255 : decode cX11_nextToken 255 = .ok (.iconst 1, 1) := by decide +kernel
theorem dX11_nextToken_256 : decode cX11_nextToken 256 = .ok (.iadd, 1) := by decide +kernel
theorem dX11_nextToken_257 : decode cX11_nextToken 257 = .ok (.putfield 105, 3) := by decide +kernel
theorem dX11_nextToken_260 : decode cX11_nextToken 260 = .ok (.iload_n 1, 1) := by decide +kernel
theorem dX11_nextToken_261 : decode cX11_nextToken 261 = .ok (.bipush 60, 2) := by decide +kernel
theorem dX11_nextToken_263 : decode cX11_nextToken 263 = .ok (.if_icmp .eq 9, 3) := by decide +kernel
theorem dX11_nextToken_266 : decode cX11_nextToken 266 = .ok (.iload_n 1, 1) := by decide +kernel
theorem dX11_nextToken_267 : decode cX11_nextToken 267 = .ok (.bipush 62, 2) := by decide +kernel
theorem dX11_nextToken_269 : decode cX11_nextToken 269 = .ok (.if_icmp .ne 41, 3) := by decide +kernel
theorem dX11_nextToken_272 : decode cX11_nextToken 272 = .ok (.aload_n 0, 1) := by decide +kernel
theorem dX11_nextToken_273 : decode cX11_nextToken 273 = .ok (.aload_n 0, 1) := by decide +kernel
theorem dX11_nextToken_274 : decode cX11_nextToken 274 = .ok (.getfield 105, 3) := by decide +kernel
theorem dX11_nextToken_277 : decode cX11_nextToken 277 = .ok (.invokevirtual 108, 3) := by decide +kernel
theorem dX11_nextToken_280 : decode cX11_nextToken 280 = .ok (.bipush 61, 2) := by decide +kernel
theorem dX11_nextToken_282 : decode cX11_nextToken 282 = .ok (.if_icmp .ne 28, 3) := by decide +kernel
theorem dX11_nextToken_285 : decode cX11_nextToken 285 = .ok (.aload_n 0, 1) := by decide +kernel
theorem dX11_nextToken_286 : decode cX11_nextToken 286 = .ok (.iload_n 1, 1) := by decide +kernel
theorem dX11_nextToken_287 : decode cX11_nextToken 287 = .ok (.bipush 60, 2) := by decide +kernel
theorem dX11_nextToken_289 : decode cX11_nextToken 289 = .ok (.if_icmp .ne 7, 3) := by decide +kernel
theorem dX11_nextToken_292 : decode cX11_nextToken 292 = .ok (.iconst 4, 1) := by decide +kernel
theorem dX11_nextToken_293 : decode cX11_nextToken 293 = .ok (.goto 4, 3) := by decide +kernel
theorem dX11_nextToken_296 : decode cX11_nextToken 296 = .ok (.iconst 5, 1) := by decide +kernel
theorem dX11_nextToken_297 : decode cX11_nextToken 297 = .ok (.putfield 114, 3) := by decide +kernel
theorem dX11_nextToken_300 : decode cX11_nextToken 300 = .ok (.aload_n 0, 1) := by decide +kernel
theorem dX11_nextToken_301 : decode cX11_nextToken 301 = .ok (.dup, 1) := by decide +kernel
theorem dX11_nextToken_302 : decode cX11_nextToken 302 = .ok (.getfield 105, 3) := by decide +kernel
theorem dX11_nextToken_305 : decode cX11_nextToken 305 = .ok (.iconst 1, 1) := by decide +kernel
theorem dX11_nextToken_306 : decode cX11_nextToken 306 = .ok (.iadd, 1) := by decide +kernel
theorem dX11_nextToken_307 : decode cX11_nextToken 307 = .ok (.putfield 105, 3) := by decide +kernel
theorem dX11_nextToken_310 : decode cX11_nextToken 310 = .ok (.return_, 1) := by decide +kernel
theorem dX11_w2_0 : decode cX11_w2 0 = .ok (.iload_n 0, 1) := by decide +kernel
theorem dX11_w2_1 : decode cX11_w2 1 = .ok (.i2l, 1) := by decide +kernel
theorem dX11_w2_2 : decode cX11_w2 2 = .ok (.bipush 8, 2) := by decide +kernel
theorem dX11_w2_4 : decode cX11_w2 4 = .ok (.lshl, 1) := by decide +kernel
theorem dX11_w2_5 : decode cX11_w2 5 = .ok (.iload_n 1, 1) := by decide +kernel
theorem dX11_w2_6 : decode cX11_w2 6 = .ok (.i2l, 1) := by decide +kernel
theorem dX11_w2_7 : decode cX11_w2 7 = .ok (.lor, 1) := by decide +kernel
theorem dX11_w2_8 : decode cX11_w2 8 = .ok (.lreturn, 1) := by decide +kernel
theorem dX11_w3_0 : decode cX11_w3 0 = .ok (.iload_n 0, 1) := by decide +kernel
theorem dX11_w3_1 : decode cX11_w3 1 = .ok (.iload_n 1, 1) := by decide +kernel
theorem dX11_w3_2 : decode cX11_w3 2 = .ok (.invokestatic 136, 3) := by decide +kernel
theorem dX11_w3_5 : decode cX11_w3 5 = .ok (.bipush 8, 2) := by decide +kernel
theorem dX11_w3_7 : decode cX11_w3 7 = .ok (.lshl, 1) := by decide +kernel
theorem dX11_w3_8 : decode cX11_w3 8 = .ok (.iload_n 2, 1) := by decide +kernel
theorem dX11_w3_9 : decode cX11_w3 9 = .ok (.i2l, 1) := by decide +kernel
theorem dX11_w3_10 : decode cX11_w3 10 = .ok (.lor, 1) := by decide +kernel
theorem dX11_w3_11 : decode cX11_w3 11 = .ok (.lreturn, 1) := by decide +kernel
theorem dX11_w4_0 : decode cX11_w4 0 = .ok (.iload_n 0, 1) := by decide +kernel
theorem dX11_w4_1 : decode cX11_w4 1 = .ok (.iload_n 1, 1) := by decide +kernel
theorem dX11_w4_2 : decode cX11_w4 2 = .ok (.iload_n 2, 1) := by decide +kernel
theorem dX11_w4_3 : decode cX11_w4 3 = .ok (.invokestatic 140, 3) := by decide +kernel
theorem dX11_w4_6 : decode cX11_w4 6 = .ok (.bipush 8, 2) := by decide +kernel
theorem dX11_w4_8 : decode cX11_w4 8 = .ok (.lshl, 1) := by decide +kernel
theorem dX11_w4_9 : decode cX11_w4 9 = .ok (.iload_n 3, 1) := by decide +kernel
theorem dX11_w4_10 : decode cX11_w4 10 = .ok (.i2l, 1) := by decide +kernel
theorem dX11_w4_11 : decode cX11_w4 11 = .ok (.lor, 1) := by decide +kernel
theorem dX11_w4_12 : decode cX11_w4 12 = .ok (.lreturn, 1) := by decide +kernel
theorem dX11_w5_0 : decode cX11_w5 0 = .ok (.iload_n 0, 1) := by decide +kernel
theorem dX11_w5_1 : decode cX11_w5 1 = .ok (.iload_n 1, 1) := by decide +kernel
theorem dX11_w5_2 : decode cX11_w5 2 = .ok (.iload_n 2, 1) := by decide +kernel
theorem dX11_w5_3 : decode cX11_w5 3 = .ok (.iload_n 3, 1) := by decide +kernel
theorem dX11_w5_4 : decode cX11_w5 4 = .ok (.invokestatic 144, 3) := by decide +kernel
theorem dX11_w5_7 : decode cX11_w5 7 = .ok (.bipush 8, 2) := by decide +kernel
theorem dX11_w5_9 : decode cX11_w5 9 = .ok (.lshl, 1) := by decide +kernel
theorem dX11_w5_10 : decode cX11_w5 10 = .ok (.iload 4, 2) := by decide +kernel
theorem dX11_w5_12 : decode cX11_w5 12 = .ok (.i2l, 1) := by decide +kernel
theorem dX11_w5_13 : decode cX11_w5 13 = .ok (.lor, 1) := by decide +kernel
theorem dX11_w5_14 : decode cX11_w5 14 = .ok (.lreturn, 1) := by decide +kernel
theorem dX11_w6_0 : decode cX11_w6 0 = .ok (.iload_n 0, 1) := by decide +kernel
theorem dX11_w6_1 : decode cX11_w6 1 = .ok (.iload_n 1, 1) := by decide +kernel
theorem dX11_w6_2 : decode cX11_w6 2 = .ok (.iload_n 2, 1) := by decide +kernel
theorem dX11_w6_3 : decode cX11_w6 3 = .ok (.iload_n 3, 1) := by decide +kernel
theorem dX11_w6_4 : decode cX11_w6 4 = .ok (.iload 4, 2) := by decide +kernel
theorem dX11_w6_6 : decode cX11_w6 6 = .ok (.invokestatic 148, 3) := by decide +kernel
theorem dX11_w6_9 : decode cX11_w6 9 = .ok (.bipush 8, 2) := by decide +kernel
theorem dX11_w6_11 : decode cX11_w6 11 = .ok (.lshl, 1) := by decide +kernel
theorem dX11_w6_12 : decode cX11_w6 12 = .ok (.iload 5, 2) := by decide +kernel
theorem dX11_w6_14 : decode cX11_w6 14 = .ok (.i2l, 1) := by decide +kernel
theorem dX11_w6_15 : decode cX11_w6 15 = .ok (.lor, 1) := by decide +kernel
theorem dX11_w6_16 : decode cX11_w6 16 = .ok (.lreturn, 1) := by decide +kernel
theorem dX11_isWord_0 : decode cX11_isWord 0 = .ok (.aload_n 0, 1) := by decide +kernel
theorem dX11_isWord_1 : decode cX11_isWord 1 = .ok (.getfield 114, 3) := by decide +kernel
theorem dX11_isWord_4 : decode cX11_isWord 4 = .ok (.iconst 2, 1) := by decide +kernel
theorem dX11_isWord_5 : decode cX11_isWord 5 = .ok (.if_icmp .ne 16, 3) := by decide +kernel
theorem dX11_isWord_8 : decode cX11_isWord 8 = .ok (.aload_n 0, 1) := by decide +kernel
theorem dX11_isWord_9 : decode cX11_isWord 9 = .ok (.getfield 127, 3) := by decide +kernel
theorem dX11_isWord_12 : decode cX11_isWord 12 = .ok (.lload_n 1, 1) := by decide +kernel
theorem dX11_isWord_13 : decode cX11_isWord 13 = .ok (.lcmp, 1) := by decide +kernel
theorem dX11_isWord_14 : decode cX11_isWord 14 = .ok (.ifCond .ne 7, 3) := by decide +kernel
theorem dX11_isWord_17 : decode cX11_isWord 17 = .ok (.iconst 1, 1) := by decide +kernel
theorem dX11_isWord_18 : decode cX11_isWord 18 = .ok (.goto 4, 3) := by decide +kernel
theorem dX11_isWord_21 : decode cX11_isWord 21 = .ok (.iconst 0, 1) := by decide +kernel
theorem dX11_isWord_22 : decode cX11_isWord 22 = .ok (.ireturn, 1) := by decide +kernel
theorem dX11_emit_0 : decode cX11_emit 0 = .ok (.aload_n 0, 1) := by decide +kernel
theorem dX11_emit_1 : decode cX11_emit 1 = .ok (.getfield 16, 3) := by decide +kernel
theorem dX11_emit_4 : decode cX11_emit 4 = .ok (.aload_n 0, 1) := by decide +kernel
theorem dX11_emit_5 : decode cX11_emit 5 = .ok (.getfield 152, 3) := by decide +kernel
theorem dX11_emit_8 : decode cX11_emit 8 = .ok (.bipush 73, 2) := by decide +kernel
theorem dX11_emit_10 : decode cX11_emit 10 = .ok (.iadd, 1) := by decide +kernel
theorem dX11_emit_11 : decode cX11_emit 11 = .ok (.iconst 2, 1) := by decide +kernel
theorem dX11_emit_12 : decode cX11_emit 12 = .ok (.aload_n 0, 1) := by decide +kernel
theorem dX11_emit_13 : decode cX11_emit 13 = .ok (.getfield 155, 3) := by decide +kernel
theorem dX11_emit_16 : decode cX11_emit 16 = .ok (.imul, 1) := by decide +kernel
theorem dX11_emit_17 : decode cX11_emit 17 = .ok (.iadd, 1) := by decide +kernel
theorem dX11_emit_18 : decode cX11_emit 18 = .ok (.iload_n 1, 1) := by decide +kernel
theorem dX11_emit_19 : decode cX11_emit 19 = .ok (.iastore, 1) := by decide +kernel
theorem dX11_emit_20 : decode cX11_emit 20 = .ok (.aload_n 0, 1) := by decide +kernel
theorem dX11_emit_21 : decode cX11_emit 21 = .ok (.getfield 16, 3) := by decide +kernel
theorem dX11_emit_24 : decode cX11_emit 24 = .ok (.aload_n 0, 1) := by decide +kernel
theorem dX11_emit_25 : decode cX11_emit 25 = .ok (.getfield 152, 3) := by decide +kernel
theorem dX11_emit_28 : decode cX11_emit 28 = .ok (.bipush 73, 2) := by decide +kernel
theorem dX11_emit_30 : decode cX11_emit 30 = .ok (.iadd, 1) := by decide +kernel
theorem dX11_emit_31 : decode cX11_emit 31 = .ok (.iconst 2, 1) := by decide +kernel
theorem dX11_emit_32 : decode cX11_emit 32 = .ok (.aload_n 0, 1) := by decide +kernel
theorem dX11_emit_33 : decode cX11_emit 33 = .ok (.getfield 155, 3) := by decide +kernel
theorem dX11_emit_36 : decode cX11_emit 36 = .ok (.imul, 1) := by decide +kernel
theorem dX11_emit_37 : decode cX11_emit 37 = .ok (.iadd, 1) := by decide +kernel
theorem dX11_emit_38 : decode cX11_emit 38 = .ok (.iconst 1, 1) := by decide +kernel
theorem dX11_emit_39 : decode cX11_emit 39 = .ok (.iadd, 1) := by decide +kernel
theorem dX11_emit_40 : decode cX11_emit 40 = .ok (.iload_n 2, 1) := by decide +kernel
theorem dX11_emit_41 : decode cX11_emit 41 = .ok (.iastore, 1) := by decide +kernel
theorem dX11_emit_42 : decode cX11_emit 42 = .ok (.aload_n 0, 1) := by decide +kernel
theorem dX11_emit_43 : decode cX11_emit 43 = .ok (.dup, 1) := by decide +kernel
theorem dX11_emit_44 : decode cX11_emit 44 = .ok (.getfield 155, 3) := by decide +kernel
theorem dX11_emit_47 : decode cX11_emit 47 = .ok (.iconst 1, 1) := by decide +kernel
theorem dX11_emit_48 : decode cX11_emit 48 = .ok (.iadd, 1) := by decide +kernel
theorem dX11_emit_49 : decode cX11_emit 49 = .ok (.putfield 155, 3) := by decide +kernel
theorem dX11_emit_52 : decode cX11_emit 52 = .ok (.return_, 1) := by decide +kernel
theorem dX11_isBetween_0 : decode cX11_isBetween 0 = .ok (.aload_n 0, 1) := by decide +kernel
theorem dX11_isBetween_1 : decode cX11_isBetween 1 = .ok (.getfield 114, 3) := by decide +kernel
theorem dX11_isBetween_4 : decode cX11_isBetween 4 = .ok (.iconst 2, 1) := by decide +kernel
theorem dX11_isBetween_5 : decode cX11_isBetween 5 = .ok (.if_icmp .ne 124, 3) := by decide +kernel
theorem dX11_isBetween_8 : decode cX11_isBetween 8 = .ok (.aload_n 0, 1) := by decide +kernel
theorem dX11_isBetween_9 : decode cX11_isBetween 9 = .ok (.getfield 105, 3) := by decide +kernel
theorem dX11_isBetween_12 : decode cX11_isBetween 12 = .ok (.aload_n 0, 1) := by decide +kernel
theorem dX11_isBetween_13 : decode cX11_isBetween 13 = .ok (.getfield 111, 3) := by decide +kernel
theorem dX11_isBetween_16 : decode cX11_isBetween 16 = .ok (.isub, 1) := by decide +kernel
theorem dX11_isBetween_17 : decode cX11_isBetween 17 = .ok (.bipush 7, 2) := by decide +kernel
theorem dX11_isBetween_19 : decode cX11_isBetween 19 = .ok (.if_icmp .ne 110, 3) := by decide +kernel
theorem dX11_isBetween_22 : decode cX11_isBetween 22 = .ok (.aload_n 0, 1) := by decide +kernel
theorem dX11_isBetween_23 : decode cX11_isBetween 23 = .ok (.aload_n 0, 1) := by decide +kernel
theorem dX11_isBetween_24 : decode cX11_isBetween 24 = .ok (.getfield 111, 3) := by decide +kernel
theorem dX11_isBetween_27 : decode cX11_isBetween 27 = .ok (.invokevirtual 108, 3) := by decide +kernel
theorem dX11_isBetween_30 : decode cX11_isBetween 30 = .ok (.aload_n 0, 1) := by decide +kernel
theorem dX11_isBetween_31 : decode cX11_isBetween 31 = .ok (.aload_n 0, 1) := by decide +kernel
theorem dX11_isBetween_32 : decode cX11_isBetween 32 = .ok (.getfield 111, 3) := by decide +kernel
theorem dX11_isBetween_35 : decode cX11_isBetween 35 = .ok (.iconst 1, 1) := by decide +kernel
theorem dX11_isBetween_36 : decode cX11_isBetween 36 = .ok (.iadd, 1) := by decide +kernel
theorem dX11_isBetween_37 : decode cX11_isBetween 37 = .ok (.invokevirtual 108, 3) := by decide +kernel
theorem dX11_isBetween_40 : decode cX11_isBetween 40 = .ok (.aload_n 0, 1) := by decide +kernel
theorem dX11_isBetween_41 : decode cX11_isBetween 41 = .ok (.aload_n 0, 1) := by decide +kernel
theorem dX11_isBetween_42 : decode cX11_isBetween 42 = .ok (.getfield 111, 3) := by decide +kernel
theorem dX11_isBetween_45 : decode cX11_isBetween 45 = .ok (.iconst 2, 1) := by decide +kernel
theorem dX11_isBetween_46 : decode cX11_isBetween 46 = .ok (.iadd, 1) := by decide +kernel
theorem dX11_isBetween_47 : decode cX11_isBetween 47 = .ok (.invokevirtual 108, 3) := by decide +kernel
theorem dX11_isBetween_50 : decode cX11_isBetween 50 = .ok (.aload_n 0, 1) := by decide +kernel
theorem dX11_isBetween_51 : decode cX11_isBetween 51 = .ok (.aload_n 0, 1) := by decide +kernel
theorem dX11_isBetween_52 : decode cX11_isBetween 52 = .ok (.getfield 111, 3) := by decide +kernel
theorem dX11_isBetween_55 : decode cX11_isBetween 55 = .ok (.iconst 3, 1) := by decide +kernel
theorem dX11_isBetween_56 : decode cX11_isBetween 56 = .ok (.iadd, 1) := by decide +kernel
theorem dX11_isBetween_57 : decode cX11_isBetween 57 = .ok (.invokevirtual 108, 3) := by decide +kernel
theorem dX11_isBetween_60 : decode cX11_isBetween 60 = .ok (.invokestatic 144, 3) := by decide +kernel
theorem dX11_isBetween_63 : decode cX11_isBetween 63 = .ok (.bipush 98, 2) := by decide +kernel
theorem dX11_isBetween_65 : decode cX11_isBetween 65 = .ok (.bipush 101, 2) := by decide +kernel
theorem dX11_isBetween_67 : decode cX11_isBetween 67 = .ok (.bipush 116, 2) := by decide +kernel
theorem dX11_isBetween_69 : decode cX11_isBetween 69 = .ok (.bipush 119, 2) := by decide +kernel
theorem dX11_isBetween_71 : decode cX11_isBetween 71 = .ok (.invokestatic 144, 3) := by decide +kernel
theorem dX11_isBetween_74 : decode cX11_isBetween 74 = .ok (.lcmp, 1) := by decide +kernel
theorem dX11_isBetween_75 : decode cX11_isBetween 75 = .ok (.ifCond .ne 54, 3) := by decide +kernel
theorem dX11_isBetween_78 : decode cX11_isBetween 78 = .ok (.aload_n 0, 1) := by decide +kernel
theorem dX11_isBetween_79 : decode cX11_isBetween 79 = .ok (.aload_n 0, 1) := by decide +kernel
theorem dX11_isBetween_80 : decode cX11_isBetween 80 = .ok (.getfield 111, 3) := by decide +kernel
theorem dX11_isBetween_83 : decode cX11_isBetween 83 = .ok (.iconst 4, 1) := by decide +kernel
theorem dX11_isBetween_84 : decode cX11_isBetween 84 = .ok (.iadd, 1) := by decide +kernel
theorem dX11_isBetween_85 : decode cX11_isBetween 85 = .ok (.invokevirtual 108, 3) := by decide +kernel
theorem dX11_isBetween_88 : decode cX11_isBetween 88 = .ok (.aload_n 0, 1) := by decide +kernel
theorem dX11_isBetween_89 : decode cX11_isBetween 89 = .ok (.aload_n 0, 1) := by decide +kernel
theorem dX11_isBetween_90 : decode cX11_isBetween 90 = .ok (.getfield 111, 3) := by decide +kernel
theorem dX11_isBetween_93 : decode cX11_isBetween 93 = .ok (.iconst 5, 1) := by decide +kernel
theorem dX11_isBetween_94 : decode cX11_isBetween 94 = .ok (.iadd, 1) := by decide +kernel
theorem dX11_isBetween_95 : decode cX11_isBetween 95 = .ok (.invokevirtual 108, 3) := by decide +kernel
theorem dX11_isBetween_98 : decode cX11_isBetween 98 = .ok (.aload_n 0, 1) := by decide +kernel
theorem dX11_isBetween_99 : decode cX11_isBetween 99 = .ok (.aload_n 0, 1) := by decide +kernel
theorem dX11_isBetween_100 : decode cX11_isBetween 100 = .ok (.getfield 111, 3) := by decide +kernel
theorem dX11_isBetween_103 : decode cX11_isBetween 103 = .ok (.bipush 6, 2) := by decide +kernel
theorem dX11_isBetween_105 : decode cX11_isBetween 105 = .ok (.iadd, 1) := by decide +kernel
theorem dX11_isBetween_106 : decode cX11_isBetween 106 = .ok (.invokevirtual 108, 3) := by decide +kernel
theorem dX11_isBetween_109 : decode cX11_isBetween 109 = .ok (.invokestatic 140, 3) := by decide +kernel
theorem dX11_isBetween_112 : decode cX11_isBetween 112 = .ok (.bipush 101, 2) := by decide +kernel
theorem dX11_isBetween_114 : decode cX11_isBetween 114 = .ok (.bipush 101, 2) := by decide +kernel
theorem dX11_isBetween_116 : decode cX11_isBetween 116 = .ok (.bipush 110, 2) := by decide +kernel
theorem dX11_isBetween_118 : decode cX11_isBetween 118 = .ok (.invokestatic 140, 3) := by decide +kernel
theorem dX11_isBetween_121 : decode cX11_isBetween 121 = .ok (.lcmp, 1) := by decide +kernel
theorem dX11_isBetween_122 : decode cX11_isBetween 122 = .ok (.ifCond .ne 7, 3) := by decide +kernel
theorem dX11_isBetween_125 : decode cX11_isBetween 125 = .ok (.iconst 1, 1) := by decide +kernel
theorem dX11_isBetween_126 : decode cX11_isBetween 126 = .ok (.goto 4, 3) := by decide +kernel
theorem dX11_isBetween_129 : decode cX11_isBetween 129 = .ok (.iconst 0, 1) := by decide +kernel
theorem dX11_isBetween_130 : decode cX11_isBetween 130 = .ok (.ireturn, 1) := by decide +kernel
theorem dX11_nameOf_0 : decode cX11_nameOf 0 = .ok (.aload_n 0, 1) := by decide +kernel
theorem dX11_nameOf_1 : decode cX11_nameOf 1 = .ok (.getfield 114, 3) := by decide +kernel
theorem dX11_nameOf_4 : decode cX11_nameOf 4 = .ok (.iconst 2, 1) := by decide +kernel
theorem dX11_nameOf_5 : decode cX11_nameOf 5 = .ok (.if_icmp .eq 5, 3) := by decide +kernel
theorem dX11_nameOf_8 : decode cX11_nameOf 8 = .ok (.iconst (-1), 1) := by decide +kernel
theorem dX11_nameOf_9 : decode cX11_nameOf 9 = .ok (.ireturn, 1) := by decide +kernel
theorem dX11_nameOf_10 : decode cX11_nameOf 10 = .ok (.aload_n 0, 1) := by decide +kernel
theorem dX11_nameOf_11 : decode cX11_nameOf 11 = .ok (.getfield 127, 3) := by decide +kernel
theorem dX11_nameOf_14 : decode cX11_nameOf 14 = .ok (.bipush 100, 2) := by decide +kernel
theorem dX11_nameOf_16 : decode cX11_nameOf 16 = .ok (.bipush 97, 2) := by decide +kernel
theorem dX11_nameOf_18 : decode cX11_nameOf 18 = .ok (.bipush 121, 2) := by decide +kernel
theorem dX11_nameOf_20 : decode cX11_nameOf 20 = .ok (.invokestatic 140, 3) := by decide +kernel
theorem dX11_nameOf_23 : decode cX11_nameOf 23 = .ok (.lcmp, 1) := by decide +kernel
theorem dX11_nameOf_24 : decode cX11_nameOf 24 = .ok (.ifCond .ne 5, 3) := by decide +kernel
theorem dX11_nameOf_27 : decode cX11_nameOf 27 = .ok (.iconst 0, 1) := by decide +kernel
theorem dX11_nameOf_28 : decode cX11_nameOf 28 = .ok (.ireturn, 1) := by decide +kernel
theorem dX11_nameOf_29 : decode cX11_nameOf 29 = .ok (.aload_n 0, 1) := by decide +kernel
theorem dX11_nameOf_30 : decode cX11_nameOf 30 = .ok (.getfield 127, 3) := by decide +kernel
theorem dX11_nameOf_33 : decode cX11_nameOf 33 = .ok (.bipush 110, 2) := by decide +kernel
theorem dX11_nameOf_35 : decode cX11_nameOf 35 = .ok (.bipush 117, 2) := by decide +kernel
theorem dX11_nameOf_37 : decode cX11_nameOf 37 = .ok (.bipush 109, 2) := by decide +kernel
theorem dX11_nameOf_39 : decode cX11_nameOf 39 = .ok (.bipush 98, 2) := by decide +kernel
theorem dX11_nameOf_41 : decode cX11_nameOf 41 = .ok (.bipush 101, 2) := by decide +kernel
theorem dX11_nameOf_43 : decode cX11_nameOf 43 = .ok (.bipush 114, 2) := by decide +kernel
theorem dX11_nameOf_45 : decode cX11_nameOf 45 = .ok (.invokestatic 158, 3) := by decide +kernel
theorem dX11_nameOf_48 : decode cX11_nameOf 48 = .ok (.lcmp, 1) := by decide +kernel
theorem dX11_nameOf_49 : decode cX11_nameOf 49 = .ok (.ifCond .ne 5, 3) := by decide +kernel
theorem dX11_nameOf_52 : decode cX11_nameOf 52 = .ok (.iconst 1, 1) := by decide +kernel
theorem dX11_nameOf_53 : decode cX11_nameOf 53 = .ok (.ireturn, 1) := by decide +kernel
theorem dX11_nameOf_54 : decode cX11_nameOf 54 = .ok (.aload_n 0, 1) := by decide +kernel
theorem dX11_nameOf_55 : decode cX11_nameOf 55 = .ok (.getfield 127, 3) := by decide +kernel
theorem dX11_nameOf_58 : decode cX11_nameOf 58 = .ok (.bipush 108, 2) := by decide +kernel
theorem dX11_nameOf_60 : decode cX11_nameOf 60 = .ok (.bipush 111, 2) := by decide +kernel
theorem dX11_nameOf_62 : decode cX11_nameOf 62 = .ok (.bipush 110, 2) := by decide +kernel
theorem dX11_nameOf_64 : decode cX11_nameOf 64 = .ok (.bipush 103, 2) := by decide +kernel
theorem dX11_nameOf_66 : decode cX11_nameOf 66 = .ok (.invokestatic 144, 3) := by decide +kernel
theorem dX11_nameOf_69 : decode cX11_nameOf 69 = .ok (.lcmp, 1) := by decide +kernel
theorem dX11_nameOf_70 : decode cX11_nameOf 70 = .ok (.ifCond .ne 5, 3) := by decide +kernel
theorem dX11_nameOf_73 : decode cX11_nameOf 73 = .ok (.iconst 2, 1) := by decide +kernel
theorem dX11_nameOf_74 : decode cX11_nameOf 74 = .ok (.ireturn, 1) := by decide +kernel
theorem dX11_nameOf_75 : decode cX11_nameOf 75 = .ok (.aload_n 0, 1) := by decide +kernel
theorem dX11_nameOf_76 : decode cX11_nameOf 76 = .ok (.getfield 127, 3) := by decide +kernel
theorem dX11_nameOf_79 : decode cX11_nameOf 79 = .ok (.bipush 119, 2) := by decide +kernel
theorem dX11_nameOf_81 : decode cX11_nameOf 81 = .ok (.bipush 97, 2) := by decide +kernel
theorem dX11_nameOf_83 : decode cX11_nameOf 83 = .ok (.bipush 108, 2) := by decide +kernel
theorem dX11_nameOf_85 : decode cX11_nameOf 85 = .ok (.bipush 107, 2) := by decide +kernel
theorem dX11_nameOf_87 : decode cX11_nameOf 87 = .ok (.invokestatic 144, 3) := by decide +kernel
theorem dX11_nameOf_90 : decode cX11_nameOf 90 = .ok (.lcmp, 1) := by decide +kernel
theorem dX11_nameOf_91 : decode cX11_nameOf 91 = .ok (.ifCond .ne 5, 3) := by decide +kernel
theorem dX11_nameOf_94 : decode cX11_nameOf 94 = .ok (.iconst 3, 1) := by decide +kernel
theorem dX11_nameOf_95 : decode cX11_nameOf 95 = .ok (.ireturn, 1) := by decide +kernel
theorem dX11_nameOf_96 : decode cX11_nameOf 96 = .ok (.aload_n 0, 1) := by decide +kernel
theorem dX11_nameOf_97 : decode cX11_nameOf 97 = .ok (.getfield 127, 3) := by decide +kernel
theorem dX11_nameOf_100 : decode cX11_nameOf 100 = .ok (.bipush 115, 2) := by decide +kernel
theorem dX11_nameOf_102 : decode cX11_nameOf 102 = .ok (.bipush 105, 2) := by decide +kernel
theorem dX11_nameOf_104 : decode cX11_nameOf 104 = .ok (.bipush 110, 2) := by decide +kernel
theorem dX11_nameOf_106 : decode cX11_nameOf 106 = .ok (.bipush 99, 2) := by decide +kernel
theorem dX11_nameOf_108 : decode cX11_nameOf 108 = .ok (.bipush 101, 2) := by decide +kernel
theorem dX11_nameOf_110 : decode cX11_nameOf 110 = .ok (.invokestatic 148, 3) := by decide +kernel
theorem dX11_nameOf_113 : decode cX11_nameOf 113 = .ok (.lcmp, 1) := by decide +kernel
theorem dX11_nameOf_114 : decode cX11_nameOf 114 = .ok (.ifCond .ne 5, 3) := by decide +kernel
theorem dX11_nameOf_117 : decode cX11_nameOf 117 = .ok (.iconst 4, 1) := by decide +kernel
theorem dX11_nameOf_118 : decode cX11_nameOf 118 = .ok (.ireturn, 1) := by decide +kernel
theorem dX11_nameOf_119 : decode cX11_nameOf 119 = .ok (.aload_n 0, 1) := by decide +kernel
theorem dX11_nameOf_120 : decode cX11_nameOf 120 = .ok (.getfield 127, 3) := by decide +kernel
theorem dX11_nameOf_123 : decode cX11_nameOf 123 = .ok (.bipush 102, 2) := by decide +kernel
theorem dX11_nameOf_125 : decode cX11_nameOf 125 = .ok (.bipush 105, 2) := by decide +kernel
theorem dX11_nameOf_127 : decode cX11_nameOf 127 = .ok (.bipush 114, 2) := by decide +kernel
theorem dX11_nameOf_129 : decode cX11_nameOf 129 = .ok (.bipush 115, 2) := by decide +kernel
theorem dX11_nameOf_131 : decode cX11_nameOf 131 = .ok (.bipush 116, 2) := by decide +kernel
theorem dX11_nameOf_133 : decode cX11_nameOf 133 = .ok (.invokestatic 148, 3) := by decide +kernel
theorem dX11_nameOf_136 : decode cX11_nameOf 136 = .ok (.lcmp, 1) := by decide +kernel
theorem dX11_nameOf_137 : decode cX11_nameOf 137 = .ok (.ifCond .ne 7, 3) := by decide +kernel
theorem dX11_nameOf_140 : decode cX11_nameOf 140 = .ok (.iconst 5, 1) := by decide +kernel
theorem dX11_nameOf_141 : decode cX11_nameOf 141 = .ok (.goto 28, 3) := by decide +kernel
theorem dX11_nameOf_144 : decode cX11_nameOf 144 = .ok (.aload_n 0, 1) := by decide +kernel
theorem dX11_nameOf_145 : decode cX11_nameOf 145 = .ok (.getfield 127, 3) := by decide +kernel
theorem dX11_nameOf_148 : decode cX11_nameOf 148 = .ok (.bipush 108, 2) := by decide +kernel
theorem dX11_nameOf_150 : decode cX11_nameOf 150 = .ok (.bipush 97, 2) := by decide +kernel
theorem dX11_nameOf_152 : decode cX11_nameOf 152 = .ok (.bipush 115, 2) := by decide +kernel
theorem dX11_nameOf_154 : decode cX11_nameOf 154 = .ok (.bipush 116, 2) := by decide +kernel
theorem dX11_nameOf_156 : decode cX11_nameOf 156 = .ok (.invokestatic 144, 3) := by decide +kernel
theorem dX11_nameOf_159 : decode cX11_nameOf 159 = .ok (.lcmp, 1) := by decide +kernel
theorem dX11_nameOf_160 : decode cX11_nameOf 160 = .ok (.ifCond .ne 8, 3) := by decide +kernel
theorem dX11_nameOf_163 : decode cX11_nameOf 163 = .ok (.bipush 6, 2) := by decide +kernel
theorem dX11_nameOf_165 : decode cX11_nameOf 165 = .ok (.goto 4, 3) := by decide +kernel
theorem dX11_nameOf_168 : decode cX11_nameOf 168 = .ok (.iconst (-1), 1) := by decide +kernel
theorem dX11_nameOf_169 : decode cX11_nameOf 169 = .ok (.ireturn, 1) := by decide +kernel
theorem dX11_isOf_0 : decode cX11_isOf 0 = .ok (.iload_n 1, 1) := by decide +kernel
theorem dX11_isOf_1 : decode cX11_isOf 1 = .ok (.iconst 4, 1) := by decide +kernel
theorem dX11_isOf_2 : decode cX11_isOf 2 = .ok (.if_icmp .lt 27, 3) := by decide +kernel
theorem dX11_isOf_5 : decode cX11_isOf 5 = .ok (.iload_n 1, 1) := by decide +kernel
theorem dX11_isOf_6 : decode cX11_isOf 6 = .ok (.bipush 6, 2) := by decide +kernel
theorem dX11_isOf_8 : decode cX11_isOf 8 = .ok (.if_icmp .ge 14, 3) := by decide +kernel
theorem dX11_isOf_11 : decode cX11_isOf 11 = .ok (.aload_n 0, 1) := by decide +kernel
theorem dX11_isOf_12 : decode cX11_isOf 12 = .ok (.getfield 162, 3) := by decide +kernel
theorem dX11_isOf_15 : decode cX11_isOf 15 = .ok (.iconst 1, 1) := by decide +kernel
theorem dX11_isOf_16 : decode cX11_isOf 16 = .ok (.if_icmp .ne 17, 3) := by decide +kernel
theorem dX11_isOf_19 : decode cX11_isOf 19 = .ok (.goto 10, 3) := by decide +kernel
theorem dX11_isOf_22 : decode cX11_isOf 22 = .ok (.aload_n 0, 1) := by decide +kernel
theorem dX11_isOf_23 : decode cX11_isOf 23 = .ok (.getfield 162, 3) := by decide +kernel
theorem dX11_isOf_26 : decode cX11_isOf 26 = .ok (.ifCond .ne 7, 3) := by decide +kernel
theorem dX11_isOf_29 : decode cX11_isOf 29 = .ok (.iconst 1, 1) := by decide +kernel
theorem dX11_isOf_30 : decode cX11_isOf 30 = .ok (.goto 4, 3) := by decide +kernel
theorem dX11_isOf_33 : decode cX11_isOf 33 = .ok (.iconst 0, 1) := by decide +kernel
theorem dX11_isOf_34 : decode cX11_isOf 34 = .ok (.ireturn, 1) := by decide +kernel
theorem dX11_rank_0 : decode cX11_rank 0 = .ok (.iload_n 0, 1) := by decide +kernel
theorem dX11_rank_1 : decode cX11_rank 1 = .ok (.bipush 40, 2) := by decide +kernel
theorem dX11_rank_3 : decode cX11_rank 3 = .ok (.if_icmp .lt 7, 3) := by decide +kernel
theorem dX11_rank_6 : decode cX11_rank 6 = .ok (.iconst 0, 1) := by decide +kernel
theorem dX11_rank_7 : decode cX11_rank 7 = .ok (.goto 66, 3) := by decide +kernel
theorem dX11_rank_10 : decode cX11_rank 10 = .ok (.iload_n 0, 1) := by decide +kernel
theorem dX11_rank_11 : decode cX11_rank 11 = .ok (.bipush 22, 2) := by decide +kernel
theorem dX11_rank_13 : decode cX11_rank 13 = .ok (.if_icmp .ne 7, 3) := by decide +kernel
theorem dX11_rank_16 : decode cX11_rank 16 = .ok (.iconst 1, 1) := by decide +kernel
theorem dX11_rank_17 : decode cX11_rank 17 = .ok (.goto 56, 3) := by decide +kernel
theorem dX11_rank_20 : decode cX11_rank 20 = .ok (.iload_n 0, 1) := by decide +kernel
theorem dX11_rank_21 : decode cX11_rank 21 = .ok (.bipush 21, 2) := by decide +kernel
theorem dX11_rank_23 : decode cX11_rank 23 = .ok (.if_icmp .ne 7, 3) := by decide +kernel
theorem dX11_rank_26 : decode cX11_rank 26 = .ok (.iconst 2, 1) := by decide +kernel
theorem dX11_rank_27 : decode cX11_rank 27 = .ok (.goto 46, 3) := by decide +kernel
theorem dX11_rank_30 : decode cX11_rank 30 = .ok (.iload_n 0, 1) := by decide +kernel
theorem dX11_rank_31 : decode cX11_rank 31 = .ok (.bipush 20, 2) := by decide +kernel
theorem dX11_rank_33 : decode cX11_rank 33 = .ok (.if_icmp .ne 7, 3) := by decide +kernel
theorem dX11_rank_36 : decode cX11_rank 36 = .ok (.iconst 3, 1) := by decide +kernel
theorem dX11_rank_37 : decode cX11_rank 37 = .ok (.goto 36, 3) := by decide +kernel
theorem dX11_rank_40 : decode cX11_rank 40 = .ok (.iload_n 0, 1) := by decide +kernel
theorem dX11_rank_41 : decode cX11_rank 41 = .ok (.bipush 10, 2) := by decide +kernel
theorem dX11_rank_43 : decode cX11_rank 43 = .ok (.if_icmp .lt 7, 3) := by decide +kernel
theorem dX11_rank_46 : decode cX11_rank 46 = .ok (.iconst 4, 1) := by decide +kernel
theorem dX11_rank_47 : decode cX11_rank 47 = .ok (.goto 26, 3) := by decide +kernel
theorem dX11_rank_50 : decode cX11_rank 50 = .ok (.iload_n 0, 1) := by decide +kernel
theorem dX11_rank_51 : decode cX11_rank 51 = .ok (.bipush 8, 2) := by decide +kernel
theorem dX11_rank_53 : decode cX11_rank 53 = .ok (.if_icmp .lt 8, 3) := by decide +kernel
theorem dX11_rank_56 : decode cX11_rank 56 = .ok (.bipush 6, 2) := by decide +kernel
theorem dX11_rank_58 : decode cX11_rank 58 = .ok (.goto 15, 3) := by decide +kernel
theorem dX11_rank_61 : decode cX11_rank 61 = .ok (.iload_n 0, 1) := by decide +kernel
theorem dX11_rank_62 : decode cX11_rank 62 = .ok (.bipush 6, 2) := by decide +kernel
theorem dX11_rank_64 : decode cX11_rank 64 = .ok (.if_icmp .lt 7, 3) := by decide +kernel
theorem dX11_rank_67 : decode cX11_rank 67 = .ok (.iconst 5, 1) := by decide +kernel
theorem dX11_rank_68 : decode cX11_rank 68 = .ok (.goto 5, 3) := by decide +kernel
theorem dX11_rank_71 : decode cX11_rank 71 = .ok (.bipush 7, 2) := by decide +kernel
theorem dX11_rank_73 : decode cX11_rank 73 = .ok (.ireturn, 1) := by decide +kernel
theorem dX11_settle_0 : decode cX11_settle 0 = .ok (.aload_n 0, 1) := by decide +kernel
theorem dX11_settle_1 : decode cX11_settle 1 = .ok (.getfield 165, 3) := by decide +kernel
theorem dX11_settle_4 : decode cX11_settle 4 = .ok (.ifCond .le 89, 3) := by decide +kernel
theorem dX11_settle_7 : decode cX11_settle 7 = .ok (.aload_n 0, 1) := by decide +kernel
theorem dX11_settle_8 : decode cX11_settle 8 = .ok (.getfield 29, 3) := by decide +kernel
theorem dX11_settle_11 : decode cX11_settle 11 = .ok (.aload_n 0, 1) := by decide +kernel
theorem dX11_settle_12 : decode cX11_settle 12 = .ok (.getfield 165, 3) := by decide +kernel
theorem dX11_settle_15 : decode cX11_settle 15 = .ok (.iconst 1, 1) := by decide +kernel
theorem dX11_settle_16 : decode cX11_settle 16 = .ok (.isub, 1) := by decide +kernel
theorem dX11_settle_17 : decode cX11_settle 17 = .ok (.iaload, 1) := by decide +kernel
theorem dX11_settle_18 : decode cX11_settle 18 = .ok (.invokestatic 168, 3) := by decide +kernel
theorem dX11_settle_21 : decode cX11_settle 21 = .ok (.iload_n 1, 1) := by decide +kernel
theorem dX11_settle_22 : decode cX11_settle 22 = .ok (.if_icmp .lt 71, 3) := by decide +kernel
theorem dX11_settle_25 : decode cX11_settle 25 = .ok (.aload_n 0, 1) := by decide +kernel
theorem dX11_settle_26 : decode cX11_settle 26 = .ok (.dup, 1) := by decide +kernel
theorem dX11_settle_27 : decode cX11_settle 27 = .ok (.getfield 165, 3) := by decide +kernel
theorem dX11_settle_30 : decode cX11_settle 30 = .ok (.iconst 1, 1) := by decide +kernel
theorem dX11_settle_31 : decode cX11_settle 31 = .ok (.isub, 1) := by decide +kernel
theorem dX11_settle_32 : decode cX11_settle 32 = .ok (.putfield 165, 3) := by decide +kernel
theorem dX11_settle_35 : decode cX11_settle 35 = .ok (.aload_n 0, 1) := by decide +kernel
theorem dX11_settle_36 : decode cX11_settle 36 = .ok (.aload_n 0, 1) := by decide +kernel
theorem dX11_settle_37 : decode cX11_settle 37 = .ok (.getfield 29, 3) := by decide +kernel
theorem dX11_settle_40 : decode cX11_settle 40 = .ok (.aload_n 0, 1) := by decide +kernel
theorem dX11_settle_41 : decode cX11_settle 41 = .ok (.getfield 165, 3) := by decide +kernel
theorem dX11_settle_44 : decode cX11_settle 44 = .ok (.iaload, 1) := by decide +kernel
theorem dX11_settle_45 : decode cX11_settle 45 = .ok (.iconst 0, 1) := by decide +kernel
theorem dX11_settle_46 : decode cX11_settle 46 = .ok (.invokevirtual 171, 3) := by decide +kernel
theorem dX11_settle_49 : decode cX11_settle 49 = .ok (.aload_n 0, 1) := by decide +kernel
theorem dX11_settle_50 : decode cX11_settle 50 = .ok (.getfield 29, 3) := by decide +kernel
theorem dX11_settle_53 : decode cX11_settle 53 = .ok (.aload_n 0, 1) := by decide +kernel
theorem dX11_settle_54 : decode cX11_settle 54 = .ok (.getfield 165, 3) := by decide +kernel
theorem dX11_settle_57 : decode cX11_settle 57 = .ok (.iaload, 1) := by decide +kernel
theorem dX11_settle_58 : decode cX11_settle 58 = .ok (.invokestatic 168, 3) := by decide +kernel
theorem dX11_settle_61 : decode cX11_settle 61 = .ok (.bipush 7, 2) := by decide +kernel
theorem dX11_settle_63 : decode cX11_settle 63 = .ok (.if_icmp .eq 17, 3) := by decide +kernel
theorem dX11_settle_66 : decode cX11_settle 66 = .ok (.aload_n 0, 1) := by decide +kernel
theorem dX11_settle_67 : decode cX11_settle 67 = .ok (.getfield 29, 3) := by decide +kernel
theorem dX11_settle_70 : decode cX11_settle 70 = .ok (.aload_n 0, 1) := by decide +kernel
theorem dX11_settle_71 : decode cX11_settle 71 = .ok (.getfield 165, 3) := by decide +kernel
theorem dX11_settle_74 : decode cX11_settle 74 = .ok (.iaload, 1) := by decide +kernel
theorem dX11_settle_75 : decode cX11_settle 75 = .ok (.bipush 20, 2) := by decide +kernel
theorem dX11_settle_77 : decode cX11_settle 77 = .ok (.if_icmp .ne (-77), 3) := by decide +kernel
theorem dX11_settle_80 : decode cX11_settle 80 = .ok (.aload_n 0, 1) := by decide +kernel
theorem dX11_settle_81 : decode cX11_settle 81 = .ok (.dup, 1) := by decide +kernel
theorem dX11_settle_82 : decode cX11_settle 82 = .ok (.getfield 175, 3) := by decide +kernel
theorem dX11_settle_85 : decode cX11_settle 85 = .ok (.iconst 1, 1) := by decide +kernel
theorem dX11_settle_86 : decode cX11_settle 86 = .ok (.isub, 1) := by decide +kernel
theorem dX11_settle_87 : decode cX11_settle 87 = .ok (.putfield 175, 3) := by decide +kernel
theorem dX11_settle_90 : decode cX11_settle 90 = .ok (.goto (-90), 3) := by decide +kernel
theorem dX11_settle_93 : decode cX11_settle 93 = .ok (.return_, 1) := by decide +kernel
theorem dX11_openAt_0 : decode cX11_openAt 0 = .ok (.aload_n 0, 1) := by decide +kernel
theorem dX11_openAt_1 : decode cX11_openAt 1 = .ok (.getfield 165, 3) := by decide +kernel
theorem dX11_openAt_4 : decode cX11_openAt 4 = .ok (.iconst 1, 1) := by decide +kernel
theorem dX11_openAt_5 : decode cX11_openAt 5 = .ok (.isub, 1) := by decide +kernel
theorem dX11_openAt_6 : decode cX11_openAt 6 = .ok (.istore_n 1, 1) := by decide +kernel
theorem dX11_openAt_7 : decode cX11_openAt 7 = .ok (.iload_n 1, 1) := by decide +kernel
theorem dX11_openAt_8 : decode cX11_openAt 8 = .ok (.ifCond .lt 20, 3) := by decide +kernel
theorem dX11_openAt_11 : decode cX11_openAt 11 = .ok (.aload_n 0, 1) := by decide +kernel
theorem dX11_openAt_12 : decode cX11_openAt 12 = .ok (.getfield 29, 3) := by decide +kernel
theorem dX11_openAt_15 : decode cX11_openAt 15 = .ok (.iload_n 1, 1) := by decide +kernel
theorem dX11_openAt_16 : decode cX11_openAt 16 = .ok (.iaload, 1) := by decide +kernel
theorem dX11_openAt_17 : decode cX11_openAt 17 = .ok (.bipush 40, 2) := by decide +kernel
theorem dX11_openAt_19 : decode cX11_openAt 19 = .ok (.if_icmp .ge 9, 3) := by decide +kernel
theorem dX11_openAt_22 : decode cX11_openAt 22 = .ok (.iinc 1 (-1), 3) := by decide +kernel
theorem dX11_openAt_25 : decode cX11_openAt 25 = .ok (.goto (-18), 3) := by decide +kernel
theorem dX11_openAt_28 : decode cX11_openAt 28 = .ok (.iload_n 1, 1) := by decide +kernel
theorem dX11_openAt_29 : decode cX11_openAt 29 = .ok (.ireturn, 1) := by decide +kernel
theorem dX11_openNow_0 : decode cX11_openNow 0 = .ok (.aload_n 0, 1) := by decide +kernel
theorem dX11_openNow_1 : decode cX11_openNow 1 = .ok (.invokevirtual 178, 3) := by decide +kernel
theorem dX11_openNow_4 : decode cX11_openNow 4 = .ok (.ifCond .ge 7, 3) := by decide +kernel
theorem dX11_openNow_7 : decode cX11_openNow 7 = .ok (.iconst (-1), 1) := by decide +kernel
theorem dX11_openNow_8 : decode cX11_openNow 8 = .ok (.goto 12, 3) := by decide +kernel
theorem dX11_openNow_11 : decode cX11_openNow 11 = .ok (.aload_n 0, 1) := by decide +kernel
theorem dX11_openNow_12 : decode cX11_openNow 12 = .ok (.getfield 29, 3) := by decide +kernel
theorem dX11_openNow_15 : decode cX11_openNow 15 = .ok (.aload_n 0, 1) := by decide +kernel
theorem dX11_openNow_16 : decode cX11_openNow 16 = .ok (.invokevirtual 178, 3) := by decide +kernel
theorem dX11_openNow_19 : decode cX11_openNow 19 = .ok (.iaload, 1) := by decide +kernel
theorem dX11_openNow_20 : decode cX11_openNow 20 = .ok (.ireturn, 1) := by decide +kernel
theorem dX11_isCompared_0 : decode cX11_isCompared 0 = .ok (.aload_n 0, 1) := by decide +kernel
theorem dX11_isCompared_1 : decode cX11_isCompared 1 = .ok (.getfield 165, 3) := by decide +kernel
theorem dX11_isCompared_4 : decode cX11_isCompared 4 = .ok (.iconst 1, 1) := by decide +kernel
theorem dX11_isCompared_5 : decode cX11_isCompared 5 = .ok (.isub, 1) := by decide +kernel
theorem dX11_isCompared_6 : decode cX11_isCompared 6 = .ok (.istore_n 1, 1) := by decide +kernel
theorem dX11_isCompared_7 : decode cX11_isCompared 7 = .ok (.iload_n 1, 1) := by decide +kernel
theorem dX11_isCompared_8 : decode cX11_isCompared 8 = .ok (.ifCond .lt 22, 3) := by decide +kernel
theorem dX11_isCompared_11 : decode cX11_isCompared 11 = .ok (.aload_n 0, 1) := by decide +kernel
theorem dX11_isCompared_12 : decode cX11_isCompared 12 = .ok (.getfield 29, 3) := by decide +kernel
theorem dX11_isCompared_15 : decode cX11_isCompared 15 = .ok (.iload_n 1, 1) := by decide +kernel
theorem dX11_isCompared_16 : decode cX11_isCompared 16 = .ok (.iaload, 1) := by decide +kernel
theorem dX11_isCompared_17 : decode cX11_isCompared 17 = .ok (.invokestatic 168, 3) := by decide +kernel
theorem dX11_isCompared_20 : decode cX11_isCompared 20 = .ok (.iconst 4, 1) := by decide +kernel
theorem dX11_isCompared_21 : decode cX11_isCompared 21 = .ok (.if_icmp .le 9, 3) := by decide +kernel
theorem dX11_isCompared_24 : decode cX11_isCompared 24 = .ok (.iinc 1 (-1), 3) := by decide +kernel
theorem dX11_isCompared_27 : decode cX11_isCompared 27 = .ok (.goto (-20), 3) := by decide +kernel
theorem dX11_isCompared_30 : decode cX11_isCompared 30 = .ok (.iload_n 1, 1) := by decide +kernel
theorem dX11_isCompared_31 : decode cX11_isCompared 31 = .ok (.ifCond .lt 20, 3) := by decide +kernel
theorem dX11_isCompared_34 : decode cX11_isCompared 34 = .ok (.aload_n 0, 1) := by decide +kernel
theorem dX11_isCompared_35 : decode cX11_isCompared 35 = .ok (.getfield 29, 3) := by decide +kernel
theorem dX11_isCompared_38 : decode cX11_isCompared 38 = .ok (.iload_n 1, 1) := by decide +kernel
theorem dX11_isCompared_39 : decode cX11_isCompared 39 = .ok (.iaload, 1) := by decide +kernel
theorem dX11_isCompared_40 : decode cX11_isCompared 40 = .ok (.invokestatic 168, 3) := by decide +kernel
theorem dX11_isCompared_43 : decode cX11_isCompared 43 = .ok (.iconst 4, 1) := by decide +kernel
theorem dX11_isCompared_44 : decode cX11_isCompared 44 = .ok (.if_icmp .ne 7, 3) := by decide +kernel
theorem dX11_isCompared_47 : decode cX11_isCompared 47 = .ok (.iconst 1, 1) := by decide +kernel
theorem dX11_isCompared_48 : decode cX11_isCompared 48 = .ok (.goto 4, 3) := by decide +kernel
theorem dX11_isCompared_51 : decode cX11_isCompared 51 = .ok (.iconst 0, 1) := by decide +kernel
theorem dX11_isCompared_52 : decode cX11_isCompared 52 = .ok (.ireturn, 1) := by decide +kernel
theorem dX11_isAskAhead_0 : decode cX11_isAskAhead 0 = .ok (.aload_n 0, 1) := by decide +kernel
theorem dX11_isAskAhead_1 : decode cX11_isAskAhead 1 = .ok (.invokevirtual 182, 3) := by decide +kernel
theorem dX11_isAskAhead_4 : decode cX11_isAskAhead 4 = .ok (.bipush 41, 2) := by decide +kernel
theorem dX11_isAskAhead_6 : decode cX11_isAskAhead 6 = .ok (.if_icmp .ne 45, 3) := by decide +kernel
theorem dX11_isAskAhead_9 : decode cX11_isAskAhead 9 = .ok (.aload_n 0, 1) := by decide +kernel
theorem dX11_isAskAhead_10 : decode cX11_isAskAhead 10 = .ok (.getfield 29, 3) := by decide +kernel
theorem dX11_isAskAhead_13 : decode cX11_isAskAhead 13 = .ok (.aload_n 0, 1) := by decide +kernel
theorem dX11_isAskAhead_14 : decode cX11_isAskAhead 14 = .ok (.getfield 165, 3) := by decide +kernel
theorem dX11_isAskAhead_17 : decode cX11_isAskAhead 17 = .ok (.iconst 1, 1) := by decide +kernel
theorem dX11_isAskAhead_18 : decode cX11_isAskAhead 18 = .ok (.isub, 1) := by decide +kernel
theorem dX11_isAskAhead_19 : decode cX11_isAskAhead 19 = .ok (.iaload, 1) := by decide +kernel
theorem dX11_isAskAhead_20 : decode cX11_isAskAhead 20 = .ok (.bipush 40, 2) := by decide +kernel
theorem dX11_isAskAhead_22 : decode cX11_isAskAhead 22 = .ok (.if_icmp .ge 25, 3) := by decide +kernel
theorem dX11_isAskAhead_25 : decode cX11_isAskAhead 25 = .ok (.aload_n 0, 1) := by decide +kernel
theorem dX11_isAskAhead_26 : decode cX11_isAskAhead 26 = .ok (.getfield 29, 3) := by decide +kernel
theorem dX11_isAskAhead_29 : decode cX11_isAskAhead 29 = .ok (.aload_n 0, 1) := by decide +kernel
theorem dX11_isAskAhead_30 : decode cX11_isAskAhead 30 = .ok (.getfield 165, 3) := by decide +kernel
theorem dX11_isAskAhead_33 : decode cX11_isAskAhead 33 = .ok (.iconst 1, 1) := by decide +kernel
theorem dX11_isAskAhead_34 : decode cX11_isAskAhead 34 = .ok (.isub, 1) := by decide +kernel
theorem dX11_isAskAhead_35 : decode cX11_isAskAhead 35 = .ok (.iaload, 1) := by decide +kernel
theorem dX11_isAskAhead_36 : decode cX11_isAskAhead 36 = .ok (.invokestatic 168, 3) := by decide +kernel
theorem dX11_isAskAhead_39 : decode cX11_isAskAhead 39 = .ok (.iconst 1, 1) := by decide +kernel
theorem dX11_isAskAhead_40 : decode cX11_isAskAhead 40 = .ok (.iconst 3, 1) := by decide +kernel
theorem dX11_isAskAhead_41 : decode cX11_isAskAhead 41 = .ok (.invokestatic 83, 3) := by decide +kernel
theorem dX11_isAskAhead_44 : decode cX11_isAskAhead 44 = .ok (.ifCond .eq 7, 3) := by decide +kernel
theorem dX11_isAskAhead_47 : decode cX11_isAskAhead 47 = .ok (.iconst 1, 1) := by decide +kernel
theorem dX11_isAskAhead_48 : decode cX11_isAskAhead 48 = .ok (.goto 4, 3) := by decide +kernel
theorem dX11_isAskAhead_51 : decode cX11_isAskAhead 51 = .ok (.iconst 0, 1) := by decide +kernel
theorem dX11_isAskAhead_52 : decode cX11_isAskAhead 52 = .ok (.ireturn, 1) := by decide +kernel
theorem dX11_opened_0 : decode cX11_opened 0 = .ok (.aload_n 0, 1) := by decide +kernel
theorem dX11_opened_1 : decode cX11_opened 1 = .ok (.getfield 175, 3) := by decide +kernel
theorem dX11_opened_4 : decode cX11_opened 4 = .ok (.bipush 8, 2) := by decide +kernel
theorem dX11_opened_6 : decode cX11_opened 6 = .ok (.if_icmp .ne 5, 3) := by decide +kernel
theorem dX11_opened_9 : decode cX11_opened 9 = .ok (.iconst 3, 1) := by decide +kernel
theorem dX11_opened_10 : decode cX11_opened 10 = .ok (.ireturn, 1) := by decide +kernel
theorem dX11_opened_11 : decode cX11_opened 11 = .ok (.aload_n 0, 1) := by decide +kernel
theorem dX11_opened_12 : decode cX11_opened 12 = .ok (.dup, 1) := by decide +kernel
theorem dX11_opened_13 : decode cX11_opened 13 = .ok (.getfield 175, 3) := by decide +kernel
theorem dX11_opened_16 : decode cX11_opened 16 = .ok (.iconst 1, 1) := by decide +kernel
theorem dX11_opened_17 : decode cX11_opened 17 = .ok (.iadd, 1) := by decide +kernel
theorem dX11_opened_18 : decode cX11_opened 18 = .ok (.putfield 175, 3) := by decide +kernel
theorem dX11_opened_21 : decode cX11_opened 21 = .ok (.aload_n 0, 1) := by decide +kernel
theorem dX11_opened_22 : decode cX11_opened 22 = .ok (.getfield 29, 3) := by decide +kernel
theorem dX11_opened_25 : decode cX11_opened 25 = .ok (.aload_n 0, 1) := by decide +kernel
theorem dX11_opened_26 : decode cX11_opened 26 = .ok (.getfield 165, 3) := by decide +kernel
theorem dX11_opened_29 : decode cX11_opened 29 = .ok (.iload_n 1, 1) := by decide +kernel
theorem dX11_opened_30 : decode cX11_opened 30 = .ok (.iastore, 1) := by decide +kernel
theorem dX11_opened_31 : decode cX11_opened 31 = .ok (.aload_n 0, 1) := by decide +kernel
theorem dX11_opened_32 : decode cX11_opened 32 = .ok (.dup, 1) := by decide +kernel
theorem dX11_opened_33 : decode cX11_opened 33 = .ok (.getfield 165, 3) := by decide +kernel
theorem dX11_opened_36 : decode cX11_opened 36 = .ok (.iconst 1, 1) := by decide +kernel
theorem dX11_opened_37 : decode cX11_opened 37 = .ok (.iadd, 1) := by decide +kernel
theorem dX11_opened_38 : decode cX11_opened 38 = .ok (.putfield 165, 3) := by decide +kernel
theorem dX11_opened_41 : decode cX11_opened 41 = .ok (.aload_n 0, 1) := by decide +kernel
theorem dX11_opened_42 : decode cX11_opened 42 = .ok (.invokevirtual 185, 3) := by decide +kernel
theorem dX11_opened_45 : decode cX11_opened 45 = .ok (.iconst 0, 1) := by decide +kernel
theorem dX11_opened_46 : decode cX11_opened 46 = .ok (.ireturn, 1) := by decide +kernel
theorem dX11_beginOne_0 : decode cX11_beginOne 0 = .ok (.aload_n 0, 1) := by decide +kernel
theorem dX11_beginOne_1 : decode cX11_beginOne 1 = .ok (.getfield 114, 3) := by decide +kernel
theorem dX11_beginOne_4 : decode cX11_beginOne 4 = .ok (.iconst 1, 1) := by decide +kernel
theorem dX11_beginOne_5 : decode cX11_beginOne 5 = .ok (.if_icmp .ne 15, 3) := by decide +kernel
theorem dX11_beginOne_8 : decode cX11_beginOne 8 = .ok (.aload_n 0, 1) := by decide +kernel
theorem dX11_beginOne_9 : decode cX11_beginOne 9 = .ok (.getfield 120, 3) := by decide +kernel
theorem dX11_beginOne_12 : decode cX11_beginOne 12 = .ok (.sipush 9999, 3) := by decide +kernel
theorem dX11_beginOne_15 : decode cX11_beginOne 15 = .ok (.if_icmp .le 5, 3) := by decide +kernel
theorem dX11_beginOne_18 : decode cX11_beginOne 18 = .ok (.iconst 2, 1) := by decide +kernel
theorem dX11_beginOne_19 : decode cX11_beginOne 19 = .ok (.ireturn, 1) := by decide +kernel
theorem dX11_beginOne_20 : decode cX11_beginOne 20 = .ok (.aload_n 0, 1) := by decide +kernel
theorem dX11_beginOne_21 : decode cX11_beginOne 21 = .ok (.invokevirtual 188, 3) := by decide +kernel
theorem dX11_beginOne_24 : decode cX11_beginOne 24 = .ok (.istore_n 1, 1) := by decide +kernel
theorem dX11_beginOne_25 : decode cX11_beginOne 25 = .ok (.iload_n 1, 1) := by decide +kernel
theorem dX11_beginOne_26 : decode cX11_beginOne 26 = .ok (.ifCond .lt 13, 3) := by decide +kernel
theorem dX11_beginOne_29 : decode cX11_beginOne 29 = .ok (.aload_n 0, 1) := by decide +kernel
theorem dX11_beginOne_30 : decode cX11_beginOne 30 = .ok (.iload_n 1, 1) := by decide +kernel
theorem dX11_beginOne_31 : decode cX11_beginOne 31 = .ok (.invokevirtual 191, 3) := by decide +kernel
theorem dX11_beginOne_34 : decode cX11_beginOne 34 = .ok (.ifCond .ne 5, 3) := by decide +kernel
theorem dX11_beginOne_37 : decode cX11_beginOne 37 = .ok (.iconst 5, 1) := by decide +kernel
theorem dX11_beginOne_38 : decode cX11_beginOne 38 = .ok (.ireturn, 1) := by decide +kernel
theorem dX11_beginOne_39 : decode cX11_beginOne 39 = .ok (.aload_n 0, 1) := by decide +kernel
theorem dX11_beginOne_40 : decode cX11_beginOne 40 = .ok (.getfield 114, 3) := by decide +kernel
theorem dX11_beginOne_43 : decode cX11_beginOne 43 = .ok (.iconst 1, 1) := by decide +kernel
theorem dX11_beginOne_44 : decode cX11_beginOne 44 = .ok (.if_icmp .eq 7, 3) := by decide +kernel
theorem dX11_beginOne_47 : decode cX11_beginOne 47 = .ok (.iload_n 1, 1) := by decide +kernel
theorem dX11_beginOne_48 : decode cX11_beginOne 48 = .ok (.ifCond .lt 53, 3) := by decide +kernel
theorem dX11_beginOne_51 : decode cX11_beginOne 51 = .ok (.aload_n 0, 1) := by decide +kernel
theorem dX11_beginOne_52 : decode cX11_beginOne 52 = .ok (.aload_n 0, 1) := by decide +kernel
theorem dX11_beginOne_53 : decode cX11_beginOne 53 = .ok (.getfield 114, 3) := by decide +kernel
theorem dX11_beginOne_56 : decode cX11_beginOne 56 = .ok (.iconst 1, 1) := by decide +kernel
theorem dX11_beginOne_57 : decode cX11_beginOne 57 = .ok (.if_icmp .ne 7, 3) := by decide +kernel
theorem dX11_beginOne_60 : decode cX11_beginOne 60 = .ok (.iconst 0, 1) := by decide +kernel
theorem dX11_beginOne_61 : decode cX11_beginOne 61 = .ok (.goto 4, 3) := by decide +kernel
theorem dX11_beginOne_64 : decode cX11_beginOne 64 = .ok (.iconst 1, 1) := by decide +kernel
theorem dX11_beginOne_65 : decode cX11_beginOne 65 = .ok (.aload_n 0, 1) := by decide +kernel
theorem dX11_beginOne_66 : decode cX11_beginOne 66 = .ok (.getfield 114, 3) := by decide +kernel
theorem dX11_beginOne_69 : decode cX11_beginOne 69 = .ok (.iconst 1, 1) := by decide +kernel
theorem dX11_beginOne_70 : decode cX11_beginOne 70 = .ok (.if_icmp .ne 10, 3) := by decide +kernel
theorem dX11_beginOne_73 : decode cX11_beginOne 73 = .ok (.aload_n 0, 1) := by decide +kernel
theorem dX11_beginOne_74 : decode cX11_beginOne 74 = .ok (.getfield 120, 3) := by decide +kernel
theorem dX11_beginOne_77 : decode cX11_beginOne 77 = .ok (.goto 4, 3) := by decide +kernel
theorem dX11_beginOne_80 : decode cX11_beginOne 80 = .ok (.iload_n 1, 1) := by decide +kernel
theorem dX11_beginOne_81 : decode cX11_beginOne 81 = .ok (.invokevirtual 171, 3) := by decide +kernel
theorem dX11_beginOne_84 : decode cX11_beginOne 84 = .ok (.aload_n 0, 1) := by decide +kernel
theorem dX11_beginOne_85 : decode cX11_beginOne 85 = .ok (.invokevirtual 185, 3) := by decide +kernel
theorem dX11_beginOne_88 : decode cX11_beginOne 88 = .ok (.aload_n 0, 1) := by decide +kernel
theorem dX11_beginOne_89 : decode cX11_beginOne 89 = .ok (.iconst 1, 1) := by decide +kernel
theorem dX11_beginOne_90 : decode cX11_beginOne 90 = .ok (.putfield 194, 3) := by decide +kernel
theorem dX11_beginOne_93 : decode cX11_beginOne 93 = .ok (.aload_n 0, 1) := by decide +kernel
theorem dX11_beginOne_94 : decode cX11_beginOne 94 = .ok (.bipush 7, 2) := by decide +kernel
theorem dX11_beginOne_96 : decode cX11_beginOne 96 = .ok (.invokevirtual 197, 3) := by decide +kernel
theorem dX11_beginOne_99 : decode cX11_beginOne 99 = .ok (.iconst 0, 1) := by decide +kernel
theorem dX11_beginOne_100 : decode cX11_beginOne 100 = .ok (.ireturn, 1) := by decide +kernel
theorem dX11_beginOne_101 : decode cX11_beginOne 101 = .ok (.aload_n 0, 1) := by decide +kernel
theorem dX11_beginOne_102 : decode cX11_beginOne 102 = .ok (.getfield 114, 3) := by decide +kernel
theorem dX11_beginOne_105 : decode cX11_beginOne 105 = .ok (.bipush 40, 2) := by decide +kernel
theorem dX11_beginOne_107 : decode cX11_beginOne 107 = .ok (.if_icmp .ne 10, 3) := by decide +kernel
theorem dX11_beginOne_110 : decode cX11_beginOne 110 = .ok (.aload_n 0, 1) := by decide +kernel
theorem dX11_beginOne_111 : decode cX11_beginOne 111 = .ok (.bipush 40, 2) := by decide +kernel
theorem dX11_beginOne_113 : decode cX11_beginOne 113 = .ok (.invokevirtual 200, 3) := by decide +kernel
theorem dX11_beginOne_116 : decode cX11_beginOne 116 = .ok (.ireturn, 1) := by decide +kernel
theorem dX11_beginOne_117 : decode cX11_beginOne 117 = .ok (.aload_n 0, 1) := by decide +kernel
theorem dX11_beginOne_118 : decode cX11_beginOne 118 = .ok (.getfield 114, 3) := by decide +kernel
theorem dX11_beginOne_121 : decode cX11_beginOne 121 = .ok (.bipush 45, 2) := by decide +kernel
theorem dX11_beginOne_123 : decode cX11_beginOne 123 = .ok (.if_icmp .ne 9, 3) := by decide +kernel
theorem dX11_beginOne_126 : decode cX11_beginOne 126 = .ok (.aload_n 0, 1) := by decide +kernel
theorem dX11_beginOne_127 : decode cX11_beginOne 127 = .ok (.iconst 5, 1) := by decide +kernel
theorem dX11_beginOne_128 : decode cX11_beginOne 128 = .ok (.invokevirtual 200, 3) := by decide +kernel
theorem dX11_beginOne_131 : decode cX11_beginOne 131 = .ok (.ireturn, 1) := by decide +kernel
theorem dX11_beginOne_132 : decode cX11_beginOne 132 = .ok (.aload_n 0, 1) := by decide +kernel
theorem dX11_beginOne_133 : decode cX11_beginOne 133 = .ok (.bipush 115, 2) := by decide +kernel
theorem dX11_beginOne_135 : decode cX11_beginOne 135 = .ok (.bipush 116, 2) := by decide +kernel
theorem dX11_beginOne_137 : decode cX11_beginOne 137 = .ok (.bipush 97, 2) := by decide +kernel
theorem dX11_beginOne_139 : decode cX11_beginOne 139 = .ok (.bipush 110, 2) := by decide +kernel
theorem dX11_beginOne_141 : decode cX11_beginOne 141 = .ok (.bipush 100, 2) := by decide +kernel
theorem dX11_beginOne_143 : decode cX11_beginOne 143 = .ok (.bipush 115, 2) := by decide +kernel
theorem dX11_beginOne_145 : decode cX11_beginOne 145 = .ok (.invokestatic 158, 3) := by decide +kernel
theorem dX11_beginOne_148 : decode cX11_beginOne 148 = .ok (.invokevirtual 203, 3) := by decide +kernel
theorem dX11_beginOne_151 : decode cX11_beginOne 151 = .ok (.ifCond .eq 9, 3) := by decide +kernel
theorem dX11_beginOne_154 : decode cX11_beginOne 154 = .ok (.aload_n 0, 1) := by decide +kernel
theorem dX11_beginOne_155 : decode cX11_beginOne 155 = .ok (.iconst 2, 1) := by decide +kernel
theorem dX11_beginOne_156 : decode cX11_beginOne 156 = .ok (.invokevirtual 200, 3) := by decide +kernel
theorem dX11_beginOne_159 : decode cX11_beginOne 159 = .ok (.ireturn, 1) := by decide +kernel
theorem dX11_beginOne_160 : decode cX11_beginOne 160 = .ok (.aload_n 0, 1) := by decide +kernel
theorem dX11_beginOne_161 : decode cX11_beginOne 161 = .ok (.bipush 102, 2) := by decide +kernel
theorem dX11_beginOne_163 : decode cX11_beginOne 163 = .ok (.bipush 114, 2) := by decide +kernel
theorem dX11_beginOne_165 : decode cX11_beginOne 165 = .ok (.bipush 101, 2) := by decide +kernel
theorem dX11_beginOne_167 : decode cX11_beginOne 167 = .ok (.bipush 101, 2) := by decide +kernel
theorem dX11_beginOne_169 : decode cX11_beginOne 169 = .ok (.invokestatic 144, 3) := by decide +kernel
theorem dX11_beginOne_172 : decode cX11_beginOne 172 = .ok (.invokevirtual 203, 3) := by decide +kernel
theorem dX11_beginOne_175 : decode cX11_beginOne 175 = .ok (.ifCond .eq 9, 3) := by decide +kernel
theorem dX11_beginOne_178 : decode cX11_beginOne 178 = .ok (.aload_n 0, 1) := by decide +kernel
theorem dX11_beginOne_179 : decode cX11_beginOne 179 = .ok (.iconst 4, 1) := by decide +kernel
theorem dX11_beginOne_180 : decode cX11_beginOne 180 = .ok (.invokevirtual 200, 3) := by decide +kernel
theorem dX11_beginOne_183 : decode cX11_beginOne 183 = .ok (.ireturn, 1) := by decide +kernel
theorem dX11_beginOne_184 : decode cX11_beginOne 184 = .ok (.aload_n 0, 1) := by decide +kernel
theorem dX11_beginOne_185 : decode cX11_beginOne 185 = .ok (.bipush 105, 2) := by decide +kernel
theorem dX11_beginOne_187 : decode cX11_beginOne 187 = .ok (.bipush 102, 2) := by decide +kernel
theorem dX11_beginOne_189 : decode cX11_beginOne 189 = .ok (.invokestatic 136, 3) := by decide +kernel
theorem dX11_beginOne_192 : decode cX11_beginOne 192 = .ok (.invokevirtual 203, 3) := by decide +kernel
theorem dX11_beginOne_195 : decode cX11_beginOne 195 = .ok (.ifCond .eq 10, 3) := by decide +kernel
theorem dX11_beginOne_198 : decode cX11_beginOne 198 = .ok (.aload_n 0, 1) := by decide +kernel
theorem dX11_beginOne_199 : decode cX11_beginOne 199 = .ok (.bipush 41, 2) := by decide +kernel
theorem dX11_beginOne_201 : decode cX11_beginOne 201 = .ok (.invokevirtual 200, 3) := by decide +kernel
theorem dX11_beginOne_204 : decode cX11_beginOne 204 = .ok (.ireturn, 1) := by decide +kernel
theorem dX11_beginOne_205 : decode cX11_beginOne 205 = .ok (.aload_n 0, 1) := by decide +kernel
theorem dX11_beginOne_206 : decode cX11_beginOne 206 = .ok (.bipush 110, 2) := by decide +kernel
theorem dX11_beginOne_208 : decode cX11_beginOne 208 = .ok (.bipush 111, 2) := by decide +kernel
theorem dX11_beginOne_210 : decode cX11_beginOne 210 = .ok (.bipush 116, 2) := by decide +kernel
theorem dX11_beginOne_212 : decode cX11_beginOne 212 = .ok (.invokestatic 140, 3) := by decide +kernel
theorem dX11_beginOne_215 : decode cX11_beginOne 215 = .ok (.invokevirtual 203, 3) := by decide +kernel
theorem dX11_beginOne_218 : decode cX11_beginOne 218 = .ok (.ifCond .eq 19, 3) := by decide +kernel
theorem dX11_beginOne_221 : decode cX11_beginOne 221 = .ok (.aload_n 0, 1) := by decide +kernel
theorem dX11_beginOne_222 : decode cX11_beginOne 222 = .ok (.invokevirtual 207, 3) := by decide +kernel
theorem dX11_beginOne_225 : decode cX11_beginOne 225 = .ok (.ifCond .eq 12, 3) := by decide +kernel
theorem dX11_beginOne_228 : decode cX11_beginOne 228 = .ok (.aload_n 0, 1) := by decide +kernel
theorem dX11_beginOne_229 : decode cX11_beginOne 229 = .ok (.bipush 20, 2) := by decide +kernel
theorem dX11_beginOne_231 : decode cX11_beginOne 231 = .ok (.invokevirtual 200, 3) := by decide +kernel
theorem dX11_beginOne_234 : decode cX11_beginOne 234 = .ok (.goto 4, 3) := by decide +kernel
theorem dX11_beginOne_237 : decode cX11_beginOne 237 = .ok (.iconst 1, 1) := by decide +kernel
theorem dX11_beginOne_238 : decode cX11_beginOne 238 = .ok (.ireturn, 1) := by decide +kernel
theorem dX11_compareOf_0 : decode cX11_compareOf 0 = .ok (.aload_n 0, 1) := by decide +kernel
theorem dX11_compareOf_1 : decode cX11_compareOf 1 = .ok (.getfield 114, 3) := by decide +kernel
theorem dX11_compareOf_4 : decode cX11_compareOf 4 = .ok (.bipush 60, 2) := by decide +kernel
theorem dX11_compareOf_6 : decode cX11_compareOf 6 = .ok (.if_icmp .ne 8, 3) := by decide +kernel
theorem dX11_compareOf_9 : decode cX11_compareOf 9 = .ok (.bipush 10, 2) := by decide +kernel
theorem dX11_compareOf_11 : decode cX11_compareOf 11 = .ok (.goto 72, 3) := by decide +kernel
theorem dX11_compareOf_14 : decode cX11_compareOf 14 = .ok (.aload_n 0, 1) := by decide +kernel
theorem dX11_compareOf_15 : decode cX11_compareOf 15 = .ok (.getfield 114, 3) := by decide +kernel
theorem dX11_compareOf_18 : decode cX11_compareOf 18 = .ok (.iconst 4, 1) := by decide +kernel
theorem dX11_compareOf_19 : decode cX11_compareOf 19 = .ok (.if_icmp .ne 8, 3) := by decide +kernel
theorem dX11_compareOf_22 : decode cX11_compareOf 22 = .ok (.bipush 11, 2) := by decide +kernel
theorem dX11_compareOf_24 : decode cX11_compareOf 24 = .ok (.goto 59, 3) := by decide +kernel
theorem dX11_compareOf_27 : decode cX11_compareOf 27 = .ok (.aload_n 0, 1) := by decide +kernel
theorem dX11_compareOf_28 : decode cX11_compareOf 28 = .ok (.getfield 114, 3) := by decide +kernel
theorem dX11_compareOf_31 : decode cX11_compareOf 31 = .ok (.bipush 62, 2) := by decide +kernel
theorem dX11_compareOf_33 : decode cX11_compareOf 33 = .ok (.if_icmp .ne 8, 3) := by decide +kernel
theorem dX11_compareOf_36 : decode cX11_compareOf 36 = .ok (.bipush 12, 2) := by decide +kernel
theorem dX11_compareOf_38 : decode cX11_compareOf 38 = .ok (.goto 45, 3) := by decide +kernel
theorem dX11_compareOf_41 : decode cX11_compareOf 41 = .ok (.aload_n 0, 1) := by decide +kernel
theorem dX11_compareOf_42 : decode cX11_compareOf 42 = .ok (.getfield 114, 3) := by decide +kernel
theorem dX11_compareOf_45 : decode cX11_compareOf 45 = .ok (.iconst 5, 1) := by decide +kernel
theorem dX11_compareOf_46 : decode cX11_compareOf 46 = .ok (.if_icmp .ne 8, 3) := by decide +kernel
theorem dX11_compareOf_49 : decode cX11_compareOf 49 = .ok (.bipush 13, 2) := by decide +kernel
theorem dX11_compareOf_51 : decode cX11_compareOf 51 = .ok (.goto 32, 3) := by decide +kernel
theorem dX11_compareOf_54 : decode cX11_compareOf 54 = .ok (.aload_n 0, 1) := by decide +kernel
theorem dX11_compareOf_55 : decode cX11_compareOf 55 = .ok (.getfield 114, 3) := by decide +kernel
theorem dX11_compareOf_58 : decode cX11_compareOf 58 = .ok (.bipush 61, 2) := by decide +kernel
theorem dX11_compareOf_60 : decode cX11_compareOf 60 = .ok (.if_icmp .ne 8, 3) := by decide +kernel
theorem dX11_compareOf_63 : decode cX11_compareOf 63 = .ok (.bipush 14, 2) := by decide +kernel
theorem dX11_compareOf_65 : decode cX11_compareOf 65 = .ok (.goto 18, 3) := by decide +kernel
theorem dX11_compareOf_68 : decode cX11_compareOf 68 = .ok (.aload_n 0, 1) := by decide +kernel
theorem dX11_compareOf_69 : decode cX11_compareOf 69 = .ok (.getfield 114, 3) := by decide +kernel
theorem dX11_compareOf_72 : decode cX11_compareOf 72 = .ok (.bipush 35, 2) := by decide +kernel
theorem dX11_compareOf_74 : decode cX11_compareOf 74 = .ok (.if_icmp .ne 8, 3) := by decide +kernel
theorem dX11_compareOf_77 : decode cX11_compareOf 77 = .ok (.bipush 15, 2) := by decide +kernel
theorem dX11_compareOf_79 : decode cX11_compareOf 79 = .ok (.goto 4, 3) := by decide +kernel
theorem dX11_compareOf_82 : decode cX11_compareOf 82 = .ok (.iconst (-1), 1) := by decide +kernel
theorem dX11_compareOf_83 : decode cX11_compareOf 83 = .ok (.ireturn, 1) := by decide +kernel
theorem dX11_betweenOf_0 : decode cX11_betweenOf 0 = .ok (.aload_n 0, 1) := by decide +kernel
theorem dX11_betweenOf_1 : decode cX11_betweenOf 1 = .ok (.getfield 114, 3) := by decide +kernel
theorem dX11_betweenOf_4 : decode cX11_betweenOf 4 = .ok (.bipush 43, 2) := by decide +kernel
theorem dX11_betweenOf_6 : decode cX11_betweenOf 6 = .ok (.if_icmp .ne 6, 3) := by decide +kernel
theorem dX11_betweenOf_9 : decode cX11_betweenOf 9 = .ok (.bipush 6, 2) := by decide +kernel
theorem dX11_betweenOf_11 : decode cX11_betweenOf 11 = .ok (.ireturn, 1) := by decide +kernel
theorem dX11_betweenOf_12 : decode cX11_betweenOf 12 = .ok (.aload_n 0, 1) := by decide +kernel
theorem dX11_betweenOf_13 : decode cX11_betweenOf 13 = .ok (.getfield 114, 3) := by decide +kernel
theorem dX11_betweenOf_16 : decode cX11_betweenOf 16 = .ok (.bipush 45, 2) := by decide +kernel
theorem dX11_betweenOf_18 : decode cX11_betweenOf 18 = .ok (.if_icmp .ne 6, 3) := by decide +kernel
theorem dX11_betweenOf_21 : decode cX11_betweenOf 21 = .ok (.bipush 7, 2) := by decide +kernel
theorem dX11_betweenOf_23 : decode cX11_betweenOf 23 = .ok (.ireturn, 1) := by decide +kernel
theorem dX11_betweenOf_24 : decode cX11_betweenOf 24 = .ok (.aload_n 0, 1) := by decide +kernel
theorem dX11_betweenOf_25 : decode cX11_betweenOf 25 = .ok (.getfield 114, 3) := by decide +kernel
theorem dX11_betweenOf_28 : decode cX11_betweenOf 28 = .ok (.bipush 42, 2) := by decide +kernel
theorem dX11_betweenOf_30 : decode cX11_betweenOf 30 = .ok (.if_icmp .ne 6, 3) := by decide +kernel
theorem dX11_betweenOf_33 : decode cX11_betweenOf 33 = .ok (.bipush 8, 2) := by decide +kernel
theorem dX11_betweenOf_35 : decode cX11_betweenOf 35 = .ok (.ireturn, 1) := by decide +kernel
theorem dX11_betweenOf_36 : decode cX11_betweenOf 36 = .ok (.aload_n 0, 1) := by decide +kernel
theorem dX11_betweenOf_37 : decode cX11_betweenOf 37 = .ok (.getfield 114, 3) := by decide +kernel
theorem dX11_betweenOf_40 : decode cX11_betweenOf 40 = .ok (.bipush 47, 2) := by decide +kernel
theorem dX11_betweenOf_42 : decode cX11_betweenOf 42 = .ok (.if_icmp .ne 6, 3) := by decide +kernel
theorem dX11_betweenOf_45 : decode cX11_betweenOf 45 = .ok (.bipush 9, 2) := by decide +kernel
theorem dX11_betweenOf_47 : decode cX11_betweenOf 47 = .ok (.ireturn, 1) := by decide +kernel
theorem dX11_betweenOf_48 : decode cX11_betweenOf 48 = .ok (.aload_n 0, 1) := by decide +kernel
theorem dX11_betweenOf_49 : decode cX11_betweenOf 49 = .ok (.invokevirtual 182, 3) := by decide +kernel
theorem dX11_betweenOf_52 : decode cX11_betweenOf 52 = .ok (.bipush 41, 2) := by decide +kernel
theorem dX11_betweenOf_54 : decode cX11_betweenOf 54 = .ok (.if_icmp .eq 5, 3) := by decide +kernel
theorem dX11_betweenOf_57 : decode cX11_betweenOf 57 = .ok (.iconst (-1), 1) := by decide +kernel
theorem dX11_betweenOf_58 : decode cX11_betweenOf 58 = .ok (.ireturn, 1) := by decide +kernel
theorem dX11_betweenOf_59 : decode cX11_betweenOf 59 = .ok (.aload_n 0, 1) := by decide +kernel
theorem dX11_betweenOf_60 : decode cX11_betweenOf 60 = .ok (.invokevirtual 211, 3) := by decide +kernel
theorem dX11_betweenOf_63 : decode cX11_betweenOf 63 = .ok (.ifCond .ne 8, 3) := by decide +kernel
theorem dX11_betweenOf_66 : decode cX11_betweenOf 66 = .ok (.aload_n 0, 1) := by decide +kernel
theorem dX11_betweenOf_67 : decode cX11_betweenOf 67 = .ok (.invokevirtual 214, 3) := by decide +kernel
theorem dX11_betweenOf_70 : decode cX11_betweenOf 70 = .ok (.ireturn, 1) := by decide +kernel
theorem dX11_betweenOf_71 : decode cX11_betweenOf 71 = .ok (.aload_n 0, 1) := by decide +kernel
theorem dX11_betweenOf_72 : decode cX11_betweenOf 72 = .ok (.bipush 97, 2) := by decide +kernel
theorem dX11_betweenOf_74 : decode cX11_betweenOf 74 = .ok (.bipush 110, 2) := by decide +kernel
theorem dX11_betweenOf_76 : decode cX11_betweenOf 76 = .ok (.bipush 100, 2) := by decide +kernel
theorem dX11_betweenOf_78 : decode cX11_betweenOf 78 = .ok (.invokestatic 140, 3) := by decide +kernel
theorem dX11_betweenOf_81 : decode cX11_betweenOf 81 = .ok (.invokevirtual 203, 3) := by decide +kernel
theorem dX11_betweenOf_84 : decode cX11_betweenOf 84 = .ok (.ifCond .eq 8, 3) := by decide +kernel
theorem dX11_betweenOf_87 : decode cX11_betweenOf 87 = .ok (.bipush 21, 2) := by decide +kernel
theorem dX11_betweenOf_89 : decode cX11_betweenOf 89 = .ok (.goto 23, 3) := by decide +kernel
theorem dX11_betweenOf_92 : decode cX11_betweenOf 92 = .ok (.aload_n 0, 1) := by decide +kernel
theorem dX11_betweenOf_93 : decode cX11_betweenOf 93 = .ok (.bipush 111, 2) := by decide +kernel
theorem dX11_betweenOf_95 : decode cX11_betweenOf 95 = .ok (.bipush 114, 2) := by decide +kernel
theorem dX11_betweenOf_97 : decode cX11_betweenOf 97 = .ok (.invokestatic 136, 3) := by decide +kernel
theorem dX11_betweenOf_100 : decode cX11_betweenOf 100 = .ok (.invokevirtual 203, 3) := by decide +kernel
theorem dX11_betweenOf_103 : decode cX11_betweenOf 103 = .ok (.ifCond .eq 8, 3) := by decide +kernel
theorem dX11_betweenOf_106 : decode cX11_betweenOf 106 = .ok (.bipush 22, 2) := by decide +kernel
theorem dX11_betweenOf_108 : decode cX11_betweenOf 108 = .ok (.goto 4, 3) := by decide +kernel
theorem dX11_betweenOf_111 : decode cX11_betweenOf 111 = .ok (.iconst (-1), 1) := by decide +kernel
theorem dX11_betweenOf_112 : decode cX11_betweenOf 112 = .ok (.ireturn, 1) := by decide +kernel
theorem dX11_partOf_0 : decode cX11_partOf 0 = .ok (.iload_n 1, 1) := by decide +kernel
theorem dX11_partOf_1 : decode cX11_partOf 1 = .ok (.tableswitch 125 40 43 #[31, 46, 78, 103], 31) := by decide +kernel
theorem dX11_partOf_32 : decode cX11_partOf 32 = .ok (.aload_n 0, 1) := by decide +kernel
theorem dX11_partOf_33 : decode cX11_partOf 33 = .ok (.getfield 114, 3) := by decide +kernel
theorem dX11_partOf_36 : decode cX11_partOf 36 = .ok (.bipush 41, 2) := by decide +kernel
theorem dX11_partOf_38 : decode cX11_partOf 38 = .ok (.if_icmp .ne 7, 3) := by decide +kernel
theorem dX11_partOf_41 : decode cX11_partOf 41 = .ok (.iconst 0, 1) := by decide +kernel
theorem dX11_partOf_42 : decode cX11_partOf 42 = .ok (.goto 4, 3) := by decide +kernel
theorem dX11_partOf_45 : decode cX11_partOf 45 = .ok (.iconst (-1), 1) := by decide +kernel
theorem dX11_partOf_46 : decode cX11_partOf 46 = .ok (.ireturn, 1) := by decide +kernel
theorem dX11_partOf_47 : decode cX11_partOf 47 = .ok (.aload_n 0, 1) := by decide +kernel
theorem dX11_partOf_48 : decode cX11_partOf 48 = .ok (.bipush 116, 2) := by decide +kernel
theorem dX11_partOf_50 : decode cX11_partOf 50 = .ok (.bipush 104, 2) := by decide +kernel
theorem dX11_partOf_52 : decode cX11_partOf 52 = .ok (.bipush 101, 2) := by decide +kernel
theorem dX11_partOf_54 : decode cX11_partOf 54 = .ok (.bipush 110, 2) := by decide +kernel
theorem dX11_partOf_56 : decode cX11_partOf 56 = .ok (.invokestatic 144, 3) := by decide +kernel
theorem dX11_partOf_59 : decode cX11_partOf 59 = .ok (.invokevirtual 203, 3) := by decide +kernel
theorem dX11_partOf_62 : decode cX11_partOf 62 = .ok (.ifCond .eq 15, 3) := by decide +kernel
theorem dX11_partOf_65 : decode cX11_partOf 65 = .ok (.aload_n 0, 1) := by decide +kernel
theorem dX11_partOf_66 : decode cX11_partOf 66 = .ok (.invokevirtual 211, 3) := by decide +kernel
theorem dX11_partOf_69 : decode cX11_partOf 69 = .ok (.ifCond .eq 8, 3) := by decide +kernel
theorem dX11_partOf_72 : decode cX11_partOf 72 = .ok (.bipush 42, 2) := by decide +kernel
theorem dX11_partOf_74 : decode cX11_partOf 74 = .ok (.goto 4, 3) := by decide +kernel
theorem dX11_partOf_77 : decode cX11_partOf 77 = .ok (.iconst (-1), 1) := by decide +kernel
theorem dX11_partOf_78 : decode cX11_partOf 78 = .ok (.ireturn, 1) := by decide +kernel
theorem dX11_partOf_79 : decode cX11_partOf 79 = .ok (.aload_n 0, 1) := by decide +kernel
theorem dX11_partOf_80 : decode cX11_partOf 80 = .ok (.bipush 101, 2) := by decide +kernel
theorem dX11_partOf_82 : decode cX11_partOf 82 = .ok (.bipush 108, 2) := by decide +kernel
theorem dX11_partOf_84 : decode cX11_partOf 84 = .ok (.bipush 115, 2) := by decide +kernel
theorem dX11_partOf_86 : decode cX11_partOf 86 = .ok (.bipush 101, 2) := by decide +kernel
theorem dX11_partOf_88 : decode cX11_partOf 88 = .ok (.invokestatic 144, 3) := by decide +kernel
theorem dX11_partOf_91 : decode cX11_partOf 91 = .ok (.invokevirtual 203, 3) := by decide +kernel
theorem dX11_partOf_94 : decode cX11_partOf 94 = .ok (.ifCond .eq 8, 3) := by decide +kernel
theorem dX11_partOf_97 : decode cX11_partOf 97 = .ok (.bipush 43, 2) := by decide +kernel
theorem dX11_partOf_99 : decode cX11_partOf 99 = .ok (.goto 4, 3) := by decide +kernel
theorem dX11_partOf_102 : decode cX11_partOf 102 = .ok (.iconst (-1), 1) := by decide +kernel
theorem dX11_partOf_103 : decode cX11_partOf 103 = .ok (.ireturn, 1) := by decide +kernel
theorem dX11_partOf_104 : decode cX11_partOf 104 = .ok (.aload_n 0, 1) := by decide +kernel
theorem dX11_partOf_105 : decode cX11_partOf 105 = .ok (.bipush 101, 2) := by decide +kernel
theorem dX11_partOf_107 : decode cX11_partOf 107 = .ok (.bipush 110, 2) := by decide +kernel
theorem dX11_partOf_109 : decode cX11_partOf 109 = .ok (.bipush 100, 2) := by decide +kernel
theorem dX11_partOf_111 : decode cX11_partOf 111 = .ok (.invokestatic 140, 3) := by decide +kernel
theorem dX11_partOf_114 : decode cX11_partOf 114 = .ok (.invokevirtual 203, 3) := by decide +kernel
theorem dX11_partOf_117 : decode cX11_partOf 117 = .ok (.ifCond .eq 7, 3) := by decide +kernel
theorem dX11_partOf_120 : decode cX11_partOf 120 = .ok (.iconst 0, 1) := by decide +kernel
theorem dX11_partOf_121 : decode cX11_partOf 121 = .ok (.goto 4, 3) := by decide +kernel
theorem dX11_partOf_124 : decode cX11_partOf 124 = .ok (.iconst (-1), 1) := by decide +kernel
theorem dX11_partOf_125 : decode cX11_partOf 125 = .ok (.ireturn, 1) := by decide +kernel
theorem dX11_partOf_126 : decode cX11_partOf 126 = .ok (.iconst (-1), 1) := by decide +kernel
theorem dX11_partOf_127 : decode cX11_partOf 127 = .ok (.ireturn, 1) := by decide +kernel
theorem dX11_behindOne_0 : decode cX11_behindOne 0 = .ok (.aload_n 0, 1) := by decide +kernel
theorem dX11_behindOne_1 : decode cX11_behindOne 1 = .ok (.invokevirtual 217, 3) := by decide +kernel
theorem dX11_behindOne_4 : decode cX11_behindOne 4 = .ok (.istore_n 1, 1) := by decide +kernel
theorem dX11_behindOne_5 : decode cX11_behindOne 5 = .ok (.iload_n 1, 1) := by decide +kernel
theorem dX11_behindOne_6 : decode cX11_behindOne 6 = .ok (.ifCond .lt 54, 3) := by decide +kernel
theorem dX11_behindOne_9 : decode cX11_behindOne 9 = .ok (.aload_n 0, 1) := by decide +kernel
theorem dX11_behindOne_10 : decode cX11_behindOne 10 = .ok (.iload_n 1, 1) := by decide +kernel
theorem dX11_behindOne_11 : decode cX11_behindOne 11 = .ok (.invokestatic 168, 3) := by decide +kernel
theorem dX11_behindOne_14 : decode cX11_behindOne 14 = .ok (.iconst 4, 1) := by decide +kernel
theorem dX11_behindOne_15 : decode cX11_behindOne 15 = .ok (.if_icmp .ne 7, 3) := by decide +kernel
theorem dX11_behindOne_18 : decode cX11_behindOne 18 = .ok (.iconst 5, 1) := by decide +kernel
theorem dX11_behindOne_19 : decode cX11_behindOne 19 = .ok (.goto 7, 3) := by decide +kernel
theorem dX11_behindOne_22 : decode cX11_behindOne 22 = .ok (.iload_n 1, 1) := by decide +kernel
theorem dX11_behindOne_23 : decode cX11_behindOne 23 = .ok (.invokestatic 168, 3) := by decide +kernel
theorem dX11_behindOne_26 : decode cX11_behindOne 26 = .ok (.invokevirtual 197, 3) := by decide +kernel
theorem dX11_behindOne_29 : decode cX11_behindOne 29 = .ok (.aload_n 0, 1) := by decide +kernel
theorem dX11_behindOne_30 : decode cX11_behindOne 30 = .ok (.getfield 29, 3) := by decide +kernel
theorem dX11_behindOne_33 : decode cX11_behindOne 33 = .ok (.aload_n 0, 1) := by decide +kernel
theorem dX11_behindOne_34 : decode cX11_behindOne 34 = .ok (.getfield 165, 3) := by decide +kernel
theorem dX11_behindOne_37 : decode cX11_behindOne 37 = .ok (.iload_n 1, 1) := by decide +kernel
theorem dX11_behindOne_38 : decode cX11_behindOne 38 = .ok (.iastore, 1) := by decide +kernel
theorem dX11_behindOne_39 : decode cX11_behindOne 39 = .ok (.aload_n 0, 1) := by decide +kernel
theorem dX11_behindOne_40 : decode cX11_behindOne 40 = .ok (.dup, 1) := by decide +kernel
theorem dX11_behindOne_41 : decode cX11_behindOne 41 = .ok (.getfield 165, 3) := by decide +kernel
theorem dX11_behindOne_44 : decode cX11_behindOne 44 = .ok (.iconst 1, 1) := by decide +kernel
theorem dX11_behindOne_45 : decode cX11_behindOne 45 = .ok (.iadd, 1) := by decide +kernel
theorem dX11_behindOne_46 : decode cX11_behindOne 46 = .ok (.putfield 165, 3) := by decide +kernel
theorem dX11_behindOne_49 : decode cX11_behindOne 49 = .ok (.aload_n 0, 1) := by decide +kernel
theorem dX11_behindOne_50 : decode cX11_behindOne 50 = .ok (.iconst 0, 1) := by decide +kernel
theorem dX11_behindOne_51 : decode cX11_behindOne 51 = .ok (.putfield 194, 3) := by decide +kernel
theorem dX11_behindOne_54 : decode cX11_behindOne 54 = .ok (.aload_n 0, 1) := by decide +kernel
theorem dX11_behindOne_55 : decode cX11_behindOne 55 = .ok (.invokevirtual 185, 3) := by decide +kernel
theorem dX11_behindOne_58 : decode cX11_behindOne 58 = .ok (.iconst 1, 1) := by decide +kernel
theorem dX11_behindOne_59 : decode cX11_behindOne 59 = .ok (.ireturn, 1) := by decide +kernel
theorem dX11_behindOne_60 : decode cX11_behindOne 60 = .ok (.aload_n 0, 1) := by decide +kernel
theorem dX11_behindOne_61 : decode cX11_behindOne 61 = .ok (.invokevirtual 182, 3) := by decide +kernel
theorem dX11_behindOne_64 : decode cX11_behindOne 64 = .ok (.istore_n 2, 1) := by decide +kernel
theorem dX11_behindOne_65 : decode cX11_behindOne 65 = .ok (.aload_n 0, 1) := by decide +kernel
theorem dX11_behindOne_66 : decode cX11_behindOne 66 = .ok (.iload_n 2, 1) := by decide +kernel
theorem dX11_behindOne_67 : decode cX11_behindOne 67 = .ok (.invokevirtual 220, 3) := by decide +kernel
theorem dX11_behindOne_70 : decode cX11_behindOne 70 = .ok (.istore_n 3, 1) := by decide +kernel
theorem dX11_behindOne_71 : decode cX11_behindOne 71 = .ok (.iload_n 3, 1) := by decide +kernel
theorem dX11_behindOne_72 : decode cX11_behindOne 72 = .ok (.ifCond .ge 5, 3) := by decide +kernel
theorem dX11_behindOne_75 : decode cX11_behindOne 75 = .ok (.iconst 0, 1) := by decide +kernel
theorem dX11_behindOne_76 : decode cX11_behindOne 76 = .ok (.ireturn, 1) := by decide +kernel
theorem dX11_behindOne_77 : decode cX11_behindOne 77 = .ok (.aload_n 0, 1) := by decide +kernel
theorem dX11_behindOne_78 : decode cX11_behindOne 78 = .ok (.iconst 1, 1) := by decide +kernel
theorem dX11_behindOne_79 : decode cX11_behindOne 79 = .ok (.invokevirtual 197, 3) := by decide +kernel
theorem dX11_behindOne_82 : decode cX11_behindOne 82 = .ok (.aload_n 0, 1) := by decide +kernel
theorem dX11_behindOne_83 : decode cX11_behindOne 83 = .ok (.invokevirtual 185, 3) := by decide +kernel
theorem dX11_behindOne_86 : decode cX11_behindOne 86 = .ok (.iload_n 3, 1) := by decide +kernel
theorem dX11_behindOne_87 : decode cX11_behindOne 87 = .ok (.ifCond .le 20, 3) := by decide +kernel
theorem dX11_behindOne_90 : decode cX11_behindOne 90 = .ok (.aload_n 0, 1) := by decide +kernel
theorem dX11_behindOne_91 : decode cX11_behindOne 91 = .ok (.getfield 29, 3) := by decide +kernel
theorem dX11_behindOne_94 : decode cX11_behindOne 94 = .ok (.aload_n 0, 1) := by decide +kernel
theorem dX11_behindOne_95 : decode cX11_behindOne 95 = .ok (.invokevirtual 178, 3) := by decide +kernel
theorem dX11_behindOne_98 : decode cX11_behindOne 98 = .ok (.iload_n 3, 1) := by decide +kernel
theorem dX11_behindOne_99 : decode cX11_behindOne 99 = .ok (.iastore, 1) := by decide +kernel
theorem dX11_behindOne_100 : decode cX11_behindOne 100 = .ok (.aload_n 0, 1) := by decide +kernel
theorem dX11_behindOne_101 : decode cX11_behindOne 101 = .ok (.iconst 0, 1) := by decide +kernel
theorem dX11_behindOne_102 : decode cX11_behindOne 102 = .ok (.putfield 194, 3) := by decide +kernel
theorem dX11_behindOne_105 : decode cX11_behindOne 105 = .ok (.iconst 1, 1) := by decide +kernel
theorem dX11_behindOne_106 : decode cX11_behindOne 106 = .ok (.ireturn, 1) := by decide +kernel
theorem dX11_behindOne_107 : decode cX11_behindOne 107 = .ok (.aload_n 0, 1) := by decide +kernel
theorem dX11_behindOne_108 : decode cX11_behindOne 108 = .ok (.dup, 1) := by decide +kernel
theorem dX11_behindOne_109 : decode cX11_behindOne 109 = .ok (.getfield 175, 3) := by decide +kernel
theorem dX11_behindOne_112 : decode cX11_behindOne 112 = .ok (.iconst 1, 1) := by decide +kernel
theorem dX11_behindOne_113 : decode cX11_behindOne 113 = .ok (.isub, 1) := by decide +kernel
theorem dX11_behindOne_114 : decode cX11_behindOne 114 = .ok (.putfield 175, 3) := by decide +kernel
theorem dX11_behindOne_117 : decode cX11_behindOne 117 = .ok (.aload_n 0, 1) := by decide +kernel
theorem dX11_behindOne_118 : decode cX11_behindOne 118 = .ok (.dup, 1) := by decide +kernel
theorem dX11_behindOne_119 : decode cX11_behindOne 119 = .ok (.getfield 165, 3) := by decide +kernel
theorem dX11_behindOne_122 : decode cX11_behindOne 122 = .ok (.iconst 1, 1) := by decide +kernel
theorem dX11_behindOne_123 : decode cX11_behindOne 123 = .ok (.isub, 1) := by decide +kernel
theorem dX11_behindOne_124 : decode cX11_behindOne 124 = .ok (.putfield 165, 3) := by decide +kernel
theorem dX11_behindOne_127 : decode cX11_behindOne 127 = .ok (.iload_n 2, 1) := by decide +kernel
theorem dX11_behindOne_128 : decode cX11_behindOne 128 = .ok (.bipush 43, 2) := by decide +kernel
theorem dX11_behindOne_130 : decode cX11_behindOne 130 = .ok (.if_icmp .ne 9, 3) := by decide +kernel
theorem dX11_behindOne_133 : decode cX11_behindOne 133 = .ok (.aload_n 0, 1) := by decide +kernel
theorem dX11_behindOne_134 : decode cX11_behindOne 134 = .ok (.iconst 3, 1) := by decide +kernel
theorem dX11_behindOne_135 : decode cX11_behindOne 135 = .ok (.iconst 0, 1) := by decide +kernel
theorem dX11_behindOne_136 : decode cX11_behindOne 136 = .ok (.invokevirtual 171, 3) := by decide +kernel
theorem dX11_behindOne_139 : decode cX11_behindOne 139 = .ok (.aload_n 0, 1) := by decide +kernel
theorem dX11_behindOne_140 : decode cX11_behindOne 140 = .ok (.bipush 7, 2) := by decide +kernel
theorem dX11_behindOne_142 : decode cX11_behindOne 142 = .ok (.invokevirtual 197, 3) := by decide +kernel
theorem dX11_behindOne_145 : decode cX11_behindOne 145 = .ok (.iconst 1, 1) := by decide +kernel
theorem dX11_behindOne_146 : decode cX11_behindOne 146 = .ok (.ireturn, 1) := by decide +kernel
theorem dX11_summed_0 : decode cX11_summed 0 = .ok (.aload_n 0, 1) := by decide +kernel
theorem dX11_summed_1 : decode cX11_summed 1 = .ok (.iconst 0, 1) := by decide +kernel
theorem dX11_summed_2 : decode cX11_summed 2 = .ok (.putfield 165, 3) := by decide +kernel
theorem dX11_summed_5 : decode cX11_summed 5 = .ok (.aload_n 0, 1) := by decide +kernel
theorem dX11_summed_6 : decode cX11_summed 6 = .ok (.iconst 0, 1) := by decide +kernel
theorem dX11_summed_7 : decode cX11_summed 7 = .ok (.putfield 175, 3) := by decide +kernel
theorem dX11_summed_10 : decode cX11_summed 10 = .ok (.aload_n 0, 1) := by decide +kernel
theorem dX11_summed_11 : decode cX11_summed 11 = .ok (.iconst 0, 1) := by decide +kernel
theorem dX11_summed_12 : decode cX11_summed 12 = .ok (.putfield 194, 3) := by decide +kernel
theorem dX11_summed_15 : decode cX11_summed 15 = .ok (.aload_n 0, 1) := by decide +kernel
theorem dX11_summed_16 : decode cX11_summed 16 = .ok (.getfield 194, 3) := by decide +kernel
theorem dX11_summed_19 : decode cX11_summed 19 = .ok (.ifCond .eq 29, 3) := by decide +kernel
theorem dX11_summed_22 : decode cX11_summed 22 = .ok (.aload_n 0, 1) := by decide +kernel
theorem dX11_summed_23 : decode cX11_summed 23 = .ok (.invokevirtual 223, 3) := by decide +kernel
theorem dX11_summed_26 : decode cX11_summed 26 = .ok (.ifCond .eq 6, 3) := by decide +kernel
theorem dX11_summed_29 : decode cX11_summed 29 = .ok (.goto (-14), 3) := by decide +kernel
theorem dX11_summed_32 : decode cX11_summed 32 = .ok (.aload_n 0, 1) := by decide +kernel
theorem dX11_summed_33 : decode cX11_summed 33 = .ok (.invokevirtual 182, 3) := by decide +kernel
theorem dX11_summed_36 : decode cX11_summed 36 = .ok (.ifCond .lt 5, 3) := by decide +kernel
theorem dX11_summed_39 : decode cX11_summed 39 = .ok (.iconst 1, 1) := by decide +kernel
theorem dX11_summed_40 : decode cX11_summed 40 = .ok (.ireturn, 1) := by decide +kernel
theorem dX11_summed_41 : decode cX11_summed 41 = .ok (.aload_n 0, 1) := by decide +kernel
theorem dX11_summed_42 : decode cX11_summed 42 = .ok (.iconst 1, 1) := by decide +kernel
theorem dX11_summed_43 : decode cX11_summed 43 = .ok (.invokevirtual 197, 3) := by decide +kernel
theorem dX11_summed_46 : decode cX11_summed 46 = .ok (.iconst 0, 1) := by decide +kernel
theorem dX11_summed_47 : decode cX11_summed 47 = .ok (.ireturn, 1) := by decide +kernel
theorem dX11_summed_48 : decode cX11_summed 48 = .ok (.aload_n 0, 1) := by decide +kernel
theorem dX11_summed_49 : decode cX11_summed 49 = .ok (.invokevirtual 226, 3) := by decide +kernel
theorem dX11_summed_52 : decode cX11_summed 52 = .ok (.istore_n 1, 1) := by decide +kernel
theorem dX11_summed_53 : decode cX11_summed 53 = .ok (.iload_n 1, 1) := by decide +kernel
theorem dX11_summed_54 : decode cX11_summed 54 = .ok (.ifCond .eq 5, 3) := by decide +kernel
theorem dX11_summed_57 : decode cX11_summed 57 = .ok (.iload_n 1, 1) := by decide +kernel
theorem dX11_summed_58 : decode cX11_summed 58 = .ok (.ireturn, 1) := by decide +kernel
theorem dX11_summed_59 : decode cX11_summed 59 = .ok (.goto (-44), 3) := by decide +kernel
theorem dX11_figure_0 : decode cX11_figure 0 = .ok (.aload_n 0, 1) := by decide +kernel
theorem dX11_figure_1 : decode cX11_figure 1 = .ok (.getfield 114, 3) := by decide +kernel
theorem dX11_figure_4 : decode cX11_figure 4 = .ok (.iconst 1, 1) := by decide +kernel
theorem dX11_figure_5 : decode cX11_figure 5 = .ok (.if_icmp .eq 5, 3) := by decide +kernel
theorem dX11_figure_8 : decode cX11_figure 8 = .ok (.iconst 1, 1) := by decide +kernel
theorem dX11_figure_9 : decode cX11_figure 9 = .ok (.ireturn, 1) := by decide +kernel
theorem dX11_figure_10 : decode cX11_figure 10 = .ok (.aload_n 0, 1) := by decide +kernel
theorem dX11_figure_11 : decode cX11_figure 11 = .ok (.getfield 120, 3) := by decide +kernel
theorem dX11_figure_14 : decode cX11_figure 14 = .ok (.iload_n 2, 1) := by decide +kernel
theorem dX11_figure_15 : decode cX11_figure 15 = .ok (.iload_n 3, 1) := by decide +kernel
theorem dX11_figure_16 : decode cX11_figure 16 = .ok (.invokestatic 83, 3) := by decide +kernel
theorem dX11_figure_19 : decode cX11_figure 19 = .ok (.ifCond .ne 5, 3) := by decide +kernel
theorem dX11_figure_22 : decode cX11_figure 22 = .ok (.iconst 2, 1) := by decide +kernel
theorem dX11_figure_23 : decode cX11_figure 23 = .ok (.ireturn, 1) := by decide +kernel
theorem dX11_figure_24 : decode cX11_figure 24 = .ok (.aload_n 0, 1) := by decide +kernel
theorem dX11_figure_25 : decode cX11_figure 25 = .ok (.getfield 16, 3) := by decide +kernel
theorem dX11_figure_28 : decode cX11_figure 28 = .ok (.iload_n 1, 1) := by decide +kernel
theorem dX11_figure_29 : decode cX11_figure 29 = .ok (.aload_n 0, 1) := by decide +kernel
theorem dX11_figure_30 : decode cX11_figure 30 = .ok (.getfield 120, 3) := by decide +kernel
theorem dX11_figure_33 : decode cX11_figure 33 = .ok (.iastore, 1) := by decide +kernel
theorem dX11_figure_34 : decode cX11_figure 34 = .ok (.aload_n 0, 1) := by decide +kernel
theorem dX11_figure_35 : decode cX11_figure 35 = .ok (.invokevirtual 185, 3) := by decide +kernel
theorem dX11_figure_38 : decode cX11_figure 38 = .ok (.iconst 0, 1) := by decide +kernel
theorem dX11_figure_39 : decode cX11_figure 39 = .ok (.ireturn, 1) := by decide +kernel
theorem dX11_lawClause_0 : decode cX11_lawClause 0 = .ok (.aload_n 0, 1) := by decide +kernel
theorem dX11_lawClause_1 : decode cX11_lawClause 1 = .ok (.getfield 16, 3) := by decide +kernel
theorem dX11_lawClause_4 : decode cX11_lawClause 4 = .ok (.iload_n 1, 1) := by decide +kernel
theorem dX11_lawClause_5 : decode cX11_lawClause 5 = .ok (.iconst 1, 1) := by decide +kernel
theorem dX11_lawClause_6 : decode cX11_lawClause 6 = .ok (.iadd, 1) := by decide +kernel
theorem dX11_lawClause_7 : decode cX11_lawClause 7 = .ok (.aload_n 0, 1) := by decide +kernel
theorem dX11_lawClause_8 : decode cX11_lawClause 8 = .ok (.getfield 155, 3) := by decide +kernel
theorem dX11_lawClause_11 : decode cX11_lawClause 11 = .ok (.iastore, 1) := by decide +kernel
theorem dX11_lawClause_12 : decode cX11_lawClause 12 = .ok (.aload_n 0, 1) := by decide +kernel
theorem dX11_lawClause_13 : decode cX11_lawClause 13 = .ok (.invokevirtual 229, 3) := by decide +kernel
theorem dX11_lawClause_16 : decode cX11_lawClause 16 = .ok (.istore_n 2, 1) := by decide +kernel
theorem dX11_lawClause_17 : decode cX11_lawClause 17 = .ok (.aload_n 0, 1) := by decide +kernel
theorem dX11_lawClause_18 : decode cX11_lawClause 18 = .ok (.getfield 16, 3) := by decide +kernel
theorem dX11_lawClause_21 : decode cX11_lawClause 21 = .ok (.iload_n 1, 1) := by decide +kernel
theorem dX11_lawClause_22 : decode cX11_lawClause 22 = .ok (.iconst 2, 1) := by decide +kernel
theorem dX11_lawClause_23 : decode cX11_lawClause 23 = .ok (.iadd, 1) := by decide +kernel
theorem dX11_lawClause_24 : decode cX11_lawClause 24 = .ok (.aload_n 0, 1) := by decide +kernel
theorem dX11_lawClause_25 : decode cX11_lawClause 25 = .ok (.getfield 155, 3) := by decide +kernel
theorem dX11_lawClause_28 : decode cX11_lawClause 28 = .ok (.iastore, 1) := by decide +kernel
theorem dX11_lawClause_29 : decode cX11_lawClause 29 = .ok (.iload_n 2, 1) := by decide +kernel
theorem dX11_lawClause_30 : decode cX11_lawClause 30 = .ok (.ireturn, 1) := by decide +kernel
theorem dX11_joinClause_0 : decode cX11_joinClause 0 = .ok (.aload_n 0, 1) := by decide +kernel
theorem dX11_joinClause_1 : decode cX11_joinClause 1 = .ok (.iload_n 1, 1) := by decide +kernel
theorem dX11_joinClause_2 : decode cX11_joinClause 2 = .ok (.iconst 1, 1) := by decide +kernel
theorem dX11_joinClause_3 : decode cX11_joinClause 3 = .ok (.iadd, 1) := by decide +kernel
theorem dX11_joinClause_4 : decode cX11_joinClause 4 = .ok (.iconst 1, 1) := by decide +kernel
theorem dX11_joinClause_5 : decode cX11_joinClause 5 = .ok (.bipush 8, 2) := by decide +kernel
theorem dX11_joinClause_7 : decode cX11_joinClause 7 = .ok (.invokevirtual 232, 3) := by decide +kernel
theorem dX11_joinClause_10 : decode cX11_joinClause 10 = .ok (.istore_n 2, 1) := by decide +kernel
theorem dX11_joinClause_11 : decode cX11_joinClause 11 = .ok (.iload_n 2, 1) := by decide +kernel
theorem dX11_joinClause_12 : decode cX11_joinClause 12 = .ok (.ifCond .eq 5, 3) := by decide +kernel
theorem dX11_joinClause_15 : decode cX11_joinClause 15 = .ok (.iload_n 2, 1) := by decide +kernel
theorem dX11_joinClause_16 : decode cX11_joinClause 16 = .ok (.ireturn, 1) := by decide +kernel
theorem dX11_joinClause_17 : decode cX11_joinClause 17 = .ok (.aload_n 0, 1) := by decide +kernel
theorem dX11_joinClause_18 : decode cX11_joinClause 18 = .ok (.bipush 97, 2) := by decide +kernel
theorem dX11_joinClause_20 : decode cX11_joinClause 20 = .ok (.bipush 116, 2) := by decide +kernel
theorem dX11_joinClause_22 : decode cX11_joinClause 22 = .ok (.invokestatic 136, 3) := by decide +kernel
theorem dX11_joinClause_25 : decode cX11_joinClause 25 = .ok (.invokevirtual 203, 3) := by decide +kernel
theorem dX11_joinClause_28 : decode cX11_joinClause 28 = .ok (.ifCond .ne 5, 3) := by decide +kernel
theorem dX11_joinClause_31 : decode cX11_joinClause 31 = .ok (.iconst 1, 1) := by decide +kernel
theorem dX11_joinClause_32 : decode cX11_joinClause 32 = .ok (.ireturn, 1) := by decide +kernel
theorem dX11_joinClause_33 : decode cX11_joinClause 33 = .ok (.aload_n 0, 1) := by decide +kernel
theorem dX11_joinClause_34 : decode cX11_joinClause 34 = .ok (.invokevirtual 185, 3) := by decide +kernel
theorem dX11_joinClause_37 : decode cX11_joinClause 37 = .ok (.aload_n 0, 1) := by decide +kernel
theorem dX11_joinClause_38 : decode cX11_joinClause 38 = .ok (.iload_n 1, 1) := by decide +kernel
theorem dX11_joinClause_39 : decode cX11_joinClause 39 = .ok (.iconst 2, 1) := by decide +kernel
theorem dX11_joinClause_40 : decode cX11_joinClause 40 = .ok (.iadd, 1) := by decide +kernel
theorem dX11_joinClause_41 : decode cX11_joinClause 41 = .ok (.iconst 0, 1) := by decide +kernel
theorem dX11_joinClause_42 : decode cX11_joinClause 42 = .ok (.bipush 15, 2) := by decide +kernel
theorem dX11_joinClause_44 : decode cX11_joinClause 44 = .ok (.invokevirtual 232, 3) := by decide +kernel
theorem dX11_joinClause_47 : decode cX11_joinClause 47 = .ok (.ireturn, 1) := by decide +kernel
theorem dX11_body_0 : decode cX11_body 0 = .ok (.iload_n 1, 1) := by decide +kernel
theorem dX11_body_1 : decode cX11_body 1 = .ok (.tableswitch 76 2 6 #[35, 46, 52, 63, 65], 35) := by decide +kernel
theorem dX11_body_36 : decode cX11_body 36 = .ok (.aload_n 0, 1) := by decide +kernel
theorem dX11_body_37 : decode cX11_body 37 = .ok (.iload_n 2, 1) := by decide +kernel
theorem dX11_body_38 : decode cX11_body 38 = .ok (.iconst 1, 1) := by decide +kernel
theorem dX11_body_39 : decode cX11_body 39 = .ok (.iadd, 1) := by decide +kernel
theorem dX11_body_40 : decode cX11_body 40 = .ok (.iconst 1, 1) := by decide +kernel
theorem dX11_body_41 : decode cX11_body 41 = .ok (.bipush 16, 2) := by decide +kernel
theorem dX11_body_43 : decode cX11_body 43 = .ok (.invokevirtual 232, 3) := by decide +kernel
theorem dX11_body_46 : decode cX11_body 46 = .ok (.ireturn, 1) := by decide +kernel
theorem dX11_body_47 : decode cX11_body 47 = .ok (.aload_n 0, 1) := by decide +kernel
theorem dX11_body_48 : decode cX11_body 48 = .ok (.iload_n 2, 1) := by decide +kernel
theorem dX11_body_49 : decode cX11_body 49 = .ok (.invokevirtual 236, 3) := by decide +kernel
theorem dX11_body_52 : decode cX11_body 52 = .ok (.ireturn, 1) := by decide +kernel
theorem dX11_body_53 : decode cX11_body 53 = .ok (.aload_n 0, 1) := by decide +kernel
theorem dX11_body_54 : decode cX11_body 54 = .ok (.iload_n 2, 1) := by decide +kernel
theorem dX11_body_55 : decode cX11_body 55 = .ok (.iconst 1, 1) := by decide +kernel
theorem dX11_body_56 : decode cX11_body 56 = .ok (.iadd, 1) := by decide +kernel
theorem dX11_body_57 : decode cX11_body 57 = .ok (.iconst 1, 1) := by decide +kernel
theorem dX11_body_58 : decode cX11_body 58 = .ok (.bipush 8, 2) := by decide +kernel
theorem dX11_body_60 : decode cX11_body 60 = .ok (.invokevirtual 232, 3) := by decide +kernel
theorem dX11_body_63 : decode cX11_body 63 = .ok (.ireturn, 1) := by decide +kernel
theorem dX11_body_64 : decode cX11_body 64 = .ok (.iconst 0, 1) := by decide +kernel
theorem dX11_body_65 : decode cX11_body 65 = .ok (.ireturn, 1) := by decide +kernel
theorem dX11_body_66 : decode cX11_body 66 = .ok (.aload_n 0, 1) := by decide +kernel
theorem dX11_body_67 : decode cX11_body 67 = .ok (.iload_n 2, 1) := by decide +kernel
theorem dX11_body_68 : decode cX11_body 68 = .ok (.iconst 1, 1) := by decide +kernel
theorem dX11_body_69 : decode cX11_body 69 = .ok (.iadd, 1) := by decide +kernel
theorem dX11_body_70 : decode cX11_body 70 = .ok (.iconst 1, 1) := by decide +kernel
theorem dX11_body_71 : decode cX11_body 71 = .ok (.bipush 60, 2) := by decide +kernel
theorem dX11_body_73 : decode cX11_body 73 = .ok (.invokevirtual 232, 3) := by decide +kernel
theorem dX11_body_76 : decode cX11_body 76 = .ok (.ireturn, 1) := by decide +kernel
theorem dX11_body_77 : decode cX11_body 77 = .ok (.aload_n 0, 1) := by decide +kernel
theorem dX11_body_78 : decode cX11_body 78 = .ok (.iload_n 2, 1) := by decide +kernel
theorem dX11_body_79 : decode cX11_body 79 = .ok (.invokevirtual 239, 3) := by decide +kernel
theorem dX11_body_82 : decode cX11_body 82 = .ok (.ireturn, 1) := by decide +kernel
theorem dX11_sortOf_0 : decode cX11_sortOf 0 = .ok (.aload_n 0, 1) := by decide +kernel
theorem dX11_sortOf_1 : decode cX11_sortOf 1 = .ok (.invokevirtual 242, 3) := by decide +kernel
theorem dX11_sortOf_4 : decode cX11_sortOf 4 = .ok (.ifCond .eq 5, 3) := by decide +kernel
theorem dX11_sortOf_7 : decode cX11_sortOf 7 = .ok (.iconst 0, 1) := by decide +kernel
theorem dX11_sortOf_8 : decode cX11_sortOf 8 = .ok (.ireturn, 1) := by decide +kernel
theorem dX11_sortOf_9 : decode cX11_sortOf 9 = .ok (.aload_n 0, 1) := by decide +kernel
theorem dX11_sortOf_10 : decode cX11_sortOf 10 = .ok (.bipush 116, 2) := by decide +kernel
theorem dX11_sortOf_12 : decode cX11_sortOf 12 = .ok (.bipush 105, 2) := by decide +kernel
theorem dX11_sortOf_14 : decode cX11_sortOf 14 = .ok (.bipush 114, 2) := by decide +kernel
theorem dX11_sortOf_16 : decode cX11_sortOf 16 = .ok (.bipush 101, 2) := by decide +kernel
theorem dX11_sortOf_18 : decode cX11_sortOf 18 = .ok (.bipush 115, 2) := by decide +kernel
theorem dX11_sortOf_20 : decode cX11_sortOf 20 = .ok (.invokestatic 148, 3) := by decide +kernel
theorem dX11_sortOf_23 : decode cX11_sortOf 23 = .ok (.invokevirtual 203, 3) := by decide +kernel
theorem dX11_sortOf_26 : decode cX11_sortOf 26 = .ok (.ifCond .eq 5, 3) := by decide +kernel
theorem dX11_sortOf_29 : decode cX11_sortOf 29 = .ok (.iconst 1, 1) := by decide +kernel
theorem dX11_sortOf_30 : decode cX11_sortOf 30 = .ok (.ireturn, 1) := by decide +kernel
theorem dX11_sortOf_31 : decode cX11_sortOf 31 = .ok (.aload_n 0, 1) := by decide +kernel
theorem dX11_sortOf_32 : decode cX11_sortOf 32 = .ok (.bipush 108, 2) := by decide +kernel
theorem dX11_sortOf_34 : decode cX11_sortOf 34 = .ok (.bipush 111, 2) := by decide +kernel
theorem dX11_sortOf_36 : decode cX11_sortOf 36 = .ok (.bipush 110, 2) := by decide +kernel
theorem dX11_sortOf_38 : decode cX11_sortOf 38 = .ok (.bipush 103, 2) := by decide +kernel
theorem dX11_sortOf_40 : decode cX11_sortOf 40 = .ok (.invokestatic 144, 3) := by decide +kernel
theorem dX11_sortOf_43 : decode cX11_sortOf 43 = .ok (.invokevirtual 203, 3) := by decide +kernel
theorem dX11_sortOf_46 : decode cX11_sortOf 46 = .ok (.ifCond .eq 5, 3) := by decide +kernel
theorem dX11_sortOf_49 : decode cX11_sortOf 49 = .ok (.iconst 2, 1) := by decide +kernel
theorem dX11_sortOf_50 : decode cX11_sortOf 50 = .ok (.ireturn, 1) := by decide +kernel
theorem dX11_sortOf_51 : decode cX11_sortOf 51 = .ok (.aload_n 0, 1) := by decide +kernel
theorem dX11_sortOf_52 : decode cX11_sortOf 52 = .ok (.bipush 106, 2) := by decide +kernel
theorem dX11_sortOf_54 : decode cX11_sortOf 54 = .ok (.bipush 111, 2) := by decide +kernel
theorem dX11_sortOf_56 : decode cX11_sortOf 56 = .ok (.bipush 105, 2) := by decide +kernel
theorem dX11_sortOf_58 : decode cX11_sortOf 58 = .ok (.bipush 110, 2) := by decide +kernel
theorem dX11_sortOf_60 : decode cX11_sortOf 60 = .ok (.invokestatic 144, 3) := by decide +kernel
theorem dX11_sortOf_63 : decode cX11_sortOf 63 = .ok (.invokevirtual 203, 3) := by decide +kernel
theorem dX11_sortOf_66 : decode cX11_sortOf 66 = .ok (.ifCond .eq 5, 3) := by decide +kernel
theorem dX11_sortOf_69 : decode cX11_sortOf 69 = .ok (.iconst 3, 1) := by decide +kernel
theorem dX11_sortOf_70 : decode cX11_sortOf 70 = .ok (.ireturn, 1) := by decide +kernel
theorem dX11_sortOf_71 : decode cX11_sortOf 71 = .ok (.aload_n 0, 1) := by decide +kernel
theorem dX11_sortOf_72 : decode cX11_sortOf 72 = .ok (.bipush 108, 2) := by decide +kernel
theorem dX11_sortOf_74 : decode cX11_sortOf 74 = .ok (.bipush 101, 2) := by decide +kernel
theorem dX11_sortOf_76 : decode cX11_sortOf 76 = .ok (.bipush 97, 2) := by decide +kernel
theorem dX11_sortOf_78 : decode cX11_sortOf 78 = .ok (.bipush 118, 2) := by decide +kernel
theorem dX11_sortOf_80 : decode cX11_sortOf 80 = .ok (.bipush 101, 2) := by decide +kernel
theorem dX11_sortOf_82 : decode cX11_sortOf 82 = .ok (.invokestatic 148, 3) := by decide +kernel
theorem dX11_sortOf_85 : decode cX11_sortOf 85 = .ok (.invokevirtual 203, 3) := by decide +kernel
theorem dX11_sortOf_88 : decode cX11_sortOf 88 = .ok (.ifCond .eq 5, 3) := by decide +kernel
theorem dX11_sortOf_91 : decode cX11_sortOf 91 = .ok (.iconst 4, 1) := by decide +kernel
theorem dX11_sortOf_92 : decode cX11_sortOf 92 = .ok (.ireturn, 1) := by decide +kernel
theorem dX11_sortOf_93 : decode cX11_sortOf 93 = .ok (.aload_n 0, 1) := by decide +kernel
theorem dX11_sortOf_94 : decode cX11_sortOf 94 = .ok (.bipush 116, 2) := by decide +kernel
theorem dX11_sortOf_96 : decode cX11_sortOf 96 = .ok (.bipush 117, 2) := by decide +kernel
theorem dX11_sortOf_98 : decode cX11_sortOf 98 = .ok (.bipush 114, 2) := by decide +kernel
theorem dX11_sortOf_100 : decode cX11_sortOf 100 = .ok (.bipush 110, 2) := by decide +kernel
theorem dX11_sortOf_102 : decode cX11_sortOf 102 = .ok (.invokestatic 144, 3) := by decide +kernel
theorem dX11_sortOf_105 : decode cX11_sortOf 105 = .ok (.invokevirtual 203, 3) := by decide +kernel
theorem dX11_sortOf_108 : decode cX11_sortOf 108 = .ok (.ifCond .eq 7, 3) := by decide +kernel
theorem dX11_sortOf_111 : decode cX11_sortOf 111 = .ok (.iconst 5, 1) := by decide +kernel
theorem dX11_sortOf_112 : decode cX11_sortOf 112 = .ok (.goto 25, 3) := by decide +kernel
theorem dX11_sortOf_115 : decode cX11_sortOf 115 = .ok (.aload_n 0, 1) := by decide +kernel
theorem dX11_sortOf_116 : decode cX11_sortOf 116 = .ok (.bipush 100, 2) := by decide +kernel
theorem dX11_sortOf_118 : decode cX11_sortOf 118 = .ok (.bipush 97, 2) := by decide +kernel
theorem dX11_sortOf_120 : decode cX11_sortOf 120 = .ok (.bipush 121, 2) := by decide +kernel
theorem dX11_sortOf_122 : decode cX11_sortOf 122 = .ok (.invokestatic 140, 3) := by decide +kernel
theorem dX11_sortOf_125 : decode cX11_sortOf 125 = .ok (.invokevirtual 203, 3) := by decide +kernel
theorem dX11_sortOf_128 : decode cX11_sortOf 128 = .ok (.ifCond .eq 8, 3) := by decide +kernel
theorem dX11_sortOf_131 : decode cX11_sortOf 131 = .ok (.bipush 6, 2) := by decide +kernel
theorem dX11_sortOf_133 : decode cX11_sortOf 133 = .ok (.goto 4, 3) := by decide +kernel
theorem dX11_sortOf_136 : decode cX11_sortOf 136 = .ok (.iconst (-1), 1) := by decide +kernel
theorem dX11_sortOf_137 : decode cX11_sortOf 137 = .ok (.ireturn, 1) := by decide +kernel
theorem dX11_clause_0 : decode cX11_clause 0 = .ok (.aload_n 0, 1) := by decide +kernel
theorem dX11_clause_1 : decode cX11_clause 1 = .ok (.invokevirtual 245, 3) := by decide +kernel
theorem dX11_clause_4 : decode cX11_clause 4 = .ok (.istore_n 1, 1) := by decide +kernel
theorem dX11_clause_5 : decode cX11_clause 5 = .ok (.iload_n 1, 1) := by decide +kernel
theorem dX11_clause_6 : decode cX11_clause 6 = .ok (.ifCond .ge 5, 3) := by decide +kernel
theorem dX11_clause_9 : decode cX11_clause 9 = .ok (.iconst 1, 1) := by decide +kernel
theorem dX11_clause_10 : decode cX11_clause 10 = .ok (.ireturn, 1) := by decide +kernel
theorem dX11_clause_11 : decode cX11_clause 11 = .ok (.iload_n 1, 1) := by decide +kernel
theorem dX11_clause_12 : decode cX11_clause 12 = .ok (.iconst 1, 1) := by decide +kernel
theorem dX11_clause_13 : decode cX11_clause 13 = .ok (.if_icmp .gt 16, 3) := by decide +kernel
theorem dX11_clause_16 : decode cX11_clause 16 = .ok (.aload_n 0, 1) := by decide +kernel
theorem dX11_clause_17 : decode cX11_clause 17 = .ok (.getfield 248, 3) := by decide +kernel
theorem dX11_clause_20 : decode cX11_clause 20 = .ok (.iload_n 1, 1) := by decide +kernel
theorem dX11_clause_21 : decode cX11_clause 21 = .ok (.invokestatic 251, 3) := by decide +kernel
theorem dX11_clause_24 : decode cX11_clause 24 = .ok (.ifCond .eq 5, 3) := by decide +kernel
theorem dX11_clause_27 : decode cX11_clause 27 = .ok (.iconst 4, 1) := by decide +kernel
theorem dX11_clause_28 : decode cX11_clause 28 = .ok (.ireturn, 1) := by decide +kernel
theorem dX11_clause_29 : decode cX11_clause 29 = .ok (.aload_n 0, 1) := by decide +kernel
theorem dX11_clause_30 : decode cX11_clause 30 = .ok (.getfield 16, 3) := by decide +kernel
theorem dX11_clause_33 : decode cX11_clause 33 = .ok (.aload_n 0, 1) := by decide +kernel
theorem dX11_clause_34 : decode cX11_clause 34 = .ok (.getfield 152, 3) := by decide +kernel
theorem dX11_clause_37 : decode cX11_clause 37 = .ok (.iaload, 1) := by decide +kernel
theorem dX11_clause_38 : decode cX11_clause 38 = .ok (.istore_n 2, 1) := by decide +kernel
theorem dX11_clause_39 : decode cX11_clause 39 = .ok (.iload_n 2, 1) := by decide +kernel
theorem dX11_clause_40 : decode cX11_clause 40 = .ok (.bipush 24, 2) := by decide +kernel
theorem dX11_clause_42 : decode cX11_clause 42 = .ok (.if_icmp .ne 6, 3) := by decide +kernel
theorem dX11_clause_45 : decode cX11_clause 45 = .ok (.bipush 6, 2) := by decide +kernel
theorem dX11_clause_47 : decode cX11_clause 47 = .ok (.ireturn, 1) := by decide +kernel
theorem dX11_clause_48 : decode cX11_clause 48 = .ok (.iload_n 1, 1) := by decide +kernel
theorem dX11_clause_49 : decode cX11_clause 49 = .ok (.iconst 1, 1) := by decide +kernel
theorem dX11_clause_50 : decode cX11_clause 50 = .ok (.if_icmp .gt 15, 3) := by decide +kernel
theorem dX11_clause_53 : decode cX11_clause 53 = .ok (.aload_n 0, 1) := by decide +kernel
theorem dX11_clause_54 : decode cX11_clause 54 = .ok (.dup, 1) := by decide +kernel
theorem dX11_clause_55 : decode cX11_clause 55 = .ok (.getfield 248, 3) := by decide +kernel
theorem dX11_clause_58 : decode cX11_clause 58 = .ok (.iconst 1, 1) := by decide +kernel
theorem dX11_clause_59 : decode cX11_clause 59 = .ok (.iload_n 1, 1) := by decide +kernel
theorem dX11_clause_60 : decode cX11_clause 60 = .ok (.ishl, 1) := by decide +kernel
theorem dX11_clause_61 : decode cX11_clause 61 = .ok (.ior, 1) := by decide +kernel
theorem dX11_clause_62 : decode cX11_clause 62 = .ok (.putfield 248, 3) := by decide +kernel
theorem dX11_clause_65 : decode cX11_clause 65 = .ok (.aload_n 0, 1) := by decide +kernel
theorem dX11_clause_66 : decode cX11_clause 66 = .ok (.iload_n 1, 1) := by decide +kernel
theorem dX11_clause_67 : decode cX11_clause 67 = .ok (.putfield 162, 3) := by decide +kernel
theorem dX11_clause_70 : decode cX11_clause 70 = .ok (.aload_n 0, 1) := by decide +kernel
theorem dX11_clause_71 : decode cX11_clause 71 = .ok (.invokevirtual 185, 3) := by decide +kernel
theorem dX11_clause_74 : decode cX11_clause 74 = .ok (.aload_n 0, 1) := by decide +kernel
theorem dX11_clause_75 : decode cX11_clause 75 = .ok (.getfield 152, 3) := by decide +kernel
theorem dX11_clause_78 : decode cX11_clause 78 = .ok (.iconst 1, 1) := by decide +kernel
theorem dX11_clause_79 : decode cX11_clause 79 = .ok (.iadd, 1) := by decide +kernel
theorem dX11_clause_80 : decode cX11_clause 80 = .ok (.iconst 3, 1) := by decide +kernel
theorem dX11_clause_81 : decode cX11_clause 81 = .ok (.iload_n 2, 1) := by decide +kernel
theorem dX11_clause_82 : decode cX11_clause 82 = .ok (.imul, 1) := by decide +kernel
theorem dX11_clause_83 : decode cX11_clause 83 = .ok (.iadd, 1) := by decide +kernel
theorem dX11_clause_84 : decode cX11_clause 84 = .ok (.istore_n 3, 1) := by decide +kernel
theorem dX11_clause_85 : decode cX11_clause 85 = .ok (.aload_n 0, 1) := by decide +kernel
theorem dX11_clause_86 : decode cX11_clause 86 = .ok (.getfield 16, 3) := by decide +kernel
theorem dX11_clause_89 : decode cX11_clause 89 = .ok (.iload_n 3, 1) := by decide +kernel
theorem dX11_clause_90 : decode cX11_clause 90 = .ok (.iload_n 1, 1) := by decide +kernel
theorem dX11_clause_91 : decode cX11_clause 91 = .ok (.iastore, 1) := by decide +kernel
theorem dX11_clause_92 : decode cX11_clause 92 = .ok (.aload_n 0, 1) := by decide +kernel
theorem dX11_clause_93 : decode cX11_clause 93 = .ok (.iload_n 1, 1) := by decide +kernel
theorem dX11_clause_94 : decode cX11_clause 94 = .ok (.iload_n 3, 1) := by decide +kernel
theorem dX11_clause_95 : decode cX11_clause 95 = .ok (.invokevirtual 255, 3) := by decide +kernel
theorem dX11_clause_98 : decode cX11_clause 98 = .ok (.istore 4, 2) := by decide +kernel
theorem dX11_clause_100 : decode cX11_clause 100 = .ok (.iload 4, 2) := by decide +kernel
theorem dX11_clause_102 : decode cX11_clause 102 = .ok (.ifCond .eq 6, 3) := by decide +kernel
theorem dX11_clause_105 : decode cX11_clause 105 = .ok (.iload 4, 2) := by decide +kernel
theorem dX11_clause_107 : decode cX11_clause 107 = .ok (.ireturn, 1) := by decide +kernel
theorem dX11_clause_108 : decode cX11_clause 108 = .ok (.aload_n 0, 1) := by decide +kernel
theorem dX11_clause_109 : decode cX11_clause 109 = .ok (.getfield 16, 3) := by decide +kernel
theorem dX11_clause_112 : decode cX11_clause 112 = .ok (.aload_n 0, 1) := by decide +kernel
theorem dX11_clause_113 : decode cX11_clause 113 = .ok (.getfield 152, 3) := by decide +kernel
theorem dX11_clause_116 : decode cX11_clause 116 = .ok (.dup2, 1) := by decide +kernel
theorem dX11_clause_117 : decode cX11_clause 117 = .ok (.iaload, 1) := by decide +kernel
theorem dX11_clause_118 : decode cX11_clause 118 = .ok (.iconst 1, 1) := by decide +kernel
theorem dX11_clause_119 : decode cX11_clause 119 = .ok (.iadd, 1) := by decide +kernel
theorem dX11_clause_120 : decode cX11_clause 120 = .ok (.iastore, 1) := by decide +kernel
theorem dX11_clause_121 : decode cX11_clause 121 = .ok (.aload_n 0, 1) := by decide +kernel
theorem dX11_clause_122 : decode cX11_clause 122 = .ok (.getfield 114, 3) := by decide +kernel
theorem dX11_clause_125 : decode cX11_clause 125 = .ok (.bipush 59, 2) := by decide +kernel
theorem dX11_clause_127 : decode cX11_clause 127 = .ok (.if_icmp .eq 5, 3) := by decide +kernel
theorem dX11_clause_130 : decode cX11_clause 130 = .ok (.iconst 1, 1) := by decide +kernel
theorem dX11_clause_131 : decode cX11_clause 131 = .ok (.ireturn, 1) := by decide +kernel
theorem dX11_clause_132 : decode cX11_clause 132 = .ok (.aload_n 0, 1) := by decide +kernel
theorem dX11_clause_133 : decode cX11_clause 133 = .ok (.invokevirtual 185, 3) := by decide +kernel
theorem dX11_clause_136 : decode cX11_clause 136 = .ok (.iconst 0, 1) := by decide +kernel
theorem dX11_clause_137 : decode cX11_clause 137 = .ok (.ireturn, 1) := by decide +kernel
theorem dX11_readText_0 : decode cX11_readText 0 = .ok (.aload_n 0, 1) := by decide +kernel
theorem dX11_readText_1 : decode cX11_readText 1 = .ok (.sipush 681, 3) := by decide +kernel
theorem dX11_readText_4 : decode cX11_readText 4 = .ok (.aload_n 0, 1) := by decide +kernel
theorem dX11_readText_5 : decode cX11_readText 5 = .ok (.getfield 7, 3) := by decide +kernel
theorem dX11_readText_8 : decode cX11_readText 8 = .ok (.iconst 0, 1) := by decide +kernel
theorem dX11_readText_9 : decode cX11_readText 9 = .ok (.iaload, 1) := by decide +kernel
theorem dX11_readText_10 : decode cX11_readText 10 = .ok (.imul, 1) := by decide +kernel
theorem dX11_readText_11 : decode cX11_readText 11 = .ok (.putfield 152, 3) := by decide +kernel
theorem dX11_readText_14 : decode cX11_readText 14 = .ok (.aload_n 0, 1) := by decide +kernel
theorem dX11_readText_15 : decode cX11_readText 15 = .ok (.getfield 16, 3) := by decide +kernel
theorem dX11_readText_18 : decode cX11_readText 18 = .ok (.aload_n 0, 1) := by decide +kernel
theorem dX11_readText_19 : decode cX11_readText 19 = .ok (.getfield 152, 3) := by decide +kernel
theorem dX11_readText_22 : decode cX11_readText 22 = .ok (.iconst 0, 1) := by decide +kernel
theorem dX11_readText_23 : decode cX11_readText 23 = .ok (.iastore, 1) := by decide +kernel
theorem dX11_readText_24 : decode cX11_readText 24 = .ok (.aload_n 0, 1) := by decide +kernel
theorem dX11_readText_25 : decode cX11_readText 25 = .ok (.iconst 0, 1) := by decide +kernel
theorem dX11_readText_26 : decode cX11_readText 26 = .ok (.putfield 155, 3) := by decide +kernel
theorem dX11_readText_29 : decode cX11_readText 29 = .ok (.aload_n 0, 1) := by decide +kernel
theorem dX11_readText_30 : decode cX11_readText 30 = .ok (.iconst 0, 1) := by decide +kernel
theorem dX11_readText_31 : decode cX11_readText 31 = .ok (.putfield 248, 3) := by decide +kernel
theorem dX11_readText_34 : decode cX11_readText 34 = .ok (.aload_n 0, 1) := by decide +kernel
theorem dX11_readText_35 : decode cX11_readText 35 = .ok (.iconst 0, 1) := by decide +kernel
theorem dX11_readText_36 : decode cX11_readText 36 = .ok (.putfield 105, 3) := by decide +kernel
theorem dX11_readText_39 : decode cX11_readText 39 = .ok (.aload_n 0, 1) := by decide +kernel
theorem dX11_readText_40 : decode cX11_readText 40 = .ok (.invokevirtual 185, 3) := by decide +kernel
theorem dX11_readText_43 : decode cX11_readText 43 = .ok (.aload_n 0, 1) := by decide +kernel
theorem dX11_readText_44 : decode cX11_readText 44 = .ok (.getfield 114, 3) := by decide +kernel
theorem dX11_readText_47 : decode cX11_readText 47 = .ok (.ifCond .eq 17, 3) := by decide +kernel
theorem dX11_readText_50 : decode cX11_readText 50 = .ok (.aload_n 0, 1) := by decide +kernel
theorem dX11_readText_51 : decode cX11_readText 51 = .ok (.invokevirtual 259, 3) := by decide +kernel
theorem dX11_readText_54 : decode cX11_readText 54 = .ok (.istore_n 1, 1) := by decide +kernel
theorem dX11_readText_55 : decode cX11_readText 55 = .ok (.iload_n 1, 1) := by decide +kernel
theorem dX11_readText_56 : decode cX11_readText 56 = .ok (.ifCond .eq 5, 3) := by decide +kernel
theorem dX11_readText_59 : decode cX11_readText 59 = .ok (.iload_n 1, 1) := by decide +kernel
theorem dX11_readText_60 : decode cX11_readText 60 = .ok (.ireturn, 1) := by decide +kernel
theorem dX11_readText_61 : decode cX11_readText 61 = .ok (.goto (-18), 3) := by decide +kernel
theorem dX11_readText_64 : decode cX11_readText 64 = .ok (.iconst 0, 1) := by decide +kernel
theorem dX11_readText_65 : decode cX11_readText 65 = .ok (.ireturn, 1) := by decide +kernel
theorem dX11_text_0 : decode cX11_text 0 = .ok (.aload_n 0, 1) := by decide +kernel
theorem dX11_text_1 : decode cX11_text 1 = .ok (.getfield 7, 3) := by decide +kernel
theorem dX11_text_4 : decode cX11_text 4 = .ok (.iconst 0, 1) := by decide +kernel
theorem dX11_text_5 : decode cX11_text 5 = .ok (.iaload, 1) := by decide +kernel
theorem dX11_text_6 : decode cX11_text 6 = .ok (.iconst 4, 1) := by decide +kernel
theorem dX11_text_7 : decode cX11_text 7 = .ok (.if_icmp .ne 5, 3) := by decide +kernel
theorem dX11_text_10 : decode cX11_text 10 = .ok (.iconst (-1), 1) := by decide +kernel
theorem dX11_text_11 : decode cX11_text 11 = .ok (.ireturn, 1) := by decide +kernel
theorem dX11_text_12 : decode cX11_text 12 = .ok (.aload_n 0, 1) := by decide +kernel
theorem dX11_text_13 : decode cX11_text 13 = .ok (.aload_n 0, 1) := by decide +kernel
theorem dX11_text_14 : decode cX11_text 14 = .ok (.invokevirtual 262, 3) := by decide +kernel
theorem dX11_text_17 : decode cX11_text 17 = .ok (.putfield 22, 3) := by decide +kernel
theorem dX11_text_20 : decode cX11_text 20 = .ok (.aload_n 0, 1) := by decide +kernel
theorem dX11_text_21 : decode cX11_text 21 = .ok (.aload_n 0, 1) := by decide +kernel
theorem dX11_text_22 : decode cX11_text 22 = .ok (.getfield 22, 3) := by decide +kernel
theorem dX11_text_25 : decode cX11_text 25 = .ok (.ifCond .ne 7, 3) := by decide +kernel
theorem dX11_text_28 : decode cX11_text 28 = .ok (.iconst (-1), 1) := by decide +kernel
theorem dX11_text_29 : decode cX11_text 29 = .ok (.goto 7, 3) := by decide +kernel
theorem dX11_text_32 : decode cX11_text 32 = .ok (.aload_n 0, 1) := by decide +kernel
theorem dX11_text_33 : decode cX11_text 33 = .ok (.getfield 111, 3) := by decide +kernel
theorem dX11_text_36 : decode cX11_text 36 = .ok (.putfield 26, 3) := by decide +kernel
theorem dX11_text_39 : decode cX11_text 39 = .ok (.aload_n 0, 1) := by decide +kernel
theorem dX11_text_40 : decode cX11_text 40 = .ok (.iconst 0, 1) := by decide +kernel
theorem dX11_text_41 : decode cX11_text 41 = .ok (.putfield 98, 3) := by decide +kernel
theorem dX11_text_44 : decode cX11_text 44 = .ok (.aload_n 0, 1) := by decide +kernel
theorem dX11_text_45 : decode cX11_text 45 = .ok (.getfield 22, 3) := by decide +kernel
theorem dX11_text_48 : decode cX11_text 48 = .ok (.ifCond .eq 5, 3) := by decide +kernel
theorem dX11_text_51 : decode cX11_text 51 = .ok (.iconst (-1), 1) := by decide +kernel
theorem dX11_text_52 : decode cX11_text 52 = .ok (.ireturn, 1) := by decide +kernel
theorem dX11_text_53 : decode cX11_text 53 = .ok (.aload_n 0, 1) := by decide +kernel
theorem dX11_text_54 : decode cX11_text 54 = .ok (.getfield 7, 3) := by decide +kernel
theorem dX11_text_57 : decode cX11_text 57 = .ok (.iconst 0, 1) := by decide +kernel
theorem dX11_text_58 : decode cX11_text 58 = .ok (.dup2, 1) := by decide +kernel
theorem dX11_text_59 : decode cX11_text 59 = .ok (.iaload, 1) := by decide +kernel
theorem dX11_text_60 : decode cX11_text 60 = .ok (.iconst 1, 1) := by decide +kernel
theorem dX11_text_61 : decode cX11_text 61 = .ok (.iadd, 1) := by decide +kernel
theorem dX11_text_62 : decode cX11_text 62 = .ok (.iastore, 1) := by decide +kernel
theorem dX11_text_63 : decode cX11_text 63 = .ok (.aload_n 0, 1) := by decide +kernel
theorem dX11_text_64 : decode cX11_text 64 = .ok (.getfield 7, 3) := by decide +kernel
theorem dX11_text_67 : decode cX11_text 67 = .ok (.iconst 0, 1) := by decide +kernel
theorem dX11_text_68 : decode cX11_text 68 = .ok (.iaload, 1) := by decide +kernel
theorem dX11_text_69 : decode cX11_text 69 = .ok (.iconst 1, 1) := by decide +kernel
theorem dX11_text_70 : decode cX11_text 70 = .ok (.isub, 1) := by decide +kernel
theorem dX11_text_71 : decode cX11_text 71 = .ok (.ireturn, 1) := by decide +kernel
theorem dX11_fault_0 : decode cX11_fault 0 = .ok (.iload_n 1, 1) := by decide +kernel
theorem dX11_fault_1 : decode cX11_fault 1 = .ok (.ifCond .ne 10, 3) := by decide +kernel
theorem dX11_fault_4 : decode cX11_fault 4 = .ok (.aload_n 0, 1) := by decide +kernel
theorem dX11_fault_5 : decode cX11_fault 5 = .ok (.getfield 22, 3) := by decide +kernel
theorem dX11_fault_8 : decode cX11_fault 8 = .ok (.goto 16, 3) := by decide +kernel
theorem dX11_fault_11 : decode cX11_fault 11 = .ok (.iload_n 1, 1) := by decide +kernel
theorem dX11_fault_12 : decode cX11_fault 12 = .ok (.iconst 1, 1) := by decide +kernel
theorem dX11_fault_13 : decode cX11_fault 13 = .ok (.if_icmp .ne 10, 3) := by decide +kernel
theorem dX11_fault_16 : decode cX11_fault 16 = .ok (.aload_n 0, 1) := by decide +kernel
theorem dX11_fault_17 : decode cX11_fault 17 = .ok (.getfield 26, 3) := by decide +kernel
theorem dX11_fault_20 : decode cX11_fault 20 = .ok (.goto 4, 3) := by decide +kernel
theorem dX11_fault_23 : decode cX11_fault 23 = .ok (.iconst (-1), 1) := by decide +kernel
theorem dX11_fault_24 : decode cX11_fault 24 = .ok (.ireturn, 1) := by decide +kernel
theorem dX11_by_0 : decode cX11_by 0 = .ok (.iload_n 1, 1) := by decide +kernel
theorem dX11_by_1 : decode cX11_by 1 = .ok (.iconst (-1), 1) := by decide +kernel
theorem dX11_by_2 : decode cX11_by 2 = .ok (.aload_n 0, 1) := by decide +kernel
theorem dX11_by_3 : decode cX11_by 3 = .ok (.getfield 7, 3) := by decide +kernel
theorem dX11_by_6 : decode cX11_by 6 = .ok (.iconst 0, 1) := by decide +kernel
theorem dX11_by_7 : decode cX11_by 7 = .ok (.iaload, 1) := by decide +kernel
theorem dX11_by_8 : decode cX11_by 8 = .ok (.iconst 1, 1) := by decide +kernel
theorem dX11_by_9 : decode cX11_by 9 = .ok (.isub, 1) := by decide +kernel
theorem dX11_by_10 : decode cX11_by 10 = .ok (.invokestatic 83, 3) := by decide +kernel
theorem dX11_by_13 : decode cX11_by 13 = .ok (.ifCond .ne 5, 3) := by decide +kernel
theorem dX11_by_16 : decode cX11_by 16 = .ok (.iconst 0, 1) := by decide +kernel
theorem dX11_by_17 : decode cX11_by 17 = .ok (.ireturn, 1) := by decide +kernel
theorem dX11_by_18 : decode cX11_by 18 = .ok (.aload_n 0, 1) := by decide +kernel
theorem dX11_by_19 : decode cX11_by 19 = .ok (.getfield 7, 3) := by decide +kernel
theorem dX11_by_22 : decode cX11_by 22 = .ok (.iconst 1, 1) := by decide +kernel
theorem dX11_by_23 : decode cX11_by 23 = .ok (.iload_n 1, 1) := by decide +kernel
theorem dX11_by_24 : decode cX11_by 24 = .ok (.iastore, 1) := by decide +kernel
theorem dX11_by_25 : decode cX11_by 25 = .ok (.iconst 1, 1) := by decide +kernel
theorem dX11_by_26 : decode cX11_by 26 = .ok (.ireturn, 1) := by decide +kernel
theorem dX11_clip_0 : decode cX11_clip 0 = .ok (.lload_n 0, 1) := by decide +kernel
theorem dX11_clip_1 : decode cX11_clip 1 = .ok (.ldc2_w 265, 3) := by decide +kernel
theorem dX11_clip_4 : decode cX11_clip 4 = .ok (.lcmp, 1) := by decide +kernel
theorem dX11_clip_5 : decode cX11_clip 5 = .ok (.ifCond .le 9, 3) := by decide +kernel
theorem dX11_clip_8 : decode cX11_clip 8 = .ok (.ldc2_w 265, 3) := by decide +kernel
theorem dX11_clip_11 : decode cX11_clip 11 = .ok (.goto 18, 3) := by decide +kernel
theorem dX11_clip_14 : decode cX11_clip 14 = .ok (.lload_n 0, 1) := by decide +kernel
theorem dX11_clip_15 : decode cX11_clip 15 = .ok (.ldc2_w 267, 3) := by decide +kernel
theorem dX11_clip_18 : decode cX11_clip 18 = .ok (.lcmp, 1) := by decide +kernel
theorem dX11_clip_19 : decode cX11_clip 19 = .ok (.ifCond .ge 9, 3) := by decide +kernel
theorem dX11_clip_22 : decode cX11_clip 22 = .ok (.ldc2_w 267, 3) := by decide +kernel
theorem dX11_clip_25 : decode cX11_clip 25 = .ok (.goto 4, 3) := by decide +kernel
theorem dX11_clip_28 : decode cX11_clip 28 = .ok (.lload_n 0, 1) := by decide +kernel
theorem dX11_clip_29 : decode cX11_clip 29 = .ok (.lreturn, 1) := by decide +kernel
theorem dX11_two_0 : decode cX11_two 0 = .ok (.iload_n 0, 1) := by decide +kernel
theorem dX11_two_1 : decode cX11_two 1 = .ok (.tableswitch 48 6 8 #[27, 34, 41], 27) := by decide +kernel
theorem dX11_two_28 : decode cX11_two 28 = .ok (.lload_n 1, 1) := by decide +kernel
theorem dX11_two_29 : decode cX11_two 29 = .ok (.lload_n 3, 1) := by decide +kernel
theorem dX11_two_30 : decode cX11_two 30 = .ok (.ladd, 1) := by decide +kernel
theorem dX11_two_31 : decode cX11_two 31 = .ok (.invokestatic 269, 3) := by decide +kernel
theorem dX11_two_34 : decode cX11_two 34 = .ok (.lreturn, 1) := by decide +kernel
theorem dX11_two_35 : decode cX11_two 35 = .ok (.lload_n 1, 1) := by decide +kernel
theorem dX11_two_36 : decode cX11_two 36 = .ok (.lload_n 3, 1) := by decide +kernel
theorem dX11_two_37 : decode cX11_two 37 = .ok (.lsub, 1) := by decide +kernel
theorem dX11_two_38 : decode cX11_two 38 = .ok (.invokestatic 269, 3) := by decide +kernel
theorem dX11_two_41 : decode cX11_two 41 = .ok (.lreturn, 1) := by decide +kernel
theorem dX11_two_42 : decode cX11_two 42 = .ok (.lload_n 1, 1) := by decide +kernel
theorem dX11_two_43 : decode cX11_two 43 = .ok (.lload_n 3, 1) := by decide +kernel
theorem dX11_two_44 : decode cX11_two 44 = .ok (.lmul, 1) := by decide +kernel
theorem dX11_two_45 : decode cX11_two 45 = .ok (.invokestatic 269, 3) := by decide +kernel
theorem dX11_two_48 : decode cX11_two 48 = .ok (.lreturn, 1) := by decide +kernel
theorem dX11_two_49 : decode cX11_two 49 = .ok (.lload_n 3, 1) := by decide +kernel
theorem dX11_two_50 : decode cX11_two 50 = .ok (.lconst 0, 1) := by decide +kernel
theorem dX11_two_51 : decode cX11_two 51 = .ok (.lcmp, 1) := by decide +kernel
theorem dX11_two_52 : decode cX11_two 52 = .ok (.ifCond .ne 7, 3) := by decide +kernel
theorem dX11_two_55 : decode cX11_two 55 = .ok (.lconst 0, 1) := by decide +kernel
theorem dX11_two_56 : decode cX11_two 56 = .ok (.goto 9, 3) := by decide +kernel
theorem dX11_two_59 : decode cX11_two 59 = .ok (.lload_n 1, 1) := by decide +kernel
theorem dX11_two_60 : decode cX11_two 60 = .ok (.lload_n 3, 1) := by decide +kernel
theorem dX11_two_61 : decode cX11_two 61 = .ok (.ldiv, 1) := by decide +kernel
theorem dX11_two_62 : decode cX11_two 62 = .ok (.invokestatic 269, 3) := by decide +kernel
theorem dX11_two_65 : decode cX11_two 65 = .ok (.lreturn, 1) := by decide +kernel
theorem dX11_isAsked_0 : decode cX11_isAsked 0 = .ok (.iload_n 0, 1) := by decide +kernel
theorem dX11_isAsked_1 : decode cX11_isAsked 1 = .ok (.bipush 10, 2) := by decide +kernel
theorem dX11_isAsked_3 : decode cX11_isAsked 3 = .ok (.if_icmp .ne 17, 3) := by decide +kernel
theorem dX11_isAsked_6 : decode cX11_isAsked 6 = .ok (.lload_n 1, 1) := by decide +kernel
theorem dX11_isAsked_7 : decode cX11_isAsked 7 = .ok (.lload_n 3, 1) := by decide +kernel
theorem dX11_isAsked_8 : decode cX11_isAsked 8 = .ok (.lcmp, 1) := by decide +kernel
theorem dX11_isAsked_9 : decode cX11_isAsked 9 = .ok (.ifCond .ge 7, 3) := by decide +kernel
theorem dX11_isAsked_12 : decode cX11_isAsked 12 = .ok (.iconst 1, 1) := by decide +kernel
theorem dX11_isAsked_13 : decode cX11_isAsked 13 = .ok (.goto 98, 3) := by decide +kernel
theorem dX11_isAsked_16 : decode cX11_isAsked 16 = .ok (.iconst 0, 1) := by decide +kernel
theorem dX11_isAsked_17 : decode cX11_isAsked 17 = .ok (.goto 94, 3) := by decide +kernel
theorem dX11_isAsked_20 : decode cX11_isAsked 20 = .ok (.iload_n 0, 1) := by decide +kernel
theorem dX11_isAsked_21 : decode cX11_isAsked 21 = .ok (.bipush 11, 2) := by decide +kernel
theorem dX11_isAsked_23 : decode cX11_isAsked 23 = .ok (.if_icmp .ne 17, 3) := by decide +kernel
theorem dX11_isAsked_26 : decode cX11_isAsked 26 = .ok (.lload_n 1, 1) := by decide +kernel
theorem dX11_isAsked_27 : decode cX11_isAsked 27 = .ok (.lload_n 3, 1) := by decide +kernel
theorem dX11_isAsked_28 : decode cX11_isAsked 28 = .ok (.lcmp, 1) := by decide +kernel
theorem dX11_isAsked_29 : decode cX11_isAsked 29 = .ok (.ifCond .gt 7, 3) := by decide +kernel
theorem dX11_isAsked_32 : decode cX11_isAsked 32 = .ok (.iconst 1, 1) := by decide +kernel
theorem dX11_isAsked_33 : decode cX11_isAsked 33 = .ok (.goto 78, 3) := by decide +kernel
theorem dX11_isAsked_36 : decode cX11_isAsked 36 = .ok (.iconst 0, 1) := by decide +kernel
theorem dX11_isAsked_37 : decode cX11_isAsked 37 = .ok (.goto 74, 3) := by decide +kernel
theorem dX11_isAsked_40 : decode cX11_isAsked 40 = .ok (.iload_n 0, 1) := by decide +kernel
theorem dX11_isAsked_41 : decode cX11_isAsked 41 = .ok (.bipush 12, 2) := by decide +kernel
theorem dX11_isAsked_43 : decode cX11_isAsked 43 = .ok (.if_icmp .ne 17, 3) := by decide +kernel
theorem dX11_isAsked_46 : decode cX11_isAsked 46 = .ok (.lload_n 1, 1) := by decide +kernel
theorem dX11_isAsked_47 : decode cX11_isAsked 47 = .ok (.lload_n 3, 1) := by decide +kernel
theorem dX11_isAsked_48 : decode cX11_isAsked 48 = .ok (.lcmp, 1) := by decide +kernel
theorem dX11_isAsked_49 : decode cX11_isAsked 49 = .ok (.ifCond .le 7, 3) := by decide +kernel
theorem dX11_isAsked_52 : decode cX11_isAsked 52 = .ok (.iconst 1, 1) := by decide +kernel
theorem dX11_isAsked_53 : decode cX11_isAsked 53 = .ok (.goto 58, 3) := by decide +kernel
theorem dX11_isAsked_56 : decode cX11_isAsked 56 = .ok (.iconst 0, 1) := by decide +kernel
theorem dX11_isAsked_57 : decode cX11_isAsked 57 = .ok (.goto 54, 3) := by decide +kernel
theorem dX11_isAsked_60 : decode cX11_isAsked 60 = .ok (.iload_n 0, 1) := by decide +kernel
theorem dX11_isAsked_61 : decode cX11_isAsked 61 = .ok (.bipush 13, 2) := by decide +kernel
theorem dX11_isAsked_63 : decode cX11_isAsked 63 = .ok (.if_icmp .ne 17, 3) := by decide +kernel
theorem dX11_isAsked_66 : decode cX11_isAsked 66 = .ok (.lload_n 1, 1) := by decide +kernel
theorem dX11_isAsked_67 : decode cX11_isAsked 67 = .ok (.lload_n 3, 1) := by decide +kernel
theorem dX11_isAsked_68 : decode cX11_isAsked 68 = .ok (.lcmp, 1) := by decide +kernel
theorem dX11_isAsked_69 : decode cX11_isAsked 69 = .ok (.ifCond .lt 7, 3) := by decide +kernel
theorem dX11_isAsked_72 : decode cX11_isAsked 72 = .ok (.iconst 1, 1) := by decide +kernel
theorem dX11_isAsked_73 : decode cX11_isAsked 73 = .ok (.goto 38, 3) := by decide +kernel
theorem dX11_isAsked_76 : decode cX11_isAsked 76 = .ok (.iconst 0, 1) := by decide +kernel
theorem dX11_isAsked_77 : decode cX11_isAsked 77 = .ok (.goto 34, 3) := by decide +kernel
theorem dX11_isAsked_80 : decode cX11_isAsked 80 = .ok (.iload_n 0, 1) := by decide +kernel
theorem dX11_isAsked_81 : decode cX11_isAsked 81 = .ok (.bipush 14, 2) := by decide +kernel
theorem dX11_isAsked_83 : decode cX11_isAsked 83 = .ok (.if_icmp .ne 17, 3) := by decide +kernel
theorem dX11_isAsked_86 : decode cX11_isAsked 86 = .ok (.lload_n 1, 1) := by decide +kernel
theorem dX11_isAsked_87 : decode cX11_isAsked 87 = .ok (.lload_n 3, 1) := by decide +kernel
theorem dX11_isAsked_88 : decode cX11_isAsked 88 = .ok (.lcmp, 1) := by decide +kernel
theorem dX11_isAsked_89 : decode cX11_isAsked 89 = .ok (.ifCond .ne 7, 3) := by decide +kernel
theorem dX11_isAsked_92 : decode cX11_isAsked 92 = .ok (.iconst 1, 1) := by decide +kernel
theorem dX11_isAsked_93 : decode cX11_isAsked 93 = .ok (.goto 18, 3) := by decide +kernel
theorem dX11_isAsked_96 : decode cX11_isAsked 96 = .ok (.iconst 0, 1) := by decide +kernel
theorem dX11_isAsked_97 : decode cX11_isAsked 97 = .ok (.goto 14, 3) := by decide +kernel
theorem dX11_isAsked_100 : decode cX11_isAsked 100 = .ok (.lload_n 1, 1) := by decide +kernel
theorem dX11_isAsked_101 : decode cX11_isAsked 101 = .ok (.lload_n 3, 1) := by decide +kernel
theorem dX11_isAsked_102 : decode cX11_isAsked 102 = .ok (.lcmp, 1) := by decide +kernel
theorem dX11_isAsked_103 : decode cX11_isAsked 103 = .ok (.ifCond .eq 7, 3) := by decide +kernel
theorem dX11_isAsked_106 : decode cX11_isAsked 106 = .ok (.iconst 1, 1) := by decide +kernel
theorem dX11_isAsked_107 : decode cX11_isAsked 107 = .ok (.goto 4, 3) := by decide +kernel
theorem dX11_isAsked_110 : decode cX11_isAsked 110 = .ok (.iconst 0, 1) := by decide +kernel
theorem dX11_isAsked_111 : decode cX11_isAsked 111 = .ok (.ireturn, 1) := by decide +kernel
theorem dX11_ofOne_0 : decode cX11_ofOne 0 = .ok (.iload_n 1, 1) := by decide +kernel
theorem dX11_ofOne_1 : decode cX11_ofOne 1 = .ok (.iconst 5, 1) := by decide +kernel
theorem dX11_ofOne_2 : decode cX11_ofOne 2 = .ok (.if_icmp .ne 6, 3) := by decide +kernel
theorem dX11_ofOne_5 : decode cX11_ofOne 5 = .ok (.lload_n 2, 1) := by decide +kernel
theorem dX11_ofOne_6 : decode cX11_ofOne 6 = .ok (.lneg, 1) := by decide +kernel
theorem dX11_ofOne_7 : decode cX11_ofOne 7 = .ok (.lreturn, 1) := by decide +kernel
theorem dX11_ofOne_8 : decode cX11_ofOne 8 = .ok (.iload_n 1, 1) := by decide +kernel
theorem dX11_ofOne_9 : decode cX11_ofOne 9 = .ok (.iconst 2, 1) := by decide +kernel
theorem dX11_ofOne_10 : decode cX11_ofOne 10 = .ok (.if_icmp .ne 34, 3) := by decide +kernel
theorem dX11_ofOne_13 : decode cX11_ofOne 13 = .ok (.lload_n 2, 1) := by decide +kernel
theorem dX11_ofOne_14 : decode cX11_ofOne 14 = .ok (.lconst 1, 1) := by decide +kernel
theorem dX11_ofOne_15 : decode cX11_ofOne 15 = .ok (.lcmp, 1) := by decide +kernel
theorem dX11_ofOne_16 : decode cX11_ofOne 16 = .ok (.ifCond .lt 26, 3) := by decide +kernel
theorem dX11_ofOne_19 : decode cX11_ofOne 19 = .ok (.lload_n 2, 1) := by decide +kernel
theorem dX11_ofOne_20 : decode cX11_ofOne 20 = .ok (.ldc2_w 273, 3) := by decide +kernel
theorem dX11_ofOne_23 : decode cX11_ofOne 23 = .ok (.lcmp, 1) := by decide +kernel
theorem dX11_ofOne_24 : decode cX11_ofOne 24 = .ok (.ifCond .gt 18, 3) := by decide +kernel
theorem dX11_ofOne_27 : decode cX11_ofOne 27 = .ok (.aload_n 0, 1) := by decide +kernel
theorem dX11_ofOne_28 : decode cX11_ofOne 28 = .ok (.lload_n 2, 1) := by decide +kernel
theorem dX11_ofOne_29 : decode cX11_ofOne 29 = .ok (.l2i, 1) := by decide +kernel
theorem dX11_ofOne_30 : decode cX11_ofOne 30 = .ok (.iconst 1, 1) := by decide +kernel
theorem dX11_ofOne_31 : decode cX11_ofOne 31 = .ok (.isub, 1) := by decide +kernel
theorem dX11_ofOne_32 : decode cX11_ofOne 32 = .ok (.invokevirtual 91, 3) := by decide +kernel
theorem dX11_ofOne_35 : decode cX11_ofOne 35 = .ok (.ifCond .eq 7, 3) := by decide +kernel
theorem dX11_ofOne_38 : decode cX11_ofOne 38 = .ok (.lconst 1, 1) := by decide +kernel
theorem dX11_ofOne_39 : decode cX11_ofOne 39 = .ok (.goto 4, 3) := by decide +kernel
theorem dX11_ofOne_42 : decode cX11_ofOne 42 = .ok (.lconst 0, 1) := by decide +kernel
theorem dX11_ofOne_43 : decode cX11_ofOne 43 = .ok (.lreturn, 1) := by decide +kernel
theorem dX11_ofOne_44 : decode cX11_ofOne 44 = .ok (.lload_n 2, 1) := by decide +kernel
theorem dX11_ofOne_45 : decode cX11_ofOne 45 = .ok (.lconst 0, 1) := by decide +kernel
theorem dX11_ofOne_46 : decode cX11_ofOne 46 = .ok (.lcmp, 1) := by decide +kernel
theorem dX11_ofOne_47 : decode cX11_ofOne 47 = .ok (.ifCond .lt 32, 3) := by decide +kernel
theorem dX11_ofOne_50 : decode cX11_ofOne 50 = .ok (.lload_n 2, 1) := by decide +kernel
theorem dX11_ofOne_51 : decode cX11_ofOne 51 = .ok (.aload_n 0, 1) := by decide +kernel
theorem dX11_ofOne_52 : decode cX11_ofOne 52 = .ok (.getfield 7, 3) := by decide +kernel
theorem dX11_ofOne_55 : decode cX11_ofOne 55 = .ok (.bipush 7, 2) := by decide +kernel
theorem dX11_ofOne_57 : decode cX11_ofOne 57 = .ok (.iaload, 1) := by decide +kernel
theorem dX11_ofOne_58 : decode cX11_ofOne 58 = .ok (.i2l, 1) := by decide +kernel
theorem dX11_ofOne_59 : decode cX11_ofOne 59 = .ok (.lcmp, 1) := by decide +kernel
theorem dX11_ofOne_60 : decode cX11_ofOne 60 = .ok (.ifCond .ge 19, 3) := by decide +kernel
theorem dX11_ofOne_63 : decode cX11_ofOne 63 = .ok (.aload_n 0, 1) := by decide +kernel
theorem dX11_ofOne_64 : decode cX11_ofOne 64 = .ok (.invokevirtual 275, 3) := by decide +kernel
theorem dX11_ofOne_67 : decode cX11_ofOne 67 = .ok (.lload_n 2, 1) := by decide +kernel
theorem dX11_ofOne_68 : decode cX11_ofOne 68 = .ok (.l2i, 1) := by decide +kernel
theorem dX11_ofOne_69 : decode cX11_ofOne 69 = .ok (.invokestatic 251, 3) := by decide +kernel
theorem dX11_ofOne_72 : decode cX11_ofOne 72 = .ok (.ifCond .ne 7, 3) := by decide +kernel
theorem dX11_ofOne_75 : decode cX11_ofOne 75 = .ok (.lconst 1, 1) := by decide +kernel
theorem dX11_ofOne_76 : decode cX11_ofOne 76 = .ok (.goto 4, 3) := by decide +kernel
theorem dX11_ofOne_79 : decode cX11_ofOne 79 = .ok (.lconst 0, 1) := by decide +kernel
theorem dX11_ofOne_80 : decode cX11_ofOne 80 = .ok (.lreturn, 1) := by decide +kernel
theorem dX11_joined_0 : decode cX11_joined 0 = .ok (.iload_n 0, 1) := by decide +kernel
theorem dX11_joined_1 : decode cX11_joined 1 = .ok (.bipush 21, 2) := by decide +kernel
theorem dX11_joined_3 : decode cX11_joined 3 = .ok (.if_icmp .ne 19, 3) := by decide +kernel
theorem dX11_joined_6 : decode cX11_joined 6 = .ok (.iload_n 1, 1) := by decide +kernel
theorem dX11_joined_7 : decode cX11_joined 7 = .ok (.ifCond .eq 11, 3) := by decide +kernel
theorem dX11_joined_10 : decode cX11_joined 10 = .ok (.iload_n 2, 1) := by decide +kernel
theorem dX11_joined_11 : decode cX11_joined 11 = .ok (.ifCond .eq 7, 3) := by decide +kernel
theorem dX11_joined_14 : decode cX11_joined 14 = .ok (.iconst 1, 1) := by decide +kernel
theorem dX11_joined_15 : decode cX11_joined 15 = .ok (.goto 20, 3) := by decide +kernel
theorem dX11_joined_18 : decode cX11_joined 18 = .ok (.iconst 0, 1) := by decide +kernel
theorem dX11_joined_19 : decode cX11_joined 19 = .ok (.goto 16, 3) := by decide +kernel
theorem dX11_joined_22 : decode cX11_joined 22 = .ok (.iload_n 1, 1) := by decide +kernel
theorem dX11_joined_23 : decode cX11_joined 23 = .ok (.ifCond .ne 7, 3) := by decide +kernel
theorem dX11_joined_26 : decode cX11_joined 26 = .ok (.iload_n 2, 1) := by decide +kernel
theorem dX11_joined_27 : decode cX11_joined 27 = .ok (.ifCond .eq 7, 3) := by decide +kernel
theorem dX11_joined_30 : decode cX11_joined 30 = .ok (.iconst 1, 1) := by decide +kernel
theorem dX11_joined_31 : decode cX11_joined 31 = .ok (.goto 4, 3) := by decide +kernel
theorem dX11_joined_34 : decode cX11_joined 34 = .ok (.iconst 0, 1) := by decide +kernel
theorem dX11_joined_35 : decode cX11_joined 35 = .ok (.ireturn, 1) := by decide +kernel
theorem dX11_summedUp_0 : decode cX11_summedUp 0 = .ok (.sipush 681, 3) := by decide +kernel
theorem dX11_summedUp_3 : decode cX11_summedUp 3 = .ok (.iload_n 1, 1) := by decide +kernel
theorem dX11_summedUp_4 : decode cX11_summedUp 4 = .ok (.imul, 1) := by decide +kernel
theorem dX11_summedUp_5 : decode cX11_summedUp 5 = .ok (.iconst 1, 1) := by decide +kernel
theorem dX11_summedUp_6 : decode cX11_summedUp 6 = .ok (.iadd, 1) := by decide +kernel
theorem dX11_summedUp_7 : decode cX11_summedUp 7 = .ok (.iconst 3, 1) := by decide +kernel
theorem dX11_summedUp_8 : decode cX11_summedUp 8 = .ok (.iload_n 2, 1) := by decide +kernel
theorem dX11_summedUp_9 : decode cX11_summedUp 9 = .ok (.imul, 1) := by decide +kernel
theorem dX11_summedUp_10 : decode cX11_summedUp 10 = .ok (.iadd, 1) := by decide +kernel
theorem dX11_summedUp_11 : decode cX11_summedUp 11 = .ok (.istore_n 3, 1) := by decide +kernel
theorem dX11_summedUp_12 : decode cX11_summedUp 12 = .ok (.sipush 681, 3) := by decide +kernel
theorem dX11_summedUp_15 : decode cX11_summedUp 15 = .ok (.iload_n 1, 1) := by decide +kernel
theorem dX11_summedUp_16 : decode cX11_summedUp 16 = .ok (.imul, 1) := by decide +kernel
theorem dX11_summedUp_17 : decode cX11_summedUp 17 = .ok (.bipush 73, 2) := by decide +kernel
theorem dX11_summedUp_19 : decode cX11_summedUp 19 = .ok (.iadd, 1) := by decide +kernel
theorem dX11_summedUp_20 : decode cX11_summedUp 20 = .ok (.istore 4, 2) := by decide +kernel
theorem dX11_summedUp_22 : decode cX11_summedUp 22 = .ok (.iconst 0, 1) := by decide +kernel
theorem dX11_summedUp_23 : decode cX11_summedUp 23 = .ok (.istore 5, 2) := by decide +kernel
theorem dX11_summedUp_25 : decode cX11_summedUp 25 = .ok (.iconst 0, 1) := by decide +kernel
theorem dX11_summedUp_26 : decode cX11_summedUp 26 = .ok (.istore 6, 2) := by decide +kernel
theorem dX11_summedUp_28 : decode cX11_summedUp 28 = .ok (.aload_n 0, 1) := by decide +kernel
theorem dX11_summedUp_29 : decode cX11_summedUp 29 = .ok (.getfield 16, 3) := by decide +kernel
theorem dX11_summedUp_32 : decode cX11_summedUp 32 = .ok (.iload_n 3, 1) := by decide +kernel
theorem dX11_summedUp_33 : decode cX11_summedUp 33 = .ok (.iconst 1, 1) := by decide +kernel
theorem dX11_summedUp_34 : decode cX11_summedUp 34 = .ok (.iadd, 1) := by decide +kernel
theorem dX11_summedUp_35 : decode cX11_summedUp 35 = .ok (.iaload, 1) := by decide +kernel
theorem dX11_summedUp_36 : decode cX11_summedUp 36 = .ok (.istore 7, 2) := by decide +kernel
theorem dX11_summedUp_38 : decode cX11_summedUp 38 = .ok (.iload 7, 2) := by decide +kernel
theorem dX11_summedUp_40 : decode cX11_summedUp 40 = .ok (.aload_n 0, 1) := by decide +kernel
theorem dX11_summedUp_41 : decode cX11_summedUp 41 = .ok (.getfield 16, 3) := by decide +kernel
theorem dX11_summedUp_44 : decode cX11_summedUp 44 = .ok (.iload_n 3, 1) := by decide +kernel
theorem dX11_summedUp_45 : decode cX11_summedUp 45 = .ok (.iconst 2, 1) := by decide +kernel
theorem dX11_summedUp_46 : decode cX11_summedUp 46 = .ok (.iadd, 1) := by decide +kernel
theorem dX11_summedUp_47 : decode cX11_summedUp 47 = .ok (.iaload, 1) := by decide +kernel
theorem dX11_summedUp_48 : decode cX11_summedUp 48 = .ok (.if_icmp .ge 307, 3) := by decide +kernel
theorem dX11_summedUp_51 : decode cX11_summedUp 51 = .ok (.aload_n 0, 1) := by decide +kernel
theorem dX11_summedUp_52 : decode cX11_summedUp 52 = .ok (.getfield 16, 3) := by decide +kernel
theorem dX11_summedUp_55 : decode cX11_summedUp 55 = .ok (.iload 4, 2) := by decide +kernel
theorem dX11_summedUp_57 : decode cX11_summedUp 57 = .ok (.iconst 2, 1) := by decide +kernel
theorem dX11_summedUp_58 : decode cX11_summedUp 58 = .ok (.iload 7, 2) := by decide +kernel
theorem dX11_summedUp_60 : decode cX11_summedUp 60 = .ok (.imul, 1) := by decide +kernel
theorem dX11_summedUp_61 : decode cX11_summedUp 61 = .ok (.iadd, 1) := by decide +kernel
theorem dX11_summedUp_62 : decode cX11_summedUp 62 = .ok (.iaload, 1) := by decide +kernel
theorem dX11_summedUp_63 : decode cX11_summedUp 63 = .ok (.istore 8, 2) := by decide +kernel
theorem dX11_summedUp_65 : decode cX11_summedUp 65 = .ok (.aload_n 0, 1) := by decide +kernel
theorem dX11_summedUp_66 : decode cX11_summedUp 66 = .ok (.getfield 16, 3) := by decide +kernel
theorem dX11_summedUp_69 : decode cX11_summedUp 69 = .ok (.iload 4, 2) := by decide +kernel
theorem dX11_summedUp_71 : decode cX11_summedUp 71 = .ok (.iconst 2, 1) := by decide +kernel
theorem dX11_summedUp_72 : decode cX11_summedUp 72 = .ok (.iload 7, 2) := by decide +kernel
theorem dX11_summedUp_74 : decode cX11_summedUp 74 = .ok (.imul, 1) := by decide +kernel
theorem dX11_summedUp_75 : decode cX11_summedUp 75 = .ok (.iadd, 1) := by decide +kernel
theorem dX11_summedUp_76 : decode cX11_summedUp 76 = .ok (.iconst 1, 1) := by decide +kernel
theorem dX11_summedUp_77 : decode cX11_summedUp 77 = .ok (.iadd, 1) := by decide +kernel
theorem dX11_summedUp_78 : decode cX11_summedUp 78 = .ok (.iaload, 1) := by decide +kernel
theorem dX11_summedUp_79 : decode cX11_summedUp 79 = .ok (.istore 9, 2) := by decide +kernel
theorem dX11_summedUp_81 : decode cX11_summedUp 81 = .ok (.iload 8, 2) := by decide +kernel
theorem dX11_summedUp_83 : decode cX11_summedUp 83 = .ok (.iconst 1, 1) := by decide +kernel
theorem dX11_summedUp_84 : decode cX11_summedUp 84 = .ok (.if_icmp .gt 35, 3) := by decide +kernel
theorem dX11_summedUp_87 : decode cX11_summedUp 87 = .ok (.aload_n 0, 1) := by decide +kernel
theorem dX11_summedUp_88 : decode cX11_summedUp 88 = .ok (.getfield 35, 3) := by decide +kernel
theorem dX11_summedUp_91 : decode cX11_summedUp 91 = .ok (.iload 5, 2) := by decide +kernel
theorem dX11_summedUp_93 : decode cX11_summedUp 93 = .ok (.iload 8, 2) := by decide +kernel
theorem dX11_summedUp_95 : decode cX11_summedUp 95 = .ok (.ifCond .ne 9, 3) := by decide +kernel
theorem dX11_summedUp_98 : decode cX11_summedUp 98 = .ok (.iload 9, 2) := by decide +kernel
theorem dX11_summedUp_100 : decode cX11_summedUp 100 = .ok (.i2l, 1) := by decide +kernel
theorem dX11_summedUp_101 : decode cX11_summedUp 101 = .ok (.goto 11, 3) := by decide +kernel
theorem dX11_summedUp_104 : decode cX11_summedUp 104 = .ok (.aload_n 0, 1) := by decide +kernel
theorem dX11_summedUp_105 : decode cX11_summedUp 105 = .ok (.getfield 32, 3) := by decide +kernel
theorem dX11_summedUp_108 : decode cX11_summedUp 108 = .ok (.iload 9, 2) := by decide +kernel
theorem dX11_summedUp_110 : decode cX11_summedUp 110 = .ok (.iaload, 1) := by decide +kernel
theorem dX11_summedUp_111 : decode cX11_summedUp 111 = .ok (.i2l, 1) := by decide +kernel
theorem dX11_summedUp_112 : decode cX11_summedUp 112 = .ok (.lastore, 1) := by decide +kernel
theorem dX11_summedUp_113 : decode cX11_summedUp 113 = .ok (.iinc 5 1, 3) := by decide +kernel
theorem dX11_summedUp_116 : decode cX11_summedUp 116 = .ok (.goto 233, 3) := by decide +kernel
theorem dX11_summedUp_119 : decode cX11_summedUp 119 = .ok (.iload 8, 2) := by decide +kernel
theorem dX11_summedUp_121 : decode cX11_summedUp 121 = .ok (.iconst 3, 1) := by decide +kernel
theorem dX11_summedUp_122 : decode cX11_summedUp 122 = .ok (.if_icmp .ne 38, 3) := by decide +kernel
theorem dX11_summedUp_125 : decode cX11_summedUp 125 = .ok (.iinc 5 (-1), 3) := by decide +kernel
theorem dX11_summedUp_128 : decode cX11_summedUp 128 = .ok (.iinc 6 (-1), 3) := by decide +kernel
theorem dX11_summedUp_131 : decode cX11_summedUp 131 = .ok (.aload_n 0, 1) := by decide +kernel
theorem dX11_summedUp_132 : decode cX11_summedUp 132 = .ok (.getfield 39, 3) := by decide +kernel
theorem dX11_summedUp_135 : decode cX11_summedUp 135 = .ok (.iload 6, 2) := by decide +kernel
theorem dX11_summedUp_137 : decode cX11_summedUp 137 = .ok (.baload, 1) := by decide +kernel
theorem dX11_summedUp_138 : decode cX11_summedUp 138 = .ok (.ifCond .ne 211, 3) := by decide +kernel
theorem dX11_summedUp_141 : decode cX11_summedUp 141 = .ok (.aload_n 0, 1) := by decide +kernel
theorem dX11_summedUp_142 : decode cX11_summedUp 142 = .ok (.getfield 35, 3) := by decide +kernel
theorem dX11_summedUp_145 : decode cX11_summedUp 145 = .ok (.iload 5, 2) := by decide +kernel
theorem dX11_summedUp_147 : decode cX11_summedUp 147 = .ok (.iconst 1, 1) := by decide +kernel
theorem dX11_summedUp_148 : decode cX11_summedUp 148 = .ok (.isub, 1) := by decide +kernel
theorem dX11_summedUp_149 : decode cX11_summedUp 149 = .ok (.aload_n 0, 1) := by decide +kernel
theorem dX11_summedUp_150 : decode cX11_summedUp 150 = .ok (.getfield 35, 3) := by decide +kernel
theorem dX11_summedUp_153 : decode cX11_summedUp 153 = .ok (.iload 5, 2) := by decide +kernel
theorem dX11_summedUp_155 : decode cX11_summedUp 155 = .ok (.laload, 1) := by decide +kernel
theorem dX11_summedUp_156 : decode cX11_summedUp 156 = .ok (.lastore, 1) := by decide +kernel
theorem dX11_summedUp_157 : decode cX11_summedUp 157 = .ok (.goto 192, 3) := by decide +kernel
theorem dX11_summedUp_160 : decode cX11_summedUp 160 = .ok (.iload 8, 2) := by decide +kernel
theorem dX11_summedUp_162 : decode cX11_summedUp 162 = .ok (.iconst 5, 1) := by decide +kernel
theorem dX11_summedUp_163 : decode cX11_summedUp 163 = .ok (.if_icmp .gt 30, 3) := by decide +kernel
theorem dX11_summedUp_166 : decode cX11_summedUp 166 = .ok (.aload_n 0, 1) := by decide +kernel
theorem dX11_summedUp_167 : decode cX11_summedUp 167 = .ok (.getfield 35, 3) := by decide +kernel
theorem dX11_summedUp_170 : decode cX11_summedUp 170 = .ok (.iload 5, 2) := by decide +kernel
theorem dX11_summedUp_172 : decode cX11_summedUp 172 = .ok (.iconst 1, 1) := by decide +kernel
theorem dX11_summedUp_173 : decode cX11_summedUp 173 = .ok (.isub, 1) := by decide +kernel
theorem dX11_summedUp_174 : decode cX11_summedUp 174 = .ok (.aload_n 0, 1) := by decide +kernel
theorem dX11_summedUp_175 : decode cX11_summedUp 175 = .ok (.iload 8, 2) := by decide +kernel
theorem dX11_summedUp_177 : decode cX11_summedUp 177 = .ok (.aload_n 0, 1) := by decide +kernel
theorem dX11_summedUp_178 : decode cX11_summedUp 178 = .ok (.getfield 35, 3) := by decide +kernel
theorem dX11_summedUp_181 : decode cX11_summedUp 181 = .ok (.iload 5, 2) := by decide +kernel
theorem dX11_summedUp_183 : decode cX11_summedUp 183 = .ok (.iconst 1, 1) := by decide +kernel
theorem dX11_summedUp_184 : decode cX11_summedUp 184 = .ok (.isub, 1) := by decide +kernel
theorem dX11_summedUp_185 : decode cX11_summedUp 185 = .ok (.laload, 1) := by decide +kernel
theorem dX11_summedUp_186 : decode cX11_summedUp 186 = .ok (.invokevirtual 278, 3) := by decide +kernel
theorem dX11_summedUp_189 : decode cX11_summedUp 189 = .ok (.lastore, 1) := by decide +kernel
theorem dX11_summedUp_190 : decode cX11_summedUp 190 = .ok (.goto 159, 3) := by decide +kernel
theorem dX11_summedUp_193 : decode cX11_summedUp 193 = .ok (.iload 8, 2) := by decide +kernel
theorem dX11_summedUp_195 : decode cX11_summedUp 195 = .ok (.bipush 10, 2) := by decide +kernel
theorem dX11_summedUp_197 : decode cX11_summedUp 197 = .ok (.if_icmp .ge 39, 3) := by decide +kernel
theorem dX11_summedUp_200 : decode cX11_summedUp 200 = .ok (.iinc 5 (-1), 3) := by decide +kernel
theorem dX11_summedUp_203 : decode cX11_summedUp 203 = .ok (.aload_n 0, 1) := by decide +kernel
theorem dX11_summedUp_204 : decode cX11_summedUp 204 = .ok (.getfield 35, 3) := by decide +kernel
theorem dX11_summedUp_207 : decode cX11_summedUp 207 = .ok (.iload 5, 2) := by decide +kernel
theorem dX11_summedUp_209 : decode cX11_summedUp 209 = .ok (.iconst 1, 1) := by decide +kernel
theorem dX11_summedUp_210 : decode cX11_summedUp 210 = .ok (.isub, 1) := by decide +kernel
theorem dX11_summedUp_211 : decode cX11_summedUp 211 = .ok (.iload 8, 2) := by decide +kernel
theorem dX11_summedUp_213 : decode cX11_summedUp 213 = .ok (.aload_n 0, 1) := by decide +kernel
theorem dX11_summedUp_214 : decode cX11_summedUp 214 = .ok (.getfield 35, 3) := by decide +kernel
theorem dX11_summedUp_217 : decode cX11_summedUp 217 = .ok (.iload 5, 2) := by decide +kernel
theorem dX11_summedUp_219 : decode cX11_summedUp 219 = .ok (.iconst 1, 1) := by decide +kernel
theorem dX11_summedUp_220 : decode cX11_summedUp 220 = .ok (.isub, 1) := by decide +kernel
theorem dX11_summedUp_221 : decode cX11_summedUp 221 = .ok (.laload, 1) := by decide +kernel
theorem dX11_summedUp_222 : decode cX11_summedUp 222 = .ok (.aload_n 0, 1) := by decide +kernel
theorem dX11_summedUp_223 : decode cX11_summedUp 223 = .ok (.getfield 35, 3) := by decide +kernel
theorem dX11_summedUp_226 : decode cX11_summedUp 226 = .ok (.iload 5, 2) := by decide +kernel
theorem dX11_summedUp_228 : decode cX11_summedUp 228 = .ok (.laload, 1) := by decide +kernel
theorem dX11_summedUp_229 : decode cX11_summedUp 229 = .ok (.invokestatic 282, 3) := by decide +kernel
theorem dX11_summedUp_232 : decode cX11_summedUp 232 = .ok (.lastore, 1) := by decide +kernel
theorem dX11_summedUp_233 : decode cX11_summedUp 233 = .ok (.goto 116, 3) := by decide +kernel
theorem dX11_summedUp_236 : decode cX11_summedUp 236 = .ok (.iload 8, 2) := by decide +kernel
theorem dX11_summedUp_238 : decode cX11_summedUp 238 = .ok (.bipush 20, 2) := by decide +kernel
theorem dX11_summedUp_240 : decode cX11_summedUp 240 = .ok (.if_icmp .ge 40, 3) := by decide +kernel
theorem dX11_summedUp_243 : decode cX11_summedUp 243 = .ok (.iinc 5 (-2), 3) := by decide +kernel
theorem dX11_summedUp_246 : decode cX11_summedUp 246 = .ok (.aload_n 0, 1) := by decide +kernel
theorem dX11_summedUp_247 : decode cX11_summedUp 247 = .ok (.getfield 39, 3) := by decide +kernel
theorem dX11_summedUp_250 : decode cX11_summedUp 250 = .ok (.iload 6, 2) := by decide +kernel
theorem dX11_summedUp_252 : decode cX11_summedUp 252 = .ok (.iload 8, 2) := by decide +kernel
theorem dX11_summedUp_254 : decode cX11_summedUp 254 = .ok (.aload_n 0, 1) := by decide +kernel
theorem dX11_summedUp_255 : decode cX11_summedUp 255 = .ok (.getfield 35, 3) := by decide +kernel
theorem dX11_summedUp_258 : decode cX11_summedUp 258 = .ok (.iload 5, 2) := by decide +kernel
theorem dX11_summedUp_260 : decode cX11_summedUp 260 = .ok (.laload, 1) := by decide +kernel
theorem dX11_summedUp_261 : decode cX11_summedUp 261 = .ok (.aload_n 0, 1) := by decide +kernel
theorem dX11_summedUp_262 : decode cX11_summedUp 262 = .ok (.getfield 35, 3) := by decide +kernel
theorem dX11_summedUp_265 : decode cX11_summedUp 265 = .ok (.iload 5, 2) := by decide +kernel
theorem dX11_summedUp_267 : decode cX11_summedUp 267 = .ok (.iconst 1, 1) := by decide +kernel
theorem dX11_summedUp_268 : decode cX11_summedUp 268 = .ok (.iadd, 1) := by decide +kernel
theorem dX11_summedUp_269 : decode cX11_summedUp 269 = .ok (.laload, 1) := by decide +kernel
theorem dX11_summedUp_270 : decode cX11_summedUp 270 = .ok (.invokestatic 286, 3) := by decide +kernel
theorem dX11_summedUp_273 : decode cX11_summedUp 273 = .ok (.bastore, 1) := by decide +kernel
theorem dX11_summedUp_274 : decode cX11_summedUp 274 = .ok (.iinc 6 1, 3) := by decide +kernel
theorem dX11_summedUp_277 : decode cX11_summedUp 277 = .ok (.goto 72, 3) := by decide +kernel
theorem dX11_summedUp_280 : decode cX11_summedUp 280 = .ok (.iload 8, 2) := by decide +kernel
theorem dX11_summedUp_282 : decode cX11_summedUp 282 = .ok (.bipush 20, 2) := by decide +kernel
theorem dX11_summedUp_284 : decode cX11_summedUp 284 = .ok (.if_icmp .ne 32, 3) := by decide +kernel
theorem dX11_summedUp_287 : decode cX11_summedUp 287 = .ok (.aload_n 0, 1) := by decide +kernel
theorem dX11_summedUp_288 : decode cX11_summedUp 288 = .ok (.getfield 39, 3) := by decide +kernel
theorem dX11_summedUp_291 : decode cX11_summedUp 291 = .ok (.iload 6, 2) := by decide +kernel
theorem dX11_summedUp_293 : decode cX11_summedUp 293 = .ok (.iconst 1, 1) := by decide +kernel
theorem dX11_summedUp_294 : decode cX11_summedUp 294 = .ok (.isub, 1) := by decide +kernel
theorem dX11_summedUp_295 : decode cX11_summedUp 295 = .ok (.aload_n 0, 1) := by decide +kernel
theorem dX11_summedUp_296 : decode cX11_summedUp 296 = .ok (.getfield 39, 3) := by decide +kernel
theorem dX11_summedUp_299 : decode cX11_summedUp 299 = .ok (.iload 6, 2) := by decide +kernel
theorem dX11_summedUp_301 : decode cX11_summedUp 301 = .ok (.iconst 1, 1) := by decide +kernel
theorem dX11_summedUp_302 : decode cX11_summedUp 302 = .ok (.isub, 1) := by decide +kernel
theorem dX11_summedUp_303 : decode cX11_summedUp 303 = .ok (.baload, 1) := by decide +kernel
theorem dX11_summedUp_304 : decode cX11_summedUp 304 = .ok (.ifCond .ne 7, 3) := by decide +kernel
theorem dX11_summedUp_307 : decode cX11_summedUp 307 = .ok (.iconst 1, 1) := by decide +kernel
theorem dX11_summedUp_308 : decode cX11_summedUp 308 = .ok (.goto 4, 3) := by decide +kernel
theorem dX11_summedUp_311 : decode cX11_summedUp 311 = .ok (.iconst 0, 1) := by decide +kernel
theorem dX11_summedUp_312 : decode cX11_summedUp 312 = .ok (.bastore, 1) := by decide +kernel
theorem dX11_summedUp_313 : decode cX11_summedUp 313 = .ok (.goto 36, 3) := by decide +kernel
theorem dX11_summedUp_316 : decode cX11_summedUp 316 = .ok (.iinc 6 (-1), 3) := by decide +kernel
theorem dX11_summedUp_319 : decode cX11_summedUp 319 = .ok (.aload_n 0, 1) := by decide +kernel
theorem dX11_summedUp_320 : decode cX11_summedUp 320 = .ok (.getfield 39, 3) := by decide +kernel
theorem dX11_summedUp_323 : decode cX11_summedUp 323 = .ok (.iload 6, 2) := by decide +kernel
theorem dX11_summedUp_325 : decode cX11_summedUp 325 = .ok (.iconst 1, 1) := by decide +kernel
theorem dX11_summedUp_326 : decode cX11_summedUp 326 = .ok (.isub, 1) := by decide +kernel
theorem dX11_summedUp_327 : decode cX11_summedUp 327 = .ok (.iload 8, 2) := by decide +kernel
theorem dX11_summedUp_329 : decode cX11_summedUp 329 = .ok (.aload_n 0, 1) := by decide +kernel
theorem dX11_summedUp_330 : decode cX11_summedUp 330 = .ok (.getfield 39, 3) := by decide +kernel
theorem dX11_summedUp_333 : decode cX11_summedUp 333 = .ok (.iload 6, 2) := by decide +kernel
theorem dX11_summedUp_335 : decode cX11_summedUp 335 = .ok (.iconst 1, 1) := by decide +kernel
theorem dX11_summedUp_336 : decode cX11_summedUp 336 = .ok (.isub, 1) := by decide +kernel
theorem dX11_summedUp_337 : decode cX11_summedUp 337 = .ok (.baload, 1) := by decide +kernel
theorem dX11_summedUp_338 : decode cX11_summedUp 338 = .ok (.aload_n 0, 1) := by decide +kernel
theorem dX11_summedUp_339 : decode cX11_summedUp 339 = .ok (.getfield 39, 3) := by decide +kernel
theorem dX11_summedUp_342 : decode cX11_summedUp 342 = .ok (.iload 6, 2) := by decide +kernel
theorem dX11_summedUp_344 : decode cX11_summedUp 344 = .ok (.baload, 1) := by decide +kernel
theorem dX11_summedUp_345 : decode cX11_summedUp 345 = .ok (.invokestatic 290, 3) := by decide +kernel
theorem dX11_summedUp_348 : decode cX11_summedUp 348 = .ok (.bastore, 1) := by decide +kernel
theorem dX11_summedUp_349 : decode cX11_summedUp 349 = .ok (.iinc 7 1, 3) := by decide +kernel
theorem dX11_summedUp_352 : decode cX11_summedUp 352 = .ok (.goto (-314), 3) := by decide +kernel
theorem dX11_summedUp_355 : decode cX11_summedUp 355 = .ok (.aload_n 0, 1) := by decide +kernel
theorem dX11_summedUp_356 : decode cX11_summedUp 356 = .ok (.getfield 35, 3) := by decide +kernel
theorem dX11_summedUp_359 : decode cX11_summedUp 359 = .ok (.iconst 0, 1) := by decide +kernel
theorem dX11_summedUp_360 : decode cX11_summedUp 360 = .ok (.laload, 1) := by decide +kernel
theorem dX11_summedUp_361 : decode cX11_summedUp 361 = .ok (.lreturn, 1) := by decide +kernel
theorem dX11_says_0 : decode cX11_says 0 = .ok (.iconst 0, 1) := by decide +kernel
theorem dX11_says_1 : decode cX11_says 1 = .ok (.istore 5, 2) := by decide +kernel
theorem dX11_says_3 : decode cX11_says 3 = .ok (.iload_n 1, 1) := by decide +kernel
theorem dX11_says_4 : decode cX11_says 4 = .ok (.ifCond .lt 59, 3) := by decide +kernel
theorem dX11_says_7 : decode cX11_says 7 = .ok (.iload 5, 2) := by decide +kernel
theorem dX11_says_9 : decode cX11_says 9 = .ok (.aload_n 0, 1) := by decide +kernel
theorem dX11_says_10 : decode cX11_says 10 = .ok (.getfield 16, 3) := by decide +kernel
theorem dX11_says_13 : decode cX11_says 13 = .ok (.sipush 681, 3) := by decide +kernel
theorem dX11_says_16 : decode cX11_says 16 = .ok (.iload_n 1, 1) := by decide +kernel
theorem dX11_says_17 : decode cX11_says 17 = .ok (.imul, 1) := by decide +kernel
theorem dX11_says_18 : decode cX11_says 18 = .ok (.iaload, 1) := by decide +kernel
theorem dX11_says_19 : decode cX11_says 19 = .ok (.if_icmp .ge 44, 3) := by decide +kernel
theorem dX11_says_22 : decode cX11_says 22 = .ok (.aload_n 0, 1) := by decide +kernel
theorem dX11_says_23 : decode cX11_says 23 = .ok (.getfield 16, 3) := by decide +kernel
theorem dX11_says_26 : decode cX11_says 26 = .ok (.sipush 681, 3) := by decide +kernel
theorem dX11_says_29 : decode cX11_says 29 = .ok (.iload_n 1, 1) := by decide +kernel
theorem dX11_says_30 : decode cX11_says 30 = .ok (.imul, 1) := by decide +kernel
theorem dX11_says_31 : decode cX11_says 31 = .ok (.iconst 1, 1) := by decide +kernel
theorem dX11_says_32 : decode cX11_says 32 = .ok (.iadd, 1) := by decide +kernel
theorem dX11_says_33 : decode cX11_says 33 = .ok (.iconst 3, 1) := by decide +kernel
theorem dX11_says_34 : decode cX11_says 34 = .ok (.iload 5, 2) := by decide +kernel
theorem dX11_says_36 : decode cX11_says 36 = .ok (.imul, 1) := by decide +kernel
theorem dX11_says_37 : decode cX11_says 37 = .ok (.iadd, 1) := by decide +kernel
theorem dX11_says_38 : decode cX11_says 38 = .ok (.iaload, 1) := by decide +kernel
theorem dX11_says_39 : decode cX11_says 39 = .ok (.iload_n 2, 1) := by decide +kernel
theorem dX11_says_40 : decode cX11_says 40 = .ok (.if_icmp .ne 17, 3) := by decide +kernel
theorem dX11_says_43 : decode cX11_says 43 = .ok (.aload_n 0, 1) := by decide +kernel
theorem dX11_says_44 : decode cX11_says 44 = .ok (.iload_n 1, 1) := by decide +kernel
theorem dX11_says_45 : decode cX11_says 45 = .ok (.iload 5, 2) := by decide +kernel
theorem dX11_says_47 : decode cX11_says 47 = .ok (.invokevirtual 294, 3) := by decide +kernel
theorem dX11_says_50 : decode cX11_says 50 = .ok (.iconst 0, 1) := by decide +kernel
theorem dX11_says_51 : decode cX11_says 51 = .ok (.iload 4, 2) := by decide +kernel
theorem dX11_says_53 : decode cX11_says 53 = .ok (.invokestatic 297, 3) := by decide +kernel
theorem dX11_says_56 : decode cX11_says 56 = .ok (.ireturn, 1) := by decide +kernel
theorem dX11_says_57 : decode cX11_says 57 = .ok (.iinc 5 1, 3) := by decide +kernel
theorem dX11_says_60 : decode cX11_says 60 = .ok (.goto (-57), 3) := by decide +kernel
theorem dX11_says_63 : decode cX11_says 63 = .ok (.iload_n 3, 1) := by decide +kernel
theorem dX11_says_64 : decode cX11_says 64 = .ok (.ireturn, 1) := by decide +kernel
theorem dX11_name_0 : decode cX11_name 0 = .ok (.aload_n 0, 1) := by decide +kernel
theorem dX11_name_1 : decode cX11_name 1 = .ok (.getfield 32, 3) := by decide +kernel
theorem dX11_name_4 : decode cX11_name 4 = .ok (.iconst 0, 1) := by decide +kernel
theorem dX11_name_5 : decode cX11_name 5 = .ok (.aload_n 0, 1) := by decide +kernel
theorem dX11_name_6 : decode cX11_name 6 = .ok (.getfield 7, 3) := by decide +kernel
theorem dX11_name_9 : decode cX11_name 9 = .ok (.iconst 4, 1) := by decide +kernel
theorem dX11_name_10 : decode cX11_name 10 = .ok (.iaload, 1) := by decide +kernel
theorem dX11_name_11 : decode cX11_name 11 = .ok (.iastore, 1) := by decide +kernel
theorem dX11_name_12 : decode cX11_name 12 = .ok (.aload_n 0, 1) := by decide +kernel
theorem dX11_name_13 : decode cX11_name 13 = .ok (.getfield 32, 3) := by decide +kernel
theorem dX11_name_16 : decode cX11_name 16 = .ok (.iconst 1, 1) := by decide +kernel
theorem dX11_name_17 : decode cX11_name 17 = .ok (.iload_n 1, 1) := by decide +kernel
theorem dX11_name_18 : decode cX11_name 18 = .ok (.iconst 1, 1) := by decide +kernel
theorem dX11_name_19 : decode cX11_name 19 = .ok (.iadd, 1) := by decide +kernel
theorem dX11_name_20 : decode cX11_name 20 = .ok (.iastore, 1) := by decide +kernel
theorem dX11_name_21 : decode cX11_name 21 = .ok (.aload_n 0, 1) := by decide +kernel
theorem dX11_name_22 : decode cX11_name 22 = .ok (.getfield 32, 3) := by decide +kernel
theorem dX11_name_25 : decode cX11_name 25 = .ok (.iconst 2, 1) := by decide +kernel
theorem dX11_name_26 : decode cX11_name 26 = .ok (.aload_n 0, 1) := by decide +kernel
theorem dX11_name_27 : decode cX11_name 27 = .ok (.getfield 7, 3) := by decide +kernel
theorem dX11_name_30 : decode cX11_name 30 = .ok (.bipush 7, 2) := by decide +kernel
theorem dX11_name_32 : decode cX11_name 32 = .ok (.iaload, 1) := by decide +kernel
theorem dX11_name_33 : decode cX11_name 33 = .ok (.iastore, 1) := by decide +kernel
theorem dX11_name_34 : decode cX11_name 34 = .ok (.aload_n 0, 1) := by decide +kernel
theorem dX11_name_35 : decode cX11_name 35 = .ok (.getfield 32, 3) := by decide +kernel
theorem dX11_name_38 : decode cX11_name 38 = .ok (.iconst 3, 1) := by decide +kernel
theorem dX11_name_39 : decode cX11_name 39 = .ok (.aload_n 0, 1) := by decide +kernel
theorem dX11_name_40 : decode cX11_name 40 = .ok (.invokevirtual 301, 3) := by decide +kernel
theorem dX11_name_43 : decode cX11_name 43 = .ok (.invokestatic 304, 3) := by decide +kernel
theorem dX11_name_46 : decode cX11_name 46 = .ok (.iastore, 1) := by decide +kernel
theorem dX11_name_47 : decode cX11_name 47 = .ok (.aload_n 0, 1) := by decide +kernel
theorem dX11_name_48 : decode cX11_name 48 = .ok (.getfield 32, 3) := by decide +kernel
theorem dX11_name_51 : decode cX11_name 51 = .ok (.iconst 4, 1) := by decide +kernel
theorem dX11_name_52 : decode cX11_name 52 = .ok (.aload_n 0, 1) := by decide +kernel
theorem dX11_name_53 : decode cX11_name 53 = .ok (.getfield 7, 3) := by decide +kernel
theorem dX11_name_56 : decode cX11_name 56 = .ok (.bipush 24, 2) := by decide +kernel
theorem dX11_name_58 : decode cX11_name 58 = .ok (.iload_n 1, 1) := by decide +kernel
theorem dX11_name_59 : decode cX11_name 59 = .ok (.iadd, 1) := by decide +kernel
theorem dX11_name_60 : decode cX11_name 60 = .ok (.iaload, 1) := by decide +kernel
theorem dX11_name_61 : decode cX11_name 61 = .ok (.iastore, 1) := by decide +kernel
theorem dX11_name_62 : decode cX11_name 62 = .ok (.aload_n 0, 1) := by decide +kernel
theorem dX11_name_63 : decode cX11_name 63 = .ok (.getfield 32, 3) := by decide +kernel
theorem dX11_name_66 : decode cX11_name 66 = .ok (.iconst 5, 1) := by decide +kernel
theorem dX11_name_67 : decode cX11_name 67 = .ok (.aload_n 0, 1) := by decide +kernel
theorem dX11_name_68 : decode cX11_name 68 = .ok (.getfield 7, 3) := by decide +kernel
theorem dX11_name_71 : decode cX11_name 71 = .ok (.bipush 8, 2) := by decide +kernel
theorem dX11_name_73 : decode cX11_name 73 = .ok (.iload_n 1, 1) := by decide +kernel
theorem dX11_name_74 : decode cX11_name 74 = .ok (.iadd, 1) := by decide +kernel
theorem dX11_name_75 : decode cX11_name 75 = .ok (.iaload, 1) := by decide +kernel
theorem dX11_name_76 : decode cX11_name 76 = .ok (.iastore, 1) := by decide +kernel
theorem dX11_name_77 : decode cX11_name 77 = .ok (.aload_n 0, 1) := by decide +kernel
theorem dX11_name_78 : decode cX11_name 78 = .ok (.getfield 32, 3) := by decide +kernel
theorem dX11_name_81 : decode cX11_name 81 = .ok (.bipush 6, 2) := by decide +kernel
theorem dX11_name_83 : decode cX11_name 83 = .ok (.aload_n 0, 1) := by decide +kernel
theorem dX11_name_84 : decode cX11_name 84 = .ok (.invokevirtual 307, 3) := by decide +kernel
theorem dX11_name_87 : decode cX11_name 87 = .ok (.iastore, 1) := by decide +kernel
theorem dX11_name_88 : decode cX11_name 88 = .ok (.return_, 1) := by decide +kernel
theorem dX11_latest_0 : decode cX11_latest 0 = .ok (.aload_n 0, 1) := by decide +kernel
theorem dX11_latest_1 : decode cX11_latest 1 = .ok (.getfield 7, 3) := by decide +kernel
theorem dX11_latest_4 : decode cX11_latest 4 = .ok (.bipush 6, 2) := by decide +kernel
theorem dX11_latest_6 : decode cX11_latest 6 = .ok (.iaload, 1) := by decide +kernel
theorem dX11_latest_7 : decode cX11_latest 7 = .ok (.iconst 1, 1) := by decide +kernel
theorem dX11_latest_8 : decode cX11_latest 8 = .ok (.isub, 1) := by decide +kernel
theorem dX11_latest_9 : decode cX11_latest 9 = .ok (.istore_n 1, 1) := by decide +kernel
theorem dX11_latest_10 : decode cX11_latest 10 = .ok (.iload_n 1, 1) := by decide +kernel
theorem dX11_latest_11 : decode cX11_latest 11 = .ok (.ifCond .lt 25, 3) := by decide +kernel
theorem dX11_latest_14 : decode cX11_latest 14 = .ok (.aload_n 0, 1) := by decide +kernel
theorem dX11_latest_15 : decode cX11_latest 15 = .ok (.iload_n 1, 1) := by decide +kernel
theorem dX11_latest_16 : decode cX11_latest 16 = .ok (.iconst 2, 1) := by decide +kernel
theorem dX11_latest_17 : decode cX11_latest 17 = .ok (.invokevirtual 310, 3) := by decide +kernel
theorem dX11_latest_20 : decode cX11_latest 20 = .ok (.ifCond .ne 10, 3) := by decide +kernel
theorem dX11_latest_23 : decode cX11_latest 23 = .ok (.aload_n 0, 1) := by decide +kernel
theorem dX11_latest_24 : decode cX11_latest 24 = .ok (.iload_n 1, 1) := by decide +kernel
theorem dX11_latest_25 : decode cX11_latest 25 = .ok (.iconst 1, 1) := by decide +kernel
theorem dX11_latest_26 : decode cX11_latest 26 = .ok (.invokevirtual 310, 3) := by decide +kernel
theorem dX11_latest_29 : decode cX11_latest 29 = .ok (.ireturn, 1) := by decide +kernel
theorem dX11_latest_30 : decode cX11_latest 30 = .ok (.iinc 1 (-1), 3) := by decide +kernel
theorem dX11_latest_33 : decode cX11_latest 33 = .ok (.goto (-23), 3) := by decide +kernel
theorem dX11_latest_36 : decode cX11_latest 36 = .ok (.iconst 0, 1) := by decide +kernel
theorem dX11_latest_37 : decode cX11_latest 37 = .ok (.ireturn, 1) := by decide +kernel
theorem dX11_betweenBy_0 : decode cX11_betweenBy 0 = .ok (.aload_n 0, 1) := by decide +kernel
theorem dX11_betweenBy_1 : decode cX11_betweenBy 1 = .ok (.iload_n 2, 1) := by decide +kernel
theorem dX11_betweenBy_2 : decode cX11_betweenBy 2 = .ok (.invokevirtual 313, 3) := by decide +kernel
theorem dX11_betweenBy_5 : decode cX11_betweenBy 5 = .ok (.aload_n 0, 1) := by decide +kernel
theorem dX11_betweenBy_6 : decode cX11_betweenBy 6 = .ok (.iload_n 1, 1) := by decide +kernel
theorem dX11_betweenBy_7 : decode cX11_betweenBy 7 = .ok (.iconst 0, 1) := by decide +kernel
theorem dX11_betweenBy_8 : decode cX11_betweenBy 8 = .ok (.iload_n 2, 1) := by decide +kernel
theorem dX11_betweenBy_9 : decode cX11_betweenBy 9 = .ok (.iconst 1, 1) := by decide +kernel
theorem dX11_betweenBy_10 : decode cX11_betweenBy 10 = .ok (.iadd, 1) := by decide +kernel
theorem dX11_betweenBy_11 : decode cX11_betweenBy 11 = .ok (.bipush 14, 2) := by decide +kernel
theorem dX11_betweenBy_13 : decode cX11_betweenBy 13 = .ok (.invokevirtual 316, 3) := by decide +kernel
theorem dX11_betweenBy_16 : decode cX11_betweenBy 16 = .ok (.ireturn, 1) := by decide +kernel
theorem dX11_tiresOf_0 : decode cX11_tiresOf 0 = .ok (.aload_n 0, 1) := by decide +kernel
theorem dX11_tiresOf_1 : decode cX11_tiresOf 1 = .ok (.iload_n 1, 1) := by decide +kernel
theorem dX11_tiresOf_2 : decode cX11_tiresOf 2 = .ok (.invokevirtual 313, 3) := by decide +kernel
theorem dX11_tiresOf_5 : decode cX11_tiresOf 5 = .ok (.aload_n 0, 1) := by decide +kernel
theorem dX11_tiresOf_6 : decode cX11_tiresOf 6 = .ok (.aload_n 0, 1) := by decide +kernel
theorem dX11_tiresOf_7 : decode cX11_tiresOf 7 = .ok (.getfield 7, 3) := by decide +kernel
theorem dX11_tiresOf_10 : decode cX11_tiresOf 10 = .ok (.iconst 1, 1) := by decide +kernel
theorem dX11_tiresOf_11 : decode cX11_tiresOf 11 = .ok (.iaload, 1) := by decide +kernel
theorem dX11_tiresOf_12 : decode cX11_tiresOf 12 = .ok (.iconst 1, 1) := by decide +kernel
theorem dX11_tiresOf_13 : decode cX11_tiresOf 13 = .ok (.iconst 1, 1) := by decide +kernel
theorem dX11_tiresOf_14 : decode cX11_tiresOf 14 = .ok (.bipush 10, 2) := by decide +kernel
theorem dX11_tiresOf_16 : decode cX11_tiresOf 16 = .ok (.invokevirtual 316, 3) := by decide +kernel
theorem dX11_tiresOf_19 : decode cX11_tiresOf 19 = .ok (.ireturn, 1) := by decide +kernel
theorem dX11_write_0 : decode cX11_write 0 = .ok (.aload_n 0, 1) := by decide +kernel
theorem dX11_write_1 : decode cX11_write 1 = .ok (.getfield 43, 3) := by decide +kernel
theorem dX11_write_4 : decode cX11_write 4 = .ok (.ifCond .ne 4, 3) := by decide +kernel
theorem dX11_write_7 : decode cX11_write 7 = .ok (.return_, 1) := by decide +kernel
theorem dX11_write_8 : decode cX11_write 8 = .ok (.aload_n 0, 1) := by decide +kernel
theorem dX11_write_9 : decode cX11_write 9 = .ok (.getfield 7, 3) := by decide +kernel
theorem dX11_write_12 : decode cX11_write 12 = .ok (.bipush 6, 2) := by decide +kernel
theorem dX11_write_14 : decode cX11_write 14 = .ok (.iaload, 1) := by decide +kernel
theorem dX11_write_15 : decode cX11_write 15 = .ok (.bipush 25, 2) := by decide +kernel
theorem dX11_write_17 : decode cX11_write 17 = .ok (.if_icmp .ne 50, 3) := by decide +kernel
theorem dX11_write_20 : decode cX11_write 20 = .ok (.iconst 1, 1) := by decide +kernel
theorem dX11_write_21 : decode cX11_write 21 = .ok (.istore_n 3, 1) := by decide +kernel
theorem dX11_write_22 : decode cX11_write 22 = .ok (.iload_n 3, 1) := by decide +kernel
theorem dX11_write_23 : decode cX11_write 23 = .ok (.bipush 25, 2) := by decide +kernel
theorem dX11_write_25 : decode cX11_write 25 = .ok (.if_icmp .ge 31, 3) := by decide +kernel
theorem dX11_write_28 : decode cX11_write 28 = .ok (.aload_n 0, 1) := by decide +kernel
theorem dX11_write_29 : decode cX11_write 29 = .ok (.getfield 7, 3) := by decide +kernel
theorem dX11_write_32 : decode cX11_write 32 = .ok (.sipush 1638, 3) := by decide +kernel
theorem dX11_write_35 : decode cX11_write 35 = .ok (.iload_n 3, 1) := by decide +kernel
theorem dX11_write_36 : decode cX11_write 36 = .ok (.iadd, 1) := by decide +kernel
theorem dX11_write_37 : decode cX11_write 37 = .ok (.iconst 1, 1) := by decide +kernel
theorem dX11_write_38 : decode cX11_write 38 = .ok (.isub, 1) := by decide +kernel
theorem dX11_write_39 : decode cX11_write 39 = .ok (.aload_n 0, 1) := by decide +kernel
theorem dX11_write_40 : decode cX11_write 40 = .ok (.getfield 7, 3) := by decide +kernel
theorem dX11_write_43 : decode cX11_write 43 = .ok (.sipush 1638, 3) := by decide +kernel
theorem dX11_write_46 : decode cX11_write 46 = .ok (.iload_n 3, 1) := by decide +kernel
theorem dX11_write_47 : decode cX11_write 47 = .ok (.iadd, 1) := by decide +kernel
theorem dX11_write_48 : decode cX11_write 48 = .ok (.iaload, 1) := by decide +kernel
theorem dX11_write_49 : decode cX11_write 49 = .ok (.iastore, 1) := by decide +kernel
theorem dX11_write_50 : decode cX11_write 50 = .ok (.iinc 3 1, 3) := by decide +kernel
theorem dX11_write_53 : decode cX11_write 53 = .ok (.goto (-31), 3) := by decide +kernel
theorem dX11_write_56 : decode cX11_write 56 = .ok (.aload_n 0, 1) := by decide +kernel
theorem dX11_write_57 : decode cX11_write 57 = .ok (.getfield 7, 3) := by decide +kernel
theorem dX11_write_60 : decode cX11_write 60 = .ok (.bipush 6, 2) := by decide +kernel
theorem dX11_write_62 : decode cX11_write 62 = .ok (.dup2, 1) := by decide +kernel
theorem dX11_write_63 : decode cX11_write 63 = .ok (.iaload, 1) := by decide +kernel
theorem dX11_write_64 : decode cX11_write 64 = .ok (.iconst 1, 1) := by decide +kernel
theorem dX11_write_65 : decode cX11_write 65 = .ok (.isub, 1) := by decide +kernel
theorem dX11_write_66 : decode cX11_write 66 = .ok (.iastore, 1) := by decide +kernel
theorem dX11_write_67 : decode cX11_write 67 = .ok (.aload_n 0, 1) := by decide +kernel
theorem dX11_write_68 : decode cX11_write 68 = .ok (.getfield 7, 3) := by decide +kernel
theorem dX11_write_71 : decode cX11_write 71 = .ok (.sipush 1638, 3) := by decide +kernel
theorem dX11_write_74 : decode cX11_write 74 = .ok (.aload_n 0, 1) := by decide +kernel
theorem dX11_write_75 : decode cX11_write 75 = .ok (.getfield 7, 3) := by decide +kernel
theorem dX11_write_78 : decode cX11_write 78 = .ok (.bipush 6, 2) := by decide +kernel
theorem dX11_write_80 : decode cX11_write 80 = .ok (.iaload, 1) := by decide +kernel
theorem dX11_write_81 : decode cX11_write 81 = .ok (.iadd, 1) := by decide +kernel
theorem dX11_write_82 : decode cX11_write 82 = .ok (.aload_n 0, 1) := by decide +kernel
theorem dX11_write_83 : decode cX11_write 83 = .ok (.getfield 7, 3) := by decide +kernel
theorem dX11_write_86 : decode cX11_write 86 = .ok (.iconst 4, 1) := by decide +kernel
theorem dX11_write_87 : decode cX11_write 87 = .ok (.iaload, 1) := by decide +kernel
theorem dX11_write_88 : decode cX11_write 88 = .ok (.bipush 9, 2) := by decide +kernel
theorem dX11_write_90 : decode cX11_write 90 = .ok (.imul, 1) := by decide +kernel
theorem dX11_write_91 : decode cX11_write 91 = .ok (.iload_n 1, 1) := by decide +kernel
theorem dX11_write_92 : decode cX11_write 92 = .ok (.iadd, 1) := by decide +kernel
theorem dX11_write_93 : decode cX11_write 93 = .ok (.iconst 1, 1) := by decide +kernel
theorem dX11_write_94 : decode cX11_write 94 = .ok (.iadd, 1) := by decide +kernel
theorem dX11_write_95 : decode cX11_write 95 = .ok (.iconst 3, 1) := by decide +kernel
theorem dX11_write_96 : decode cX11_write 96 = .ok (.imul, 1) := by decide +kernel
theorem dX11_write_97 : decode cX11_write 97 = .ok (.iload_n 2, 1) := by decide +kernel
theorem dX11_write_98 : decode cX11_write 98 = .ok (.iadd, 1) := by decide +kernel
theorem dX11_write_99 : decode cX11_write 99 = .ok (.bipush 16, 2) := by decide +kernel
theorem dX11_write_101 : decode cX11_write 101 = .ok (.imul, 1) := by decide +kernel
theorem dX11_write_102 : decode cX11_write 102 = .ok (.aload_n 0, 1) := by decide +kernel
theorem dX11_write_103 : decode cX11_write 103 = .ok (.getfield 7, 3) := by decide +kernel
theorem dX11_write_106 : decode cX11_write 106 = .ok (.bipush 8, 2) := by decide +kernel
theorem dX11_write_108 : decode cX11_write 108 = .ok (.iload_n 1, 1) := by decide +kernel
theorem dX11_write_109 : decode cX11_write 109 = .ok (.iadd, 1) := by decide +kernel
theorem dX11_write_110 : decode cX11_write 110 = .ok (.iaload, 1) := by decide +kernel
theorem dX11_write_111 : decode cX11_write 111 = .ok (.iadd, 1) := by decide +kernel
theorem dX11_write_112 : decode cX11_write 112 = .ok (.iastore, 1) := by decide +kernel
theorem dX11_write_113 : decode cX11_write 113 = .ok (.aload_n 0, 1) := by decide +kernel
theorem dX11_write_114 : decode cX11_write 114 = .ok (.getfield 7, 3) := by decide +kernel
theorem dX11_write_117 : decode cX11_write 117 = .ok (.bipush 6, 2) := by decide +kernel
theorem dX11_write_119 : decode cX11_write 119 = .ok (.dup2, 1) := by decide +kernel
theorem dX11_write_120 : decode cX11_write 120 = .ok (.iaload, 1) := by decide +kernel
theorem dX11_write_121 : decode cX11_write 121 = .ok (.iconst 1, 1) := by decide +kernel
theorem dX11_write_122 : decode cX11_write 122 = .ok (.iadd, 1) := by decide +kernel
theorem dX11_write_123 : decode cX11_write 123 = .ok (.iastore, 1) := by decide +kernel
theorem dX11_write_124 : decode cX11_write 124 = .ok (.return_, 1) := by decide +kernel
theorem dX11_drawnBy_0 : decode cX11_drawnBy 0 = .ok (.aload_n 0, 1) := by decide +kernel
theorem dX11_drawnBy_1 : decode cX11_drawnBy 1 = .ok (.getfield 7, 3) := by decide +kernel
theorem dX11_drawnBy_4 : decode cX11_drawnBy 4 = .ok (.iconst 5, 1) := by decide +kernel
theorem dX11_drawnBy_5 : decode cX11_drawnBy 5 = .ok (.iaload, 1) := by decide +kernel
theorem dX11_drawnBy_6 : decode cX11_drawnBy 6 = .ok (.iload_n 1, 1) := by decide +kernel
theorem dX11_drawnBy_7 : decode cX11_drawnBy 7 = .ok (.irem, 1) := by decide +kernel
theorem dX11_drawnBy_8 : decode cX11_drawnBy 8 = .ok (.istore_n 2, 1) := by decide +kernel
theorem dX11_drawnBy_9 : decode cX11_drawnBy 9 = .ok (.aload_n 0, 1) := by decide +kernel
theorem dX11_drawnBy_10 : decode cX11_drawnBy 10 = .ok (.invokevirtual 320, 3) := by decide +kernel
theorem dX11_drawnBy_13 : decode cX11_drawnBy 13 = .ok (.iload_n 2, 1) := by decide +kernel
theorem dX11_drawnBy_14 : decode cX11_drawnBy 14 = .ok (.ireturn, 1) := by decide +kernel
theorem dX11_anew_0 : decode cX11_anew 0 = .ok (.aload_n 0, 1) := by decide +kernel
theorem dX11_anew_1 : decode cX11_anew 1 = .ok (.getfield 7, 3) := by decide +kernel
theorem dX11_anew_4 : decode cX11_anew 4 = .ok (.iconst 5, 1) := by decide +kernel
theorem dX11_anew_5 : decode cX11_anew 5 = .ok (.aload_n 0, 1) := by decide +kernel
theorem dX11_anew_6 : decode cX11_anew 6 = .ok (.getfield 7, 3) := by decide +kernel
theorem dX11_anew_9 : decode cX11_anew 9 = .ok (.iconst 5, 1) := by decide +kernel
theorem dX11_anew_10 : decode cX11_anew 10 = .ok (.iaload, 1) := by decide +kernel
theorem dX11_anew_11 : decode cX11_anew 11 = .ok (.i2l, 1) := by decide +kernel
theorem dX11_anew_12 : decode cX11_anew 12 = .ok (.ldc2_w 323, 3) := by decide +kernel
theorem dX11_anew_15 : decode cX11_anew 15 = .ok (.lmul, 1) := by decide +kernel
theorem dX11_anew_16 : decode cX11_anew 16 = .ok (.ldc2_w 325, 3) := by decide +kernel
theorem dX11_anew_19 : decode cX11_anew 19 = .ok (.ladd, 1) := by decide +kernel
theorem dX11_anew_20 : decode cX11_anew 20 = .ok (.ldc2_w 327, 3) := by decide +kernel
theorem dX11_anew_23 : decode cX11_anew 23 = .ok (.lrem, 1) := by decide +kernel
theorem dX11_anew_24 : decode cX11_anew 24 = .ok (.l2i, 1) := by decide +kernel
theorem dX11_anew_25 : decode cX11_anew 25 = .ok (.iastore, 1) := by decide +kernel
theorem dX11_anew_26 : decode cX11_anew 26 = .ok (.return_, 1) := by decide +kernel
theorem dX11_secondAt_0 : decode cX11_secondAt 0 = .ok (.iload_n 1, 1) := by decide +kernel
theorem dX11_secondAt_1 : decode cX11_secondAt 1 = .ok (.invokestatic 87, 3) := by decide +kernel
theorem dX11_secondAt_4 : decode cX11_secondAt 4 = .ok (.ifCond .eq 21, 3) := by decide +kernel
theorem dX11_secondAt_7 : decode cX11_secondAt 7 = .ok (.aload_n 0, 1) := by decide +kernel
theorem dX11_secondAt_8 : decode cX11_secondAt 8 = .ok (.iload_n 1, 1) := by decide +kernel
theorem dX11_secondAt_9 : decode cX11_secondAt 9 = .ok (.invokevirtual 91, 3) := by decide +kernel
theorem dX11_secondAt_12 : decode cX11_secondAt 12 = .ok (.ifCond .ne 13, 3) := by decide +kernel
theorem dX11_secondAt_15 : decode cX11_secondAt 15 = .ok (.iload_n 2, 1) := by decide +kernel
theorem dX11_secondAt_16 : decode cX11_secondAt 16 = .ok (.iconst 0, 1) := by decide +kernel
theorem dX11_secondAt_17 : decode cX11_secondAt 17 = .ok (.bipush 15, 2) := by decide +kernel
theorem dX11_secondAt_19 : decode cX11_secondAt 19 = .ok (.invokestatic 83, 3) := by decide +kernel
theorem dX11_secondAt_22 : decode cX11_secondAt 22 = .ok (.ifCond .ne 5, 3) := by decide +kernel
theorem dX11_secondAt_25 : decode cX11_secondAt 25 = .ok (.iconst (-1), 1) := by decide +kernel
theorem dX11_secondAt_26 : decode cX11_secondAt 26 = .ok (.ireturn, 1) := by decide +kernel
theorem dX11_secondAt_27 : decode cX11_secondAt 27 = .ok (.iload_n 2, 1) := by decide +kernel
theorem dX11_secondAt_28 : decode cX11_secondAt 28 = .ok (.aload_n 0, 1) := by decide +kernel
theorem dX11_secondAt_29 : decode cX11_secondAt 29 = .ok (.aload_n 0, 1) := by decide +kernel
theorem dX11_secondAt_30 : decode cX11_secondAt 30 = .ok (.getfield 7, 3) := by decide +kernel
theorem dX11_secondAt_33 : decode cX11_secondAt 33 = .ok (.iconst 1, 1) := by decide +kernel
theorem dX11_secondAt_34 : decode cX11_secondAt 34 = .ok (.iaload, 1) := by decide +kernel
theorem dX11_secondAt_35 : decode cX11_secondAt 35 = .ok (.iload_n 1, 1) := by decide +kernel
theorem dX11_secondAt_36 : decode cX11_secondAt 36 = .ok (.invokevirtual 329, 3) := by decide +kernel
theorem dX11_secondAt_39 : decode cX11_secondAt 39 = .ok (.iadd, 1) := by decide +kernel
theorem dX11_secondAt_40 : decode cX11_secondAt 40 = .ok (.iconst 1, 1) := by decide +kernel
theorem dX11_secondAt_41 : decode cX11_secondAt 41 = .ok (.iadd, 1) := by decide +kernel
theorem dX11_secondAt_42 : decode cX11_secondAt 42 = .ok (.istore_n 3, 1) := by decide +kernel
theorem dX11_secondAt_43 : decode cX11_secondAt 43 = .ok (.iload_n 3, 1) := by decide +kernel
theorem dX11_secondAt_44 : decode cX11_secondAt 44 = .ok (.aload_n 0, 1) := by decide +kernel
theorem dX11_secondAt_45 : decode cX11_secondAt 45 = .ok (.getfield 7, 3) := by decide +kernel
theorem dX11_secondAt_48 : decode cX11_secondAt 48 = .ok (.bipush 7, 2) := by decide +kernel
theorem dX11_secondAt_50 : decode cX11_secondAt 50 = .ok (.iaload, 1) := by decide +kernel
theorem dX11_secondAt_51 : decode cX11_secondAt 51 = .ok (.if_icmp .ge 29, 3) := by decide +kernel
theorem dX11_secondAt_54 : decode cX11_secondAt 54 = .ok (.aload_n 0, 1) := by decide +kernel
theorem dX11_secondAt_55 : decode cX11_secondAt 55 = .ok (.invokevirtual 275, 3) := by decide +kernel
theorem dX11_secondAt_58 : decode cX11_secondAt 58 = .ok (.iload_n 2, 1) := by decide +kernel
theorem dX11_secondAt_59 : decode cX11_secondAt 59 = .ok (.invokestatic 251, 3) := by decide +kernel
theorem dX11_secondAt_62 : decode cX11_secondAt 62 = .ok (.ifCond .ne 18, 3) := by decide +kernel
theorem dX11_secondAt_65 : decode cX11_secondAt 65 = .ok (.aload_n 0, 1) := by decide +kernel
theorem dX11_secondAt_66 : decode cX11_secondAt 66 = .ok (.invokevirtual 275, 3) := by decide +kernel
theorem dX11_secondAt_69 : decode cX11_secondAt 69 = .ok (.iload_n 3, 1) := by decide +kernel
theorem dX11_secondAt_70 : decode cX11_secondAt 70 = .ok (.invokestatic 251, 3) := by decide +kernel
theorem dX11_secondAt_73 : decode cX11_secondAt 73 = .ok (.ifCond .ne 7, 3) := by decide +kernel
theorem dX11_secondAt_76 : decode cX11_secondAt 76 = .ok (.iload_n 3, 1) := by decide +kernel
theorem dX11_secondAt_77 : decode cX11_secondAt 77 = .ok (.goto 4, 3) := by decide +kernel
theorem dX11_secondAt_80 : decode cX11_secondAt 80 = .ok (.iconst (-1), 1) := by decide +kernel
theorem dX11_secondAt_81 : decode cX11_secondAt 81 = .ok (.ireturn, 1) := by decide +kernel
theorem dX11_joinNow_0 : decode cX11_joinNow 0 = .ok (.aload_n 0, 1) := by decide +kernel
theorem dX11_joinNow_1 : decode cX11_joinNow 1 = .ok (.iload_n 1, 1) := by decide +kernel
theorem dX11_joinNow_2 : decode cX11_joinNow 2 = .ok (.iload_n 2, 1) := by decide +kernel
theorem dX11_joinNow_3 : decode cX11_joinNow 3 = .ok (.aload_n 0, 1) := by decide +kernel
theorem dX11_joinNow_4 : decode cX11_joinNow 4 = .ok (.iload_n 1, 1) := by decide +kernel
theorem dX11_joinNow_5 : decode cX11_joinNow 5 = .ok (.iload_n 2, 1) := by decide +kernel
theorem dX11_joinNow_6 : decode cX11_joinNow 6 = .ok (.invokevirtual 332, 3) := by decide +kernel
theorem dX11_joinNow_9 : decode cX11_joinNow 9 = .ok (.invokevirtual 75, 3) := by decide +kernel
theorem dX11_joinNow_12 : decode cX11_joinNow 12 = .ok (.aload_n 0, 1) := by decide +kernel
theorem dX11_joinNow_13 : decode cX11_joinNow 13 = .ok (.getfield 7, 3) := by decide +kernel
theorem dX11_joinNow_16 : decode cX11_joinNow 16 = .ok (.bipush 24, 2) := by decide +kernel
theorem dX11_joinNow_18 : decode cX11_joinNow 18 = .ok (.iload_n 1, 1) := by decide +kernel
theorem dX11_joinNow_19 : decode cX11_joinNow 19 = .ok (.iadd, 1) := by decide +kernel
theorem dX11_joinNow_20 : decode cX11_joinNow 20 = .ok (.iconst 0, 1) := by decide +kernel
theorem dX11_joinNow_21 : decode cX11_joinNow 21 = .ok (.iastore, 1) := by decide +kernel
theorem dX11_joinNow_22 : decode cX11_joinNow 22 = .ok (.aload_n 0, 1) := by decide +kernel
theorem dX11_joinNow_23 : decode cX11_joinNow 23 = .ok (.iload_n 1, 1) := by decide +kernel
theorem dX11_joinNow_24 : decode cX11_joinNow 24 = .ok (.iconst 0, 1) := by decide +kernel
theorem dX11_joinNow_25 : decode cX11_joinNow 25 = .ok (.invokevirtual 335, 3) := by decide +kernel
theorem dX11_joinNow_28 : decode cX11_joinNow 28 = .ok (.return_, 1) := by decide +kernel
theorem dX11_leaveNow_0 : decode cX11_leaveNow 0 = .ok (.aload_n 0, 1) := by decide +kernel
theorem dX11_leaveNow_1 : decode cX11_leaveNow 1 = .ok (.iload_n 1, 1) := by decide +kernel
theorem dX11_leaveNow_2 : decode cX11_leaveNow 2 = .ok (.iload_n 2, 1) := by decide +kernel
theorem dX11_leaveNow_3 : decode cX11_leaveNow 3 = .ok (.invokevirtual 335, 3) := by decide +kernel
theorem dX11_leaveNow_6 : decode cX11_leaveNow 6 = .ok (.aload_n 0, 1) := by decide +kernel
theorem dX11_leaveNow_7 : decode cX11_leaveNow 7 = .ok (.iload_n 1, 1) := by decide +kernel
theorem dX11_leaveNow_8 : decode cX11_leaveNow 8 = .ok (.iconst (-1), 1) := by decide +kernel
theorem dX11_leaveNow_9 : decode cX11_leaveNow 9 = .ok (.iconst (-1), 1) := by decide +kernel
theorem dX11_leaveNow_10 : decode cX11_leaveNow 10 = .ok (.invokevirtual 75, 3) := by decide +kernel
theorem dX11_leaveNow_13 : decode cX11_leaveNow 13 = .ok (.aload_n 0, 1) := by decide +kernel
theorem dX11_leaveNow_14 : decode cX11_leaveNow 14 = .ok (.getfield 7, 3) := by decide +kernel
theorem dX11_leaveNow_17 : decode cX11_leaveNow 17 = .ok (.bipush 24, 2) := by decide +kernel
theorem dX11_leaveNow_19 : decode cX11_leaveNow 19 = .ok (.iload_n 1, 1) := by decide +kernel
theorem dX11_leaveNow_20 : decode cX11_leaveNow 20 = .ok (.iadd, 1) := by decide +kernel
theorem dX11_leaveNow_21 : decode cX11_leaveNow 21 = .ok (.iconst 0, 1) := by decide +kernel
theorem dX11_leaveNow_22 : decode cX11_leaveNow 22 = .ok (.iastore, 1) := by decide +kernel
theorem dX11_leaveNow_23 : decode cX11_leaveNow 23 = .ok (.return_, 1) := by decide +kernel
theorem dX11_turnNow_0 : decode cX11_turnNow 0 = .ok (.iconst 0, 1) := by decide +kernel
theorem dX11_turnNow_1 : decode cX11_turnNow 1 = .ok (.istore_n 1, 1) := by decide +kernel
theorem dX11_turnNow_2 : decode cX11_turnNow 2 = .ok (.iload_n 1, 1) := by decide +kernel
theorem dX11_turnNow_3 : decode cX11_turnNow 3 = .ok (.bipush 8, 2) := by decide +kernel
theorem dX11_turnNow_5 : decode cX11_turnNow 5 = .ok (.if_icmp .ge 60, 3) := by decide +kernel
theorem dX11_turnNow_8 : decode cX11_turnNow 8 = .ok (.aload_n 0, 1) := by decide +kernel
theorem dX11_turnNow_9 : decode cX11_turnNow 9 = .ok (.iload_n 1, 1) := by decide +kernel
theorem dX11_turnNow_10 : decode cX11_turnNow 10 = .ok (.invokevirtual 91, 3) := by decide +kernel
theorem dX11_turnNow_13 : decode cX11_turnNow 13 = .ok (.ifCond .eq 46, 3) := by decide +kernel
theorem dX11_turnNow_16 : decode cX11_turnNow 16 = .ok (.aload_n 0, 1) := by decide +kernel
theorem dX11_turnNow_17 : decode cX11_turnNow 17 = .ok (.iload_n 1, 1) := by decide +kernel
theorem dX11_turnNow_18 : decode cX11_turnNow 18 = .ok (.aload_n 0, 1) := by decide +kernel
theorem dX11_turnNow_19 : decode cX11_turnNow 19 = .ok (.getfield 7, 3) := by decide +kernel
theorem dX11_turnNow_22 : decode cX11_turnNow 22 = .ok (.bipush 7, 2) := by decide +kernel
theorem dX11_turnNow_24 : decode cX11_turnNow 24 = .ok (.iaload, 1) := by decide +kernel
theorem dX11_turnNow_25 : decode cX11_turnNow 25 = .ok (.iconst 1, 1) := by decide +kernel
theorem dX11_turnNow_26 : decode cX11_turnNow 26 = .ok (.isub, 1) := by decide +kernel
theorem dX11_turnNow_27 : decode cX11_turnNow 27 = .ok (.aload_n 0, 1) := by decide +kernel
theorem dX11_turnNow_28 : decode cX11_turnNow 28 = .ok (.getfield 7, 3) := by decide +kernel
theorem dX11_turnNow_31 : decode cX11_turnNow 31 = .ok (.bipush 16, 2) := by decide +kernel
theorem dX11_turnNow_33 : decode cX11_turnNow 33 = .ok (.iload_n 1, 1) := by decide +kernel
theorem dX11_turnNow_34 : decode cX11_turnNow 34 = .ok (.iadd, 1) := by decide +kernel
theorem dX11_turnNow_35 : decode cX11_turnNow 35 = .ok (.iaload, 1) := by decide +kernel
theorem dX11_turnNow_36 : decode cX11_turnNow 36 = .ok (.isub, 1) := by decide +kernel
theorem dX11_turnNow_37 : decode cX11_turnNow 37 = .ok (.aload_n 0, 1) := by decide +kernel
theorem dX11_turnNow_38 : decode cX11_turnNow 38 = .ok (.getfield 7, 3) := by decide +kernel
theorem dX11_turnNow_41 : decode cX11_turnNow 41 = .ok (.bipush 7, 2) := by decide +kernel
theorem dX11_turnNow_43 : decode cX11_turnNow 43 = .ok (.iaload, 1) := by decide +kernel
theorem dX11_turnNow_44 : decode cX11_turnNow 44 = .ok (.iconst 1, 1) := by decide +kernel
theorem dX11_turnNow_45 : decode cX11_turnNow 45 = .ok (.isub, 1) := by decide +kernel
theorem dX11_turnNow_46 : decode cX11_turnNow 46 = .ok (.aload_n 0, 1) := by decide +kernel
theorem dX11_turnNow_47 : decode cX11_turnNow 47 = .ok (.getfield 7, 3) := by decide +kernel
theorem dX11_turnNow_50 : decode cX11_turnNow 50 = .ok (.bipush 8, 2) := by decide +kernel
theorem dX11_turnNow_52 : decode cX11_turnNow 52 = .ok (.iload_n 1, 1) := by decide +kernel
theorem dX11_turnNow_53 : decode cX11_turnNow 53 = .ok (.iadd, 1) := by decide +kernel
theorem dX11_turnNow_54 : decode cX11_turnNow 54 = .ok (.iaload, 1) := by decide +kernel
theorem dX11_turnNow_55 : decode cX11_turnNow 55 = .ok (.isub, 1) := by decide +kernel
theorem dX11_turnNow_56 : decode cX11_turnNow 56 = .ok (.invokevirtual 75, 3) := by decide +kernel
theorem dX11_turnNow_59 : decode cX11_turnNow 59 = .ok (.iinc 1 1, 3) := by decide +kernel
theorem dX11_turnNow_62 : decode cX11_turnNow 62 = .ok (.goto (-60), 3) := by decide +kernel
theorem dX11_turnNow_65 : decode cX11_turnNow 65 = .ok (.return_, 1) := by decide +kernel
theorem dX11_canShift_0 : decode cX11_canShift 0 = .ok (.aload_n 0, 1) := by decide +kernel
theorem dX11_canShift_1 : decode cX11_canShift 1 = .ok (.invokevirtual 275, 3) := by decide +kernel
theorem dX11_canShift_4 : decode cX11_canShift 4 = .ok (.istore_n 2, 1) := by decide +kernel
theorem dX11_canShift_5 : decode cX11_canShift 5 = .ok (.iload_n 1, 1) := by decide +kernel
theorem dX11_canShift_6 : decode cX11_canShift 6 = .ok (.bipush (-15), 2) := by decide +kernel
theorem dX11_canShift_8 : decode cX11_canShift 8 = .ok (.bipush 15, 2) := by decide +kernel
theorem dX11_canShift_10 : decode cX11_canShift 10 = .ok (.invokestatic 83, 3) := by decide +kernel
theorem dX11_canShift_13 : decode cX11_canShift 13 = .ok (.ifCond .eq 46, 3) := by decide +kernel
theorem dX11_canShift_16 : decode cX11_canShift 16 = .ok (.iload_n 1, 1) := by decide +kernel
theorem dX11_canShift_17 : decode cX11_canShift 17 = .ok (.ifCond .eq 42, 3) := by decide +kernel
theorem dX11_canShift_20 : decode cX11_canShift 20 = .ok (.iload_n 2, 1) := by decide +kernel
theorem dX11_canShift_21 : decode cX11_canShift 21 = .ok (.ifCond .eq 38, 3) := by decide +kernel
theorem dX11_canShift_24 : decode cX11_canShift 24 = .ok (.iload_n 1, 1) := by decide +kernel
theorem dX11_canShift_25 : decode cX11_canShift 25 = .ok (.ifCond .le 19, 3) := by decide +kernel
theorem dX11_canShift_28 : decode cX11_canShift 28 = .ok (.iload_n 2, 1) := by decide +kernel
theorem dX11_canShift_29 : decode cX11_canShift 29 = .ok (.iload_n 1, 1) := by decide +kernel
theorem dX11_canShift_30 : decode cX11_canShift 30 = .ok (.ishl, 1) := by decide +kernel
theorem dX11_canShift_31 : decode cX11_canShift 31 = .ok (.aload_n 0, 1) := by decide +kernel
theorem dX11_canShift_32 : decode cX11_canShift 32 = .ok (.invokevirtual 338, 3) := by decide +kernel
theorem dX11_canShift_35 : decode cX11_canShift 35 = .ok (.iconst (-1), 1) := by decide +kernel
theorem dX11_canShift_36 : decode cX11_canShift 36 = .ok (.ixor, 1) := by decide +kernel
theorem dX11_canShift_37 : decode cX11_canShift 37 = .ok (.iand, 1) := by decide +kernel
theorem dX11_canShift_38 : decode cX11_canShift 38 = .ok (.ifCond .ne 21, 3) := by decide +kernel
theorem dX11_canShift_41 : decode cX11_canShift 41 = .ok (.goto 14, 3) := by decide +kernel
theorem dX11_canShift_44 : decode cX11_canShift 44 = .ok (.iload_n 2, 1) := by decide +kernel
theorem dX11_canShift_45 : decode cX11_canShift 45 = .ok (.iconst 1, 1) := by decide +kernel
theorem dX11_canShift_46 : decode cX11_canShift 46 = .ok (.iload_n 1, 1) := by decide +kernel
theorem dX11_canShift_47 : decode cX11_canShift 47 = .ok (.ineg, 1) := by decide +kernel
theorem dX11_canShift_48 : decode cX11_canShift 48 = .ok (.ishl, 1) := by decide +kernel
theorem dX11_canShift_49 : decode cX11_canShift 49 = .ok (.iconst 1, 1) := by decide +kernel
theorem dX11_canShift_50 : decode cX11_canShift 50 = .ok (.isub, 1) := by decide +kernel
theorem dX11_canShift_51 : decode cX11_canShift 51 = .ok (.iand, 1) := by decide +kernel
theorem dX11_canShift_52 : decode cX11_canShift 52 = .ok (.ifCond .ne 7, 3) := by decide +kernel
theorem dX11_canShift_55 : decode cX11_canShift 55 = .ok (.iconst 1, 1) := by decide +kernel
theorem dX11_canShift_56 : decode cX11_canShift 56 = .ok (.goto 4, 3) := by decide +kernel
theorem dX11_canShift_59 : decode cX11_canShift 59 = .ok (.iconst 0, 1) := by decide +kernel
theorem dX11_canShift_60 : decode cX11_canShift 60 = .ok (.ireturn, 1) := by decide +kernel
theorem dX11_pass_0 : decode cX11_pass 0 = .ok (.iconst 0, 1) := by decide +kernel
theorem dX11_pass_1 : decode cX11_pass 1 = .ok (.istore_n 1, 1) := by decide +kernel
theorem dX11_pass_2 : decode cX11_pass 2 = .ok (.iload_n 1, 1) := by decide +kernel
theorem dX11_pass_3 : decode cX11_pass 3 = .ok (.bipush 8, 2) := by decide +kernel
theorem dX11_pass_5 : decode cX11_pass 5 = .ok (.if_icmp .ge 80, 3) := by decide +kernel
theorem dX11_pass_8 : decode cX11_pass 8 = .ok (.aload_n 0, 1) := by decide +kernel
theorem dX11_pass_9 : decode cX11_pass 9 = .ok (.iload_n 1, 1) := by decide +kernel
theorem dX11_pass_10 : decode cX11_pass 10 = .ok (.invokevirtual 91, 3) := by decide +kernel
theorem dX11_pass_13 : decode cX11_pass 13 = .ok (.ifCond .ne 6, 3) := by decide +kernel
theorem dX11_pass_16 : decode cX11_pass 16 = .ok (.goto 63, 3) := by decide +kernel
theorem dX11_pass_19 : decode cX11_pass 19 = .ok (.aload_n 0, 1) := by decide +kernel
theorem dX11_pass_20 : decode cX11_pass 20 = .ok (.getfield 7, 3) := by decide +kernel
theorem dX11_pass_23 : decode cX11_pass 23 = .ok (.bipush 24, 2) := by decide +kernel
theorem dX11_pass_25 : decode cX11_pass 25 = .ok (.iload_n 1, 1) := by decide +kernel
theorem dX11_pass_26 : decode cX11_pass 26 = .ok (.iadd, 1) := by decide +kernel
theorem dX11_pass_27 : decode cX11_pass 27 = .ok (.aload_n 0, 1) := by decide +kernel
theorem dX11_pass_28 : decode cX11_pass 28 = .ok (.getfield 7, 3) := by decide +kernel
theorem dX11_pass_31 : decode cX11_pass 31 = .ok (.bipush 24, 2) := by decide +kernel
theorem dX11_pass_33 : decode cX11_pass 33 = .ok (.iload_n 1, 1) := by decide +kernel
theorem dX11_pass_34 : decode cX11_pass 34 = .ok (.iadd, 1) := by decide +kernel
theorem dX11_pass_35 : decode cX11_pass 35 = .ok (.iaload, 1) := by decide +kernel
theorem dX11_pass_36 : decode cX11_pass 36 = .ok (.iconst 1, 1) := by decide +kernel
theorem dX11_pass_37 : decode cX11_pass 37 = .ok (.iadd, 1) := by decide +kernel
theorem dX11_pass_38 : decode cX11_pass 38 = .ok (.i2l, 1) := by decide +kernel
theorem dX11_pass_39 : decode cX11_pass 39 = .ok (.iconst 0, 1) := by decide +kernel
theorem dX11_pass_40 : decode cX11_pass 40 = .ok (.bipush 99, 2) := by decide +kernel
theorem dX11_pass_42 : decode cX11_pass 42 = .ok (.invokestatic 297, 3) := by decide +kernel
theorem dX11_pass_45 : decode cX11_pass 45 = .ok (.iastore, 1) := by decide +kernel
theorem dX11_pass_46 : decode cX11_pass 46 = .ok (.aload_n 0, 1) := by decide +kernel
theorem dX11_pass_47 : decode cX11_pass 47 = .ok (.bipush 10, 2) := by decide +kernel
theorem dX11_pass_49 : decode cX11_pass 49 = .ok (.invokevirtual 341, 3) := by decide +kernel
theorem dX11_pass_52 : decode cX11_pass 52 = .ok (.aload_n 0, 1) := by decide +kernel
theorem dX11_pass_53 : decode cX11_pass 53 = .ok (.iload_n 1, 1) := by decide +kernel
theorem dX11_pass_54 : decode cX11_pass 54 = .ok (.invokevirtual 344, 3) := by decide +kernel
theorem dX11_pass_57 : decode cX11_pass 57 = .ok (.if_icmp .lt 6, 3) := by decide +kernel
theorem dX11_pass_60 : decode cX11_pass 60 = .ok (.goto 19, 3) := by decide +kernel
theorem dX11_pass_63 : decode cX11_pass 63 = .ok (.aload_n 0, 1) := by decide +kernel
theorem dX11_pass_64 : decode cX11_pass 64 = .ok (.iload_n 1, 1) := by decide +kernel
theorem dX11_pass_65 : decode cX11_pass 65 = .ok (.iconst 2, 1) := by decide +kernel
theorem dX11_pass_66 : decode cX11_pass 66 = .ok (.invokevirtual 347, 3) := by decide +kernel
theorem dX11_pass_69 : decode cX11_pass 69 = .ok (.aload_n 0, 1) := by decide +kernel
theorem dX11_pass_70 : decode cX11_pass 70 = .ok (.dup, 1) := by decide +kernel
theorem dX11_pass_71 : decode cX11_pass 71 = .ok (.getfield 350, 3) := by decide +kernel
theorem dX11_pass_74 : decode cX11_pass 74 = .ok (.iconst 1, 1) := by decide +kernel
theorem dX11_pass_75 : decode cX11_pass 75 = .ok (.iadd, 1) := by decide +kernel
theorem dX11_pass_76 : decode cX11_pass 76 = .ok (.putfield 350, 3) := by decide +kernel
theorem dX11_pass_79 : decode cX11_pass 79 = .ok (.iinc 1 1, 3) := by decide +kernel
theorem dX11_pass_82 : decode cX11_pass 82 = .ok (.goto (-80), 3) := by decide +kernel
theorem dX11_pass_85 : decode cX11_pass 85 = .ok (.aload_n 0, 1) := by decide +kernel
theorem dX11_pass_86 : decode cX11_pass 86 = .ok (.getfield 7, 3) := by decide +kernel
theorem dX11_pass_89 : decode cX11_pass 89 = .ok (.iconst 4, 1) := by decide +kernel
theorem dX11_pass_90 : decode cX11_pass 90 = .ok (.dup2, 1) := by decide +kernel
theorem dX11_pass_91 : decode cX11_pass 91 = .ok (.iaload, 1) := by decide +kernel
theorem dX11_pass_92 : decode cX11_pass 92 = .ok (.iconst 1, 1) := by decide +kernel
theorem dX11_pass_93 : decode cX11_pass 93 = .ok (.iadd, 1) := by decide +kernel
theorem dX11_pass_94 : decode cX11_pass 94 = .ok (.iastore, 1) := by decide +kernel
theorem dX11_pass_95 : decode cX11_pass 95 = .ok (.return_, 1) := by decide +kernel
theorem dX11_keep_0 : decode cX11_keep 0 = .ok (.aload_n 0, 1) := by decide +kernel
theorem dX11_keep_1 : decode cX11_keep 1 = .ok (.getfield 7, 3) := by decide +kernel
theorem dX11_keep_4 : decode cX11_keep 4 = .ok (.iconst 2, 1) := by decide +kernel
theorem dX11_keep_5 : decode cX11_keep 5 = .ok (.iaload, 1) := by decide +kernel
theorem dX11_keep_6 : decode cX11_keep 6 = .ok (.bipush 30, 2) := by decide +kernel
theorem dX11_keep_8 : decode cX11_keep 8 = .ok (.if_icmp .ne 46, 3) := by decide +kernel
theorem dX11_keep_11 : decode cX11_keep 11 = .ok (.iconst 0, 1) := by decide +kernel
theorem dX11_keep_12 : decode cX11_keep 12 = .ok (.istore_n 1, 1) := by decide +kernel
theorem dX11_keep_13 : decode cX11_keep 13 = .ok (.iload_n 1, 1) := by decide +kernel
theorem dX11_keep_14 : decode cX11_keep 14 = .ok (.sipush 1537, 3) := by decide +kernel
theorem dX11_keep_17 : decode cX11_keep 17 = .ok (.if_icmp .ge 27, 3) := by decide +kernel
theorem dX11_keep_20 : decode cX11_keep 20 = .ok (.aload_n 0, 1) := by decide +kernel
theorem dX11_keep_21 : decode cX11_keep 21 = .ok (.getfield 7, 3) := by decide +kernel
theorem dX11_keep_24 : decode cX11_keep 24 = .ok (.bipush 48, 2) := by decide +kernel
theorem dX11_keep_26 : decode cX11_keep 26 = .ok (.iload_n 1, 1) := by decide +kernel
theorem dX11_keep_27 : decode cX11_keep 27 = .ok (.iadd, 1) := by decide +kernel
theorem dX11_keep_28 : decode cX11_keep 28 = .ok (.aload_n 0, 1) := by decide +kernel
theorem dX11_keep_29 : decode cX11_keep 29 = .ok (.getfield 7, 3) := by decide +kernel
theorem dX11_keep_32 : decode cX11_keep 32 = .ok (.bipush 101, 2) := by decide +kernel
theorem dX11_keep_34 : decode cX11_keep 34 = .ok (.iload_n 1, 1) := by decide +kernel
theorem dX11_keep_35 : decode cX11_keep 35 = .ok (.iadd, 1) := by decide +kernel
theorem dX11_keep_36 : decode cX11_keep 36 = .ok (.iaload, 1) := by decide +kernel
theorem dX11_keep_37 : decode cX11_keep 37 = .ok (.iastore, 1) := by decide +kernel
theorem dX11_keep_38 : decode cX11_keep 38 = .ok (.iinc 1 1, 3) := by decide +kernel
theorem dX11_keep_41 : decode cX11_keep 41 = .ok (.goto (-28), 3) := by decide +kernel
theorem dX11_keep_44 : decode cX11_keep 44 = .ok (.aload_n 0, 1) := by decide +kernel
theorem dX11_keep_45 : decode cX11_keep 45 = .ok (.getfield 7, 3) := by decide +kernel
theorem dX11_keep_48 : decode cX11_keep 48 = .ok (.iconst 2, 1) := by decide +kernel
theorem dX11_keep_49 : decode cX11_keep 49 = .ok (.dup2, 1) := by decide +kernel
theorem dX11_keep_50 : decode cX11_keep 50 = .ok (.iaload, 1) := by decide +kernel
theorem dX11_keep_51 : decode cX11_keep 51 = .ok (.iconst 1, 1) := by decide +kernel
theorem dX11_keep_52 : decode cX11_keep 52 = .ok (.isub, 1) := by decide +kernel
theorem dX11_keep_53 : decode cX11_keep 53 = .ok (.iastore, 1) := by decide +kernel
theorem dX11_keep_54 : decode cX11_keep 54 = .ok (.bipush 48, 2) := by decide +kernel
theorem dX11_keep_56 : decode cX11_keep 56 = .ok (.bipush 53, 2) := by decide +kernel
theorem dX11_keep_58 : decode cX11_keep 58 = .ok (.aload_n 0, 1) := by decide +kernel
theorem dX11_keep_59 : decode cX11_keep 59 = .ok (.getfield 7, 3) := by decide +kernel
theorem dX11_keep_62 : decode cX11_keep 62 = .ok (.iconst 2, 1) := by decide +kernel
theorem dX11_keep_63 : decode cX11_keep 63 = .ok (.iaload, 1) := by decide +kernel
theorem dX11_keep_64 : decode cX11_keep 64 = .ok (.imul, 1) := by decide +kernel
theorem dX11_keep_65 : decode cX11_keep 65 = .ok (.iadd, 1) := by decide +kernel
theorem dX11_keep_66 : decode cX11_keep 66 = .ok (.istore_n 1, 1) := by decide +kernel
theorem dX11_keep_67 : decode cX11_keep 67 = .ok (.iconst 0, 1) := by decide +kernel
theorem dX11_keep_68 : decode cX11_keep 68 = .ok (.istore_n 2, 1) := by decide +kernel
theorem dX11_keep_69 : decode cX11_keep 69 = .ok (.iload_n 2, 1) := by decide +kernel
theorem dX11_keep_70 : decode cX11_keep 70 = .ok (.bipush 28, 2) := by decide +kernel
theorem dX11_keep_72 : decode cX11_keep 72 = .ok (.if_icmp .ge 25, 3) := by decide +kernel
theorem dX11_keep_75 : decode cX11_keep 75 = .ok (.aload_n 0, 1) := by decide +kernel
theorem dX11_keep_76 : decode cX11_keep 76 = .ok (.getfield 7, 3) := by decide +kernel
theorem dX11_keep_79 : decode cX11_keep 79 = .ok (.iload_n 1, 1) := by decide +kernel
theorem dX11_keep_80 : decode cX11_keep 80 = .ok (.iload_n 2, 1) := by decide +kernel
theorem dX11_keep_81 : decode cX11_keep 81 = .ok (.iadd, 1) := by decide +kernel
theorem dX11_keep_82 : decode cX11_keep 82 = .ok (.aload_n 0, 1) := by decide +kernel
theorem dX11_keep_83 : decode cX11_keep 83 = .ok (.getfield 7, 3) := by decide +kernel
theorem dX11_keep_86 : decode cX11_keep 86 = .ok (.iconst 4, 1) := by decide +kernel
theorem dX11_keep_87 : decode cX11_keep 87 = .ok (.iload_n 2, 1) := by decide +kernel
theorem dX11_keep_88 : decode cX11_keep 88 = .ok (.iadd, 1) := by decide +kernel
theorem dX11_keep_89 : decode cX11_keep 89 = .ok (.iaload, 1) := by decide +kernel
theorem dX11_keep_90 : decode cX11_keep 90 = .ok (.iastore, 1) := by decide +kernel
theorem dX11_keep_91 : decode cX11_keep 91 = .ok (.iinc 2 1, 3) := by decide +kernel
theorem dX11_keep_94 : decode cX11_keep 94 = .ok (.goto (-25), 3) := by decide +kernel
theorem dX11_keep_97 : decode cX11_keep 97 = .ok (.iconst 0, 1) := by decide +kernel
theorem dX11_keep_98 : decode cX11_keep 98 = .ok (.istore_n 2, 1) := by decide +kernel
theorem dX11_keep_99 : decode cX11_keep 99 = .ok (.iload_n 2, 1) := by decide +kernel
theorem dX11_keep_100 : decode cX11_keep 100 = .ok (.bipush 25, 2) := by decide +kernel
theorem dX11_keep_102 : decode cX11_keep 102 = .ok (.if_icmp .ge 30, 3) := by decide +kernel
theorem dX11_keep_105 : decode cX11_keep 105 = .ok (.aload_n 0, 1) := by decide +kernel
theorem dX11_keep_106 : decode cX11_keep 106 = .ok (.getfield 7, 3) := by decide +kernel
theorem dX11_keep_109 : decode cX11_keep 109 = .ok (.iload_n 1, 1) := by decide +kernel
theorem dX11_keep_110 : decode cX11_keep 110 = .ok (.bipush 28, 2) := by decide +kernel
theorem dX11_keep_112 : decode cX11_keep 112 = .ok (.iadd, 1) := by decide +kernel
theorem dX11_keep_113 : decode cX11_keep 113 = .ok (.iload_n 2, 1) := by decide +kernel
theorem dX11_keep_114 : decode cX11_keep 114 = .ok (.iadd, 1) := by decide +kernel
theorem dX11_keep_115 : decode cX11_keep 115 = .ok (.aload_n 0, 1) := by decide +kernel
theorem dX11_keep_116 : decode cX11_keep 116 = .ok (.getfield 7, 3) := by decide +kernel
theorem dX11_keep_119 : decode cX11_keep 119 = .ok (.sipush 1638, 3) := by decide +kernel
theorem dX11_keep_122 : decode cX11_keep 122 = .ok (.iload_n 2, 1) := by decide +kernel
theorem dX11_keep_123 : decode cX11_keep 123 = .ok (.iadd, 1) := by decide +kernel
theorem dX11_keep_124 : decode cX11_keep 124 = .ok (.iaload, 1) := by decide +kernel
theorem dX11_keep_125 : decode cX11_keep 125 = .ok (.iastore, 1) := by decide +kernel
theorem dX11_keep_126 : decode cX11_keep 126 = .ok (.iinc 2 1, 3) := by decide +kernel
theorem dX11_keep_129 : decode cX11_keep 129 = .ok (.goto (-30), 3) := by decide +kernel
theorem dX11_keep_132 : decode cX11_keep 132 = .ok (.aload_n 0, 1) := by decide +kernel
theorem dX11_keep_133 : decode cX11_keep 133 = .ok (.getfield 7, 3) := by decide +kernel
theorem dX11_keep_136 : decode cX11_keep 136 = .ok (.iconst 2, 1) := by decide +kernel
theorem dX11_keep_137 : decode cX11_keep 137 = .ok (.dup2, 1) := by decide +kernel
theorem dX11_keep_138 : decode cX11_keep 138 = .ok (.iaload, 1) := by decide +kernel
theorem dX11_keep_139 : decode cX11_keep 139 = .ok (.iconst 1, 1) := by decide +kernel
theorem dX11_keep_140 : decode cX11_keep 140 = .ok (.iadd, 1) := by decide +kernel
theorem dX11_keep_141 : decode cX11_keep 141 = .ok (.iastore, 1) := by decide +kernel
theorem dX11_keep_142 : decode cX11_keep 142 = .ok (.return_, 1) := by decide +kernel
theorem dX11_undo_0 : decode cX11_undo 0 = .ok (.aload_n 0, 1) := by decide +kernel
theorem dX11_undo_1 : decode cX11_undo 1 = .ok (.getfield 7, 3) := by decide +kernel
theorem dX11_undo_4 : decode cX11_undo 4 = .ok (.iconst 2, 1) := by decide +kernel
theorem dX11_undo_5 : decode cX11_undo 5 = .ok (.iaload, 1) := by decide +kernel
theorem dX11_undo_6 : decode cX11_undo 6 = .ok (.ifCond .ne 5, 3) := by decide +kernel
theorem dX11_undo_9 : decode cX11_undo 9 = .ok (.iconst (-1), 1) := by decide +kernel
theorem dX11_undo_10 : decode cX11_undo 10 = .ok (.ireturn, 1) := by decide +kernel
theorem dX11_undo_11 : decode cX11_undo 11 = .ok (.aload_n 0, 1) := by decide +kernel
theorem dX11_undo_12 : decode cX11_undo 12 = .ok (.getfield 7, 3) := by decide +kernel
theorem dX11_undo_15 : decode cX11_undo 15 = .ok (.iconst 2, 1) := by decide +kernel
theorem dX11_undo_16 : decode cX11_undo 16 = .ok (.dup2, 1) := by decide +kernel
theorem dX11_undo_17 : decode cX11_undo 17 = .ok (.iaload, 1) := by decide +kernel
theorem dX11_undo_18 : decode cX11_undo 18 = .ok (.iconst 1, 1) := by decide +kernel
theorem dX11_undo_19 : decode cX11_undo 19 = .ok (.isub, 1) := by decide +kernel
theorem dX11_undo_20 : decode cX11_undo 20 = .ok (.iastore, 1) := by decide +kernel
theorem dX11_undo_21 : decode cX11_undo 21 = .ok (.bipush 48, 2) := by decide +kernel
theorem dX11_undo_23 : decode cX11_undo 23 = .ok (.bipush 53, 2) := by decide +kernel
theorem dX11_undo_25 : decode cX11_undo 25 = .ok (.aload_n 0, 1) := by decide +kernel
theorem dX11_undo_26 : decode cX11_undo 26 = .ok (.getfield 7, 3) := by decide +kernel
theorem dX11_undo_29 : decode cX11_undo 29 = .ok (.iconst 2, 1) := by decide +kernel
theorem dX11_undo_30 : decode cX11_undo 30 = .ok (.iaload, 1) := by decide +kernel
theorem dX11_undo_31 : decode cX11_undo 31 = .ok (.imul, 1) := by decide +kernel
theorem dX11_undo_32 : decode cX11_undo 32 = .ok (.iadd, 1) := by decide +kernel
theorem dX11_undo_33 : decode cX11_undo 33 = .ok (.istore_n 1, 1) := by decide +kernel
theorem dX11_undo_34 : decode cX11_undo 34 = .ok (.iconst 0, 1) := by decide +kernel
theorem dX11_undo_35 : decode cX11_undo 35 = .ok (.istore_n 2, 1) := by decide +kernel
theorem dX11_undo_36 : decode cX11_undo 36 = .ok (.iload_n 2, 1) := by decide +kernel
theorem dX11_undo_37 : decode cX11_undo 37 = .ok (.bipush 28, 2) := by decide +kernel
theorem dX11_undo_39 : decode cX11_undo 39 = .ok (.if_icmp .ge 25, 3) := by decide +kernel
theorem dX11_undo_42 : decode cX11_undo 42 = .ok (.aload_n 0, 1) := by decide +kernel
theorem dX11_undo_43 : decode cX11_undo 43 = .ok (.getfield 7, 3) := by decide +kernel
theorem dX11_undo_46 : decode cX11_undo 46 = .ok (.iconst 4, 1) := by decide +kernel
theorem dX11_undo_47 : decode cX11_undo 47 = .ok (.iload_n 2, 1) := by decide +kernel
theorem dX11_undo_48 : decode cX11_undo 48 = .ok (.iadd, 1) := by decide +kernel
theorem dX11_undo_49 : decode cX11_undo 49 = .ok (.aload_n 0, 1) := by decide +kernel
theorem dX11_undo_50 : decode cX11_undo 50 = .ok (.getfield 7, 3) := by decide +kernel
theorem dX11_undo_53 : decode cX11_undo 53 = .ok (.iload_n 1, 1) := by decide +kernel
theorem dX11_undo_54 : decode cX11_undo 54 = .ok (.iload_n 2, 1) := by decide +kernel
theorem dX11_undo_55 : decode cX11_undo 55 = .ok (.iadd, 1) := by decide +kernel
theorem dX11_undo_56 : decode cX11_undo 56 = .ok (.iaload, 1) := by decide +kernel
theorem dX11_undo_57 : decode cX11_undo 57 = .ok (.iastore, 1) := by decide +kernel
theorem dX11_undo_58 : decode cX11_undo 58 = .ok (.iinc 2 1, 3) := by decide +kernel
theorem dX11_undo_61 : decode cX11_undo 61 = .ok (.goto (-25), 3) := by decide +kernel
theorem dX11_undo_64 : decode cX11_undo 64 = .ok (.iconst 0, 1) := by decide +kernel
theorem dX11_undo_65 : decode cX11_undo 65 = .ok (.istore_n 2, 1) := by decide +kernel
theorem dX11_undo_66 : decode cX11_undo 66 = .ok (.iload_n 2, 1) := by decide +kernel
theorem dX11_undo_67 : decode cX11_undo 67 = .ok (.bipush 25, 2) := by decide +kernel
theorem dX11_undo_69 : decode cX11_undo 69 = .ok (.if_icmp .ge 30, 3) := by decide +kernel
theorem dX11_undo_72 : decode cX11_undo 72 = .ok (.aload_n 0, 1) := by decide +kernel
theorem dX11_undo_73 : decode cX11_undo 73 = .ok (.getfield 7, 3) := by decide +kernel
theorem dX11_undo_76 : decode cX11_undo 76 = .ok (.sipush 1638, 3) := by decide +kernel
theorem dX11_undo_79 : decode cX11_undo 79 = .ok (.iload_n 2, 1) := by decide +kernel
theorem dX11_undo_80 : decode cX11_undo 80 = .ok (.iadd, 1) := by decide +kernel
theorem dX11_undo_81 : decode cX11_undo 81 = .ok (.aload_n 0, 1) := by decide +kernel
theorem dX11_undo_82 : decode cX11_undo 82 = .ok (.getfield 7, 3) := by decide +kernel
theorem dX11_undo_85 : decode cX11_undo 85 = .ok (.iload_n 1, 1) := by decide +kernel
theorem dX11_undo_86 : decode cX11_undo 86 = .ok (.bipush 28, 2) := by decide +kernel
theorem dX11_undo_88 : decode cX11_undo 88 = .ok (.iadd, 1) := by decide +kernel
theorem dX11_undo_89 : decode cX11_undo 89 = .ok (.iload_n 2, 1) := by decide +kernel
theorem dX11_undo_90 : decode cX11_undo 90 = .ok (.iadd, 1) := by decide +kernel
theorem dX11_undo_91 : decode cX11_undo 91 = .ok (.iaload, 1) := by decide +kernel
theorem dX11_undo_92 : decode cX11_undo 92 = .ok (.iastore, 1) := by decide +kernel
theorem dX11_undo_93 : decode cX11_undo 93 = .ok (.iinc 2 1, 3) := by decide +kernel
theorem dX11_undo_96 : decode cX11_undo 96 = .ok (.goto (-30), 3) := by decide +kernel
theorem dX11_undo_99 : decode cX11_undo 99 = .ok (.aload_n 0, 1) := by decide +kernel
theorem dX11_undo_100 : decode cX11_undo 100 = .ok (.getfield 7, 3) := by decide +kernel
theorem dX11_undo_103 : decode cX11_undo 103 = .ok (.iconst 2, 1) := by decide +kernel
theorem dX11_undo_104 : decode cX11_undo 104 = .ok (.iaload, 1) := by decide +kernel
theorem dX11_undo_105 : decode cX11_undo 105 = .ok (.ireturn, 1) := by decide +kernel
theorem dX11_length_0 : decode cX11_length 0 = .ok (.iload_n 1, 1) := by decide +kernel
theorem dX11_length_1 : decode cX11_length 1 = .ok (.iconst 1, 1) := by decide +kernel
theorem dX11_length_2 : decode cX11_length 2 = .ok (.bipush 16, 2) := by decide +kernel
theorem dX11_length_4 : decode cX11_length 4 = .ok (.invokestatic 83, 3) := by decide +kernel
theorem dX11_length_7 : decode cX11_length 7 = .ok (.ifCond .eq 23, 3) := by decide +kernel
theorem dX11_length_10 : decode cX11_length 10 = .ok (.iload_n 1, 1) := by decide +kernel
theorem dX11_length_11 : decode cX11_length 11 = .ok (.aload_n 0, 1) := by decide +kernel
theorem dX11_length_12 : decode cX11_length 12 = .ok (.getfield 7, 3) := by decide +kernel
theorem dX11_length_15 : decode cX11_length 15 = .ok (.bipush 7, 2) := by decide +kernel
theorem dX11_length_17 : decode cX11_length 17 = .ok (.iaload, 1) := by decide +kernel
theorem dX11_length_18 : decode cX11_length 18 = .ok (.if_icmp .eq 12, 3) := by decide +kernel
theorem dX11_length_21 : decode cX11_length 21 = .ok (.aload_n 0, 1) := by decide +kernel
theorem dX11_length_22 : decode cX11_length 22 = .ok (.invokevirtual 275, 3) := by decide +kernel
theorem dX11_length_25 : decode cX11_length 25 = .ok (.iload_n 1, 1) := by decide +kernel
theorem dX11_length_26 : decode cX11_length 26 = .ok (.ishr, 1) := by decide +kernel
theorem dX11_length_27 : decode cX11_length 27 = .ok (.ifCond .eq 5, 3) := by decide +kernel
theorem dX11_length_30 : decode cX11_length 30 = .ok (.iconst 0, 1) := by decide +kernel
theorem dX11_length_31 : decode cX11_length 31 = .ok (.ireturn, 1) := by decide +kernel
theorem dX11_length_32 : decode cX11_length 32 = .ok (.aload_n 0, 1) := by decide +kernel
theorem dX11_length_33 : decode cX11_length 33 = .ok (.invokevirtual 353, 3) := by decide +kernel
theorem dX11_length_36 : decode cX11_length 36 = .ok (.aload_n 0, 1) := by decide +kernel
theorem dX11_length_37 : decode cX11_length 37 = .ok (.getfield 7, 3) := by decide +kernel
theorem dX11_length_40 : decode cX11_length 40 = .ok (.bipush 7, 2) := by decide +kernel
theorem dX11_length_42 : decode cX11_length 42 = .ok (.iload_n 1, 1) := by decide +kernel
theorem dX11_length_43 : decode cX11_length 43 = .ok (.iastore, 1) := by decide +kernel
theorem dX11_length_44 : decode cX11_length 44 = .ok (.iconst 1, 1) := by decide +kernel
theorem dX11_length_45 : decode cX11_length 45 = .ok (.ireturn, 1) := by decide +kernel
theorem dX11_join_0 : decode cX11_join 0 = .ok (.aload_n 0, 1) := by decide +kernel
theorem dX11_join_1 : decode cX11_join 1 = .ok (.iload_n 1, 1) := by decide +kernel
theorem dX11_join_2 : decode cX11_join 2 = .ok (.iconst 1, 1) := by decide +kernel
theorem dX11_join_3 : decode cX11_join 3 = .ok (.isub, 1) := by decide +kernel
theorem dX11_join_4 : decode cX11_join 4 = .ok (.iload_n 2, 1) := by decide +kernel
theorem dX11_join_5 : decode cX11_join 5 = .ok (.invokevirtual 332, 3) := by decide +kernel
theorem dX11_join_8 : decode cX11_join 8 = .ok (.istore_n 3, 1) := by decide +kernel
theorem dX11_join_9 : decode cX11_join 9 = .ok (.iload_n 3, 1) := by decide +kernel
theorem dX11_join_10 : decode cX11_join 10 = .ok (.iconst (-1), 1) := by decide +kernel
theorem dX11_join_11 : decode cX11_join 11 = .ok (.if_icmp .ne 5, 3) := by decide +kernel
theorem dX11_join_14 : decode cX11_join 14 = .ok (.iconst (-1), 1) := by decide +kernel
theorem dX11_join_15 : decode cX11_join 15 = .ok (.ireturn, 1) := by decide +kernel
theorem dX11_join_16 : decode cX11_join 16 = .ok (.aload_n 0, 1) := by decide +kernel
theorem dX11_join_17 : decode cX11_join 17 = .ok (.invokevirtual 353, 3) := by decide +kernel
theorem dX11_join_20 : decode cX11_join 20 = .ok (.aload_n 0, 1) := by decide +kernel
theorem dX11_join_21 : decode cX11_join 21 = .ok (.iload_n 1, 1) := by decide +kernel
theorem dX11_join_22 : decode cX11_join 22 = .ok (.iconst 1, 1) := by decide +kernel
theorem dX11_join_23 : decode cX11_join 23 = .ok (.isub, 1) := by decide +kernel
theorem dX11_join_24 : decode cX11_join 24 = .ok (.iload_n 2, 1) := by decide +kernel
theorem dX11_join_25 : decode cX11_join 25 = .ok (.invokevirtual 356, 3) := by decide +kernel
theorem dX11_join_28 : decode cX11_join 28 = .ok (.iload_n 3, 1) := by decide +kernel
theorem dX11_join_29 : decode cX11_join 29 = .ok (.ireturn, 1) := by decide +kernel
theorem dX11_leave_0 : decode cX11_leave 0 = .ok (.aload_n 0, 1) := by decide +kernel
theorem dX11_leave_1 : decode cX11_leave 1 = .ok (.iload_n 1, 1) := by decide +kernel
theorem dX11_leave_2 : decode cX11_leave 2 = .ok (.iconst 1, 1) := by decide +kernel
theorem dX11_leave_3 : decode cX11_leave 3 = .ok (.isub, 1) := by decide +kernel
theorem dX11_leave_4 : decode cX11_leave 4 = .ok (.invokevirtual 91, 3) := by decide +kernel
theorem dX11_leave_7 : decode cX11_leave 7 = .ok (.ifCond .ne 5, 3) := by decide +kernel
theorem dX11_leave_10 : decode cX11_leave 10 = .ok (.iconst 0, 1) := by decide +kernel
theorem dX11_leave_11 : decode cX11_leave 11 = .ok (.ireturn, 1) := by decide +kernel
theorem dX11_leave_12 : decode cX11_leave 12 = .ok (.aload_n 0, 1) := by decide +kernel
theorem dX11_leave_13 : decode cX11_leave 13 = .ok (.invokevirtual 353, 3) := by decide +kernel
theorem dX11_leave_16 : decode cX11_leave 16 = .ok (.aload_n 0, 1) := by decide +kernel
theorem dX11_leave_17 : decode cX11_leave 17 = .ok (.iload_n 1, 1) := by decide +kernel
theorem dX11_leave_18 : decode cX11_leave 18 = .ok (.iconst 1, 1) := by decide +kernel
theorem dX11_leave_19 : decode cX11_leave 19 = .ok (.isub, 1) := by decide +kernel
theorem dX11_leave_20 : decode cX11_leave 20 = .ok (.iconst 1, 1) := by decide +kernel
theorem dX11_leave_21 : decode cX11_leave 21 = .ok (.invokevirtual 347, 3) := by decide +kernel
theorem dX11_leave_24 : decode cX11_leave 24 = .ok (.iconst 1, 1) := by decide +kernel
theorem dX11_leave_25 : decode cX11_leave 25 = .ok (.ireturn, 1) := by decide +kernel
theorem dX11_turn_0 : decode cX11_turn 0 = .ok (.aload_n 0, 1) := by decide +kernel
theorem dX11_turn_1 : decode cX11_turn 1 = .ok (.invokevirtual 301, 3) := by decide +kernel
theorem dX11_turn_4 : decode cX11_turn 4 = .ok (.ifCond .ne 5, 3) := by decide +kernel
theorem dX11_turn_7 : decode cX11_turn 7 = .ok (.iconst (-1), 1) := by decide +kernel
theorem dX11_turn_8 : decode cX11_turn 8 = .ok (.ireturn, 1) := by decide +kernel
theorem dX11_turn_9 : decode cX11_turn 9 = .ok (.aload_n 0, 1) := by decide +kernel
theorem dX11_turn_10 : decode cX11_turn 10 = .ok (.invokevirtual 353, 3) := by decide +kernel
theorem dX11_turn_13 : decode cX11_turn 13 = .ok (.aload_n 0, 1) := by decide +kernel
theorem dX11_turn_14 : decode cX11_turn 14 = .ok (.invokevirtual 359, 3) := by decide +kernel
theorem dX11_turn_17 : decode cX11_turn 17 = .ok (.aload_n 0, 1) := by decide +kernel
theorem dX11_turn_18 : decode cX11_turn 18 = .ok (.invokevirtual 301, 3) := by decide +kernel
theorem dX11_turn_21 : decode cX11_turn 21 = .ok (.invokestatic 304, 3) := by decide +kernel
theorem dX11_turn_24 : decode cX11_turn 24 = .ok (.ireturn, 1) := by decide +kernel
theorem dX11_shift_0 : decode cX11_shift 0 = .ok (.aload_n 0, 1) := by decide +kernel
theorem dX11_shift_1 : decode cX11_shift 1 = .ok (.iload_n 1, 1) := by decide +kernel
theorem dX11_shift_2 : decode cX11_shift 2 = .ok (.invokevirtual 362, 3) := by decide +kernel
theorem dX11_shift_5 : decode cX11_shift 5 = .ok (.ifCond .ne 5, 3) := by decide +kernel
theorem dX11_shift_8 : decode cX11_shift 8 = .ok (.iconst 0, 1) := by decide +kernel
theorem dX11_shift_9 : decode cX11_shift 9 = .ok (.ireturn, 1) := by decide +kernel
theorem dX11_shift_10 : decode cX11_shift 10 = .ok (.aload_n 0, 1) := by decide +kernel
theorem dX11_shift_11 : decode cX11_shift 11 = .ok (.invokevirtual 353, 3) := by decide +kernel
theorem dX11_shift_14 : decode cX11_shift 14 = .ok (.iconst 0, 1) := by decide +kernel
theorem dX11_shift_15 : decode cX11_shift 15 = .ok (.istore_n 2, 1) := by decide +kernel
theorem dX11_shift_16 : decode cX11_shift 16 = .ok (.iload_n 2, 1) := by decide +kernel
theorem dX11_shift_17 : decode cX11_shift 17 = .ok (.bipush 8, 2) := by decide +kernel
theorem dX11_shift_19 : decode cX11_shift 19 = .ok (.if_icmp .ge 44, 3) := by decide +kernel
theorem dX11_shift_22 : decode cX11_shift 22 = .ok (.aload_n 0, 1) := by decide +kernel
theorem dX11_shift_23 : decode cX11_shift 23 = .ok (.iload_n 2, 1) := by decide +kernel
theorem dX11_shift_24 : decode cX11_shift 24 = .ok (.invokevirtual 91, 3) := by decide +kernel
theorem dX11_shift_27 : decode cX11_shift 27 = .ok (.ifCond .eq 30, 3) := by decide +kernel
theorem dX11_shift_30 : decode cX11_shift 30 = .ok (.aload_n 0, 1) := by decide +kernel
theorem dX11_shift_31 : decode cX11_shift 31 = .ok (.iload_n 2, 1) := by decide +kernel
theorem dX11_shift_32 : decode cX11_shift 32 = .ok (.aload_n 0, 1) := by decide +kernel
theorem dX11_shift_33 : decode cX11_shift 33 = .ok (.getfield 7, 3) := by decide +kernel
theorem dX11_shift_36 : decode cX11_shift 36 = .ok (.bipush 8, 2) := by decide +kernel
theorem dX11_shift_38 : decode cX11_shift 38 = .ok (.iload_n 2, 1) := by decide +kernel
theorem dX11_shift_39 : decode cX11_shift 39 = .ok (.iadd, 1) := by decide +kernel
theorem dX11_shift_40 : decode cX11_shift 40 = .ok (.iaload, 1) := by decide +kernel
theorem dX11_shift_41 : decode cX11_shift 41 = .ok (.iload_n 1, 1) := by decide +kernel
theorem dX11_shift_42 : decode cX11_shift 42 = .ok (.iadd, 1) := by decide +kernel
theorem dX11_shift_43 : decode cX11_shift 43 = .ok (.aload_n 0, 1) := by decide +kernel
theorem dX11_shift_44 : decode cX11_shift 44 = .ok (.getfield 7, 3) := by decide +kernel
theorem dX11_shift_47 : decode cX11_shift 47 = .ok (.bipush 16, 2) := by decide +kernel
theorem dX11_shift_49 : decode cX11_shift 49 = .ok (.iload_n 2, 1) := by decide +kernel
theorem dX11_shift_50 : decode cX11_shift 50 = .ok (.iadd, 1) := by decide +kernel
theorem dX11_shift_51 : decode cX11_shift 51 = .ok (.iaload, 1) := by decide +kernel
theorem dX11_shift_52 : decode cX11_shift 52 = .ok (.iload_n 1, 1) := by decide +kernel
theorem dX11_shift_53 : decode cX11_shift 53 = .ok (.iadd, 1) := by decide +kernel
theorem dX11_shift_54 : decode cX11_shift 54 = .ok (.invokevirtual 75, 3) := by decide +kernel
theorem dX11_shift_57 : decode cX11_shift 57 = .ok (.iinc 2 1, 3) := by decide +kernel
theorem dX11_shift_60 : decode cX11_shift 60 = .ok (.goto (-44), 3) := by decide +kernel
theorem dX11_shift_63 : decode cX11_shift 63 = .ok (.iconst 1, 1) := by decide +kernel
theorem dX11_shift_64 : decode cX11_shift 64 = .ok (.ireturn, 1) := by decide +kernel
theorem dX11_arePassed_0 : decode cX11_arePassed 0 = .ok (.aload_n 0, 1) := by decide +kernel
theorem dX11_arePassed_1 : decode cX11_arePassed 1 = .ok (.iconst 0, 1) := by decide +kernel
theorem dX11_arePassed_2 : decode cX11_arePassed 2 = .ok (.putfield 350, 3) := by decide +kernel
theorem dX11_arePassed_5 : decode cX11_arePassed 5 = .ok (.iconst 0, 1) := by decide +kernel
theorem dX11_arePassed_6 : decode cX11_arePassed 6 = .ok (.istore_n 2, 1) := by decide +kernel
theorem dX11_arePassed_7 : decode cX11_arePassed 7 = .ok (.iload_n 2, 1) := by decide +kernel
theorem dX11_arePassed_8 : decode cX11_arePassed 8 = .ok (.iload_n 1, 1) := by decide +kernel
theorem dX11_arePassed_9 : decode cX11_arePassed 9 = .ok (.if_icmp .ge 31, 3) := by decide +kernel
theorem dX11_arePassed_12 : decode cX11_arePassed 12 = .ok (.aload_n 0, 1) := by decide +kernel
theorem dX11_arePassed_13 : decode cX11_arePassed 13 = .ok (.getfield 7, 3) := by decide +kernel
theorem dX11_arePassed_16 : decode cX11_arePassed 16 = .ok (.iconst 4, 1) := by decide +kernel
theorem dX11_arePassed_17 : decode cX11_arePassed 17 = .ok (.iaload, 1) := by decide +kernel
theorem dX11_arePassed_18 : decode cX11_arePassed 18 = .ok (.sipush 9999, 3) := by decide +kernel
theorem dX11_arePassed_21 : decode cX11_arePassed 21 = .ok (.if_icmp .ne 5, 3) := by decide +kernel
theorem dX11_arePassed_24 : decode cX11_arePassed 24 = .ok (.iconst 0, 1) := by decide +kernel
theorem dX11_arePassed_25 : decode cX11_arePassed 25 = .ok (.ireturn, 1) := by decide +kernel
theorem dX11_arePassed_26 : decode cX11_arePassed 26 = .ok (.aload_n 0, 1) := by decide +kernel
theorem dX11_arePassed_27 : decode cX11_arePassed 27 = .ok (.invokevirtual 353, 3) := by decide +kernel
theorem dX11_arePassed_30 : decode cX11_arePassed 30 = .ok (.aload_n 0, 1) := by decide +kernel
theorem dX11_arePassed_31 : decode cX11_arePassed 31 = .ok (.invokevirtual 365, 3) := by decide +kernel
theorem dX11_arePassed_34 : decode cX11_arePassed 34 = .ok (.iinc 2 1, 3) := by decide +kernel
theorem dX11_arePassed_37 : decode cX11_arePassed 37 = .ok (.goto (-30), 3) := by decide +kernel
theorem dX11_arePassed_40 : decode cX11_arePassed 40 = .ok (.iconst 1, 1) := by decide +kernel
theorem dX11_arePassed_41 : decode cX11_arePassed 41 = .ok (.ireturn, 1) := by decide +kernel
theorem dX11_day_0 : decode cX11_day 0 = .ok (.iload_n 1, 1) := by decide +kernel
theorem dX11_day_1 : decode cX11_day 1 = .ok (.iconst 1, 1) := by decide +kernel
theorem dX11_day_2 : decode cX11_day 2 = .ok (.bipush 60, 2) := by decide +kernel
theorem dX11_day_4 : decode cX11_day 4 = .ok (.invokestatic 83, 3) := by decide +kernel
theorem dX11_day_7 : decode cX11_day 7 = .ok (.ifCond .eq 32, 3) := by decide +kernel
theorem dX11_day_10 : decode cX11_day 10 = .ok (.aload_n 0, 1) := by decide +kernel
theorem dX11_day_11 : decode cX11_day 11 = .ok (.getfield 7, 3) := by decide +kernel
theorem dX11_day_14 : decode cX11_day 14 = .ok (.iconst 4, 1) := by decide +kernel
theorem dX11_day_15 : decode cX11_day 15 = .ok (.iaload, 1) := by decide +kernel
theorem dX11_day_16 : decode cX11_day 16 = .ok (.iload_n 1, 1) := by decide +kernel
theorem dX11_day_17 : decode cX11_day 17 = .ok (.iadd, 1) := by decide +kernel
theorem dX11_day_18 : decode cX11_day 18 = .ok (.sipush 9999, 3) := by decide +kernel
theorem dX11_day_21 : decode cX11_day 21 = .ok (.if_icmp .gt 18, 3) := by decide +kernel
theorem dX11_day_24 : decode cX11_day 24 = .ok (.aload_n 0, 1) := by decide +kernel
theorem dX11_day_25 : decode cX11_day 25 = .ok (.iload_n 1, 1) := by decide +kernel
theorem dX11_day_26 : decode cX11_day 26 = .ok (.invokevirtual 368, 3) := by decide +kernel
theorem dX11_day_29 : decode cX11_day 29 = .ok (.ifCond .eq 10, 3) := by decide +kernel
theorem dX11_day_32 : decode cX11_day 32 = .ok (.aload_n 0, 1) := by decide +kernel
theorem dX11_day_33 : decode cX11_day 33 = .ok (.getfield 350, 3) := by decide +kernel
theorem dX11_day_36 : decode cX11_day 36 = .ok (.goto 4, 3) := by decide +kernel
theorem dX11_day_39 : decode cX11_day 39 = .ok (.iconst (-1), 1) := by decide +kernel
theorem dX11_day_40 : decode cX11_day 40 = .ok (.ireturn, 1) := by decide +kernel
theorem dX11_isPlayed_0 : decode cX11_isPlayed 0 = .ok (.aload_n 0, 1) := by decide +kernel
theorem dX11_isPlayed_1 : decode cX11_isPlayed 1 = .ok (.getfield 16, 3) := by decide +kernel
theorem dX11_isPlayed_4 : decode cX11_isPlayed 4 = .ok (.iload_n 1, 1) := by decide +kernel
theorem dX11_isPlayed_5 : decode cX11_isPlayed 5 = .ok (.iconst 1, 1) := by decide +kernel
theorem dX11_isPlayed_6 : decode cX11_isPlayed 6 = .ok (.iadd, 1) := by decide +kernel
theorem dX11_isPlayed_7 : decode cX11_isPlayed 7 = .ok (.iaload, 1) := by decide +kernel
theorem dX11_isPlayed_8 : decode cX11_isPlayed 8 = .ok (.istore_n 2, 1) := by decide +kernel
theorem dX11_isPlayed_9 : decode cX11_isPlayed 9 = .ok (.aload_n 0, 1) := by decide +kernel
theorem dX11_isPlayed_10 : decode cX11_isPlayed 10 = .ok (.getfield 16, 3) := by decide +kernel
theorem dX11_isPlayed_13 : decode cX11_isPlayed 13 = .ok (.iload_n 1, 1) := by decide +kernel
theorem dX11_isPlayed_14 : decode cX11_isPlayed 14 = .ok (.iconst 2, 1) := by decide +kernel
theorem dX11_isPlayed_15 : decode cX11_isPlayed 15 = .ok (.iadd, 1) := by decide +kernel
theorem dX11_isPlayed_16 : decode cX11_isPlayed 16 = .ok (.iaload, 1) := by decide +kernel
theorem dX11_isPlayed_17 : decode cX11_isPlayed 17 = .ok (.istore_n 3, 1) := by decide +kernel
theorem dX11_isPlayed_18 : decode cX11_isPlayed 18 = .ok (.aload_n 0, 1) := by decide +kernel
theorem dX11_isPlayed_19 : decode cX11_isPlayed 19 = .ok (.getfield 16, 3) := by decide +kernel
theorem dX11_isPlayed_22 : decode cX11_isPlayed 22 = .ok (.iload_n 1, 1) := by decide +kernel
theorem dX11_isPlayed_23 : decode cX11_isPlayed 23 = .ok (.iaload, 1) := by decide +kernel
theorem dX11_isPlayed_24 : decode cX11_isPlayed 24 = .ok (.tableswitch 82 2 6 #[36, 42, 57, 63, 76], 36) := by decide +kernel
theorem dX11_isPlayed_60 : decode cX11_isPlayed 60 = .ok (.aload_n 0, 1) := by decide +kernel
theorem dX11_isPlayed_61 : decode cX11_isPlayed 61 = .ok (.iload_n 2, 1) := by decide +kernel
theorem dX11_isPlayed_62 : decode cX11_isPlayed 62 = .ok (.invokevirtual 371, 3) := by decide +kernel
theorem dX11_isPlayed_65 : decode cX11_isPlayed 65 = .ok (.ireturn, 1) := by decide +kernel
theorem dX11_isPlayed_66 : decode cX11_isPlayed 66 = .ok (.aload_n 0, 1) := by decide +kernel
theorem dX11_isPlayed_67 : decode cX11_isPlayed 67 = .ok (.iload_n 2, 1) := by decide +kernel
theorem dX11_isPlayed_68 : decode cX11_isPlayed 68 = .ok (.iload_n 3, 1) := by decide +kernel
theorem dX11_isPlayed_69 : decode cX11_isPlayed 69 = .ok (.invokevirtual 374, 3) := by decide +kernel
theorem dX11_isPlayed_72 : decode cX11_isPlayed 72 = .ok (.ifCond .lt 7, 3) := by decide +kernel
theorem dX11_isPlayed_75 : decode cX11_isPlayed 75 = .ok (.iconst 1, 1) := by decide +kernel
theorem dX11_isPlayed_76 : decode cX11_isPlayed 76 = .ok (.goto 4, 3) := by decide +kernel
theorem dX11_isPlayed_79 : decode cX11_isPlayed 79 = .ok (.iconst 0, 1) := by decide +kernel
theorem dX11_isPlayed_80 : decode cX11_isPlayed 80 = .ok (.ireturn, 1) := by decide +kernel
theorem dX11_isPlayed_81 : decode cX11_isPlayed 81 = .ok (.aload_n 0, 1) := by decide +kernel
theorem dX11_isPlayed_82 : decode cX11_isPlayed 82 = .ok (.iload_n 2, 1) := by decide +kernel
theorem dX11_isPlayed_83 : decode cX11_isPlayed 83 = .ok (.invokevirtual 377, 3) := by decide +kernel
theorem dX11_isPlayed_86 : decode cX11_isPlayed 86 = .ok (.ireturn, 1) := by decide +kernel
theorem dX11_isPlayed_87 : decode cX11_isPlayed 87 = .ok (.aload_n 0, 1) := by decide +kernel
theorem dX11_isPlayed_88 : decode cX11_isPlayed 88 = .ok (.invokevirtual 380, 3) := by decide +kernel
theorem dX11_isPlayed_91 : decode cX11_isPlayed 91 = .ok (.ifCond .lt 7, 3) := by decide +kernel
theorem dX11_isPlayed_94 : decode cX11_isPlayed 94 = .ok (.iconst 1, 1) := by decide +kernel
theorem dX11_isPlayed_95 : decode cX11_isPlayed 95 = .ok (.goto 4, 3) := by decide +kernel
theorem dX11_isPlayed_98 : decode cX11_isPlayed 98 = .ok (.iconst 0, 1) := by decide +kernel
theorem dX11_isPlayed_99 : decode cX11_isPlayed 99 = .ok (.ireturn, 1) := by decide +kernel
theorem dX11_isPlayed_100 : decode cX11_isPlayed 100 = .ok (.aload_n 0, 1) := by decide +kernel
theorem dX11_isPlayed_101 : decode cX11_isPlayed 101 = .ok (.iload_n 2, 1) := by decide +kernel
theorem dX11_isPlayed_102 : decode cX11_isPlayed 102 = .ok (.invokevirtual 368, 3) := by decide +kernel
theorem dX11_isPlayed_105 : decode cX11_isPlayed 105 = .ok (.ireturn, 1) := by decide +kernel
theorem dX11_isPlayed_106 : decode cX11_isPlayed 106 = .ok (.iconst 1, 1) := by decide +kernel
theorem dX11_isPlayed_107 : decode cX11_isPlayed 107 = .ok (.ireturn, 1) := by decide +kernel
theorem dX11_played_0 : decode cX11_played 0 = .ok (.iload_n 1, 1) := by decide +kernel
theorem dX11_played_1 : decode cX11_played 1 = .ok (.iconst 0, 1) := by decide +kernel
theorem dX11_played_2 : decode cX11_played 2 = .ok (.aload_n 0, 1) := by decide +kernel
theorem dX11_played_3 : decode cX11_played 3 = .ok (.getfield 7, 3) := by decide +kernel
theorem dX11_played_6 : decode cX11_played 6 = .ok (.iconst 0, 1) := by decide +kernel
theorem dX11_played_7 : decode cX11_played 7 = .ok (.iaload, 1) := by decide +kernel
theorem dX11_played_8 : decode cX11_played 8 = .ok (.iconst 1, 1) := by decide +kernel
theorem dX11_played_9 : decode cX11_played 9 = .ok (.isub, 1) := by decide +kernel
theorem dX11_played_10 : decode cX11_played 10 = .ok (.invokestatic 83, 3) := by decide +kernel
theorem dX11_played_13 : decode cX11_played 13 = .ok (.ifCond .ne 6, 3) := by decide +kernel
theorem dX11_played_16 : decode cX11_played 16 = .ok (.bipush (-2), 2) := by decide +kernel
theorem dX11_played_18 : decode cX11_played 18 = .ok (.ireturn, 1) := by decide +kernel
theorem dX11_played_19 : decode cX11_played 19 = .ok (.iconst 0, 1) := by decide +kernel
theorem dX11_played_20 : decode cX11_played 20 = .ok (.istore_n 2, 1) := by decide +kernel
theorem dX11_played_21 : decode cX11_played 21 = .ok (.iload_n 2, 1) := by decide +kernel
theorem dX11_played_22 : decode cX11_played 22 = .ok (.aload_n 0, 1) := by decide +kernel
theorem dX11_played_23 : decode cX11_played 23 = .ok (.getfield 16, 3) := by decide +kernel
theorem dX11_played_26 : decode cX11_played 26 = .ok (.sipush 681, 3) := by decide +kernel
theorem dX11_played_29 : decode cX11_played 29 = .ok (.iload_n 1, 1) := by decide +kernel
theorem dX11_played_30 : decode cX11_played 30 = .ok (.imul, 1) := by decide +kernel
theorem dX11_played_31 : decode cX11_played 31 = .ok (.iaload, 1) := by decide +kernel
theorem dX11_played_32 : decode cX11_played 32 = .ok (.if_icmp .ge 29, 3) := by decide +kernel
theorem dX11_played_35 : decode cX11_played 35 = .ok (.aload_n 0, 1) := by decide +kernel
theorem dX11_played_36 : decode cX11_played 36 = .ok (.sipush 681, 3) := by decide +kernel
theorem dX11_played_39 : decode cX11_played 39 = .ok (.iload_n 1, 1) := by decide +kernel
theorem dX11_played_40 : decode cX11_played 40 = .ok (.imul, 1) := by decide +kernel
theorem dX11_played_41 : decode cX11_played 41 = .ok (.iconst 1, 1) := by decide +kernel
theorem dX11_played_42 : decode cX11_played 42 = .ok (.iadd, 1) := by decide +kernel
theorem dX11_played_43 : decode cX11_played 43 = .ok (.iconst 3, 1) := by decide +kernel
theorem dX11_played_44 : decode cX11_played 44 = .ok (.iload_n 2, 1) := by decide +kernel
theorem dX11_played_45 : decode cX11_played 45 = .ok (.imul, 1) := by decide +kernel
theorem dX11_played_46 : decode cX11_played 46 = .ok (.iadd, 1) := by decide +kernel
theorem dX11_played_47 : decode cX11_played 47 = .ok (.invokevirtual 383, 3) := by decide +kernel
theorem dX11_played_50 : decode cX11_played 50 = .ok (.ifCond .ne 5, 3) := by decide +kernel
theorem dX11_played_53 : decode cX11_played 53 = .ok (.iload_n 2, 1) := by decide +kernel
theorem dX11_played_54 : decode cX11_played 54 = .ok (.ireturn, 1) := by decide +kernel
theorem dX11_played_55 : decode cX11_played 55 = .ok (.iinc 2 1, 3) := by decide +kernel
theorem dX11_played_58 : decode cX11_played 58 = .ok (.goto (-37), 3) := by decide +kernel
theorem dX11_played_61 : decode cX11_played 61 = .ok (.iconst (-1), 1) := by decide +kernel
theorem dX11_played_62 : decode cX11_played 62 = .ok (.ireturn, 1) := by decide +kernel
theorem dX11_happens_0 : decode cX11_happens 0 = .ok (.iload_n 1, 1) := by decide +kernel
theorem dX11_happens_1 : decode cX11_happens 1 = .ok (.bipush 6, 2) := by decide +kernel
theorem dX11_happens_3 : decode cX11_happens 3 = .ok (.idiv, 1) := by decide +kernel
theorem dX11_happens_4 : decode cX11_happens 4 = .ok (.bipush 8, 2) := by decide +kernel
theorem dX11_happens_6 : decode cX11_happens 6 = .ok (.irem, 1) := by decide +kernel
theorem dX11_happens_7 : decode cX11_happens 7 = .ok (.istore_n 2, 1) := by decide +kernel
theorem dX11_happens_8 : decode cX11_happens 8 = .ok (.iload_n 1, 1) := by decide +kernel
theorem dX11_happens_9 : decode cX11_happens 9 = .ok (.bipush 6, 2) := by decide +kernel
theorem dX11_happens_11 : decode cX11_happens 11 = .ok (.irem, 1) := by decide +kernel
theorem dX11_happens_12 : decode cX11_happens 12 = .ok (.tableswitch 94 0 3 #[32, 32, 57, 80], 32) := by decide +kernel
theorem dX11_happens_44 : decode cX11_happens 44 = .ok (.aload_n 0, 1) := by decide +kernel
theorem dX11_happens_45 : decode cX11_happens 45 = .ok (.iload_n 2, 1) := by decide +kernel
theorem dX11_happens_46 : decode cX11_happens 46 = .ok (.iload_n 1, 1) := by decide +kernel
theorem dX11_happens_47 : decode cX11_happens 47 = .ok (.bipush 16, 2) := by decide +kernel
theorem dX11_happens_49 : decode cX11_happens 49 = .ok (.irem, 1) := by decide +kernel
theorem dX11_happens_50 : decode cX11_happens 50 = .ok (.invokevirtual 332, 3) := by decide +kernel
theorem dX11_happens_53 : decode cX11_happens 53 = .ok (.iconst (-1), 1) := by decide +kernel
theorem dX11_happens_54 : decode cX11_happens 54 = .ok (.if_icmp .eq 68, 3) := by decide +kernel
theorem dX11_happens_57 : decode cX11_happens 57 = .ok (.aload_n 0, 1) := by decide +kernel
theorem dX11_happens_58 : decode cX11_happens 58 = .ok (.iload_n 2, 1) := by decide +kernel
theorem dX11_happens_59 : decode cX11_happens 59 = .ok (.iload_n 1, 1) := by decide +kernel
theorem dX11_happens_60 : decode cX11_happens 60 = .ok (.bipush 16, 2) := by decide +kernel
theorem dX11_happens_62 : decode cX11_happens 62 = .ok (.irem, 1) := by decide +kernel
theorem dX11_happens_63 : decode cX11_happens 63 = .ok (.invokevirtual 356, 3) := by decide +kernel
theorem dX11_happens_66 : decode cX11_happens 66 = .ok (.goto 56, 3) := by decide +kernel
theorem dX11_happens_69 : decode cX11_happens 69 = .ok (.iload_n 1, 1) := by decide +kernel
theorem dX11_happens_70 : decode cX11_happens 70 = .ok (.iconst 4, 1) := by decide +kernel
theorem dX11_happens_71 : decode cX11_happens 71 = .ok (.irem, 1) := by decide +kernel
theorem dX11_happens_72 : decode cX11_happens 72 = .ok (.ifCond .ne 50, 3) := by decide +kernel
theorem dX11_happens_75 : decode cX11_happens 75 = .ok (.aload_n 0, 1) := by decide +kernel
theorem dX11_happens_76 : decode cX11_happens 76 = .ok (.iload_n 2, 1) := by decide +kernel
theorem dX11_happens_77 : decode cX11_happens 77 = .ok (.invokevirtual 91, 3) := by decide +kernel
theorem dX11_happens_80 : decode cX11_happens 80 = .ok (.ifCond .eq 42, 3) := by decide +kernel
theorem dX11_happens_83 : decode cX11_happens 83 = .ok (.aload_n 0, 1) := by decide +kernel
theorem dX11_happens_84 : decode cX11_happens 84 = .ok (.iload_n 2, 1) := by decide +kernel
theorem dX11_happens_85 : decode cX11_happens 85 = .ok (.iconst 1, 1) := by decide +kernel
theorem dX11_happens_86 : decode cX11_happens 86 = .ok (.invokevirtual 347, 3) := by decide +kernel
theorem dX11_happens_89 : decode cX11_happens 89 = .ok (.goto 33, 3) := by decide +kernel
theorem dX11_happens_92 : decode cX11_happens 92 = .ok (.iload_n 1, 1) := by decide +kernel
theorem dX11_happens_93 : decode cX11_happens 93 = .ok (.iconst 4, 1) := by decide +kernel
theorem dX11_happens_94 : decode cX11_happens 94 = .ok (.irem, 1) := by decide +kernel
theorem dX11_happens_95 : decode cX11_happens 95 = .ok (.iconst 1, 1) := by decide +kernel
theorem dX11_happens_96 : decode cX11_happens 96 = .ok (.if_icmp .ne 26, 3) := by decide +kernel
theorem dX11_happens_99 : decode cX11_happens 99 = .ok (.aload_n 0, 1) := by decide +kernel
theorem dX11_happens_100 : decode cX11_happens 100 = .ok (.invokevirtual 359, 3) := by decide +kernel
theorem dX11_happens_103 : decode cX11_happens 103 = .ok (.goto 19, 3) := by decide +kernel
theorem dX11_happens_106 : decode cX11_happens 106 = .ok (.aload_n 0, 1) := by decide +kernel
theorem dX11_happens_107 : decode cX11_happens 107 = .ok (.getfield 7, 3) := by decide +kernel
theorem dX11_happens_110 : decode cX11_happens 110 = .ok (.iconst 4, 1) := by decide +kernel
theorem dX11_happens_111 : decode cX11_happens 111 = .ok (.iaload, 1) := by decide +kernel
theorem dX11_happens_112 : decode cX11_happens 112 = .ok (.sipush 9999, 3) := by decide +kernel
theorem dX11_happens_115 : decode cX11_happens 115 = .ok (.if_icmp .ge 7, 3) := by decide +kernel
theorem dX11_happens_118 : decode cX11_happens 118 = .ok (.aload_n 0, 1) := by decide +kernel
theorem dX11_happens_119 : decode cX11_happens 119 = .ok (.invokevirtual 365, 3) := by decide +kernel
theorem dX11_happens_122 : decode cX11_happens 122 = .ok (.return_, 1) := by decide +kernel
theorem dX11_years_0 : decode cX11_years 0 = .ok (.iload_n 1, 1) := by decide +kernel
theorem dX11_years_1 : decode cX11_years 1 = .ok (.iconst 0, 1) := by decide +kernel
theorem dX11_years_2 : decode cX11_years 2 = .ok (.sipush 9999, 3) := by decide +kernel
theorem dX11_years_5 : decode cX11_years 5 = .ok (.invokestatic 83, 3) := by decide +kernel
theorem dX11_years_8 : decode cX11_years 8 = .ok (.ifCond .eq 13, 3) := by decide +kernel
theorem dX11_years_11 : decode cX11_years 11 = .ok (.iload_n 2, 1) := by decide +kernel
theorem dX11_years_12 : decode cX11_years 12 = .ok (.iconst 1, 1) := by decide +kernel
theorem dX11_years_13 : decode cX11_years 13 = .ok (.bipush 40, 2) := by decide +kernel
theorem dX11_years_15 : decode cX11_years 15 = .ok (.invokestatic 83, 3) := by decide +kernel
theorem dX11_years_18 : decode cX11_years 18 = .ok (.ifCond .ne 5, 3) := by decide +kernel
theorem dX11_years_21 : decode cX11_years 21 = .ok (.iconst (-1), 1) := by decide +kernel
theorem dX11_years_22 : decode cX11_years 22 = .ok (.ireturn, 1) := by decide +kernel
theorem dX11_years_23 : decode cX11_years 23 = .ok (.aload_n 0, 1) := by decide +kernel
theorem dX11_years_24 : decode cX11_years 24 = .ok (.invokevirtual 353, 3) := by decide +kernel
theorem dX11_years_27 : decode cX11_years 27 = .ok (.aload_n 0, 1) := by decide +kernel
theorem dX11_years_28 : decode cX11_years 28 = .ok (.getfield 7, 3) := by decide +kernel
theorem dX11_years_31 : decode cX11_years 31 = .ok (.iconst 5, 1) := by decide +kernel
theorem dX11_years_32 : decode cX11_years 32 = .ok (.iload_n 1, 1) := by decide +kernel
theorem dX11_years_33 : decode cX11_years 33 = .ok (.iconst 2, 1) := by decide +kernel
theorem dX11_years_34 : decode cX11_years 34 = .ok (.imul, 1) := by decide +kernel
theorem dX11_years_35 : decode cX11_years 35 = .ok (.sipush 443, 3) := by decide +kernel
theorem dX11_years_38 : decode cX11_years 38 = .ok (.iadd, 1) := by decide +kernel
theorem dX11_years_39 : decode cX11_years 39 = .ok (.iastore, 1) := by decide +kernel
theorem dX11_years_40 : decode cX11_years 40 = .ok (.iconst 0, 1) := by decide +kernel
theorem dX11_years_41 : decode cX11_years 41 = .ok (.istore_n 3, 1) := by decide +kernel
theorem dX11_years_42 : decode cX11_years 42 = .ok (.iload_n 3, 1) := by decide +kernel
theorem dX11_years_43 : decode cX11_years 43 = .ok (.iload_n 2, 1) := by decide +kernel
theorem dX11_years_44 : decode cX11_years 44 = .ok (.if_icmp .ge 27, 3) := by decide +kernel
theorem dX11_years_47 : decode cX11_years 47 = .ok (.aload_n 0, 1) := by decide +kernel
theorem dX11_years_48 : decode cX11_years 48 = .ok (.getfield 7, 3) := by decide +kernel
theorem dX11_years_51 : decode cX11_years 51 = .ok (.iconst 5, 1) := by decide +kernel
theorem dX11_years_52 : decode cX11_years 52 = .ok (.iaload, 1) := by decide +kernel
theorem dX11_years_53 : decode cX11_years 53 = .ok (.istore 4, 2) := by decide +kernel
theorem dX11_years_55 : decode cX11_years 55 = .ok (.aload_n 0, 1) := by decide +kernel
theorem dX11_years_56 : decode cX11_years 56 = .ok (.invokevirtual 320, 3) := by decide +kernel
theorem dX11_years_59 : decode cX11_years 59 = .ok (.aload_n 0, 1) := by decide +kernel
theorem dX11_years_60 : decode cX11_years 60 = .ok (.iload 4, 2) := by decide +kernel
theorem dX11_years_62 : decode cX11_years 62 = .ok (.invokevirtual 386, 3) := by decide +kernel
theorem dX11_years_65 : decode cX11_years 65 = .ok (.iinc 3 1, 3) := by decide +kernel
theorem dX11_years_68 : decode cX11_years 68 = .ok (.goto (-26), 3) := by decide +kernel
theorem dX11_years_71 : decode cX11_years 71 = .ok (.aload_n 0, 1) := by decide +kernel
theorem dX11_years_72 : decode cX11_years 72 = .ok (.getfield 7, 3) := by decide +kernel
theorem dX11_years_75 : decode cX11_years 75 = .ok (.iconst 4, 1) := by decide +kernel
theorem dX11_years_76 : decode cX11_years 76 = .ok (.iaload, 1) := by decide +kernel
theorem dX11_years_77 : decode cX11_years 77 = .ok (.ireturn, 1) := by decide +kernel
theorem dX11_of_0 : decode cX11_of 0 = .ok (.iload_n 1, 1) := by decide +kernel
theorem dX11_of_1 : decode cX11_of 1 = .ok (.iconst 1, 1) := by decide +kernel
theorem dX11_of_2 : decode cX11_of 2 = .ok (.isub, 1) := by decide +kernel
theorem dX11_of_3 : decode cX11_of 3 = .ok (.istore_n 3, 1) := by decide +kernel
theorem dX11_of_4 : decode cX11_of 4 = .ok (.iload_n 3, 1) := by decide +kernel
theorem dX11_of_5 : decode cX11_of 5 = .ok (.invokestatic 87, 3) := by decide +kernel
theorem dX11_of_8 : decode cX11_of 8 = .ok (.ifCond .ne 6, 3) := by decide +kernel
theorem dX11_of_11 : decode cX11_of 11 = .ok (.bipush (-2), 2) := by decide +kernel
theorem dX11_of_13 : decode cX11_of 13 = .ok (.ireturn, 1) := by decide +kernel
theorem dX11_of_14 : decode cX11_of 14 = .ok (.iload_n 2, 1) := by decide +kernel
theorem dX11_of_15 : decode cX11_of 15 = .ok (.tableswitch 81 0 4 #[33, 43, 53, 63, 75], 33) := by decide +kernel
theorem dX11_of_48 : decode cX11_of 48 = .ok (.aload_n 0, 1) := by decide +kernel
theorem dX11_of_49 : decode cX11_of 49 = .ok (.getfield 7, 3) := by decide +kernel
theorem dX11_of_52 : decode cX11_of 52 = .ok (.bipush 8, 2) := by decide +kernel
theorem dX11_of_54 : decode cX11_of 54 = .ok (.iload_n 3, 1) := by decide +kernel
theorem dX11_of_55 : decode cX11_of 55 = .ok (.iadd, 1) := by decide +kernel
theorem dX11_of_56 : decode cX11_of 56 = .ok (.iaload, 1) := by decide +kernel
theorem dX11_of_57 : decode cX11_of 57 = .ok (.ireturn, 1) := by decide +kernel
theorem dX11_of_58 : decode cX11_of 58 = .ok (.aload_n 0, 1) := by decide +kernel
theorem dX11_of_59 : decode cX11_of 59 = .ok (.getfield 7, 3) := by decide +kernel
theorem dX11_of_62 : decode cX11_of 62 = .ok (.bipush 16, 2) := by decide +kernel
theorem dX11_of_64 : decode cX11_of 64 = .ok (.iload_n 3, 1) := by decide +kernel
theorem dX11_of_65 : decode cX11_of 65 = .ok (.iadd, 1) := by decide +kernel
theorem dX11_of_66 : decode cX11_of 66 = .ok (.iaload, 1) := by decide +kernel
theorem dX11_of_67 : decode cX11_of 67 = .ok (.ireturn, 1) := by decide +kernel
theorem dX11_of_68 : decode cX11_of 68 = .ok (.aload_n 0, 1) := by decide +kernel
theorem dX11_of_69 : decode cX11_of 69 = .ok (.getfield 7, 3) := by decide +kernel
theorem dX11_of_72 : decode cX11_of 72 = .ok (.bipush 24, 2) := by decide +kernel
theorem dX11_of_74 : decode cX11_of 74 = .ok (.iload_n 3, 1) := by decide +kernel
theorem dX11_of_75 : decode cX11_of 75 = .ok (.iadd, 1) := by decide +kernel
theorem dX11_of_76 : decode cX11_of 76 = .ok (.iaload, 1) := by decide +kernel
theorem dX11_of_77 : decode cX11_of 77 = .ok (.ireturn, 1) := by decide +kernel
theorem dX11_of_78 : decode cX11_of 78 = .ok (.aload_n 0, 1) := by decide +kernel
theorem dX11_of_79 : decode cX11_of 79 = .ok (.aload_n 0, 1) := by decide +kernel
theorem dX11_of_80 : decode cX11_of 80 = .ok (.getfield 7, 3) := by decide +kernel
theorem dX11_of_83 : decode cX11_of 83 = .ok (.iconst 1, 1) := by decide +kernel
theorem dX11_of_84 : decode cX11_of 84 = .ok (.iaload, 1) := by decide +kernel
theorem dX11_of_85 : decode cX11_of 85 = .ok (.iload_n 3, 1) := by decide +kernel
theorem dX11_of_86 : decode cX11_of 86 = .ok (.invokevirtual 329, 3) := by decide +kernel
theorem dX11_of_89 : decode cX11_of 89 = .ok (.ireturn, 1) := by decide +kernel
theorem dX11_of_90 : decode cX11_of 90 = .ok (.aload_n 0, 1) := by decide +kernel
theorem dX11_of_91 : decode cX11_of 91 = .ok (.iload_n 3, 1) := by decide +kernel
theorem dX11_of_92 : decode cX11_of 92 = .ok (.invokevirtual 344, 3) := by decide +kernel
theorem dX11_of_95 : decode cX11_of 95 = .ok (.ireturn, 1) := by decide +kernel
theorem dX11_of_96 : decode cX11_of 96 = .ok (.bipush (-2), 2) := by decide +kernel
theorem dX11_of_98 : decode cX11_of 98 = .ok (.ireturn, 1) := by decide +kernel
theorem dX11_at_0 : decode cX11_at 0 = .ok (.iload_n 1, 1) := by decide +kernel
theorem dX11_at_1 : decode cX11_at 1 = .ok (.iconst 0, 1) := by decide +kernel
theorem dX11_at_2 : decode cX11_at 2 = .ok (.aload_n 0, 1) := by decide +kernel
theorem dX11_at_3 : decode cX11_at 3 = .ok (.getfield 7, 3) := by decide +kernel
theorem dX11_at_6 : decode cX11_at 6 = .ok (.bipush 7, 2) := by decide +kernel
theorem dX11_at_8 : decode cX11_at 8 = .ok (.iaload, 1) := by decide +kernel
theorem dX11_at_9 : decode cX11_at 9 = .ok (.iconst 1, 1) := by decide +kernel
theorem dX11_at_10 : decode cX11_at 10 = .ok (.isub, 1) := by decide +kernel
theorem dX11_at_11 : decode cX11_at 11 = .ok (.invokestatic 83, 3) := by decide +kernel
theorem dX11_at_14 : decode cX11_at 14 = .ok (.ifCond .ne 5, 3) := by decide +kernel
theorem dX11_at_17 : decode cX11_at 17 = .ok (.iconst (-1), 1) := by decide +kernel
theorem dX11_at_18 : decode cX11_at 18 = .ok (.ireturn, 1) := by decide +kernel
theorem dX11_at_19 : decode cX11_at 19 = .ok (.iconst 0, 1) := by decide +kernel
theorem dX11_at_20 : decode cX11_at 20 = .ok (.istore_n 2, 1) := by decide +kernel
theorem dX11_at_21 : decode cX11_at 21 = .ok (.iload_n 2, 1) := by decide +kernel
theorem dX11_at_22 : decode cX11_at 22 = .ok (.bipush 8, 2) := by decide +kernel
theorem dX11_at_24 : decode cX11_at 24 = .ok (.if_icmp .ge 33, 3) := by decide +kernel
theorem dX11_at_27 : decode cX11_at 27 = .ok (.aload_n 0, 1) := by decide +kernel
theorem dX11_at_28 : decode cX11_at 28 = .ok (.iload_n 2, 1) := by decide +kernel
theorem dX11_at_29 : decode cX11_at 29 = .ok (.invokevirtual 91, 3) := by decide +kernel
theorem dX11_at_32 : decode cX11_at 32 = .ok (.ifCond .eq 19, 3) := by decide +kernel
theorem dX11_at_35 : decode cX11_at 35 = .ok (.aload_n 0, 1) := by decide +kernel
theorem dX11_at_36 : decode cX11_at 36 = .ok (.iload_n 2, 1) := by decide +kernel
theorem dX11_at_37 : decode cX11_at 37 = .ok (.invokevirtual 94, 3) := by decide +kernel
theorem dX11_at_40 : decode cX11_at 40 = .ok (.iload_n 1, 1) := by decide +kernel
theorem dX11_at_41 : decode cX11_at 41 = .ok (.invokestatic 251, 3) := by decide +kernel
theorem dX11_at_44 : decode cX11_at 44 = .ok (.ifCond .eq 7, 3) := by decide +kernel
theorem dX11_at_47 : decode cX11_at 47 = .ok (.iload_n 2, 1) := by decide +kernel
theorem dX11_at_48 : decode cX11_at 48 = .ok (.iconst 1, 1) := by decide +kernel
theorem dX11_at_49 : decode cX11_at 49 = .ok (.iadd, 1) := by decide +kernel
theorem dX11_at_50 : decode cX11_at 50 = .ok (.ireturn, 1) := by decide +kernel
theorem dX11_at_51 : decode cX11_at 51 = .ok (.iinc 2 1, 3) := by decide +kernel
theorem dX11_at_54 : decode cX11_at 54 = .ok (.goto (-33), 3) := by decide +kernel
theorem dX11_at_57 : decode cX11_at 57 = .ok (.iconst 0, 1) := by decide +kernel
theorem dX11_at_58 : decode cX11_at 58 = .ok (.ireturn, 1) := by decide +kernel
theorem dX11_is_0 : decode cX11_is 0 = .ok (.iload_n 1, 1) := by decide +kernel
theorem dX11_is_1 : decode cX11_is 1 = .ok (.iconst 0, 1) := by decide +kernel
theorem dX11_is_2 : decode cX11_is 2 = .ok (.iconst 1, 1) := by decide +kernel
theorem dX11_is_3 : decode cX11_is 3 = .ok (.invokestatic 83, 3) := by decide +kernel
theorem dX11_is_6 : decode cX11_is 6 = .ok (.ifCond .eq 12, 3) := by decide +kernel
theorem dX11_is_9 : decode cX11_is 9 = .ok (.aload_n 0, 1) := by decide +kernel
theorem dX11_is_10 : decode cX11_is 10 = .ok (.getfield 7, 3) := by decide +kernel
theorem dX11_is_13 : decode cX11_is 13 = .ok (.iconst 4, 1) := by decide +kernel
theorem dX11_is_14 : decode cX11_is 14 = .ok (.iload_n 1, 1) := by decide +kernel
theorem dX11_is_15 : decode cX11_is 15 = .ok (.iadd, 1) := by decide +kernel
theorem dX11_is_16 : decode cX11_is 16 = .ok (.iaload, 1) := by decide +kernel
theorem dX11_is_17 : decode cX11_is 17 = .ok (.ireturn, 1) := by decide +kernel
theorem dX11_is_18 : decode cX11_is 18 = .ok (.iload_n 1, 1) := by decide +kernel
theorem dX11_is_19 : decode cX11_is 19 = .ok (.iconst 2, 1) := by decide +kernel
theorem dX11_is_20 : decode cX11_is 20 = .ok (.if_icmp .ne 13, 3) := by decide +kernel
theorem dX11_is_23 : decode cX11_is 23 = .ok (.aload_n 0, 1) := by decide +kernel
theorem dX11_is_24 : decode cX11_is 24 = .ok (.getfield 7, 3) := by decide +kernel
theorem dX11_is_27 : decode cX11_is 27 = .ok (.bipush 7, 2) := by decide +kernel
theorem dX11_is_29 : decode cX11_is 29 = .ok (.iaload, 1) := by decide +kernel
theorem dX11_is_30 : decode cX11_is 30 = .ok (.goto 36, 3) := by decide +kernel
theorem dX11_is_33 : decode cX11_is 33 = .ok (.iload_n 1, 1) := by decide +kernel
theorem dX11_is_34 : decode cX11_is 34 = .ok (.iconst 3, 1) := by decide +kernel
theorem dX11_is_35 : decode cX11_is 35 = .ok (.if_icmp .ne 10, 3) := by decide +kernel
theorem dX11_is_38 : decode cX11_is 38 = .ok (.aload_n 0, 1) := by decide +kernel
theorem dX11_is_39 : decode cX11_is 39 = .ok (.invokevirtual 301, 3) := by decide +kernel
theorem dX11_is_42 : decode cX11_is 42 = .ok (.goto 24, 3) := by decide +kernel
theorem dX11_is_45 : decode cX11_is 45 = .ok (.iload_n 1, 1) := by decide +kernel
theorem dX11_is_46 : decode cX11_is 46 = .ok (.iconst 4, 1) := by decide +kernel
theorem dX11_is_47 : decode cX11_is 47 = .ok (.if_icmp .ne 17, 3) := by decide +kernel
theorem dX11_is_50 : decode cX11_is 50 = .ok (.aload_n 0, 1) := by decide +kernel
theorem dX11_is_51 : decode cX11_is 51 = .ok (.invokevirtual 338, 3) := by decide +kernel
theorem dX11_is_54 : decode cX11_is 54 = .ok (.aload_n 0, 1) := by decide +kernel
theorem dX11_is_55 : decode cX11_is 55 = .ok (.invokevirtual 275, 3) := by decide +kernel
theorem dX11_is_58 : decode cX11_is 58 = .ok (.iconst (-1), 1) := by decide +kernel
theorem dX11_is_59 : decode cX11_is 59 = .ok (.ixor, 1) := by decide +kernel
theorem dX11_is_60 : decode cX11_is 60 = .ok (.iand, 1) := by decide +kernel
theorem dX11_is_61 : decode cX11_is 61 = .ok (.goto 5, 3) := by decide +kernel
theorem dX11_is_64 : decode cX11_is 64 = .ok (.bipush (-2), 2) := by decide +kernel
theorem dX11_is_66 : decode cX11_is 66 = .ok (.ireturn, 1) := by decide +kernel
theorem dX11_lineOf_0 : decode cX11_lineOf 0 = .ok (.aload_n 0, 1) := by decide +kernel
theorem dX11_lineOf_1 : decode cX11_lineOf 1 = .ok (.getfield 7, 3) := by decide +kernel
theorem dX11_lineOf_4 : decode cX11_lineOf 4 = .ok (.sipush 1638, 3) := by decide +kernel
theorem dX11_lineOf_7 : decode cX11_lineOf 7 = .ok (.iload_n 1, 1) := by decide +kernel
theorem dX11_lineOf_8 : decode cX11_lineOf 8 = .ok (.iadd, 1) := by decide +kernel
theorem dX11_lineOf_9 : decode cX11_lineOf 9 = .ok (.iaload, 1) := by decide +kernel
theorem dX11_lineOf_10 : decode cX11_lineOf 10 = .ok (.istore_n 3, 1) := by decide +kernel
theorem dX11_lineOf_11 : decode cX11_lineOf 11 = .ok (.iload_n 2, 1) := by decide +kernel
theorem dX11_lineOf_12 : decode cX11_lineOf 12 = .ok (.ifCond .ne 11, 3) := by decide +kernel
theorem dX11_lineOf_15 : decode cX11_lineOf 15 = .ok (.iload_n 3, 1) := by decide +kernel
theorem dX11_lineOf_16 : decode cX11_lineOf 16 = .ok (.sipush 432, 3) := by decide +kernel
theorem dX11_lineOf_19 : decode cX11_lineOf 19 = .ok (.idiv, 1) := by decide +kernel
theorem dX11_lineOf_20 : decode cX11_lineOf 20 = .ok (.goto 36, 3) := by decide +kernel
theorem dX11_lineOf_23 : decode cX11_lineOf 23 = .ok (.iload_n 2, 1) := by decide +kernel
theorem dX11_lineOf_24 : decode cX11_lineOf 24 = .ok (.iconst 1, 1) := by decide +kernel
theorem dX11_lineOf_25 : decode cX11_lineOf 25 = .ok (.if_icmp .ne 13, 3) := by decide +kernel
theorem dX11_lineOf_28 : decode cX11_lineOf 28 = .ok (.iload_n 3, 1) := by decide +kernel
theorem dX11_lineOf_29 : decode cX11_lineOf 29 = .ok (.bipush 48, 2) := by decide +kernel
theorem dX11_lineOf_31 : decode cX11_lineOf 31 = .ok (.idiv, 1) := by decide +kernel
theorem dX11_lineOf_32 : decode cX11_lineOf 32 = .ok (.bipush 9, 2) := by decide +kernel
theorem dX11_lineOf_34 : decode cX11_lineOf 34 = .ok (.irem, 1) := by decide +kernel
theorem dX11_lineOf_35 : decode cX11_lineOf 35 = .ok (.goto 21, 3) := by decide +kernel
theorem dX11_lineOf_38 : decode cX11_lineOf 38 = .ok (.iload_n 2, 1) := by decide +kernel
theorem dX11_lineOf_39 : decode cX11_lineOf 39 = .ok (.iconst 2, 1) := by decide +kernel
theorem dX11_lineOf_40 : decode cX11_lineOf 40 = .ok (.if_icmp .ne 12, 3) := by decide +kernel
theorem dX11_lineOf_43 : decode cX11_lineOf 43 = .ok (.iload_n 3, 1) := by decide +kernel
theorem dX11_lineOf_44 : decode cX11_lineOf 44 = .ok (.bipush 16, 2) := by decide +kernel
theorem dX11_lineOf_46 : decode cX11_lineOf 46 = .ok (.idiv, 1) := by decide +kernel
theorem dX11_lineOf_47 : decode cX11_lineOf 47 = .ok (.iconst 3, 1) := by decide +kernel
theorem dX11_lineOf_48 : decode cX11_lineOf 48 = .ok (.irem, 1) := by decide +kernel
theorem dX11_lineOf_49 : decode cX11_lineOf 49 = .ok (.goto 7, 3) := by decide +kernel
theorem dX11_lineOf_52 : decode cX11_lineOf 52 = .ok (.iload_n 3, 1) := by decide +kernel
theorem dX11_lineOf_53 : decode cX11_lineOf 53 = .ok (.bipush 16, 2) := by decide +kernel
theorem dX11_lineOf_55 : decode cX11_lineOf 55 = .ok (.irem, 1) := by decide +kernel
theorem dX11_lineOf_56 : decode cX11_lineOf 56 = .ok (.ireturn, 1) := by decide +kernel
theorem dX11_book_0 : decode cX11_book 0 = .ok (.iload_n 1, 1) := by decide +kernel
theorem dX11_book_1 : decode cX11_book 1 = .ok (.iconst (-1), 1) := by decide +kernel
theorem dX11_book_2 : decode cX11_book 2 = .ok (.if_icmp .ne 11, 3) := by decide +kernel
theorem dX11_book_5 : decode cX11_book 5 = .ok (.aload_n 0, 1) := by decide +kernel
theorem dX11_book_6 : decode cX11_book 6 = .ok (.getfield 7, 3) := by decide +kernel
theorem dX11_book_9 : decode cX11_book 9 = .ok (.bipush 6, 2) := by decide +kernel
theorem dX11_book_11 : decode cX11_book 11 = .ok (.iaload, 1) := by decide +kernel
theorem dX11_book_12 : decode cX11_book 12 = .ok (.ireturn, 1) := by decide +kernel
theorem dX11_book_13 : decode cX11_book 13 = .ok (.iload_n 1, 1) := by decide +kernel
theorem dX11_book_14 : decode cX11_book 14 = .ok (.iconst 0, 1) := by decide +kernel
theorem dX11_book_15 : decode cX11_book 15 = .ok (.aload_n 0, 1) := by decide +kernel
theorem dX11_book_16 : decode cX11_book 16 = .ok (.getfield 7, 3) := by decide +kernel
theorem dX11_book_19 : decode cX11_book 19 = .ok (.bipush 6, 2) := by decide +kernel
theorem dX11_book_21 : decode cX11_book 21 = .ok (.iaload, 1) := by decide +kernel
theorem dX11_book_22 : decode cX11_book 22 = .ok (.iconst 1, 1) := by decide +kernel
theorem dX11_book_23 : decode cX11_book 23 = .ok (.isub, 1) := by decide +kernel
theorem dX11_book_24 : decode cX11_book 24 = .ok (.invokestatic 83, 3) := by decide +kernel
theorem dX11_book_27 : decode cX11_book 27 = .ok (.ifCond .eq 21, 3) := by decide +kernel
theorem dX11_book_30 : decode cX11_book 30 = .ok (.iload_n 2, 1) := by decide +kernel
theorem dX11_book_31 : decode cX11_book 31 = .ok (.iconst 0, 1) := by decide +kernel
theorem dX11_book_32 : decode cX11_book 32 = .ok (.iconst 3, 1) := by decide +kernel
theorem dX11_book_33 : decode cX11_book 33 = .ok (.invokestatic 83, 3) := by decide +kernel
theorem dX11_book_36 : decode cX11_book 36 = .ok (.ifCond .eq 12, 3) := by decide +kernel
theorem dX11_book_39 : decode cX11_book 39 = .ok (.aload_n 0, 1) := by decide +kernel
theorem dX11_book_40 : decode cX11_book 40 = .ok (.iload_n 1, 1) := by decide +kernel
theorem dX11_book_41 : decode cX11_book 41 = .ok (.iload_n 2, 1) := by decide +kernel
theorem dX11_book_42 : decode cX11_book 42 = .ok (.invokevirtual 310, 3) := by decide +kernel
theorem dX11_book_45 : decode cX11_book 45 = .ok (.goto 5, 3) := by decide +kernel
theorem dX11_book_48 : decode cX11_book 48 = .ok (.bipush (-2), 2) := by decide +kernel
theorem dX11_book_50 : decode cX11_book 50 = .ok (.ireturn, 1) := by decide +kernel
theorem dX11_ledger_0 : decode cX11_ledger 0 = .ok (.iload_n 1, 1) := by decide +kernel
theorem dX11_ledger_1 : decode cX11_ledger 1 = .ok (.iconst 0, 1) := by decide +kernel
theorem dX11_ledger_2 : decode cX11_ledger 2 = .ok (.iconst 2, 1) := by decide +kernel
theorem dX11_ledger_3 : decode cX11_ledger 3 = .ok (.invokestatic 83, 3) := by decide +kernel
theorem dX11_ledger_6 : decode cX11_ledger 6 = .ok (.ifCond .ne 6, 3) := by decide +kernel
theorem dX11_ledger_9 : decode cX11_ledger 9 = .ok (.bipush (-2), 2) := by decide +kernel
theorem dX11_ledger_11 : decode cX11_ledger 11 = .ok (.ireturn, 1) := by decide +kernel
theorem dX11_ledger_12 : decode cX11_ledger 12 = .ok (.iconst 0, 1) := by decide +kernel
theorem dX11_ledger_13 : decode cX11_ledger 13 = .ok (.istore_n 2, 1) := by decide +kernel
theorem dX11_ledger_14 : decode cX11_ledger 14 = .ok (.iconst 0, 1) := by decide +kernel
theorem dX11_ledger_15 : decode cX11_ledger 15 = .ok (.istore_n 3, 1) := by decide +kernel
theorem dX11_ledger_16 : decode cX11_ledger 16 = .ok (.iload_n 3, 1) := by decide +kernel
theorem dX11_ledger_17 : decode cX11_ledger 17 = .ok (.aload_n 0, 1) := by decide +kernel
theorem dX11_ledger_18 : decode cX11_ledger 18 = .ok (.getfield 7, 3) := by decide +kernel
theorem dX11_ledger_21 : decode cX11_ledger 21 = .ok (.bipush 6, 2) := by decide +kernel
theorem dX11_ledger_23 : decode cX11_ledger 23 = .ok (.iaload, 1) := by decide +kernel
theorem dX11_ledger_24 : decode cX11_ledger 24 = .ok (.if_icmp .ge 27, 3) := by decide +kernel
theorem dX11_ledger_27 : decode cX11_ledger 27 = .ok (.iload_n 2, 1) := by decide +kernel
theorem dX11_ledger_28 : decode cX11_ledger 28 = .ok (.aload_n 0, 1) := by decide +kernel
theorem dX11_ledger_29 : decode cX11_ledger 29 = .ok (.iload_n 3, 1) := by decide +kernel
theorem dX11_ledger_30 : decode cX11_ledger 30 = .ok (.iconst 2, 1) := by decide +kernel
theorem dX11_ledger_31 : decode cX11_ledger 31 = .ok (.invokevirtual 310, 3) := by decide +kernel
theorem dX11_ledger_34 : decode cX11_ledger 34 = .ok (.iload_n 1, 1) := by decide +kernel
theorem dX11_ledger_35 : decode cX11_ledger 35 = .ok (.if_icmp .ne 7, 3) := by decide +kernel
theorem dX11_ledger_38 : decode cX11_ledger 38 = .ok (.iconst 1, 1) := by decide +kernel
theorem dX11_ledger_39 : decode cX11_ledger 39 = .ok (.goto 4, 3) := by decide +kernel
theorem dX11_ledger_42 : decode cX11_ledger 42 = .ok (.iconst 0, 1) := by decide +kernel
theorem dX11_ledger_43 : decode cX11_ledger 43 = .ok (.iadd, 1) := by decide +kernel
theorem dX11_ledger_44 : decode cX11_ledger 44 = .ok (.istore_n 2, 1) := by decide +kernel
theorem dX11_ledger_45 : decode cX11_ledger 45 = .ok (.iinc 3 1, 3) := by decide +kernel
theorem dX11_ledger_48 : decode cX11_ledger 48 = .ok (.goto (-32), 3) := by decide +kernel
theorem dX11_ledger_51 : decode cX11_ledger 51 = .ok (.iload_n 2, 1) := by decide +kernel
theorem dX11_ledger_52 : decode cX11_ledger 52 = .ok (.ireturn, 1) := by decide +kernel
theorem dX11_eldest_0 : decode cX11_eldest 0 = .ok (.iconst (-1), 1) := by decide +kernel
theorem dX11_eldest_1 : decode cX11_eldest 1 = .ok (.istore_n 1, 1) := by decide +kernel
theorem dX11_eldest_2 : decode cX11_eldest 2 = .ok (.iconst 0, 1) := by decide +kernel
theorem dX11_eldest_3 : decode cX11_eldest 3 = .ok (.istore_n 2, 1) := by decide +kernel
theorem dX11_eldest_4 : decode cX11_eldest 4 = .ok (.iload_n 2, 1) := by decide +kernel
theorem dX11_eldest_5 : decode cX11_eldest 5 = .ok (.bipush 8, 2) := by decide +kernel
theorem dX11_eldest_7 : decode cX11_eldest 7 = .ok (.if_icmp .ge 45, 3) := by decide +kernel
theorem dX11_eldest_10 : decode cX11_eldest 10 = .ok (.aload_n 0, 1) := by decide +kernel
theorem dX11_eldest_11 : decode cX11_eldest 11 = .ok (.iload_n 2, 1) := by decide +kernel
theorem dX11_eldest_12 : decode cX11_eldest 12 = .ok (.invokevirtual 91, 3) := by decide +kernel
theorem dX11_eldest_15 : decode cX11_eldest 15 = .ok (.ifCond .eq 31, 3) := by decide +kernel
theorem dX11_eldest_18 : decode cX11_eldest 18 = .ok (.iload_n 1, 1) := by decide +kernel
theorem dX11_eldest_19 : decode cX11_eldest 19 = .ok (.iconst (-1), 1) := by decide +kernel
theorem dX11_eldest_20 : decode cX11_eldest 20 = .ok (.if_icmp .eq 24, 3) := by decide +kernel
theorem dX11_eldest_23 : decode cX11_eldest 23 = .ok (.aload_n 0, 1) := by decide +kernel
theorem dX11_eldest_24 : decode cX11_eldest 24 = .ok (.getfield 7, 3) := by decide +kernel
theorem dX11_eldest_27 : decode cX11_eldest 27 = .ok (.bipush 24, 2) := by decide +kernel
theorem dX11_eldest_29 : decode cX11_eldest 29 = .ok (.iload_n 2, 1) := by decide +kernel
theorem dX11_eldest_30 : decode cX11_eldest 30 = .ok (.iadd, 1) := by decide +kernel
theorem dX11_eldest_31 : decode cX11_eldest 31 = .ok (.iaload, 1) := by decide +kernel
theorem dX11_eldest_32 : decode cX11_eldest 32 = .ok (.aload_n 0, 1) := by decide +kernel
theorem dX11_eldest_33 : decode cX11_eldest 33 = .ok (.getfield 7, 3) := by decide +kernel
theorem dX11_eldest_36 : decode cX11_eldest 36 = .ok (.bipush 24, 2) := by decide +kernel
theorem dX11_eldest_38 : decode cX11_eldest 38 = .ok (.iload_n 1, 1) := by decide +kernel
theorem dX11_eldest_39 : decode cX11_eldest 39 = .ok (.iadd, 1) := by decide +kernel
theorem dX11_eldest_40 : decode cX11_eldest 40 = .ok (.iaload, 1) := by decide +kernel
theorem dX11_eldest_41 : decode cX11_eldest 41 = .ok (.if_icmp .le 5, 3) := by decide +kernel
theorem dX11_eldest_44 : decode cX11_eldest 44 = .ok (.iload_n 2, 1) := by decide +kernel
theorem dX11_eldest_45 : decode cX11_eldest 45 = .ok (.istore_n 1, 1) := by decide +kernel
theorem dX11_eldest_46 : decode cX11_eldest 46 = .ok (.iinc 2 1, 3) := by decide +kernel
theorem dX11_eldest_49 : decode cX11_eldest 49 = .ok (.goto (-45), 3) := by decide +kernel
theorem dX11_eldest_52 : decode cX11_eldest 52 = .ok (.iload_n 1, 1) := by decide +kernel
theorem dX11_eldest_53 : decode cX11_eldest 53 = .ok (.iconst (-1), 1) := by decide +kernel
theorem dX11_eldest_54 : decode cX11_eldest 54 = .ok (.if_icmp .ne 7, 3) := by decide +kernel
theorem dX11_eldest_57 : decode cX11_eldest 57 = .ok (.iconst (-1), 1) := by decide +kernel
theorem dX11_eldest_58 : decode cX11_eldest 58 = .ok (.goto 6, 3) := by decide +kernel
theorem dX11_eldest_61 : decode cX11_eldest 61 = .ok (.iload_n 1, 1) := by decide +kernel
theorem dX11_eldest_62 : decode cX11_eldest 62 = .ok (.iconst 1, 1) := by decide +kernel
theorem dX11_eldest_63 : decode cX11_eldest 63 = .ok (.iadd, 1) := by decide +kernel
theorem dX11_eldest_64 : decode cX11_eldest 64 = .ok (.ireturn, 1) := by decide +kernel
theorem dX11_apartOf_0 : decode cX11_apartOf 0 = .ok (.aload_n 0, 1) := by decide +kernel
theorem dX11_apartOf_1 : decode cX11_apartOf 1 = .ok (.getfield 7, 3) := by decide +kernel
theorem dX11_apartOf_4 : decode cX11_apartOf 4 = .ok (.bipush 16, 2) := by decide +kernel
theorem dX11_apartOf_6 : decode cX11_apartOf 6 = .ok (.iload_n 1, 1) := by decide +kernel
theorem dX11_apartOf_7 : decode cX11_apartOf 7 = .ok (.iadd, 1) := by decide +kernel
theorem dX11_apartOf_8 : decode cX11_apartOf 8 = .ok (.iaload, 1) := by decide +kernel
theorem dX11_apartOf_9 : decode cX11_apartOf 9 = .ok (.aload_n 0, 1) := by decide +kernel
theorem dX11_apartOf_10 : decode cX11_apartOf 10 = .ok (.getfield 7, 3) := by decide +kernel
theorem dX11_apartOf_13 : decode cX11_apartOf 13 = .ok (.bipush 8, 2) := by decide +kernel
theorem dX11_apartOf_15 : decode cX11_apartOf 15 = .ok (.iload_n 1, 1) := by decide +kernel
theorem dX11_apartOf_16 : decode cX11_apartOf 16 = .ok (.iadd, 1) := by decide +kernel
theorem dX11_apartOf_17 : decode cX11_apartOf 17 = .ok (.iaload, 1) := by decide +kernel
theorem dX11_apartOf_18 : decode cX11_apartOf 18 = .ok (.isub, 1) := by decide +kernel
theorem dX11_apartOf_19 : decode cX11_apartOf 19 = .ok (.ireturn, 1) := by decide +kernel
theorem dX11_widest_0 : decode cX11_widest 0 = .ok (.iconst (-1), 1) := by decide +kernel
theorem dX11_widest_1 : decode cX11_widest 1 = .ok (.istore_n 1, 1) := by decide +kernel
theorem dX11_widest_2 : decode cX11_widest 2 = .ok (.iconst 0, 1) := by decide +kernel
theorem dX11_widest_3 : decode cX11_widest 3 = .ok (.istore_n 2, 1) := by decide +kernel
theorem dX11_widest_4 : decode cX11_widest 4 = .ok (.iload_n 2, 1) := by decide +kernel
theorem dX11_widest_5 : decode cX11_widest 5 = .ok (.bipush 8, 2) := by decide +kernel
theorem dX11_widest_7 : decode cX11_widest 7 = .ok (.if_icmp .ge 37, 3) := by decide +kernel
theorem dX11_widest_10 : decode cX11_widest 10 = .ok (.aload_n 0, 1) := by decide +kernel
theorem dX11_widest_11 : decode cX11_widest 11 = .ok (.iload_n 2, 1) := by decide +kernel
theorem dX11_widest_12 : decode cX11_widest 12 = .ok (.invokevirtual 91, 3) := by decide +kernel
theorem dX11_widest_15 : decode cX11_widest 15 = .ok (.ifCond .eq 23, 3) := by decide +kernel
theorem dX11_widest_18 : decode cX11_widest 18 = .ok (.iload_n 1, 1) := by decide +kernel
theorem dX11_widest_19 : decode cX11_widest 19 = .ok (.iconst (-1), 1) := by decide +kernel
theorem dX11_widest_20 : decode cX11_widest 20 = .ok (.if_icmp .eq 16, 3) := by decide +kernel
theorem dX11_widest_23 : decode cX11_widest 23 = .ok (.aload_n 0, 1) := by decide +kernel
theorem dX11_widest_24 : decode cX11_widest 24 = .ok (.iload_n 2, 1) := by decide +kernel
theorem dX11_widest_25 : decode cX11_widest 25 = .ok (.invokevirtual 389, 3) := by decide +kernel
theorem dX11_widest_28 : decode cX11_widest 28 = .ok (.aload_n 0, 1) := by decide +kernel
theorem dX11_widest_29 : decode cX11_widest 29 = .ok (.iload_n 1, 1) := by decide +kernel
theorem dX11_widest_30 : decode cX11_widest 30 = .ok (.invokevirtual 389, 3) := by decide +kernel
theorem dX11_widest_33 : decode cX11_widest 33 = .ok (.if_icmp .le 5, 3) := by decide +kernel
theorem dX11_widest_36 : decode cX11_widest 36 = .ok (.iload_n 2, 1) := by decide +kernel
theorem dX11_widest_37 : decode cX11_widest 37 = .ok (.istore_n 1, 1) := by decide +kernel
theorem dX11_widest_38 : decode cX11_widest 38 = .ok (.iinc 2 1, 3) := by decide +kernel
theorem dX11_widest_41 : decode cX11_widest 41 = .ok (.goto (-37), 3) := by decide +kernel
theorem dX11_widest_44 : decode cX11_widest 44 = .ok (.iload_n 1, 1) := by decide +kernel
theorem dX11_widest_45 : decode cX11_widest 45 = .ok (.iconst (-1), 1) := by decide +kernel
theorem dX11_widest_46 : decode cX11_widest 46 = .ok (.if_icmp .ne 7, 3) := by decide +kernel
theorem dX11_widest_49 : decode cX11_widest 49 = .ok (.iconst (-1), 1) := by decide +kernel
theorem dX11_widest_50 : decode cX11_widest 50 = .ok (.goto 6, 3) := by decide +kernel
theorem dX11_widest_53 : decode cX11_widest 53 = .ok (.iload_n 1, 1) := by decide +kernel
theorem dX11_widest_54 : decode cX11_widest 54 = .ok (.iconst 1, 1) := by decide +kernel
theorem dX11_widest_55 : decode cX11_widest 55 = .ok (.iadd, 1) := by decide +kernel
theorem dX11_widest_56 : decode cX11_widest 56 = .ok (.ireturn, 1) := by decide +kernel
theorem dX11_mirror_0 : decode cX11_mirror 0 = .ok (.iconst 0, 1) := by decide +kernel
theorem dX11_mirror_1 : decode cX11_mirror 1 = .ok (.istore_n 1, 1) := by decide +kernel
theorem dX11_mirror_2 : decode cX11_mirror 2 = .ok (.iload_n 1, 1) := by decide +kernel
theorem dX11_mirror_3 : decode cX11_mirror 3 = .ok (.bipush 8, 2) := by decide +kernel
theorem dX11_mirror_5 : decode cX11_mirror 5 = .ok (.if_icmp .ge 50, 3) := by decide +kernel
theorem dX11_mirror_8 : decode cX11_mirror 8 = .ok (.aload_n 0, 1) := by decide +kernel
theorem dX11_mirror_9 : decode cX11_mirror 9 = .ok (.iload_n 1, 1) := by decide +kernel
theorem dX11_mirror_10 : decode cX11_mirror 10 = .ok (.invokevirtual 91, 3) := by decide +kernel
theorem dX11_mirror_13 : decode cX11_mirror 13 = .ok (.ifCond .eq 36, 3) := by decide +kernel
theorem dX11_mirror_16 : decode cX11_mirror 16 = .ok (.aload_n 0, 1) := by decide +kernel
theorem dX11_mirror_17 : decode cX11_mirror 17 = .ok (.getfield 7, 3) := by decide +kernel
theorem dX11_mirror_20 : decode cX11_mirror 20 = .ok (.bipush 8, 2) := by decide +kernel
theorem dX11_mirror_22 : decode cX11_mirror 22 = .ok (.iload_n 1, 1) := by decide +kernel
theorem dX11_mirror_23 : decode cX11_mirror 23 = .ok (.iadd, 1) := by decide +kernel
theorem dX11_mirror_24 : decode cX11_mirror 24 = .ok (.iaload, 1) := by decide +kernel
theorem dX11_mirror_25 : decode cX11_mirror 25 = .ok (.aload_n 0, 1) := by decide +kernel
theorem dX11_mirror_26 : decode cX11_mirror 26 = .ok (.getfield 7, 3) := by decide +kernel
theorem dX11_mirror_29 : decode cX11_mirror 29 = .ok (.bipush 16, 2) := by decide +kernel
theorem dX11_mirror_31 : decode cX11_mirror 31 = .ok (.iload_n 1, 1) := by decide +kernel
theorem dX11_mirror_32 : decode cX11_mirror 32 = .ok (.iadd, 1) := by decide +kernel
theorem dX11_mirror_33 : decode cX11_mirror 33 = .ok (.iaload, 1) := by decide +kernel
theorem dX11_mirror_34 : decode cX11_mirror 34 = .ok (.iadd, 1) := by decide +kernel
theorem dX11_mirror_35 : decode cX11_mirror 35 = .ok (.aload_n 0, 1) := by decide +kernel
theorem dX11_mirror_36 : decode cX11_mirror 36 = .ok (.getfield 7, 3) := by decide +kernel
theorem dX11_mirror_39 : decode cX11_mirror 39 = .ok (.bipush 7, 2) := by decide +kernel
theorem dX11_mirror_41 : decode cX11_mirror 41 = .ok (.iaload, 1) := by decide +kernel
theorem dX11_mirror_42 : decode cX11_mirror 42 = .ok (.iconst 1, 1) := by decide +kernel
theorem dX11_mirror_43 : decode cX11_mirror 43 = .ok (.isub, 1) := by decide +kernel
theorem dX11_mirror_44 : decode cX11_mirror 44 = .ok (.if_icmp .eq 5, 3) := by decide +kernel
theorem dX11_mirror_47 : decode cX11_mirror 47 = .ok (.iconst 0, 1) := by decide +kernel
theorem dX11_mirror_48 : decode cX11_mirror 48 = .ok (.ireturn, 1) := by decide +kernel
theorem dX11_mirror_49 : decode cX11_mirror 49 = .ok (.iinc 1 1, 3) := by decide +kernel
theorem dX11_mirror_52 : decode cX11_mirror 52 = .ok (.goto (-50), 3) := by decide +kernel
theorem dX11_mirror_55 : decode cX11_mirror 55 = .ok (.iconst 1, 1) := by decide +kernel
theorem dX11_mirror_56 : decode cX11_mirror 56 = .ok (.ireturn, 1) := by decide +kernel
theorem dX11_inside_0 : decode cX11_inside 0 = .ok (.aload_n 0, 1) := by decide +kernel
theorem dX11_inside_1 : decode cX11_inside 1 = .ok (.getfield 7, 3) := by decide +kernel
theorem dX11_inside_4 : decode cX11_inside 4 = .ok (.bipush 8, 2) := by decide +kernel
theorem dX11_inside_6 : decode cX11_inside 6 = .ok (.iload_n 1, 1) := by decide +kernel
theorem dX11_inside_7 : decode cX11_inside 7 = .ok (.iadd, 1) := by decide +kernel
theorem dX11_inside_8 : decode cX11_inside 8 = .ok (.iaload, 1) := by decide +kernel
theorem dX11_inside_9 : decode cX11_inside 9 = .ok (.aload_n 0, 1) := by decide +kernel
theorem dX11_inside_10 : decode cX11_inside 10 = .ok (.getfield 7, 3) := by decide +kernel
theorem dX11_inside_13 : decode cX11_inside 13 = .ok (.bipush 8, 2) := by decide +kernel
theorem dX11_inside_15 : decode cX11_inside 15 = .ok (.iload_n 2, 1) := by decide +kernel
theorem dX11_inside_16 : decode cX11_inside 16 = .ok (.iadd, 1) := by decide +kernel
theorem dX11_inside_17 : decode cX11_inside 17 = .ok (.iaload, 1) := by decide +kernel
theorem dX11_inside_18 : decode cX11_inside 18 = .ok (.iconst 1, 1) := by decide +kernel
theorem dX11_inside_19 : decode cX11_inside 19 = .ok (.iadd, 1) := by decide +kernel
theorem dX11_inside_20 : decode cX11_inside 20 = .ok (.aload_n 0, 1) := by decide +kernel
theorem dX11_inside_21 : decode cX11_inside 21 = .ok (.getfield 7, 3) := by decide +kernel
theorem dX11_inside_24 : decode cX11_inside 24 = .ok (.bipush 16, 2) := by decide +kernel
theorem dX11_inside_26 : decode cX11_inside 26 = .ok (.iload_n 2, 1) := by decide +kernel
theorem dX11_inside_27 : decode cX11_inside 27 = .ok (.iadd, 1) := by decide +kernel
theorem dX11_inside_28 : decode cX11_inside 28 = .ok (.iaload, 1) := by decide +kernel
theorem dX11_inside_29 : decode cX11_inside 29 = .ok (.iconst 1, 1) := by decide +kernel
theorem dX11_inside_30 : decode cX11_inside 30 = .ok (.isub, 1) := by decide +kernel
theorem dX11_inside_31 : decode cX11_inside 31 = .ok (.invokestatic 83, 3) := by decide +kernel
theorem dX11_inside_34 : decode cX11_inside 34 = .ok (.ifCond .eq 7, 3) := by decide +kernel
theorem dX11_inside_37 : decode cX11_inside 37 = .ok (.iconst 1, 1) := by decide +kernel
theorem dX11_inside_38 : decode cX11_inside 38 = .ok (.goto 4, 3) := by decide +kernel
theorem dX11_inside_41 : decode cX11_inside 41 = .ok (.iconst 0, 1) := by decide +kernel
theorem dX11_inside_42 : decode cX11_inside 42 = .ok (.istore_n 3, 1) := by decide +kernel
theorem dX11_inside_43 : decode cX11_inside 43 = .ok (.iload_n 3, 1) := by decide +kernel
theorem dX11_inside_44 : decode cX11_inside 44 = .ok (.aload_n 0, 1) := by decide +kernel
theorem dX11_inside_45 : decode cX11_inside 45 = .ok (.getfield 7, 3) := by decide +kernel
theorem dX11_inside_48 : decode cX11_inside 48 = .ok (.bipush 16, 2) := by decide +kernel
theorem dX11_inside_50 : decode cX11_inside 50 = .ok (.iload_n 1, 1) := by decide +kernel
theorem dX11_inside_51 : decode cX11_inside 51 = .ok (.iadd, 1) := by decide +kernel
theorem dX11_inside_52 : decode cX11_inside 52 = .ok (.iaload, 1) := by decide +kernel
theorem dX11_inside_53 : decode cX11_inside 53 = .ok (.aload_n 0, 1) := by decide +kernel
theorem dX11_inside_54 : decode cX11_inside 54 = .ok (.getfield 7, 3) := by decide +kernel
theorem dX11_inside_57 : decode cX11_inside 57 = .ok (.bipush 8, 2) := by decide +kernel
theorem dX11_inside_59 : decode cX11_inside 59 = .ok (.iload_n 2, 1) := by decide +kernel
theorem dX11_inside_60 : decode cX11_inside 60 = .ok (.iadd, 1) := by decide +kernel
theorem dX11_inside_61 : decode cX11_inside 61 = .ok (.iaload, 1) := by decide +kernel
theorem dX11_inside_62 : decode cX11_inside 62 = .ok (.iconst 1, 1) := by decide +kernel
theorem dX11_inside_63 : decode cX11_inside 63 = .ok (.iadd, 1) := by decide +kernel
theorem dX11_inside_64 : decode cX11_inside 64 = .ok (.aload_n 0, 1) := by decide +kernel
theorem dX11_inside_65 : decode cX11_inside 65 = .ok (.getfield 7, 3) := by decide +kernel
theorem dX11_inside_68 : decode cX11_inside 68 = .ok (.bipush 16, 2) := by decide +kernel
theorem dX11_inside_70 : decode cX11_inside 70 = .ok (.iload_n 2, 1) := by decide +kernel
theorem dX11_inside_71 : decode cX11_inside 71 = .ok (.iadd, 1) := by decide +kernel
theorem dX11_inside_72 : decode cX11_inside 72 = .ok (.iaload, 1) := by decide +kernel
theorem dX11_inside_73 : decode cX11_inside 73 = .ok (.iconst 1, 1) := by decide +kernel
theorem dX11_inside_74 : decode cX11_inside 74 = .ok (.isub, 1) := by decide +kernel
theorem dX11_inside_75 : decode cX11_inside 75 = .ok (.invokestatic 83, 3) := by decide +kernel
theorem dX11_inside_78 : decode cX11_inside 78 = .ok (.ifCond .eq 7, 3) := by decide +kernel
theorem dX11_inside_81 : decode cX11_inside 81 = .ok (.iconst 1, 1) := by decide +kernel
theorem dX11_inside_82 : decode cX11_inside 82 = .ok (.goto 4, 3) := by decide +kernel
theorem dX11_inside_85 : decode cX11_inside 85 = .ok (.iconst 0, 1) := by decide +kernel
theorem dX11_inside_86 : decode cX11_inside 86 = .ok (.iadd, 1) := by decide +kernel
theorem dX11_inside_87 : decode cX11_inside 87 = .ok (.ireturn, 1) := by decide +kernel
theorem dX11_crossed_0 : decode cX11_crossed 0 = .ok (.iconst 0, 1) := by decide +kernel
theorem dX11_crossed_1 : decode cX11_crossed 1 = .ok (.istore_n 1, 1) := by decide +kernel
theorem dX11_crossed_2 : decode cX11_crossed 2 = .ok (.iconst 0, 1) := by decide +kernel
theorem dX11_crossed_3 : decode cX11_crossed 3 = .ok (.istore_n 2, 1) := by decide +kernel
theorem dX11_crossed_4 : decode cX11_crossed 4 = .ok (.iload_n 2, 1) := by decide +kernel
theorem dX11_crossed_5 : decode cX11_crossed 5 = .ok (.bipush 8, 2) := by decide +kernel
theorem dX11_crossed_7 : decode cX11_crossed 7 = .ok (.if_icmp .ge 56, 3) := by decide +kernel
theorem dX11_crossed_10 : decode cX11_crossed 10 = .ok (.iconst 0, 1) := by decide +kernel
theorem dX11_crossed_11 : decode cX11_crossed 11 = .ok (.istore_n 3, 1) := by decide +kernel
theorem dX11_crossed_12 : decode cX11_crossed 12 = .ok (.iload_n 3, 1) := by decide +kernel
theorem dX11_crossed_13 : decode cX11_crossed 13 = .ok (.iload_n 2, 1) := by decide +kernel
theorem dX11_crossed_14 : decode cX11_crossed 14 = .ok (.if_icmp .ge 43, 3) := by decide +kernel
theorem dX11_crossed_17 : decode cX11_crossed 17 = .ok (.iload_n 1, 1) := by decide +kernel
theorem dX11_crossed_18 : decode cX11_crossed 18 = .ok (.aload_n 0, 1) := by decide +kernel
theorem dX11_crossed_19 : decode cX11_crossed 19 = .ok (.iload_n 2, 1) := by decide +kernel
theorem dX11_crossed_20 : decode cX11_crossed 20 = .ok (.invokevirtual 91, 3) := by decide +kernel
theorem dX11_crossed_23 : decode cX11_crossed 23 = .ok (.ifCond .eq 25, 3) := by decide +kernel
theorem dX11_crossed_26 : decode cX11_crossed 26 = .ok (.aload_n 0, 1) := by decide +kernel
theorem dX11_crossed_27 : decode cX11_crossed 27 = .ok (.iload_n 3, 1) := by decide +kernel
theorem dX11_crossed_28 : decode cX11_crossed 28 = .ok (.invokevirtual 91, 3) := by decide +kernel
theorem dX11_crossed_31 : decode cX11_crossed 31 = .ok (.ifCond .eq 17, 3) := by decide +kernel
theorem dX11_crossed_34 : decode cX11_crossed 34 = .ok (.aload_n 0, 1) := by decide +kernel
theorem dX11_crossed_35 : decode cX11_crossed 35 = .ok (.iload_n 2, 1) := by decide +kernel
theorem dX11_crossed_36 : decode cX11_crossed 36 = .ok (.iload_n 3, 1) := by decide +kernel
theorem dX11_crossed_37 : decode cX11_crossed 37 = .ok (.invokevirtual 392, 3) := by decide +kernel
theorem dX11_crossed_40 : decode cX11_crossed 40 = .ok (.iconst 1, 1) := by decide +kernel
theorem dX11_crossed_41 : decode cX11_crossed 41 = .ok (.if_icmp .ne 7, 3) := by decide +kernel
theorem dX11_crossed_44 : decode cX11_crossed 44 = .ok (.iconst 1, 1) := by decide +kernel
theorem dX11_crossed_45 : decode cX11_crossed 45 = .ok (.goto 4, 3) := by decide +kernel
theorem dX11_crossed_48 : decode cX11_crossed 48 = .ok (.iconst 0, 1) := by decide +kernel
theorem dX11_crossed_49 : decode cX11_crossed 49 = .ok (.iadd, 1) := by decide +kernel
theorem dX11_crossed_50 : decode cX11_crossed 50 = .ok (.istore_n 1, 1) := by decide +kernel
theorem dX11_crossed_51 : decode cX11_crossed 51 = .ok (.iinc 3 1, 3) := by decide +kernel
theorem dX11_crossed_54 : decode cX11_crossed 54 = .ok (.goto (-42), 3) := by decide +kernel
theorem dX11_crossed_57 : decode cX11_crossed 57 = .ok (.iinc 2 1, 3) := by decide +kernel
theorem dX11_crossed_60 : decode cX11_crossed 60 = .ok (.goto (-56), 3) := by decide +kernel
theorem dX11_crossed_63 : decode cX11_crossed 63 = .ok (.iload_n 1, 1) := by decide +kernel
theorem dX11_crossed_64 : decode cX11_crossed 64 = .ok (.ireturn, 1) := by decide +kernel
theorem dX11_nested_0 : decode cX11_nested 0 = .ok (.iconst 0, 1) := by decide +kernel
theorem dX11_nested_1 : decode cX11_nested 1 = .ok (.istore_n 1, 1) := by decide +kernel
theorem dX11_nested_2 : decode cX11_nested 2 = .ok (.iconst 0, 1) := by decide +kernel
theorem dX11_nested_3 : decode cX11_nested 3 = .ok (.istore_n 2, 1) := by decide +kernel
theorem dX11_nested_4 : decode cX11_nested 4 = .ok (.iload_n 2, 1) := by decide +kernel
theorem dX11_nested_5 : decode cX11_nested 5 = .ok (.bipush 8, 2) := by decide +kernel
theorem dX11_nested_7 : decode cX11_nested 7 = .ok (.if_icmp .ge 62, 3) := by decide +kernel
theorem dX11_nested_10 : decode cX11_nested 10 = .ok (.iconst 0, 1) := by decide +kernel
theorem dX11_nested_11 : decode cX11_nested 11 = .ok (.istore_n 3, 1) := by decide +kernel
theorem dX11_nested_12 : decode cX11_nested 12 = .ok (.iload_n 3, 1) := by decide +kernel
theorem dX11_nested_13 : decode cX11_nested 13 = .ok (.bipush 8, 2) := by decide +kernel
theorem dX11_nested_15 : decode cX11_nested 15 = .ok (.if_icmp .ge 48, 3) := by decide +kernel
theorem dX11_nested_18 : decode cX11_nested 18 = .ok (.iload_n 1, 1) := by decide +kernel
theorem dX11_nested_19 : decode cX11_nested 19 = .ok (.iload_n 2, 1) := by decide +kernel
theorem dX11_nested_20 : decode cX11_nested 20 = .ok (.iload_n 3, 1) := by decide +kernel
theorem dX11_nested_21 : decode cX11_nested 21 = .ok (.if_icmp .eq 33, 3) := by decide +kernel
theorem dX11_nested_24 : decode cX11_nested 24 = .ok (.aload_n 0, 1) := by decide +kernel
theorem dX11_nested_25 : decode cX11_nested 25 = .ok (.iload_n 2, 1) := by decide +kernel
theorem dX11_nested_26 : decode cX11_nested 26 = .ok (.invokevirtual 91, 3) := by decide +kernel
theorem dX11_nested_29 : decode cX11_nested 29 = .ok (.ifCond .eq 25, 3) := by decide +kernel
theorem dX11_nested_32 : decode cX11_nested 32 = .ok (.aload_n 0, 1) := by decide +kernel
theorem dX11_nested_33 : decode cX11_nested 33 = .ok (.iload_n 3, 1) := by decide +kernel
theorem dX11_nested_34 : decode cX11_nested 34 = .ok (.invokevirtual 91, 3) := by decide +kernel
theorem dX11_nested_37 : decode cX11_nested 37 = .ok (.ifCond .eq 17, 3) := by decide +kernel
theorem dX11_nested_40 : decode cX11_nested 40 = .ok (.aload_n 0, 1) := by decide +kernel
theorem dX11_nested_41 : decode cX11_nested 41 = .ok (.iload_n 2, 1) := by decide +kernel
theorem dX11_nested_42 : decode cX11_nested 42 = .ok (.iload_n 3, 1) := by decide +kernel
theorem dX11_nested_43 : decode cX11_nested 43 = .ok (.invokevirtual 392, 3) := by decide +kernel
theorem dX11_nested_46 : decode cX11_nested 46 = .ok (.iconst 2, 1) := by decide +kernel
theorem dX11_nested_47 : decode cX11_nested 47 = .ok (.if_icmp .ne 7, 3) := by decide +kernel
theorem dX11_nested_50 : decode cX11_nested 50 = .ok (.iconst 1, 1) := by decide +kernel
theorem dX11_nested_51 : decode cX11_nested 51 = .ok (.goto 4, 3) := by decide +kernel
theorem dX11_nested_54 : decode cX11_nested 54 = .ok (.iconst 0, 1) := by decide +kernel
theorem dX11_nested_55 : decode cX11_nested 55 = .ok (.iadd, 1) := by decide +kernel
theorem dX11_nested_56 : decode cX11_nested 56 = .ok (.istore_n 1, 1) := by decide +kernel
theorem dX11_nested_57 : decode cX11_nested 57 = .ok (.iinc 3 1, 3) := by decide +kernel
theorem dX11_nested_60 : decode cX11_nested 60 = .ok (.goto (-48), 3) := by decide +kernel
theorem dX11_nested_63 : decode cX11_nested 63 = .ok (.iinc 2 1, 3) := by decide +kernel
theorem dX11_nested_66 : decode cX11_nested 66 = .ok (.goto (-62), 3) := by decide +kernel
theorem dX11_nested_69 : decode cX11_nested 69 = .ok (.iload_n 1, 1) := by decide +kernel
theorem dX11_nested_70 : decode cX11_nested 70 = .ok (.ireturn, 1) := by decide +kernel
theorem dX11_spread_0 : decode cX11_spread 0 = .ok (.aload_n 0, 1) := by decide +kernel
theorem dX11_spread_1 : decode cX11_spread 1 = .ok (.invokevirtual 275, 3) := by decide +kernel
theorem dX11_spread_4 : decode cX11_spread 4 = .ok (.istore_n 1, 1) := by decide +kernel
theorem dX11_spread_5 : decode cX11_spread 5 = .ok (.bipush 16, 2) := by decide +kernel
theorem dX11_spread_7 : decode cX11_spread 7 = .ok (.istore_n 2, 1) := by decide +kernel
theorem dX11_spread_8 : decode cX11_spread 8 = .ok (.iload_n 2, 1) := by decide +kernel
theorem dX11_spread_9 : decode cX11_spread 9 = .ok (.ifCond .le 19, 3) := by decide +kernel
theorem dX11_spread_12 : decode cX11_spread 12 = .ok (.iload_n 1, 1) := by decide +kernel
theorem dX11_spread_13 : decode cX11_spread 13 = .ok (.iload_n 2, 1) := by decide +kernel
theorem dX11_spread_14 : decode cX11_spread 14 = .ok (.iconst 1, 1) := by decide +kernel
theorem dX11_spread_15 : decode cX11_spread 15 = .ok (.isub, 1) := by decide +kernel
theorem dX11_spread_16 : decode cX11_spread 16 = .ok (.invokestatic 251, 3) := by decide +kernel
theorem dX11_spread_19 : decode cX11_spread 19 = .ok (.ifCond .ne 9, 3) := by decide +kernel
theorem dX11_spread_22 : decode cX11_spread 22 = .ok (.iinc 2 (-1), 3) := by decide +kernel
theorem dX11_spread_25 : decode cX11_spread 25 = .ok (.goto (-17), 3) := by decide +kernel
theorem dX11_spread_28 : decode cX11_spread 28 = .ok (.iload_n 2, 1) := by decide +kernel
theorem dX11_spread_29 : decode cX11_spread 29 = .ok (.ifCond .ne 7, 3) := by decide +kernel
theorem dX11_spread_32 : decode cX11_spread 32 = .ok (.iconst 0, 1) := by decide +kernel
theorem dX11_spread_33 : decode cX11_spread 33 = .ok (.goto 9, 3) := by decide +kernel
theorem dX11_spread_36 : decode cX11_spread 36 = .ok (.iload_n 2, 1) := by decide +kernel
theorem dX11_spread_37 : decode cX11_spread 37 = .ok (.iload_n 1, 1) := by decide +kernel
theorem dX11_spread_38 : decode cX11_spread 38 = .ok (.invokestatic 395, 3) := by decide +kernel
theorem dX11_spread_41 : decode cX11_spread 41 = .ok (.isub, 1) := by decide +kernel
theorem dX11_spread_42 : decode cX11_spread 42 = .ok (.ireturn, 1) := by decide +kernel
theorem dX11_room_0 : decode cX11_room 0 = .ok (.iconst 0, 1) := by decide +kernel
theorem dX11_room_1 : decode cX11_room 1 = .ok (.istore_n 1, 1) := by decide +kernel
theorem dX11_room_2 : decode cX11_room 2 = .ok (.iconst 0, 1) := by decide +kernel
theorem dX11_room_3 : decode cX11_room 3 = .ok (.istore_n 2, 1) := by decide +kernel
theorem dX11_room_4 : decode cX11_room 4 = .ok (.iconst 0, 1) := by decide +kernel
theorem dX11_room_5 : decode cX11_room 5 = .ok (.istore_n 3, 1) := by decide +kernel
theorem dX11_room_6 : decode cX11_room 6 = .ok (.iload_n 3, 1) := by decide +kernel
theorem dX11_room_7 : decode cX11_room 7 = .ok (.aload_n 0, 1) := by decide +kernel
theorem dX11_room_8 : decode cX11_room 8 = .ok (.getfield 7, 3) := by decide +kernel
theorem dX11_room_11 : decode cX11_room 11 = .ok (.bipush 7, 2) := by decide +kernel
theorem dX11_room_13 : decode cX11_room 13 = .ok (.iaload, 1) := by decide +kernel
theorem dX11_room_14 : decode cX11_room 14 = .ok (.if_icmp .ge 39, 3) := by decide +kernel
theorem dX11_room_17 : decode cX11_room 17 = .ok (.aload_n 0, 1) := by decide +kernel
theorem dX11_room_18 : decode cX11_room 18 = .ok (.invokevirtual 275, 3) := by decide +kernel
theorem dX11_room_21 : decode cX11_room 21 = .ok (.iload_n 3, 1) := by decide +kernel
theorem dX11_room_22 : decode cX11_room 22 = .ok (.invokestatic 251, 3) := by decide +kernel
theorem dX11_room_25 : decode cX11_room 25 = .ok (.ifCond .eq 7, 3) := by decide +kernel
theorem dX11_room_28 : decode cX11_room 28 = .ok (.iconst 0, 1) := by decide +kernel
theorem dX11_room_29 : decode cX11_room 29 = .ok (.goto 6, 3) := by decide +kernel
theorem dX11_room_32 : decode cX11_room 32 = .ok (.iload_n 2, 1) := by decide +kernel
theorem dX11_room_33 : decode cX11_room 33 = .ok (.iconst 1, 1) := by decide +kernel
theorem dX11_room_34 : decode cX11_room 34 = .ok (.iadd, 1) := by decide +kernel
theorem dX11_room_35 : decode cX11_room 35 = .ok (.istore_n 2, 1) := by decide +kernel
theorem dX11_room_36 : decode cX11_room 36 = .ok (.iload_n 2, 1) := by decide +kernel
theorem dX11_room_37 : decode cX11_room 37 = .ok (.iload_n 1, 1) := by decide +kernel
theorem dX11_room_38 : decode cX11_room 38 = .ok (.if_icmp .le 7, 3) := by decide +kernel
theorem dX11_room_41 : decode cX11_room 41 = .ok (.iload_n 2, 1) := by decide +kernel
theorem dX11_room_42 : decode cX11_room 42 = .ok (.goto 4, 3) := by decide +kernel
theorem dX11_room_45 : decode cX11_room 45 = .ok (.iload_n 1, 1) := by decide +kernel
theorem dX11_room_46 : decode cX11_room 46 = .ok (.istore_n 1, 1) := by decide +kernel
theorem dX11_room_47 : decode cX11_room 47 = .ok (.iinc 3 1, 3) := by decide +kernel
theorem dX11_room_50 : decode cX11_room 50 = .ok (.goto (-44), 3) := by decide +kernel
theorem dX11_room_53 : decode cX11_room 53 = .ok (.iload_n 1, 1) := by decide +kernel
theorem dX11_room_54 : decode cX11_room 54 = .ok (.ireturn, 1) := by decide +kernel
theorem dX11_can_0 : decode cX11_can 0 = .ok (.iload_n 1, 1) := by decide +kernel
theorem dX11_can_1 : decode cX11_can 1 = .ok (.iconst 1, 1) := by decide +kernel
theorem dX11_can_2 : decode cX11_can 2 = .ok (.isub, 1) := by decide +kernel
theorem dX11_can_3 : decode cX11_can 3 = .ok (.invokestatic 87, 3) := by decide +kernel
theorem dX11_can_6 : decode cX11_can 6 = .ok (.ifCond .ne 5, 3) := by decide +kernel
theorem dX11_can_9 : decode cX11_can 9 = .ok (.iconst (-1), 1) := by decide +kernel
theorem dX11_can_10 : decode cX11_can 10 = .ok (.ireturn, 1) := by decide +kernel
theorem dX11_can_11 : decode cX11_can 11 = .ok (.iconst 0, 1) := by decide +kernel
theorem dX11_can_12 : decode cX11_can 12 = .ok (.istore_n 2, 1) := by decide +kernel
theorem dX11_can_13 : decode cX11_can 13 = .ok (.iconst 0, 1) := by decide +kernel
theorem dX11_can_14 : decode cX11_can 14 = .ok (.istore_n 3, 1) := by decide +kernel
theorem dX11_can_15 : decode cX11_can 15 = .ok (.iload_n 3, 1) := by decide +kernel
theorem dX11_can_16 : decode cX11_can 16 = .ok (.bipush 16, 2) := by decide +kernel
theorem dX11_can_18 : decode cX11_can 18 = .ok (.if_icmp .ge 31, 3) := by decide +kernel
theorem dX11_can_21 : decode cX11_can 21 = .ok (.iload_n 2, 1) := by decide +kernel
theorem dX11_can_22 : decode cX11_can 22 = .ok (.aload_n 0, 1) := by decide +kernel
theorem dX11_can_23 : decode cX11_can 23 = .ok (.iload_n 1, 1) := by decide +kernel
theorem dX11_can_24 : decode cX11_can 24 = .ok (.iconst 1, 1) := by decide +kernel
theorem dX11_can_25 : decode cX11_can 25 = .ok (.isub, 1) := by decide +kernel
theorem dX11_can_26 : decode cX11_can 26 = .ok (.iload_n 3, 1) := by decide +kernel
theorem dX11_can_27 : decode cX11_can 27 = .ok (.invokevirtual 332, 3) := by decide +kernel
theorem dX11_can_30 : decode cX11_can 30 = .ok (.iconst (-1), 1) := by decide +kernel
theorem dX11_can_31 : decode cX11_can 31 = .ok (.if_icmp .eq 9, 3) := by decide +kernel
theorem dX11_can_34 : decode cX11_can 34 = .ok (.iconst 1, 1) := by decide +kernel
theorem dX11_can_35 : decode cX11_can 35 = .ok (.iload_n 3, 1) := by decide +kernel
theorem dX11_can_36 : decode cX11_can 36 = .ok (.ishl, 1) := by decide +kernel
theorem dX11_can_37 : decode cX11_can 37 = .ok (.goto 4, 3) := by decide +kernel
theorem dX11_can_40 : decode cX11_can 40 = .ok (.iconst 0, 1) := by decide +kernel
theorem dX11_can_41 : decode cX11_can 41 = .ok (.ior, 1) := by decide +kernel
theorem dX11_can_42 : decode cX11_can 42 = .ok (.istore_n 2, 1) := by decide +kernel
theorem dX11_can_43 : decode cX11_can 43 = .ok (.iinc 3 1, 3) := by decide +kernel
theorem dX11_can_46 : decode cX11_can 46 = .ok (.goto (-31), 3) := by decide +kernel
theorem dX11_can_49 : decode cX11_can 49 = .ok (.iload_n 2, 1) := by decide +kernel
theorem dX11_can_50 : decode cX11_can 50 = .ok (.ireturn, 1) := by decide +kernel
theorem dX11_foretold_0 : decode cX11_foretold 0 = .ok (.iload_n 1, 1) := by decide +kernel
theorem dX11_foretold_1 : decode cX11_foretold 1 = .ok (.iconst 1, 1) := by decide +kernel
theorem dX11_foretold_2 : decode cX11_foretold 2 = .ok (.bipush 60, 2) := by decide +kernel
theorem dX11_foretold_4 : decode cX11_foretold 4 = .ok (.invokestatic 83, 3) := by decide +kernel
theorem dX11_foretold_7 : decode cX11_foretold 7 = .ok (.ifCond .ne 5, 3) := by decide +kernel
theorem dX11_foretold_10 : decode cX11_foretold 10 = .ok (.iconst (-1), 1) := by decide +kernel
theorem dX11_foretold_11 : decode cX11_foretold 11 = .ok (.ireturn, 1) := by decide +kernel
theorem dX11_foretold_12 : decode cX11_foretold 12 = .ok (.iconst 4, 1) := by decide +kernel
theorem dX11_foretold_13 : decode cX11_foretold 13 = .ok (.istore_n 2, 1) := by decide +kernel
theorem dX11_foretold_14 : decode cX11_foretold 14 = .ok (.iload_n 2, 1) := by decide +kernel
theorem dX11_foretold_15 : decode cX11_foretold 15 = .ok (.bipush 32, 2) := by decide +kernel
theorem dX11_foretold_17 : decode cX11_foretold 17 = .ok (.if_icmp .ge 21, 3) := by decide +kernel
theorem dX11_foretold_20 : decode cX11_foretold 20 = .ok (.aload_n 0, 1) := by decide +kernel
theorem dX11_foretold_21 : decode cX11_foretold 21 = .ok (.getfield 47, 3) := by decide +kernel
theorem dX11_foretold_24 : decode cX11_foretold 24 = .ok (.iload_n 2, 1) := by decide +kernel
theorem dX11_foretold_25 : decode cX11_foretold 25 = .ok (.aload_n 0, 1) := by decide +kernel
theorem dX11_foretold_26 : decode cX11_foretold 26 = .ok (.getfield 7, 3) := by decide +kernel
theorem dX11_foretold_29 : decode cX11_foretold 29 = .ok (.iload_n 2, 1) := by decide +kernel
theorem dX11_foretold_30 : decode cX11_foretold 30 = .ok (.iaload, 1) := by decide +kernel
theorem dX11_foretold_31 : decode cX11_foretold 31 = .ok (.iastore, 1) := by decide +kernel
theorem dX11_foretold_32 : decode cX11_foretold 32 = .ok (.iinc 2 1, 3) := by decide +kernel
theorem dX11_foretold_35 : decode cX11_foretold 35 = .ok (.goto (-21), 3) := by decide +kernel
theorem dX11_foretold_38 : decode cX11_foretold 38 = .ok (.aload_n 0, 1) := by decide +kernel
theorem dX11_foretold_39 : decode cX11_foretold 39 = .ok (.iconst 0, 1) := by decide +kernel
theorem dX11_foretold_40 : decode cX11_foretold 40 = .ok (.putfield 43, 3) := by decide +kernel
theorem dX11_foretold_43 : decode cX11_foretold 43 = .ok (.iconst 0, 1) := by decide +kernel
theorem dX11_foretold_44 : decode cX11_foretold 44 = .ok (.istore_n 2, 1) := by decide +kernel
theorem dX11_foretold_45 : decode cX11_foretold 45 = .ok (.iload_n 2, 1) := by decide +kernel
theorem dX11_foretold_46 : decode cX11_foretold 46 = .ok (.iload_n 1, 1) := by decide +kernel
theorem dX11_foretold_47 : decode cX11_foretold 47 = .ok (.if_icmp .ge 25, 3) := by decide +kernel
theorem dX11_foretold_50 : decode cX11_foretold 50 = .ok (.aload_n 0, 1) := by decide +kernel
theorem dX11_foretold_51 : decode cX11_foretold 51 = .ok (.getfield 7, 3) := by decide +kernel
theorem dX11_foretold_54 : decode cX11_foretold 54 = .ok (.iconst 4, 1) := by decide +kernel
theorem dX11_foretold_55 : decode cX11_foretold 55 = .ok (.iaload, 1) := by decide +kernel
theorem dX11_foretold_56 : decode cX11_foretold 56 = .ok (.sipush 9999, 3) := by decide +kernel
theorem dX11_foretold_59 : decode cX11_foretold 59 = .ok (.if_icmp .ge 7, 3) := by decide +kernel
theorem dX11_foretold_62 : decode cX11_foretold 62 = .ok (.aload_n 0, 1) := by decide +kernel
theorem dX11_foretold_63 : decode cX11_foretold 63 = .ok (.invokevirtual 365, 3) := by decide +kernel
theorem dX11_foretold_66 : decode cX11_foretold 66 = .ok (.iinc 2 1, 3) := by decide +kernel
theorem dX11_foretold_69 : decode cX11_foretold 69 = .ok (.goto (-24), 3) := by decide +kernel
theorem dX11_foretold_72 : decode cX11_foretold 72 = .ok (.aload_n 0, 1) := by decide +kernel
theorem dX11_foretold_73 : decode cX11_foretold 73 = .ok (.invokevirtual 301, 3) := by decide +kernel
theorem dX11_foretold_76 : decode cX11_foretold 76 = .ok (.istore_n 2, 1) := by decide +kernel
theorem dX11_foretold_77 : decode cX11_foretold 77 = .ok (.iconst 4, 1) := by decide +kernel
theorem dX11_foretold_78 : decode cX11_foretold 78 = .ok (.istore_n 3, 1) := by decide +kernel
theorem dX11_foretold_79 : decode cX11_foretold 79 = .ok (.iload_n 3, 1) := by decide +kernel
theorem dX11_foretold_80 : decode cX11_foretold 80 = .ok (.bipush 32, 2) := by decide +kernel
theorem dX11_foretold_82 : decode cX11_foretold 82 = .ok (.if_icmp .ge 21, 3) := by decide +kernel
theorem dX11_foretold_85 : decode cX11_foretold 85 = .ok (.aload_n 0, 1) := by decide +kernel
theorem dX11_foretold_86 : decode cX11_foretold 86 = .ok (.getfield 7, 3) := by decide +kernel
theorem dX11_foretold_89 : decode cX11_foretold 89 = .ok (.iload_n 3, 1) := by decide +kernel
theorem dX11_foretold_90 : decode cX11_foretold 90 = .ok (.aload_n 0, 1) := by decide +kernel
theorem dX11_foretold_91 : decode cX11_foretold 91 = .ok (.getfield 47, 3) := by decide +kernel
theorem dX11_foretold_94 : decode cX11_foretold 94 = .ok (.iload_n 3, 1) := by decide +kernel
theorem dX11_foretold_95 : decode cX11_foretold 95 = .ok (.iaload, 1) := by decide +kernel
theorem dX11_foretold_96 : decode cX11_foretold 96 = .ok (.iastore, 1) := by decide +kernel
theorem dX11_foretold_97 : decode cX11_foretold 97 = .ok (.iinc 3 1, 3) := by decide +kernel
theorem dX11_foretold_100 : decode cX11_foretold 100 = .ok (.goto (-21), 3) := by decide +kernel
theorem dX11_foretold_103 : decode cX11_foretold 103 = .ok (.aload_n 0, 1) := by decide +kernel
theorem dX11_foretold_104 : decode cX11_foretold 104 = .ok (.iconst 1, 1) := by decide +kernel
theorem dX11_foretold_105 : decode cX11_foretold 105 = .ok (.putfield 43, 3) := by decide +kernel
theorem dX11_foretold_108 : decode cX11_foretold 108 = .ok (.iload_n 2, 1) := by decide +kernel
theorem dX11_foretold_109 : decode cX11_foretold 109 = .ok (.ireturn, 1) := by decide +kernel
theorem dX11_isSet_0 : decode cX11_isSet 0 = .ok (.iload_n 0, 1) := by decide +kernel
theorem dX11_isSet_1 : decode cX11_isSet 1 = .ok (.iconst 0, 1) := by decide +kernel
theorem dX11_isSet_2 : decode cX11_isSet 2 = .ok (.sipush 255, 3) := by decide +kernel
theorem dX11_isSet_5 : decode cX11_isSet 5 = .ok (.invokestatic 83, 3) := by decide +kernel
theorem dX11_isSet_8 : decode cX11_isSet 8 = .ok (.ireturn, 1) := by decide +kernel
theorem dX11_layMembers_0 : decode cX11_layMembers 0 = .ok (.aload_n 0, 1) := by decide +kernel
theorem dX11_layMembers_1 : decode cX11_layMembers 1 = .ok (.iconst 0, 1) := by decide +kernel
theorem dX11_layMembers_2 : decode cX11_layMembers 2 = .ok (.putfield 398, 3) := by decide +kernel
theorem dX11_layMembers_5 : decode cX11_layMembers 5 = .ok (.iconst 0, 1) := by decide +kernel
theorem dX11_layMembers_6 : decode cX11_layMembers 6 = .ok (.istore_n 2, 1) := by decide +kernel
theorem dX11_layMembers_7 : decode cX11_layMembers 7 = .ok (.iload_n 2, 1) := by decide +kernel
theorem dX11_layMembers_8 : decode cX11_layMembers 8 = .ok (.bipush 8, 2) := by decide +kernel
theorem dX11_layMembers_10 : decode cX11_layMembers 10 = .ok (.if_icmp .ge 59, 3) := by decide +kernel
theorem dX11_layMembers_13 : decode cX11_layMembers 13 = .ok (.aload_n 0, 1) := by decide +kernel
theorem dX11_layMembers_14 : decode cX11_layMembers 14 = .ok (.getfield 50, 3) := by decide +kernel
theorem dX11_layMembers_17 : decode cX11_layMembers 17 = .ok (.iload_n 2, 1) := by decide +kernel
theorem dX11_layMembers_18 : decode cX11_layMembers 18 = .ok (.aload_n 0, 1) := by decide +kernel
theorem dX11_layMembers_19 : decode cX11_layMembers 19 = .ok (.aload_n 0, 1) := by decide +kernel
theorem dX11_layMembers_20 : decode cX11_layMembers 20 = .ok (.getfield 7, 3) := by decide +kernel
theorem dX11_layMembers_23 : decode cX11_layMembers 23 = .ok (.iconst 1, 1) := by decide +kernel
theorem dX11_layMembers_24 : decode cX11_layMembers 24 = .ok (.iaload, 1) := by decide +kernel
theorem dX11_layMembers_25 : decode cX11_layMembers 25 = .ok (.iload_n 2, 1) := by decide +kernel
theorem dX11_layMembers_26 : decode cX11_layMembers 26 = .ok (.invokevirtual 329, 3) := by decide +kernel
theorem dX11_layMembers_29 : decode cX11_layMembers 29 = .ok (.iconst 1, 1) := by decide +kernel
theorem dX11_layMembers_30 : decode cX11_layMembers 30 = .ok (.iadd, 1) := by decide +kernel
theorem dX11_layMembers_31 : decode cX11_layMembers 31 = .ok (.iastore, 1) := by decide +kernel
theorem dX11_layMembers_32 : decode cX11_layMembers 32 = .ok (.iload_n 1, 1) := by decide +kernel
theorem dX11_layMembers_33 : decode cX11_layMembers 33 = .ok (.iload_n 2, 1) := by decide +kernel
theorem dX11_layMembers_34 : decode cX11_layMembers 34 = .ok (.invokestatic 251, 3) := by decide +kernel
theorem dX11_layMembers_37 : decode cX11_layMembers 37 = .ok (.ifCond .ne 6, 3) := by decide +kernel
theorem dX11_layMembers_40 : decode cX11_layMembers 40 = .ok (.goto 23, 3) := by decide +kernel
theorem dX11_layMembers_43 : decode cX11_layMembers 43 = .ok (.aload_n 0, 1) := by decide +kernel
theorem dX11_layMembers_44 : decode cX11_layMembers 44 = .ok (.getfield 53, 3) := by decide +kernel
theorem dX11_layMembers_47 : decode cX11_layMembers 47 = .ok (.aload_n 0, 1) := by decide +kernel
theorem dX11_layMembers_48 : decode cX11_layMembers 48 = .ok (.getfield 398, 3) := by decide +kernel
theorem dX11_layMembers_51 : decode cX11_layMembers 51 = .ok (.iload_n 2, 1) := by decide +kernel
theorem dX11_layMembers_52 : decode cX11_layMembers 52 = .ok (.iastore, 1) := by decide +kernel
theorem dX11_layMembers_53 : decode cX11_layMembers 53 = .ok (.aload_n 0, 1) := by decide +kernel
theorem dX11_layMembers_54 : decode cX11_layMembers 54 = .ok (.dup, 1) := by decide +kernel
theorem dX11_layMembers_55 : decode cX11_layMembers 55 = .ok (.getfield 398, 3) := by decide +kernel
theorem dX11_layMembers_58 : decode cX11_layMembers 58 = .ok (.iconst 1, 1) := by decide +kernel
theorem dX11_layMembers_59 : decode cX11_layMembers 59 = .ok (.iadd, 1) := by decide +kernel
theorem dX11_layMembers_60 : decode cX11_layMembers 60 = .ok (.putfield 398, 3) := by decide +kernel
theorem dX11_layMembers_63 : decode cX11_layMembers 63 = .ok (.iinc 2 1, 3) := by decide +kernel
theorem dX11_layMembers_66 : decode cX11_layMembers 66 = .ok (.goto (-59), 3) := by decide +kernel
theorem dX11_layMembers_69 : decode cX11_layMembers 69 = .ok (.return_, 1) := by decide +kernel
theorem dX11_layOptions_0 : decode cX11_layOptions 0 = .ok (.aload_n 0, 1) := by decide +kernel
theorem dX11_layOptions_1 : decode cX11_layOptions 1 = .ok (.iload_n 1, 1) := by decide +kernel
theorem dX11_layOptions_2 : decode cX11_layOptions 2 = .ok (.invokevirtual 401, 3) := by decide +kernel
theorem dX11_layOptions_5 : decode cX11_layOptions 5 = .ok (.iconst 0, 1) := by decide +kernel
theorem dX11_layOptions_6 : decode cX11_layOptions 6 = .ok (.istore 4, 2) := by decide +kernel
theorem dX11_layOptions_8 : decode cX11_layOptions 8 = .ok (.iload 4, 2) := by decide +kernel
theorem dX11_layOptions_10 : decode cX11_layOptions 10 = .ok (.aload_n 0, 1) := by decide +kernel
theorem dX11_layOptions_11 : decode cX11_layOptions 11 = .ok (.getfield 398, 3) := by decide +kernel
theorem dX11_layOptions_14 : decode cX11_layOptions 14 = .ok (.if_icmp .ge 106, 3) := by decide +kernel
theorem dX11_layOptions_17 : decode cX11_layOptions 17 = .ok (.aload_n 0, 1) := by decide +kernel
theorem dX11_layOptions_18 : decode cX11_layOptions 18 = .ok (.getfield 50, 3) := by decide +kernel
theorem dX11_layOptions_21 : decode cX11_layOptions 21 = .ok (.aload_n 0, 1) := by decide +kernel
theorem dX11_layOptions_22 : decode cX11_layOptions 22 = .ok (.getfield 53, 3) := by decide +kernel
theorem dX11_layOptions_25 : decode cX11_layOptions 25 = .ok (.iload 4, 2) := by decide +kernel
theorem dX11_layOptions_27 : decode cX11_layOptions 27 = .ok (.iaload, 1) := by decide +kernel
theorem dX11_layOptions_28 : decode cX11_layOptions 28 = .ok (.iaload, 1) := by decide +kernel
theorem dX11_layOptions_29 : decode cX11_layOptions 29 = .ok (.istore 5, 2) := by decide +kernel
theorem dX11_layOptions_31 : decode cX11_layOptions 31 = .ok (.aload_n 0, 1) := by decide +kernel
theorem dX11_layOptions_32 : decode cX11_layOptions 32 = .ok (.getfield 59, 3) := by decide +kernel
theorem dX11_layOptions_35 : decode cX11_layOptions 35 = .ok (.iload 4, 2) := by decide +kernel
theorem dX11_layOptions_37 : decode cX11_layOptions 37 = .ok (.iconst 0, 1) := by decide +kernel
theorem dX11_layOptions_38 : decode cX11_layOptions 38 = .ok (.iastore, 1) := by decide +kernel
theorem dX11_layOptions_39 : decode cX11_layOptions 39 = .ok (.iconst 0, 1) := by decide +kernel
theorem dX11_layOptions_40 : decode cX11_layOptions 40 = .ok (.istore 6, 2) := by decide +kernel
theorem dX11_layOptions_42 : decode cX11_layOptions 42 = .ok (.iload 6, 2) := by decide +kernel
theorem dX11_layOptions_44 : decode cX11_layOptions 44 = .ok (.iload_n 3, 1) := by decide +kernel
theorem dX11_layOptions_45 : decode cX11_layOptions 45 = .ok (.iconst 1, 1) := by decide +kernel
theorem dX11_layOptions_46 : decode cX11_layOptions 46 = .ok (.isub, 1) := by decide +kernel
theorem dX11_layOptions_47 : decode cX11_layOptions 47 = .ok (.iload 5, 2) := by decide +kernel
theorem dX11_layOptions_49 : decode cX11_layOptions 49 = .ok (.imul, 1) := by decide +kernel
theorem dX11_layOptions_50 : decode cX11_layOptions 50 = .ok (.iadd, 1) := by decide +kernel
theorem dX11_layOptions_51 : decode cX11_layOptions 51 = .ok (.iload_n 2, 1) := by decide +kernel
theorem dX11_layOptions_52 : decode cX11_layOptions 52 = .ok (.if_icmp .ge 62, 3) := by decide +kernel
theorem dX11_layOptions_55 : decode cX11_layOptions 55 = .ok (.aload_n 0, 1) := by decide +kernel
theorem dX11_layOptions_56 : decode cX11_layOptions 56 = .ok (.getfield 56, 3) := by decide +kernel
theorem dX11_layOptions_59 : decode cX11_layOptions 59 = .ok (.bipush 16, 2) := by decide +kernel
theorem dX11_layOptions_61 : decode cX11_layOptions 61 = .ok (.iload 4, 2) := by decide +kernel
theorem dX11_layOptions_63 : decode cX11_layOptions 63 = .ok (.imul, 1) := by decide +kernel
theorem dX11_layOptions_64 : decode cX11_layOptions 64 = .ok (.aload_n 0, 1) := by decide +kernel
theorem dX11_layOptions_65 : decode cX11_layOptions 65 = .ok (.getfield 59, 3) := by decide +kernel
theorem dX11_layOptions_68 : decode cX11_layOptions 68 = .ok (.iload 4, 2) := by decide +kernel
theorem dX11_layOptions_70 : decode cX11_layOptions 70 = .ok (.iaload, 1) := by decide +kernel
theorem dX11_layOptions_71 : decode cX11_layOptions 71 = .ok (.iadd, 1) := by decide +kernel
theorem dX11_layOptions_72 : decode cX11_layOptions 72 = .ok (.iconst 1, 1) := by decide +kernel
theorem dX11_layOptions_73 : decode cX11_layOptions 73 = .ok (.iload 6, 2) := by decide +kernel
theorem dX11_layOptions_75 : decode cX11_layOptions 75 = .ok (.ishl, 1) := by decide +kernel
theorem dX11_layOptions_76 : decode cX11_layOptions 76 = .ok (.iconst 1, 1) := by decide +kernel
theorem dX11_layOptions_77 : decode cX11_layOptions 77 = .ok (.iload 6, 2) := by decide +kernel
theorem dX11_layOptions_79 : decode cX11_layOptions 79 = .ok (.iload 5, 2) := by decide +kernel
theorem dX11_layOptions_81 : decode cX11_layOptions 81 = .ok (.iadd, 1) := by decide +kernel
theorem dX11_layOptions_82 : decode cX11_layOptions 82 = .ok (.ishl, 1) := by decide +kernel
theorem dX11_layOptions_83 : decode cX11_layOptions 83 = .ok (.ior, 1) := by decide +kernel
theorem dX11_layOptions_84 : decode cX11_layOptions 84 = .ok (.iconst 1, 1) := by decide +kernel
theorem dX11_layOptions_85 : decode cX11_layOptions 85 = .ok (.iload 6, 2) := by decide +kernel
theorem dX11_layOptions_87 : decode cX11_layOptions 87 = .ok (.iload_n 3, 1) := by decide +kernel
theorem dX11_layOptions_88 : decode cX11_layOptions 88 = .ok (.iconst 1, 1) := by decide +kernel
theorem dX11_layOptions_89 : decode cX11_layOptions 89 = .ok (.isub, 1) := by decide +kernel
theorem dX11_layOptions_90 : decode cX11_layOptions 90 = .ok (.iload 5, 2) := by decide +kernel
theorem dX11_layOptions_92 : decode cX11_layOptions 92 = .ok (.imul, 1) := by decide +kernel
theorem dX11_layOptions_93 : decode cX11_layOptions 93 = .ok (.iadd, 1) := by decide +kernel
theorem dX11_layOptions_94 : decode cX11_layOptions 94 = .ok (.ishl, 1) := by decide +kernel
theorem dX11_layOptions_95 : decode cX11_layOptions 95 = .ok (.ior, 1) := by decide +kernel
theorem dX11_layOptions_96 : decode cX11_layOptions 96 = .ok (.iastore, 1) := by decide +kernel
theorem dX11_layOptions_97 : decode cX11_layOptions 97 = .ok (.aload_n 0, 1) := by decide +kernel
theorem dX11_layOptions_98 : decode cX11_layOptions 98 = .ok (.getfield 59, 3) := by decide +kernel
theorem dX11_layOptions_101 : decode cX11_layOptions 101 = .ok (.iload 4, 2) := by decide +kernel
theorem dX11_layOptions_103 : decode cX11_layOptions 103 = .ok (.dup2, 1) := by decide +kernel
theorem dX11_layOptions_104 : decode cX11_layOptions 104 = .ok (.iaload, 1) := by decide +kernel
theorem dX11_layOptions_105 : decode cX11_layOptions 105 = .ok (.iconst 1, 1) := by decide +kernel
theorem dX11_layOptions_106 : decode cX11_layOptions 106 = .ok (.iadd, 1) := by decide +kernel
theorem dX11_layOptions_107 : decode cX11_layOptions 107 = .ok (.iastore, 1) := by decide +kernel
theorem dX11_layOptions_108 : decode cX11_layOptions 108 = .ok (.iinc 6 1, 3) := by decide +kernel
theorem dX11_layOptions_111 : decode cX11_layOptions 111 = .ok (.goto (-69), 3) := by decide +kernel
theorem dX11_layOptions_114 : decode cX11_layOptions 114 = .ok (.iinc 4 1, 3) := by decide +kernel
theorem dX11_layOptions_117 : decode cX11_layOptions 117 = .ok (.goto (-109), 3) := by decide +kernel
theorem dX11_layOptions_120 : decode cX11_layOptions 120 = .ok (.return_, 1) := by decide +kernel
theorem dX11_lowest_0 : decode cX11_lowest 0 = .ok (.iconst 0, 1) := by decide +kernel
theorem dX11_lowest_1 : decode cX11_lowest 1 = .ok (.istore_n 1, 1) := by decide +kernel
theorem dX11_lowest_2 : decode cX11_lowest 2 = .ok (.iload_n 0, 1) := by decide +kernel
theorem dX11_lowest_3 : decode cX11_lowest 3 = .ok (.iload_n 1, 1) := by decide +kernel
theorem dX11_lowest_4 : decode cX11_lowest 4 = .ok (.invokestatic 251, 3) := by decide +kernel
theorem dX11_lowest_7 : decode cX11_lowest 7 = .ok (.ifCond .ne 9, 3) := by decide +kernel
theorem dX11_lowest_10 : decode cX11_lowest 10 = .ok (.iinc 1 1, 3) := by decide +kernel
theorem dX11_lowest_13 : decode cX11_lowest 13 = .ok (.goto (-11), 3) := by decide +kernel
theorem dX11_lowest_16 : decode cX11_lowest 16 = .ok (.iload_n 1, 1) := by decide +kernel
theorem dX11_lowest_17 : decode cX11_lowest 17 = .ok (.ireturn, 1) := by decide +kernel
theorem dX11_keepWay_0 : decode cX11_keepWay 0 = .ok (.iconst 0, 1) := by decide +kernel
theorem dX11_keepWay_1 : decode cX11_keepWay 1 = .ok (.istore_n 3, 1) := by decide +kernel
theorem dX11_keepWay_2 : decode cX11_keepWay 2 = .ok (.iload_n 3, 1) := by decide +kernel
theorem dX11_keepWay_3 : decode cX11_keepWay 3 = .ok (.aload_n 0, 1) := by decide +kernel
theorem dX11_keepWay_4 : decode cX11_keepWay 4 = .ok (.getfield 398, 3) := by decide +kernel
theorem dX11_keepWay_7 : decode cX11_keepWay 7 = .ok (.if_icmp .ge 66, 3) := by decide +kernel
theorem dX11_keepWay_10 : decode cX11_keepWay 10 = .ok (.aload_n 0, 1) := by decide +kernel
theorem dX11_keepWay_11 : decode cX11_keepWay 11 = .ok (.getfield 56, 3) := by decide +kernel
theorem dX11_keepWay_14 : decode cX11_keepWay 14 = .ok (.bipush 16, 2) := by decide +kernel
theorem dX11_keepWay_16 : decode cX11_keepWay 16 = .ok (.iload_n 3, 1) := by decide +kernel
theorem dX11_keepWay_17 : decode cX11_keepWay 17 = .ok (.imul, 1) := by decide +kernel
theorem dX11_keepWay_18 : decode cX11_keepWay 18 = .ok (.aload_n 0, 1) := by decide +kernel
theorem dX11_keepWay_19 : decode cX11_keepWay 19 = .ok (.getfield 62, 3) := by decide +kernel
theorem dX11_keepWay_22 : decode cX11_keepWay 22 = .ok (.iload_n 3, 1) := by decide +kernel
theorem dX11_keepWay_23 : decode cX11_keepWay 23 = .ok (.iaload, 1) := by decide +kernel
theorem dX11_keepWay_24 : decode cX11_keepWay 24 = .ok (.iadd, 1) := by decide +kernel
theorem dX11_keepWay_25 : decode cX11_keepWay 25 = .ok (.iaload, 1) := by decide +kernel
theorem dX11_keepWay_26 : decode cX11_keepWay 26 = .ok (.istore 4, 2) := by decide +kernel
theorem dX11_keepWay_28 : decode cX11_keepWay 28 = .ok (.lload_n 1, 1) := by decide +kernel
theorem dX11_keepWay_29 : decode cX11_keepWay 29 = .ok (.lconst 0, 1) := by decide +kernel
theorem dX11_keepWay_30 : decode cX11_keepWay 30 = .ok (.lcmp, 1) := by decide +kernel
theorem dX11_keepWay_31 : decode cX11_keepWay 31 = .ok (.ifCond .ne 11, 3) := by decide +kernel
theorem dX11_keepWay_34 : decode cX11_keepWay 34 = .ok (.aload_n 0, 1) := by decide +kernel
theorem dX11_keepWay_35 : decode cX11_keepWay 35 = .ok (.getfield 65, 3) := by decide +kernel
theorem dX11_keepWay_38 : decode cX11_keepWay 38 = .ok (.iload_n 3, 1) := by decide +kernel
theorem dX11_keepWay_39 : decode cX11_keepWay 39 = .ok (.iload 4, 2) := by decide +kernel
theorem dX11_keepWay_41 : decode cX11_keepWay 41 = .ok (.iastore, 1) := by decide +kernel
theorem dX11_keepWay_42 : decode cX11_keepWay 42 = .ok (.aload_n 0, 1) := by decide +kernel
theorem dX11_keepWay_43 : decode cX11_keepWay 43 = .ok (.getfield 65, 3) := by decide +kernel
theorem dX11_keepWay_46 : decode cX11_keepWay 46 = .ok (.iload_n 3, 1) := by decide +kernel
theorem dX11_keepWay_47 : decode cX11_keepWay 47 = .ok (.iaload, 1) := by decide +kernel
theorem dX11_keepWay_48 : decode cX11_keepWay 48 = .ok (.iload 4, 2) := by decide +kernel
theorem dX11_keepWay_50 : decode cX11_keepWay 50 = .ok (.if_icmp .eq 17, 3) := by decide +kernel
theorem dX11_keepWay_53 : decode cX11_keepWay 53 = .ok (.aload_n 0, 1) := by decide +kernel
theorem dX11_keepWay_54 : decode cX11_keepWay 54 = .ok (.dup, 1) := by decide +kernel
theorem dX11_keepWay_55 : decode cX11_keepWay 55 = .ok (.getfield 404, 3) := by decide +kernel
theorem dX11_keepWay_58 : decode cX11_keepWay 58 = .ok (.iconst 1, 1) := by decide +kernel
theorem dX11_keepWay_59 : decode cX11_keepWay 59 = .ok (.iload_n 3, 1) := by decide +kernel
theorem dX11_keepWay_60 : decode cX11_keepWay 60 = .ok (.ishl, 1) := by decide +kernel
theorem dX11_keepWay_61 : decode cX11_keepWay 61 = .ok (.iconst (-1), 1) := by decide +kernel
theorem dX11_keepWay_62 : decode cX11_keepWay 62 = .ok (.ixor, 1) := by decide +kernel
theorem dX11_keepWay_63 : decode cX11_keepWay 63 = .ok (.iand, 1) := by decide +kernel
theorem dX11_keepWay_64 : decode cX11_keepWay 64 = .ok (.putfield 404, 3) := by decide +kernel
theorem dX11_keepWay_67 : decode cX11_keepWay 67 = .ok (.iinc 3 1, 3) := by decide +kernel
theorem dX11_keepWay_70 : decode cX11_keepWay 70 = .ok (.goto (-68), 3) := by decide +kernel
theorem dX11_keepWay_73 : decode cX11_keepWay 73 = .ok (.return_, 1) := by decide +kernel
theorem dX11_fitted_0 : decode cX11_fitted 0 = .ok (.aload_n 0, 1) := by decide +kernel
theorem dX11_fitted_1 : decode cX11_fitted 1 = .ok (.iconst 1, 1) := by decide +kernel
theorem dX11_fitted_2 : decode cX11_fitted 2 = .ok (.aload_n 0, 1) := by decide +kernel
theorem dX11_fitted_3 : decode cX11_fitted 3 = .ok (.getfield 398, 3) := by decide +kernel
theorem dX11_fitted_6 : decode cX11_fitted 6 = .ok (.ishl, 1) := by decide +kernel
theorem dX11_fitted_7 : decode cX11_fitted 7 = .ok (.iconst 1, 1) := by decide +kernel
theorem dX11_fitted_8 : decode cX11_fitted 8 = .ok (.isub, 1) := by decide +kernel
theorem dX11_fitted_9 : decode cX11_fitted 9 = .ok (.putfield 404, 3) := by decide +kernel
theorem dX11_fitted_12 : decode cX11_fitted 12 = .ok (.aload_n 0, 1) := by decide +kernel
theorem dX11_fitted_13 : decode cX11_fitted 13 = .ok (.getfield 398, 3) := by decide +kernel
theorem dX11_fitted_16 : decode cX11_fitted 16 = .ok (.ifCond .ne 5, 3) := by decide +kernel
theorem dX11_fitted_19 : decode cX11_fitted 19 = .ok (.lconst 1, 1) := by decide +kernel
theorem dX11_fitted_20 : decode cX11_fitted 20 = .ok (.lreturn, 1) := by decide +kernel
theorem dX11_fitted_21 : decode cX11_fitted 21 = .ok (.lconst 0, 1) := by decide +kernel
theorem dX11_fitted_22 : decode cX11_fitted 22 = .ok (.lstore_n 3, 1) := by decide +kernel
theorem dX11_fitted_23 : decode cX11_fitted 23 = .ok (.iload_n 1, 1) := by decide +kernel
theorem dX11_fitted_24 : decode cX11_fitted 24 = .ok (.istore 5, 2) := by decide +kernel
theorem dX11_fitted_26 : decode cX11_fitted 26 = .ok (.iconst 0, 1) := by decide +kernel
theorem dX11_fitted_27 : decode cX11_fitted 27 = .ok (.istore 6, 2) := by decide +kernel
theorem dX11_fitted_29 : decode cX11_fitted 29 = .ok (.aload_n 0, 1) := by decide +kernel
theorem dX11_fitted_30 : decode cX11_fitted 30 = .ok (.getfield 62, 3) := by decide +kernel
theorem dX11_fitted_33 : decode cX11_fitted 33 = .ok (.iconst 0, 1) := by decide +kernel
theorem dX11_fitted_34 : decode cX11_fitted 34 = .ok (.iconst (-1), 1) := by decide +kernel
theorem dX11_fitted_35 : decode cX11_fitted 35 = .ok (.iastore, 1) := by decide +kernel
theorem dX11_fitted_36 : decode cX11_fitted 36 = .ok (.iload 6, 2) := by decide +kernel
theorem dX11_fitted_38 : decode cX11_fitted 38 = .ok (.ifCond .lt 198, 3) := by decide +kernel
theorem dX11_fitted_41 : decode cX11_fitted 41 = .ok (.aload_n 0, 1) := by decide +kernel
theorem dX11_fitted_42 : decode cX11_fitted 42 = .ok (.getfield 62, 3) := by decide +kernel
theorem dX11_fitted_45 : decode cX11_fitted 45 = .ok (.iload 6, 2) := by decide +kernel
theorem dX11_fitted_47 : decode cX11_fitted 47 = .ok (.iaload, 1) := by decide +kernel
theorem dX11_fitted_48 : decode cX11_fitted 48 = .ok (.ifCond .lt 28, 3) := by decide +kernel
theorem dX11_fitted_51 : decode cX11_fitted 51 = .ok (.iload 5, 2) := by decide +kernel
theorem dX11_fitted_53 : decode cX11_fitted 53 = .ok (.aload_n 0, 1) := by decide +kernel
theorem dX11_fitted_54 : decode cX11_fitted 54 = .ok (.getfield 56, 3) := by decide +kernel
theorem dX11_fitted_57 : decode cX11_fitted 57 = .ok (.bipush 16, 2) := by decide +kernel
theorem dX11_fitted_59 : decode cX11_fitted 59 = .ok (.iload 6, 2) := by decide +kernel
theorem dX11_fitted_61 : decode cX11_fitted 61 = .ok (.imul, 1) := by decide +kernel
theorem dX11_fitted_62 : decode cX11_fitted 62 = .ok (.aload_n 0, 1) := by decide +kernel
theorem dX11_fitted_63 : decode cX11_fitted 63 = .ok (.getfield 62, 3) := by decide +kernel
theorem dX11_fitted_66 : decode cX11_fitted 66 = .ok (.iload 6, 2) := by decide +kernel
theorem dX11_fitted_68 : decode cX11_fitted 68 = .ok (.iaload, 1) := by decide +kernel
theorem dX11_fitted_69 : decode cX11_fitted 69 = .ok (.iadd, 1) := by decide +kernel
theorem dX11_fitted_70 : decode cX11_fitted 70 = .ok (.iaload, 1) := by decide +kernel
theorem dX11_fitted_71 : decode cX11_fitted 71 = .ok (.iconst (-1), 1) := by decide +kernel
theorem dX11_fitted_72 : decode cX11_fitted 72 = .ok (.ixor, 1) := by decide +kernel
theorem dX11_fitted_73 : decode cX11_fitted 73 = .ok (.iand, 1) := by decide +kernel
theorem dX11_fitted_74 : decode cX11_fitted 74 = .ok (.istore 5, 2) := by decide +kernel
theorem dX11_fitted_76 : decode cX11_fitted 76 = .ok (.aload_n 0, 1) := by decide +kernel
theorem dX11_fitted_77 : decode cX11_fitted 77 = .ok (.getfield 62, 3) := by decide +kernel
theorem dX11_fitted_80 : decode cX11_fitted 80 = .ok (.iload 6, 2) := by decide +kernel
theorem dX11_fitted_82 : decode cX11_fitted 82 = .ok (.dup2, 1) := by decide +kernel
theorem dX11_fitted_83 : decode cX11_fitted 83 = .ok (.iaload, 1) := by decide +kernel
theorem dX11_fitted_84 : decode cX11_fitted 84 = .ok (.iconst 1, 1) := by decide +kernel
theorem dX11_fitted_85 : decode cX11_fitted 85 = .ok (.iadd, 1) := by decide +kernel
theorem dX11_fitted_86 : decode cX11_fitted 86 = .ok (.iastore, 1) := by decide +kernel
theorem dX11_fitted_87 : decode cX11_fitted 87 = .ok (.aload_n 0, 1) := by decide +kernel
theorem dX11_fitted_88 : decode cX11_fitted 88 = .ok (.getfield 62, 3) := by decide +kernel
theorem dX11_fitted_91 : decode cX11_fitted 91 = .ok (.iload 6, 2) := by decide +kernel
theorem dX11_fitted_93 : decode cX11_fitted 93 = .ok (.iaload, 1) := by decide +kernel
theorem dX11_fitted_94 : decode cX11_fitted 94 = .ok (.aload_n 0, 1) := by decide +kernel
theorem dX11_fitted_95 : decode cX11_fitted 95 = .ok (.getfield 59, 3) := by decide +kernel
theorem dX11_fitted_98 : decode cX11_fitted 98 = .ok (.iload 6, 2) := by decide +kernel
theorem dX11_fitted_100 : decode cX11_fitted 100 = .ok (.iaload, 1) := by decide +kernel
theorem dX11_fitted_101 : decode cX11_fitted 101 = .ok (.if_icmp .ge 41, 3) := by decide +kernel
theorem dX11_fitted_104 : decode cX11_fitted 104 = .ok (.aload_n 0, 1) := by decide +kernel
theorem dX11_fitted_105 : decode cX11_fitted 105 = .ok (.getfield 56, 3) := by decide +kernel
theorem dX11_fitted_108 : decode cX11_fitted 108 = .ok (.bipush 16, 2) := by decide +kernel
theorem dX11_fitted_110 : decode cX11_fitted 110 = .ok (.iload 6, 2) := by decide +kernel
theorem dX11_fitted_112 : decode cX11_fitted 112 = .ok (.imul, 1) := by decide +kernel
theorem dX11_fitted_113 : decode cX11_fitted 113 = .ok (.aload_n 0, 1) := by decide +kernel
theorem dX11_fitted_114 : decode cX11_fitted 114 = .ok (.getfield 62, 3) := by decide +kernel
theorem dX11_fitted_117 : decode cX11_fitted 117 = .ok (.iload 6, 2) := by decide +kernel
theorem dX11_fitted_119 : decode cX11_fitted 119 = .ok (.iaload, 1) := by decide +kernel
theorem dX11_fitted_120 : decode cX11_fitted 120 = .ok (.iadd, 1) := by decide +kernel
theorem dX11_fitted_121 : decode cX11_fitted 121 = .ok (.iaload, 1) := by decide +kernel
theorem dX11_fitted_122 : decode cX11_fitted 122 = .ok (.iload 5, 2) := by decide +kernel
theorem dX11_fitted_124 : decode cX11_fitted 124 = .ok (.iand, 1) := by decide +kernel
theorem dX11_fitted_125 : decode cX11_fitted 125 = .ok (.ifCond .eq 17, 3) := by decide +kernel
theorem dX11_fitted_128 : decode cX11_fitted 128 = .ok (.aload_n 0, 1) := by decide +kernel
theorem dX11_fitted_129 : decode cX11_fitted 129 = .ok (.getfield 62, 3) := by decide +kernel
theorem dX11_fitted_132 : decode cX11_fitted 132 = .ok (.iload 6, 2) := by decide +kernel
theorem dX11_fitted_134 : decode cX11_fitted 134 = .ok (.dup2, 1) := by decide +kernel
theorem dX11_fitted_135 : decode cX11_fitted 135 = .ok (.iaload, 1) := by decide +kernel
theorem dX11_fitted_136 : decode cX11_fitted 136 = .ok (.iconst 1, 1) := by decide +kernel
theorem dX11_fitted_137 : decode cX11_fitted 137 = .ok (.iadd, 1) := by decide +kernel
theorem dX11_fitted_138 : decode cX11_fitted 138 = .ok (.iastore, 1) := by decide +kernel
theorem dX11_fitted_139 : decode cX11_fitted 139 = .ok (.goto (-52), 3) := by decide +kernel
theorem dX11_fitted_142 : decode cX11_fitted 142 = .ok (.aload_n 0, 1) := by decide +kernel
theorem dX11_fitted_143 : decode cX11_fitted 143 = .ok (.getfield 62, 3) := by decide +kernel
theorem dX11_fitted_146 : decode cX11_fitted 146 = .ok (.iload 6, 2) := by decide +kernel
theorem dX11_fitted_148 : decode cX11_fitted 148 = .ok (.iaload, 1) := by decide +kernel
theorem dX11_fitted_149 : decode cX11_fitted 149 = .ok (.aload_n 0, 1) := by decide +kernel
theorem dX11_fitted_150 : decode cX11_fitted 150 = .ok (.getfield 59, 3) := by decide +kernel
theorem dX11_fitted_153 : decode cX11_fitted 153 = .ok (.iload 6, 2) := by decide +kernel
theorem dX11_fitted_155 : decode cX11_fitted 155 = .ok (.iaload, 1) := by decide +kernel
theorem dX11_fitted_156 : decode cX11_fitted 156 = .ok (.if_icmp .lt 17, 3) := by decide +kernel
theorem dX11_fitted_159 : decode cX11_fitted 159 = .ok (.aload_n 0, 1) := by decide +kernel
theorem dX11_fitted_160 : decode cX11_fitted 160 = .ok (.getfield 62, 3) := by decide +kernel
theorem dX11_fitted_163 : decode cX11_fitted 163 = .ok (.iload 6, 2) := by decide +kernel
theorem dX11_fitted_165 : decode cX11_fitted 165 = .ok (.iconst (-1), 1) := by decide +kernel
theorem dX11_fitted_166 : decode cX11_fitted 166 = .ok (.iastore, 1) := by decide +kernel
theorem dX11_fitted_167 : decode cX11_fitted 167 = .ok (.iinc 6 (-1), 3) := by decide +kernel
theorem dX11_fitted_170 : decode cX11_fitted 170 = .ok (.goto (-134), 3) := by decide +kernel
theorem dX11_fitted_173 : decode cX11_fitted 173 = .ok (.iload 5, 2) := by decide +kernel
theorem dX11_fitted_175 : decode cX11_fitted 175 = .ok (.aload_n 0, 1) := by decide +kernel
theorem dX11_fitted_176 : decode cX11_fitted 176 = .ok (.getfield 56, 3) := by decide +kernel
theorem dX11_fitted_179 : decode cX11_fitted 179 = .ok (.bipush 16, 2) := by decide +kernel
theorem dX11_fitted_181 : decode cX11_fitted 181 = .ok (.iload 6, 2) := by decide +kernel
theorem dX11_fitted_183 : decode cX11_fitted 183 = .ok (.imul, 1) := by decide +kernel
theorem dX11_fitted_184 : decode cX11_fitted 184 = .ok (.aload_n 0, 1) := by decide +kernel
theorem dX11_fitted_185 : decode cX11_fitted 185 = .ok (.getfield 62, 3) := by decide +kernel
theorem dX11_fitted_188 : decode cX11_fitted 188 = .ok (.iload 6, 2) := by decide +kernel
theorem dX11_fitted_190 : decode cX11_fitted 190 = .ok (.iaload, 1) := by decide +kernel
theorem dX11_fitted_191 : decode cX11_fitted 191 = .ok (.iadd, 1) := by decide +kernel
theorem dX11_fitted_192 : decode cX11_fitted 192 = .ok (.iaload, 1) := by decide +kernel
theorem dX11_fitted_193 : decode cX11_fitted 193 = .ok (.ior, 1) := by decide +kernel
theorem dX11_fitted_194 : decode cX11_fitted 194 = .ok (.istore 5, 2) := by decide +kernel
theorem dX11_fitted_196 : decode cX11_fitted 196 = .ok (.iload 6, 2) := by decide +kernel
theorem dX11_fitted_198 : decode cX11_fitted 198 = .ok (.aload_n 0, 1) := by decide +kernel
theorem dX11_fitted_199 : decode cX11_fitted 199 = .ok (.getfield 398, 3) := by decide +kernel
theorem dX11_fitted_202 : decode cX11_fitted 202 = .ok (.iconst 1, 1) := by decide +kernel
theorem dX11_fitted_203 : decode cX11_fitted 203 = .ok (.isub, 1) := by decide +kernel
theorem dX11_fitted_204 : decode cX11_fitted 204 = .ok (.if_icmp .ge 17, 3) := by decide +kernel
theorem dX11_fitted_207 : decode cX11_fitted 207 = .ok (.iinc 6 1, 3) := by decide +kernel
theorem dX11_fitted_210 : decode cX11_fitted 210 = .ok (.aload_n 0, 1) := by decide +kernel
theorem dX11_fitted_211 : decode cX11_fitted 211 = .ok (.getfield 62, 3) := by decide +kernel
theorem dX11_fitted_214 : decode cX11_fitted 214 = .ok (.iload 6, 2) := by decide +kernel
theorem dX11_fitted_216 : decode cX11_fitted 216 = .ok (.iconst (-1), 1) := by decide +kernel
theorem dX11_fitted_217 : decode cX11_fitted 217 = .ok (.iastore, 1) := by decide +kernel
theorem dX11_fitted_218 : decode cX11_fitted 218 = .ok (.goto (-182), 3) := by decide +kernel
theorem dX11_fitted_221 : decode cX11_fitted 221 = .ok (.aload_n 0, 1) := by decide +kernel
theorem dX11_fitted_222 : decode cX11_fitted 222 = .ok (.lload_n 3, 1) := by decide +kernel
theorem dX11_fitted_223 : decode cX11_fitted 223 = .ok (.invokevirtual 407, 3) := by decide +kernel
theorem dX11_fitted_226 : decode cX11_fitted 226 = .ok (.lload_n 3, 1) := by decide +kernel
theorem dX11_fitted_227 : decode cX11_fitted 227 = .ok (.lconst 1, 1) := by decide +kernel
theorem dX11_fitted_228 : decode cX11_fitted 228 = .ok (.ladd, 1) := by decide +kernel
theorem dX11_fitted_229 : decode cX11_fitted 229 = .ok (.lstore_n 3, 1) := by decide +kernel
theorem dX11_fitted_230 : decode cX11_fitted 230 = .ok (.iload_n 2, 1) := by decide +kernel
theorem dX11_fitted_231 : decode cX11_fitted 231 = .ok (.ifCond .ne (-195), 3) := by decide +kernel
theorem dX11_fitted_234 : decode cX11_fitted 234 = .ok (.lload_n 3, 1) := by decide +kernel
theorem dX11_fitted_235 : decode cX11_fitted 235 = .ok (.lreturn, 1) := by decide +kernel
theorem dX11_fitted_236 : decode cX11_fitted 236 = .ok (.lload_n 3, 1) := by decide +kernel
theorem dX11_fitted_237 : decode cX11_fitted 237 = .ok (.lreturn, 1) := by decide +kernel
theorem dX11_longOf_0 : decode cX11_longOf 0 = .ok (.iconst 2, 1) := by decide +kernel
theorem dX11_longOf_1 : decode cX11_longOf 1 = .ok (.iload_n 0, 1) := by decide +kernel
theorem dX11_longOf_2 : decode cX11_longOf 2 = .ok (.invokestatic 304, 3) := by decide +kernel
theorem dX11_longOf_5 : decode cX11_longOf 5 = .ok (.imul, 1) := by decide +kernel
theorem dX11_longOf_6 : decode cX11_longOf 6 = .ok (.iload_n 1, 1) := by decide +kernel
theorem dX11_longOf_7 : decode cX11_longOf 7 = .ok (.iadd, 1) := by decide +kernel
theorem dX11_longOf_8 : decode cX11_longOf 8 = .ok (.ireturn, 1) := by decide +kernel
theorem dX11_isRowOf_0 : decode cX11_isRowOf 0 = .ok (.iload_n 0, 1) := by decide +kernel
theorem dX11_isRowOf_1 : decode cX11_isRowOf 1 = .ok (.invokestatic 411, 3) := by decide +kernel
theorem dX11_isRowOf_4 : decode cX11_isRowOf 4 = .ok (.ifCond .eq 27, 3) := by decide +kernel
theorem dX11_isRowOf_7 : decode cX11_isRowOf 7 = .ok (.iload_n 1, 1) := by decide +kernel
theorem dX11_isRowOf_8 : decode cX11_isRowOf 8 = .ok (.iconst 0, 1) := by decide +kernel
theorem dX11_isRowOf_9 : decode cX11_isRowOf 9 = .ok (.bipush 16, 2) := by decide +kernel
theorem dX11_isRowOf_11 : decode cX11_isRowOf 11 = .ok (.invokestatic 83, 3) := by decide +kernel
theorem dX11_isRowOf_14 : decode cX11_isRowOf 14 = .ok (.ifCond .eq 17, 3) := by decide +kernel
theorem dX11_isRowOf_17 : decode cX11_isRowOf 17 = .ok (.iload_n 0, 1) := by decide +kernel
theorem dX11_isRowOf_18 : decode cX11_isRowOf 18 = .ok (.iload_n 1, 1) := by decide +kernel
theorem dX11_isRowOf_19 : decode cX11_isRowOf 19 = .ok (.invokestatic 414, 3) := by decide +kernel
theorem dX11_isRowOf_22 : decode cX11_isRowOf 22 = .ok (.bipush 16, 2) := by decide +kernel
theorem dX11_isRowOf_24 : decode cX11_isRowOf 24 = .ok (.if_icmp .gt 7, 3) := by decide +kernel
theorem dX11_isRowOf_27 : decode cX11_isRowOf 27 = .ok (.iconst 1, 1) := by decide +kernel
theorem dX11_isRowOf_28 : decode cX11_isRowOf 28 = .ok (.goto 4, 3) := by decide +kernel
theorem dX11_isRowOf_31 : decode cX11_isRowOf 31 = .ok (.iconst 0, 1) := by decide +kernel
theorem dX11_isRowOf_32 : decode cX11_isRowOf 32 = .ok (.ireturn, 1) := by decide +kernel
theorem dX11_rowsOf_0 : decode cX11_rowsOf 0 = .ok (.aload_n 0, 1) := by decide +kernel
theorem dX11_rowsOf_1 : decode cX11_rowsOf 1 = .ok (.iload_n 1, 1) := by decide +kernel
theorem dX11_rowsOf_2 : decode cX11_rowsOf 2 = .ok (.iload_n 1, 1) := by decide +kernel
theorem dX11_rowsOf_3 : decode cX11_rowsOf 3 = .ok (.iload_n 2, 1) := by decide +kernel
theorem dX11_rowsOf_4 : decode cX11_rowsOf 4 = .ok (.invokestatic 414, 3) := by decide +kernel
theorem dX11_rowsOf_7 : decode cX11_rowsOf 7 = .ok (.iconst 2, 1) := by decide +kernel
theorem dX11_rowsOf_8 : decode cX11_rowsOf 8 = .ok (.invokevirtual 417, 3) := by decide +kernel
theorem dX11_rowsOf_11 : decode cX11_rowsOf 11 = .ok (.aload_n 0, 1) := by decide +kernel
theorem dX11_rowsOf_12 : decode cX11_rowsOf 12 = .ok (.iconst 0, 1) := by decide +kernel
theorem dX11_rowsOf_13 : decode cX11_rowsOf 13 = .ok (.iload_n 3, 1) := by decide +kernel
theorem dX11_rowsOf_14 : decode cX11_rowsOf 14 = .ok (.invokevirtual 420, 3) := by decide +kernel
theorem dX11_rowsOf_17 : decode cX11_rowsOf 17 = .ok (.lreturn, 1) := by decide +kernel
theorem dX11_rows_0 : decode cX11_rows 0 = .ok (.iload_n 1, 1) := by decide +kernel
theorem dX11_rows_1 : decode cX11_rows 1 = .ok (.iload_n 2, 1) := by decide +kernel
theorem dX11_rows_2 : decode cX11_rows 2 = .ok (.invokestatic 424, 3) := by decide +kernel
theorem dX11_rows_5 : decode cX11_rows 5 = .ok (.ifCond .eq 13, 3) := by decide +kernel
theorem dX11_rows_8 : decode cX11_rows 8 = .ok (.aload_n 0, 1) := by decide +kernel
theorem dX11_rows_9 : decode cX11_rows 9 = .ok (.iload_n 1, 1) := by decide +kernel
theorem dX11_rows_10 : decode cX11_rows 10 = .ok (.iload_n 2, 1) := by decide +kernel
theorem dX11_rows_11 : decode cX11_rows 11 = .ok (.iconst 1, 1) := by decide +kernel
theorem dX11_rows_12 : decode cX11_rows 12 = .ok (.invokevirtual 427, 3) := by decide +kernel
theorem dX11_rows_15 : decode cX11_rows 15 = .ok (.goto 6, 3) := by decide +kernel
theorem dX11_rows_18 : decode cX11_rows 18 = .ok (.ldc2_w 431, 3) := by decide +kernel
theorem dX11_rows_21 : decode cX11_rows 21 = .ok (.lreturn, 1) := by decide +kernel
theorem dX11_often_0 : decode cX11_often 0 = .ok (.iload_n 3, 1) := by decide +kernel
theorem dX11_often_1 : decode cX11_often 1 = .ok (.iconst 1, 1) := by decide +kernel
theorem dX11_often_2 : decode cX11_often 2 = .ok (.isub, 1) := by decide +kernel
theorem dX11_often_3 : decode cX11_often 3 = .ok (.istore 5, 2) := by decide +kernel
theorem dX11_often_5 : decode cX11_often 5 = .ok (.iload_n 1, 1) := by decide +kernel
theorem dX11_often_6 : decode cX11_often 6 = .ok (.iload_n 2, 1) := by decide +kernel
theorem dX11_often_7 : decode cX11_often 7 = .ok (.invokestatic 424, 3) := by decide +kernel
theorem dX11_often_10 : decode cX11_often 10 = .ok (.ifCond .eq 36, 3) := by decide +kernel
theorem dX11_often_13 : decode cX11_often 13 = .ok (.iload 5, 2) := by decide +kernel
theorem dX11_often_15 : decode cX11_often 15 = .ok (.invokestatic 87, 3) := by decide +kernel
theorem dX11_often_18 : decode cX11_often 18 = .ok (.ifCond .eq 28, 3) := by decide +kernel
theorem dX11_often_21 : decode cX11_often 21 = .ok (.iload_n 1, 1) := by decide +kernel
theorem dX11_often_22 : decode cX11_often 22 = .ok (.iload 5, 2) := by decide +kernel
theorem dX11_often_24 : decode cX11_often 24 = .ok (.invokestatic 251, 3) := by decide +kernel
theorem dX11_often_27 : decode cX11_often 27 = .ok (.ifCond .eq 19, 3) := by decide +kernel
theorem dX11_often_30 : decode cX11_often 30 = .ok (.iload 4, 2) := by decide +kernel
theorem dX11_often_32 : decode cX11_often 32 = .ok (.iconst 0, 1) := by decide +kernel
theorem dX11_often_33 : decode cX11_often 33 = .ok (.iload_n 1, 1) := by decide +kernel
theorem dX11_often_34 : decode cX11_often 34 = .ok (.iload_n 2, 1) := by decide +kernel
theorem dX11_often_35 : decode cX11_often 35 = .ok (.invokestatic 414, 3) := by decide +kernel
theorem dX11_often_38 : decode cX11_often 38 = .ok (.iconst 1, 1) := by decide +kernel
theorem dX11_often_39 : decode cX11_often 39 = .ok (.isub, 1) := by decide +kernel
theorem dX11_often_40 : decode cX11_often 40 = .ok (.invokestatic 83, 3) := by decide +kernel
theorem dX11_often_43 : decode cX11_often 43 = .ok (.ifCond .ne 7, 3) := by decide +kernel
theorem dX11_often_46 : decode cX11_often 46 = .ok (.ldc2_w 431, 3) := by decide +kernel
theorem dX11_often_49 : decode cX11_often 49 = .ok (.lreturn, 1) := by decide +kernel
theorem dX11_often_50 : decode cX11_often 50 = .ok (.aload_n 0, 1) := by decide +kernel
theorem dX11_often_51 : decode cX11_often 51 = .ok (.iload_n 1, 1) := by decide +kernel
theorem dX11_often_52 : decode cX11_often 52 = .ok (.iload_n 1, 1) := by decide +kernel
theorem dX11_often_53 : decode cX11_often 53 = .ok (.iload_n 2, 1) := by decide +kernel
theorem dX11_often_54 : decode cX11_often 54 = .ok (.invokestatic 414, 3) := by decide +kernel
theorem dX11_often_57 : decode cX11_often 57 = .ok (.iconst 2, 1) := by decide +kernel
theorem dX11_often_58 : decode cX11_often 58 = .ok (.invokevirtual 417, 3) := by decide +kernel
theorem dX11_often_61 : decode cX11_often 61 = .ok (.iconst 0, 1) := by decide +kernel
theorem dX11_often_62 : decode cX11_often 62 = .ok (.istore 6, 2) := by decide +kernel
theorem dX11_often_64 : decode cX11_often 64 = .ok (.aload_n 0, 1) := by decide +kernel
theorem dX11_often_65 : decode cX11_often 65 = .ok (.getfield 53, 3) := by decide +kernel
theorem dX11_often_68 : decode cX11_often 68 = .ok (.iload 6, 2) := by decide +kernel
theorem dX11_often_70 : decode cX11_often 70 = .ok (.iaload, 1) := by decide +kernel
theorem dX11_often_71 : decode cX11_often 71 = .ok (.iload 5, 2) := by decide +kernel
theorem dX11_often_73 : decode cX11_often 73 = .ok (.if_icmp .eq 9, 3) := by decide +kernel
theorem dX11_often_76 : decode cX11_often 76 = .ok (.iinc 6 1, 3) := by decide +kernel
theorem dX11_often_79 : decode cX11_often 79 = .ok (.goto (-15), 3) := by decide +kernel
theorem dX11_often_82 : decode cX11_often 82 = .ok (.iconst 0, 1) := by decide +kernel
theorem dX11_often_83 : decode cX11_often 83 = .ok (.istore 7, 2) := by decide +kernel
theorem dX11_often_85 : decode cX11_often 85 = .ok (.iconst 0, 1) := by decide +kernel
theorem dX11_often_86 : decode cX11_often 86 = .ok (.istore 8, 2) := by decide +kernel
theorem dX11_often_88 : decode cX11_often 88 = .ok (.iload 8, 2) := by decide +kernel
theorem dX11_often_90 : decode cX11_often 90 = .ok (.aload_n 0, 1) := by decide +kernel
theorem dX11_often_91 : decode cX11_often 91 = .ok (.getfield 59, 3) := by decide +kernel
theorem dX11_often_94 : decode cX11_often 94 = .ok (.iload 6, 2) := by decide +kernel
theorem dX11_often_96 : decode cX11_often 96 = .ok (.iaload, 1) := by decide +kernel
theorem dX11_often_97 : decode cX11_often 97 = .ok (.if_icmp .ge 62, 3) := by decide +kernel
theorem dX11_often_100 : decode cX11_often 100 = .ok (.aload_n 0, 1) := by decide +kernel
theorem dX11_often_101 : decode cX11_often 101 = .ok (.getfield 56, 3) := by decide +kernel
theorem dX11_often_104 : decode cX11_often 104 = .ok (.bipush 16, 2) := by decide +kernel
theorem dX11_often_106 : decode cX11_often 106 = .ok (.iload 6, 2) := by decide +kernel
theorem dX11_often_108 : decode cX11_often 108 = .ok (.imul, 1) := by decide +kernel
theorem dX11_often_109 : decode cX11_often 109 = .ok (.iload 8, 2) := by decide +kernel
theorem dX11_often_111 : decode cX11_often 111 = .ok (.iadd, 1) := by decide +kernel
theorem dX11_often_112 : decode cX11_often 112 = .ok (.iaload, 1) := by decide +kernel
theorem dX11_often_113 : decode cX11_often 113 = .ok (.iload 4, 2) := by decide +kernel
theorem dX11_often_115 : decode cX11_often 115 = .ok (.invokestatic 251, 3) := by decide +kernel
theorem dX11_often_118 : decode cX11_often 118 = .ok (.ifCond .ne 6, 3) := by decide +kernel
theorem dX11_often_121 : decode cX11_often 121 = .ok (.goto 32, 3) := by decide +kernel
theorem dX11_often_124 : decode cX11_often 124 = .ok (.aload_n 0, 1) := by decide +kernel
theorem dX11_often_125 : decode cX11_often 125 = .ok (.getfield 56, 3) := by decide +kernel
theorem dX11_often_128 : decode cX11_often 128 = .ok (.bipush 16, 2) := by decide +kernel
theorem dX11_often_130 : decode cX11_often 130 = .ok (.iload 6, 2) := by decide +kernel
theorem dX11_often_132 : decode cX11_often 132 = .ok (.imul, 1) := by decide +kernel
theorem dX11_often_133 : decode cX11_often 133 = .ok (.iload 7, 2) := by decide +kernel
theorem dX11_often_135 : decode cX11_often 135 = .ok (.iadd, 1) := by decide +kernel
theorem dX11_often_136 : decode cX11_often 136 = .ok (.aload_n 0, 1) := by decide +kernel
theorem dX11_often_137 : decode cX11_often 137 = .ok (.getfield 56, 3) := by decide +kernel
theorem dX11_often_140 : decode cX11_often 140 = .ok (.bipush 16, 2) := by decide +kernel
theorem dX11_often_142 : decode cX11_often 142 = .ok (.iload 6, 2) := by decide +kernel
theorem dX11_often_144 : decode cX11_often 144 = .ok (.imul, 1) := by decide +kernel
theorem dX11_often_145 : decode cX11_often 145 = .ok (.iload 8, 2) := by decide +kernel
theorem dX11_often_147 : decode cX11_often 147 = .ok (.iadd, 1) := by decide +kernel
theorem dX11_often_148 : decode cX11_often 148 = .ok (.iaload, 1) := by decide +kernel
theorem dX11_often_149 : decode cX11_often 149 = .ok (.iastore, 1) := by decide +kernel
theorem dX11_often_150 : decode cX11_often 150 = .ok (.iinc 7 1, 3) := by decide +kernel
theorem dX11_often_153 : decode cX11_often 153 = .ok (.iinc 8 1, 3) := by decide +kernel
theorem dX11_often_156 : decode cX11_often 156 = .ok (.goto (-68), 3) := by decide +kernel
theorem dX11_often_159 : decode cX11_often 159 = .ok (.aload_n 0, 1) := by decide +kernel
theorem dX11_often_160 : decode cX11_often 160 = .ok (.getfield 59, 3) := by decide +kernel
theorem dX11_often_163 : decode cX11_often 163 = .ok (.iload 6, 2) := by decide +kernel
theorem dX11_often_165 : decode cX11_often 165 = .ok (.iload 7, 2) := by decide +kernel
theorem dX11_often_167 : decode cX11_often 167 = .ok (.iastore, 1) := by decide +kernel
theorem dX11_often_168 : decode cX11_often 168 = .ok (.aload_n 0, 1) := by decide +kernel
theorem dX11_often_169 : decode cX11_often 169 = .ok (.iconst 0, 1) := by decide +kernel
theorem dX11_often_170 : decode cX11_often 170 = .ok (.iconst 1, 1) := by decide +kernel
theorem dX11_often_171 : decode cX11_often 171 = .ok (.invokevirtual 420, 3) := by decide +kernel
theorem dX11_often_174 : decode cX11_often 174 = .ok (.lreturn, 1) := by decide +kernel
theorem dX11_pinned_0 : decode cX11_pinned 0 = .ok (.iload_n 1, 1) := by decide +kernel
theorem dX11_pinned_1 : decode cX11_pinned 1 = .ok (.iload_n 2, 1) := by decide +kernel
theorem dX11_pinned_2 : decode cX11_pinned 2 = .ok (.invokestatic 424, 3) := by decide +kernel
theorem dX11_pinned_5 : decode cX11_pinned 5 = .ok (.ifCond .eq 15, 3) := by decide +kernel
theorem dX11_pinned_8 : decode cX11_pinned 8 = .ok (.aload_n 0, 1) := by decide +kernel
theorem dX11_pinned_9 : decode cX11_pinned 9 = .ok (.iload_n 1, 1) := by decide +kernel
theorem dX11_pinned_10 : decode cX11_pinned 10 = .ok (.iload_n 2, 1) := by decide +kernel
theorem dX11_pinned_11 : decode cX11_pinned 11 = .ok (.iconst 1, 1) := by decide +kernel
theorem dX11_pinned_12 : decode cX11_pinned 12 = .ok (.invokevirtual 427, 3) := by decide +kernel
theorem dX11_pinned_15 : decode cX11_pinned 15 = .ok (.lconst 0, 1) := by decide +kernel
theorem dX11_pinned_16 : decode cX11_pinned 16 = .ok (.lcmp, 1) := by decide +kernel
theorem dX11_pinned_17 : decode cX11_pinned 17 = .ok (.ifCond .ne 5, 3) := by decide +kernel
theorem dX11_pinned_20 : decode cX11_pinned 20 = .ok (.iconst (-1), 1) := by decide +kernel
theorem dX11_pinned_21 : decode cX11_pinned 21 = .ok (.ireturn, 1) := by decide +kernel
theorem dX11_pinned_22 : decode cX11_pinned 22 = .ok (.aload_n 0, 1) := by decide +kernel
theorem dX11_pinned_23 : decode cX11_pinned 23 = .ok (.invokevirtual 433, 3) := by decide +kernel
theorem dX11_pinned_26 : decode cX11_pinned 26 = .ok (.ireturn, 1) := by decide +kernel
theorem dX11_alikeNumbers_0 : decode cX11_alikeNumbers 0 = .ok (.iconst 0, 1) := by decide +kernel
theorem dX11_alikeNumbers_1 : decode cX11_alikeNumbers 1 = .ok (.istore_n 1, 1) := by decide +kernel
theorem dX11_alikeNumbers_2 : decode cX11_alikeNumbers 2 = .ok (.iconst 0, 1) := by decide +kernel
theorem dX11_alikeNumbers_3 : decode cX11_alikeNumbers 3 = .ok (.istore_n 2, 1) := by decide +kernel
theorem dX11_alikeNumbers_4 : decode cX11_alikeNumbers 4 = .ok (.iload_n 2, 1) := by decide +kernel
theorem dX11_alikeNumbers_5 : decode cX11_alikeNumbers 5 = .ok (.aload_n 0, 1) := by decide +kernel
theorem dX11_alikeNumbers_6 : decode cX11_alikeNumbers 6 = .ok (.getfield 398, 3) := by decide +kernel
theorem dX11_alikeNumbers_9 : decode cX11_alikeNumbers 9 = .ok (.if_icmp .ge 35, 3) := by decide +kernel
theorem dX11_alikeNumbers_12 : decode cX11_alikeNumbers 12 = .ok (.iload_n 1, 1) := by decide +kernel
theorem dX11_alikeNumbers_13 : decode cX11_alikeNumbers 13 = .ok (.aload_n 0, 1) := by decide +kernel
theorem dX11_alikeNumbers_14 : decode cX11_alikeNumbers 14 = .ok (.getfield 404, 3) := by decide +kernel
theorem dX11_alikeNumbers_17 : decode cX11_alikeNumbers 17 = .ok (.iload_n 2, 1) := by decide +kernel
theorem dX11_alikeNumbers_18 : decode cX11_alikeNumbers 18 = .ok (.invokestatic 251, 3) := by decide +kernel
theorem dX11_alikeNumbers_21 : decode cX11_alikeNumbers 21 = .ok (.ifCond .eq 14, 3) := by decide +kernel
theorem dX11_alikeNumbers_24 : decode cX11_alikeNumbers 24 = .ok (.iconst 1, 1) := by decide +kernel
theorem dX11_alikeNumbers_25 : decode cX11_alikeNumbers 25 = .ok (.aload_n 0, 1) := by decide +kernel
theorem dX11_alikeNumbers_26 : decode cX11_alikeNumbers 26 = .ok (.getfield 53, 3) := by decide +kernel
theorem dX11_alikeNumbers_29 : decode cX11_alikeNumbers 29 = .ok (.iload_n 2, 1) := by decide +kernel
theorem dX11_alikeNumbers_30 : decode cX11_alikeNumbers 30 = .ok (.iaload, 1) := by decide +kernel
theorem dX11_alikeNumbers_31 : decode cX11_alikeNumbers 31 = .ok (.ishl, 1) := by decide +kernel
theorem dX11_alikeNumbers_32 : decode cX11_alikeNumbers 32 = .ok (.goto 4, 3) := by decide +kernel
theorem dX11_alikeNumbers_35 : decode cX11_alikeNumbers 35 = .ok (.iconst 0, 1) := by decide +kernel
theorem dX11_alikeNumbers_36 : decode cX11_alikeNumbers 36 = .ok (.ior, 1) := by decide +kernel
theorem dX11_alikeNumbers_37 : decode cX11_alikeNumbers 37 = .ok (.istore_n 1, 1) := by decide +kernel
theorem dX11_alikeNumbers_38 : decode cX11_alikeNumbers 38 = .ok (.iinc 2 1, 3) := by decide +kernel
theorem dX11_alikeNumbers_41 : decode cX11_alikeNumbers 41 = .ok (.goto (-37), 3) := by decide +kernel
theorem dX11_alikeNumbers_44 : decode cX11_alikeNumbers 44 = .ok (.iload_n 1, 1) := by decide +kernel
theorem dX11_alikeNumbers_45 : decode cX11_alikeNumbers 45 = .ok (.ireturn, 1) := by decide +kernel
theorem dX11_fewest_0 : decode cX11_fewest 0 = .ok (.iload_n 1, 1) := by decide +kernel
theorem dX11_fewest_1 : decode cX11_fewest 1 = .ok (.invokestatic 411, 3) := by decide +kernel
theorem dX11_fewest_4 : decode cX11_fewest 4 = .ok (.ifCond .ne 5, 3) := by decide +kernel
theorem dX11_fewest_7 : decode cX11_fewest 7 = .ok (.iconst (-1), 1) := by decide +kernel
theorem dX11_fewest_8 : decode cX11_fewest 8 = .ok (.ireturn, 1) := by decide +kernel
theorem dX11_fewest_9 : decode cX11_fewest 9 = .ok (.iconst 0, 1) := by decide +kernel
theorem dX11_fewest_10 : decode cX11_fewest 10 = .ok (.istore_n 2, 1) := by decide +kernel
theorem dX11_fewest_11 : decode cX11_fewest 11 = .ok (.iload_n 1, 1) := by decide +kernel
theorem dX11_fewest_12 : decode cX11_fewest 12 = .ok (.iload_n 2, 1) := by decide +kernel
theorem dX11_fewest_13 : decode cX11_fewest 13 = .ok (.invokestatic 414, 3) := by decide +kernel
theorem dX11_fewest_16 : decode cX11_fewest 16 = .ok (.bipush 16, 2) := by decide +kernel
theorem dX11_fewest_18 : decode cX11_fewest 18 = .ok (.if_icmp .gt 23, 3) := by decide +kernel
theorem dX11_fewest_21 : decode cX11_fewest 21 = .ok (.aload_n 0, 1) := by decide +kernel
theorem dX11_fewest_22 : decode cX11_fewest 22 = .ok (.iload_n 1, 1) := by decide +kernel
theorem dX11_fewest_23 : decode cX11_fewest 23 = .ok (.iload_n 2, 1) := by decide +kernel
theorem dX11_fewest_24 : decode cX11_fewest 24 = .ok (.iconst 0, 1) := by decide +kernel
theorem dX11_fewest_25 : decode cX11_fewest 25 = .ok (.invokevirtual 427, 3) := by decide +kernel
theorem dX11_fewest_28 : decode cX11_fewest 28 = .ok (.lconst 0, 1) := by decide +kernel
theorem dX11_fewest_29 : decode cX11_fewest 29 = .ok (.lcmp, 1) := by decide +kernel
theorem dX11_fewest_30 : decode cX11_fewest 30 = .ok (.ifCond .le 5, 3) := by decide +kernel
theorem dX11_fewest_33 : decode cX11_fewest 33 = .ok (.iload_n 2, 1) := by decide +kernel
theorem dX11_fewest_34 : decode cX11_fewest 34 = .ok (.ireturn, 1) := by decide +kernel
theorem dX11_fewest_35 : decode cX11_fewest 35 = .ok (.iinc 2 1, 3) := by decide +kernel
theorem dX11_fewest_38 : decode cX11_fewest 38 = .ok (.goto (-27), 3) := by decide +kernel
theorem dX11_fewest_41 : decode cX11_fewest 41 = .ok (.iconst (-1), 1) := by decide +kernel
theorem dX11_fewest_42 : decode cX11_fewest 42 = .ok (.ireturn, 1) := by decide +kernel
theorem dX11_isMirrored_0 : decode cX11_isMirrored 0 = .ok (.iconst 0, 1) := by decide +kernel
theorem dX11_isMirrored_1 : decode cX11_isMirrored 1 = .ok (.istore_n 3, 1) := by decide +kernel
theorem dX11_isMirrored_2 : decode cX11_isMirrored 2 = .ok (.iconst 0, 1) := by decide +kernel
theorem dX11_isMirrored_3 : decode cX11_isMirrored 3 = .ok (.istore 4, 2) := by decide +kernel
theorem dX11_isMirrored_5 : decode cX11_isMirrored 5 = .ok (.iload 4, 2) := by decide +kernel
theorem dX11_isMirrored_7 : decode cX11_isMirrored 7 = .ok (.bipush 8, 2) := by decide +kernel
theorem dX11_isMirrored_9 : decode cX11_isMirrored 9 = .ok (.if_icmp .ge 86, 3) := by decide +kernel
theorem dX11_isMirrored_12 : decode cX11_isMirrored 12 = .ok (.iload_n 1, 1) := by decide +kernel
theorem dX11_isMirrored_13 : decode cX11_isMirrored 13 = .ok (.iload 4, 2) := by decide +kernel
theorem dX11_isMirrored_15 : decode cX11_isMirrored 15 = .ok (.invokestatic 251, 3) := by decide +kernel
theorem dX11_isMirrored_18 : decode cX11_isMirrored 18 = .ok (.ifCond .ne 6, 3) := by decide +kernel
theorem dX11_isMirrored_21 : decode cX11_isMirrored 21 = .ok (.goto 68, 3) := by decide +kernel
theorem dX11_isMirrored_24 : decode cX11_isMirrored 24 = .ok (.iload_n 2, 1) := by decide +kernel
theorem dX11_isMirrored_25 : decode cX11_isMirrored 25 = .ok (.iconst 1, 1) := by decide +kernel
theorem dX11_isMirrored_26 : decode cX11_isMirrored 26 = .ok (.isub, 1) := by decide +kernel
theorem dX11_isMirrored_27 : decode cX11_isMirrored 27 = .ok (.aload_n 0, 1) := by decide +kernel
theorem dX11_isMirrored_28 : decode cX11_isMirrored 28 = .ok (.getfield 50, 3) := by decide +kernel
theorem dX11_isMirrored_31 : decode cX11_isMirrored 31 = .ok (.iload 4, 2) := by decide +kernel
theorem dX11_isMirrored_33 : decode cX11_isMirrored 33 = .ok (.iaload, 1) := by decide +kernel
theorem dX11_isMirrored_34 : decode cX11_isMirrored 34 = .ok (.isub, 1) := by decide +kernel
theorem dX11_isMirrored_35 : decode cX11_isMirrored 35 = .ok (.istore 5, 2) := by decide +kernel
theorem dX11_isMirrored_37 : decode cX11_isMirrored 37 = .ok (.iload 5, 2) := by decide +kernel
theorem dX11_isMirrored_39 : decode cX11_isMirrored 39 = .ok (.ifCond .lt 11, 3) := by decide +kernel
theorem dX11_isMirrored_42 : decode cX11_isMirrored 42 = .ok (.iload 5, 2) := by decide +kernel
theorem dX11_isMirrored_44 : decode cX11_isMirrored 44 = .ok (.iconst 2, 1) := by decide +kernel
theorem dX11_isMirrored_45 : decode cX11_isMirrored 45 = .ok (.irem, 1) := by decide +kernel
theorem dX11_isMirrored_46 : decode cX11_isMirrored 46 = .ok (.iconst 1, 1) := by decide +kernel
theorem dX11_isMirrored_47 : decode cX11_isMirrored 47 = .ok (.if_icmp .ne 5, 3) := by decide +kernel
theorem dX11_isMirrored_50 : decode cX11_isMirrored 50 = .ok (.iconst 0, 1) := by decide +kernel
theorem dX11_isMirrored_51 : decode cX11_isMirrored 51 = .ok (.ireturn, 1) := by decide +kernel
theorem dX11_isMirrored_52 : decode cX11_isMirrored 52 = .ok (.iconst 1, 1) := by decide +kernel
theorem dX11_isMirrored_53 : decode cX11_isMirrored 53 = .ok (.iload 5, 2) := by decide +kernel
theorem dX11_isMirrored_55 : decode cX11_isMirrored 55 = .ok (.iconst 2, 1) := by decide +kernel
theorem dX11_isMirrored_56 : decode cX11_isMirrored 56 = .ok (.idiv, 1) := by decide +kernel
theorem dX11_isMirrored_57 : decode cX11_isMirrored 57 = .ok (.ishl, 1) := by decide +kernel
theorem dX11_isMirrored_58 : decode cX11_isMirrored 58 = .ok (.iconst 1, 1) := by decide +kernel
theorem dX11_isMirrored_59 : decode cX11_isMirrored 59 = .ok (.iload 5, 2) := by decide +kernel
theorem dX11_isMirrored_61 : decode cX11_isMirrored 61 = .ok (.iconst 2, 1) := by decide +kernel
theorem dX11_isMirrored_62 : decode cX11_isMirrored 62 = .ok (.idiv, 1) := by decide +kernel
theorem dX11_isMirrored_63 : decode cX11_isMirrored 63 = .ok (.aload_n 0, 1) := by decide +kernel
theorem dX11_isMirrored_64 : decode cX11_isMirrored 64 = .ok (.getfield 50, 3) := by decide +kernel
theorem dX11_isMirrored_67 : decode cX11_isMirrored 67 = .ok (.iload 4, 2) := by decide +kernel
theorem dX11_isMirrored_69 : decode cX11_isMirrored 69 = .ok (.iaload, 1) := by decide +kernel
theorem dX11_isMirrored_70 : decode cX11_isMirrored 70 = .ok (.iadd, 1) := by decide +kernel
theorem dX11_isMirrored_71 : decode cX11_isMirrored 71 = .ok (.ishl, 1) := by decide +kernel
theorem dX11_isMirrored_72 : decode cX11_isMirrored 72 = .ok (.ior, 1) := by decide +kernel
theorem dX11_isMirrored_73 : decode cX11_isMirrored 73 = .ok (.istore 6, 2) := by decide +kernel
theorem dX11_isMirrored_75 : decode cX11_isMirrored 75 = .ok (.iload_n 3, 1) := by decide +kernel
theorem dX11_isMirrored_76 : decode cX11_isMirrored 76 = .ok (.iload 6, 2) := by decide +kernel
theorem dX11_isMirrored_78 : decode cX11_isMirrored 78 = .ok (.iand, 1) := by decide +kernel
theorem dX11_isMirrored_79 : decode cX11_isMirrored 79 = .ok (.ifCond .eq 5, 3) := by decide +kernel
theorem dX11_isMirrored_82 : decode cX11_isMirrored 82 = .ok (.iconst 0, 1) := by decide +kernel
theorem dX11_isMirrored_83 : decode cX11_isMirrored 83 = .ok (.ireturn, 1) := by decide +kernel
theorem dX11_isMirrored_84 : decode cX11_isMirrored 84 = .ok (.iload_n 3, 1) := by decide +kernel
theorem dX11_isMirrored_85 : decode cX11_isMirrored 85 = .ok (.iload 6, 2) := by decide +kernel
theorem dX11_isMirrored_87 : decode cX11_isMirrored 87 = .ok (.ior, 1) := by decide +kernel
theorem dX11_isMirrored_88 : decode cX11_isMirrored 88 = .ok (.istore_n 3, 1) := by decide +kernel
theorem dX11_isMirrored_89 : decode cX11_isMirrored 89 = .ok (.iinc 4 1, 3) := by decide +kernel
theorem dX11_isMirrored_92 : decode cX11_isMirrored 92 = .ok (.goto (-87), 3) := by decide +kernel
theorem dX11_isMirrored_95 : decode cX11_isMirrored 95 = .ok (.iconst 1, 1) := by decide +kernel
theorem dX11_isMirrored_96 : decode cX11_isMirrored 96 = .ok (.ireturn, 1) := by decide +kernel
theorem dX11_kinds_0 : decode cX11_kinds 0 = .ok (.iload_n 1, 1) := by decide +kernel
theorem dX11_kinds_1 : decode cX11_kinds 1 = .ok (.iload_n 2, 1) := by decide +kernel
theorem dX11_kinds_2 : decode cX11_kinds 2 = .ok (.invokestatic 424, 3) := by decide +kernel
theorem dX11_kinds_5 : decode cX11_kinds 5 = .ok (.ifCond .ne 7, 3) := by decide +kernel
theorem dX11_kinds_8 : decode cX11_kinds 8 = .ok (.ldc2_w 431, 3) := by decide +kernel
theorem dX11_kinds_11 : decode cX11_kinds 11 = .ok (.lreturn, 1) := by decide +kernel
theorem dX11_kinds_12 : decode cX11_kinds 12 = .ok (.aload_n 0, 1) := by decide +kernel
theorem dX11_kinds_13 : decode cX11_kinds 13 = .ok (.iload_n 1, 1) := by decide +kernel
theorem dX11_kinds_14 : decode cX11_kinds 14 = .ok (.iload_n 2, 1) := by decide +kernel
theorem dX11_kinds_15 : decode cX11_kinds 15 = .ok (.iconst 1, 1) := by decide +kernel
theorem dX11_kinds_16 : decode cX11_kinds 16 = .ok (.invokevirtual 427, 3) := by decide +kernel
theorem dX11_kinds_19 : decode cX11_kinds 19 = .ok (.lstore_n 3, 1) := by decide +kernel
theorem dX11_kinds_20 : decode cX11_kinds 20 = .ok (.lload_n 3, 1) := by decide +kernel
theorem dX11_kinds_21 : decode cX11_kinds 21 = .ok (.aload_n 0, 1) := by decide +kernel
theorem dX11_kinds_22 : decode cX11_kinds 22 = .ok (.iload_n 1, 1) := by decide +kernel
theorem dX11_kinds_23 : decode cX11_kinds 23 = .ok (.iload_n 1, 1) := by decide +kernel
theorem dX11_kinds_24 : decode cX11_kinds 24 = .ok (.iload_n 2, 1) := by decide +kernel
theorem dX11_kinds_25 : decode cX11_kinds 25 = .ok (.invokestatic 414, 3) := by decide +kernel
theorem dX11_kinds_28 : decode cX11_kinds 28 = .ok (.invokevirtual 436, 3) := by decide +kernel
theorem dX11_kinds_31 : decode cX11_kinds 31 = .ok (.ifCond .eq 7, 3) := by decide +kernel
theorem dX11_kinds_34 : decode cX11_kinds 34 = .ok (.lconst 1, 1) := by decide +kernel
theorem dX11_kinds_35 : decode cX11_kinds 35 = .ok (.goto 4, 3) := by decide +kernel
theorem dX11_kinds_38 : decode cX11_kinds 38 = .ok (.lconst 0, 1) := by decide +kernel
theorem dX11_kinds_39 : decode cX11_kinds 39 = .ok (.ladd, 1) := by decide +kernel
theorem dX11_kinds_40 : decode cX11_kinds 40 = .ok (.ldc2_w 439, 3) := by decide +kernel
theorem dX11_kinds_43 : decode cX11_kinds 43 = .ok (.ldiv, 1) := by decide +kernel
theorem dX11_kinds_44 : decode cX11_kinds 44 = .ok (.lreturn, 1) := by decide +kernel
theorem dX11_isPick_0 : decode cX11_isPick 0 = .ok (.iload 5, 2) := by decide +kernel
theorem dX11_isPick_2 : decode cX11_isPick 2 = .ok (.ifCond .ne 14, 3) := by decide +kernel
theorem dX11_isPick_5 : decode cX11_isPick 5 = .ok (.iload 7, 2) := by decide +kernel
theorem dX11_isPick_7 : decode cX11_isPick 7 = .ok (.ifCond .le 7, 3) := by decide +kernel
theorem dX11_isPick_10 : decode cX11_isPick 10 = .ok (.iconst 1, 1) := by decide +kernel
theorem dX11_isPick_11 : decode cX11_isPick 11 = .ok (.goto 4, 3) := by decide +kernel
theorem dX11_isPick_14 : decode cX11_isPick 14 = .ok (.iconst 0, 1) := by decide +kernel
theorem dX11_isPick_15 : decode cX11_isPick 15 = .ok (.ireturn, 1) := by decide +kernel
theorem dX11_isPick_16 : decode cX11_isPick 16 = .ok (.iload_n 1, 1) := by decide +kernel
theorem dX11_isPick_17 : decode cX11_isPick 17 = .ok (.iload 5, 2) := by decide +kernel
theorem dX11_isPick_19 : decode cX11_isPick 19 = .ok (.iconst 1, 1) := by decide +kernel
theorem dX11_isPick_20 : decode cX11_isPick 20 = .ok (.isub, 1) := by decide +kernel
theorem dX11_isPick_21 : decode cX11_isPick 21 = .ok (.invokestatic 251, 3) := by decide +kernel
theorem dX11_isPick_24 : decode cX11_isPick 24 = .ok (.ifCond .eq 14, 3) := by decide +kernel
theorem dX11_isPick_27 : decode cX11_isPick 27 = .ok (.iload_n 2, 1) := by decide +kernel
theorem dX11_isPick_28 : decode cX11_isPick 28 = .ok (.iload 5, 2) := by decide +kernel
theorem dX11_isPick_30 : decode cX11_isPick 30 = .ok (.iconst 1, 1) := by decide +kernel
theorem dX11_isPick_31 : decode cX11_isPick 31 = .ok (.isub, 1) := by decide +kernel
theorem dX11_isPick_32 : decode cX11_isPick 32 = .ok (.invokestatic 251, 3) := by decide +kernel
theorem dX11_isPick_35 : decode cX11_isPick 35 = .ok (.ifCond .eq 5, 3) := by decide +kernel
theorem dX11_isPick_38 : decode cX11_isPick 38 = .ok (.iconst 0, 1) := by decide +kernel
theorem dX11_isPick_39 : decode cX11_isPick 39 = .ok (.ireturn, 1) := by decide +kernel
theorem dX11_isPick_40 : decode cX11_isPick 40 = .ok (.iload 4, 2) := by decide +kernel
theorem dX11_isPick_42 : decode cX11_isPick 42 = .ok (.aload_n 0, 1) := by decide +kernel
theorem dX11_isPick_43 : decode cX11_isPick 43 = .ok (.getfield 50, 3) := by decide +kernel
theorem dX11_isPick_46 : decode cX11_isPick 46 = .ok (.iload 5, 2) := by decide +kernel
theorem dX11_isPick_48 : decode cX11_isPick 48 = .ok (.iconst 1, 1) := by decide +kernel
theorem dX11_isPick_49 : decode cX11_isPick 49 = .ok (.isub, 1) := by decide +kernel
theorem dX11_isPick_50 : decode cX11_isPick 50 = .ok (.iaload, 1) := by decide +kernel
theorem dX11_isPick_51 : decode cX11_isPick 51 = .ok (.iadd, 1) := by decide +kernel
theorem dX11_isPick_52 : decode cX11_isPick 52 = .ok (.iload 6, 2) := by decide +kernel
theorem dX11_isPick_54 : decode cX11_isPick 54 = .ok (.if_icmp .ge 26, 3) := by decide +kernel
theorem dX11_isPick_57 : decode cX11_isPick 57 = .ok (.iload_n 3, 1) := by decide +kernel
theorem dX11_isPick_58 : decode cX11_isPick 58 = .ok (.iload 4, 2) := by decide +kernel
theorem dX11_isPick_60 : decode cX11_isPick 60 = .ok (.aload_n 0, 1) := by decide +kernel
theorem dX11_isPick_61 : decode cX11_isPick 61 = .ok (.getfield 50, 3) := by decide +kernel
theorem dX11_isPick_64 : decode cX11_isPick 64 = .ok (.iload 5, 2) := by decide +kernel
theorem dX11_isPick_66 : decode cX11_isPick 66 = .ok (.iconst 1, 1) := by decide +kernel
theorem dX11_isPick_67 : decode cX11_isPick 67 = .ok (.isub, 1) := by decide +kernel
theorem dX11_isPick_68 : decode cX11_isPick 68 = .ok (.iaload, 1) := by decide +kernel
theorem dX11_isPick_69 : decode cX11_isPick 69 = .ok (.iadd, 1) := by decide +kernel
theorem dX11_isPick_70 : decode cX11_isPick 70 = .ok (.invokestatic 251, 3) := by decide +kernel
theorem dX11_isPick_73 : decode cX11_isPick 73 = .ok (.ifCond .ne 7, 3) := by decide +kernel
theorem dX11_isPick_76 : decode cX11_isPick 76 = .ok (.iconst 1, 1) := by decide +kernel
theorem dX11_isPick_77 : decode cX11_isPick 77 = .ok (.goto 4, 3) := by decide +kernel
theorem dX11_isPick_80 : decode cX11_isPick 80 = .ok (.iconst 0, 1) := by decide +kernel
theorem dX11_isPick_81 : decode cX11_isPick 81 = .ok (.ireturn, 1) := by decide +kernel
theorem dX11_isLaid_0 : decode cX11_isLaid 0 = .ok (.aload_n 0, 1) := by decide +kernel
theorem dX11_isLaid_1 : decode cX11_isLaid 1 = .ok (.iload_n 1, 1) := by decide +kernel
theorem dX11_isLaid_2 : decode cX11_isLaid 2 = .ok (.invokevirtual 401, 3) := by decide +kernel
theorem dX11_isLaid_5 : decode cX11_isLaid 5 = .ok (.iconst 0, 1) := by decide +kernel
theorem dX11_isLaid_6 : decode cX11_isLaid 6 = .ok (.istore 4, 2) := by decide +kernel
theorem dX11_isLaid_8 : decode cX11_isLaid 8 = .ok (.iload 4, 2) := by decide +kernel
theorem dX11_isLaid_10 : decode cX11_isLaid 10 = .ok (.bipush 16, 2) := by decide +kernel
theorem dX11_isLaid_12 : decode cX11_isLaid 12 = .ok (.if_icmp .ge 17, 3) := by decide +kernel
theorem dX11_isLaid_15 : decode cX11_isLaid 15 = .ok (.aload_n 0, 1) := by decide +kernel
theorem dX11_isLaid_16 : decode cX11_isLaid 16 = .ok (.getfield 68, 3) := by decide +kernel
theorem dX11_isLaid_19 : decode cX11_isLaid 19 = .ok (.iload 4, 2) := by decide +kernel
theorem dX11_isLaid_21 : decode cX11_isLaid 21 = .ok (.iconst (-1), 1) := by decide +kernel
theorem dX11_isLaid_22 : decode cX11_isLaid 22 = .ok (.iastore, 1) := by decide +kernel
theorem dX11_isLaid_23 : decode cX11_isLaid 23 = .ok (.iinc 4 1, 3) := by decide +kernel
theorem dX11_isLaid_26 : decode cX11_isLaid 26 = .ok (.goto (-18), 3) := by decide +kernel
theorem dX11_isLaid_29 : decode cX11_isLaid 29 = .ok (.iload_n 1, 1) := by decide +kernel
theorem dX11_isLaid_30 : decode cX11_isLaid 30 = .ok (.iload_n 2, 1) := by decide +kernel
theorem dX11_isLaid_31 : decode cX11_isLaid 31 = .ok (.invokestatic 414, 3) := by decide +kernel
theorem dX11_isLaid_34 : decode cX11_isLaid 34 = .ok (.istore 4, 2) := by decide +kernel
theorem dX11_isLaid_36 : decode cX11_isLaid 36 = .ok (.iload_n 2, 1) := by decide +kernel
theorem dX11_isLaid_37 : decode cX11_isLaid 37 = .ok (.istore 5, 2) := by decide +kernel
theorem dX11_isLaid_39 : decode cX11_isLaid 39 = .ok (.iconst 0, 1) := by decide +kernel
theorem dX11_isLaid_40 : decode cX11_isLaid 40 = .ok (.istore 6, 2) := by decide +kernel
theorem dX11_isLaid_42 : decode cX11_isLaid 42 = .ok (.iconst 0, 1) := by decide +kernel
theorem dX11_isLaid_43 : decode cX11_isLaid 43 = .ok (.istore 7, 2) := by decide +kernel
theorem dX11_isLaid_45 : decode cX11_isLaid 45 = .ok (.iconst 0, 1) := by decide +kernel
theorem dX11_isLaid_46 : decode cX11_isLaid 46 = .ok (.istore 8, 2) := by decide +kernel
theorem dX11_isLaid_48 : decode cX11_isLaid 48 = .ok (.iload_n 3, 1) := by decide +kernel
theorem dX11_isLaid_49 : decode cX11_isLaid 49 = .ok (.istore 9, 2) := by decide +kernel
theorem dX11_isLaid_51 : decode cX11_isLaid 51 = .ok (.iload 8, 2) := by decide +kernel
theorem dX11_isLaid_53 : decode cX11_isLaid 53 = .ok (.iload 4, 2) := by decide +kernel
theorem dX11_isLaid_55 : decode cX11_isLaid 55 = .ok (.if_icmp .lt 8, 3) := by decide +kernel
theorem dX11_isLaid_58 : decode cX11_isLaid 58 = .ok (.iload 9, 2) := by decide +kernel
theorem dX11_isLaid_60 : decode cX11_isLaid 60 = .ok (.ifCond .le 239, 3) := by decide +kernel
theorem dX11_isLaid_63 : decode cX11_isLaid 63 = .ok (.iload 8, 2) := by decide +kernel
theorem dX11_isLaid_65 : decode cX11_isLaid 65 = .ok (.iload 4, 2) := by decide +kernel
theorem dX11_isLaid_67 : decode cX11_isLaid 67 = .ok (.if_icmp .ne 14, 3) := by decide +kernel
theorem dX11_isLaid_70 : decode cX11_isLaid 70 = .ok (.iinc 9 (-1), 3) := by decide +kernel
theorem dX11_isLaid_73 : decode cX11_isLaid 73 = .ok (.aload_n 0, 1) := by decide +kernel
theorem dX11_isLaid_74 : decode cX11_isLaid 74 = .ok (.iload 8, 2) := by decide +kernel
theorem dX11_isLaid_76 : decode cX11_isLaid 76 = .ok (.invokevirtual 441, 3) := by decide +kernel
theorem dX11_isLaid_79 : decode cX11_isLaid 79 = .ok (.istore 8, 2) := by decide +kernel
theorem dX11_isLaid_81 : decode cX11_isLaid 81 = .ok (.iload 8, 2) := by decide +kernel
theorem dX11_isLaid_83 : decode cX11_isLaid 83 = .ok (.ifCond .ge 5, 3) := by decide +kernel
theorem dX11_isLaid_86 : decode cX11_isLaid 86 = .ok (.iconst 0, 1) := by decide +kernel
theorem dX11_isLaid_87 : decode cX11_isLaid 87 = .ok (.ireturn, 1) := by decide +kernel
theorem dX11_isLaid_88 : decode cX11_isLaid 88 = .ok (.aload_n 0, 1) := by decide +kernel
theorem dX11_isLaid_89 : decode cX11_isLaid 89 = .ok (.getfield 68, 3) := by decide +kernel
theorem dX11_isLaid_92 : decode cX11_isLaid 92 = .ok (.iload 8, 2) := by decide +kernel
theorem dX11_isLaid_94 : decode cX11_isLaid 94 = .ok (.iaload, 1) := by decide +kernel
theorem dX11_isLaid_95 : decode cX11_isLaid 95 = .ok (.istore 10, 2) := by decide +kernel
theorem dX11_isLaid_97 : decode cX11_isLaid 97 = .ok (.iload 10, 2) := by decide +kernel
theorem dX11_isLaid_99 : decode cX11_isLaid 99 = .ok (.iconst (-1), 1) := by decide +kernel
theorem dX11_isLaid_100 : decode cX11_isLaid 100 = .ok (.if_icmp .ne 19, 3) := by decide +kernel
theorem dX11_isLaid_103 : decode cX11_isLaid 103 = .ok (.iload 7, 2) := by decide +kernel
theorem dX11_isLaid_105 : decode cX11_isLaid 105 = .ok (.iload 8, 2) := by decide +kernel
theorem dX11_isLaid_107 : decode cX11_isLaid 107 = .ok (.invokestatic 251, 3) := by decide +kernel
theorem dX11_isLaid_110 : decode cX11_isLaid 110 = .ok (.ifCond .eq 9, 3) := by decide +kernel
theorem dX11_isLaid_113 : decode cX11_isLaid 113 = .ok (.iinc 8 1, 3) := by decide +kernel
theorem dX11_isLaid_116 : decode cX11_isLaid 116 = .ok (.goto (-65), 3) := by decide +kernel
theorem dX11_isLaid_119 : decode cX11_isLaid 119 = .ok (.iload 10, 2) := by decide +kernel
theorem dX11_isLaid_121 : decode cX11_isLaid 121 = .ok (.ifCond .ne 6, 3) := by decide +kernel
theorem dX11_isLaid_124 : decode cX11_isLaid 124 = .ok (.iinc 5 1, 3) := by decide +kernel
theorem dX11_isLaid_127 : decode cX11_isLaid 127 = .ok (.iload 10, 2) := by decide +kernel
theorem dX11_isLaid_129 : decode cX11_isLaid 129 = .ok (.ifCond .le 42, 3) := by decide +kernel
theorem dX11_isLaid_132 : decode cX11_isLaid 132 = .ok (.iload 6, 2) := by decide +kernel
theorem dX11_isLaid_134 : decode cX11_isLaid 134 = .ok (.iconst 1, 1) := by decide +kernel
theorem dX11_isLaid_135 : decode cX11_isLaid 135 = .ok (.iload 10, 2) := by decide +kernel
theorem dX11_isLaid_137 : decode cX11_isLaid 137 = .ok (.iconst 1, 1) := by decide +kernel
theorem dX11_isLaid_138 : decode cX11_isLaid 138 = .ok (.isub, 1) := by decide +kernel
theorem dX11_isLaid_139 : decode cX11_isLaid 139 = .ok (.ishl, 1) := by decide +kernel
theorem dX11_isLaid_140 : decode cX11_isLaid 140 = .ok (.iconst (-1), 1) := by decide +kernel
theorem dX11_isLaid_141 : decode cX11_isLaid 141 = .ok (.ixor, 1) := by decide +kernel
theorem dX11_isLaid_142 : decode cX11_isLaid 142 = .ok (.iand, 1) := by decide +kernel
theorem dX11_isLaid_143 : decode cX11_isLaid 143 = .ok (.istore 6, 2) := by decide +kernel
theorem dX11_isLaid_145 : decode cX11_isLaid 145 = .ok (.iload 7, 2) := by decide +kernel
theorem dX11_isLaid_147 : decode cX11_isLaid 147 = .ok (.iconst 1, 1) := by decide +kernel
theorem dX11_isLaid_148 : decode cX11_isLaid 148 = .ok (.iload 8, 2) := by decide +kernel
theorem dX11_isLaid_150 : decode cX11_isLaid 150 = .ok (.ishl, 1) := by decide +kernel
theorem dX11_isLaid_151 : decode cX11_isLaid 151 = .ok (.iconst 1, 1) := by decide +kernel
theorem dX11_isLaid_152 : decode cX11_isLaid 152 = .ok (.iload 8, 2) := by decide +kernel
theorem dX11_isLaid_154 : decode cX11_isLaid 154 = .ok (.aload_n 0, 1) := by decide +kernel
theorem dX11_isLaid_155 : decode cX11_isLaid 155 = .ok (.getfield 50, 3) := by decide +kernel
theorem dX11_isLaid_158 : decode cX11_isLaid 158 = .ok (.iload 10, 2) := by decide +kernel
theorem dX11_isLaid_160 : decode cX11_isLaid 160 = .ok (.iconst 1, 1) := by decide +kernel
theorem dX11_isLaid_161 : decode cX11_isLaid 161 = .ok (.isub, 1) := by decide +kernel
theorem dX11_isLaid_162 : decode cX11_isLaid 162 = .ok (.iaload, 1) := by decide +kernel
theorem dX11_isLaid_163 : decode cX11_isLaid 163 = .ok (.iadd, 1) := by decide +kernel
theorem dX11_isLaid_164 : decode cX11_isLaid 164 = .ok (.ishl, 1) := by decide +kernel
theorem dX11_isLaid_165 : decode cX11_isLaid 165 = .ok (.ior, 1) := by decide +kernel
theorem dX11_isLaid_166 : decode cX11_isLaid 166 = .ok (.iconst (-1), 1) := by decide +kernel
theorem dX11_isLaid_167 : decode cX11_isLaid 167 = .ok (.ixor, 1) := by decide +kernel
theorem dX11_isLaid_168 : decode cX11_isLaid 168 = .ok (.iand, 1) := by decide +kernel
theorem dX11_isLaid_169 : decode cX11_isLaid 169 = .ok (.istore 7, 2) := by decide +kernel
theorem dX11_isLaid_171 : decode cX11_isLaid 171 = .ok (.iinc 10 1, 3) := by decide +kernel
theorem dX11_isLaid_174 : decode cX11_isLaid 174 = .ok (.iload 10, 2) := by decide +kernel
theorem dX11_isLaid_176 : decode cX11_isLaid 176 = .ok (.bipush 8, 2) := by decide +kernel
theorem dX11_isLaid_178 : decode cX11_isLaid 178 = .ok (.if_icmp .gt 29, 3) := by decide +kernel
theorem dX11_isLaid_181 : decode cX11_isLaid 181 = .ok (.aload_n 0, 1) := by decide +kernel
theorem dX11_isLaid_182 : decode cX11_isLaid 182 = .ok (.iload_n 1, 1) := by decide +kernel
theorem dX11_isLaid_183 : decode cX11_isLaid 183 = .ok (.iload 6, 2) := by decide +kernel
theorem dX11_isLaid_185 : decode cX11_isLaid 185 = .ok (.iload 7, 2) := by decide +kernel
theorem dX11_isLaid_187 : decode cX11_isLaid 187 = .ok (.iload 8, 2) := by decide +kernel
theorem dX11_isLaid_189 : decode cX11_isLaid 189 = .ok (.iload 10, 2) := by decide +kernel
theorem dX11_isLaid_191 : decode cX11_isLaid 191 = .ok (.iload 4, 2) := by decide +kernel
theorem dX11_isLaid_193 : decode cX11_isLaid 193 = .ok (.iload 5, 2) := by decide +kernel
theorem dX11_isLaid_195 : decode cX11_isLaid 195 = .ok (.invokevirtual 444, 3) := by decide +kernel
theorem dX11_isLaid_198 : decode cX11_isLaid 198 = .ok (.ifCond .ne 9, 3) := by decide +kernel
theorem dX11_isLaid_201 : decode cX11_isLaid 201 = .ok (.iinc 10 1, 3) := by decide +kernel
theorem dX11_isLaid_204 : decode cX11_isLaid 204 = .ok (.goto (-30), 3) := by decide +kernel
theorem dX11_isLaid_207 : decode cX11_isLaid 207 = .ok (.aload_n 0, 1) := by decide +kernel
theorem dX11_isLaid_208 : decode cX11_isLaid 208 = .ok (.getfield 68, 3) := by decide +kernel
theorem dX11_isLaid_211 : decode cX11_isLaid 211 = .ok (.iload 8, 2) := by decide +kernel
theorem dX11_isLaid_213 : decode cX11_isLaid 213 = .ok (.iload 10, 2) := by decide +kernel
theorem dX11_isLaid_215 : decode cX11_isLaid 215 = .ok (.bipush 8, 2) := by decide +kernel
theorem dX11_isLaid_217 : decode cX11_isLaid 217 = .ok (.if_icmp .gt 8, 3) := by decide +kernel
theorem dX11_isLaid_220 : decode cX11_isLaid 220 = .ok (.iload 10, 2) := by decide +kernel
theorem dX11_isLaid_222 : decode cX11_isLaid 222 = .ok (.goto 4, 3) := by decide +kernel
theorem dX11_isLaid_225 : decode cX11_isLaid 225 = .ok (.iconst (-1), 1) := by decide +kernel
theorem dX11_isLaid_226 : decode cX11_isLaid 226 = .ok (.iastore, 1) := by decide +kernel
theorem dX11_isLaid_227 : decode cX11_isLaid 227 = .ok (.iload 10, 2) := by decide +kernel
theorem dX11_isLaid_229 : decode cX11_isLaid 229 = .ok (.bipush 8, 2) := by decide +kernel
theorem dX11_isLaid_231 : decode cX11_isLaid 231 = .ok (.if_icmp .le 14, 3) := by decide +kernel
theorem dX11_isLaid_234 : decode cX11_isLaid 234 = .ok (.aload_n 0, 1) := by decide +kernel
theorem dX11_isLaid_235 : decode cX11_isLaid 235 = .ok (.iload 8, 2) := by decide +kernel
theorem dX11_isLaid_237 : decode cX11_isLaid 237 = .ok (.invokevirtual 441, 3) := by decide +kernel
theorem dX11_isLaid_240 : decode cX11_isLaid 240 = .ok (.istore 8, 2) := by decide +kernel
theorem dX11_isLaid_242 : decode cX11_isLaid 242 = .ok (.goto (-191), 3) := by decide +kernel
theorem dX11_isLaid_245 : decode cX11_isLaid 245 = .ok (.iload 10, 2) := by decide +kernel
theorem dX11_isLaid_247 : decode cX11_isLaid 247 = .ok (.ifCond .ne 6, 3) := by decide +kernel
theorem dX11_isLaid_250 : decode cX11_isLaid 250 = .ok (.iinc 5 (-1), 3) := by decide +kernel
theorem dX11_isLaid_253 : decode cX11_isLaid 253 = .ok (.iload 10, 2) := by decide +kernel
theorem dX11_isLaid_255 : decode cX11_isLaid 255 = .ok (.ifCond .le 38, 3) := by decide +kernel
theorem dX11_isLaid_258 : decode cX11_isLaid 258 = .ok (.iload 6, 2) := by decide +kernel
theorem dX11_isLaid_260 : decode cX11_isLaid 260 = .ok (.iconst 1, 1) := by decide +kernel
theorem dX11_isLaid_261 : decode cX11_isLaid 261 = .ok (.iload 10, 2) := by decide +kernel
theorem dX11_isLaid_263 : decode cX11_isLaid 263 = .ok (.iconst 1, 1) := by decide +kernel
theorem dX11_isLaid_264 : decode cX11_isLaid 264 = .ok (.isub, 1) := by decide +kernel
theorem dX11_isLaid_265 : decode cX11_isLaid 265 = .ok (.ishl, 1) := by decide +kernel
theorem dX11_isLaid_266 : decode cX11_isLaid 266 = .ok (.ior, 1) := by decide +kernel
theorem dX11_isLaid_267 : decode cX11_isLaid 267 = .ok (.istore 6, 2) := by decide +kernel
theorem dX11_isLaid_269 : decode cX11_isLaid 269 = .ok (.iload 7, 2) := by decide +kernel
theorem dX11_isLaid_271 : decode cX11_isLaid 271 = .ok (.iconst 1, 1) := by decide +kernel
theorem dX11_isLaid_272 : decode cX11_isLaid 272 = .ok (.iload 8, 2) := by decide +kernel
theorem dX11_isLaid_274 : decode cX11_isLaid 274 = .ok (.ishl, 1) := by decide +kernel
theorem dX11_isLaid_275 : decode cX11_isLaid 275 = .ok (.iconst 1, 1) := by decide +kernel
theorem dX11_isLaid_276 : decode cX11_isLaid 276 = .ok (.iload 8, 2) := by decide +kernel
theorem dX11_isLaid_278 : decode cX11_isLaid 278 = .ok (.aload_n 0, 1) := by decide +kernel
theorem dX11_isLaid_279 : decode cX11_isLaid 279 = .ok (.getfield 50, 3) := by decide +kernel
theorem dX11_isLaid_282 : decode cX11_isLaid 282 = .ok (.iload 10, 2) := by decide +kernel
theorem dX11_isLaid_284 : decode cX11_isLaid 284 = .ok (.iconst 1, 1) := by decide +kernel
theorem dX11_isLaid_285 : decode cX11_isLaid 285 = .ok (.isub, 1) := by decide +kernel
theorem dX11_isLaid_286 : decode cX11_isLaid 286 = .ok (.iaload, 1) := by decide +kernel
theorem dX11_isLaid_287 : decode cX11_isLaid 287 = .ok (.iadd, 1) := by decide +kernel
theorem dX11_isLaid_288 : decode cX11_isLaid 288 = .ok (.ishl, 1) := by decide +kernel
theorem dX11_isLaid_289 : decode cX11_isLaid 289 = .ok (.ior, 1) := by decide +kernel
theorem dX11_isLaid_290 : decode cX11_isLaid 290 = .ok (.ior, 1) := by decide +kernel
theorem dX11_isLaid_291 : decode cX11_isLaid 291 = .ok (.istore 7, 2) := by decide +kernel
theorem dX11_isLaid_293 : decode cX11_isLaid 293 = .ok (.iinc 8 1, 3) := by decide +kernel
theorem dX11_isLaid_296 : decode cX11_isLaid 296 = .ok (.goto (-245), 3) := by decide +kernel
theorem dX11_isLaid_299 : decode cX11_isLaid 299 = .ok (.iconst 1, 1) := by decide +kernel
theorem dX11_isLaid_300 : decode cX11_isLaid 300 = .ok (.ireturn, 1) := by decide +kernel
theorem dX11_decidedAhead_0 : decode cX11_decidedAhead 0 = .ok (.iload_n 1, 1) := by decide +kernel
theorem dX11_decidedAhead_1 : decode cX11_decidedAhead 1 = .ok (.iconst 1, 1) := by decide +kernel
theorem dX11_decidedAhead_2 : decode cX11_decidedAhead 2 = .ok (.isub, 1) := by decide +kernel
theorem dX11_decidedAhead_3 : decode cX11_decidedAhead 3 = .ok (.istore_n 2, 1) := by decide +kernel
theorem dX11_decidedAhead_4 : decode cX11_decidedAhead 4 = .ok (.iload_n 2, 1) := by decide +kernel
theorem dX11_decidedAhead_5 : decode cX11_decidedAhead 5 = .ok (.ifCond .lt 19, 3) := by decide +kernel
theorem dX11_decidedAhead_8 : decode cX11_decidedAhead 8 = .ok (.aload_n 0, 1) := by decide +kernel
theorem dX11_decidedAhead_9 : decode cX11_decidedAhead 9 = .ok (.getfield 68, 3) := by decide +kernel
theorem dX11_decidedAhead_12 : decode cX11_decidedAhead 12 = .ok (.iload_n 2, 1) := by decide +kernel
theorem dX11_decidedAhead_13 : decode cX11_decidedAhead 13 = .ok (.iaload, 1) := by decide +kernel
theorem dX11_decidedAhead_14 : decode cX11_decidedAhead 14 = .ok (.iconst (-1), 1) := by decide +kernel
theorem dX11_decidedAhead_15 : decode cX11_decidedAhead 15 = .ok (.if_icmp .ne 9, 3) := by decide +kernel
theorem dX11_decidedAhead_18 : decode cX11_decidedAhead 18 = .ok (.iinc 2 (-1), 3) := by decide +kernel
theorem dX11_decidedAhead_21 : decode cX11_decidedAhead 21 = .ok (.goto (-17), 3) := by decide +kernel
theorem dX11_decidedAhead_24 : decode cX11_decidedAhead 24 = .ok (.iload_n 2, 1) := by decide +kernel
theorem dX11_decidedAhead_25 : decode cX11_decidedAhead 25 = .ok (.ireturn, 1) := by decide +kernel
theorem dX11_row_0 : decode cX11_row 0 = .ok (.aload_n 0, 1) := by decide +kernel
theorem dX11_row_1 : decode cX11_row 1 = .ok (.iload_n 1, 1) := by decide +kernel
theorem dX11_row_2 : decode cX11_row 2 = .ok (.iload_n 2, 1) := by decide +kernel
theorem dX11_row_3 : decode cX11_row 3 = .ok (.iconst 0, 1) := by decide +kernel
theorem dX11_row_4 : decode cX11_row 4 = .ok (.iload_n 3, 1) := by decide +kernel
theorem dX11_row_5 : decode cX11_row 5 = .ok (.invokevirtual 448, 3) := by decide +kernel
theorem dX11_row_8 : decode cX11_row 8 = .ok (.ireturn, 1) := by decide +kernel
theorem dX11_rowAt_0 : decode cX11_rowAt 0 = .ok (.iload_n 1, 1) := by decide +kernel
theorem dX11_rowAt_1 : decode cX11_rowAt 1 = .ok (.iload_n 2, 1) := by decide +kernel
theorem dX11_rowAt_2 : decode cX11_rowAt 2 = .ok (.invokestatic 424, 3) := by decide +kernel
theorem dX11_rowAt_5 : decode cX11_rowAt 5 = .ok (.ifCond .eq 33, 3) := by decide +kernel
theorem dX11_rowAt_8 : decode cX11_rowAt 8 = .ok (.iload_n 3, 1) := by decide +kernel
theorem dX11_rowAt_9 : decode cX11_rowAt 9 = .ok (.ifCond .lt 29, 3) := by decide +kernel
theorem dX11_rowAt_12 : decode cX11_rowAt 12 = .ok (.iload 4, 2) := by decide +kernel
theorem dX11_rowAt_14 : decode cX11_rowAt 14 = .ok (.iconst 0, 1) := by decide +kernel
theorem dX11_rowAt_15 : decode cX11_rowAt 15 = .ok (.iload_n 1, 1) := by decide +kernel
theorem dX11_rowAt_16 : decode cX11_rowAt 16 = .ok (.iload_n 2, 1) := by decide +kernel
theorem dX11_rowAt_17 : decode cX11_rowAt 17 = .ok (.invokestatic 414, 3) := by decide +kernel
theorem dX11_rowAt_20 : decode cX11_rowAt 20 = .ok (.iconst 1, 1) := by decide +kernel
theorem dX11_rowAt_21 : decode cX11_rowAt 21 = .ok (.isub, 1) := by decide +kernel
theorem dX11_rowAt_22 : decode cX11_rowAt 22 = .ok (.invokestatic 83, 3) := by decide +kernel
theorem dX11_rowAt_25 : decode cX11_rowAt 25 = .ok (.ifCond .eq 13, 3) := by decide +kernel
theorem dX11_rowAt_28 : decode cX11_rowAt 28 = .ok (.aload_n 0, 1) := by decide +kernel
theorem dX11_rowAt_29 : decode cX11_rowAt 29 = .ok (.iload_n 1, 1) := by decide +kernel
theorem dX11_rowAt_30 : decode cX11_rowAt 30 = .ok (.iload_n 2, 1) := by decide +kernel
theorem dX11_rowAt_31 : decode cX11_rowAt 31 = .ok (.iload_n 3, 1) := by decide +kernel
theorem dX11_rowAt_32 : decode cX11_rowAt 32 = .ok (.invokevirtual 451, 3) := by decide +kernel
theorem dX11_rowAt_35 : decode cX11_rowAt 35 = .ok (.ifCond .ne 5, 3) := by decide +kernel
theorem dX11_rowAt_38 : decode cX11_rowAt 38 = .ok (.iconst (-1), 1) := by decide +kernel
theorem dX11_rowAt_39 : decode cX11_rowAt 39 = .ok (.ireturn, 1) := by decide +kernel
theorem dX11_rowAt_40 : decode cX11_rowAt 40 = .ok (.iconst 0, 1) := by decide +kernel
theorem dX11_rowAt_41 : decode cX11_rowAt 41 = .ok (.istore 5, 2) := by decide +kernel
theorem dX11_rowAt_43 : decode cX11_rowAt 43 = .ok (.iload 5, 2) := by decide +kernel
theorem dX11_rowAt_45 : decode cX11_rowAt 45 = .ok (.iload 4, 2) := by decide +kernel
theorem dX11_rowAt_47 : decode cX11_rowAt 47 = .ok (.if_icmp .gt 56, 3) := by decide +kernel
theorem dX11_rowAt_50 : decode cX11_rowAt 50 = .ok (.aload_n 0, 1) := by decide +kernel
theorem dX11_rowAt_51 : decode cX11_rowAt 51 = .ok (.getfield 68, 3) := by decide +kernel
theorem dX11_rowAt_54 : decode cX11_rowAt 54 = .ok (.iload 5, 2) := by decide +kernel
theorem dX11_rowAt_56 : decode cX11_rowAt 56 = .ok (.iaload, 1) := by decide +kernel
theorem dX11_rowAt_57 : decode cX11_rowAt 57 = .ok (.ifCond .le 40, 3) := by decide +kernel
theorem dX11_rowAt_60 : decode cX11_rowAt 60 = .ok (.iload 5, 2) := by decide +kernel
theorem dX11_rowAt_62 : decode cX11_rowAt 62 = .ok (.iload 4, 2) := by decide +kernel
theorem dX11_rowAt_64 : decode cX11_rowAt 64 = .ok (.if_icmp .eq 25, 3) := by decide +kernel
theorem dX11_rowAt_67 : decode cX11_rowAt 67 = .ok (.iload 5, 2) := by decide +kernel
theorem dX11_rowAt_69 : decode cX11_rowAt 69 = .ok (.aload_n 0, 1) := by decide +kernel
theorem dX11_rowAt_70 : decode cX11_rowAt 70 = .ok (.getfield 50, 3) := by decide +kernel
theorem dX11_rowAt_73 : decode cX11_rowAt 73 = .ok (.aload_n 0, 1) := by decide +kernel
theorem dX11_rowAt_74 : decode cX11_rowAt 74 = .ok (.getfield 68, 3) := by decide +kernel
theorem dX11_rowAt_77 : decode cX11_rowAt 77 = .ok (.iload 5, 2) := by decide +kernel
theorem dX11_rowAt_79 : decode cX11_rowAt 79 = .ok (.iaload, 1) := by decide +kernel
theorem dX11_rowAt_80 : decode cX11_rowAt 80 = .ok (.iconst 1, 1) := by decide +kernel
theorem dX11_rowAt_81 : decode cX11_rowAt 81 = .ok (.isub, 1) := by decide +kernel
theorem dX11_rowAt_82 : decode cX11_rowAt 82 = .ok (.iaload, 1) := by decide +kernel
theorem dX11_rowAt_83 : decode cX11_rowAt 83 = .ok (.iadd, 1) := by decide +kernel
theorem dX11_rowAt_84 : decode cX11_rowAt 84 = .ok (.iload 4, 2) := by decide +kernel
theorem dX11_rowAt_86 : decode cX11_rowAt 86 = .ok (.if_icmp .ne 11, 3) := by decide +kernel
theorem dX11_rowAt_89 : decode cX11_rowAt 89 = .ok (.aload_n 0, 1) := by decide +kernel
theorem dX11_rowAt_90 : decode cX11_rowAt 90 = .ok (.getfield 68, 3) := by decide +kernel
theorem dX11_rowAt_93 : decode cX11_rowAt 93 = .ok (.iload 5, 2) := by decide +kernel
theorem dX11_rowAt_95 : decode cX11_rowAt 95 = .ok (.iaload, 1) := by decide +kernel
theorem dX11_rowAt_96 : decode cX11_rowAt 96 = .ok (.ireturn, 1) := by decide +kernel
theorem dX11_rowAt_97 : decode cX11_rowAt 97 = .ok (.iinc 5 1, 3) := by decide +kernel
theorem dX11_rowAt_100 : decode cX11_rowAt 100 = .ok (.goto (-57), 3) := by decide +kernel
theorem dX11_rowAt_103 : decode cX11_rowAt 103 = .ok (.iconst 0, 1) := by decide +kernel
theorem dX11_rowAt_104 : decode cX11_rowAt 104 = .ok (.ireturn, 1) := by decide +kernel
theorem dX11_rounds_0 : decode cX11_rounds 0 = .ok (.iload_n 1, 1) := by decide +kernel
theorem dX11_rounds_1 : decode cX11_rounds 1 = .ok (.invokestatic 411, 3) := by decide +kernel
theorem dX11_rounds_4 : decode cX11_rounds 4 = .ok (.ifCond .ne 7, 3) := by decide +kernel
theorem dX11_rounds_7 : decode cX11_rounds 7 = .ok (.ldc2_w 431, 3) := by decide +kernel
theorem dX11_rounds_10 : decode cX11_rounds 10 = .ok (.lreturn, 1) := by decide +kernel
theorem dX11_rounds_11 : decode cX11_rounds 11 = .ok (.aload_n 0, 1) := by decide +kernel
theorem dX11_rounds_12 : decode cX11_rounds 12 = .ok (.iload_n 1, 1) := by decide +kernel
theorem dX11_rounds_13 : decode cX11_rounds 13 = .ok (.invokevirtual 401, 3) := by decide +kernel
theorem dX11_rounds_16 : decode cX11_rounds 16 = .ok (.iconst 2, 1) := by decide +kernel
theorem dX11_rounds_17 : decode cX11_rounds 17 = .ok (.aload_n 0, 1) := by decide +kernel
theorem dX11_rounds_18 : decode cX11_rounds 18 = .ok (.getfield 398, 3) := by decide +kernel
theorem dX11_rounds_21 : decode cX11_rounds 21 = .ok (.imul, 1) := by decide +kernel
theorem dX11_rounds_22 : decode cX11_rounds 22 = .ok (.istore_n 2, 1) := by decide +kernel
theorem dX11_rounds_23 : decode cX11_rounds 23 = .ok (.iconst 0, 1) := by decide +kernel
theorem dX11_rounds_24 : decode cX11_rounds 24 = .ok (.istore_n 3, 1) := by decide +kernel
theorem dX11_rounds_25 : decode cX11_rounds 25 = .ok (.iload_n 3, 1) := by decide +kernel
theorem dX11_rounds_26 : decode cX11_rounds 26 = .ok (.aload_n 0, 1) := by decide +kernel
theorem dX11_rounds_27 : decode cX11_rounds 27 = .ok (.getfield 398, 3) := by decide +kernel
theorem dX11_rounds_30 : decode cX11_rounds 30 = .ok (.if_icmp .ge 101, 3) := by decide +kernel
theorem dX11_rounds_33 : decode cX11_rounds 33 = .ok (.aload_n 0, 1) := by decide +kernel
theorem dX11_rounds_34 : decode cX11_rounds 34 = .ok (.getfield 50, 3) := by decide +kernel
theorem dX11_rounds_37 : decode cX11_rounds 37 = .ok (.aload_n 0, 1) := by decide +kernel
theorem dX11_rounds_38 : decode cX11_rounds 38 = .ok (.getfield 53, 3) := by decide +kernel
theorem dX11_rounds_41 : decode cX11_rounds 41 = .ok (.iload_n 3, 1) := by decide +kernel
theorem dX11_rounds_42 : decode cX11_rounds 42 = .ok (.iaload, 1) := by decide +kernel
theorem dX11_rounds_43 : decode cX11_rounds 43 = .ok (.iaload, 1) := by decide +kernel
theorem dX11_rounds_44 : decode cX11_rounds 44 = .ok (.iload_n 2, 1) := by decide +kernel
theorem dX11_rounds_45 : decode cX11_rounds 45 = .ok (.irem, 1) := by decide +kernel
theorem dX11_rounds_46 : decode cX11_rounds 46 = .ok (.istore 4, 2) := by decide +kernel
theorem dX11_rounds_48 : decode cX11_rounds 48 = .ok (.aload_n 0, 1) := by decide +kernel
theorem dX11_rounds_49 : decode cX11_rounds 49 = .ok (.getfield 59, 3) := by decide +kernel
theorem dX11_rounds_52 : decode cX11_rounds 52 = .ok (.iload_n 3, 1) := by decide +kernel
theorem dX11_rounds_53 : decode cX11_rounds 53 = .ok (.iload 4, 2) := by decide +kernel
theorem dX11_rounds_55 : decode cX11_rounds 55 = .ok (.ifCond .ne 7, 3) := by decide +kernel
theorem dX11_rounds_58 : decode cX11_rounds 58 = .ok (.iconst 0, 1) := by decide +kernel
theorem dX11_rounds_59 : decode cX11_rounds 59 = .ok (.goto 19, 3) := by decide +kernel
theorem dX11_rounds_62 : decode cX11_rounds 62 = .ok (.iconst 2, 1) := by decide +kernel
theorem dX11_rounds_63 : decode cX11_rounds 63 = .ok (.iload 4, 2) := by decide +kernel
theorem dX11_rounds_65 : decode cX11_rounds 65 = .ok (.imul, 1) := by decide +kernel
theorem dX11_rounds_66 : decode cX11_rounds 66 = .ok (.iload_n 2, 1) := by decide +kernel
theorem dX11_rounds_67 : decode cX11_rounds 67 = .ok (.if_icmp .ne 10, 3) := by decide +kernel
theorem dX11_rounds_70 : decode cX11_rounds 70 = .ok (.aload_n 0, 1) := by decide +kernel
theorem dX11_rounds_71 : decode cX11_rounds 71 = .ok (.getfield 398, 3) := by decide +kernel
theorem dX11_rounds_74 : decode cX11_rounds 74 = .ok (.goto 4, 3) := by decide +kernel
theorem dX11_rounds_77 : decode cX11_rounds 77 = .ok (.iload_n 2, 1) := by decide +kernel
theorem dX11_rounds_78 : decode cX11_rounds 78 = .ok (.iastore, 1) := by decide +kernel
theorem dX11_rounds_79 : decode cX11_rounds 79 = .ok (.iconst 0, 1) := by decide +kernel
theorem dX11_rounds_80 : decode cX11_rounds 80 = .ok (.istore 5, 2) := by decide +kernel
theorem dX11_rounds_82 : decode cX11_rounds 82 = .ok (.iload 5, 2) := by decide +kernel
theorem dX11_rounds_84 : decode cX11_rounds 84 = .ok (.aload_n 0, 1) := by decide +kernel
theorem dX11_rounds_85 : decode cX11_rounds 85 = .ok (.getfield 59, 3) := by decide +kernel
theorem dX11_rounds_88 : decode cX11_rounds 88 = .ok (.iload_n 3, 1) := by decide +kernel
theorem dX11_rounds_89 : decode cX11_rounds 89 = .ok (.iaload, 1) := by decide +kernel
theorem dX11_rounds_90 : decode cX11_rounds 90 = .ok (.if_icmp .ge 35, 3) := by decide +kernel
theorem dX11_rounds_93 : decode cX11_rounds 93 = .ok (.aload_n 0, 1) := by decide +kernel
theorem dX11_rounds_94 : decode cX11_rounds 94 = .ok (.getfield 56, 3) := by decide +kernel
theorem dX11_rounds_97 : decode cX11_rounds 97 = .ok (.bipush 16, 2) := by decide +kernel
theorem dX11_rounds_99 : decode cX11_rounds 99 = .ok (.iload_n 3, 1) := by decide +kernel
theorem dX11_rounds_100 : decode cX11_rounds 100 = .ok (.imul, 1) := by decide +kernel
theorem dX11_rounds_101 : decode cX11_rounds 101 = .ok (.iload 5, 2) := by decide +kernel
theorem dX11_rounds_103 : decode cX11_rounds 103 = .ok (.iadd, 1) := by decide +kernel
theorem dX11_rounds_104 : decode cX11_rounds 104 = .ok (.iconst 1, 1) := by decide +kernel
theorem dX11_rounds_105 : decode cX11_rounds 105 = .ok (.iload 5, 2) := by decide +kernel
theorem dX11_rounds_107 : decode cX11_rounds 107 = .ok (.ishl, 1) := by decide +kernel
theorem dX11_rounds_108 : decode cX11_rounds 108 = .ok (.iconst 1, 1) := by decide +kernel
theorem dX11_rounds_109 : decode cX11_rounds 109 = .ok (.iload 5, 2) := by decide +kernel
theorem dX11_rounds_111 : decode cX11_rounds 111 = .ok (.iload 4, 2) := by decide +kernel
theorem dX11_rounds_113 : decode cX11_rounds 113 = .ok (.iadd, 1) := by decide +kernel
theorem dX11_rounds_114 : decode cX11_rounds 114 = .ok (.iload_n 2, 1) := by decide +kernel
theorem dX11_rounds_115 : decode cX11_rounds 115 = .ok (.irem, 1) := by decide +kernel
theorem dX11_rounds_116 : decode cX11_rounds 116 = .ok (.ishl, 1) := by decide +kernel
theorem dX11_rounds_117 : decode cX11_rounds 117 = .ok (.ior, 1) := by decide +kernel
theorem dX11_rounds_118 : decode cX11_rounds 118 = .ok (.iastore, 1) := by decide +kernel
theorem dX11_rounds_119 : decode cX11_rounds 119 = .ok (.iinc 5 1, 3) := by decide +kernel
theorem dX11_rounds_122 : decode cX11_rounds 122 = .ok (.goto (-40), 3) := by decide +kernel
theorem dX11_rounds_125 : decode cX11_rounds 125 = .ok (.iinc 3 1, 3) := by decide +kernel
theorem dX11_rounds_128 : decode cX11_rounds 128 = .ok (.goto (-103), 3) := by decide +kernel
theorem dX11_rounds_131 : decode cX11_rounds 131 = .ok (.aload_n 0, 1) := by decide +kernel
theorem dX11_rounds_132 : decode cX11_rounds 132 = .ok (.iconst 0, 1) := by decide +kernel
theorem dX11_rounds_133 : decode cX11_rounds 133 = .ok (.iconst 1, 1) := by decide +kernel
theorem dX11_rounds_134 : decode cX11_rounds 134 = .ok (.invokevirtual 420, 3) := by decide +kernel
theorem dX11_rounds_137 : decode cX11_rounds 137 = .ok (.lreturn, 1) := by decide +kernel
theorem dX11_threes_0 : decode cX11_threes 0 = .ok (.iload_n 1, 1) := by decide +kernel
theorem dX11_threes_1 : decode cX11_threes 1 = .ok (.invokestatic 411, 3) := by decide +kernel
theorem dX11_threes_4 : decode cX11_threes 4 = .ok (.ifCond .eq 11, 3) := by decide +kernel
theorem dX11_threes_7 : decode cX11_threes 7 = .ok (.iload_n 1, 1) := by decide +kernel
theorem dX11_threes_8 : decode cX11_threes 8 = .ok (.invokestatic 304, 3) := by decide +kernel
theorem dX11_threes_11 : decode cX11_threes 11 = .ok (.iconst 5, 1) := by decide +kernel
theorem dX11_threes_12 : decode cX11_threes 12 = .ok (.if_icmp .le 7, 3) := by decide +kernel
theorem dX11_threes_15 : decode cX11_threes 15 = .ok (.ldc2_w 431, 3) := by decide +kernel
theorem dX11_threes_18 : decode cX11_threes 18 = .ok (.lreturn, 1) := by decide +kernel
theorem dX11_threes_19 : decode cX11_threes 19 = .ok (.aload_n 0, 1) := by decide +kernel
theorem dX11_threes_20 : decode cX11_threes 20 = .ok (.iload_n 1, 1) := by decide +kernel
theorem dX11_threes_21 : decode cX11_threes 21 = .ok (.iconst 3, 1) := by decide +kernel
theorem dX11_threes_22 : decode cX11_threes 22 = .ok (.iload_n 1, 1) := by decide +kernel
theorem dX11_threes_23 : decode cX11_threes 23 = .ok (.invokestatic 304, 3) := by decide +kernel
theorem dX11_threes_26 : decode cX11_threes 26 = .ok (.imul, 1) := by decide +kernel
theorem dX11_threes_27 : decode cX11_threes 27 = .ok (.iconst 3, 1) := by decide +kernel
theorem dX11_threes_28 : decode cX11_threes 28 = .ok (.invokevirtual 417, 3) := by decide +kernel
theorem dX11_threes_31 : decode cX11_threes 31 = .ok (.aload_n 0, 1) := by decide +kernel
theorem dX11_threes_32 : decode cX11_threes 32 = .ok (.iconst 0, 1) := by decide +kernel
theorem dX11_threes_33 : decode cX11_threes 33 = .ok (.iconst 1, 1) := by decide +kernel
theorem dX11_threes_34 : decode cX11_threes 34 = .ok (.invokevirtual 420, 3) := by decide +kernel
theorem dX11_threes_37 : decode cX11_threes 37 = .ok (.lreturn, 1) := by decide +kernel
theorem dX11_waysOf_0 : decode cX11_waysOf 0 = .ok (.aload_n 0, 1) := by decide +kernel
theorem dX11_waysOf_1 : decode cX11_waysOf 1 = .ok (.iload_n 1, 1) := by decide +kernel
theorem dX11_waysOf_2 : decode cX11_waysOf 2 = .ok (.aload_n 0, 1) := by decide +kernel
theorem dX11_waysOf_3 : decode cX11_waysOf 3 = .ok (.invokevirtual 301, 3) := by decide +kernel
theorem dX11_waysOf_6 : decode cX11_waysOf 6 = .ok (.iconst (-1), 1) := by decide +kernel
theorem dX11_waysOf_7 : decode cX11_waysOf 7 = .ok (.ixor, 1) := by decide +kernel
theorem dX11_waysOf_8 : decode cX11_waysOf 8 = .ok (.iand, 1) := by decide +kernel
theorem dX11_waysOf_9 : decode cX11_waysOf 9 = .ok (.aload_n 0, 1) := by decide +kernel
theorem dX11_waysOf_10 : decode cX11_waysOf 10 = .ok (.getfield 7, 3) := by decide +kernel
theorem dX11_waysOf_13 : decode cX11_waysOf 13 = .ok (.bipush 7, 2) := by decide +kernel
theorem dX11_waysOf_15 : decode cX11_waysOf 15 = .ok (.iaload, 1) := by decide +kernel
theorem dX11_waysOf_16 : decode cX11_waysOf 16 = .ok (.iconst 2, 1) := by decide +kernel
theorem dX11_waysOf_17 : decode cX11_waysOf 17 = .ok (.invokevirtual 417, 3) := by decide +kernel
theorem dX11_waysOf_20 : decode cX11_waysOf 20 = .ok (.aload_n 0, 1) := by decide +kernel
theorem dX11_waysOf_21 : decode cX11_waysOf 21 = .ok (.aload_n 0, 1) := by decide +kernel
theorem dX11_waysOf_22 : decode cX11_waysOf 22 = .ok (.invokevirtual 275, 3) := by decide +kernel
theorem dX11_waysOf_25 : decode cX11_waysOf 25 = .ok (.iload_n 2, 1) := by decide +kernel
theorem dX11_waysOf_26 : decode cX11_waysOf 26 = .ok (.invokevirtual 420, 3) := by decide +kernel
theorem dX11_waysOf_29 : decode cX11_waysOf 29 = .ok (.lreturn, 1) := by decide +kernel
theorem dX11_ways_0 : decode cX11_ways 0 = .ok (.iload_n 1, 1) := by decide +kernel
theorem dX11_ways_1 : decode cX11_ways 1 = .ok (.invokestatic 411, 3) := by decide +kernel
theorem dX11_ways_4 : decode cX11_ways 4 = .ok (.ifCond .eq 12, 3) := by decide +kernel
theorem dX11_ways_7 : decode cX11_ways 7 = .ok (.aload_n 0, 1) := by decide +kernel
theorem dX11_ways_8 : decode cX11_ways 8 = .ok (.iload_n 1, 1) := by decide +kernel
theorem dX11_ways_9 : decode cX11_ways 9 = .ok (.iconst 1, 1) := by decide +kernel
theorem dX11_ways_10 : decode cX11_ways 10 = .ok (.invokevirtual 454, 3) := by decide +kernel
theorem dX11_ways_13 : decode cX11_ways 13 = .ok (.goto 6, 3) := by decide +kernel
theorem dX11_ways_16 : decode cX11_ways 16 = .ok (.ldc2_w 431, 3) := by decide +kernel
theorem dX11_ways_19 : decode cX11_ways 19 = .ok (.lreturn, 1) := by decide +kernel
theorem dX11_fill_0 : decode cX11_fill 0 = .ok (.iload_n 2, 1) := by decide +kernel
theorem dX11_fill_1 : decode cX11_fill 1 = .ok (.iconst 1, 1) := by decide +kernel
theorem dX11_fill_2 : decode cX11_fill 2 = .ok (.isub, 1) := by decide +kernel
theorem dX11_fill_3 : decode cX11_fill 3 = .ok (.istore_n 3, 1) := by decide +kernel
theorem dX11_fill_4 : decode cX11_fill 4 = .ok (.iload_n 1, 1) := by decide +kernel
theorem dX11_fill_5 : decode cX11_fill 5 = .ok (.invokestatic 411, 3) := by decide +kernel
theorem dX11_fill_8 : decode cX11_fill 8 = .ok (.ifCond .eq 37, 3) := by decide +kernel
theorem dX11_fill_11 : decode cX11_fill 11 = .ok (.iload_n 3, 1) := by decide +kernel
theorem dX11_fill_12 : decode cX11_fill 12 = .ok (.invokestatic 87, 3) := by decide +kernel
theorem dX11_fill_15 : decode cX11_fill 15 = .ok (.ifCond .eq 30, 3) := by decide +kernel
theorem dX11_fill_18 : decode cX11_fill 18 = .ok (.aload_n 0, 1) := by decide +kernel
theorem dX11_fill_19 : decode cX11_fill 19 = .ok (.iload_n 3, 1) := by decide +kernel
theorem dX11_fill_20 : decode cX11_fill 20 = .ok (.invokevirtual 91, 3) := by decide +kernel
theorem dX11_fill_23 : decode cX11_fill 23 = .ok (.ifCond .ne 11, 3) := by decide +kernel
theorem dX11_fill_26 : decode cX11_fill 26 = .ok (.iload_n 1, 1) := by decide +kernel
theorem dX11_fill_27 : decode cX11_fill 27 = .ok (.iload_n 3, 1) := by decide +kernel
theorem dX11_fill_28 : decode cX11_fill 28 = .ok (.invokestatic 251, 3) := by decide +kernel
theorem dX11_fill_31 : decode cX11_fill 31 = .ok (.ifCond .eq 14, 3) := by decide +kernel
theorem dX11_fill_34 : decode cX11_fill 34 = .ok (.aload_n 0, 1) := by decide +kernel
theorem dX11_fill_35 : decode cX11_fill 35 = .ok (.iload_n 1, 1) := by decide +kernel
theorem dX11_fill_36 : decode cX11_fill 36 = .ok (.iconst 0, 1) := by decide +kernel
theorem dX11_fill_37 : decode cX11_fill 37 = .ok (.invokevirtual 454, 3) := by decide +kernel
theorem dX11_fill_40 : decode cX11_fill 40 = .ok (.lconst 0, 1) := by decide +kernel
theorem dX11_fill_41 : decode cX11_fill 41 = .ok (.lcmp, 1) := by decide +kernel
theorem dX11_fill_42 : decode cX11_fill 42 = .ok (.ifCond .ne 5, 3) := by decide +kernel
theorem dX11_fill_45 : decode cX11_fill 45 = .ok (.iconst (-1), 1) := by decide +kernel
theorem dX11_fill_46 : decode cX11_fill 46 = .ok (.ireturn, 1) := by decide +kernel
theorem dX11_fill_47 : decode cX11_fill 47 = .ok (.aload_n 0, 1) := by decide +kernel
theorem dX11_fill_48 : decode cX11_fill 48 = .ok (.iload_n 3, 1) := by decide +kernel
theorem dX11_fill_49 : decode cX11_fill 49 = .ok (.invokevirtual 91, 3) := by decide +kernel
theorem dX11_fill_52 : decode cX11_fill 52 = .ok (.ifCond .eq 13, 3) := by decide +kernel
theorem dX11_fill_55 : decode cX11_fill 55 = .ok (.aload_n 0, 1) := by decide +kernel
theorem dX11_fill_56 : decode cX11_fill 56 = .ok (.getfield 7, 3) := by decide +kernel
theorem dX11_fill_59 : decode cX11_fill 59 = .ok (.bipush 8, 2) := by decide +kernel
theorem dX11_fill_61 : decode cX11_fill 61 = .ok (.iload_n 3, 1) := by decide +kernel
theorem dX11_fill_62 : decode cX11_fill 62 = .ok (.iadd, 1) := by decide +kernel
theorem dX11_fill_63 : decode cX11_fill 63 = .ok (.iaload, 1) := by decide +kernel
theorem dX11_fill_64 : decode cX11_fill 64 = .ok (.ireturn, 1) := by decide +kernel
theorem dX11_fill_65 : decode cX11_fill 65 = .ok (.iconst 0, 1) := by decide +kernel
theorem dX11_fill_66 : decode cX11_fill 66 = .ok (.istore 4, 2) := by decide +kernel
theorem dX11_fill_68 : decode cX11_fill 68 = .ok (.aload_n 0, 1) := by decide +kernel
theorem dX11_fill_69 : decode cX11_fill 69 = .ok (.getfield 53, 3) := by decide +kernel
theorem dX11_fill_72 : decode cX11_fill 72 = .ok (.iload 4, 2) := by decide +kernel
theorem dX11_fill_74 : decode cX11_fill 74 = .ok (.iaload, 1) := by decide +kernel
theorem dX11_fill_75 : decode cX11_fill 75 = .ok (.iload_n 3, 1) := by decide +kernel
theorem dX11_fill_76 : decode cX11_fill 76 = .ok (.if_icmp .eq 9, 3) := by decide +kernel
theorem dX11_fill_79 : decode cX11_fill 79 = .ok (.iinc 4 1, 3) := by decide +kernel
theorem dX11_fill_82 : decode cX11_fill 82 = .ok (.goto (-14), 3) := by decide +kernel
theorem dX11_fill_85 : decode cX11_fill 85 = .ok (.aload_n 0, 1) := by decide +kernel
theorem dX11_fill_86 : decode cX11_fill 86 = .ok (.getfield 65, 3) := by decide +kernel
theorem dX11_fill_89 : decode cX11_fill 89 = .ok (.iload 4, 2) := by decide +kernel
theorem dX11_fill_91 : decode cX11_fill 91 = .ok (.iaload, 1) := by decide +kernel
theorem dX11_fill_92 : decode cX11_fill 92 = .ok (.invokestatic 395, 3) := by decide +kernel
theorem dX11_fill_95 : decode cX11_fill 95 = .ok (.ireturn, 1) := by decide +kernel
theorem dX11_forced_0 : decode cX11_forced 0 = .ok (.iload_n 1, 1) := by decide +kernel
theorem dX11_forced_1 : decode cX11_forced 1 = .ok (.invokestatic 411, 3) := by decide +kernel
theorem dX11_forced_4 : decode cX11_forced 4 = .ok (.ifCond .eq 21, 3) := by decide +kernel
theorem dX11_forced_7 : decode cX11_forced 7 = .ok (.aload_n 0, 1) := by decide +kernel
theorem dX11_forced_8 : decode cX11_forced 8 = .ok (.iload_n 1, 1) := by decide +kernel
theorem dX11_forced_9 : decode cX11_forced 9 = .ok (.iconst 1, 1) := by decide +kernel
theorem dX11_forced_10 : decode cX11_forced 10 = .ok (.invokevirtual 454, 3) := by decide +kernel
theorem dX11_forced_13 : decode cX11_forced 13 = .ok (.lconst 0, 1) := by decide +kernel
theorem dX11_forced_14 : decode cX11_forced 14 = .ok (.lcmp, 1) := by decide +kernel
theorem dX11_forced_15 : decode cX11_forced 15 = .ok (.ifCond .le 10, 3) := by decide +kernel
theorem dX11_forced_18 : decode cX11_forced 18 = .ok (.aload_n 0, 1) := by decide +kernel
theorem dX11_forced_19 : decode cX11_forced 19 = .ok (.invokevirtual 433, 3) := by decide +kernel
theorem dX11_forced_22 : decode cX11_forced 22 = .ok (.goto 4, 3) := by decide +kernel
theorem dX11_forced_25 : decode cX11_forced 25 = .ok (.iconst (-1), 1) := by decide +kernel
theorem dX11_forced_26 : decode cX11_forced 26 = .ok (.ireturn, 1) := by decide +kernel
theorem dX11_canStay_0 : decode cX11_canStay 0 = .ok (.iconst 0, 1) := by decide +kernel
theorem dX11_canStay_1 : decode cX11_canStay 1 = .ok (.istore_n 3, 1) := by decide +kernel
theorem dX11_canStay_2 : decode cX11_canStay 2 = .ok (.iconst 0, 1) := by decide +kernel
theorem dX11_canStay_3 : decode cX11_canStay 3 = .ok (.istore 4, 2) := by decide +kernel
theorem dX11_canStay_5 : decode cX11_canStay 5 = .ok (.iload 4, 2) := by decide +kernel
theorem dX11_canStay_7 : decode cX11_canStay 7 = .ok (.bipush 8, 2) := by decide +kernel
theorem dX11_canStay_9 : decode cX11_canStay 9 = .ok (.if_icmp .ge 31, 3) := by decide +kernel
theorem dX11_canStay_12 : decode cX11_canStay 12 = .ok (.iload_n 3, 1) := by decide +kernel
theorem dX11_canStay_13 : decode cX11_canStay 13 = .ok (.iload_n 2, 1) := by decide +kernel
theorem dX11_canStay_14 : decode cX11_canStay 14 = .ok (.iload 4, 2) := by decide +kernel
theorem dX11_canStay_16 : decode cX11_canStay 16 = .ok (.invokestatic 251, 3) := by decide +kernel
theorem dX11_canStay_19 : decode cX11_canStay 19 = .ok (.ifCond .eq 12, 3) := by decide +kernel
theorem dX11_canStay_22 : decode cX11_canStay 22 = .ok (.aload_n 0, 1) := by decide +kernel
theorem dX11_canStay_23 : decode cX11_canStay 23 = .ok (.iload 4, 2) := by decide +kernel
theorem dX11_canStay_25 : decode cX11_canStay 25 = .ok (.invokevirtual 94, 3) := by decide +kernel
theorem dX11_canStay_28 : decode cX11_canStay 28 = .ok (.goto 4, 3) := by decide +kernel
theorem dX11_canStay_31 : decode cX11_canStay 31 = .ok (.iconst 0, 1) := by decide +kernel
theorem dX11_canStay_32 : decode cX11_canStay 32 = .ok (.ior, 1) := by decide +kernel
theorem dX11_canStay_33 : decode cX11_canStay 33 = .ok (.istore_n 3, 1) := by decide +kernel
theorem dX11_canStay_34 : decode cX11_canStay 34 = .ok (.iinc 4 1, 3) := by decide +kernel
theorem dX11_canStay_37 : decode cX11_canStay 37 = .ok (.goto (-32), 3) := by decide +kernel
theorem dX11_canStay_40 : decode cX11_canStay 40 = .ok (.aload_n 0, 1) := by decide +kernel
theorem dX11_canStay_41 : decode cX11_canStay 41 = .ok (.iload_n 1, 1) := by decide +kernel
theorem dX11_canStay_42 : decode cX11_canStay 42 = .ok (.iload_n 2, 1) := by decide +kernel
theorem dX11_canStay_43 : decode cX11_canStay 43 = .ok (.iconst (-1), 1) := by decide +kernel
theorem dX11_canStay_44 : decode cX11_canStay 44 = .ok (.ixor, 1) := by decide +kernel
theorem dX11_canStay_45 : decode cX11_canStay 45 = .ok (.iand, 1) := by decide +kernel
theorem dX11_canStay_46 : decode cX11_canStay 46 = .ok (.aload_n 0, 1) := by decide +kernel
theorem dX11_canStay_47 : decode cX11_canStay 47 = .ok (.getfield 7, 3) := by decide +kernel
theorem dX11_canStay_50 : decode cX11_canStay 50 = .ok (.bipush 7, 2) := by decide +kernel
theorem dX11_canStay_52 : decode cX11_canStay 52 = .ok (.iaload, 1) := by decide +kernel
theorem dX11_canStay_53 : decode cX11_canStay 53 = .ok (.iconst 2, 1) := by decide +kernel
theorem dX11_canStay_54 : decode cX11_canStay 54 = .ok (.invokevirtual 417, 3) := by decide +kernel
theorem dX11_canStay_57 : decode cX11_canStay 57 = .ok (.aload_n 0, 1) := by decide +kernel
theorem dX11_canStay_58 : decode cX11_canStay 58 = .ok (.iload_n 3, 1) := by decide +kernel
theorem dX11_canStay_59 : decode cX11_canStay 59 = .ok (.iconst 0, 1) := by decide +kernel
theorem dX11_canStay_60 : decode cX11_canStay 60 = .ok (.invokevirtual 420, 3) := by decide +kernel
theorem dX11_canStay_63 : decode cX11_canStay 63 = .ok (.lconst 0, 1) := by decide +kernel
theorem dX11_canStay_64 : decode cX11_canStay 64 = .ok (.lcmp, 1) := by decide +kernel
theorem dX11_canStay_65 : decode cX11_canStay 65 = .ok (.ifCond .le 7, 3) := by decide +kernel
theorem dX11_canStay_68 : decode cX11_canStay 68 = .ok (.iconst 1, 1) := by decide +kernel
theorem dX11_canStay_69 : decode cX11_canStay 69 = .ok (.goto 4, 3) := by decide +kernel
theorem dX11_canStay_72 : decode cX11_canStay 72 = .ok (.iconst 0, 1) := by decide +kernel
theorem dX11_canStay_73 : decode cX11_canStay 73 = .ok (.ireturn, 1) := by decide +kernel
theorem dX11_stay_0 : decode cX11_stay 0 = .ok (.iload_n 1, 1) := by decide +kernel
theorem dX11_stay_1 : decode cX11_stay 1 = .ok (.invokestatic 411, 3) := by decide +kernel
theorem dX11_stay_4 : decode cX11_stay 4 = .ok (.ifCond .ne 5, 3) := by decide +kernel
theorem dX11_stay_7 : decode cX11_stay 7 = .ok (.iconst (-1), 1) := by decide +kernel
theorem dX11_stay_8 : decode cX11_stay 8 = .ok (.ireturn, 1) := by decide +kernel
theorem dX11_stay_9 : decode cX11_stay 9 = .ok (.iconst (-1), 1) := by decide +kernel
theorem dX11_stay_10 : decode cX11_stay 10 = .ok (.istore_n 2, 1) := by decide +kernel
theorem dX11_stay_11 : decode cX11_stay 11 = .ok (.iload_n 1, 1) := by decide +kernel
theorem dX11_stay_12 : decode cX11_stay 12 = .ok (.aload_n 0, 1) := by decide +kernel
theorem dX11_stay_13 : decode cX11_stay 13 = .ok (.invokevirtual 301, 3) := by decide +kernel
theorem dX11_stay_16 : decode cX11_stay 16 = .ok (.iand, 1) := by decide +kernel
theorem dX11_stay_17 : decode cX11_stay 17 = .ok (.istore_n 3, 1) := by decide +kernel
theorem dX11_stay_18 : decode cX11_stay 18 = .ok (.iload_n 3, 1) := by decide +kernel
theorem dX11_stay_19 : decode cX11_stay 19 = .ok (.ifCond .lt 49, 3) := by decide +kernel
theorem dX11_stay_22 : decode cX11_stay 22 = .ok (.iload_n 3, 1) := by decide +kernel
theorem dX11_stay_23 : decode cX11_stay 23 = .ok (.iload_n 1, 1) := by decide +kernel
theorem dX11_stay_24 : decode cX11_stay 24 = .ok (.aload_n 0, 1) := by decide +kernel
theorem dX11_stay_25 : decode cX11_stay 25 = .ok (.invokevirtual 301, 3) := by decide +kernel
theorem dX11_stay_28 : decode cX11_stay 28 = .ok (.iand, 1) := by decide +kernel
theorem dX11_stay_29 : decode cX11_stay 29 = .ok (.iconst (-1), 1) := by decide +kernel
theorem dX11_stay_30 : decode cX11_stay 30 = .ok (.ixor, 1) := by decide +kernel
theorem dX11_stay_31 : decode cX11_stay 31 = .ok (.iand, 1) := by decide +kernel
theorem dX11_stay_32 : decode cX11_stay 32 = .ok (.ifCond .ne 30, 3) := by decide +kernel
theorem dX11_stay_35 : decode cX11_stay 35 = .ok (.iload_n 2, 1) := by decide +kernel
theorem dX11_stay_36 : decode cX11_stay 36 = .ok (.iconst (-1), 1) := by decide +kernel
theorem dX11_stay_37 : decode cX11_stay 37 = .ok (.if_icmp .eq 14, 3) := by decide +kernel
theorem dX11_stay_40 : decode cX11_stay 40 = .ok (.iload_n 3, 1) := by decide +kernel
theorem dX11_stay_41 : decode cX11_stay 41 = .ok (.invokestatic 304, 3) := by decide +kernel
theorem dX11_stay_44 : decode cX11_stay 44 = .ok (.iload_n 2, 1) := by decide +kernel
theorem dX11_stay_45 : decode cX11_stay 45 = .ok (.invokestatic 304, 3) := by decide +kernel
theorem dX11_stay_48 : decode cX11_stay 48 = .ok (.if_icmp .lt 14, 3) := by decide +kernel
theorem dX11_stay_51 : decode cX11_stay 51 = .ok (.aload_n 0, 1) := by decide +kernel
theorem dX11_stay_52 : decode cX11_stay 52 = .ok (.iload_n 1, 1) := by decide +kernel
theorem dX11_stay_53 : decode cX11_stay 53 = .ok (.iload_n 3, 1) := by decide +kernel
theorem dX11_stay_54 : decode cX11_stay 54 = .ok (.invokevirtual 457, 3) := by decide +kernel
theorem dX11_stay_57 : decode cX11_stay 57 = .ok (.ifCond .eq 5, 3) := by decide +kernel
theorem dX11_stay_60 : decode cX11_stay 60 = .ok (.iload_n 3, 1) := by decide +kernel
theorem dX11_stay_61 : decode cX11_stay 61 = .ok (.istore_n 2, 1) := by decide +kernel
theorem dX11_stay_62 : decode cX11_stay 62 = .ok (.iinc 3 (-1), 3) := by decide +kernel
theorem dX11_stay_65 : decode cX11_stay 65 = .ok (.goto (-47), 3) := by decide +kernel
theorem dX11_stay_68 : decode cX11_stay 68 = .ok (.iload_n 2, 1) := by decide +kernel
theorem dX11_stay_69 : decode cX11_stay 69 = .ok (.ireturn, 1) := by decide +kernel
theorem dX11_divisor_0 : decode cX11_divisor 0 = .ok (.lload_n 0, 1) := by decide +kernel
theorem dX11_divisor_1 : decode cX11_divisor 1 = .ok (.lstore 4, 2) := by decide +kernel
theorem dX11_divisor_3 : decode cX11_divisor 3 = .ok (.lload_n 2, 1) := by decide +kernel
theorem dX11_divisor_4 : decode cX11_divisor 4 = .ok (.lstore 6, 2) := by decide +kernel
theorem dX11_divisor_6 : decode cX11_divisor 6 = .ok (.lload 6, 2) := by decide +kernel
theorem dX11_divisor_8 : decode cX11_divisor 8 = .ok (.lconst 0, 1) := by decide +kernel
theorem dX11_divisor_9 : decode cX11_divisor 9 = .ok (.lcmp, 1) := by decide +kernel
theorem dX11_divisor_10 : decode cX11_divisor 10 = .ok (.ifCond .eq 21, 3) := by decide +kernel
theorem dX11_divisor_13 : decode cX11_divisor 13 = .ok (.lload 4, 2) := by decide +kernel
theorem dX11_divisor_15 : decode cX11_divisor 15 = .ok (.lload 6, 2) := by decide +kernel
theorem dX11_divisor_17 : decode cX11_divisor 17 = .ok (.lrem, 1) := by decide +kernel
theorem dX11_divisor_18 : decode cX11_divisor 18 = .ok (.lstore 8, 2) := by decide +kernel
theorem dX11_divisor_20 : decode cX11_divisor 20 = .ok (.lload 6, 2) := by decide +kernel
theorem dX11_divisor_22 : decode cX11_divisor 22 = .ok (.lstore 4, 2) := by decide +kernel
theorem dX11_divisor_24 : decode cX11_divisor 24 = .ok (.lload 8, 2) := by decide +kernel
theorem dX11_divisor_26 : decode cX11_divisor 26 = .ok (.lstore 6, 2) := by decide +kernel
theorem dX11_divisor_28 : decode cX11_divisor 28 = .ok (.goto (-22), 3) := by decide +kernel
theorem dX11_divisor_31 : decode cX11_divisor 31 = .ok (.lload 4, 2) := by decide +kernel
theorem dX11_divisor_33 : decode cX11_divisor 33 = .ok (.lreturn, 1) := by decide +kernel
theorem dX11_likely_0 : decode cX11_likely 0 = .ok (.iload_n 1, 1) := by decide +kernel
theorem dX11_likely_1 : decode cX11_likely 1 = .ok (.invokestatic 411, 3) := by decide +kernel
theorem dX11_likely_4 : decode cX11_likely 4 = .ok (.ifCond .ne 7, 3) := by decide +kernel
theorem dX11_likely_7 : decode cX11_likely 7 = .ok (.ldc2_w 431, 3) := by decide +kernel
theorem dX11_likely_10 : decode cX11_likely 10 = .ok (.lreturn, 1) := by decide +kernel
theorem dX11_likely_11 : decode cX11_likely 11 = .ok (.aload_n 0, 1) := by decide +kernel
theorem dX11_likely_12 : decode cX11_likely 12 = .ok (.iload_n 1, 1) := by decide +kernel
theorem dX11_likely_13 : decode cX11_likely 13 = .ok (.iconst 0, 1) := by decide +kernel
theorem dX11_likely_14 : decode cX11_likely 14 = .ok (.iconst 1, 1) := by decide +kernel
theorem dX11_likely_15 : decode cX11_likely 15 = .ok (.invokevirtual 427, 3) := by decide +kernel
theorem dX11_likely_18 : decode cX11_likely 18 = .ok (.lstore_n 3, 1) := by decide +kernel
theorem dX11_likely_19 : decode cX11_likely 19 = .ok (.lconst 1, 1) := by decide +kernel
theorem dX11_likely_20 : decode cX11_likely 20 = .ok (.lstore 5, 2) := by decide +kernel
theorem dX11_likely_22 : decode cX11_likely 22 = .ok (.iconst 0, 1) := by decide +kernel
theorem dX11_likely_23 : decode cX11_likely 23 = .ok (.istore 7, 2) := by decide +kernel
theorem dX11_likely_25 : decode cX11_likely 25 = .ok (.iload 7, 2) := by decide +kernel
theorem dX11_likely_27 : decode cX11_likely 27 = .ok (.aload_n 0, 1) := by decide +kernel
theorem dX11_likely_28 : decode cX11_likely 28 = .ok (.getfield 398, 3) := by decide +kernel
theorem dX11_likely_31 : decode cX11_likely 31 = .ok (.if_icmp .ge 22, 3) := by decide +kernel
theorem dX11_likely_34 : decode cX11_likely 34 = .ok (.lload 5, 2) := by decide +kernel
theorem dX11_likely_36 : decode cX11_likely 36 = .ok (.aload_n 0, 1) := by decide +kernel
theorem dX11_likely_37 : decode cX11_likely 37 = .ok (.getfield 59, 3) := by decide +kernel
theorem dX11_likely_40 : decode cX11_likely 40 = .ok (.iload 7, 2) := by decide +kernel
theorem dX11_likely_42 : decode cX11_likely 42 = .ok (.iaload, 1) := by decide +kernel
theorem dX11_likely_43 : decode cX11_likely 43 = .ok (.i2l, 1) := by decide +kernel
theorem dX11_likely_44 : decode cX11_likely 44 = .ok (.lmul, 1) := by decide +kernel
theorem dX11_likely_45 : decode cX11_likely 45 = .ok (.lstore 5, 2) := by decide +kernel
theorem dX11_likely_47 : decode cX11_likely 47 = .ok (.iinc 7 1, 3) := by decide +kernel
theorem dX11_likely_50 : decode cX11_likely 50 = .ok (.goto (-25), 3) := by decide +kernel
theorem dX11_likely_53 : decode cX11_likely 53 = .ok (.lload 5, 2) := by decide +kernel
theorem dX11_likely_55 : decode cX11_likely 55 = .ok (.lconst 0, 1) := by decide +kernel
theorem dX11_likely_56 : decode cX11_likely 56 = .ok (.lcmp, 1) := by decide +kernel
theorem dX11_likely_57 : decode cX11_likely 57 = .ok (.ifCond .ne 13, 3) := by decide +kernel
theorem dX11_likely_60 : decode cX11_likely 60 = .ok (.iload_n 2, 1) := by decide +kernel
theorem dX11_likely_61 : decode cX11_likely 61 = .ok (.ifCond .eq 7, 3) := by decide +kernel
theorem dX11_likely_64 : decode cX11_likely 64 = .ok (.lconst 1, 1) := by decide +kernel
theorem dX11_likely_65 : decode cX11_likely 65 = .ok (.goto 4, 3) := by decide +kernel
theorem dX11_likely_68 : decode cX11_likely 68 = .ok (.lconst 0, 1) := by decide +kernel
theorem dX11_likely_69 : decode cX11_likely 69 = .ok (.lreturn, 1) := by decide +kernel
theorem dX11_likely_70 : decode cX11_likely 70 = .ok (.iload_n 2, 1) := by decide +kernel
theorem dX11_likely_71 : decode cX11_likely 71 = .ok (.ifCond .eq 8, 3) := by decide +kernel
theorem dX11_likely_74 : decode cX11_likely 74 = .ok (.lload 5, 2) := by decide +kernel
theorem dX11_likely_76 : decode cX11_likely 76 = .ok (.goto 4, 3) := by decide +kernel
theorem dX11_likely_79 : decode cX11_likely 79 = .ok (.lload_n 3, 1) := by decide +kernel
theorem dX11_likely_80 : decode cX11_likely 80 = .ok (.lload_n 3, 1) := by decide +kernel
theorem dX11_likely_81 : decode cX11_likely 81 = .ok (.lload 5, 2) := by decide +kernel
theorem dX11_likely_83 : decode cX11_likely 83 = .ok (.invokestatic 460, 3) := by decide +kernel
theorem dX11_likely_86 : decode cX11_likely 86 = .ok (.ldiv, 1) := by decide +kernel
theorem dX11_likely_87 : decode cX11_likely 87 = .ok (.lreturn, 1) := by decide +kernel
theorem dX11_doFit_0 : decode cX11_doFit 0 = .ok (.aload_n 0, 1) := by decide +kernel
theorem dX11_doFit_1 : decode cX11_doFit 1 = .ok (.iload_n 1, 1) := by decide +kernel
theorem dX11_doFit_2 : decode cX11_doFit 2 = .ok (.iload_n 2, 1) := by decide +kernel
theorem dX11_doFit_3 : decode cX11_doFit 3 = .ok (.iconst 2, 1) := by decide +kernel
theorem dX11_doFit_4 : decode cX11_doFit 4 = .ok (.invokevirtual 417, 3) := by decide +kernel
theorem dX11_doFit_7 : decode cX11_doFit 7 = .ok (.aload_n 0, 1) := by decide +kernel
theorem dX11_doFit_8 : decode cX11_doFit 8 = .ok (.iconst 0, 1) := by decide +kernel
theorem dX11_doFit_9 : decode cX11_doFit 9 = .ok (.iconst 0, 1) := by decide +kernel
theorem dX11_doFit_10 : decode cX11_doFit 10 = .ok (.invokevirtual 420, 3) := by decide +kernel
theorem dX11_doFit_13 : decode cX11_doFit 13 = .ok (.lconst 0, 1) := by decide +kernel
theorem dX11_doFit_14 : decode cX11_doFit 14 = .ok (.lcmp, 1) := by decide +kernel
theorem dX11_doFit_15 : decode cX11_doFit 15 = .ok (.ifCond .le 7, 3) := by decide +kernel
theorem dX11_doFit_18 : decode cX11_doFit 18 = .ok (.iconst 1, 1) := by decide +kernel
theorem dX11_doFit_19 : decode cX11_doFit 19 = .ok (.goto 4, 3) := by decide +kernel
theorem dX11_doFit_22 : decode cX11_doFit 22 = .ok (.iconst 0, 1) := by decide +kernel
theorem dX11_doFit_23 : decode cX11_doFit 23 = .ok (.ireturn, 1) := by decide +kernel
theorem dX11_most_0 : decode cX11_most 0 = .ok (.iload_n 1, 1) := by decide +kernel
theorem dX11_most_1 : decode cX11_most 1 = .ok (.iconst 1, 1) := by decide +kernel
theorem dX11_most_2 : decode cX11_most 2 = .ok (.bipush 16, 2) := by decide +kernel
theorem dX11_most_4 : decode cX11_most 4 = .ok (.invokestatic 83, 3) := by decide +kernel
theorem dX11_most_7 : decode cX11_most 7 = .ok (.ifCond .ne 5, 3) := by decide +kernel
theorem dX11_most_10 : decode cX11_most 10 = .ok (.iconst (-1), 1) := by decide +kernel
theorem dX11_most_11 : decode cX11_most 11 = .ok (.ireturn, 1) := by decide +kernel
theorem dX11_most_12 : decode cX11_most 12 = .ok (.iconst 0, 1) := by decide +kernel
theorem dX11_most_13 : decode cX11_most 13 = .ok (.istore_n 3, 1) := by decide +kernel
theorem dX11_most_14 : decode cX11_most 14 = .ok (.iconst 0, 1) := by decide +kernel
theorem dX11_most_15 : decode cX11_most 15 = .ok (.istore 4, 2) := by decide +kernel
theorem dX11_most_17 : decode cX11_most 17 = .ok (.iload 4, 2) := by decide +kernel
theorem dX11_most_19 : decode cX11_most 19 = .ok (.sipush 255, 3) := by decide +kernel
theorem dX11_most_22 : decode cX11_most 22 = .ok (.if_icmp .gt 45, 3) := by decide +kernel
theorem dX11_most_25 : decode cX11_most 25 = .ok (.iload 4, 2) := by decide +kernel
theorem dX11_most_27 : decode cX11_most 27 = .ok (.invokestatic 304, 3) := by decide +kernel
theorem dX11_most_30 : decode cX11_most 30 = .ok (.iload_n 3, 1) := by decide +kernel
theorem dX11_most_31 : decode cX11_most 31 = .ok (.invokestatic 304, 3) := by decide +kernel
theorem dX11_most_34 : decode cX11_most 34 = .ok (.if_icmp .le 27, 3) := by decide +kernel
theorem dX11_most_37 : decode cX11_most 37 = .ok (.iconst 2, 1) := by decide +kernel
theorem dX11_most_38 : decode cX11_most 38 = .ok (.iload 4, 2) := by decide +kernel
theorem dX11_most_40 : decode cX11_most 40 = .ok (.invokestatic 304, 3) := by decide +kernel
theorem dX11_most_43 : decode cX11_most 43 = .ok (.imul, 1) := by decide +kernel
theorem dX11_most_44 : decode cX11_most 44 = .ok (.iload_n 1, 1) := by decide +kernel
theorem dX11_most_45 : decode cX11_most 45 = .ok (.if_icmp .gt 16, 3) := by decide +kernel
theorem dX11_most_48 : decode cX11_most 48 = .ok (.aload_n 0, 1) := by decide +kernel
theorem dX11_most_49 : decode cX11_most 49 = .ok (.iload 4, 2) := by decide +kernel
theorem dX11_most_51 : decode cX11_most 51 = .ok (.iload_n 1, 1) := by decide +kernel
theorem dX11_most_52 : decode cX11_most 52 = .ok (.invokevirtual 464, 3) := by decide +kernel
theorem dX11_most_55 : decode cX11_most 55 = .ok (.ifCond .eq 6, 3) := by decide +kernel
theorem dX11_most_58 : decode cX11_most 58 = .ok (.iload 4, 2) := by decide +kernel
theorem dX11_most_60 : decode cX11_most 60 = .ok (.istore_n 3, 1) := by decide +kernel
theorem dX11_most_61 : decode cX11_most 61 = .ok (.iinc 4 1, 3) := by decide +kernel
theorem dX11_most_64 : decode cX11_most 64 = .ok (.goto (-47), 3) := by decide +kernel
theorem dX11_most_67 : decode cX11_most 67 = .ok (.iload_n 2, 1) := by decide +kernel
theorem dX11_most_68 : decode cX11_most 68 = .ok (.ifCond .eq 10, 3) := by decide +kernel
theorem dX11_most_71 : decode cX11_most 71 = .ok (.iload_n 3, 1) := by decide +kernel
theorem dX11_most_72 : decode cX11_most 72 = .ok (.invokestatic 304, 3) := by decide +kernel
theorem dX11_most_75 : decode cX11_most 75 = .ok (.goto 4, 3) := by decide +kernel
theorem dX11_most_78 : decode cX11_most 78 = .ok (.iload_n 3, 1) := by decide +kernel
theorem dX11_most_79 : decode cX11_most 79 = .ok (.ireturn, 1) := by decide +kernel
theorem dX11_isGame_0 : decode cX11_isGame 0 = .ok (.iload_n 0, 1) := by decide +kernel
theorem dX11_isGame_1 : decode cX11_isGame 1 = .ok (.iconst 1, 1) := by decide +kernel
theorem dX11_isGame_2 : decode cX11_isGame 2 = .ok (.bipush 10, 2) := by decide +kernel
theorem dX11_isGame_4 : decode cX11_isGame 4 = .ok (.invokestatic 83, 3) := by decide +kernel
theorem dX11_isGame_7 : decode cX11_isGame 7 = .ok (.ifCond .eq 22, 3) := by decide +kernel
theorem dX11_isGame_10 : decode cX11_isGame 10 = .ok (.iload_n 1, 1) := by decide +kernel
theorem dX11_isGame_11 : decode cX11_isGame 11 = .ok (.invokestatic 411, 3) := by decide +kernel
theorem dX11_isGame_14 : decode cX11_isGame 14 = .ok (.ifCond .eq 15, 3) := by decide +kernel
theorem dX11_isGame_17 : decode cX11_isGame 17 = .ok (.iload_n 1, 1) := by decide +kernel
theorem dX11_isGame_18 : decode cX11_isGame 18 = .ok (.invokestatic 304, 3) := by decide +kernel
theorem dX11_isGame_21 : decode cX11_isGame 21 = .ok (.iconst 5, 1) := by decide +kernel
theorem dX11_isGame_22 : decode cX11_isGame 22 = .ok (.if_icmp .gt 7, 3) := by decide +kernel
theorem dX11_isGame_25 : decode cX11_isGame 25 = .ok (.iconst 1, 1) := by decide +kernel
theorem dX11_isGame_26 : decode cX11_isGame 26 = .ok (.goto 4, 3) := by decide +kernel
theorem dX11_isGame_29 : decode cX11_isGame 29 = .ok (.iconst 0, 1) := by decide +kernel
theorem dX11_isGame_30 : decode cX11_isGame 30 = .ok (.ireturn, 1) := by decide +kernel
theorem dX11_playOf_0 : decode cX11_playOf 0 = .ok (.iconst 0, 1) := by decide +kernel
theorem dX11_playOf_1 : decode cX11_playOf 1 = .ok (.istore_n 3, 1) := by decide +kernel
theorem dX11_playOf_2 : decode cX11_playOf 2 = .ok (.iload_n 3, 1) := by decide +kernel
theorem dX11_playOf_3 : decode cX11_playOf 3 = .ok (.aload_n 0, 1) := by decide +kernel
theorem dX11_playOf_4 : decode cX11_playOf 4 = .ok (.getfield 398, 3) := by decide +kernel
theorem dX11_playOf_7 : decode cX11_playOf 7 = .ok (.if_icmp .ge 98, 3) := by decide +kernel
theorem dX11_playOf_10 : decode cX11_playOf 10 = .ok (.iconst 0, 1) := by decide +kernel
theorem dX11_playOf_11 : decode cX11_playOf 11 = .ok (.istore 4, 2) := by decide +kernel
theorem dX11_playOf_13 : decode cX11_playOf 13 = .ok (.iload 4, 2) := by decide +kernel
theorem dX11_playOf_15 : decode cX11_playOf 15 = .ok (.aload_n 0, 1) := by decide +kernel
theorem dX11_playOf_16 : decode cX11_playOf 16 = .ok (.getfield 59, 3) := by decide +kernel
theorem dX11_playOf_19 : decode cX11_playOf 19 = .ok (.iload_n 3, 1) := by decide +kernel
theorem dX11_playOf_20 : decode cX11_playOf 20 = .ok (.iaload, 1) := by decide +kernel
theorem dX11_playOf_21 : decode cX11_playOf 21 = .ok (.if_icmp .ge 78, 3) := by decide +kernel
theorem dX11_playOf_24 : decode cX11_playOf 24 = .ok (.iload_n 1, 1) := by decide +kernel
theorem dX11_playOf_25 : decode cX11_playOf 25 = .ok (.iload_n 3, 1) := by decide +kernel
theorem dX11_playOf_26 : decode cX11_playOf 26 = .ok (.invokestatic 251, 3) := by decide +kernel
theorem dX11_playOf_29 : decode cX11_playOf 29 = .ok (.ifCond .ne 70, 3) := by decide +kernel
theorem dX11_playOf_32 : decode cX11_playOf 32 = .ok (.aload_n 0, 1) := by decide +kernel
theorem dX11_playOf_33 : decode cX11_playOf 33 = .ok (.getfield 56, 3) := by decide +kernel
theorem dX11_playOf_36 : decode cX11_playOf 36 = .ok (.bipush 16, 2) := by decide +kernel
theorem dX11_playOf_38 : decode cX11_playOf 38 = .ok (.iload_n 3, 1) := by decide +kernel
theorem dX11_playOf_39 : decode cX11_playOf 39 = .ok (.imul, 1) := by decide +kernel
theorem dX11_playOf_40 : decode cX11_playOf 40 = .ok (.iload 4, 2) := by decide +kernel
theorem dX11_playOf_42 : decode cX11_playOf 42 = .ok (.iadd, 1) := by decide +kernel
theorem dX11_playOf_43 : decode cX11_playOf 43 = .ok (.iaload, 1) := by decide +kernel
theorem dX11_playOf_44 : decode cX11_playOf 44 = .ok (.istore 5, 2) := by decide +kernel
theorem dX11_playOf_46 : decode cX11_playOf 46 = .ok (.iload_n 2, 1) := by decide +kernel
theorem dX11_playOf_47 : decode cX11_playOf 47 = .ok (.iload 5, 2) := by decide +kernel
theorem dX11_playOf_49 : decode cX11_playOf 49 = .ok (.iand, 1) := by decide +kernel
theorem dX11_playOf_50 : decode cX11_playOf 50 = .ok (.ifCond .ne 43, 3) := by decide +kernel
theorem dX11_playOf_53 : decode cX11_playOf 53 = .ok (.aload_n 0, 1) := by decide +kernel
theorem dX11_playOf_54 : decode cX11_playOf 54 = .ok (.getfield 72, 3) := by decide +kernel
theorem dX11_playOf_57 : decode cX11_playOf 57 = .ok (.sipush 1024, 3) := by decide +kernel
theorem dX11_playOf_60 : decode cX11_playOf 60 = .ok (.iload_n 1, 1) := by decide +kernel
theorem dX11_playOf_61 : decode cX11_playOf 61 = .ok (.iconst 1, 1) := by decide +kernel
theorem dX11_playOf_62 : decode cX11_playOf 62 = .ok (.iload_n 3, 1) := by decide +kernel
theorem dX11_playOf_63 : decode cX11_playOf 63 = .ok (.ishl, 1) := by decide +kernel
theorem dX11_playOf_64 : decode cX11_playOf 64 = .ok (.ior, 1) := by decide +kernel
theorem dX11_playOf_65 : decode cX11_playOf 65 = .ok (.imul, 1) := by decide +kernel
theorem dX11_playOf_66 : decode cX11_playOf 66 = .ok (.iload_n 2, 1) := by decide +kernel
theorem dX11_playOf_67 : decode cX11_playOf 67 = .ok (.iload 5, 2) := by decide +kernel
theorem dX11_playOf_69 : decode cX11_playOf 69 = .ok (.ior, 1) := by decide +kernel
theorem dX11_playOf_70 : decode cX11_playOf 70 = .ok (.iadd, 1) := by decide +kernel
theorem dX11_playOf_71 : decode cX11_playOf 71 = .ok (.baload, 1) := by decide +kernel
theorem dX11_playOf_72 : decode cX11_playOf 72 = .ok (.ifCond .ne 21, 3) := by decide +kernel
theorem dX11_playOf_75 : decode cX11_playOf 75 = .ok (.bipush 100, 2) := by decide +kernel
theorem dX11_playOf_77 : decode cX11_playOf 77 = .ok (.aload_n 0, 1) := by decide +kernel
theorem dX11_playOf_78 : decode cX11_playOf 78 = .ok (.getfield 53, 3) := by decide +kernel
theorem dX11_playOf_81 : decode cX11_playOf 81 = .ok (.iload_n 3, 1) := by decide +kernel
theorem dX11_playOf_82 : decode cX11_playOf 82 = .ok (.iaload, 1) := by decide +kernel
theorem dX11_playOf_83 : decode cX11_playOf 83 = .ok (.iconst 1, 1) := by decide +kernel
theorem dX11_playOf_84 : decode cX11_playOf 84 = .ok (.iadd, 1) := by decide +kernel
theorem dX11_playOf_85 : decode cX11_playOf 85 = .ok (.imul, 1) := by decide +kernel
theorem dX11_playOf_86 : decode cX11_playOf 86 = .ok (.iload 5, 2) := by decide +kernel
theorem dX11_playOf_88 : decode cX11_playOf 88 = .ok (.invokestatic 395, 3) := by decide +kernel
theorem dX11_playOf_91 : decode cX11_playOf 91 = .ok (.iadd, 1) := by decide +kernel
theorem dX11_playOf_92 : decode cX11_playOf 92 = .ok (.ireturn, 1) := by decide +kernel
theorem dX11_playOf_93 : decode cX11_playOf 93 = .ok (.iinc 4 1, 3) := by decide +kernel
theorem dX11_playOf_96 : decode cX11_playOf 96 = .ok (.goto (-83), 3) := by decide +kernel
theorem dX11_playOf_99 : decode cX11_playOf 99 = .ok (.iinc 3 1, 3) := by decide +kernel
theorem dX11_playOf_102 : decode cX11_playOf 102 = .ok (.goto (-100), 3) := by decide +kernel
theorem dX11_playOf_105 : decode cX11_playOf 105 = .ok (.iconst (-1), 1) := by decide +kernel
theorem dX11_playOf_106 : decode cX11_playOf 106 = .ok (.ireturn, 1) := by decide +kernel
theorem dX11_playFirst_0 : decode cX11_playFirst 0 = .ok (.aload_n 0, 1) := by decide +kernel
theorem dX11_playFirst_1 : decode cX11_playFirst 1 = .ok (.iload_n 2, 1) := by decide +kernel
theorem dX11_playFirst_2 : decode cX11_playFirst 2 = .ok (.iload_n 1, 1) := by decide +kernel
theorem dX11_playFirst_3 : decode cX11_playFirst 3 = .ok (.iconst 2, 1) := by decide +kernel
theorem dX11_playFirst_4 : decode cX11_playFirst 4 = .ok (.invokevirtual 417, 3) := by decide +kernel
theorem dX11_playFirst_7 : decode cX11_playFirst 7 = .ok (.iconst 1, 1) := by decide +kernel
theorem dX11_playFirst_8 : decode cX11_playFirst 8 = .ok (.aload_n 0, 1) := by decide +kernel
theorem dX11_playFirst_9 : decode cX11_playFirst 9 = .ok (.getfield 398, 3) := by decide +kernel
theorem dX11_playFirst_12 : decode cX11_playFirst 12 = .ok (.ishl, 1) := by decide +kernel
theorem dX11_playFirst_13 : decode cX11_playFirst 13 = .ok (.iconst 1, 1) := by decide +kernel
theorem dX11_playFirst_14 : decode cX11_playFirst 14 = .ok (.isub, 1) := by decide +kernel
theorem dX11_playFirst_15 : decode cX11_playFirst 15 = .ok (.istore_n 3, 1) := by decide +kernel
theorem dX11_playFirst_16 : decode cX11_playFirst 16 = .ok (.iload_n 3, 1) := by decide +kernel
theorem dX11_playFirst_17 : decode cX11_playFirst 17 = .ok (.ifCond .le 70, 3) := by decide +kernel
theorem dX11_playFirst_20 : decode cX11_playFirst 20 = .ok (.iconst 1, 1) := by decide +kernel
theorem dX11_playFirst_21 : decode cX11_playFirst 21 = .ok (.iload_n 1, 1) := by decide +kernel
theorem dX11_playFirst_22 : decode cX11_playFirst 22 = .ok (.ishl, 1) := by decide +kernel
theorem dX11_playFirst_23 : decode cX11_playFirst 23 = .ok (.iconst 1, 1) := by decide +kernel
theorem dX11_playFirst_24 : decode cX11_playFirst 24 = .ok (.isub, 1) := by decide +kernel
theorem dX11_playFirst_25 : decode cX11_playFirst 25 = .ok (.istore 4, 2) := by decide +kernel
theorem dX11_playFirst_27 : decode cX11_playFirst 27 = .ok (.iload 4, 2) := by decide +kernel
theorem dX11_playFirst_29 : decode cX11_playFirst 29 = .ok (.ifCond .le 52, 3) := by decide +kernel
theorem dX11_playFirst_32 : decode cX11_playFirst 32 = .ok (.iload 4, 2) := by decide +kernel
theorem dX11_playFirst_34 : decode cX11_playFirst 34 = .ok (.invokestatic 304, 3) := by decide +kernel
theorem dX11_playFirst_37 : decode cX11_playFirst 37 = .ok (.iconst 2, 1) := by decide +kernel
theorem dX11_playFirst_38 : decode cX11_playFirst 38 = .ok (.iload_n 3, 1) := by decide +kernel
theorem dX11_playFirst_39 : decode cX11_playFirst 39 = .ok (.invokestatic 304, 3) := by decide +kernel
theorem dX11_playFirst_42 : decode cX11_playFirst 42 = .ok (.imul, 1) := by decide +kernel
theorem dX11_playFirst_43 : decode cX11_playFirst 43 = .ok (.if_icmp .ne 32, 3) := by decide +kernel
theorem dX11_playFirst_46 : decode cX11_playFirst 46 = .ok (.aload_n 0, 1) := by decide +kernel
theorem dX11_playFirst_47 : decode cX11_playFirst 47 = .ok (.getfield 72, 3) := by decide +kernel
theorem dX11_playFirst_50 : decode cX11_playFirst 50 = .ok (.sipush 1024, 3) := by decide +kernel
theorem dX11_playFirst_53 : decode cX11_playFirst 53 = .ok (.iload_n 3, 1) := by decide +kernel
theorem dX11_playFirst_54 : decode cX11_playFirst 54 = .ok (.imul, 1) := by decide +kernel
theorem dX11_playFirst_55 : decode cX11_playFirst 55 = .ok (.iload 4, 2) := by decide +kernel
theorem dX11_playFirst_57 : decode cX11_playFirst 57 = .ok (.iadd, 1) := by decide +kernel
theorem dX11_playFirst_58 : decode cX11_playFirst 58 = .ok (.aload_n 0, 1) := by decide +kernel
theorem dX11_playFirst_59 : decode cX11_playFirst 59 = .ok (.iload_n 3, 1) := by decide +kernel
theorem dX11_playFirst_60 : decode cX11_playFirst 60 = .ok (.iload 4, 2) := by decide +kernel
theorem dX11_playFirst_62 : decode cX11_playFirst 62 = .ok (.invokevirtual 467, 3) := by decide +kernel
theorem dX11_playFirst_65 : decode cX11_playFirst 65 = .ok (.iconst (-1), 1) := by decide +kernel
theorem dX11_playFirst_66 : decode cX11_playFirst 66 = .ok (.if_icmp .eq 7, 3) := by decide +kernel
theorem dX11_playFirst_69 : decode cX11_playFirst 69 = .ok (.iconst 1, 1) := by decide +kernel
theorem dX11_playFirst_70 : decode cX11_playFirst 70 = .ok (.goto 4, 3) := by decide +kernel
theorem dX11_playFirst_73 : decode cX11_playFirst 73 = .ok (.iconst 0, 1) := by decide +kernel
theorem dX11_playFirst_74 : decode cX11_playFirst 74 = .ok (.bastore, 1) := by decide +kernel
theorem dX11_playFirst_75 : decode cX11_playFirst 75 = .ok (.iinc 4 (-1), 3) := by decide +kernel
theorem dX11_playFirst_78 : decode cX11_playFirst 78 = .ok (.goto (-51), 3) := by decide +kernel
theorem dX11_playFirst_81 : decode cX11_playFirst 81 = .ok (.iinc 3 (-1), 3) := by decide +kernel
theorem dX11_playFirst_84 : decode cX11_playFirst 84 = .ok (.goto (-68), 3) := by decide +kernel
theorem dX11_playFirst_87 : decode cX11_playFirst 87 = .ok (.aload_n 0, 1) := by decide +kernel
theorem dX11_playFirst_88 : decode cX11_playFirst 88 = .ok (.iconst 0, 1) := by decide +kernel
theorem dX11_playFirst_89 : decode cX11_playFirst 89 = .ok (.iconst 0, 1) := by decide +kernel
theorem dX11_playFirst_90 : decode cX11_playFirst 90 = .ok (.invokevirtual 467, 3) := by decide +kernel
theorem dX11_playFirst_93 : decode cX11_playFirst 93 = .ok (.ireturn, 1) := by decide +kernel
theorem dX11_game_0 : decode cX11_game 0 = .ok (.iload_n 1, 1) := by decide +kernel
theorem dX11_game_1 : decode cX11_game 1 = .ok (.iload_n 2, 1) := by decide +kernel
theorem dX11_game_2 : decode cX11_game 2 = .ok (.invokestatic 470, 3) := by decide +kernel
theorem dX11_game_5 : decode cX11_game 5 = .ok (.ifCond .ne 7, 3) := by decide +kernel
theorem dX11_game_8 : decode cX11_game 8 = .ok (.iconst (-1), 1) := by decide +kernel
theorem dX11_game_9 : decode cX11_game 9 = .ok (.goto 18, 3) := by decide +kernel
theorem dX11_game_12 : decode cX11_game 12 = .ok (.aload_n 0, 1) := by decide +kernel
theorem dX11_game_13 : decode cX11_game 13 = .ok (.iload_n 1, 1) := by decide +kernel
theorem dX11_game_14 : decode cX11_game 14 = .ok (.iload_n 2, 1) := by decide +kernel
theorem dX11_game_15 : decode cX11_game 15 = .ok (.invokevirtual 473, 3) := by decide +kernel
theorem dX11_game_18 : decode cX11_game 18 = .ok (.iconst (-1), 1) := by decide +kernel
theorem dX11_game_19 : decode cX11_game 19 = .ok (.if_icmp .ne 7, 3) := by decide +kernel
theorem dX11_game_22 : decode cX11_game 22 = .ok (.iconst 0, 1) := by decide +kernel
theorem dX11_game_23 : decode cX11_game 23 = .ok (.goto 4, 3) := by decide +kernel
theorem dX11_game_26 : decode cX11_game 26 = .ok (.iconst 1, 1) := by decide +kernel
theorem dX11_game_27 : decode cX11_game 27 = .ok (.ireturn, 1) := by decide +kernel
theorem dX11_play_0 : decode cX11_play 0 = .ok (.iload_n 1, 1) := by decide +kernel
theorem dX11_play_1 : decode cX11_play 1 = .ok (.iload_n 2, 1) := by decide +kernel
theorem dX11_play_2 : decode cX11_play 2 = .ok (.invokestatic 470, 3) := by decide +kernel
theorem dX11_play_5 : decode cX11_play 5 = .ok (.ifCond .eq 12, 3) := by decide +kernel
theorem dX11_play_8 : decode cX11_play 8 = .ok (.aload_n 0, 1) := by decide +kernel
theorem dX11_play_9 : decode cX11_play 9 = .ok (.iload_n 1, 1) := by decide +kernel
theorem dX11_play_10 : decode cX11_play 10 = .ok (.iload_n 2, 1) := by decide +kernel
theorem dX11_play_11 : decode cX11_play 11 = .ok (.invokevirtual 473, 3) := by decide +kernel
theorem dX11_play_14 : decode cX11_play 14 = .ok (.goto 4, 3) := by decide +kernel
theorem dX11_play_17 : decode cX11_play 17 = .ok (.iconst (-1), 1) := by decide +kernel
theorem dX11_play_18 : decode cX11_play 18 = .ok (.ireturn, 1) := by decide +kernel
theorem dX11_said_0 : decode cX11_said 0 = .ok (.iload_n 1, 1) := by decide +kernel
theorem dX11_said_1 : decode cX11_said 1 = .ok (.iconst (-1), 1) := by decide +kernel
theorem dX11_said_2 : decode cX11_said 2 = .ok (.if_icmp .ne 12, 3) := by decide +kernel
theorem dX11_said_5 : decode cX11_said 5 = .ok (.aload_n 0, 1) := by decide +kernel
theorem dX11_said_6 : decode cX11_said 6 = .ok (.getfield 7, 3) := by decide +kernel
theorem dX11_said_9 : decode cX11_said 9 = .ok (.iconst 3, 1) := by decide +kernel
theorem dX11_said_10 : decode cX11_said 10 = .ok (.iconst 0, 1) := by decide +kernel
theorem dX11_said_11 : decode cX11_said 11 = .ok (.iastore, 1) := by decide +kernel
theorem dX11_said_12 : decode cX11_said 12 = .ok (.iconst 0, 1) := by decide +kernel
theorem dX11_said_13 : decode cX11_said 13 = .ok (.ireturn, 1) := by decide +kernel
theorem dX11_said_14 : decode cX11_said 14 = .ok (.iload_n 1, 1) := by decide +kernel
theorem dX11_said_15 : decode cX11_said 15 = .ok (.iconst 1, 1) := by decide +kernel
theorem dX11_said_16 : decode cX11_said 16 = .ok (.isub, 1) := by decide +kernel
theorem dX11_said_17 : decode cX11_said 17 = .ok (.invokestatic 87, 3) := by decide +kernel
theorem dX11_said_20 : decode cX11_said 20 = .ok (.ifCond .eq 24, 3) := by decide +kernel
theorem dX11_said_23 : decode cX11_said 23 = .ok (.iload_n 2, 1) := by decide +kernel
theorem dX11_said_24 : decode cX11_said 24 = .ok (.iconst 0, 1) := by decide +kernel
theorem dX11_said_25 : decode cX11_said 25 = .ok (.bipush 14, 2) := by decide +kernel
theorem dX11_said_27 : decode cX11_said 27 = .ok (.invokestatic 83, 3) := by decide +kernel
theorem dX11_said_30 : decode cX11_said 30 = .ok (.ifCond .eq 14, 3) := by decide +kernel
theorem dX11_said_33 : decode cX11_said 33 = .ok (.aload_n 0, 1) := by decide +kernel
theorem dX11_said_34 : decode cX11_said 34 = .ok (.getfield 7, 3) := by decide +kernel
theorem dX11_said_37 : decode cX11_said 37 = .ok (.iconst 3, 1) := by decide +kernel
theorem dX11_said_38 : decode cX11_said 38 = .ok (.iaload, 1) := by decide +kernel
theorem dX11_said_39 : decode cX11_said 39 = .ok (.bipush 8, 2) := by decide +kernel
theorem dX11_said_41 : decode cX11_said 41 = .ok (.if_icmp .ne 6, 3) := by decide +kernel
theorem dX11_said_44 : decode cX11_said 44 = .ok (.bipush (-2), 2) := by decide +kernel
theorem dX11_said_46 : decode cX11_said 46 = .ok (.ireturn, 1) := by decide +kernel
theorem dX11_said_47 : decode cX11_said 47 = .ok (.aload_n 0, 1) := by decide +kernel
theorem dX11_said_48 : decode cX11_said 48 = .ok (.getfield 7, 3) := by decide +kernel
theorem dX11_said_51 : decode cX11_said 51 = .ok (.bipush 32, 2) := by decide +kernel
theorem dX11_said_53 : decode cX11_said 53 = .ok (.iconst 2, 1) := by decide +kernel
theorem dX11_said_54 : decode cX11_said 54 = .ok (.aload_n 0, 1) := by decide +kernel
theorem dX11_said_55 : decode cX11_said 55 = .ok (.getfield 7, 3) := by decide +kernel
theorem dX11_said_58 : decode cX11_said 58 = .ok (.iconst 3, 1) := by decide +kernel
theorem dX11_said_59 : decode cX11_said 59 = .ok (.iaload, 1) := by decide +kernel
theorem dX11_said_60 : decode cX11_said 60 = .ok (.imul, 1) := by decide +kernel
theorem dX11_said_61 : decode cX11_said 61 = .ok (.iadd, 1) := by decide +kernel
theorem dX11_said_62 : decode cX11_said 62 = .ok (.iload_n 1, 1) := by decide +kernel
theorem dX11_said_63 : decode cX11_said 63 = .ok (.iconst 1, 1) := by decide +kernel
theorem dX11_said_64 : decode cX11_said 64 = .ok (.isub, 1) := by decide +kernel
theorem dX11_said_65 : decode cX11_said 65 = .ok (.iastore, 1) := by decide +kernel
theorem dX11_said_66 : decode cX11_said 66 = .ok (.aload_n 0, 1) := by decide +kernel
theorem dX11_said_67 : decode cX11_said 67 = .ok (.getfield 7, 3) := by decide +kernel
theorem dX11_said_70 : decode cX11_said 70 = .ok (.bipush 32, 2) := by decide +kernel
theorem dX11_said_72 : decode cX11_said 72 = .ok (.iconst 2, 1) := by decide +kernel
theorem dX11_said_73 : decode cX11_said 73 = .ok (.aload_n 0, 1) := by decide +kernel
theorem dX11_said_74 : decode cX11_said 74 = .ok (.getfield 7, 3) := by decide +kernel
theorem dX11_said_77 : decode cX11_said 77 = .ok (.iconst 3, 1) := by decide +kernel
theorem dX11_said_78 : decode cX11_said 78 = .ok (.iaload, 1) := by decide +kernel
theorem dX11_said_79 : decode cX11_said 79 = .ok (.imul, 1) := by decide +kernel
theorem dX11_said_80 : decode cX11_said 80 = .ok (.iadd, 1) := by decide +kernel
theorem dX11_said_81 : decode cX11_said 81 = .ok (.iconst 1, 1) := by decide +kernel
theorem dX11_said_82 : decode cX11_said 82 = .ok (.iadd, 1) := by decide +kernel
theorem dX11_said_83 : decode cX11_said 83 = .ok (.iload_n 2, 1) := by decide +kernel
theorem dX11_said_84 : decode cX11_said 84 = .ok (.iastore, 1) := by decide +kernel
theorem dX11_said_85 : decode cX11_said 85 = .ok (.aload_n 0, 1) := by decide +kernel
theorem dX11_said_86 : decode cX11_said 86 = .ok (.getfield 7, 3) := by decide +kernel
theorem dX11_said_89 : decode cX11_said 89 = .ok (.iconst 3, 1) := by decide +kernel
theorem dX11_said_90 : decode cX11_said 90 = .ok (.dup2, 1) := by decide +kernel
theorem dX11_said_91 : decode cX11_said 91 = .ok (.iaload, 1) := by decide +kernel
theorem dX11_said_92 : decode cX11_said 92 = .ok (.iconst 1, 1) := by decide +kernel
theorem dX11_said_93 : decode cX11_said 93 = .ok (.iadd, 1) := by decide +kernel
theorem dX11_said_94 : decode cX11_said 94 = .ok (.iastore, 1) := by decide +kernel
theorem dX11_said_95 : decode cX11_said 95 = .ok (.aload_n 0, 1) := by decide +kernel
theorem dX11_said_96 : decode cX11_said 96 = .ok (.getfield 7, 3) := by decide +kernel
theorem dX11_said_99 : decode cX11_said 99 = .ok (.iconst 3, 1) := by decide +kernel
theorem dX11_said_100 : decode cX11_said 100 = .ok (.iaload, 1) := by decide +kernel
theorem dX11_said_101 : decode cX11_said 101 = .ok (.ireturn, 1) := by decide +kernel
theorem dX11_whose_0 : decode cX11_whose 0 = .ok (.iconst 0, 1) := by decide +kernel
theorem dX11_whose_1 : decode cX11_whose 1 = .ok (.istore_n 1, 1) := by decide +kernel
theorem dX11_whose_2 : decode cX11_whose 2 = .ok (.iconst 0, 1) := by decide +kernel
theorem dX11_whose_3 : decode cX11_whose 3 = .ok (.istore_n 2, 1) := by decide +kernel
theorem dX11_whose_4 : decode cX11_whose 4 = .ok (.iload_n 2, 1) := by decide +kernel
theorem dX11_whose_5 : decode cX11_whose 5 = .ok (.aload_n 0, 1) := by decide +kernel
theorem dX11_whose_6 : decode cX11_whose 6 = .ok (.getfield 7, 3) := by decide +kernel
theorem dX11_whose_9 : decode cX11_whose 9 = .ok (.iconst 0, 1) := by decide +kernel
theorem dX11_whose_10 : decode cX11_whose 10 = .ok (.iaload, 1) := by decide +kernel
theorem dX11_whose_11 : decode cX11_whose 11 = .ok (.if_icmp .ge 85, 3) := by decide +kernel
theorem dX11_whose_14 : decode cX11_whose 14 = .ok (.iconst 1, 1) := by decide +kernel
theorem dX11_whose_15 : decode cX11_whose 15 = .ok (.istore_n 3, 1) := by decide +kernel
theorem dX11_whose_16 : decode cX11_whose 16 = .ok (.bipush 32, 2) := by decide +kernel
theorem dX11_whose_18 : decode cX11_whose 18 = .ok (.istore 4, 2) := by decide +kernel
theorem dX11_whose_20 : decode cX11_whose 20 = .ok (.iload 4, 2) := by decide +kernel
theorem dX11_whose_22 : decode cX11_whose 22 = .ok (.bipush 32, 2) := by decide +kernel
theorem dX11_whose_24 : decode cX11_whose 24 = .ok (.iconst 2, 1) := by decide +kernel
theorem dX11_whose_25 : decode cX11_whose 25 = .ok (.aload_n 0, 1) := by decide +kernel
theorem dX11_whose_26 : decode cX11_whose 26 = .ok (.getfield 7, 3) := by decide +kernel
theorem dX11_whose_29 : decode cX11_whose 29 = .ok (.iconst 3, 1) := by decide +kernel
theorem dX11_whose_30 : decode cX11_whose 30 = .ok (.iaload, 1) := by decide +kernel
theorem dX11_whose_31 : decode cX11_whose 31 = .ok (.imul, 1) := by decide +kernel
theorem dX11_whose_32 : decode cX11_whose 32 = .ok (.iadd, 1) := by decide +kernel
theorem dX11_whose_33 : decode cX11_whose 33 = .ok (.if_icmp .ge 43, 3) := by decide +kernel
theorem dX11_whose_36 : decode cX11_whose 36 = .ok (.iload_n 3, 1) := by decide +kernel
theorem dX11_whose_37 : decode cX11_whose 37 = .ok (.ifCond .eq 31, 3) := by decide +kernel
theorem dX11_whose_40 : decode cX11_whose 40 = .ok (.aload_n 0, 1) := by decide +kernel
theorem dX11_whose_41 : decode cX11_whose 41 = .ok (.iload_n 2, 1) := by decide +kernel
theorem dX11_whose_42 : decode cX11_whose 42 = .ok (.aload_n 0, 1) := by decide +kernel
theorem dX11_whose_43 : decode cX11_whose 43 = .ok (.getfield 7, 3) := by decide +kernel
theorem dX11_whose_46 : decode cX11_whose 46 = .ok (.iload 4, 2) := by decide +kernel
theorem dX11_whose_48 : decode cX11_whose 48 = .ok (.iaload, 1) := by decide +kernel
theorem dX11_whose_49 : decode cX11_whose 49 = .ok (.invokevirtual 329, 3) := by decide +kernel
theorem dX11_whose_52 : decode cX11_whose 52 = .ok (.aload_n 0, 1) := by decide +kernel
theorem dX11_whose_53 : decode cX11_whose 53 = .ok (.getfield 7, 3) := by decide +kernel
theorem dX11_whose_56 : decode cX11_whose 56 = .ok (.iload 4, 2) := by decide +kernel
theorem dX11_whose_58 : decode cX11_whose 58 = .ok (.iconst 1, 1) := by decide +kernel
theorem dX11_whose_59 : decode cX11_whose 59 = .ok (.iadd, 1) := by decide +kernel
theorem dX11_whose_60 : decode cX11_whose 60 = .ok (.iaload, 1) := by decide +kernel
theorem dX11_whose_61 : decode cX11_whose 61 = .ok (.if_icmp .ne 7, 3) := by decide +kernel
theorem dX11_whose_64 : decode cX11_whose 64 = .ok (.iconst 1, 1) := by decide +kernel
theorem dX11_whose_65 : decode cX11_whose 65 = .ok (.goto 4, 3) := by decide +kernel
theorem dX11_whose_68 : decode cX11_whose 68 = .ok (.iconst 0, 1) := by decide +kernel
theorem dX11_whose_69 : decode cX11_whose 69 = .ok (.istore_n 3, 1) := by decide +kernel
theorem dX11_whose_70 : decode cX11_whose 70 = .ok (.iinc 4 2, 3) := by decide +kernel
theorem dX11_whose_73 : decode cX11_whose 73 = .ok (.goto (-53), 3) := by decide +kernel
theorem dX11_whose_76 : decode cX11_whose 76 = .ok (.iload_n 1, 1) := by decide +kernel
theorem dX11_whose_77 : decode cX11_whose 77 = .ok (.iload_n 3, 1) := by decide +kernel
theorem dX11_whose_78 : decode cX11_whose 78 = .ok (.ifCond .eq 9, 3) := by decide +kernel
theorem dX11_whose_81 : decode cX11_whose 81 = .ok (.iconst 1, 1) := by decide +kernel
theorem dX11_whose_82 : decode cX11_whose 82 = .ok (.iload_n 2, 1) := by decide +kernel
theorem dX11_whose_83 : decode cX11_whose 83 = .ok (.ishl, 1) := by decide +kernel
theorem dX11_whose_84 : decode cX11_whose 84 = .ok (.goto 4, 3) := by decide +kernel
theorem dX11_whose_87 : decode cX11_whose 87 = .ok (.iconst 0, 1) := by decide +kernel
theorem dX11_whose_88 : decode cX11_whose 88 = .ok (.ior, 1) := by decide +kernel
theorem dX11_whose_89 : decode cX11_whose 89 = .ok (.istore_n 1, 1) := by decide +kernel
theorem dX11_whose_90 : decode cX11_whose 90 = .ok (.iinc 2 1, 3) := by decide +kernel
theorem dX11_whose_93 : decode cX11_whose 93 = .ok (.goto (-89), 3) := by decide +kernel
theorem dX11_whose_96 : decode cX11_whose 96 = .ok (.iload_n 1, 1) := by decide +kernel
theorem dX11_whose_97 : decode cX11_whose 97 = .ok (.ireturn, 1) := by decide +kernel
theorem dX11_image_0 : decode cX11_image 0 = .ok (.aload_n 0, 1) := by decide +kernel
theorem dX11_image_1 : decode cX11_image 1 = .ok (.getfield 7, 3) := by decide +kernel
theorem dX11_image_4 : decode cX11_image 4 = .ok (.aload_n 0, 1) := by decide +kernel
theorem dX11_image_5 : decode cX11_image 5 = .ok (.getfield 13, 3) := by decide +kernel
theorem dX11_image_8 : decode cX11_image 8 = .ok (.invokestatic 79, 3) := by decide +kernel
theorem dX11_image_11 : decode cX11_image 11 = .ok (.aload_n 0, 1) := by decide +kernel
theorem dX11_image_12 : decode cX11_image 12 = .ok (.getfield 7, 3) := by decide +kernel
theorem dX11_image_15 : decode cX11_image 15 = .ok (.iconst 4, 1) := by decide +kernel
theorem dX11_image_16 : decode cX11_image 16 = .ok (.iaload, 1) := by decide +kernel
theorem dX11_image_17 : decode cX11_image 17 = .ok (.ireturn, 1) := by decide +kernel
theorem dX11_back_0 : decode cX11_back 0 = .ok (.aload_n 0, 1) := by decide +kernel
theorem dX11_back_1 : decode cX11_back 1 = .ok (.getfield 13, 3) := by decide +kernel
theorem dX11_back_4 : decode cX11_back 4 = .ok (.aload_n 0, 1) := by decide +kernel
theorem dX11_back_5 : decode cX11_back 5 = .ok (.getfield 7, 3) := by decide +kernel
theorem dX11_back_8 : decode cX11_back 8 = .ok (.invokestatic 79, 3) := by decide +kernel
theorem dX11_back_11 : decode cX11_back 11 = .ok (.aload_n 0, 1) := by decide +kernel
theorem dX11_back_12 : decode cX11_back 12 = .ok (.getfield 7, 3) := by decide +kernel
theorem dX11_back_15 : decode cX11_back 15 = .ok (.iconst 4, 1) := by decide +kernel
theorem dX11_back_16 : decode cX11_back 16 = .ok (.iaload, 1) := by decide +kernel
theorem dX11_back_17 : decode cX11_back 17 = .ok (.ireturn, 1) := by decide +kernel
theorem dX11_about_0 : decode cX11_about 0 = .ok (.iload_n 1, 1) := by decide +kernel
theorem dX11_about_1 : decode cX11_about 1 = .ok (.iconst 0, 1) := by decide +kernel
theorem dX11_about_2 : decode cX11_about 2 = .ok (.iconst 3, 1) := by decide +kernel
theorem dX11_about_3 : decode cX11_about 3 = .ok (.invokestatic 83, 3) := by decide +kernel
theorem dX11_about_6 : decode cX11_about 6 = .ok (.ifCond .eq 12, 3) := by decide +kernel
theorem dX11_about_9 : decode cX11_about 9 = .ok (.aload_n 0, 1) := by decide +kernel
theorem dX11_about_10 : decode cX11_about 10 = .ok (.getfield 7, 3) := by decide +kernel
theorem dX11_about_13 : decode cX11_about 13 = .ok (.iload_n 1, 1) := by decide +kernel
theorem dX11_about_14 : decode cX11_about 14 = .ok (.iaload, 1) := by decide +kernel
theorem dX11_about_15 : decode cX11_about 15 = .ok (.goto 17, 3) := by decide +kernel
theorem dX11_about_18 : decode cX11_about 18 = .ok (.iload_n 1, 1) := by decide +kernel
theorem dX11_about_19 : decode cX11_about 19 = .ok (.iconst 4, 1) := by decide +kernel
theorem dX11_about_20 : decode cX11_about 20 = .ok (.if_icmp .ne 10, 3) := by decide +kernel
theorem dX11_about_23 : decode cX11_about 23 = .ok (.aload_n 0, 1) := by decide +kernel
theorem dX11_about_24 : decode cX11_about 24 = .ok (.getfield 98, 3) := by decide +kernel
theorem dX11_about_27 : decode cX11_about 27 = .ok (.goto 5, 3) := by decide +kernel
theorem dX11_about_30 : decode cX11_about 30 = .ok (.bipush (-2), 2) := by decide +kernel
theorem dX11_about_32 : decode cX11_about 32 = .ok (.ireturn, 1) := by decide +kernel
