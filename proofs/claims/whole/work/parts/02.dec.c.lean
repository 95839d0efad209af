theorem dX8_init_0 : decode cX8_init 0 = .ok (.aload_n 0, 1) := by decide +kernel
theorem dX8_init_1 : decode cX8_init 1 = .ok (.invokespecial 1, 3) := by decide +kernel
theorem dX8_init_4 : decode cX8_init 4 = .ok (.aload_n 0, 1) := by decide +kernel
theorem dX8_init_5 : decode cX8_init 5 = .ok (.bipush 80, 2) := by decide +kernel
theorem dX8_init_7 : decode cX8_init 7 = .ok (.newarray .int, 2) := by decide +kernel
theorem dX8_init_9 : decode cX8_init 9 = .ok (.putfield 7, 3) := by decide +kernel
theorem dX8_init_12 : decode cX8_init 12 = .ok (.aload_n 0, 1) := by decide +kernel
theorem dX8_init_13 : decode cX8_init 13 = .ok (.bipush 80, 2) := by decide +kernel
theorem dX8_init_15 : decode cX8_init 15 = .ok (.newarray .int, 2) := by decide +kernel
theorem dX8_init_17 : decode cX8_init 17 = .ok (.putfield 13, 3) := by decide +kernel
theorem dX8_init_20 : decode cX8_init 20 = .ok (.aload_n 0, 1) := by decide +kernel
theorem dX8_init_21 : decode cX8_init 21 = .ok (.bipush 80, 2) := by decide +kernel
theorem dX8_init_23 : decode cX8_init 23 = .ok (.newarray .int, 2) := by decide +kernel
theorem dX8_init_25 : decode cX8_init 25 = .ok (.putfield 16, 3) := by decide +kernel
theorem dX8_init_28 : decode cX8_init 28 = .ok (.aload_n 0, 1) := by decide +kernel
theorem dX8_init_29 : decode cX8_init 29 = .ok (.bipush 80, 2) := by decide +kernel
theorem dX8_init_31 : decode cX8_init 31 = .ok (.newarray .int, 2) := by decide +kernel
theorem dX8_init_33 : decode cX8_init 33 = .ok (.putfield 19, 3) := by decide +kernel
theorem dX8_init_36 : decode cX8_init 36 = .ok (.aload_n 0, 1) := by decide +kernel
theorem dX8_init_37 : decode cX8_init 37 = .ok (.bipush 80, 2) := by decide +kernel
theorem dX8_init_39 : decode cX8_init 39 = .ok (.newarray .int, 2) := by decide +kernel
theorem dX8_init_41 : decode cX8_init 41 = .ok (.putfield 22, 3) := by decide +kernel
theorem dX8_init_44 : decode cX8_init 44 = .ok (.aload_n 0, 1) := by decide +kernel
theorem dX8_init_45 : decode cX8_init 45 = .ok (.bipush 80, 2) := by decide +kernel
theorem dX8_init_47 : decode cX8_init 47 = .ok (.newarray .int, 2) := by decide +kernel
theorem dX8_init_49 : decode cX8_init 49 = .ok (.putfield 25, 3) := by decide +kernel
theorem dX8_init_52 : decode cX8_init 52 = .ok (.aload_n 0, 1) := by decide +kernel
theorem dX8_init_53 : decode cX8_init 53 = .ok (.bipush 80, 2) := by decide +kernel
theorem dX8_init_55 : decode cX8_init 55 = .ok (.newarray .int, 2) := by decide +kernel
theorem dX8_init_57 : decode cX8_init 57 = .ok (.putfield 28, 3) := by decide +kernel
theorem dX8_init_60 : decode cX8_init 60 = .ok (.aload_n 0, 1) := by decide +kernel
theorem dX8_init_61 : decode cX8_init 61 = .ok (.bipush 80, 2) := by decide +kernel
theorem dX8_init_63 : decode cX8_init 63 = .ok (.newarray .int, 2) := by decide +kernel
theorem dX8_init_65 : decode cX8_init 65 = .ok (.putfield 31, 3) := by decide +kernel
theorem dX8_init_68 : decode cX8_init 68 = .ok (.aload_n 0, 1) := by decide +kernel
theorem dX8_init_69 : decode cX8_init 69 = .ok (.bipush 80, 2) := by decide +kernel
theorem dX8_init_71 : decode cX8_init 71 = .ok (.newarray .boolean, 2) := by decide +kernel
theorem dX8_init_73 : decode cX8_init 73 = .ok (.putfield 34, 3) := by decide +kernel
theorem dX8_init_76 : decode cX8_init 76 = .ok (.aload_n 0, 1) := by decide +kernel
theorem dX8_init_77 : decode cX8_init 77 = .ok (.bipush 80, 2) := by decide +kernel
theorem dX8_init_79 : decode cX8_init 79 = .ok (.newarray .boolean, 2) := by decide +kernel
theorem dX8_init_81 : decode cX8_init 81 = .ok (.putfield 38, 3) := by decide +kernel
theorem dX8_init_84 : decode cX8_init 84 = .ok (.aload_n 0, 1) := by decide +kernel
theorem dX8_init_85 : decode cX8_init 85 = .ok (.bipush 80, 2) := by decide +kernel
theorem dX8_init_87 : decode cX8_init 87 = .ok (.newarray .int, 2) := by decide +kernel
theorem dX8_init_89 : decode cX8_init 89 = .ok (.putfield 41, 3) := by decide +kernel
theorem dX8_init_92 : decode cX8_init 92 = .ok (.aload_n 0, 1) := by decide +kernel
theorem dX8_init_93 : decode cX8_init 93 = .ok (.bipush 10, 2) := by decide +kernel
theorem dX8_init_95 : decode cX8_init 95 = .ok (.newarray .int, 2) := by decide +kernel
theorem dX8_init_97 : decode cX8_init 97 = .ok (.putfield 44, 3) := by decide +kernel
theorem dX8_init_100 : decode cX8_init 100 = .ok (.aload_n 0, 1) := by decide +kernel
theorem dX8_init_101 : decode cX8_init 101 = .ok (.bipush 10, 2) := by decide +kernel
theorem dX8_init_103 : decode cX8_init 103 = .ok (.newarray .int, 2) := by decide +kernel
theorem dX8_init_105 : decode cX8_init 105 = .ok (.putfield 47, 3) := by decide +kernel
theorem dX8_init_108 : decode cX8_init 108 = .ok (.aload_n 0, 1) := by decide +kernel
theorem dX8_init_109 : decode cX8_init 109 = .ok (.bipush 10, 2) := by decide +kernel
theorem dX8_init_111 : decode cX8_init 111 = .ok (.newarray .int, 2) := by decide +kernel
theorem dX8_init_113 : decode cX8_init 113 = .ok (.putfield 50, 3) := by decide +kernel
theorem dX8_init_116 : decode cX8_init 116 = .ok (.aload_n 0, 1) := by decide +kernel
theorem dX8_init_117 : decode cX8_init 117 = .ok (.bipush 24, 2) := by decide +kernel
theorem dX8_init_119 : decode cX8_init 119 = .ok (.newarray .int, 2) := by decide +kernel
theorem dX8_init_121 : decode cX8_init 121 = .ok (.putfield 53, 3) := by decide +kernel
theorem dX8_init_124 : decode cX8_init 124 = .ok (.aload_n 0, 1) := by decide +kernel
theorem dX8_init_125 : decode cX8_init 125 = .ok (.bipush 6, 2) := by decide +kernel
theorem dX8_init_127 : decode cX8_init 127 = .ok (.newarray .int, 2) := by decide +kernel
theorem dX8_init_129 : decode cX8_init 129 = .ok (.putfield 56, 3) := by decide +kernel
theorem dX8_init_132 : decode cX8_init 132 = .ok (.aload_n 0, 1) := by decide +kernel
theorem dX8_init_133 : decode cX8_init 133 = .ok (.bipush 8, 2) := by decide +kernel
theorem dX8_init_135 : decode cX8_init 135 = .ok (.newarray .int, 2) := by decide +kernel
theorem dX8_init_137 : decode cX8_init 137 = .ok (.putfield 59, 3) := by decide +kernel
theorem dX8_init_140 : decode cX8_init 140 = .ok (.aload_n 0, 1) := by decide +kernel
theorem dX8_init_141 : decode cX8_init 141 = .ok (.bipush 8, 2) := by decide +kernel
theorem dX8_init_143 : decode cX8_init 143 = .ok (.newarray .int, 2) := by decide +kernel
theorem dX8_init_145 : decode cX8_init 145 = .ok (.putfield 62, 3) := by decide +kernel
theorem dX8_init_148 : decode cX8_init 148 = .ok (.aload_n 0, 1) := by decide +kernel
theorem dX8_init_149 : decode cX8_init 149 = .ok (.bipush 8, 2) := by decide +kernel
theorem dX8_init_151 : decode cX8_init 151 = .ok (.newarray .boolean, 2) := by decide +kernel
theorem dX8_init_153 : decode cX8_init 153 = .ok (.putfield 65, 3) := by decide +kernel
theorem dX8_init_156 : decode cX8_init 156 = .ok (.aload_n 0, 1) := by decide +kernel
theorem dX8_init_157 : decode cX8_init 157 = .ok (.bipush 24, 2) := by decide +kernel
theorem dX8_init_159 : decode cX8_init 159 = .ok (.newarray .int, 2) := by decide +kernel
theorem dX8_init_161 : decode cX8_init 161 = .ok (.putfield 68, 3) := by decide +kernel
theorem dX8_init_164 : decode cX8_init 164 = .ok (.aload_n 0, 1) := by decide +kernel
theorem dX8_init_165 : decode cX8_init 165 = .ok (.bipush 6, 2) := by decide +kernel
theorem dX8_init_167 : decode cX8_init 167 = .ok (.newarray .int, 2) := by decide +kernel
theorem dX8_init_169 : decode cX8_init 169 = .ok (.putfield 71, 3) := by decide +kernel
theorem dX8_init_172 : decode cX8_init 172 = .ok (.aload_n 0, 1) := by decide +kernel
theorem dX8_init_173 : decode cX8_init 173 = .ok (.bipush 8, 2) := by decide +kernel
theorem dX8_init_175 : decode cX8_init 175 = .ok (.newarray .int, 2) := by decide +kernel
theorem dX8_init_177 : decode cX8_init 177 = .ok (.putfield 74, 3) := by decide +kernel
theorem dX8_init_180 : decode cX8_init 180 = .ok (.aload_n 0, 1) := by decide +kernel
theorem dX8_init_181 : decode cX8_init 181 = .ok (.bipush 8, 2) := by decide +kernel
theorem dX8_init_183 : decode cX8_init 183 = .ok (.newarray .int, 2) := by decide +kernel
theorem dX8_init_185 : decode cX8_init 185 = .ok (.putfield 77, 3) := by decide +kernel
theorem dX8_init_188 : decode cX8_init 188 = .ok (.aload_n 0, 1) := by decide +kernel
theorem dX8_init_189 : decode cX8_init 189 = .ok (.bipush 8, 2) := by decide +kernel
theorem dX8_init_191 : decode cX8_init 191 = .ok (.newarray .boolean, 2) := by decide +kernel
theorem dX8_init_193 : decode cX8_init 193 = .ok (.putfield 80, 3) := by decide +kernel
theorem dX8_init_196 : decode cX8_init 196 = .ok (.aload_n 0, 1) := by decide +kernel
theorem dX8_init_197 : decode cX8_init 197 = .ok (.sipush 240, 3) := by decide +kernel
theorem dX8_init_200 : decode cX8_init 200 = .ok (.newarray .int, 2) := by decide +kernel
theorem dX8_init_202 : decode cX8_init 202 = .ok (.putfield 83, 3) := by decide +kernel
theorem dX8_init_205 : decode cX8_init 205 = .ok (.aload_n 0, 1) := by decide +kernel
theorem dX8_init_206 : decode cX8_init 206 = .ok (.iconst (-1), 1) := by decide +kernel
theorem dX8_init_207 : decode cX8_init 207 = .ok (.putfield 86, 3) := by decide +kernel
theorem dX8_init_210 : decode cX8_init 210 = .ok (.aload_n 0, 1) := by decide +kernel
theorem dX8_init_211 : decode cX8_init 211 = .ok (.sipush 289, 3) := by decide +kernel
theorem dX8_init_214 : decode cX8_init 214 = .ok (.newarray .long, 2) := by decide +kernel
theorem dX8_init_216 : decode cX8_init 216 = .ok (.putfield 90, 3) := by decide +kernel
theorem dX8_init_219 : decode cX8_init 219 = .ok (.aload_n 0, 1) := by decide +kernel
theorem dX8_init_220 : decode cX8_init 220 = .ok (.iconst (-1), 1) := by decide +kernel
theorem dX8_init_221 : decode cX8_init 221 = .ok (.putfield 94, 3) := by decide +kernel
theorem dX8_init_224 : decode cX8_init 224 = .ok (.aload_n 0, 1) := by decide +kernel
theorem dX8_init_225 : decode cX8_init 225 = .ok (.iconst (-1), 1) := by decide +kernel
theorem dX8_init_226 : decode cX8_init 226 = .ok (.putfield 97, 3) := by decide +kernel
theorem dX8_init_229 : decode cX8_init 229 = .ok (.aload_n 0, 1) := by decide +kernel
theorem dX8_init_230 : decode cX8_init 230 = .ok (.iconst (-1), 1) := by decide +kernel
theorem dX8_init_231 : decode cX8_init 231 = .ok (.putfield 100, 3) := by decide +kernel
theorem dX8_init_234 : decode cX8_init 234 = .ok (.aload_n 0, 1) := by decide +kernel
theorem dX8_init_235 : decode cX8_init 235 = .ok (.bipush 17, 2) := by decide +kernel
theorem dX8_init_237 : decode cX8_init 237 = .ok (.newarray .long, 2) := by decide +kernel
theorem dX8_init_239 : decode cX8_init 239 = .ok (.putfield 103, 3) := by decide +kernel
theorem dX8_init_242 : decode cX8_init 242 = .ok (.aload_n 0, 1) := by decide +kernel
theorem dX8_init_243 : decode cX8_init 243 = .ok (.bipush 17, 2) := by decide +kernel
theorem dX8_init_245 : decode cX8_init 245 = .ok (.newarray .int, 2) := by decide +kernel
theorem dX8_init_247 : decode cX8_init 247 = .ok (.putfield 106, 3) := by decide +kernel
theorem dX8_init_250 : decode cX8_init 250 = .ok (.aload_n 0, 1) := by decide +kernel
theorem dX8_init_251 : decode cX8_init 251 = .ok (.bipush 17, 2) := by decide +kernel
theorem dX8_init_253 : decode cX8_init 253 = .ok (.newarray .int, 2) := by decide +kernel
theorem dX8_init_255 : decode cX8_init 255 = .ok (.putfield 109, 3) := by decide +kernel
theorem dX8_init_258 : decode cX8_init 258 = .ok (.aload_n 0, 1) := by decide +kernel
theorem dX8_init_259 : decode cX8_init 259 = .ok (.bipush 34, 2) := by decide +kernel
theorem dX8_init_261 : decode cX8_init 261 = .ok (.newarray .int, 2) := by decide +kernel
theorem dX8_init_263 : decode cX8_init 263 = .ok (.putfield 112, 3) := by decide +kernel
theorem dX8_init_266 : decode cX8_init 266 = .ok (.aload_n 0, 1) := by decide +kernel
theorem dX8_init_267 : decode cX8_init 267 = .ok (.iconst 2, 1) := by decide +kernel
theorem dX8_init_268 : decode cX8_init 268 = .ok (.newarray .int, 2) := by decide +kernel
theorem dX8_init_270 : decode cX8_init 270 = .ok (.putfield 115, 3) := by decide +kernel
theorem dX8_init_273 : decode cX8_init 273 = .ok (.aload_n 0, 1) := by decide +kernel
theorem dX8_init_274 : decode cX8_init 274 = .ok (.bipush 10, 2) := by decide +kernel
theorem dX8_init_276 : decode cX8_init 276 = .ok (.newarray .int, 2) := by decide +kernel
theorem dX8_init_278 : decode cX8_init 278 = .ok (.putfield 118, 3) := by decide +kernel
theorem dX8_init_281 : decode cX8_init 281 = .ok (.aload_n 0, 1) := by decide +kernel
theorem dX8_init_282 : decode cX8_init 282 = .ok (.invokevirtual 121, 3) := by decide +kernel
theorem dX8_init_285 : decode cX8_init 285 = .ok (.iconst 0, 1) := by decide +kernel
theorem dX8_init_286 : decode cX8_init 286 = .ok (.istore_n 1, 1) := by decide +kernel
theorem dX8_init_287 : decode cX8_init 287 = .ok (.iload_n 1, 1) := by decide +kernel
theorem dX8_init_288 : decode cX8_init 288 = .ok (.bipush 10, 2) := by decide +kernel
theorem dX8_init_290 : decode cX8_init 290 = .ok (.if_icmp .ge 16, 3) := by decide +kernel
theorem dX8_init_293 : decode cX8_init 293 = .ok (.aload_n 0, 1) := by decide +kernel
theorem dX8_init_294 : decode cX8_init 294 = .ok (.getfield 50, 3) := by decide +kernel
theorem dX8_init_297 : decode cX8_init 297 = .ok (.iload_n 1, 1) := by decide +kernel
theorem dX8_init_298 : decode cX8_init 298 = .ok (.iconst (-1), 1) := by decide +kernel
theorem dX8_init_299 : decode cX8_init 299 = .ok (.iastore, 1) := by decide +kernel
theorem dX8_init_300 : decode cX8_init 300 = .ok (.iinc 1 1, 3) := by decide +kernel
theorem dX8_init_303 : decode cX8_init 303 = .ok (.goto (-16), 3) := by decide +kernel
theorem dX8_init_306 : decode cX8_init 306 = .ok (.return_, 1) := by decide +kernel
theorem dX8_in_0 : decode cX8_in 0 = .ok (.lload_n 0, 1) := by decide +kernel
theorem dX8_in_1 : decode cX8_in 1 = .ok (.lload_n 2, 1) := by decide +kernel
theorem dX8_in_2 : decode cX8_in 2 = .ok (.lcmp, 1) := by decide +kernel
theorem dX8_in_3 : decode cX8_in 3 = .ok (.ifCond .lt 14, 3) := by decide +kernel
theorem dX8_in_6 : decode cX8_in 6 = .ok (.lload_n 0, 1) := by decide +kernel
theorem dX8_in_7 : decode cX8_in 7 = .ok (.lload 4, 2) := by decide +kernel
theorem dX8_in_9 : decode cX8_in 9 = .ok (.lcmp, 1) := by decide +kernel
theorem dX8_in_10 : decode cX8_in 10 = .ok (.ifCond .gt 7, 3) := by decide +kernel
theorem dX8_in_13 : decode cX8_in 13 = .ok (.iconst 1, 1) := by decide +kernel
theorem dX8_in_14 : decode cX8_in 14 = .ok (.goto 4, 3) := by decide +kernel
theorem dX8_in_17 : decode cX8_in 17 = .ok (.iconst 0, 1) := by decide +kernel
theorem dX8_in_18 : decode cX8_in 18 = .ok (.ireturn, 1) := by decide +kernel
theorem dX8_one_0 : decode cX8_one 0 = .ok (.iload_n 0, 1) := by decide +kernel
theorem dX8_one_1 : decode cX8_one 1 = .ok (.ifCond .eq 7, 3) := by decide +kernel
theorem dX8_one_4 : decode cX8_one 4 = .ok (.iconst 1, 1) := by decide +kernel
theorem dX8_one_5 : decode cX8_one 5 = .ok (.goto 4, 3) := by decide +kernel
theorem dX8_one_8 : decode cX8_one 8 = .ok (.iconst 0, 1) := by decide +kernel
theorem dX8_one_9 : decode cX8_one 9 = .ok (.ireturn, 1) := by decide +kernel
theorem dX8_floor_0 : decode cX8_floor 0 = .ok (.lload_n 0, 1) := by decide +kernel
theorem dX8_floor_1 : decode cX8_floor 1 = .ok (.lconst 0, 1) := by decide +kernel
theorem dX8_floor_2 : decode cX8_floor 2 = .ok (.lcmp, 1) := by decide +kernel
theorem dX8_floor_3 : decode cX8_floor 3 = .ok (.ifCond .lt 9, 3) := by decide +kernel
theorem dX8_floor_6 : decode cX8_floor 6 = .ok (.lload_n 0, 1) := by decide +kernel
theorem dX8_floor_7 : decode cX8_floor 7 = .ok (.lload_n 2, 1) := by decide +kernel
theorem dX8_floor_8 : decode cX8_floor 8 = .ok (.ldiv, 1) := by decide +kernel
theorem dX8_floor_9 : decode cX8_floor 9 = .ok (.goto 12, 3) := by decide +kernel
theorem dX8_floor_12 : decode cX8_floor 12 = .ok (.lconst 0, 1) := by decide +kernel
theorem dX8_floor_13 : decode cX8_floor 13 = .ok (.lload_n 2, 1) := by decide +kernel
theorem dX8_floor_14 : decode cX8_floor 14 = .ok (.lconst 1, 1) := by decide +kernel
theorem dX8_floor_15 : decode cX8_floor 15 = .ok (.lsub, 1) := by decide +kernel
theorem dX8_floor_16 : decode cX8_floor 16 = .ok (.lload_n 0, 1) := by decide +kernel
theorem dX8_floor_17 : decode cX8_floor 17 = .ok (.lsub, 1) := by decide +kernel
theorem dX8_floor_18 : decode cX8_floor 18 = .ok (.lload_n 2, 1) := by decide +kernel
theorem dX8_floor_19 : decode cX8_floor 19 = .ok (.ldiv, 1) := by decide +kernel
theorem dX8_floor_20 : decode cX8_floor 20 = .ok (.lsub, 1) := by decide +kernel
theorem dX8_floor_21 : decode cX8_floor 21 = .ok (.lreturn, 1) := by decide +kernel
theorem dX8_ceiling_0 : decode cX8_ceiling 0 = .ok (.lconst 0, 1) := by decide +kernel
theorem dX8_ceiling_1 : decode cX8_ceiling 1 = .ok (.lconst 0, 1) := by decide +kernel
theorem dX8_ceiling_2 : decode cX8_ceiling 2 = .ok (.lload_n 0, 1) := by decide +kernel
theorem dX8_ceiling_3 : decode cX8_ceiling 3 = .ok (.lsub, 1) := by decide +kernel
theorem dX8_ceiling_4 : decode cX8_ceiling 4 = .ok (.lload_n 2, 1) := by decide +kernel
theorem dX8_ceiling_5 : decode cX8_ceiling 5 = .ok (.invokestatic 124, 3) := by decide +kernel
theorem dX8_ceiling_8 : decode cX8_ceiling 8 = .ok (.lsub, 1) := by decide +kernel
theorem dX8_ceiling_9 : decode cX8_ceiling 9 = .ok (.lreturn, 1) := by decide +kernel
theorem dX8_isSort_0 : decode cX8_isSort 0 = .ok (.iload_n 0, 1) := by decide +kernel
theorem dX8_isSort_1 : decode cX8_isSort 1 = .ok (.i2l, 1) := by decide +kernel
theorem dX8_isSort_2 : decode cX8_isSort 2 = .ok (.lconst 0, 1) := by decide +kernel
theorem dX8_isSort_3 : decode cX8_isSort 3 = .ok (.ldc2_w 128, 3) := by decide +kernel
theorem dX8_isSort_6 : decode cX8_isSort 6 = .ok (.invokestatic 130, 3) := by decide +kernel
theorem dX8_isSort_9 : decode cX8_isSort 9 = .ok (.ireturn, 1) := by decide +kernel
theorem dX8_isHome_0 : decode cX8_isHome 0 = .ok (.iload_n 0, 1) := by decide +kernel
theorem dX8_isHome_1 : decode cX8_isHome 1 = .ok (.i2l, 1) := by decide +kernel
theorem dX8_isHome_2 : decode cX8_isHome 2 = .ok (.lconst 0, 1) := by decide +kernel
theorem dX8_isHome_3 : decode cX8_isHome 3 = .ok (.ldc2_w 134, 3) := by decide +kernel
theorem dX8_isHome_6 : decode cX8_isHome 6 = .ok (.invokestatic 130, 3) := by decide +kernel
theorem dX8_isHome_9 : decode cX8_isHome 9 = .ok (.ireturn, 1) := by decide +kernel
theorem dX8_isList_0 : decode cX8_isList 0 = .ok (.iload_n 0, 1) := by decide +kernel
theorem dX8_isList_1 : decode cX8_isList 1 = .ok (.i2l, 1) := by decide +kernel
theorem dX8_isList_2 : decode cX8_isList 2 = .ok (.lconst 0, 1) := by decide +kernel
theorem dX8_isList_3 : decode cX8_isList 3 = .ok (.ldc2_w 128, 3) := by decide +kernel
theorem dX8_isList_6 : decode cX8_isList 6 = .ok (.invokestatic 130, 3) := by decide +kernel
theorem dX8_isList_9 : decode cX8_isList 9 = .ok (.ireturn, 1) := by decide +kernel
theorem dX8_add_0 : decode cX8_add 0 = .ok (.aload_n 0, 1) := by decide +kernel
theorem dX8_add_1 : decode cX8_add 1 = .ok (.getfield 136, 3) := by decide +kernel
theorem dX8_add_4 : decode cX8_add 4 = .ok (.bipush 80, 2) := by decide +kernel
theorem dX8_add_6 : decode cX8_add 6 = .ok (.if_icmp .ne 6, 3) := by decide +kernel
theorem dX8_add_9 : decode cX8_add 9 = .ok (.ldc 139, 2) := by decide +kernel
theorem dX8_add_11 : decode cX8_add 11 = .ok (.ireturn, 1) := by decide +kernel
theorem dX8_add_12 : decode cX8_add 12 = .ok (.aload_n 0, 1) := by decide +kernel
theorem dX8_add_13 : decode cX8_add 13 = .ok (.getfield 7, 3) := by decide +kernel
theorem dX8_add_16 : decode cX8_add 16 = .ok (.aload_n 0, 1) := by decide +kernel
theorem dX8_add_17 : decode cX8_add 17 = .ok (.getfield 136, 3) := by decide +kernel
theorem dX8_add_20 : decode cX8_add 20 = .ok (.iload_n 1, 1) := by decide +kernel
theorem dX8_add_21 : decode cX8_add 21 = .ok (.iastore, 1) := by decide +kernel
theorem dX8_add_22 : decode cX8_add 22 = .ok (.aload_n 0, 1) := by decide +kernel
theorem dX8_add_23 : decode cX8_add 23 = .ok (.getfield 13, 3) := by decide +kernel
theorem dX8_add_26 : decode cX8_add 26 = .ok (.aload_n 0, 1) := by decide +kernel
theorem dX8_add_27 : decode cX8_add 27 = .ok (.getfield 136, 3) := by decide +kernel
theorem dX8_add_30 : decode cX8_add 30 = .ok (.iload_n 2, 1) := by decide +kernel
theorem dX8_add_31 : decode cX8_add 31 = .ok (.iastore, 1) := by decide +kernel
theorem dX8_add_32 : decode cX8_add 32 = .ok (.aload_n 0, 1) := by decide +kernel
theorem dX8_add_33 : decode cX8_add 33 = .ok (.getfield 16, 3) := by decide +kernel
theorem dX8_add_36 : decode cX8_add 36 = .ok (.aload_n 0, 1) := by decide +kernel
theorem dX8_add_37 : decode cX8_add 37 = .ok (.getfield 136, 3) := by decide +kernel
theorem dX8_add_40 : decode cX8_add 40 = .ok (.iload_n 3, 1) := by decide +kernel
theorem dX8_add_41 : decode cX8_add 41 = .ok (.iastore, 1) := by decide +kernel
theorem dX8_add_42 : decode cX8_add 42 = .ok (.aload_n 0, 1) := by decide +kernel
theorem dX8_add_43 : decode cX8_add 43 = .ok (.getfield 19, 3) := by decide +kernel
theorem dX8_add_46 : decode cX8_add 46 = .ok (.aload_n 0, 1) := by decide +kernel
theorem dX8_add_47 : decode cX8_add 47 = .ok (.getfield 136, 3) := by decide +kernel
theorem dX8_add_50 : decode cX8_add 50 = .ok (.iload 4, 2) := by decide +kernel
theorem dX8_add_52 : decode cX8_add 52 = .ok (.iastore, 1) := by decide +kernel
theorem dX8_add_53 : decode cX8_add 53 = .ok (.aload_n 0, 1) := by decide +kernel
theorem dX8_add_54 : decode cX8_add 54 = .ok (.getfield 22, 3) := by decide +kernel
theorem dX8_add_57 : decode cX8_add 57 = .ok (.aload_n 0, 1) := by decide +kernel
theorem dX8_add_58 : decode cX8_add 58 = .ok (.getfield 136, 3) := by decide +kernel
theorem dX8_add_61 : decode cX8_add 61 = .ok (.iload 5, 2) := by decide +kernel
theorem dX8_add_63 : decode cX8_add 63 = .ok (.iastore, 1) := by decide +kernel
theorem dX8_add_64 : decode cX8_add 64 = .ok (.aload_n 0, 1) := by decide +kernel
theorem dX8_add_65 : decode cX8_add 65 = .ok (.getfield 25, 3) := by decide +kernel
theorem dX8_add_68 : decode cX8_add 68 = .ok (.aload_n 0, 1) := by decide +kernel
theorem dX8_add_69 : decode cX8_add 69 = .ok (.getfield 136, 3) := by decide +kernel
theorem dX8_add_72 : decode cX8_add 72 = .ok (.iload 6, 2) := by decide +kernel
theorem dX8_add_74 : decode cX8_add 74 = .ok (.iastore, 1) := by decide +kernel
theorem dX8_add_75 : decode cX8_add 75 = .ok (.aload_n 0, 1) := by decide +kernel
theorem dX8_add_76 : decode cX8_add 76 = .ok (.getfield 34, 3) := by decide +kernel
theorem dX8_add_79 : decode cX8_add 79 = .ok (.aload_n 0, 1) := by decide +kernel
theorem dX8_add_80 : decode cX8_add 80 = .ok (.getfield 136, 3) := by decide +kernel
theorem dX8_add_83 : decode cX8_add 83 = .ok (.iconst 0, 1) := by decide +kernel
theorem dX8_add_84 : decode cX8_add 84 = .ok (.bastore, 1) := by decide +kernel
theorem dX8_add_85 : decode cX8_add 85 = .ok (.aload_n 0, 1) := by decide +kernel
theorem dX8_add_86 : decode cX8_add 86 = .ok (.getfield 38, 3) := by decide +kernel
theorem dX8_add_89 : decode cX8_add 89 = .ok (.aload_n 0, 1) := by decide +kernel
theorem dX8_add_90 : decode cX8_add 90 = .ok (.getfield 136, 3) := by decide +kernel
theorem dX8_add_93 : decode cX8_add 93 = .ok (.iconst 0, 1) := by decide +kernel
theorem dX8_add_94 : decode cX8_add 94 = .ok (.bastore, 1) := by decide +kernel
theorem dX8_add_95 : decode cX8_add 95 = .ok (.aload_n 0, 1) := by decide +kernel
theorem dX8_add_96 : decode cX8_add 96 = .ok (.iconst 0, 1) := by decide +kernel
theorem dX8_add_97 : decode cX8_add 97 = .ok (.putfield 140, 3) := by decide +kernel
theorem dX8_add_100 : decode cX8_add 100 = .ok (.aload_n 0, 1) := by decide +kernel
theorem dX8_add_101 : decode cX8_add 101 = .ok (.dup, 1) := by decide +kernel
theorem dX8_add_102 : decode cX8_add 102 = .ok (.getfield 136, 3) := by decide +kernel
theorem dX8_add_105 : decode cX8_add 105 = .ok (.iconst 1, 1) := by decide +kernel
theorem dX8_add_106 : decode cX8_add 106 = .ok (.iadd, 1) := by decide +kernel
theorem dX8_add_107 : decode cX8_add 107 = .ok (.putfield 136, 3) := by decide +kernel
theorem dX8_add_110 : decode cX8_add 110 = .ok (.aload_n 0, 1) := by decide +kernel
theorem dX8_add_111 : decode cX8_add 111 = .ok (.getfield 136, 3) := by decide +kernel
theorem dX8_add_114 : decode cX8_add 114 = .ok (.iconst 1, 1) := by decide +kernel
theorem dX8_add_115 : decode cX8_add 115 = .ok (.isub, 1) := by decide +kernel
theorem dX8_add_116 : decode cX8_add 116 = .ok (.ireturn, 1) := by decide +kernel
theorem dX8_light_0 : decode cX8_light 0 = .ok (.iload_n 1, 1) := by decide +kernel
theorem dX8_light_1 : decode cX8_light 1 = .ok (.invokestatic 143, 3) := by decide +kernel
theorem dX8_light_4 : decode cX8_light 4 = .ok (.ifCond .eq 17, 3) := by decide +kernel
theorem dX8_light_7 : decode cX8_light 7 = .ok (.iload_n 2, 1) := by decide +kernel
theorem dX8_light_8 : decode cX8_light 8 = .ok (.invokestatic 147, 3) := by decide +kernel
theorem dX8_light_11 : decode cX8_light 11 = .ok (.ifCond .eq 10, 3) := by decide +kernel
theorem dX8_light_14 : decode cX8_light 14 = .ok (.iload_n 3, 1) := by decide +kernel
theorem dX8_light_15 : decode cX8_light 15 = .ok (.invokestatic 150, 3) := by decide +kernel
theorem dX8_light_18 : decode cX8_light 18 = .ok (.ifCond .ne 6, 3) := by decide +kernel
theorem dX8_light_21 : decode cX8_light 21 = .ok (.ldc 153, 2) := by decide +kernel
theorem dX8_light_23 : decode cX8_light 23 = .ok (.ireturn, 1) := by decide +kernel
theorem dX8_light_24 : decode cX8_light 24 = .ok (.iload 4, 2) := by decide +kernel
theorem dX8_light_26 : decode cX8_light 26 = .ok (.i2l, 1) := by decide +kernel
theorem dX8_light_27 : decode cX8_light 27 = .ok (.ldc2_w 154, 3) := by decide +kernel
theorem dX8_light_30 : decode cX8_light 30 = .ok (.ldc2_w 156, 3) := by decide +kernel
theorem dX8_light_33 : decode cX8_light 33 = .ok (.invokestatic 130, 3) := by decide +kernel
theorem dX8_light_36 : decode cX8_light 36 = .ok (.ifCond .eq 44, 3) := by decide +kernel
theorem dX8_light_39 : decode cX8_light 39 = .ok (.iload 5, 2) := by decide +kernel
theorem dX8_light_41 : decode cX8_light 41 = .ok (.i2l, 1) := by decide +kernel
theorem dX8_light_42 : decode cX8_light 42 = .ok (.lconst 0, 1) := by decide +kernel
theorem dX8_light_43 : decode cX8_light 43 = .ok (.ldc2_w 158, 3) := by decide +kernel
theorem dX8_light_46 : decode cX8_light 46 = .ok (.invokestatic 130, 3) := by decide +kernel
theorem dX8_light_49 : decode cX8_light 49 = .ok (.ifCond .eq 31, 3) := by decide +kernel
theorem dX8_light_52 : decode cX8_light 52 = .ok (.iload 6, 2) := by decide +kernel
theorem dX8_light_54 : decode cX8_light 54 = .ok (.i2l, 1) := by decide +kernel
theorem dX8_light_55 : decode cX8_light 55 = .ok (.lconst 0, 1) := by decide +kernel
theorem dX8_light_56 : decode cX8_light 56 = .ok (.ldc2_w 160, 3) := by decide +kernel
theorem dX8_light_59 : decode cX8_light 59 = .ok (.invokestatic 130, 3) := by decide +kernel
theorem dX8_light_62 : decode cX8_light 62 = .ok (.ifCond .eq 18, 3) := by decide +kernel
theorem dX8_light_65 : decode cX8_light 65 = .ok (.iload 7, 2) := by decide +kernel
theorem dX8_light_67 : decode cX8_light 67 = .ok (.i2l, 1) := by decide +kernel
theorem dX8_light_68 : decode cX8_light 68 = .ok (.ldc2_w 162, 3) := by decide +kernel
theorem dX8_light_71 : decode cX8_light 71 = .ok (.ldc2_w 160, 3) := by decide +kernel
theorem dX8_light_74 : decode cX8_light 74 = .ok (.invokestatic 130, 3) := by decide +kernel
theorem dX8_light_77 : decode cX8_light 77 = .ok (.ifCond .ne 6, 3) := by decide +kernel
theorem dX8_light_80 : decode cX8_light 80 = .ok (.ldc 164, 2) := by decide +kernel
theorem dX8_light_82 : decode cX8_light 82 = .ok (.ireturn, 1) := by decide +kernel
theorem dX8_light_83 : decode cX8_light 83 = .ok (.aload_n 0, 1) := by decide +kernel
theorem dX8_light_84 : decode cX8_light 84 = .ok (.iconst 0, 1) := by decide +kernel
theorem dX8_light_85 : decode cX8_light 85 = .ok (.iload_n 1, 1) := by decide +kernel
theorem dX8_light_86 : decode cX8_light 86 = .ok (.iload_n 2, 1) := by decide +kernel
theorem dX8_light_87 : decode cX8_light 87 = .ok (.iload_n 3, 1) := by decide +kernel
theorem dX8_light_88 : decode cX8_light 88 = .ok (.iload 4, 2) := by decide +kernel
theorem dX8_light_90 : decode cX8_light 90 = .ok (.iload 5, 2) := by decide +kernel
theorem dX8_light_92 : decode cX8_light 92 = .ok (.invokevirtual 165, 3) := by decide +kernel
theorem dX8_light_95 : decode cX8_light 95 = .ok (.istore 8, 2) := by decide +kernel
theorem dX8_light_97 : decode cX8_light 97 = .ok (.iload 8, 2) := by decide +kernel
theorem dX8_light_99 : decode cX8_light 99 = .ok (.ifCond .lt 21, 3) := by decide +kernel
theorem dX8_light_102 : decode cX8_light 102 = .ok (.aload_n 0, 1) := by decide +kernel
theorem dX8_light_103 : decode cX8_light 103 = .ok (.getfield 28, 3) := by decide +kernel
theorem dX8_light_106 : decode cX8_light 106 = .ok (.iload 8, 2) := by decide +kernel
theorem dX8_light_108 : decode cX8_light 108 = .ok (.iload 6, 2) := by decide +kernel
theorem dX8_light_110 : decode cX8_light 110 = .ok (.iastore, 1) := by decide +kernel
theorem dX8_light_111 : decode cX8_light 111 = .ok (.aload_n 0, 1) := by decide +kernel
theorem dX8_light_112 : decode cX8_light 112 = .ok (.getfield 31, 3) := by decide +kernel
theorem dX8_light_115 : decode cX8_light 115 = .ok (.iload 8, 2) := by decide +kernel
theorem dX8_light_117 : decode cX8_light 117 = .ok (.iload 7, 2) := by decide +kernel
theorem dX8_light_119 : decode cX8_light 119 = .ok (.iastore, 1) := by decide +kernel
theorem dX8_light_120 : decode cX8_light 120 = .ok (.iload 8, 2) := by decide +kernel
theorem dX8_light_122 : decode cX8_light 122 = .ok (.ireturn, 1) := by decide +kernel
theorem dX8_isSpan_0 : decode cX8_isSpan 0 = .ok (.iload_n 0, 1) := by decide +kernel
theorem dX8_isSpan_1 : decode cX8_isSpan 1 = .ok (.i2l, 1) := by decide +kernel
theorem dX8_isSpan_2 : decode cX8_isSpan 2 = .ok (.ldc2_w 169, 3) := by decide +kernel
theorem dX8_isSpan_5 : decode cX8_isSpan 5 = .ok (.ldc2_w 171, 3) := by decide +kernel
theorem dX8_isSpan_8 : decode cX8_isSpan 8 = .ok (.invokestatic 130, 3) := by decide +kernel
theorem dX8_isSpan_11 : decode cX8_isSpan 11 = .ok (.ifCond .eq 20, 3) := by decide +kernel
theorem dX8_isSpan_14 : decode cX8_isSpan 14 = .ok (.iload_n 1, 1) := by decide +kernel
theorem dX8_isSpan_15 : decode cX8_isSpan 15 = .ok (.i2l, 1) := by decide +kernel
theorem dX8_isSpan_16 : decode cX8_isSpan 16 = .ok (.iload_n 0, 1) := by decide +kernel
theorem dX8_isSpan_17 : decode cX8_isSpan 17 = .ok (.i2l, 1) := by decide +kernel
theorem dX8_isSpan_18 : decode cX8_isSpan 18 = .ok (.ldc2_w 171, 3) := by decide +kernel
theorem dX8_isSpan_21 : decode cX8_isSpan 21 = .ok (.invokestatic 130, 3) := by decide +kernel
theorem dX8_isSpan_24 : decode cX8_isSpan 24 = .ok (.ifCond .eq 7, 3) := by decide +kernel
theorem dX8_isSpan_27 : decode cX8_isSpan 27 = .ok (.iconst 1, 1) := by decide +kernel
theorem dX8_isSpan_28 : decode cX8_isSpan 28 = .ok (.goto 4, 3) := by decide +kernel
theorem dX8_isSpan_31 : decode cX8_isSpan 31 = .ok (.iconst 0, 1) := by decide +kernel
theorem dX8_isSpan_32 : decode cX8_isSpan 32 = .ok (.ireturn, 1) := by decide +kernel
theorem dX8_shift_0 : decode cX8_shift 0 = .ok (.iload_n 1, 1) := by decide +kernel
theorem dX8_shift_1 : decode cX8_shift 1 = .ok (.invokestatic 143, 3) := by decide +kernel
theorem dX8_shift_4 : decode cX8_shift 4 = .ok (.ifCond .eq 10, 3) := by decide +kernel
theorem dX8_shift_7 : decode cX8_shift 7 = .ok (.iload_n 2, 1) := by decide +kernel
theorem dX8_shift_8 : decode cX8_shift 8 = .ok (.invokestatic 150, 3) := by decide +kernel
theorem dX8_shift_11 : decode cX8_shift 11 = .ok (.ifCond .ne 6, 3) := by decide +kernel
theorem dX8_shift_14 : decode cX8_shift 14 = .ok (.ldc 153, 2) := by decide +kernel
theorem dX8_shift_16 : decode cX8_shift 16 = .ok (.ireturn, 1) := by decide +kernel
theorem dX8_shift_17 : decode cX8_shift 17 = .ok (.iload_n 3, 1) := by decide +kernel
theorem dX8_shift_18 : decode cX8_shift 18 = .ok (.iload 4, 2) := by decide +kernel
theorem dX8_shift_20 : decode cX8_shift 20 = .ok (.invokestatic 173, 3) := by decide +kernel
theorem dX8_shift_23 : decode cX8_shift 23 = .ok (.ifCond .eq 17, 3) := by decide +kernel
theorem dX8_shift_26 : decode cX8_shift 26 = .ok (.aload_n 0, 1) := by decide +kernel
theorem dX8_shift_27 : decode cX8_shift 27 = .ok (.iconst 1, 1) := by decide +kernel
theorem dX8_shift_28 : decode cX8_shift 28 = .ok (.iload_n 1, 1) := by decide +kernel
theorem dX8_shift_29 : decode cX8_shift 29 = .ok (.iconst (-1), 1) := by decide +kernel
theorem dX8_shift_30 : decode cX8_shift 30 = .ok (.iload_n 2, 1) := by decide +kernel
theorem dX8_shift_31 : decode cX8_shift 31 = .ok (.iload_n 3, 1) := by decide +kernel
theorem dX8_shift_32 : decode cX8_shift 32 = .ok (.iload 4, 2) := by decide +kernel
theorem dX8_shift_34 : decode cX8_shift 34 = .ok (.invokevirtual 165, 3) := by decide +kernel
theorem dX8_shift_37 : decode cX8_shift 37 = .ok (.goto 5, 3) := by decide +kernel
theorem dX8_shift_40 : decode cX8_shift 40 = .ok (.ldc 164, 2) := by decide +kernel
theorem dX8_shift_42 : decode cX8_shift 42 = .ok (.ireturn, 1) := by decide +kernel
theorem dX8_anchor_0 : decode cX8_anchor 0 = .ok (.iload_n 1, 1) := by decide +kernel
theorem dX8_anchor_1 : decode cX8_anchor 1 = .ok (.invokestatic 143, 3) := by decide +kernel
theorem dX8_anchor_4 : decode cX8_anchor 4 = .ok (.ifCond .eq 10, 3) := by decide +kernel
theorem dX8_anchor_7 : decode cX8_anchor 7 = .ok (.iload_n 2, 1) := by decide +kernel
theorem dX8_anchor_8 : decode cX8_anchor 8 = .ok (.invokestatic 147, 3) := by decide +kernel
theorem dX8_anchor_11 : decode cX8_anchor 11 = .ok (.ifCond .ne 6, 3) := by decide +kernel
theorem dX8_anchor_14 : decode cX8_anchor 14 = .ok (.ldc 153, 2) := by decide +kernel
theorem dX8_anchor_16 : decode cX8_anchor 16 = .ok (.ireturn, 1) := by decide +kernel
theorem dX8_anchor_17 : decode cX8_anchor 17 = .ok (.iload_n 3, 1) := by decide +kernel
theorem dX8_anchor_18 : decode cX8_anchor 18 = .ok (.iload 4, 2) := by decide +kernel
theorem dX8_anchor_20 : decode cX8_anchor 20 = .ok (.invokestatic 173, 3) := by decide +kernel
theorem dX8_anchor_23 : decode cX8_anchor 23 = .ok (.ifCond .eq 17, 3) := by decide +kernel
theorem dX8_anchor_26 : decode cX8_anchor 26 = .ok (.aload_n 0, 1) := by decide +kernel
theorem dX8_anchor_27 : decode cX8_anchor 27 = .ok (.iconst 2, 1) := by decide +kernel
theorem dX8_anchor_28 : decode cX8_anchor 28 = .ok (.iload_n 1, 1) := by decide +kernel
theorem dX8_anchor_29 : decode cX8_anchor 29 = .ok (.iload_n 2, 1) := by decide +kernel
theorem dX8_anchor_30 : decode cX8_anchor 30 = .ok (.iconst (-1), 1) := by decide +kernel
theorem dX8_anchor_31 : decode cX8_anchor 31 = .ok (.iload_n 3, 1) := by decide +kernel
theorem dX8_anchor_32 : decode cX8_anchor 32 = .ok (.iload 4, 2) := by decide +kernel
theorem dX8_anchor_34 : decode cX8_anchor 34 = .ok (.invokevirtual 165, 3) := by decide +kernel
theorem dX8_anchor_37 : decode cX8_anchor 37 = .ok (.goto 5, 3) := by decide +kernel
theorem dX8_anchor_40 : decode cX8_anchor 40 = .ok (.ldc 164, 2) := by decide +kernel
theorem dX8_anchor_42 : decode cX8_anchor 42 = .ok (.ireturn, 1) := by decide +kernel
theorem dX8_redden_0 : decode cX8_redden 0 = .ok (.iload_n 1, 1) := by decide +kernel
theorem dX8_redden_1 : decode cX8_redden 1 = .ok (.invokestatic 150, 3) := by decide +kernel
theorem dX8_redden_4 : decode cX8_redden 4 = .ok (.ifCond .ne 6, 3) := by decide +kernel
theorem dX8_redden_7 : decode cX8_redden 7 = .ok (.ldc 153, 2) := by decide +kernel
theorem dX8_redden_9 : decode cX8_redden 9 = .ok (.ireturn, 1) := by decide +kernel
theorem dX8_redden_10 : decode cX8_redden 10 = .ok (.iload_n 2, 1) := by decide +kernel
theorem dX8_redden_11 : decode cX8_redden 11 = .ok (.i2l, 1) := by decide +kernel
theorem dX8_redden_12 : decode cX8_redden 12 = .ok (.lconst 0, 1) := by decide +kernel
theorem dX8_redden_13 : decode cX8_redden 13 = .ok (.iload_n 3, 1) := by decide +kernel
theorem dX8_redden_14 : decode cX8_redden 14 = .ok (.i2l, 1) := by decide +kernel
theorem dX8_redden_15 : decode cX8_redden 15 = .ok (.invokestatic 130, 3) := by decide +kernel
theorem dX8_redden_18 : decode cX8_redden 18 = .ok (.ifCond .eq 10, 3) := by decide +kernel
theorem dX8_redden_21 : decode cX8_redden 21 = .ok (.iload_n 3, 1) := by decide +kernel
theorem dX8_redden_22 : decode cX8_redden 22 = .ok (.sipush 2000, 3) := by decide +kernel
theorem dX8_redden_25 : decode cX8_redden 25 = .ok (.if_icmp .le 6, 3) := by decide +kernel
theorem dX8_redden_28 : decode cX8_redden 28 = .ok (.ldc 164, 2) := by decide +kernel
theorem dX8_redden_30 : decode cX8_redden 30 = .ok (.ireturn, 1) := by decide +kernel
theorem dX8_redden_31 : decode cX8_redden 31 = .ok (.aload_n 0, 1) := by decide +kernel
theorem dX8_redden_32 : decode cX8_redden 32 = .ok (.getfield 44, 3) := by decide +kernel
theorem dX8_redden_35 : decode cX8_redden 35 = .ok (.iload_n 1, 1) := by decide +kernel
theorem dX8_redden_36 : decode cX8_redden 36 = .ok (.iload_n 2, 1) := by decide +kernel
theorem dX8_redden_37 : decode cX8_redden 37 = .ok (.iastore, 1) := by decide +kernel
theorem dX8_redden_38 : decode cX8_redden 38 = .ok (.aload_n 0, 1) := by decide +kernel
theorem dX8_redden_39 : decode cX8_redden 39 = .ok (.getfield 47, 3) := by decide +kernel
theorem dX8_redden_42 : decode cX8_redden 42 = .ok (.iload_n 1, 1) := by decide +kernel
theorem dX8_redden_43 : decode cX8_redden 43 = .ok (.iload_n 3, 1) := by decide +kernel
theorem dX8_redden_44 : decode cX8_redden 44 = .ok (.iastore, 1) := by decide +kernel
theorem dX8_redden_45 : decode cX8_redden 45 = .ok (.iconst 1, 1) := by decide +kernel
theorem dX8_redden_46 : decode cX8_redden 46 = .ok (.ireturn, 1) := by decide +kernel
theorem dX8_redness_0 : decode cX8_redness 0 = .ok (.iload_n 1, 1) := by decide +kernel
theorem dX8_redness_1 : decode cX8_redness 1 = .ok (.invokestatic 150, 3) := by decide +kernel
theorem dX8_redness_4 : decode cX8_redness 4 = .ok (.ifCond .ne 6, 3) := by decide +kernel
theorem dX8_redness_7 : decode cX8_redness 7 = .ok (.ldc 153, 2) := by decide +kernel
theorem dX8_redness_9 : decode cX8_redness 9 = .ok (.ireturn, 1) := by decide +kernel
theorem dX8_redness_10 : decode cX8_redness 10 = .ok (.iload_n 2, 1) := by decide +kernel
theorem dX8_redness_11 : decode cX8_redness 11 = .ok (.i2l, 1) := by decide +kernel
theorem dX8_redness_12 : decode cX8_redness 12 = .ok (.ldc2_w 177, 3) := by decide +kernel
theorem dX8_redness_15 : decode cX8_redness 15 = .ok (.ldc2_w 179, 3) := by decide +kernel
theorem dX8_redness_18 : decode cX8_redness 18 = .ok (.invokestatic 130, 3) := by decide +kernel
theorem dX8_redness_21 : decode cX8_redness 21 = .ok (.ifCond .ne 6, 3) := by decide +kernel
theorem dX8_redness_24 : decode cX8_redness 24 = .ok (.ldc 164, 2) := by decide +kernel
theorem dX8_redness_26 : decode cX8_redness 26 = .ok (.ireturn, 1) := by decide +kernel
theorem dX8_redness_27 : decode cX8_redness 27 = .ok (.aload_n 0, 1) := by decide +kernel
theorem dX8_redness_28 : decode cX8_redness 28 = .ok (.getfield 50, 3) := by decide +kernel
theorem dX8_redness_31 : decode cX8_redness 31 = .ok (.iload_n 1, 1) := by decide +kernel
theorem dX8_redness_32 : decode cX8_redness 32 = .ok (.iaload, 1) := by decide +kernel
theorem dX8_redness_33 : decode cX8_redness 33 = .ok (.istore_n 3, 1) := by decide +kernel
theorem dX8_redness_34 : decode cX8_redness 34 = .ok (.aload_n 0, 1) := by decide +kernel
theorem dX8_redness_35 : decode cX8_redness 35 = .ok (.getfield 50, 3) := by decide +kernel
theorem dX8_redness_38 : decode cX8_redness 38 = .ok (.iload_n 1, 1) := by decide +kernel
theorem dX8_redness_39 : decode cX8_redness 39 = .ok (.iload_n 2, 1) := by decide +kernel
theorem dX8_redness_40 : decode cX8_redness 40 = .ok (.iastore, 1) := by decide +kernel
theorem dX8_redness_41 : decode cX8_redness 41 = .ok (.iload_n 3, 1) := by decide +kernel
theorem dX8_redness_42 : decode cX8_redness 42 = .ok (.ireturn, 1) := by decide +kernel
theorem dX8_noTelling_0 : decode cX8_noTelling 0 = .ok (.iload_n 1, 1) := by decide +kernel
theorem dX8_noTelling_1 : decode cX8_noTelling 1 = .ok (.i2l, 1) := by decide +kernel
theorem dX8_noTelling_2 : decode cX8_noTelling 2 = .ok (.lconst 0, 1) := by decide +kernel
theorem dX8_noTelling_3 : decode cX8_noTelling 3 = .ok (.aload_n 0, 1) := by decide +kernel
theorem dX8_noTelling_4 : decode cX8_noTelling 4 = .ok (.getfield 136, 3) := by decide +kernel
theorem dX8_noTelling_7 : decode cX8_noTelling 7 = .ok (.iconst 1, 1) := by decide +kernel
theorem dX8_noTelling_8 : decode cX8_noTelling 8 = .ok (.isub, 1) := by decide +kernel
theorem dX8_noTelling_9 : decode cX8_noTelling 9 = .ok (.i2l, 1) := by decide +kernel
theorem dX8_noTelling_10 : decode cX8_noTelling 10 = .ok (.invokestatic 130, 3) := by decide +kernel
theorem dX8_noTelling_13 : decode cX8_noTelling 13 = .ok (.ifCond .ne 7, 3) := by decide +kernel
theorem dX8_noTelling_16 : decode cX8_noTelling 16 = .ok (.iconst 1, 1) := by decide +kernel
theorem dX8_noTelling_17 : decode cX8_noTelling 17 = .ok (.goto 4, 3) := by decide +kernel
theorem dX8_noTelling_20 : decode cX8_noTelling 20 = .ok (.iconst 0, 1) := by decide +kernel
theorem dX8_noTelling_21 : decode cX8_noTelling 21 = .ok (.ireturn, 1) := by decide +kernel
theorem dX8_leave_0 : decode cX8_leave 0 = .ok (.aload_n 0, 1) := by decide +kernel
theorem dX8_leave_1 : decode cX8_leave 1 = .ok (.iload_n 1, 1) := by decide +kernel
theorem dX8_leave_2 : decode cX8_leave 2 = .ok (.invokevirtual 181, 3) := by decide +kernel
theorem dX8_leave_5 : decode cX8_leave 5 = .ok (.ifCond .eq 6, 3) := by decide +kernel
theorem dX8_leave_8 : decode cX8_leave 8 = .ok (.ldc 153, 2) := by decide +kernel
theorem dX8_leave_10 : decode cX8_leave 10 = .ok (.ireturn, 1) := by decide +kernel
theorem dX8_leave_11 : decode cX8_leave 11 = .ok (.aload_n 0, 1) := by decide +kernel
theorem dX8_leave_12 : decode cX8_leave 12 = .ok (.getfield 34, 3) := by decide +kernel
theorem dX8_leave_15 : decode cX8_leave 15 = .ok (.iload_n 1, 1) := by decide +kernel
theorem dX8_leave_16 : decode cX8_leave 16 = .ok (.baload, 1) := by decide +kernel
theorem dX8_leave_17 : decode cX8_leave 17 = .ok (.invokestatic 184, 3) := by decide +kernel
theorem dX8_leave_20 : decode cX8_leave 20 = .ok (.istore_n 3, 1) := by decide +kernel
theorem dX8_leave_21 : decode cX8_leave 21 = .ok (.aload_n 0, 1) := by decide +kernel
theorem dX8_leave_22 : decode cX8_leave 22 = .ok (.getfield 34, 3) := by decide +kernel
theorem dX8_leave_25 : decode cX8_leave 25 = .ok (.iload_n 1, 1) := by decide +kernel
theorem dX8_leave_26 : decode cX8_leave 26 = .ok (.iload_n 2, 1) := by decide +kernel
theorem dX8_leave_27 : decode cX8_leave 27 = .ok (.bastore, 1) := by decide +kernel
theorem dX8_leave_28 : decode cX8_leave 28 = .ok (.iload_n 3, 1) := by decide +kernel
theorem dX8_leave_29 : decode cX8_leave 29 = .ok (.ireturn, 1) := by decide +kernel
theorem dX8_undo_0 : decode cX8_undo 0 = .ok (.aload_n 0, 1) := by decide +kernel
theorem dX8_undo_1 : decode cX8_undo 1 = .ok (.getfield 136, 3) := by decide +kernel
theorem dX8_undo_4 : decode cX8_undo 4 = .ok (.iconst 1, 1) := by decide +kernel
theorem dX8_undo_5 : decode cX8_undo 5 = .ok (.isub, 1) := by decide +kernel
theorem dX8_undo_6 : decode cX8_undo 6 = .ok (.istore_n 1, 1) := by decide +kernel
theorem dX8_undo_7 : decode cX8_undo 7 = .ok (.iload_n 1, 1) := by decide +kernel
theorem dX8_undo_8 : decode cX8_undo 8 = .ok (.ifCond .lt 18, 3) := by decide +kernel
theorem dX8_undo_11 : decode cX8_undo 11 = .ok (.aload_n 0, 1) := by decide +kernel
theorem dX8_undo_12 : decode cX8_undo 12 = .ok (.getfield 38, 3) := by decide +kernel
theorem dX8_undo_15 : decode cX8_undo 15 = .ok (.iload_n 1, 1) := by decide +kernel
theorem dX8_undo_16 : decode cX8_undo 16 = .ok (.baload, 1) := by decide +kernel
theorem dX8_undo_17 : decode cX8_undo 17 = .ok (.ifCond .eq 9, 3) := by decide +kernel
theorem dX8_undo_20 : decode cX8_undo 20 = .ok (.iinc 1 (-1), 3) := by decide +kernel
theorem dX8_undo_23 : decode cX8_undo 23 = .ok (.goto (-16), 3) := by decide +kernel
theorem dX8_undo_26 : decode cX8_undo 26 = .ok (.iload_n 1, 1) := by decide +kernel
theorem dX8_undo_27 : decode cX8_undo 27 = .ok (.ifCond .ge 6, 3) := by decide +kernel
theorem dX8_undo_30 : decode cX8_undo 30 = .ok (.ldc 188, 2) := by decide +kernel
theorem dX8_undo_32 : decode cX8_undo 32 = .ok (.ireturn, 1) := by decide +kernel
theorem dX8_undo_33 : decode cX8_undo 33 = .ok (.aload_n 0, 1) := by decide +kernel
theorem dX8_undo_34 : decode cX8_undo 34 = .ok (.getfield 38, 3) := by decide +kernel
theorem dX8_undo_37 : decode cX8_undo 37 = .ok (.iload_n 1, 1) := by decide +kernel
theorem dX8_undo_38 : decode cX8_undo 38 = .ok (.iconst 1, 1) := by decide +kernel
theorem dX8_undo_39 : decode cX8_undo 39 = .ok (.bastore, 1) := by decide +kernel
theorem dX8_undo_40 : decode cX8_undo 40 = .ok (.aload_n 0, 1) := by decide +kernel
theorem dX8_undo_41 : decode cX8_undo 41 = .ok (.getfield 41, 3) := by decide +kernel
theorem dX8_undo_44 : decode cX8_undo 44 = .ok (.aload_n 0, 1) := by decide +kernel
theorem dX8_undo_45 : decode cX8_undo 45 = .ok (.getfield 140, 3) := by decide +kernel
theorem dX8_undo_48 : decode cX8_undo 48 = .ok (.iload_n 1, 1) := by decide +kernel
theorem dX8_undo_49 : decode cX8_undo 49 = .ok (.iastore, 1) := by decide +kernel
theorem dX8_undo_50 : decode cX8_undo 50 = .ok (.aload_n 0, 1) := by decide +kernel
theorem dX8_undo_51 : decode cX8_undo 51 = .ok (.dup, 1) := by decide +kernel
theorem dX8_undo_52 : decode cX8_undo 52 = .ok (.getfield 140, 3) := by decide +kernel
theorem dX8_undo_55 : decode cX8_undo 55 = .ok (.iconst 1, 1) := by decide +kernel
theorem dX8_undo_56 : decode cX8_undo 56 = .ok (.iadd, 1) := by decide +kernel
theorem dX8_undo_57 : decode cX8_undo 57 = .ok (.putfield 140, 3) := by decide +kernel
theorem dX8_undo_60 : decode cX8_undo 60 = .ok (.iload_n 1, 1) := by decide +kernel
theorem dX8_undo_61 : decode cX8_undo 61 = .ok (.ireturn, 1) := by decide +kernel
theorem dX8_redo_0 : decode cX8_redo 0 = .ok (.aload_n 0, 1) := by decide +kernel
theorem dX8_redo_1 : decode cX8_redo 1 = .ok (.getfield 140, 3) := by decide +kernel
theorem dX8_redo_4 : decode cX8_redo 4 = .ok (.ifCond .ne 6, 3) := by decide +kernel
theorem dX8_redo_7 : decode cX8_redo 7 = .ok (.ldc 188, 2) := by decide +kernel
theorem dX8_redo_9 : decode cX8_redo 9 = .ok (.ireturn, 1) := by decide +kernel
theorem dX8_redo_10 : decode cX8_redo 10 = .ok (.aload_n 0, 1) := by decide +kernel
theorem dX8_redo_11 : decode cX8_redo 11 = .ok (.dup, 1) := by decide +kernel
theorem dX8_redo_12 : decode cX8_redo 12 = .ok (.getfield 140, 3) := by decide +kernel
theorem dX8_redo_15 : decode cX8_redo 15 = .ok (.iconst 1, 1) := by decide +kernel
theorem dX8_redo_16 : decode cX8_redo 16 = .ok (.isub, 1) := by decide +kernel
theorem dX8_redo_17 : decode cX8_redo 17 = .ok (.putfield 140, 3) := by decide +kernel
theorem dX8_redo_20 : decode cX8_redo 20 = .ok (.aload_n 0, 1) := by decide +kernel
theorem dX8_redo_21 : decode cX8_redo 21 = .ok (.getfield 38, 3) := by decide +kernel
theorem dX8_redo_24 : decode cX8_redo 24 = .ok (.aload_n 0, 1) := by decide +kernel
theorem dX8_redo_25 : decode cX8_redo 25 = .ok (.getfield 41, 3) := by decide +kernel
theorem dX8_redo_28 : decode cX8_redo 28 = .ok (.aload_n 0, 1) := by decide +kernel
theorem dX8_redo_29 : decode cX8_redo 29 = .ok (.getfield 140, 3) := by decide +kernel
theorem dX8_redo_32 : decode cX8_redo 32 = .ok (.iaload, 1) := by decide +kernel
theorem dX8_redo_33 : decode cX8_redo 33 = .ok (.iconst 0, 1) := by decide +kernel
theorem dX8_redo_34 : decode cX8_redo 34 = .ok (.bastore, 1) := by decide +kernel
theorem dX8_redo_35 : decode cX8_redo 35 = .ok (.aload_n 0, 1) := by decide +kernel
theorem dX8_redo_36 : decode cX8_redo 36 = .ok (.getfield 41, 3) := by decide +kernel
theorem dX8_redo_39 : decode cX8_redo 39 = .ok (.aload_n 0, 1) := by decide +kernel
theorem dX8_redo_40 : decode cX8_redo 40 = .ok (.getfield 140, 3) := by decide +kernel
theorem dX8_redo_43 : decode cX8_redo 43 = .ok (.iaload, 1) := by decide +kernel
theorem dX8_redo_44 : decode cX8_redo 44 = .ok (.ireturn, 1) := by decide +kernel
theorem dX8_clearRules_0 : decode cX8_clearRules 0 = .ok (.aload_n 0, 1) := by decide +kernel
theorem dX8_clearRules_1 : decode cX8_clearRules 1 = .ok (.bipush 31, 2) := by decide +kernel
theorem dX8_clearRules_3 : decode cX8_clearRules 3 = .ok (.putfield 189, 3) := by decide +kernel
theorem dX8_clearRules_6 : decode cX8_clearRules 6 = .ok (.aload_n 0, 1) := by decide +kernel
theorem dX8_clearRules_7 : decode cX8_clearRules 7 = .ok (.bipush 31, 2) := by decide +kernel
theorem dX8_clearRules_9 : decode cX8_clearRules 9 = .ok (.putfield 192, 3) := by decide +kernel
theorem dX8_clearRules_12 : decode cX8_clearRules 12 = .ok (.return_, 1) := by decide +kernel
theorem dX8_feed_0 : decode cX8_feed 0 = .ok (.iload_n 1, 1) := by decide +kernel
theorem dX8_feed_1 : decode cX8_feed 1 = .ok (.i2l, 1) := by decide +kernel
theorem dX8_feed_2 : decode cX8_feed 2 = .ok (.lconst 1, 1) := by decide +kernel
theorem dX8_feed_3 : decode cX8_feed 3 = .ok (.ldc2_w 195, 3) := by decide +kernel
theorem dX8_feed_6 : decode cX8_feed 6 = .ok (.invokestatic 130, 3) := by decide +kernel
theorem dX8_feed_9 : decode cX8_feed 9 = .ok (.ifCond .ne 6, 3) := by decide +kernel
theorem dX8_feed_12 : decode cX8_feed 12 = .ok (.ldc 164, 2) := by decide +kernel
theorem dX8_feed_14 : decode cX8_feed 14 = .ok (.ireturn, 1) := by decide +kernel
theorem dX8_feed_15 : decode cX8_feed 15 = .ok (.aload_n 0, 1) := by decide +kernel
theorem dX8_feed_16 : decode cX8_feed 16 = .ok (.getfield 197, 3) := by decide +kernel
theorem dX8_feed_19 : decode cX8_feed 19 = .ok (.iload_n 1, 1) := by decide +kernel
theorem dX8_feed_20 : decode cX8_feed 20 = .ok (.iadd, 1) := by decide +kernel
theorem dX8_feed_21 : decode cX8_feed 21 = .ok (.sipush 240, 3) := by decide +kernel
theorem dX8_feed_24 : decode cX8_feed 24 = .ok (.if_icmp .le 6, 3) := by decide +kernel
theorem dX8_feed_27 : decode cX8_feed 27 = .ok (.ldc 139, 2) := by decide +kernel
theorem dX8_feed_29 : decode cX8_feed 29 = .ok (.ireturn, 1) := by decide +kernel
theorem dX8_feed_30 : decode cX8_feed 30 = .ok (.iload_n 1, 1) := by decide +kernel
theorem dX8_feed_31 : decode cX8_feed 31 = .ok (.iconst 1, 1) := by decide +kernel
theorem dX8_feed_32 : decode cX8_feed 32 = .ok (.isub, 1) := by decide +kernel
theorem dX8_feed_33 : decode cX8_feed 33 = .ok (.istore 4, 2) := by decide +kernel
theorem dX8_feed_35 : decode cX8_feed 35 = .ok (.iload 4, 2) := by decide +kernel
theorem dX8_feed_37 : decode cX8_feed 37 = .ok (.ifCond .lt 40, 3) := by decide +kernel
theorem dX8_feed_40 : decode cX8_feed 40 = .ok (.aload_n 0, 1) := by decide +kernel
theorem dX8_feed_41 : decode cX8_feed 41 = .ok (.getfield 83, 3) := by decide +kernel
theorem dX8_feed_44 : decode cX8_feed 44 = .ok (.aload_n 0, 1) := by decide +kernel
theorem dX8_feed_45 : decode cX8_feed 45 = .ok (.getfield 197, 3) := by decide +kernel
theorem dX8_feed_48 : decode cX8_feed 48 = .ok (.lload_n 2, 1) := by decide +kernel
theorem dX8_feed_49 : decode cX8_feed 49 = .ok (.bipush 8, 2) := by decide +kernel
theorem dX8_feed_51 : decode cX8_feed 51 = .ok (.iload 4, 2) := by decide +kernel
theorem dX8_feed_53 : decode cX8_feed 53 = .ok (.imul, 1) := by decide +kernel
theorem dX8_feed_54 : decode cX8_feed 54 = .ok (.lshr, 1) := by decide +kernel
theorem dX8_feed_55 : decode cX8_feed 55 = .ok (.ldc2_w 200, 3) := by decide +kernel
theorem dX8_feed_58 : decode cX8_feed 58 = .ok (.land, 1) := by decide +kernel
theorem dX8_feed_59 : decode cX8_feed 59 = .ok (.l2i, 1) := by decide +kernel
theorem dX8_feed_60 : decode cX8_feed 60 = .ok (.iastore, 1) := by decide +kernel
theorem dX8_feed_61 : decode cX8_feed 61 = .ok (.aload_n 0, 1) := by decide +kernel
theorem dX8_feed_62 : decode cX8_feed 62 = .ok (.dup, 1) := by decide +kernel
theorem dX8_feed_63 : decode cX8_feed 63 = .ok (.getfield 197, 3) := by decide +kernel
theorem dX8_feed_66 : decode cX8_feed 66 = .ok (.iconst 1, 1) := by decide +kernel
theorem dX8_feed_67 : decode cX8_feed 67 = .ok (.iadd, 1) := by decide +kernel
theorem dX8_feed_68 : decode cX8_feed 68 = .ok (.putfield 197, 3) := by decide +kernel
theorem dX8_feed_71 : decode cX8_feed 71 = .ok (.iinc 4 (-1), 3) := by decide +kernel
theorem dX8_feed_74 : decode cX8_feed 74 = .ok (.goto (-39), 3) := by decide +kernel
theorem dX8_feed_77 : decode cX8_feed 77 = .ok (.aload_n 0, 1) := by decide +kernel
theorem dX8_feed_78 : decode cX8_feed 78 = .ok (.getfield 197, 3) := by decide +kernel
theorem dX8_feed_81 : decode cX8_feed 81 = .ok (.ireturn, 1) := by decide +kernel
theorem dX8_here_0 : decode cX8_here 0 = .ok (.aload_n 0, 1) := by decide +kernel
theorem dX8_here_1 : decode cX8_here 1 = .ok (.getfield 202, 3) := by decide +kernel
theorem dX8_here_4 : decode cX8_here 4 = .ok (.aload_n 0, 1) := by decide +kernel
theorem dX8_here_5 : decode cX8_here 5 = .ok (.getfield 197, 3) := by decide +kernel
theorem dX8_here_8 : decode cX8_here 8 = .ok (.if_icmp .ge 30, 3) := by decide +kernel
theorem dX8_here_11 : decode cX8_here 11 = .ok (.aload_n 0, 1) := by decide +kernel
theorem dX8_here_12 : decode cX8_here 12 = .ok (.getfield 83, 3) := by decide +kernel
theorem dX8_here_15 : decode cX8_here 15 = .ok (.aload_n 0, 1) := by decide +kernel
theorem dX8_here_16 : decode cX8_here 16 = .ok (.getfield 202, 3) := by decide +kernel
theorem dX8_here_19 : decode cX8_here 19 = .ok (.iaload, 1) := by decide +kernel
theorem dX8_here_20 : decode cX8_here 20 = .ok (.bipush 32, 2) := by decide +kernel
theorem dX8_here_22 : decode cX8_here 22 = .ok (.if_icmp .ne 16, 3) := by decide +kernel
theorem dX8_here_25 : decode cX8_here 25 = .ok (.aload_n 0, 1) := by decide +kernel
theorem dX8_here_26 : decode cX8_here 26 = .ok (.dup, 1) := by decide +kernel
theorem dX8_here_27 : decode cX8_here 27 = .ok (.getfield 202, 3) := by decide +kernel
theorem dX8_here_30 : decode cX8_here 30 = .ok (.iconst 1, 1) := by decide +kernel
theorem dX8_here_31 : decode cX8_here 31 = .ok (.iadd, 1) := by decide +kernel
theorem dX8_here_32 : decode cX8_here 32 = .ok (.putfield 202, 3) := by decide +kernel
theorem dX8_here_35 : decode cX8_here 35 = .ok (.goto (-35), 3) := by decide +kernel
theorem dX8_here_38 : decode cX8_here 38 = .ok (.aload_n 0, 1) := by decide +kernel
theorem dX8_here_39 : decode cX8_here 39 = .ok (.getfield 202, 3) := by decide +kernel
theorem dX8_here_42 : decode cX8_here 42 = .ok (.aload_n 0, 1) := by decide +kernel
theorem dX8_here_43 : decode cX8_here 43 = .ok (.getfield 197, 3) := by decide +kernel
theorem dX8_here_46 : decode cX8_here 46 = .ok (.if_icmp .ge 15, 3) := by decide +kernel
theorem dX8_here_49 : decode cX8_here 49 = .ok (.aload_n 0, 1) := by decide +kernel
theorem dX8_here_50 : decode cX8_here 50 = .ok (.getfield 83, 3) := by decide +kernel
theorem dX8_here_53 : decode cX8_here 53 = .ok (.aload_n 0, 1) := by decide +kernel
theorem dX8_here_54 : decode cX8_here 54 = .ok (.getfield 202, 3) := by decide +kernel
theorem dX8_here_57 : decode cX8_here 57 = .ok (.iaload, 1) := by decide +kernel
theorem dX8_here_58 : decode cX8_here 58 = .ok (.goto 4, 3) := by decide +kernel
theorem dX8_here_61 : decode cX8_here 61 = .ok (.iconst (-1), 1) := by decide +kernel
theorem dX8_here_62 : decode cX8_here 62 = .ok (.ireturn, 1) := by decide +kernel
theorem dX8_want_0 : decode cX8_want 0 = .ok (.iload_n 1, 1) := by decide +kernel
theorem dX8_want_1 : decode cX8_want 1 = .ok (.ifCond .ne 20, 3) := by decide +kernel
theorem dX8_want_4 : decode cX8_want 4 = .ok (.aload_n 0, 1) := by decide +kernel
theorem dX8_want_5 : decode cX8_want 5 = .ok (.getfield 205, 3) := by decide +kernel
theorem dX8_want_8 : decode cX8_want 8 = .ok (.ifCond .ne 13, 3) := by decide +kernel
theorem dX8_want_11 : decode cX8_want 11 = .ok (.aload_n 0, 1) := by decide +kernel
theorem dX8_want_12 : decode cX8_want 12 = .ok (.iload_n 2, 1) := by decide +kernel
theorem dX8_want_13 : decode cX8_want 13 = .ok (.putfield 205, 3) := by decide +kernel
theorem dX8_want_16 : decode cX8_want 16 = .ok (.aload_n 0, 1) := by decide +kernel
theorem dX8_want_17 : decode cX8_want 17 = .ok (.iload_n 3, 1) := by decide +kernel
theorem dX8_want_18 : decode cX8_want 18 = .ok (.putfield 86, 3) := by decide +kernel
theorem dX8_want_21 : decode cX8_want 21 = .ok (.aload_n 0, 1) := by decide +kernel
theorem dX8_want_22 : decode cX8_want 22 = .ok (.getfield 205, 3) := by decide +kernel
theorem dX8_want_25 : decode cX8_want 25 = .ok (.ifCond .ne 7, 3) := by decide +kernel
theorem dX8_want_28 : decode cX8_want 28 = .ok (.iconst 1, 1) := by decide +kernel
theorem dX8_want_29 : decode cX8_want 29 = .ok (.goto 4, 3) := by decide +kernel
theorem dX8_want_32 : decode cX8_want 32 = .ok (.iconst 0, 1) := by decide +kernel
theorem dX8_want_33 : decode cX8_want 33 = .ok (.ireturn, 1) := by decide +kernel
theorem dX8_takeWord_0 : decode cX8_takeWord 0 = .ok (.aload_n 0, 1) := by decide +kernel
theorem dX8_takeWord_1 : decode cX8_takeWord 1 = .ok (.invokevirtual 208, 3) := by decide +kernel
theorem dX8_takeWord_4 : decode cX8_takeWord 4 = .ok (.istore_n 1, 1) := by decide +kernel
theorem dX8_takeWord_5 : decode cX8_takeWord 5 = .ok (.aload_n 0, 1) := by decide +kernel
theorem dX8_takeWord_6 : decode cX8_takeWord 6 = .ok (.aload_n 0, 1) := by decide +kernel
theorem dX8_takeWord_7 : decode cX8_takeWord 7 = .ok (.getfield 202, 3) := by decide +kernel
theorem dX8_takeWord_10 : decode cX8_takeWord 10 = .ok (.putfield 212, 3) := by decide +kernel
theorem dX8_takeWord_13 : decode cX8_takeWord 13 = .ok (.aload_n 0, 1) := by decide +kernel
theorem dX8_takeWord_14 : decode cX8_takeWord 14 = .ok (.getfield 202, 3) := by decide +kernel
theorem dX8_takeWord_17 : decode cX8_takeWord 17 = .ok (.aload_n 0, 1) := by decide +kernel
theorem dX8_takeWord_18 : decode cX8_takeWord 18 = .ok (.getfield 197, 3) := by decide +kernel
theorem dX8_takeWord_21 : decode cX8_takeWord 21 = .ok (.if_icmp .ge 38, 3) := by decide +kernel
theorem dX8_takeWord_24 : decode cX8_takeWord 24 = .ok (.aload_n 0, 1) := by decide +kernel
theorem dX8_takeWord_25 : decode cX8_takeWord 25 = .ok (.getfield 83, 3) := by decide +kernel
theorem dX8_takeWord_28 : decode cX8_takeWord 28 = .ok (.aload_n 0, 1) := by decide +kernel
theorem dX8_takeWord_29 : decode cX8_takeWord 29 = .ok (.getfield 202, 3) := by decide +kernel
theorem dX8_takeWord_32 : decode cX8_takeWord 32 = .ok (.iaload, 1) := by decide +kernel
theorem dX8_takeWord_33 : decode cX8_takeWord 33 = .ok (.i2l, 1) := by decide +kernel
theorem dX8_takeWord_34 : decode cX8_takeWord 34 = .ok (.ldc2_w 215, 3) := by decide +kernel
theorem dX8_takeWord_37 : decode cX8_takeWord 37 = .ok (.ldc2_w 217, 3) := by decide +kernel
theorem dX8_takeWord_40 : decode cX8_takeWord 40 = .ok (.invokestatic 130, 3) := by decide +kernel
theorem dX8_takeWord_43 : decode cX8_takeWord 43 = .ok (.ifCond .eq 16, 3) := by decide +kernel
theorem dX8_takeWord_46 : decode cX8_takeWord 46 = .ok (.aload_n 0, 1) := by decide +kernel
theorem dX8_takeWord_47 : decode cX8_takeWord 47 = .ok (.dup, 1) := by decide +kernel
theorem dX8_takeWord_48 : decode cX8_takeWord 48 = .ok (.getfield 202, 3) := by decide +kernel
theorem dX8_takeWord_51 : decode cX8_takeWord 51 = .ok (.iconst 1, 1) := by decide +kernel
theorem dX8_takeWord_52 : decode cX8_takeWord 52 = .ok (.iadd, 1) := by decide +kernel
theorem dX8_takeWord_53 : decode cX8_takeWord 53 = .ok (.putfield 202, 3) := by decide +kernel
theorem dX8_takeWord_56 : decode cX8_takeWord 56 = .ok (.goto (-43), 3) := by decide +kernel
theorem dX8_takeWord_59 : decode cX8_takeWord 59 = .ok (.aload_n 0, 1) := by decide +kernel
theorem dX8_takeWord_60 : decode cX8_takeWord 60 = .ok (.aload_n 0, 1) := by decide +kernel
theorem dX8_takeWord_61 : decode cX8_takeWord 61 = .ok (.getfield 202, 3) := by decide +kernel
theorem dX8_takeWord_64 : decode cX8_takeWord 64 = .ok (.aload_n 0, 1) := by decide +kernel
theorem dX8_takeWord_65 : decode cX8_takeWord 65 = .ok (.getfield 212, 3) := by decide +kernel
theorem dX8_takeWord_68 : decode cX8_takeWord 68 = .ok (.isub, 1) := by decide +kernel
theorem dX8_takeWord_69 : decode cX8_takeWord 69 = .ok (.putfield 219, 3) := by decide +kernel
theorem dX8_takeWord_72 : decode cX8_takeWord 72 = .ok (.return_, 1) := by decide +kernel
theorem dX8_isWord_0 : decode cX8_isWord 0 = .ok (.aload_n 0, 1) := by decide +kernel
theorem dX8_isWord_1 : decode cX8_isWord 1 = .ok (.getfield 219, 3) := by decide +kernel
theorem dX8_isWord_4 : decode cX8_isWord 4 = .ok (.iload_n 1, 1) := by decide +kernel
theorem dX8_isWord_5 : decode cX8_isWord 5 = .ok (.if_icmp .ne 7, 3) := by decide +kernel
theorem dX8_isWord_8 : decode cX8_isWord 8 = .ok (.iconst 1, 1) := by decide +kernel
theorem dX8_isWord_9 : decode cX8_isWord 9 = .ok (.goto 4, 3) := by decide +kernel
theorem dX8_isWord_12 : decode cX8_isWord 12 = .ok (.iconst 0, 1) := by decide +kernel
theorem dX8_isWord_13 : decode cX8_isWord 13 = .ok (.istore 8, 2) := by decide +kernel
theorem dX8_isWord_15 : decode cX8_isWord 15 = .ok (.iconst 0, 1) := by decide +kernel
theorem dX8_isWord_16 : decode cX8_isWord 16 = .ok (.istore 9, 2) := by decide +kernel
theorem dX8_isWord_18 : decode cX8_isWord 18 = .ok (.iload 9, 2) := by decide +kernel
theorem dX8_isWord_20 : decode cX8_isWord 20 = .ok (.iload_n 1, 1) := by decide +kernel
theorem dX8_isWord_21 : decode cX8_isWord 21 = .ok (.if_icmp .ge 90, 3) := by decide +kernel
theorem dX8_isWord_24 : decode cX8_isWord 24 = .ok (.iload 8, 2) := by decide +kernel
theorem dX8_isWord_26 : decode cX8_isWord 26 = .ok (.ifCond .eq 85, 3) := by decide +kernel
theorem dX8_isWord_29 : decode cX8_isWord 29 = .ok (.aload_n 0, 1) := by decide +kernel
theorem dX8_isWord_30 : decode cX8_isWord 30 = .ok (.getfield 83, 3) := by decide +kernel
theorem dX8_isWord_33 : decode cX8_isWord 33 = .ok (.aload_n 0, 1) := by decide +kernel
theorem dX8_isWord_34 : decode cX8_isWord 34 = .ok (.getfield 212, 3) := by decide +kernel
theorem dX8_isWord_37 : decode cX8_isWord 37 = .ok (.iload 9, 2) := by decide +kernel
theorem dX8_isWord_39 : decode cX8_isWord 39 = .ok (.iadd, 1) := by decide +kernel
theorem dX8_isWord_40 : decode cX8_isWord 40 = .ok (.iaload, 1) := by decide +kernel
theorem dX8_isWord_41 : decode cX8_isWord 41 = .ok (.iload 9, 2) := by decide +kernel
theorem dX8_isWord_43 : decode cX8_isWord 43 = .ok (.ifCond .ne 7, 3) := by decide +kernel
theorem dX8_isWord_46 : decode cX8_isWord 46 = .ok (.iload_n 2, 1) := by decide +kernel
theorem dX8_isWord_47 : decode cX8_isWord 47 = .ok (.goto 48, 3) := by decide +kernel
theorem dX8_isWord_50 : decode cX8_isWord 50 = .ok (.iload 9, 2) := by decide +kernel
theorem dX8_isWord_52 : decode cX8_isWord 52 = .ok (.iconst 1, 1) := by decide +kernel
theorem dX8_isWord_53 : decode cX8_isWord 53 = .ok (.if_icmp .ne 7, 3) := by decide +kernel
theorem dX8_isWord_56 : decode cX8_isWord 56 = .ok (.iload_n 3, 1) := by decide +kernel
theorem dX8_isWord_57 : decode cX8_isWord 57 = .ok (.goto 38, 3) := by decide +kernel
theorem dX8_isWord_60 : decode cX8_isWord 60 = .ok (.iload 9, 2) := by decide +kernel
theorem dX8_isWord_62 : decode cX8_isWord 62 = .ok (.iconst 2, 1) := by decide +kernel
theorem dX8_isWord_63 : decode cX8_isWord 63 = .ok (.if_icmp .ne 8, 3) := by decide +kernel
theorem dX8_isWord_66 : decode cX8_isWord 66 = .ok (.iload 4, 2) := by decide +kernel
theorem dX8_isWord_68 : decode cX8_isWord 68 = .ok (.goto 27, 3) := by decide +kernel
theorem dX8_isWord_71 : decode cX8_isWord 71 = .ok (.iload 9, 2) := by decide +kernel
theorem dX8_isWord_73 : decode cX8_isWord 73 = .ok (.iconst 3, 1) := by decide +kernel
theorem dX8_isWord_74 : decode cX8_isWord 74 = .ok (.if_icmp .ne 8, 3) := by decide +kernel
theorem dX8_isWord_77 : decode cX8_isWord 77 = .ok (.iload 5, 2) := by decide +kernel
theorem dX8_isWord_79 : decode cX8_isWord 79 = .ok (.goto 16, 3) := by decide +kernel
theorem dX8_isWord_82 : decode cX8_isWord 82 = .ok (.iload 9, 2) := by decide +kernel
theorem dX8_isWord_84 : decode cX8_isWord 84 = .ok (.iconst 4, 1) := by decide +kernel
theorem dX8_isWord_85 : decode cX8_isWord 85 = .ok (.if_icmp .ne 8, 3) := by decide +kernel
theorem dX8_isWord_88 : decode cX8_isWord 88 = .ok (.iload 6, 2) := by decide +kernel
theorem dX8_isWord_90 : decode cX8_isWord 90 = .ok (.goto 5, 3) := by decide +kernel
theorem dX8_isWord_93 : decode cX8_isWord 93 = .ok (.iload 7, 2) := by decide +kernel
theorem dX8_isWord_95 : decode cX8_isWord 95 = .ok (.if_icmp .ne 7, 3) := by decide +kernel
theorem dX8_isWord_98 : decode cX8_isWord 98 = .ok (.iconst 1, 1) := by decide +kernel
theorem dX8_isWord_99 : decode cX8_isWord 99 = .ok (.goto 4, 3) := by decide +kernel
theorem dX8_isWord_102 : decode cX8_isWord 102 = .ok (.iconst 0, 1) := by decide +kernel
theorem dX8_isWord_103 : decode cX8_isWord 103 = .ok (.istore 8, 2) := by decide +kernel
theorem dX8_isWord_105 : decode cX8_isWord 105 = .ok (.iinc 9 1, 3) := by decide +kernel
theorem dX8_isWord_108 : decode cX8_isWord 108 = .ok (.goto (-90), 3) := by decide +kernel
theorem dX8_isWord_111 : decode cX8_isWord 111 = .ok (.iload 8, 2) := by decide +kernel
theorem dX8_isWord_113 : decode cX8_isWord 113 = .ok (.ireturn, 1) := by decide +kernel
theorem dX8_takeNumber_0 : decode cX8_takeNumber 0 = .ok (.aload_n 0, 1) := by decide +kernel
theorem dX8_takeNumber_1 : decode cX8_takeNumber 1 = .ok (.getfield 205, 3) := by decide +kernel
theorem dX8_takeNumber_4 : decode cX8_takeNumber 4 = .ok (.ifCond .le 5, 3) := by decide +kernel
theorem dX8_takeNumber_7 : decode cX8_takeNumber 7 = .ok (.iconst 0, 1) := by decide +kernel
theorem dX8_takeNumber_8 : decode cX8_takeNumber 8 = .ok (.ireturn, 1) := by decide +kernel
theorem dX8_takeNumber_9 : decode cX8_takeNumber 9 = .ok (.aload_n 0, 1) := by decide +kernel
theorem dX8_takeNumber_10 : decode cX8_takeNumber 10 = .ok (.invokevirtual 208, 3) := by decide +kernel
theorem dX8_takeNumber_13 : decode cX8_takeNumber 13 = .ok (.istore 4, 2) := by decide +kernel
theorem dX8_takeNumber_15 : decode cX8_takeNumber 15 = .ok (.aload_n 0, 1) := by decide +kernel
theorem dX8_takeNumber_16 : decode cX8_takeNumber 16 = .ok (.getfield 202, 3) := by decide +kernel
theorem dX8_takeNumber_19 : decode cX8_takeNumber 19 = .ok (.istore 5, 2) := by decide +kernel
theorem dX8_takeNumber_21 : decode cX8_takeNumber 21 = .ok (.iload_n 3, 1) := by decide +kernel
theorem dX8_takeNumber_22 : decode cX8_takeNumber 22 = .ok (.ifCond .eq 14, 3) := by decide +kernel
theorem dX8_takeNumber_25 : decode cX8_takeNumber 25 = .ok (.iload 4, 2) := by decide +kernel
theorem dX8_takeNumber_27 : decode cX8_takeNumber 27 = .ok (.bipush 45, 2) := by decide +kernel
theorem dX8_takeNumber_29 : decode cX8_takeNumber 29 = .ok (.if_icmp .ne 7, 3) := by decide +kernel
theorem dX8_takeNumber_32 : decode cX8_takeNumber 32 = .ok (.iconst 1, 1) := by decide +kernel
theorem dX8_takeNumber_33 : decode cX8_takeNumber 33 = .ok (.goto 4, 3) := by decide +kernel
theorem dX8_takeNumber_36 : decode cX8_takeNumber 36 = .ok (.iconst 0, 1) := by decide +kernel
theorem dX8_takeNumber_37 : decode cX8_takeNumber 37 = .ok (.istore 6, 2) := by decide +kernel
theorem dX8_takeNumber_39 : decode cX8_takeNumber 39 = .ok (.aload_n 0, 1) := by decide +kernel
theorem dX8_takeNumber_40 : decode cX8_takeNumber 40 = .ok (.dup, 1) := by decide +kernel
theorem dX8_takeNumber_41 : decode cX8_takeNumber 41 = .ok (.getfield 202, 3) := by decide +kernel
theorem dX8_takeNumber_44 : decode cX8_takeNumber 44 = .ok (.iload 6, 2) := by decide +kernel
theorem dX8_takeNumber_46 : decode cX8_takeNumber 46 = .ok (.invokestatic 184, 3) := by decide +kernel
theorem dX8_takeNumber_49 : decode cX8_takeNumber 49 = .ok (.iadd, 1) := by decide +kernel
theorem dX8_takeNumber_50 : decode cX8_takeNumber 50 = .ok (.putfield 202, 3) := by decide +kernel
theorem dX8_takeNumber_53 : decode cX8_takeNumber 53 = .ok (.aload_n 0, 1) := by decide +kernel
theorem dX8_takeNumber_54 : decode cX8_takeNumber 54 = .ok (.aload_n 0, 1) := by decide +kernel
theorem dX8_takeNumber_55 : decode cX8_takeNumber 55 = .ok (.getfield 202, 3) := by decide +kernel
theorem dX8_takeNumber_58 : decode cX8_takeNumber 58 = .ok (.aload_n 0, 1) := by decide +kernel
theorem dX8_takeNumber_59 : decode cX8_takeNumber 59 = .ok (.getfield 197, 3) := by decide +kernel
theorem dX8_takeNumber_62 : decode cX8_takeNumber 62 = .ok (.if_icmp .ge 29, 3) := by decide +kernel
theorem dX8_takeNumber_65 : decode cX8_takeNumber 65 = .ok (.aload_n 0, 1) := by decide +kernel
theorem dX8_takeNumber_66 : decode cX8_takeNumber 66 = .ok (.getfield 83, 3) := by decide +kernel
theorem dX8_takeNumber_69 : decode cX8_takeNumber 69 = .ok (.aload_n 0, 1) := by decide +kernel
theorem dX8_takeNumber_70 : decode cX8_takeNumber 70 = .ok (.getfield 202, 3) := by decide +kernel
theorem dX8_takeNumber_73 : decode cX8_takeNumber 73 = .ok (.iaload, 1) := by decide +kernel
theorem dX8_takeNumber_74 : decode cX8_takeNumber 74 = .ok (.i2l, 1) := by decide +kernel
theorem dX8_takeNumber_75 : decode cX8_takeNumber 75 = .ok (.ldc2_w 222, 3) := by decide +kernel
theorem dX8_takeNumber_78 : decode cX8_takeNumber 78 = .ok (.ldc2_w 224, 3) := by decide +kernel
theorem dX8_takeNumber_81 : decode cX8_takeNumber 81 = .ok (.invokestatic 130, 3) := by decide +kernel
theorem dX8_takeNumber_84 : decode cX8_takeNumber 84 = .ok (.ifCond .eq 7, 3) := by decide +kernel
theorem dX8_takeNumber_87 : decode cX8_takeNumber 87 = .ok (.iconst 1, 1) := by decide +kernel
theorem dX8_takeNumber_88 : decode cX8_takeNumber 88 = .ok (.goto 4, 3) := by decide +kernel
theorem dX8_takeNumber_91 : decode cX8_takeNumber 91 = .ok (.iconst 0, 1) := by decide +kernel
theorem dX8_takeNumber_92 : decode cX8_takeNumber 92 = .ok (.iconst 1, 1) := by decide +kernel
theorem dX8_takeNumber_93 : decode cX8_takeNumber 93 = .ok (.aload_n 0, 1) := by decide +kernel
theorem dX8_takeNumber_94 : decode cX8_takeNumber 94 = .ok (.getfield 202, 3) := by decide +kernel
theorem dX8_takeNumber_97 : decode cX8_takeNumber 97 = .ok (.invokevirtual 226, 3) := by decide +kernel
theorem dX8_takeNumber_100 : decode cX8_takeNumber 100 = .ok (.ifCond .ne 5, 3) := by decide +kernel
theorem dX8_takeNumber_103 : decode cX8_takeNumber 103 = .ok (.iconst 0, 1) := by decide +kernel
theorem dX8_takeNumber_104 : decode cX8_takeNumber 104 = .ok (.ireturn, 1) := by decide +kernel
theorem dX8_takeNumber_105 : decode cX8_takeNumber 105 = .ok (.aload_n 0, 1) := by decide +kernel
theorem dX8_takeNumber_106 : decode cX8_takeNumber 106 = .ok (.getfield 202, 3) := by decide +kernel
theorem dX8_takeNumber_109 : decode cX8_takeNumber 109 = .ok (.istore 7, 2) := by decide +kernel
theorem dX8_takeNumber_111 : decode cX8_takeNumber 111 = .ok (.iconst 0, 1) := by decide +kernel
theorem dX8_takeNumber_112 : decode cX8_takeNumber 112 = .ok (.istore 8, 2) := by decide +kernel
theorem dX8_takeNumber_114 : decode cX8_takeNumber 114 = .ok (.aload_n 0, 1) := by decide +kernel
theorem dX8_takeNumber_115 : decode cX8_takeNumber 115 = .ok (.getfield 202, 3) := by decide +kernel
theorem dX8_takeNumber_118 : decode cX8_takeNumber 118 = .ok (.aload_n 0, 1) := by decide +kernel
theorem dX8_takeNumber_119 : decode cX8_takeNumber 119 = .ok (.getfield 197, 3) := by decide +kernel
theorem dX8_takeNumber_122 : decode cX8_takeNumber 122 = .ok (.if_icmp .ge 70, 3) := by decide +kernel
theorem dX8_takeNumber_125 : decode cX8_takeNumber 125 = .ok (.aload_n 0, 1) := by decide +kernel
theorem dX8_takeNumber_126 : decode cX8_takeNumber 126 = .ok (.getfield 83, 3) := by decide +kernel
theorem dX8_takeNumber_129 : decode cX8_takeNumber 129 = .ok (.aload_n 0, 1) := by decide +kernel
theorem dX8_takeNumber_130 : decode cX8_takeNumber 130 = .ok (.getfield 202, 3) := by decide +kernel
theorem dX8_takeNumber_133 : decode cX8_takeNumber 133 = .ok (.iaload, 1) := by decide +kernel
theorem dX8_takeNumber_134 : decode cX8_takeNumber 134 = .ok (.i2l, 1) := by decide +kernel
theorem dX8_takeNumber_135 : decode cX8_takeNumber 135 = .ok (.ldc2_w 222, 3) := by decide +kernel
theorem dX8_takeNumber_138 : decode cX8_takeNumber 138 = .ok (.ldc2_w 224, 3) := by decide +kernel
theorem dX8_takeNumber_141 : decode cX8_takeNumber 141 = .ok (.invokestatic 130, 3) := by decide +kernel
theorem dX8_takeNumber_144 : decode cX8_takeNumber 144 = .ok (.ifCond .eq 48, 3) := by decide +kernel
theorem dX8_takeNumber_147 : decode cX8_takeNumber 147 = .ok (.iload 8, 2) := by decide +kernel
theorem dX8_takeNumber_149 : decode cX8_takeNumber 149 = .ok (.ldc 230, 2) := by decide +kernel
theorem dX8_takeNumber_151 : decode cX8_takeNumber 151 = .ok (.if_icmp .le 8, 3) := by decide +kernel
theorem dX8_takeNumber_154 : decode cX8_takeNumber 154 = .ok (.iload 8, 2) := by decide +kernel
theorem dX8_takeNumber_156 : decode cX8_takeNumber 156 = .ok (.goto 21, 3) := by decide +kernel
theorem dX8_takeNumber_159 : decode cX8_takeNumber 159 = .ok (.bipush 10, 2) := by decide +kernel
theorem dX8_takeNumber_161 : decode cX8_takeNumber 161 = .ok (.iload 8, 2) := by decide +kernel
theorem dX8_takeNumber_163 : decode cX8_takeNumber 163 = .ok (.imul, 1) := by decide +kernel
theorem dX8_takeNumber_164 : decode cX8_takeNumber 164 = .ok (.aload_n 0, 1) := by decide +kernel
theorem dX8_takeNumber_165 : decode cX8_takeNumber 165 = .ok (.getfield 83, 3) := by decide +kernel
theorem dX8_takeNumber_168 : decode cX8_takeNumber 168 = .ok (.aload_n 0, 1) := by decide +kernel
theorem dX8_takeNumber_169 : decode cX8_takeNumber 169 = .ok (.getfield 202, 3) := by decide +kernel
theorem dX8_takeNumber_172 : decode cX8_takeNumber 172 = .ok (.iaload, 1) := by decide +kernel
theorem dX8_takeNumber_173 : decode cX8_takeNumber 173 = .ok (.iadd, 1) := by decide +kernel
theorem dX8_takeNumber_174 : decode cX8_takeNumber 174 = .ok (.bipush 48, 2) := by decide +kernel
theorem dX8_takeNumber_176 : decode cX8_takeNumber 176 = .ok (.isub, 1) := by decide +kernel
theorem dX8_takeNumber_177 : decode cX8_takeNumber 177 = .ok (.istore 8, 2) := by decide +kernel
theorem dX8_takeNumber_179 : decode cX8_takeNumber 179 = .ok (.aload_n 0, 1) := by decide +kernel
theorem dX8_takeNumber_180 : decode cX8_takeNumber 180 = .ok (.dup, 1) := by decide +kernel
theorem dX8_takeNumber_181 : decode cX8_takeNumber 181 = .ok (.getfield 202, 3) := by decide +kernel
theorem dX8_takeNumber_184 : decode cX8_takeNumber 184 = .ok (.iconst 1, 1) := by decide +kernel
theorem dX8_takeNumber_185 : decode cX8_takeNumber 185 = .ok (.iadd, 1) := by decide +kernel
theorem dX8_takeNumber_186 : decode cX8_takeNumber 186 = .ok (.putfield 202, 3) := by decide +kernel
theorem dX8_takeNumber_189 : decode cX8_takeNumber 189 = .ok (.goto (-75), 3) := by decide +kernel
theorem dX8_takeNumber_192 : decode cX8_takeNumber 192 = .ok (.iload 6, 2) := by decide +kernel
theorem dX8_takeNumber_194 : decode cX8_takeNumber 194 = .ok (.ifCond .eq 10, 3) := by decide +kernel
theorem dX8_takeNumber_197 : decode cX8_takeNumber 197 = .ok (.iconst 0, 1) := by decide +kernel
theorem dX8_takeNumber_198 : decode cX8_takeNumber 198 = .ok (.iload 8, 2) := by decide +kernel
theorem dX8_takeNumber_200 : decode cX8_takeNumber 200 = .ok (.isub, 1) := by decide +kernel
theorem dX8_takeNumber_201 : decode cX8_takeNumber 201 = .ok (.goto 5, 3) := by decide +kernel
theorem dX8_takeNumber_204 : decode cX8_takeNumber 204 = .ok (.iload 8, 2) := by decide +kernel
theorem dX8_takeNumber_206 : decode cX8_takeNumber 206 = .ok (.istore 8, 2) := by decide +kernel
theorem dX8_takeNumber_208 : decode cX8_takeNumber 208 = .ok (.aload_n 0, 1) := by decide +kernel
theorem dX8_takeNumber_209 : decode cX8_takeNumber 209 = .ok (.aload_n 0, 1) := by decide +kernel
theorem dX8_takeNumber_210 : decode cX8_takeNumber 210 = .ok (.getfield 202, 3) := by decide +kernel
theorem dX8_takeNumber_213 : decode cX8_takeNumber 213 = .ok (.iload 7, 2) := by decide +kernel
theorem dX8_takeNumber_215 : decode cX8_takeNumber 215 = .ok (.isub, 1) := by decide +kernel
theorem dX8_takeNumber_216 : decode cX8_takeNumber 216 = .ok (.bipush 6, 2) := by decide +kernel
theorem dX8_takeNumber_218 : decode cX8_takeNumber 218 = .ok (.if_icmp .ge 20, 3) := by decide +kernel
theorem dX8_takeNumber_221 : decode cX8_takeNumber 221 = .ok (.iload 8, 2) := by decide +kernel
theorem dX8_takeNumber_223 : decode cX8_takeNumber 223 = .ok (.i2l, 1) := by decide +kernel
theorem dX8_takeNumber_224 : decode cX8_takeNumber 224 = .ok (.iload_n 1, 1) := by decide +kernel
theorem dX8_takeNumber_225 : decode cX8_takeNumber 225 = .ok (.i2l, 1) := by decide +kernel
theorem dX8_takeNumber_226 : decode cX8_takeNumber 226 = .ok (.iload_n 2, 1) := by decide +kernel
theorem dX8_takeNumber_227 : decode cX8_takeNumber 227 = .ok (.i2l, 1) := by decide +kernel
theorem dX8_takeNumber_228 : decode cX8_takeNumber 228 = .ok (.invokestatic 130, 3) := by decide +kernel
theorem dX8_takeNumber_231 : decode cX8_takeNumber 231 = .ok (.ifCond .eq 7, 3) := by decide +kernel
theorem dX8_takeNumber_234 : decode cX8_takeNumber 234 = .ok (.iconst 1, 1) := by decide +kernel
theorem dX8_takeNumber_235 : decode cX8_takeNumber 235 = .ok (.goto 4, 3) := by decide +kernel
theorem dX8_takeNumber_238 : decode cX8_takeNumber 238 = .ok (.iconst 0, 1) := by decide +kernel
theorem dX8_takeNumber_239 : decode cX8_takeNumber 239 = .ok (.iconst 2, 1) := by decide +kernel
theorem dX8_takeNumber_240 : decode cX8_takeNumber 240 = .ok (.iload 5, 2) := by decide +kernel
theorem dX8_takeNumber_242 : decode cX8_takeNumber 242 = .ok (.invokevirtual 226, 3) := by decide +kernel
theorem dX8_takeNumber_245 : decode cX8_takeNumber 245 = .ok (.istore 9, 2) := by decide +kernel
theorem dX8_takeNumber_247 : decode cX8_takeNumber 247 = .ok (.iload 8, 2) := by decide +kernel
theorem dX8_takeNumber_249 : decode cX8_takeNumber 249 = .ok (.ireturn, 1) := by decide +kernel
theorem dX8_takeTo_0 : decode cX8_takeTo 0 = .ok (.aload_n 0, 1) := by decide +kernel
theorem dX8_takeTo_1 : decode cX8_takeTo 1 = .ok (.getfield 205, 3) := by decide +kernel
theorem dX8_takeTo_4 : decode cX8_takeTo 4 = .ok (.ifCond .le 5, 3) := by decide +kernel
theorem dX8_takeTo_7 : decode cX8_takeTo 7 = .ok (.iconst 0, 1) := by decide +kernel
theorem dX8_takeTo_8 : decode cX8_takeTo 8 = .ok (.ireturn, 1) := by decide +kernel
theorem dX8_takeTo_9 : decode cX8_takeTo 9 = .ok (.aload_n 0, 1) := by decide +kernel
theorem dX8_takeTo_10 : decode cX8_takeTo 10 = .ok (.invokevirtual 231, 3) := by decide +kernel
theorem dX8_takeTo_13 : decode cX8_takeTo 13 = .ok (.aload_n 0, 1) := by decide +kernel
theorem dX8_takeTo_14 : decode cX8_takeTo 14 = .ok (.aload_n 0, 1) := by decide +kernel
theorem dX8_takeTo_15 : decode cX8_takeTo 15 = .ok (.iconst 2, 1) := by decide +kernel
theorem dX8_takeTo_16 : decode cX8_takeTo 16 = .ok (.bipush 116, 2) := by decide +kernel
theorem dX8_takeTo_18 : decode cX8_takeTo 18 = .ok (.bipush 111, 2) := by decide +kernel
theorem dX8_takeTo_20 : decode cX8_takeTo 20 = .ok (.iconst 0, 1) := by decide +kernel
theorem dX8_takeTo_21 : decode cX8_takeTo 21 = .ok (.iconst 0, 1) := by decide +kernel
theorem dX8_takeTo_22 : decode cX8_takeTo 22 = .ok (.iconst 0, 1) := by decide +kernel
theorem dX8_takeTo_23 : decode cX8_takeTo 23 = .ok (.iconst 0, 1) := by decide +kernel
theorem dX8_takeTo_24 : decode cX8_takeTo 24 = .ok (.invokevirtual 234, 3) := by decide +kernel
theorem dX8_takeTo_27 : decode cX8_takeTo 27 = .ok (.iconst 1, 1) := by decide +kernel
theorem dX8_takeTo_28 : decode cX8_takeTo 28 = .ok (.aload_n 0, 1) := by decide +kernel
theorem dX8_takeTo_29 : decode cX8_takeTo 29 = .ok (.getfield 212, 3) := by decide +kernel
theorem dX8_takeTo_32 : decode cX8_takeTo 32 = .ok (.invokevirtual 226, 3) := by decide +kernel
theorem dX8_takeTo_35 : decode cX8_takeTo 35 = .ok (.ireturn, 1) := by decide +kernel
theorem dX8_readSpan_0 : decode cX8_readSpan 0 = .ok (.aload_n 0, 1) := by decide +kernel
theorem dX8_readSpan_1 : decode cX8_readSpan 1 = .ok (.sipush (-9999), 3) := by decide +kernel
theorem dX8_readSpan_4 : decode cX8_readSpan 4 = .ok (.sipush 9999, 3) := by decide +kernel
theorem dX8_readSpan_7 : decode cX8_readSpan 7 = .ok (.iconst 1, 1) := by decide +kernel
theorem dX8_readSpan_8 : decode cX8_readSpan 8 = .ok (.invokevirtual 238, 3) := by decide +kernel
theorem dX8_readSpan_11 : decode cX8_readSpan 11 = .ok (.istore_n 2, 1) := by decide +kernel
theorem dX8_readSpan_12 : decode cX8_readSpan 12 = .ok (.aload_n 0, 1) := by decide +kernel
theorem dX8_readSpan_13 : decode cX8_readSpan 13 = .ok (.invokevirtual 242, 3) := by decide +kernel
theorem dX8_readSpan_16 : decode cX8_readSpan 16 = .ok (.istore_n 3, 1) := by decide +kernel
theorem dX8_readSpan_17 : decode cX8_readSpan 17 = .ok (.aload_n 0, 1) := by decide +kernel
theorem dX8_readSpan_18 : decode cX8_readSpan 18 = .ok (.iload_n 2, 1) := by decide +kernel
theorem dX8_readSpan_19 : decode cX8_readSpan 19 = .ok (.sipush 9999, 3) := by decide +kernel
theorem dX8_readSpan_22 : decode cX8_readSpan 22 = .ok (.iconst 1, 1) := by decide +kernel
theorem dX8_readSpan_23 : decode cX8_readSpan 23 = .ok (.invokevirtual 238, 3) := by decide +kernel
theorem dX8_readSpan_26 : decode cX8_readSpan 26 = .ok (.istore 4, 2) := by decide +kernel
theorem dX8_readSpan_28 : decode cX8_readSpan 28 = .ok (.aload_n 0, 1) := by decide +kernel
theorem dX8_readSpan_29 : decode cX8_readSpan 29 = .ok (.getfield 68, 3) := by decide +kernel
theorem dX8_readSpan_32 : decode cX8_readSpan 32 = .ok (.iload_n 1, 1) := by decide +kernel
theorem dX8_readSpan_33 : decode cX8_readSpan 33 = .ok (.iload_n 2, 1) := by decide +kernel
theorem dX8_readSpan_34 : decode cX8_readSpan 34 = .ok (.iastore, 1) := by decide +kernel
theorem dX8_readSpan_35 : decode cX8_readSpan 35 = .ok (.aload_n 0, 1) := by decide +kernel
theorem dX8_readSpan_36 : decode cX8_readSpan 36 = .ok (.getfield 68, 3) := by decide +kernel
theorem dX8_readSpan_39 : decode cX8_readSpan 39 = .ok (.iload_n 1, 1) := by decide +kernel
theorem dX8_readSpan_40 : decode cX8_readSpan 40 = .ok (.iconst 1, 1) := by decide +kernel
theorem dX8_readSpan_41 : decode cX8_readSpan 41 = .ok (.iadd, 1) := by decide +kernel
theorem dX8_readSpan_42 : decode cX8_readSpan 42 = .ok (.iload 4, 2) := by decide +kernel
theorem dX8_readSpan_44 : decode cX8_readSpan 44 = .ok (.iastore, 1) := by decide +kernel
theorem dX8_readSpan_45 : decode cX8_readSpan 45 = .ok (.return_, 1) := by decide +kernel
theorem dX8_readSort_0 : decode cX8_readSort 0 = .ok (.aload_n 0, 1) := by decide +kernel
theorem dX8_readSort_1 : decode cX8_readSort 1 = .ok (.iconst 0, 1) := by decide +kernel
theorem dX8_readSort_2 : decode cX8_readSort 2 = .ok (.iconst 5, 1) := by decide +kernel
theorem dX8_readSort_3 : decode cX8_readSort 3 = .ok (.iconst 0, 1) := by decide +kernel
theorem dX8_readSort_4 : decode cX8_readSort 4 = .ok (.invokevirtual 238, 3) := by decide +kernel
theorem dX8_readSort_7 : decode cX8_readSort 7 = .ok (.istore_n 1, 1) := by decide +kernel
theorem dX8_readSort_8 : decode cX8_readSort 8 = .ok (.aload_n 0, 1) := by decide +kernel
theorem dX8_readSort_9 : decode cX8_readSort 9 = .ok (.getfield 205, 3) := by decide +kernel
theorem dX8_readSort_12 : decode cX8_readSort 12 = .ok (.ifCond .ne 32, 3) := by decide +kernel
theorem dX8_readSort_15 : decode cX8_readSort 15 = .ok (.aload_n 0, 1) := by decide +kernel
theorem dX8_readSort_16 : decode cX8_readSort 16 = .ok (.invokevirtual 231, 3) := by decide +kernel
theorem dX8_readSort_19 : decode cX8_readSort 19 = .ok (.aload_n 0, 1) := by decide +kernel
theorem dX8_readSort_20 : decode cX8_readSort 20 = .ok (.aload_n 0, 1) := by decide +kernel
theorem dX8_readSort_21 : decode cX8_readSort 21 = .ok (.iconst 4, 1) := by decide +kernel
theorem dX8_readSort_22 : decode cX8_readSort 22 = .ok (.bipush 116, 2) := by decide +kernel
theorem dX8_readSort_24 : decode cX8_readSort 24 = .ok (.bipush 105, 2) := by decide +kernel
theorem dX8_readSort_26 : decode cX8_readSort 26 = .ok (.bipush 109, 2) := by decide +kernel
theorem dX8_readSort_28 : decode cX8_readSort 28 = .ok (.bipush 101, 2) := by decide +kernel
theorem dX8_readSort_30 : decode cX8_readSort 30 = .ok (.iconst 0, 1) := by decide +kernel
theorem dX8_readSort_31 : decode cX8_readSort 31 = .ok (.iconst 0, 1) := by decide +kernel
theorem dX8_readSort_32 : decode cX8_readSort 32 = .ok (.invokevirtual 234, 3) := by decide +kernel
theorem dX8_readSort_35 : decode cX8_readSort 35 = .ok (.iconst 1, 1) := by decide +kernel
theorem dX8_readSort_36 : decode cX8_readSort 36 = .ok (.aload_n 0, 1) := by decide +kernel
theorem dX8_readSort_37 : decode cX8_readSort 37 = .ok (.getfield 212, 3) := by decide +kernel
theorem dX8_readSort_40 : decode cX8_readSort 40 = .ok (.invokevirtual 226, 3) := by decide +kernel
theorem dX8_readSort_43 : decode cX8_readSort 43 = .ok (.istore_n 2, 1) := by decide +kernel
theorem dX8_readSort_44 : decode cX8_readSort 44 = .ok (.aload_n 0, 1) := by decide +kernel
theorem dX8_readSort_45 : decode cX8_readSort 45 = .ok (.getfield 205, 3) := by decide +kernel
theorem dX8_readSort_48 : decode cX8_readSort 48 = .ok (.ifCond .ne 10, 3) := by decide +kernel
theorem dX8_readSort_51 : decode cX8_readSort 51 = .ok (.aload_n 0, 1) := by decide +kernel
theorem dX8_readSort_52 : decode cX8_readSort 52 = .ok (.iconst 4, 1) := by decide +kernel
theorem dX8_readSort_53 : decode cX8_readSort 53 = .ok (.iload_n 1, 1) := by decide +kernel
theorem dX8_readSort_54 : decode cX8_readSort 54 = .ok (.imul, 1) := by decide +kernel
theorem dX8_readSort_55 : decode cX8_readSort 55 = .ok (.invokevirtual 246, 3) := by decide +kernel
theorem dX8_readSort_58 : decode cX8_readSort 58 = .ok (.aload_n 0, 1) := by decide +kernel
theorem dX8_readSort_59 : decode cX8_readSort 59 = .ok (.getfield 205, 3) := by decide +kernel
theorem dX8_readSort_62 : decode cX8_readSort 62 = .ok (.ifCond .ne 35, 3) := by decide +kernel
theorem dX8_readSort_65 : decode cX8_readSort 65 = .ok (.aload_n 0, 1) := by decide +kernel
theorem dX8_readSort_66 : decode cX8_readSort 66 = .ok (.invokevirtual 231, 3) := by decide +kernel
theorem dX8_readSort_69 : decode cX8_readSort 69 = .ok (.aload_n 0, 1) := by decide +kernel
theorem dX8_readSort_70 : decode cX8_readSort 70 = .ok (.aload_n 0, 1) := by decide +kernel
theorem dX8_readSort_71 : decode cX8_readSort 71 = .ok (.bipush 6, 2) := by decide +kernel
theorem dX8_readSort_73 : decode cX8_readSort 73 = .ok (.bipush 99, 2) := by decide +kernel
theorem dX8_readSort_75 : decode cX8_readSort 75 = .ok (.bipush 111, 2) := by decide +kernel
theorem dX8_readSort_77 : decode cX8_readSort 77 = .ok (.bipush 108, 2) := by decide +kernel
theorem dX8_readSort_79 : decode cX8_readSort 79 = .ok (.bipush 111, 2) := by decide +kernel
theorem dX8_readSort_81 : decode cX8_readSort 81 = .ok (.bipush 117, 2) := by decide +kernel
theorem dX8_readSort_83 : decode cX8_readSort 83 = .ok (.bipush 114, 2) := by decide +kernel
theorem dX8_readSort_85 : decode cX8_readSort 85 = .ok (.invokevirtual 234, 3) := by decide +kernel
theorem dX8_readSort_88 : decode cX8_readSort 88 = .ok (.iconst 1, 1) := by decide +kernel
theorem dX8_readSort_89 : decode cX8_readSort 89 = .ok (.aload_n 0, 1) := by decide +kernel
theorem dX8_readSort_90 : decode cX8_readSort 90 = .ok (.getfield 212, 3) := by decide +kernel
theorem dX8_readSort_93 : decode cX8_readSort 93 = .ok (.invokevirtual 226, 3) := by decide +kernel
theorem dX8_readSort_96 : decode cX8_readSort 96 = .ok (.istore_n 2, 1) := by decide +kernel
theorem dX8_readSort_97 : decode cX8_readSort 97 = .ok (.aload_n 0, 1) := by decide +kernel
theorem dX8_readSort_98 : decode cX8_readSort 98 = .ok (.getfield 205, 3) := by decide +kernel
theorem dX8_readSort_101 : decode cX8_readSort 101 = .ok (.ifCond .ne 12, 3) := by decide +kernel
theorem dX8_readSort_104 : decode cX8_readSort 104 = .ok (.aload_n 0, 1) := by decide +kernel
theorem dX8_readSort_105 : decode cX8_readSort 105 = .ok (.iconst 4, 1) := by decide +kernel
theorem dX8_readSort_106 : decode cX8_readSort 106 = .ok (.iload_n 1, 1) := by decide +kernel
theorem dX8_readSort_107 : decode cX8_readSort 107 = .ok (.imul, 1) := by decide +kernel
theorem dX8_readSort_108 : decode cX8_readSort 108 = .ok (.iconst 2, 1) := by decide +kernel
theorem dX8_readSort_109 : decode cX8_readSort 109 = .ok (.iadd, 1) := by decide +kernel
theorem dX8_readSort_110 : decode cX8_readSort 110 = .ok (.invokevirtual 246, 3) := by decide +kernel
theorem dX8_readSort_113 : decode cX8_readSort 113 = .ok (.return_, 1) := by decide +kernel
theorem dX8_readBlur_0 : decode cX8_readBlur 0 = .ok (.aload_n 0, 1) := by decide +kernel
theorem dX8_readBlur_1 : decode cX8_readBlur 1 = .ok (.iconst 0, 1) := by decide +kernel
theorem dX8_readBlur_2 : decode cX8_readBlur 2 = .ok (.iconst 5, 1) := by decide +kernel
theorem dX8_readBlur_3 : decode cX8_readBlur 3 = .ok (.iconst 0, 1) := by decide +kernel
theorem dX8_readBlur_4 : decode cX8_readBlur 4 = .ok (.invokevirtual 238, 3) := by decide +kernel
theorem dX8_readBlur_7 : decode cX8_readBlur 7 = .ok (.istore_n 1, 1) := by decide +kernel
theorem dX8_readBlur_8 : decode cX8_readBlur 8 = .ok (.aload_n 0, 1) := by decide +kernel
theorem dX8_readBlur_9 : decode cX8_readBlur 9 = .ok (.getfield 205, 3) := by decide +kernel
theorem dX8_readBlur_12 : decode cX8_readBlur 12 = .ok (.ifCond .ne 47, 3) := by decide +kernel
theorem dX8_readBlur_15 : decode cX8_readBlur 15 = .ok (.aload_n 0, 1) := by decide +kernel
theorem dX8_readBlur_16 : decode cX8_readBlur 16 = .ok (.invokevirtual 231, 3) := by decide +kernel
theorem dX8_readBlur_19 : decode cX8_readBlur 19 = .ok (.aload_n 0, 1) := by decide +kernel
theorem dX8_readBlur_20 : decode cX8_readBlur 20 = .ok (.aload_n 0, 1) := by decide +kernel
theorem dX8_readBlur_21 : decode cX8_readBlur 21 = .ok (.iconst 2, 1) := by decide +kernel
theorem dX8_readBlur_22 : decode cX8_readBlur 22 = .ok (.bipush 98, 2) := by decide +kernel
theorem dX8_readBlur_24 : decode cX8_readBlur 24 = .ok (.bipush 121, 2) := by decide +kernel
theorem dX8_readBlur_26 : decode cX8_readBlur 26 = .ok (.iconst 0, 1) := by decide +kernel
theorem dX8_readBlur_27 : decode cX8_readBlur 27 = .ok (.iconst 0, 1) := by decide +kernel
theorem dX8_readBlur_28 : decode cX8_readBlur 28 = .ok (.iconst 0, 1) := by decide +kernel
theorem dX8_readBlur_29 : decode cX8_readBlur 29 = .ok (.iconst 0, 1) := by decide +kernel
theorem dX8_readBlur_30 : decode cX8_readBlur 30 = .ok (.invokevirtual 234, 3) := by decide +kernel
theorem dX8_readBlur_33 : decode cX8_readBlur 33 = .ok (.iconst 1, 1) := by decide +kernel
theorem dX8_readBlur_34 : decode cX8_readBlur 34 = .ok (.aload_n 0, 1) := by decide +kernel
theorem dX8_readBlur_35 : decode cX8_readBlur 35 = .ok (.getfield 212, 3) := by decide +kernel
theorem dX8_readBlur_38 : decode cX8_readBlur 38 = .ok (.invokevirtual 226, 3) := by decide +kernel
theorem dX8_readBlur_41 : decode cX8_readBlur 41 = .ok (.istore_n 2, 1) := by decide +kernel
theorem dX8_readBlur_42 : decode cX8_readBlur 42 = .ok (.aload_n 0, 1) := by decide +kernel
theorem dX8_readBlur_43 : decode cX8_readBlur 43 = .ok (.iconst 0, 1) := by decide +kernel
theorem dX8_readBlur_44 : decode cX8_readBlur 44 = .ok (.sipush 999, 3) := by decide +kernel
theorem dX8_readBlur_47 : decode cX8_readBlur 47 = .ok (.iconst 0, 1) := by decide +kernel
theorem dX8_readBlur_48 : decode cX8_readBlur 48 = .ok (.invokevirtual 238, 3) := by decide +kernel
theorem dX8_readBlur_51 : decode cX8_readBlur 51 = .ok (.istore_n 3, 1) := by decide +kernel
theorem dX8_readBlur_52 : decode cX8_readBlur 52 = .ok (.aload_n 0, 1) := by decide +kernel
theorem dX8_readBlur_53 : decode cX8_readBlur 53 = .ok (.getfield 71, 3) := by decide +kernel
theorem dX8_readBlur_56 : decode cX8_readBlur 56 = .ok (.iload_n 1, 1) := by decide +kernel
theorem dX8_readBlur_57 : decode cX8_readBlur 57 = .ok (.iload_n 3, 1) := by decide +kernel
theorem dX8_readBlur_58 : decode cX8_readBlur 58 = .ok (.iastore, 1) := by decide +kernel
theorem dX8_readBlur_59 : decode cX8_readBlur 59 = .ok (.return_, 1) := by decide +kernel
theorem dX8_readClaim_0 : decode cX8_readClaim 0 = .ok (.aload_n 0, 1) := by decide +kernel
theorem dX8_readClaim_1 : decode cX8_readClaim 1 = .ok (.iconst 0, 1) := by decide +kernel
theorem dX8_readClaim_2 : decode cX8_readClaim 2 = .ok (.bipush 9, 2) := by decide +kernel
theorem dX8_readClaim_4 : decode cX8_readClaim 4 = .ok (.iconst 0, 1) := by decide +kernel
theorem dX8_readClaim_5 : decode cX8_readClaim 5 = .ok (.invokevirtual 238, 3) := by decide +kernel
theorem dX8_readClaim_8 : decode cX8_readClaim 8 = .ok (.istore_n 1, 1) := by decide +kernel
theorem dX8_readClaim_9 : decode cX8_readClaim 9 = .ok (.aload_n 0, 1) := by decide +kernel
theorem dX8_readClaim_10 : decode cX8_readClaim 10 = .ok (.getfield 205, 3) := by decide +kernel
theorem dX8_readClaim_13 : decode cX8_readClaim 13 = .ok (.ifCond .ne 114, 3) := by decide +kernel
theorem dX8_readClaim_16 : decode cX8_readClaim 16 = .ok (.aload_n 0, 1) := by decide +kernel
theorem dX8_readClaim_17 : decode cX8_readClaim 17 = .ok (.invokevirtual 231, 3) := by decide +kernel
theorem dX8_readClaim_20 : decode cX8_readClaim 20 = .ok (.aload_n 0, 1) := by decide +kernel
theorem dX8_readClaim_21 : decode cX8_readClaim 21 = .ok (.iconst 5, 1) := by decide +kernel
theorem dX8_readClaim_22 : decode cX8_readClaim 22 = .ok (.bipush 97, 2) := by decide +kernel
theorem dX8_readClaim_24 : decode cX8_readClaim 24 = .ok (.bipush 98, 2) := by decide +kernel
theorem dX8_readClaim_26 : decode cX8_readClaim 26 = .ok (.bipush 111, 2) := by decide +kernel
theorem dX8_readClaim_28 : decode cX8_readClaim 28 = .ok (.bipush 118, 2) := by decide +kernel
theorem dX8_readClaim_30 : decode cX8_readClaim 30 = .ok (.bipush 101, 2) := by decide +kernel
theorem dX8_readClaim_32 : decode cX8_readClaim 32 = .ok (.iconst 0, 1) := by decide +kernel
theorem dX8_readClaim_33 : decode cX8_readClaim 33 = .ok (.invokevirtual 234, 3) := by decide +kernel
theorem dX8_readClaim_36 : decode cX8_readClaim 36 = .ok (.istore_n 2, 1) := by decide +kernel
theorem dX8_readClaim_37 : decode cX8_readClaim 37 = .ok (.aload_n 0, 1) := by decide +kernel
theorem dX8_readClaim_38 : decode cX8_readClaim 38 = .ok (.iload_n 2, 1) := by decide +kernel
theorem dX8_readClaim_39 : decode cX8_readClaim 39 = .ok (.ifCond .ne 22, 3) := by decide +kernel
theorem dX8_readClaim_42 : decode cX8_readClaim 42 = .ok (.aload_n 0, 1) := by decide +kernel
theorem dX8_readClaim_43 : decode cX8_readClaim 43 = .ok (.iconst 5, 1) := by decide +kernel
theorem dX8_readClaim_44 : decode cX8_readClaim 44 = .ok (.bipush 98, 2) := by decide +kernel
theorem dX8_readClaim_46 : decode cX8_readClaim 46 = .ok (.bipush 101, 2) := by decide +kernel
theorem dX8_readClaim_48 : decode cX8_readClaim 48 = .ok (.bipush 108, 2) := by decide +kernel
theorem dX8_readClaim_50 : decode cX8_readClaim 50 = .ok (.bipush 111, 2) := by decide +kernel
theorem dX8_readClaim_52 : decode cX8_readClaim 52 = .ok (.bipush 119, 2) := by decide +kernel
theorem dX8_readClaim_54 : decode cX8_readClaim 54 = .ok (.iconst 0, 1) := by decide +kernel
theorem dX8_readClaim_55 : decode cX8_readClaim 55 = .ok (.invokevirtual 234, 3) := by decide +kernel
theorem dX8_readClaim_58 : decode cX8_readClaim 58 = .ok (.ifCond .eq 7, 3) := by decide +kernel
theorem dX8_readClaim_61 : decode cX8_readClaim 61 = .ok (.iconst 1, 1) := by decide +kernel
theorem dX8_readClaim_62 : decode cX8_readClaim 62 = .ok (.goto 4, 3) := by decide +kernel
theorem dX8_readClaim_65 : decode cX8_readClaim 65 = .ok (.iconst 0, 1) := by decide +kernel
theorem dX8_readClaim_66 : decode cX8_readClaim 66 = .ok (.iconst 1, 1) := by decide +kernel
theorem dX8_readClaim_67 : decode cX8_readClaim 67 = .ok (.aload_n 0, 1) := by decide +kernel
theorem dX8_readClaim_68 : decode cX8_readClaim 68 = .ok (.getfield 212, 3) := by decide +kernel
theorem dX8_readClaim_71 : decode cX8_readClaim 71 = .ok (.invokevirtual 226, 3) := by decide +kernel
theorem dX8_readClaim_74 : decode cX8_readClaim 74 = .ok (.istore_n 3, 1) := by decide +kernel
theorem dX8_readClaim_75 : decode cX8_readClaim 75 = .ok (.aload_n 0, 1) := by decide +kernel
theorem dX8_readClaim_76 : decode cX8_readClaim 76 = .ok (.ldc 250, 2) := by decide +kernel
theorem dX8_readClaim_78 : decode cX8_readClaim 78 = .ok (.ldc 251, 2) := by decide +kernel
theorem dX8_readClaim_80 : decode cX8_readClaim 80 = .ok (.iconst 1, 1) := by decide +kernel
theorem dX8_readClaim_81 : decode cX8_readClaim 81 = .ok (.invokevirtual 238, 3) := by decide +kernel
theorem dX8_readClaim_84 : decode cX8_readClaim 84 = .ok (.istore 4, 2) := by decide +kernel
theorem dX8_readClaim_86 : decode cX8_readClaim 86 = .ok (.aload_n 0, 1) := by decide +kernel
theorem dX8_readClaim_87 : decode cX8_readClaim 87 = .ok (.getfield 74, 3) := by decide +kernel
theorem dX8_readClaim_90 : decode cX8_readClaim 90 = .ok (.aload_n 0, 1) := by decide +kernel
theorem dX8_readClaim_91 : decode cX8_readClaim 91 = .ok (.getfield 252, 3) := by decide +kernel
theorem dX8_readClaim_94 : decode cX8_readClaim 94 = .ok (.iload_n 1, 1) := by decide +kernel
theorem dX8_readClaim_95 : decode cX8_readClaim 95 = .ok (.iastore, 1) := by decide +kernel
theorem dX8_readClaim_96 : decode cX8_readClaim 96 = .ok (.aload_n 0, 1) := by decide +kernel
theorem dX8_readClaim_97 : decode cX8_readClaim 97 = .ok (.getfield 77, 3) := by decide +kernel
theorem dX8_readClaim_100 : decode cX8_readClaim 100 = .ok (.aload_n 0, 1) := by decide +kernel
theorem dX8_readClaim_101 : decode cX8_readClaim 101 = .ok (.getfield 252, 3) := by decide +kernel
theorem dX8_readClaim_104 : decode cX8_readClaim 104 = .ok (.iload 4, 2) := by decide +kernel
theorem dX8_readClaim_106 : decode cX8_readClaim 106 = .ok (.iastore, 1) := by decide +kernel
theorem dX8_readClaim_107 : decode cX8_readClaim 107 = .ok (.aload_n 0, 1) := by decide +kernel
theorem dX8_readClaim_108 : decode cX8_readClaim 108 = .ok (.getfield 80, 3) := by decide +kernel
theorem dX8_readClaim_111 : decode cX8_readClaim 111 = .ok (.aload_n 0, 1) := by decide +kernel
theorem dX8_readClaim_112 : decode cX8_readClaim 112 = .ok (.getfield 252, 3) := by decide +kernel
theorem dX8_readClaim_115 : decode cX8_readClaim 115 = .ok (.iload_n 2, 1) := by decide +kernel
theorem dX8_readClaim_116 : decode cX8_readClaim 116 = .ok (.bastore, 1) := by decide +kernel
theorem dX8_readClaim_117 : decode cX8_readClaim 117 = .ok (.aload_n 0, 1) := by decide +kernel
theorem dX8_readClaim_118 : decode cX8_readClaim 118 = .ok (.dup, 1) := by decide +kernel
theorem dX8_readClaim_119 : decode cX8_readClaim 119 = .ok (.getfield 252, 3) := by decide +kernel
theorem dX8_readClaim_122 : decode cX8_readClaim 122 = .ok (.iconst 1, 1) := by decide +kernel
theorem dX8_readClaim_123 : decode cX8_readClaim 123 = .ok (.iadd, 1) := by decide +kernel
theorem dX8_readClaim_124 : decode cX8_readClaim 124 = .ok (.putfield 252, 3) := by decide +kernel
theorem dX8_readClaim_127 : decode cX8_readClaim 127 = .ok (.return_, 1) := by decide +kernel
theorem dX8_readClause_0 : decode cX8_readClause 0 = .ok (.iload_n 1, 1) := by decide +kernel
theorem dX8_readClause_1 : decode cX8_readClause 1 = .ok (.ifCond .ne 10, 3) := by decide +kernel
theorem dX8_readClause_4 : decode cX8_readClause 4 = .ok (.aload_n 0, 1) := by decide +kernel
theorem dX8_readClause_5 : decode cX8_readClause 5 = .ok (.invokevirtual 255, 3) := by decide +kernel
theorem dX8_readClause_8 : decode cX8_readClause 8 = .ok (.goto 80, 3) := by decide +kernel
theorem dX8_readClause_11 : decode cX8_readClause 11 = .ok (.iload_n 1, 1) := by decide +kernel
theorem dX8_readClause_12 : decode cX8_readClause 12 = .ok (.iconst 1, 1) := by decide +kernel
theorem dX8_readClause_13 : decode cX8_readClause 13 = .ok (.if_icmp .ne 38, 3) := by decide +kernel
theorem dX8_readClause_16 : decode cX8_readClause 16 = .ok (.aload_n 0, 1) := by decide +kernel
theorem dX8_readClause_17 : decode cX8_readClause 17 = .ok (.aload_n 0, 1) := by decide +kernel
theorem dX8_readClause_18 : decode cX8_readClause 18 = .ok (.iconst 0, 1) := by decide +kernel
theorem dX8_readClause_19 : decode cX8_readClause 19 = .ok (.bipush 99, 2) := by decide +kernel
theorem dX8_readClause_21 : decode cX8_readClause 21 = .ok (.iconst 0, 1) := by decide +kernel
theorem dX8_readClause_22 : decode cX8_readClause 22 = .ok (.invokevirtual 238, 3) := by decide +kernel
theorem dX8_readClause_25 : decode cX8_readClause 25 = .ok (.putfield 258, 3) := by decide +kernel
theorem dX8_readClause_28 : decode cX8_readClause 28 = .ok (.aload_n 0, 1) := by decide +kernel
theorem dX8_readClause_29 : decode cX8_readClause 29 = .ok (.invokevirtual 242, 3) := by decide +kernel
theorem dX8_readClause_32 : decode cX8_readClause 32 = .ok (.istore_n 2, 1) := by decide +kernel
theorem dX8_readClause_33 : decode cX8_readClause 33 = .ok (.aload_n 0, 1) := by decide +kernel
theorem dX8_readClause_34 : decode cX8_readClause 34 = .ok (.aload_n 0, 1) := by decide +kernel
theorem dX8_readClause_35 : decode cX8_readClause 35 = .ok (.aload_n 0, 1) := by decide +kernel
theorem dX8_readClause_36 : decode cX8_readClause 36 = .ok (.getfield 258, 3) := by decide +kernel
theorem dX8_readClause_39 : decode cX8_readClause 39 = .ok (.bipush 99, 2) := by decide +kernel
theorem dX8_readClause_41 : decode cX8_readClause 41 = .ok (.iconst 0, 1) := by decide +kernel
theorem dX8_readClause_42 : decode cX8_readClause 42 = .ok (.invokevirtual 238, 3) := by decide +kernel
theorem dX8_readClause_45 : decode cX8_readClause 45 = .ok (.putfield 261, 3) := by decide +kernel
theorem dX8_readClause_48 : decode cX8_readClause 48 = .ok (.goto 40, 3) := by decide +kernel
theorem dX8_readClause_51 : decode cX8_readClause 51 = .ok (.iload_n 1, 1) := by decide +kernel
theorem dX8_readClause_52 : decode cX8_readClause 52 = .ok (.iconst 2, 1) := by decide +kernel
theorem dX8_readClause_53 : decode cX8_readClause 53 = .ok (.if_icmp .ne 10, 3) := by decide +kernel
theorem dX8_readClause_56 : decode cX8_readClause 56 = .ok (.aload_n 0, 1) := by decide +kernel
theorem dX8_readClause_57 : decode cX8_readClause 57 = .ok (.invokevirtual 264, 3) := by decide +kernel
theorem dX8_readClause_60 : decode cX8_readClause 60 = .ok (.goto 28, 3) := by decide +kernel
theorem dX8_readClause_63 : decode cX8_readClause 63 = .ok (.iload_n 1, 1) := by decide +kernel
theorem dX8_readClause_64 : decode cX8_readClause 64 = .ok (.iconst 3, 1) := by decide +kernel
theorem dX8_readClause_65 : decode cX8_readClause 65 = .ok (.if_icmp .ne 19, 3) := by decide +kernel
theorem dX8_readClause_68 : decode cX8_readClause 68 = .ok (.aload_n 0, 1) := by decide +kernel
theorem dX8_readClause_69 : decode cX8_readClause 69 = .ok (.aload_n 0, 1) := by decide +kernel
theorem dX8_readClause_70 : decode cX8_readClause 70 = .ok (.iconst 0, 1) := by decide +kernel
theorem dX8_readClause_71 : decode cX8_readClause 71 = .ok (.sipush 9999, 3) := by decide +kernel
theorem dX8_readClause_74 : decode cX8_readClause 74 = .ok (.iconst 0, 1) := by decide +kernel
theorem dX8_readClause_75 : decode cX8_readClause 75 = .ok (.invokevirtual 238, 3) := by decide +kernel
theorem dX8_readClause_78 : decode cX8_readClause 78 = .ok (.putfield 267, 3) := by decide +kernel
theorem dX8_readClause_81 : decode cX8_readClause 81 = .ok (.goto 7, 3) := by decide +kernel
theorem dX8_readClause_84 : decode cX8_readClause 84 = .ok (.aload_n 0, 1) := by decide +kernel
theorem dX8_readClause_85 : decode cX8_readClause 85 = .ok (.invokevirtual 270, 3) := by decide +kernel
theorem dX8_readClause_88 : decode cX8_readClause 88 = .ok (.aload_n 0, 1) := by decide +kernel
theorem dX8_readClause_89 : decode cX8_readClause 89 = .ok (.getfield 205, 3) := by decide +kernel
theorem dX8_readClause_92 : decode cX8_readClause 92 = .ok (.ifCond .ne 40, 3) := by decide +kernel
theorem dX8_readClause_95 : decode cX8_readClause 95 = .ok (.aload_n 0, 1) := by decide +kernel
theorem dX8_readClause_96 : decode cX8_readClause 96 = .ok (.invokevirtual 208, 3) := by decide +kernel
theorem dX8_readClause_99 : decode cX8_readClause 99 = .ok (.istore_n 2, 1) := by decide +kernel
theorem dX8_readClause_100 : decode cX8_readClause 100 = .ok (.aload_n 0, 1) := by decide +kernel
theorem dX8_readClause_101 : decode cX8_readClause 101 = .ok (.dup, 1) := by decide +kernel
theorem dX8_readClause_102 : decode cX8_readClause 102 = .ok (.getfield 202, 3) := by decide +kernel
theorem dX8_readClause_105 : decode cX8_readClause 105 = .ok (.aload_n 0, 1) := by decide +kernel
theorem dX8_readClause_106 : decode cX8_readClause 106 = .ok (.iload_n 2, 1) := by decide +kernel
theorem dX8_readClause_107 : decode cX8_readClause 107 = .ok (.bipush 59, 2) := by decide +kernel
theorem dX8_readClause_109 : decode cX8_readClause 109 = .ok (.if_icmp .ne 7, 3) := by decide +kernel
theorem dX8_readClause_112 : decode cX8_readClause 112 = .ok (.iconst 1, 1) := by decide +kernel
theorem dX8_readClause_113 : decode cX8_readClause 113 = .ok (.goto 4, 3) := by decide +kernel
theorem dX8_readClause_116 : decode cX8_readClause 116 = .ok (.iconst 0, 1) := by decide +kernel
theorem dX8_readClause_117 : decode cX8_readClause 117 = .ok (.iconst 1, 1) := by decide +kernel
theorem dX8_readClause_118 : decode cX8_readClause 118 = .ok (.aload_n 0, 1) := by decide +kernel
theorem dX8_readClause_119 : decode cX8_readClause 119 = .ok (.getfield 202, 3) := by decide +kernel
theorem dX8_readClause_122 : decode cX8_readClause 122 = .ok (.invokevirtual 226, 3) := by decide +kernel
theorem dX8_readClause_125 : decode cX8_readClause 125 = .ok (.invokestatic 184, 3) := by decide +kernel
theorem dX8_readClause_128 : decode cX8_readClause 128 = .ok (.iadd, 1) := by decide +kernel
theorem dX8_readClause_129 : decode cX8_readClause 129 = .ok (.putfield 202, 3) := by decide +kernel
theorem dX8_readClause_132 : decode cX8_readClause 132 = .ok (.return_, 1) := by decide +kernel
theorem dX8_clauseOf_0 : decode cX8_clauseOf 0 = .ok (.aload_n 0, 1) := by decide +kernel
theorem dX8_clauseOf_1 : decode cX8_clauseOf 1 = .ok (.iconst 4, 1) := by decide +kernel
theorem dX8_clauseOf_2 : decode cX8_clauseOf 2 = .ok (.bipush 115, 2) := by decide +kernel
theorem dX8_clauseOf_4 : decode cX8_clauseOf 4 = .ok (.bipush 111, 2) := by decide +kernel
theorem dX8_clauseOf_6 : decode cX8_clauseOf 6 = .ok (.bipush 114, 2) := by decide +kernel
theorem dX8_clauseOf_8 : decode cX8_clauseOf 8 = .ok (.bipush 116, 2) := by decide +kernel
theorem dX8_clauseOf_10 : decode cX8_clauseOf 10 = .ok (.iconst 0, 1) := by decide +kernel
theorem dX8_clauseOf_11 : decode cX8_clauseOf 11 = .ok (.iconst 0, 1) := by decide +kernel
theorem dX8_clauseOf_12 : decode cX8_clauseOf 12 = .ok (.invokevirtual 234, 3) := by decide +kernel
theorem dX8_clauseOf_15 : decode cX8_clauseOf 15 = .ok (.ifCond .eq 5, 3) := by decide +kernel
theorem dX8_clauseOf_18 : decode cX8_clauseOf 18 = .ok (.iconst 0, 1) := by decide +kernel
theorem dX8_clauseOf_19 : decode cX8_clauseOf 19 = .ok (.ireturn, 1) := by decide +kernel
theorem dX8_clauseOf_20 : decode cX8_clauseOf 20 = .ok (.aload_n 0, 1) := by decide +kernel
theorem dX8_clauseOf_21 : decode cX8_clauseOf 21 = .ok (.iconst 4, 1) := by decide +kernel
theorem dX8_clauseOf_22 : decode cX8_clauseOf 22 = .ok (.bipush 100, 2) := by decide +kernel
theorem dX8_clauseOf_24 : decode cX8_clauseOf 24 = .ok (.bipush 117, 2) := by decide +kernel
theorem dX8_clauseOf_26 : decode cX8_clauseOf 26 = .ok (.bipush 115, 2) := by decide +kernel
theorem dX8_clauseOf_28 : decode cX8_clauseOf 28 = .ok (.bipush 116, 2) := by decide +kernel
theorem dX8_clauseOf_30 : decode cX8_clauseOf 30 = .ok (.iconst 0, 1) := by decide +kernel
theorem dX8_clauseOf_31 : decode cX8_clauseOf 31 = .ok (.iconst 0, 1) := by decide +kernel
theorem dX8_clauseOf_32 : decode cX8_clauseOf 32 = .ok (.invokevirtual 234, 3) := by decide +kernel
theorem dX8_clauseOf_35 : decode cX8_clauseOf 35 = .ok (.ifCond .eq 5, 3) := by decide +kernel
theorem dX8_clauseOf_38 : decode cX8_clauseOf 38 = .ok (.iconst 1, 1) := by decide +kernel
theorem dX8_clauseOf_39 : decode cX8_clauseOf 39 = .ok (.ireturn, 1) := by decide +kernel
theorem dX8_clauseOf_40 : decode cX8_clauseOf 40 = .ok (.aload_n 0, 1) := by decide +kernel
theorem dX8_clauseOf_41 : decode cX8_clauseOf 41 = .ok (.iconst 4, 1) := by decide +kernel
theorem dX8_clauseOf_42 : decode cX8_clauseOf 42 = .ok (.bipush 98, 2) := by decide +kernel
theorem dX8_clauseOf_44 : decode cX8_clauseOf 44 = .ok (.bipush 108, 2) := by decide +kernel
theorem dX8_clauseOf_46 : decode cX8_clauseOf 46 = .ok (.bipush 117, 2) := by decide +kernel
theorem dX8_clauseOf_48 : decode cX8_clauseOf 48 = .ok (.bipush 114, 2) := by decide +kernel
theorem dX8_clauseOf_50 : decode cX8_clauseOf 50 = .ok (.iconst 0, 1) := by decide +kernel
theorem dX8_clauseOf_51 : decode cX8_clauseOf 51 = .ok (.iconst 0, 1) := by decide +kernel
theorem dX8_clauseOf_52 : decode cX8_clauseOf 52 = .ok (.invokevirtual 234, 3) := by decide +kernel
theorem dX8_clauseOf_55 : decode cX8_clauseOf 55 = .ok (.ifCond .eq 5, 3) := by decide +kernel
theorem dX8_clauseOf_58 : decode cX8_clauseOf 58 = .ok (.iconst 2, 1) := by decide +kernel
theorem dX8_clauseOf_59 : decode cX8_clauseOf 59 = .ok (.ireturn, 1) := by decide +kernel
theorem dX8_clauseOf_60 : decode cX8_clauseOf 60 = .ok (.aload_n 0, 1) := by decide +kernel
theorem dX8_clauseOf_61 : decode cX8_clauseOf 61 = .ok (.iconst 3, 1) := by decide +kernel
theorem dX8_clauseOf_62 : decode cX8_clauseOf 62 = .ok (.bipush 111, 2) := by decide +kernel
theorem dX8_clauseOf_64 : decode cX8_clauseOf 64 = .ok (.bipush 119, 2) := by decide +kernel
theorem dX8_clauseOf_66 : decode cX8_clauseOf 66 = .ok (.bipush 110, 2) := by decide +kernel
theorem dX8_clauseOf_68 : decode cX8_clauseOf 68 = .ok (.iconst 0, 1) := by decide +kernel
theorem dX8_clauseOf_69 : decode cX8_clauseOf 69 = .ok (.iconst 0, 1) := by decide +kernel
theorem dX8_clauseOf_70 : decode cX8_clauseOf 70 = .ok (.iconst 0, 1) := by decide +kernel
theorem dX8_clauseOf_71 : decode cX8_clauseOf 71 = .ok (.invokevirtual 234, 3) := by decide +kernel
theorem dX8_clauseOf_74 : decode cX8_clauseOf 74 = .ok (.ifCond .eq 5, 3) := by decide +kernel
theorem dX8_clauseOf_77 : decode cX8_clauseOf 77 = .ok (.iconst 3, 1) := by decide +kernel
theorem dX8_clauseOf_78 : decode cX8_clauseOf 78 = .ok (.ireturn, 1) := by decide +kernel
theorem dX8_clauseOf_79 : decode cX8_clauseOf 79 = .ok (.aload_n 0, 1) := by decide +kernel
theorem dX8_clauseOf_80 : decode cX8_clauseOf 80 = .ok (.iconst 5, 1) := by decide +kernel
theorem dX8_clauseOf_81 : decode cX8_clauseOf 81 = .ok (.bipush 99, 2) := by decide +kernel
theorem dX8_clauseOf_83 : decode cX8_clauseOf 83 = .ok (.bipush 108, 2) := by decide +kernel
theorem dX8_clauseOf_85 : decode cX8_clauseOf 85 = .ok (.bipush 97, 2) := by decide +kernel
theorem dX8_clauseOf_87 : decode cX8_clauseOf 87 = .ok (.bipush 105, 2) := by decide +kernel
theorem dX8_clauseOf_89 : decode cX8_clauseOf 89 = .ok (.bipush 109, 2) := by decide +kernel
theorem dX8_clauseOf_91 : decode cX8_clauseOf 91 = .ok (.iconst 0, 1) := by decide +kernel
theorem dX8_clauseOf_92 : decode cX8_clauseOf 92 = .ok (.invokevirtual 234, 3) := by decide +kernel
theorem dX8_clauseOf_95 : decode cX8_clauseOf 95 = .ok (.ifCond .eq 7, 3) := by decide +kernel
theorem dX8_clauseOf_98 : decode cX8_clauseOf 98 = .ok (.iconst 4, 1) := by decide +kernel
theorem dX8_clauseOf_99 : decode cX8_clauseOf 99 = .ok (.goto 4, 3) := by decide +kernel
theorem dX8_clauseOf_102 : decode cX8_clauseOf 102 = .ok (.iconst (-1), 1) := by decide +kernel
theorem dX8_clauseOf_103 : decode cX8_clauseOf 103 = .ok (.ireturn, 1) := by decide +kernel
theorem dX8_takeRules_0 : decode cX8_takeRules 0 = .ok (.iconst 0, 1) := by decide +kernel
theorem dX8_takeRules_1 : decode cX8_takeRules 1 = .ok (.istore_n 1, 1) := by decide +kernel
theorem dX8_takeRules_2 : decode cX8_takeRules 2 = .ok (.iload_n 1, 1) := by decide +kernel
theorem dX8_takeRules_3 : decode cX8_takeRules 3 = .ok (.bipush 24, 2) := by decide +kernel
theorem dX8_takeRules_5 : decode cX8_takeRules 5 = .ok (.if_icmp .ge 21, 3) := by decide +kernel
theorem dX8_takeRules_8 : decode cX8_takeRules 8 = .ok (.aload_n 0, 1) := by decide +kernel
theorem dX8_takeRules_9 : decode cX8_takeRules 9 = .ok (.getfield 53, 3) := by decide +kernel
theorem dX8_takeRules_12 : decode cX8_takeRules 12 = .ok (.iload_n 1, 1) := by decide +kernel
theorem dX8_takeRules_13 : decode cX8_takeRules 13 = .ok (.aload_n 0, 1) := by decide +kernel
theorem dX8_takeRules_14 : decode cX8_takeRules 14 = .ok (.getfield 68, 3) := by decide +kernel
theorem dX8_takeRules_17 : decode cX8_takeRules 17 = .ok (.iload_n 1, 1) := by decide +kernel
theorem dX8_takeRules_18 : decode cX8_takeRules 18 = .ok (.iaload, 1) := by decide +kernel
theorem dX8_takeRules_19 : decode cX8_takeRules 19 = .ok (.iastore, 1) := by decide +kernel
theorem dX8_takeRules_20 : decode cX8_takeRules 20 = .ok (.iinc 1 1, 3) := by decide +kernel
theorem dX8_takeRules_23 : decode cX8_takeRules 23 = .ok (.goto (-21), 3) := by decide +kernel
theorem dX8_takeRules_26 : decode cX8_takeRules 26 = .ok (.iconst 0, 1) := by decide +kernel
theorem dX8_takeRules_27 : decode cX8_takeRules 27 = .ok (.istore_n 1, 1) := by decide +kernel
theorem dX8_takeRules_28 : decode cX8_takeRules 28 = .ok (.iload_n 1, 1) := by decide +kernel
theorem dX8_takeRules_29 : decode cX8_takeRules 29 = .ok (.bipush 6, 2) := by decide +kernel
theorem dX8_takeRules_31 : decode cX8_takeRules 31 = .ok (.if_icmp .ge 21, 3) := by decide +kernel
theorem dX8_takeRules_34 : decode cX8_takeRules 34 = .ok (.aload_n 0, 1) := by decide +kernel
theorem dX8_takeRules_35 : decode cX8_takeRules 35 = .ok (.getfield 56, 3) := by decide +kernel
theorem dX8_takeRules_38 : decode cX8_takeRules 38 = .ok (.iload_n 1, 1) := by decide +kernel
theorem dX8_takeRules_39 : decode cX8_takeRules 39 = .ok (.aload_n 0, 1) := by decide +kernel
theorem dX8_takeRules_40 : decode cX8_takeRules 40 = .ok (.getfield 71, 3) := by decide +kernel
theorem dX8_takeRules_43 : decode cX8_takeRules 43 = .ok (.iload_n 1, 1) := by decide +kernel
theorem dX8_takeRules_44 : decode cX8_takeRules 44 = .ok (.iaload, 1) := by decide +kernel
theorem dX8_takeRules_45 : decode cX8_takeRules 45 = .ok (.iastore, 1) := by decide +kernel
theorem dX8_takeRules_46 : decode cX8_takeRules 46 = .ok (.iinc 1 1, 3) := by decide +kernel
theorem dX8_takeRules_49 : decode cX8_takeRules 49 = .ok (.goto (-21), 3) := by decide +kernel
theorem dX8_takeRules_52 : decode cX8_takeRules 52 = .ok (.aload_n 0, 1) := by decide +kernel
theorem dX8_takeRules_53 : decode cX8_takeRules 53 = .ok (.aload_n 0, 1) := by decide +kernel
theorem dX8_takeRules_54 : decode cX8_takeRules 54 = .ok (.getfield 258, 3) := by decide +kernel
theorem dX8_takeRules_57 : decode cX8_takeRules 57 = .ok (.putfield 189, 3) := by decide +kernel
theorem dX8_takeRules_60 : decode cX8_takeRules 60 = .ok (.aload_n 0, 1) := by decide +kernel
theorem dX8_takeRules_61 : decode cX8_takeRules 61 = .ok (.aload_n 0, 1) := by decide +kernel
theorem dX8_takeRules_62 : decode cX8_takeRules 62 = .ok (.getfield 261, 3) := by decide +kernel
theorem dX8_takeRules_65 : decode cX8_takeRules 65 = .ok (.putfield 192, 3) := by decide +kernel
theorem dX8_takeRules_68 : decode cX8_takeRules 68 = .ok (.aload_n 0, 1) := by decide +kernel
theorem dX8_takeRules_69 : decode cX8_takeRules 69 = .ok (.aload_n 0, 1) := by decide +kernel
theorem dX8_takeRules_70 : decode cX8_takeRules 70 = .ok (.getfield 267, 3) := by decide +kernel
theorem dX8_takeRules_73 : decode cX8_takeRules 73 = .ok (.putfield 273, 3) := by decide +kernel
theorem dX8_takeRules_76 : decode cX8_takeRules 76 = .ok (.aload_n 0, 1) := by decide +kernel
theorem dX8_takeRules_77 : decode cX8_takeRules 77 = .ok (.aload_n 0, 1) := by decide +kernel
theorem dX8_takeRules_78 : decode cX8_takeRules 78 = .ok (.getfield 252, 3) := by decide +kernel
theorem dX8_takeRules_81 : decode cX8_takeRules 81 = .ok (.putfield 276, 3) := by decide +kernel
theorem dX8_takeRules_84 : decode cX8_takeRules 84 = .ok (.iconst 0, 1) := by decide +kernel
theorem dX8_takeRules_85 : decode cX8_takeRules 85 = .ok (.istore_n 1, 1) := by decide +kernel
theorem dX8_takeRules_86 : decode cX8_takeRules 86 = .ok (.iload_n 1, 1) := by decide +kernel
theorem dX8_takeRules_87 : decode cX8_takeRules 87 = .ok (.aload_n 0, 1) := by decide +kernel
theorem dX8_takeRules_88 : decode cX8_takeRules 88 = .ok (.getfield 276, 3) := by decide +kernel
theorem dX8_takeRules_91 : decode cX8_takeRules 91 = .ok (.if_icmp .ge 45, 3) := by decide +kernel
theorem dX8_takeRules_94 : decode cX8_takeRules 94 = .ok (.aload_n 0, 1) := by decide +kernel
theorem dX8_takeRules_95 : decode cX8_takeRules 95 = .ok (.getfield 59, 3) := by decide +kernel
theorem dX8_takeRules_98 : decode cX8_takeRules 98 = .ok (.iload_n 1, 1) := by decide +kernel
theorem dX8_takeRules_99 : decode cX8_takeRules 99 = .ok (.aload_n 0, 1) := by decide +kernel
theorem dX8_takeRules_100 : decode cX8_takeRules 100 = .ok (.getfield 74, 3) := by decide +kernel
theorem dX8_takeRules_103 : decode cX8_takeRules 103 = .ok (.iload_n 1, 1) := by decide +kernel
theorem dX8_takeRules_104 : decode cX8_takeRules 104 = .ok (.iaload, 1) := by decide +kernel
theorem dX8_takeRules_105 : decode cX8_takeRules 105 = .ok (.iastore, 1) := by decide +kernel
theorem dX8_takeRules_106 : decode cX8_takeRules 106 = .ok (.aload_n 0, 1) := by decide +kernel
theorem dX8_takeRules_107 : decode cX8_takeRules 107 = .ok (.getfield 62, 3) := by decide +kernel
theorem dX8_takeRules_110 : decode cX8_takeRules 110 = .ok (.iload_n 1, 1) := by decide +kernel
theorem dX8_takeRules_111 : decode cX8_takeRules 111 = .ok (.aload_n 0, 1) := by decide +kernel
theorem dX8_takeRules_112 : decode cX8_takeRules 112 = .ok (.getfield 77, 3) := by decide +kernel
theorem dX8_takeRules_115 : decode cX8_takeRules 115 = .ok (.iload_n 1, 1) := by decide +kernel
theorem dX8_takeRules_116 : decode cX8_takeRules 116 = .ok (.iaload, 1) := by decide +kernel
theorem dX8_takeRules_117 : decode cX8_takeRules 117 = .ok (.iastore, 1) := by decide +kernel
theorem dX8_takeRules_118 : decode cX8_takeRules 118 = .ok (.aload_n 0, 1) := by decide +kernel
theorem dX8_takeRules_119 : decode cX8_takeRules 119 = .ok (.getfield 65, 3) := by decide +kernel
theorem dX8_takeRules_122 : decode cX8_takeRules 122 = .ok (.iload_n 1, 1) := by decide +kernel
theorem dX8_takeRules_123 : decode cX8_takeRules 123 = .ok (.aload_n 0, 1) := by decide +kernel
theorem dX8_takeRules_124 : decode cX8_takeRules 124 = .ok (.getfield 80, 3) := by decide +kernel
theorem dX8_takeRules_127 : decode cX8_takeRules 127 = .ok (.iload_n 1, 1) := by decide +kernel
theorem dX8_takeRules_128 : decode cX8_takeRules 128 = .ok (.baload, 1) := by decide +kernel
theorem dX8_takeRules_129 : decode cX8_takeRules 129 = .ok (.bastore, 1) := by decide +kernel
theorem dX8_takeRules_130 : decode cX8_takeRules 130 = .ok (.iinc 1 1, 3) := by decide +kernel
theorem dX8_takeRules_133 : decode cX8_takeRules 133 = .ok (.goto (-47), 3) := by decide +kernel
theorem dX8_takeRules_136 : decode cX8_takeRules 136 = .ok (.return_, 1) := by decide +kernel
theorem dX8_read_0 : decode cX8_read 0 = .ok (.aload_n 0, 1) := by decide +kernel
theorem dX8_read_1 : decode cX8_read 1 = .ok (.iconst 0, 1) := by decide +kernel
theorem dX8_read_2 : decode cX8_read 2 = .ok (.putfield 202, 3) := by decide +kernel
theorem dX8_read_5 : decode cX8_read 5 = .ok (.aload_n 0, 1) := by decide +kernel
theorem dX8_read_6 : decode cX8_read 6 = .ok (.iconst 0, 1) := by decide +kernel
theorem dX8_read_7 : decode cX8_read 7 = .ok (.putfield 205, 3) := by decide +kernel
theorem dX8_read_10 : decode cX8_read 10 = .ok (.aload_n 0, 1) := by decide +kernel
theorem dX8_read_11 : decode cX8_read 11 = .ok (.iconst (-1), 1) := by decide +kernel
theorem dX8_read_12 : decode cX8_read 12 = .ok (.putfield 86, 3) := by decide +kernel
theorem dX8_read_15 : decode cX8_read 15 = .ok (.iconst 0, 1) := by decide +kernel
theorem dX8_read_16 : decode cX8_read 16 = .ok (.istore_n 1, 1) := by decide +kernel
theorem dX8_read_17 : decode cX8_read 17 = .ok (.iload_n 1, 1) := by decide +kernel
theorem dX8_read_18 : decode cX8_read 18 = .ok (.bipush 24, 2) := by decide +kernel
theorem dX8_read_20 : decode cX8_read 20 = .ok (.if_icmp .ge 16, 3) := by decide +kernel
theorem dX8_read_23 : decode cX8_read 23 = .ok (.aload_n 0, 1) := by decide +kernel
theorem dX8_read_24 : decode cX8_read 24 = .ok (.getfield 68, 3) := by decide +kernel
theorem dX8_read_27 : decode cX8_read 27 = .ok (.iload_n 1, 1) := by decide +kernel
theorem dX8_read_28 : decode cX8_read 28 = .ok (.iconst 0, 1) := by decide +kernel
theorem dX8_read_29 : decode cX8_read 29 = .ok (.iastore, 1) := by decide +kernel
theorem dX8_read_30 : decode cX8_read 30 = .ok (.iinc 1 1, 3) := by decide +kernel
theorem dX8_read_33 : decode cX8_read 33 = .ok (.goto (-16), 3) := by decide +kernel
theorem dX8_read_36 : decode cX8_read 36 = .ok (.iconst 0, 1) := by decide +kernel
theorem dX8_read_37 : decode cX8_read 37 = .ok (.istore_n 1, 1) := by decide +kernel
theorem dX8_read_38 : decode cX8_read 38 = .ok (.iload_n 1, 1) := by decide +kernel
theorem dX8_read_39 : decode cX8_read 39 = .ok (.bipush 6, 2) := by decide +kernel
theorem dX8_read_41 : decode cX8_read 41 = .ok (.if_icmp .ge 16, 3) := by decide +kernel
theorem dX8_read_44 : decode cX8_read 44 = .ok (.aload_n 0, 1) := by decide +kernel
theorem dX8_read_45 : decode cX8_read 45 = .ok (.getfield 71, 3) := by decide +kernel
theorem dX8_read_48 : decode cX8_read 48 = .ok (.iload_n 1, 1) := by decide +kernel
theorem dX8_read_49 : decode cX8_read 49 = .ok (.iconst 0, 1) := by decide +kernel
theorem dX8_read_50 : decode cX8_read 50 = .ok (.iastore, 1) := by decide +kernel
theorem dX8_read_51 : decode cX8_read 51 = .ok (.iinc 1 1, 3) := by decide +kernel
theorem dX8_read_54 : decode cX8_read 54 = .ok (.goto (-16), 3) := by decide +kernel
theorem dX8_read_57 : decode cX8_read 57 = .ok (.aload_n 0, 1) := by decide +kernel
theorem dX8_read_58 : decode cX8_read 58 = .ok (.bipush 31, 2) := by decide +kernel
theorem dX8_read_60 : decode cX8_read 60 = .ok (.putfield 258, 3) := by decide +kernel
theorem dX8_read_63 : decode cX8_read 63 = .ok (.aload_n 0, 1) := by decide +kernel
theorem dX8_read_64 : decode cX8_read 64 = .ok (.bipush 31, 2) := by decide +kernel
theorem dX8_read_66 : decode cX8_read 66 = .ok (.putfield 261, 3) := by decide +kernel
theorem dX8_read_69 : decode cX8_read 69 = .ok (.aload_n 0, 1) := by decide +kernel
theorem dX8_read_70 : decode cX8_read 70 = .ok (.iconst 0, 1) := by decide +kernel
theorem dX8_read_71 : decode cX8_read 71 = .ok (.putfield 267, 3) := by decide +kernel
theorem dX8_read_74 : decode cX8_read 74 = .ok (.aload_n 0, 1) := by decide +kernel
theorem dX8_read_75 : decode cX8_read 75 = .ok (.iconst 0, 1) := by decide +kernel
theorem dX8_read_76 : decode cX8_read 76 = .ok (.putfield 252, 3) := by decide +kernel
theorem dX8_read_79 : decode cX8_read 79 = .ok (.iconst 0, 1) := by decide +kernel
theorem dX8_read_80 : decode cX8_read 80 = .ok (.istore_n 1, 1) := by decide +kernel
theorem dX8_read_81 : decode cX8_read 81 = .ok (.aload_n 0, 1) := by decide +kernel
theorem dX8_read_82 : decode cX8_read 82 = .ok (.getfield 205, 3) := by decide +kernel
theorem dX8_read_85 : decode cX8_read 85 = .ok (.ifCond .ne 105, 3) := by decide +kernel
theorem dX8_read_88 : decode cX8_read 88 = .ok (.aload_n 0, 1) := by decide +kernel
theorem dX8_read_89 : decode cX8_read 89 = .ok (.invokevirtual 208, 3) := by decide +kernel
theorem dX8_read_92 : decode cX8_read 92 = .ok (.ifCond .lt 98, 3) := by decide +kernel
theorem dX8_read_95 : decode cX8_read 95 = .ok (.aload_n 0, 1) := by decide +kernel
theorem dX8_read_96 : decode cX8_read 96 = .ok (.invokevirtual 231, 3) := by decide +kernel
theorem dX8_read_99 : decode cX8_read 99 = .ok (.aload_n 0, 1) := by decide +kernel
theorem dX8_read_100 : decode cX8_read 100 = .ok (.invokevirtual 279, 3) := by decide +kernel
theorem dX8_read_103 : decode cX8_read 103 = .ok (.istore_n 2, 1) := by decide +kernel
theorem dX8_read_104 : decode cX8_read 104 = .ok (.aload_n 0, 1) := by decide +kernel
theorem dX8_read_105 : decode cX8_read 105 = .ok (.iload_n 2, 1) := by decide +kernel
theorem dX8_read_106 : decode cX8_read 106 = .ok (.ifCond .lt 7, 3) := by decide +kernel
theorem dX8_read_109 : decode cX8_read 109 = .ok (.iconst 1, 1) := by decide +kernel
theorem dX8_read_110 : decode cX8_read 110 = .ok (.goto 4, 3) := by decide +kernel
theorem dX8_read_113 : decode cX8_read 113 = .ok (.iconst 0, 1) := by decide +kernel
theorem dX8_read_114 : decode cX8_read 114 = .ok (.iconst 1, 1) := by decide +kernel
theorem dX8_read_115 : decode cX8_read 115 = .ok (.aload_n 0, 1) := by decide +kernel
theorem dX8_read_116 : decode cX8_read 116 = .ok (.getfield 212, 3) := by decide +kernel
theorem dX8_read_119 : decode cX8_read 119 = .ok (.invokevirtual 226, 3) := by decide +kernel
theorem dX8_read_122 : decode cX8_read 122 = .ok (.ifCond .eq 65, 3) := by decide +kernel
theorem dX8_read_125 : decode cX8_read 125 = .ok (.aload_n 0, 1) := by decide +kernel
theorem dX8_read_126 : decode cX8_read 126 = .ok (.iload_n 2, 1) := by decide +kernel
theorem dX8_read_127 : decode cX8_read 127 = .ok (.iconst 4, 1) := by decide +kernel
theorem dX8_read_128 : decode cX8_read 128 = .ok (.if_icmp .lt 12, 3) := by decide +kernel
theorem dX8_read_131 : decode cX8_read 131 = .ok (.aload_n 0, 1) := by decide +kernel
theorem dX8_read_132 : decode cX8_read 132 = .ok (.getfield 252, 3) := by decide +kernel
theorem dX8_read_135 : decode cX8_read 135 = .ok (.bipush 8, 2) := by decide +kernel
theorem dX8_read_137 : decode cX8_read 137 = .ok (.if_icmp .ge 7, 3) := by decide +kernel
theorem dX8_read_140 : decode cX8_read 140 = .ok (.iconst 1, 1) := by decide +kernel
theorem dX8_read_141 : decode cX8_read 141 = .ok (.goto 4, 3) := by decide +kernel
theorem dX8_read_144 : decode cX8_read 144 = .ok (.iconst 0, 1) := by decide +kernel
theorem dX8_read_145 : decode cX8_read 145 = .ok (.iconst 3, 1) := by decide +kernel
theorem dX8_read_146 : decode cX8_read 146 = .ok (.aload_n 0, 1) := by decide +kernel
theorem dX8_read_147 : decode cX8_read 147 = .ok (.getfield 212, 3) := by decide +kernel
theorem dX8_read_150 : decode cX8_read 150 = .ok (.invokevirtual 226, 3) := by decide +kernel
theorem dX8_read_153 : decode cX8_read 153 = .ok (.ifCond .eq 34, 3) := by decide +kernel
theorem dX8_read_156 : decode cX8_read 156 = .ok (.aload_n 0, 1) := by decide +kernel
theorem dX8_read_157 : decode cX8_read 157 = .ok (.iload_n 1, 1) := by decide +kernel
theorem dX8_read_158 : decode cX8_read 158 = .ok (.bipush 20, 2) := by decide +kernel
theorem dX8_read_160 : decode cX8_read 160 = .ok (.if_icmp .ge 7, 3) := by decide +kernel
theorem dX8_read_163 : decode cX8_read 163 = .ok (.iconst 1, 1) := by decide +kernel
theorem dX8_read_164 : decode cX8_read 164 = .ok (.goto 4, 3) := by decide +kernel
theorem dX8_read_167 : decode cX8_read 167 = .ok (.iconst 0, 1) := by decide +kernel
theorem dX8_read_168 : decode cX8_read 168 = .ok (.iconst 4, 1) := by decide +kernel
theorem dX8_read_169 : decode cX8_read 169 = .ok (.aload_n 0, 1) := by decide +kernel
theorem dX8_read_170 : decode cX8_read 170 = .ok (.getfield 212, 3) := by decide +kernel
theorem dX8_read_173 : decode cX8_read 173 = .ok (.invokevirtual 226, 3) := by decide +kernel
theorem dX8_read_176 : decode cX8_read 176 = .ok (.ifCond .eq 11, 3) := by decide +kernel
theorem dX8_read_179 : decode cX8_read 179 = .ok (.aload_n 0, 1) := by decide +kernel
theorem dX8_read_180 : decode cX8_read 180 = .ok (.iload_n 2, 1) := by decide +kernel
theorem dX8_read_181 : decode cX8_read 181 = .ok (.invokevirtual 282, 3) := by decide +kernel
theorem dX8_read_184 : decode cX8_read 184 = .ok (.iinc 1 1, 3) := by decide +kernel
theorem dX8_read_187 : decode cX8_read 187 = .ok (.goto (-106), 3) := by decide +kernel
theorem dX8_read_190 : decode cX8_read 190 = .ok (.aload_n 0, 1) := by decide +kernel
theorem dX8_read_191 : decode cX8_read 191 = .ok (.iconst 0, 1) := by decide +kernel
theorem dX8_read_192 : decode cX8_read 192 = .ok (.putfield 197, 3) := by decide +kernel
theorem dX8_read_195 : decode cX8_read 195 = .ok (.aload_n 0, 1) := by decide +kernel
theorem dX8_read_196 : decode cX8_read 196 = .ok (.getfield 205, 3) := by decide +kernel
theorem dX8_read_199 : decode cX8_read 199 = .ok (.ifCond .le 11, 3) := by decide +kernel
theorem dX8_read_202 : decode cX8_read 202 = .ok (.bipush (-10), 2) := by decide +kernel
theorem dX8_read_204 : decode cX8_read 204 = .ok (.aload_n 0, 1) := by decide +kernel
theorem dX8_read_205 : decode cX8_read 205 = .ok (.getfield 205, 3) := by decide +kernel
theorem dX8_read_208 : decode cX8_read 208 = .ok (.isub, 1) := by decide +kernel
theorem dX8_read_209 : decode cX8_read 209 = .ok (.ireturn, 1) := by decide +kernel
theorem dX8_read_210 : decode cX8_read 210 = .ok (.aload_n 0, 1) := by decide +kernel
theorem dX8_read_211 : decode cX8_read 211 = .ok (.invokevirtual 285, 3) := by decide +kernel
theorem dX8_read_214 : decode cX8_read 214 = .ok (.iload_n 1, 1) := by decide +kernel
theorem dX8_read_215 : decode cX8_read 215 = .ok (.ireturn, 1) := by decide +kernel
theorem dX8_fault_0 : decode cX8_fault 0 = .ok (.aload_n 0, 1) := by decide +kernel
theorem dX8_fault_1 : decode cX8_fault 1 = .ok (.getfield 86, 3) := by decide +kernel
theorem dX8_fault_4 : decode cX8_fault 4 = .ok (.ireturn, 1) := by decide +kernel
theorem dX8_rule_0 : decode cX8_rule 0 = .ok (.iload_n 1, 1) := by decide +kernel
theorem dX8_rule_1 : decode cX8_rule 1 = .ok (.i2l, 1) := by decide +kernel
theorem dX8_rule_2 : decode cX8_rule 2 = .ok (.lconst 0, 1) := by decide +kernel
theorem dX8_rule_3 : decode cX8_rule 3 = .ok (.ldc2_w 288, 3) := by decide +kernel
theorem dX8_rule_6 : decode cX8_rule 6 = .ok (.invokestatic 130, 3) := by decide +kernel
theorem dX8_rule_9 : decode cX8_rule 9 = .ok (.ifCond .ne 6, 3) := by decide +kernel
theorem dX8_rule_12 : decode cX8_rule 12 = .ok (.ldc 164, 2) := by decide +kernel
theorem dX8_rule_14 : decode cX8_rule 14 = .ok (.ireturn, 1) := by decide +kernel
theorem dX8_rule_15 : decode cX8_rule 15 = .ok (.iload_n 1, 1) := by decide +kernel
theorem dX8_rule_16 : decode cX8_rule 16 = .ok (.iconst 4, 1) := by decide +kernel
theorem dX8_rule_17 : decode cX8_rule 17 = .ok (.if_icmp .ge 10, 3) := by decide +kernel
theorem dX8_rule_20 : decode cX8_rule 20 = .ok (.iload_n 2, 1) := by decide +kernel
theorem dX8_rule_21 : decode cX8_rule 21 = .ok (.invokestatic 147, 3) := by decide +kernel
theorem dX8_rule_24 : decode cX8_rule 24 = .ok (.ifCond .eq 16, 3) := by decide +kernel
theorem dX8_rule_27 : decode cX8_rule 27 = .ok (.iload_n 1, 1) := by decide +kernel
theorem dX8_rule_28 : decode cX8_rule 28 = .ok (.bipush 6, 2) := by decide +kernel
theorem dX8_rule_30 : decode cX8_rule 30 = .ok (.if_icmp .ne 13, 3) := by decide +kernel
theorem dX8_rule_33 : decode cX8_rule 33 = .ok (.iload_n 2, 1) := by decide +kernel
theorem dX8_rule_34 : decode cX8_rule 34 = .ok (.invokestatic 143, 3) := by decide +kernel
theorem dX8_rule_37 : decode cX8_rule 37 = .ok (.ifCond .ne 6, 3) := by decide +kernel
theorem dX8_rule_40 : decode cX8_rule 40 = .ok (.ldc 153, 2) := by decide +kernel
theorem dX8_rule_42 : decode cX8_rule 42 = .ok (.ireturn, 1) := by decide +kernel
theorem dX8_rule_43 : decode cX8_rule 43 = .ok (.iload_n 1, 1) := by decide +kernel
theorem dX8_rule_44 : decode cX8_rule 44 = .ok (.iconst 4, 1) := by decide +kernel
theorem dX8_rule_45 : decode cX8_rule 45 = .ok (.if_icmp .ge 16, 3) := by decide +kernel
theorem dX8_rule_48 : decode cX8_rule 48 = .ok (.aload_n 0, 1) := by decide +kernel
theorem dX8_rule_49 : decode cX8_rule 49 = .ok (.getfield 53, 3) := by decide +kernel
theorem dX8_rule_52 : decode cX8_rule 52 = .ok (.iconst 4, 1) := by decide +kernel
theorem dX8_rule_53 : decode cX8_rule 53 = .ok (.iload_n 2, 1) := by decide +kernel
theorem dX8_rule_54 : decode cX8_rule 54 = .ok (.imul, 1) := by decide +kernel
theorem dX8_rule_55 : decode cX8_rule 55 = .ok (.iload_n 1, 1) := by decide +kernel
theorem dX8_rule_56 : decode cX8_rule 56 = .ok (.iadd, 1) := by decide +kernel
theorem dX8_rule_57 : decode cX8_rule 57 = .ok (.iaload, 1) := by decide +kernel
theorem dX8_rule_58 : decode cX8_rule 58 = .ok (.goto 46, 3) := by decide +kernel
theorem dX8_rule_61 : decode cX8_rule 61 = .ok (.iload_n 1, 1) := by decide +kernel
theorem dX8_rule_62 : decode cX8_rule 62 = .ok (.iconst 4, 1) := by decide +kernel
theorem dX8_rule_63 : decode cX8_rule 63 = .ok (.if_icmp .ne 10, 3) := by decide +kernel
theorem dX8_rule_66 : decode cX8_rule 66 = .ok (.aload_n 0, 1) := by decide +kernel
theorem dX8_rule_67 : decode cX8_rule 67 = .ok (.getfield 189, 3) := by decide +kernel
theorem dX8_rule_70 : decode cX8_rule 70 = .ok (.goto 34, 3) := by decide +kernel
theorem dX8_rule_73 : decode cX8_rule 73 = .ok (.iload_n 1, 1) := by decide +kernel
theorem dX8_rule_74 : decode cX8_rule 74 = .ok (.iconst 5, 1) := by decide +kernel
theorem dX8_rule_75 : decode cX8_rule 75 = .ok (.if_icmp .ne 10, 3) := by decide +kernel
theorem dX8_rule_78 : decode cX8_rule 78 = .ok (.aload_n 0, 1) := by decide +kernel
theorem dX8_rule_79 : decode cX8_rule 79 = .ok (.getfield 192, 3) := by decide +kernel
theorem dX8_rule_82 : decode cX8_rule 82 = .ok (.goto 22, 3) := by decide +kernel
theorem dX8_rule_85 : decode cX8_rule 85 = .ok (.iload_n 1, 1) := by decide +kernel
theorem dX8_rule_86 : decode cX8_rule 86 = .ok (.bipush 6, 2) := by decide +kernel
theorem dX8_rule_88 : decode cX8_rule 88 = .ok (.if_icmp .ne 12, 3) := by decide +kernel
theorem dX8_rule_91 : decode cX8_rule 91 = .ok (.aload_n 0, 1) := by decide +kernel
theorem dX8_rule_92 : decode cX8_rule 92 = .ok (.getfield 56, 3) := by decide +kernel
theorem dX8_rule_95 : decode cX8_rule 95 = .ok (.iload_n 2, 1) := by decide +kernel
theorem dX8_rule_96 : decode cX8_rule 96 = .ok (.iaload, 1) := by decide +kernel
theorem dX8_rule_97 : decode cX8_rule 97 = .ok (.goto 7, 3) := by decide +kernel
theorem dX8_rule_100 : decode cX8_rule 100 = .ok (.aload_n 0, 1) := by decide +kernel
theorem dX8_rule_101 : decode cX8_rule 101 = .ok (.getfield 273, 3) := by decide +kernel
theorem dX8_rule_104 : decode cX8_rule 104 = .ok (.ireturn, 1) := by decide +kernel
theorem dX8_least_0 : decode cX8_least 0 = .ok (.lload_n 0, 1) := by decide +kernel
theorem dX8_least_1 : decode cX8_least 1 = .ok (.lload_n 2, 1) := by decide +kernel
theorem dX8_least_2 : decode cX8_least 2 = .ok (.lcmp, 1) := by decide +kernel
theorem dX8_least_3 : decode cX8_least 3 = .ok (.ifCond .ge 7, 3) := by decide +kernel
theorem dX8_least_6 : decode cX8_least 6 = .ok (.lload_n 0, 1) := by decide +kernel
theorem dX8_least_7 : decode cX8_least 7 = .ok (.goto 4, 3) := by decide +kernel
theorem dX8_least_10 : decode cX8_least 10 = .ok (.lload_n 2, 1) := by decide +kernel
theorem dX8_least_11 : decode cX8_least 11 = .ok (.lreturn, 1) := by decide +kernel
theorem dX8_most_0 : decode cX8_most 0 = .ok (.lload_n 0, 1) := by decide +kernel
theorem dX8_most_1 : decode cX8_most 1 = .ok (.lload_n 2, 1) := by decide +kernel
theorem dX8_most_2 : decode cX8_most 2 = .ok (.lcmp, 1) := by decide +kernel
theorem dX8_most_3 : decode cX8_most 3 = .ok (.ifCond .le 7, 3) := by decide +kernel
theorem dX8_most_6 : decode cX8_most 6 = .ok (.lload_n 0, 1) := by decide +kernel
theorem dX8_most_7 : decode cX8_most 7 = .ok (.goto 4, 3) := by decide +kernel
theorem dX8_most_10 : decode cX8_most 10 = .ok (.lload_n 2, 1) := by decide +kernel
theorem dX8_most_11 : decode cX8_most 11 = .ok (.lreturn, 1) := by decide +kernel
theorem dX8_lowOf_0 : decode cX8_lowOf 0 = .ok (.aload_n 0, 1) := by decide +kernel
theorem dX8_lowOf_1 : decode cX8_lowOf 1 = .ok (.getfield 56, 3) := by decide +kernel
theorem dX8_lowOf_4 : decode cX8_lowOf 4 = .ok (.aload_n 0, 1) := by decide +kernel
theorem dX8_lowOf_5 : decode cX8_lowOf 5 = .ok (.getfield 13, 3) := by decide +kernel
theorem dX8_lowOf_8 : decode cX8_lowOf 8 = .ok (.iload_n 1, 1) := by decide +kernel
theorem dX8_lowOf_9 : decode cX8_lowOf 9 = .ok (.iaload, 1) := by decide +kernel
theorem dX8_lowOf_10 : decode cX8_lowOf 10 = .ok (.iaload, 1) := by decide +kernel
theorem dX8_lowOf_11 : decode cX8_lowOf 11 = .ok (.istore_n 2, 1) := by decide +kernel
theorem dX8_lowOf_12 : decode cX8_lowOf 12 = .ok (.aload_n 0, 1) := by decide +kernel
theorem dX8_lowOf_13 : decode cX8_lowOf 13 = .ok (.getfield 7, 3) := by decide +kernel
theorem dX8_lowOf_16 : decode cX8_lowOf 16 = .ok (.iload_n 1, 1) := by decide +kernel
theorem dX8_lowOf_17 : decode cX8_lowOf 17 = .ok (.iaload, 1) := by decide +kernel
theorem dX8_lowOf_18 : decode cX8_lowOf 18 = .ok (.ifCond .eq 14, 3) := by decide +kernel
theorem dX8_lowOf_21 : decode cX8_lowOf 21 = .ok (.aload_n 0, 1) := by decide +kernel
theorem dX8_lowOf_22 : decode cX8_lowOf 22 = .ok (.getfield 22, 3) := by decide +kernel
theorem dX8_lowOf_25 : decode cX8_lowOf 25 = .ok (.iload_n 1, 1) := by decide +kernel
theorem dX8_lowOf_26 : decode cX8_lowOf 26 = .ok (.iaload, 1) := by decide +kernel
theorem dX8_lowOf_27 : decode cX8_lowOf 27 = .ok (.i2l, 1) := by decide +kernel
theorem dX8_lowOf_28 : decode cX8_lowOf 28 = .ok (.iload_n 2, 1) := by decide +kernel
theorem dX8_lowOf_29 : decode cX8_lowOf 29 = .ok (.i2l, 1) := by decide +kernel
theorem dX8_lowOf_30 : decode cX8_lowOf 30 = .ok (.lsub, 1) := by decide +kernel
theorem dX8_lowOf_31 : decode cX8_lowOf 31 = .ok (.lreturn, 1) := by decide +kernel
theorem dX8_lowOf_32 : decode cX8_lowOf 32 = .ok (.iconst 4, 1) := by decide +kernel
theorem dX8_lowOf_33 : decode cX8_lowOf 33 = .ok (.aload_n 0, 1) := by decide +kernel
theorem dX8_lowOf_34 : decode cX8_lowOf 34 = .ok (.getfield 16, 3) := by decide +kernel
theorem dX8_lowOf_37 : decode cX8_lowOf 37 = .ok (.iload_n 1, 1) := by decide +kernel
theorem dX8_lowOf_38 : decode cX8_lowOf 38 = .ok (.iaload, 1) := by decide +kernel
theorem dX8_lowOf_39 : decode cX8_lowOf 39 = .ok (.imul, 1) := by decide +kernel
theorem dX8_lowOf_40 : decode cX8_lowOf 40 = .ok (.istore_n 3, 1) := by decide +kernel
theorem dX8_lowOf_41 : decode cX8_lowOf 41 = .ok (.aload_n 0, 1) := by decide +kernel
theorem dX8_lowOf_42 : decode cX8_lowOf 42 = .ok (.getfield 53, 3) := by decide +kernel
theorem dX8_lowOf_45 : decode cX8_lowOf 45 = .ok (.iload_n 3, 1) := by decide +kernel
theorem dX8_lowOf_46 : decode cX8_lowOf 46 = .ok (.iaload, 1) := by decide +kernel
theorem dX8_lowOf_47 : decode cX8_lowOf 47 = .ok (.i2l, 1) := by decide +kernel
theorem dX8_lowOf_48 : decode cX8_lowOf 48 = .ok (.aload_n 0, 1) := by decide +kernel
theorem dX8_lowOf_49 : decode cX8_lowOf 49 = .ok (.getfield 28, 3) := by decide +kernel
theorem dX8_lowOf_52 : decode cX8_lowOf 52 = .ok (.iload_n 1, 1) := by decide +kernel
theorem dX8_lowOf_53 : decode cX8_lowOf 53 = .ok (.iaload, 1) := by decide +kernel
theorem dX8_lowOf_54 : decode cX8_lowOf 54 = .ok (.i2l, 1) := by decide +kernel
theorem dX8_lowOf_55 : decode cX8_lowOf 55 = .ok (.lmul, 1) := by decide +kernel
theorem dX8_lowOf_56 : decode cX8_lowOf 56 = .ok (.aload_n 0, 1) := by decide +kernel
theorem dX8_lowOf_57 : decode cX8_lowOf 57 = .ok (.getfield 53, 3) := by decide +kernel
theorem dX8_lowOf_60 : decode cX8_lowOf 60 = .ok (.iload_n 3, 1) := by decide +kernel
theorem dX8_lowOf_61 : decode cX8_lowOf 61 = .ok (.iconst 1, 1) := by decide +kernel
theorem dX8_lowOf_62 : decode cX8_lowOf 62 = .ok (.iadd, 1) := by decide +kernel
theorem dX8_lowOf_63 : decode cX8_lowOf 63 = .ok (.iaload, 1) := by decide +kernel
theorem dX8_lowOf_64 : decode cX8_lowOf 64 = .ok (.i2l, 1) := by decide +kernel
theorem dX8_lowOf_65 : decode cX8_lowOf 65 = .ok (.aload_n 0, 1) := by decide +kernel
theorem dX8_lowOf_66 : decode cX8_lowOf 66 = .ok (.getfield 28, 3) := by decide +kernel
theorem dX8_lowOf_69 : decode cX8_lowOf 69 = .ok (.iload_n 1, 1) := by decide +kernel
theorem dX8_lowOf_70 : decode cX8_lowOf 70 = .ok (.iaload, 1) := by decide +kernel
theorem dX8_lowOf_71 : decode cX8_lowOf 71 = .ok (.i2l, 1) := by decide +kernel
theorem dX8_lowOf_72 : decode cX8_lowOf 72 = .ok (.lmul, 1) := by decide +kernel
theorem dX8_lowOf_73 : decode cX8_lowOf 73 = .ok (.invokestatic 290, 3) := by decide +kernel
theorem dX8_lowOf_76 : decode cX8_lowOf 76 = .ok (.aload_n 0, 1) := by decide +kernel
theorem dX8_lowOf_77 : decode cX8_lowOf 77 = .ok (.getfield 53, 3) := by decide +kernel
theorem dX8_lowOf_80 : decode cX8_lowOf 80 = .ok (.iload_n 3, 1) := by decide +kernel
theorem dX8_lowOf_81 : decode cX8_lowOf 81 = .ok (.iconst 2, 1) := by decide +kernel
theorem dX8_lowOf_82 : decode cX8_lowOf 82 = .ok (.iadd, 1) := by decide +kernel
theorem dX8_lowOf_83 : decode cX8_lowOf 83 = .ok (.iaload, 1) := by decide +kernel
theorem dX8_lowOf_84 : decode cX8_lowOf 84 = .ok (.i2l, 1) := by decide +kernel
theorem dX8_lowOf_85 : decode cX8_lowOf 85 = .ok (.aload_n 0, 1) := by decide +kernel
theorem dX8_lowOf_86 : decode cX8_lowOf 86 = .ok (.getfield 31, 3) := by decide +kernel
theorem dX8_lowOf_89 : decode cX8_lowOf 89 = .ok (.iload_n 1, 1) := by decide +kernel
theorem dX8_lowOf_90 : decode cX8_lowOf 90 = .ok (.iaload, 1) := by decide +kernel
theorem dX8_lowOf_91 : decode cX8_lowOf 91 = .ok (.i2l, 1) := by decide +kernel
theorem dX8_lowOf_92 : decode cX8_lowOf 92 = .ok (.lmul, 1) := by decide +kernel
theorem dX8_lowOf_93 : decode cX8_lowOf 93 = .ok (.aload_n 0, 1) := by decide +kernel
theorem dX8_lowOf_94 : decode cX8_lowOf 94 = .ok (.getfield 53, 3) := by decide +kernel
theorem dX8_lowOf_97 : decode cX8_lowOf 97 = .ok (.iload_n 3, 1) := by decide +kernel
theorem dX8_lowOf_98 : decode cX8_lowOf 98 = .ok (.iconst 3, 1) := by decide +kernel
theorem dX8_lowOf_99 : decode cX8_lowOf 99 = .ok (.iadd, 1) := by decide +kernel
theorem dX8_lowOf_100 : decode cX8_lowOf 100 = .ok (.iaload, 1) := by decide +kernel
theorem dX8_lowOf_101 : decode cX8_lowOf 101 = .ok (.i2l, 1) := by decide +kernel
theorem dX8_lowOf_102 : decode cX8_lowOf 102 = .ok (.aload_n 0, 1) := by decide +kernel
theorem dX8_lowOf_103 : decode cX8_lowOf 103 = .ok (.getfield 31, 3) := by decide +kernel
theorem dX8_lowOf_106 : decode cX8_lowOf 106 = .ok (.iload_n 1, 1) := by decide +kernel
theorem dX8_lowOf_107 : decode cX8_lowOf 107 = .ok (.iaload, 1) := by decide +kernel
theorem dX8_lowOf_108 : decode cX8_lowOf 108 = .ok (.i2l, 1) := by decide +kernel
theorem dX8_lowOf_109 : decode cX8_lowOf 109 = .ok (.lmul, 1) := by decide +kernel
theorem dX8_lowOf_110 : decode cX8_lowOf 110 = .ok (.invokestatic 290, 3) := by decide +kernel
theorem dX8_lowOf_113 : decode cX8_lowOf 113 = .ok (.ladd, 1) := by decide +kernel
theorem dX8_lowOf_114 : decode cX8_lowOf 114 = .ok (.lstore 4, 2) := by decide +kernel
theorem dX8_lowOf_116 : decode cX8_lowOf 116 = .ok (.aload_n 0, 1) := by decide +kernel
theorem dX8_lowOf_117 : decode cX8_lowOf 117 = .ok (.getfield 22, 3) := by decide +kernel
theorem dX8_lowOf_120 : decode cX8_lowOf 120 = .ok (.iload_n 1, 1) := by decide +kernel
theorem dX8_lowOf_121 : decode cX8_lowOf 121 = .ok (.iaload, 1) := by decide +kernel
theorem dX8_lowOf_122 : decode cX8_lowOf 122 = .ok (.aload_n 0, 1) := by decide +kernel
theorem dX8_lowOf_123 : decode cX8_lowOf 123 = .ok (.getfield 25, 3) := by decide +kernel
theorem dX8_lowOf_126 : decode cX8_lowOf 126 = .ok (.iload_n 1, 1) := by decide +kernel
theorem dX8_lowOf_127 : decode cX8_lowOf 127 = .ok (.iaload, 1) := by decide +kernel
theorem dX8_lowOf_128 : decode cX8_lowOf 128 = .ok (.isub, 1) := by decide +kernel
theorem dX8_lowOf_129 : decode cX8_lowOf 129 = .ok (.i2l, 1) := by decide +kernel
theorem dX8_lowOf_130 : decode cX8_lowOf 130 = .ok (.lload 4, 2) := by decide +kernel
theorem dX8_lowOf_132 : decode cX8_lowOf 132 = .ok (.ldc2_w 293, 3) := by decide +kernel
theorem dX8_lowOf_135 : decode cX8_lowOf 135 = .ok (.invokestatic 295, 3) := by decide +kernel
theorem dX8_lowOf_138 : decode cX8_lowOf 138 = .ok (.lsub, 1) := by decide +kernel
theorem dX8_lowOf_139 : decode cX8_lowOf 139 = .ok (.aload_n 0, 1) := by decide +kernel
theorem dX8_lowOf_140 : decode cX8_lowOf 140 = .ok (.getfield 47, 3) := by decide +kernel
theorem dX8_lowOf_143 : decode cX8_lowOf 143 = .ok (.aload_n 0, 1) := by decide +kernel
theorem dX8_lowOf_144 : decode cX8_lowOf 144 = .ok (.getfield 19, 3) := by decide +kernel
theorem dX8_lowOf_147 : decode cX8_lowOf 147 = .ok (.iload_n 1, 1) := by decide +kernel
theorem dX8_lowOf_148 : decode cX8_lowOf 148 = .ok (.iaload, 1) := by decide +kernel
theorem dX8_lowOf_149 : decode cX8_lowOf 149 = .ok (.iaload, 1) := by decide +kernel
theorem dX8_lowOf_150 : decode cX8_lowOf 150 = .ok (.i2l, 1) := by decide +kernel
theorem dX8_lowOf_151 : decode cX8_lowOf 151 = .ok (.aload_n 0, 1) := by decide +kernel
theorem dX8_lowOf_152 : decode cX8_lowOf 152 = .ok (.getfield 192, 3) := by decide +kernel
theorem dX8_lowOf_155 : decode cX8_lowOf 155 = .ok (.i2l, 1) := by decide +kernel
theorem dX8_lowOf_156 : decode cX8_lowOf 156 = .ok (.lmul, 1) := by decide +kernel
theorem dX8_lowOf_157 : decode cX8_lowOf 157 = .ok (.ldc2_w 298, 3) := by decide +kernel
theorem dX8_lowOf_160 : decode cX8_lowOf 160 = .ok (.invokestatic 295, 3) := by decide +kernel
theorem dX8_lowOf_163 : decode cX8_lowOf 163 = .ok (.lsub, 1) := by decide +kernel
theorem dX8_lowOf_164 : decode cX8_lowOf 164 = .ok (.iload_n 2, 1) := by decide +kernel
theorem dX8_lowOf_165 : decode cX8_lowOf 165 = .ok (.i2l, 1) := by decide +kernel
theorem dX8_lowOf_166 : decode cX8_lowOf 166 = .ok (.lsub, 1) := by decide +kernel
theorem dX8_lowOf_167 : decode cX8_lowOf 167 = .ok (.lreturn, 1) := by decide +kernel
theorem dX8_highOf_0 : decode cX8_highOf 0 = .ok (.aload_n 0, 1) := by decide +kernel
theorem dX8_highOf_1 : decode cX8_highOf 1 = .ok (.getfield 56, 3) := by decide +kernel
theorem dX8_highOf_4 : decode cX8_highOf 4 = .ok (.aload_n 0, 1) := by decide +kernel
theorem dX8_highOf_5 : decode cX8_highOf 5 = .ok (.getfield 13, 3) := by decide +kernel
theorem dX8_highOf_8 : decode cX8_highOf 8 = .ok (.iload_n 1, 1) := by decide +kernel
theorem dX8_highOf_9 : decode cX8_highOf 9 = .ok (.iaload, 1) := by decide +kernel
theorem dX8_highOf_10 : decode cX8_highOf 10 = .ok (.iaload, 1) := by decide +kernel
theorem dX8_highOf_11 : decode cX8_highOf 11 = .ok (.istore_n 2, 1) := by decide +kernel
theorem dX8_highOf_12 : decode cX8_highOf 12 = .ok (.aload_n 0, 1) := by decide +kernel
theorem dX8_highOf_13 : decode cX8_highOf 13 = .ok (.getfield 7, 3) := by decide +kernel
theorem dX8_highOf_16 : decode cX8_highOf 16 = .ok (.iload_n 1, 1) := by decide +kernel
theorem dX8_highOf_17 : decode cX8_highOf 17 = .ok (.iaload, 1) := by decide +kernel
theorem dX8_highOf_18 : decode cX8_highOf 18 = .ok (.ifCond .eq 14, 3) := by decide +kernel
theorem dX8_highOf_21 : decode cX8_highOf 21 = .ok (.aload_n 0, 1) := by decide +kernel
theorem dX8_highOf_22 : decode cX8_highOf 22 = .ok (.getfield 25, 3) := by decide +kernel
theorem dX8_highOf_25 : decode cX8_highOf 25 = .ok (.iload_n 1, 1) := by decide +kernel
theorem dX8_highOf_26 : decode cX8_highOf 26 = .ok (.iaload, 1) := by decide +kernel
theorem dX8_highOf_27 : decode cX8_highOf 27 = .ok (.i2l, 1) := by decide +kernel
theorem dX8_highOf_28 : decode cX8_highOf 28 = .ok (.iload_n 2, 1) := by decide +kernel
theorem dX8_highOf_29 : decode cX8_highOf 29 = .ok (.i2l, 1) := by decide +kernel
theorem dX8_highOf_30 : decode cX8_highOf 30 = .ok (.ladd, 1) := by decide +kernel
theorem dX8_highOf_31 : decode cX8_highOf 31 = .ok (.lreturn, 1) := by decide +kernel
theorem dX8_highOf_32 : decode cX8_highOf 32 = .ok (.iconst 4, 1) := by decide +kernel
theorem dX8_highOf_33 : decode cX8_highOf 33 = .ok (.aload_n 0, 1) := by decide +kernel
theorem dX8_highOf_34 : decode cX8_highOf 34 = .ok (.getfield 16, 3) := by decide +kernel
theorem dX8_highOf_37 : decode cX8_highOf 37 = .ok (.iload_n 1, 1) := by decide +kernel
theorem dX8_highOf_38 : decode cX8_highOf 38 = .ok (.iaload, 1) := by decide +kernel
theorem dX8_highOf_39 : decode cX8_highOf 39 = .ok (.imul, 1) := by decide +kernel
theorem dX8_highOf_40 : decode cX8_highOf 40 = .ok (.istore_n 3, 1) := by decide +kernel
theorem dX8_highOf_41 : decode cX8_highOf 41 = .ok (.aload_n 0, 1) := by decide +kernel
theorem dX8_highOf_42 : decode cX8_highOf 42 = .ok (.getfield 53, 3) := by decide +kernel
theorem dX8_highOf_45 : decode cX8_highOf 45 = .ok (.iload_n 3, 1) := by decide +kernel
theorem dX8_highOf_46 : decode cX8_highOf 46 = .ok (.iaload, 1) := by decide +kernel
theorem dX8_highOf_47 : decode cX8_highOf 47 = .ok (.i2l, 1) := by decide +kernel
theorem dX8_highOf_48 : decode cX8_highOf 48 = .ok (.aload_n 0, 1) := by decide +kernel
theorem dX8_highOf_49 : decode cX8_highOf 49 = .ok (.getfield 28, 3) := by decide +kernel
theorem dX8_highOf_52 : decode cX8_highOf 52 = .ok (.iload_n 1, 1) := by decide +kernel
theorem dX8_highOf_53 : decode cX8_highOf 53 = .ok (.iaload, 1) := by decide +kernel
theorem dX8_highOf_54 : decode cX8_highOf 54 = .ok (.i2l, 1) := by decide +kernel
theorem dX8_highOf_55 : decode cX8_highOf 55 = .ok (.lmul, 1) := by decide +kernel
theorem dX8_highOf_56 : decode cX8_highOf 56 = .ok (.aload_n 0, 1) := by decide +kernel
theorem dX8_highOf_57 : decode cX8_highOf 57 = .ok (.getfield 53, 3) := by decide +kernel
theorem dX8_highOf_60 : decode cX8_highOf 60 = .ok (.iload_n 3, 1) := by decide +kernel
theorem dX8_highOf_61 : decode cX8_highOf 61 = .ok (.iconst 1, 1) := by decide +kernel
theorem dX8_highOf_62 : decode cX8_highOf 62 = .ok (.iadd, 1) := by decide +kernel
theorem dX8_highOf_63 : decode cX8_highOf 63 = .ok (.iaload, 1) := by decide +kernel
theorem dX8_highOf_64 : decode cX8_highOf 64 = .ok (.i2l, 1) := by decide +kernel
theorem dX8_highOf_65 : decode cX8_highOf 65 = .ok (.aload_n 0, 1) := by decide +kernel
theorem dX8_highOf_66 : decode cX8_highOf 66 = .ok (.getfield 28, 3) := by decide +kernel
theorem dX8_highOf_69 : decode cX8_highOf 69 = .ok (.iload_n 1, 1) := by decide +kernel
theorem dX8_highOf_70 : decode cX8_highOf 70 = .ok (.iaload, 1) := by decide +kernel
theorem dX8_highOf_71 : decode cX8_highOf 71 = .ok (.i2l, 1) := by decide +kernel
theorem dX8_highOf_72 : decode cX8_highOf 72 = .ok (.lmul, 1) := by decide +kernel
theorem dX8_highOf_73 : decode cX8_highOf 73 = .ok (.invokestatic 300, 3) := by decide +kernel
theorem dX8_highOf_76 : decode cX8_highOf 76 = .ok (.aload_n 0, 1) := by decide +kernel
theorem dX8_highOf_77 : decode cX8_highOf 77 = .ok (.getfield 53, 3) := by decide +kernel
theorem dX8_highOf_80 : decode cX8_highOf 80 = .ok (.iload_n 3, 1) := by decide +kernel
theorem dX8_highOf_81 : decode cX8_highOf 81 = .ok (.iconst 2, 1) := by decide +kernel
theorem dX8_highOf_82 : decode cX8_highOf 82 = .ok (.iadd, 1) := by decide +kernel
theorem dX8_highOf_83 : decode cX8_highOf 83 = .ok (.iaload, 1) := by decide +kernel
theorem dX8_highOf_84 : decode cX8_highOf 84 = .ok (.i2l, 1) := by decide +kernel
theorem dX8_highOf_85 : decode cX8_highOf 85 = .ok (.aload_n 0, 1) := by decide +kernel
theorem dX8_highOf_86 : decode cX8_highOf 86 = .ok (.getfield 31, 3) := by decide +kernel
theorem dX8_highOf_89 : decode cX8_highOf 89 = .ok (.iload_n 1, 1) := by decide +kernel
theorem dX8_highOf_90 : decode cX8_highOf 90 = .ok (.iaload, 1) := by decide +kernel
theorem dX8_highOf_91 : decode cX8_highOf 91 = .ok (.i2l, 1) := by decide +kernel
theorem dX8_highOf_92 : decode cX8_highOf 92 = .ok (.lmul, 1) := by decide +kernel
theorem dX8_highOf_93 : decode cX8_highOf 93 = .ok (.aload_n 0, 1) := by decide +kernel
theorem dX8_highOf_94 : decode cX8_highOf 94 = .ok (.getfield 53, 3) := by decide +kernel
theorem dX8_highOf_97 : decode cX8_highOf 97 = .ok (.iload_n 3, 1) := by decide +kernel
theorem dX8_highOf_98 : decode cX8_highOf 98 = .ok (.iconst 3, 1) := by decide +kernel
theorem dX8_highOf_99 : decode cX8_highOf 99 = .ok (.iadd, 1) := by decide +kernel
theorem dX8_highOf_100 : decode cX8_highOf 100 = .ok (.iaload, 1) := by decide +kernel
theorem dX8_highOf_101 : decode cX8_highOf 101 = .ok (.i2l, 1) := by decide +kernel
theorem dX8_highOf_102 : decode cX8_highOf 102 = .ok (.aload_n 0, 1) := by decide +kernel
theorem dX8_highOf_103 : decode cX8_highOf 103 = .ok (.getfield 31, 3) := by decide +kernel
theorem dX8_highOf_106 : decode cX8_highOf 106 = .ok (.iload_n 1, 1) := by decide +kernel
theorem dX8_highOf_107 : decode cX8_highOf 107 = .ok (.iaload, 1) := by decide +kernel
theorem dX8_highOf_108 : decode cX8_highOf 108 = .ok (.i2l, 1) := by decide +kernel
theorem dX8_highOf_109 : decode cX8_highOf 109 = .ok (.lmul, 1) := by decide +kernel
theorem dX8_highOf_110 : decode cX8_highOf 110 = .ok (.invokestatic 300, 3) := by decide +kernel
theorem dX8_highOf_113 : decode cX8_highOf 113 = .ok (.ladd, 1) := by decide +kernel
theorem dX8_highOf_114 : decode cX8_highOf 114 = .ok (.lstore 4, 2) := by decide +kernel
theorem dX8_highOf_116 : decode cX8_highOf 116 = .ok (.aload_n 0, 1) := by decide +kernel
theorem dX8_highOf_117 : decode cX8_highOf 117 = .ok (.getfield 22, 3) := by decide +kernel
theorem dX8_highOf_120 : decode cX8_highOf 120 = .ok (.iload_n 1, 1) := by decide +kernel
theorem dX8_highOf_121 : decode cX8_highOf 121 = .ok (.iaload, 1) := by decide +kernel
theorem dX8_highOf_122 : decode cX8_highOf 122 = .ok (.aload_n 0, 1) := by decide +kernel
theorem dX8_highOf_123 : decode cX8_highOf 123 = .ok (.getfield 25, 3) := by decide +kernel
theorem dX8_highOf_126 : decode cX8_highOf 126 = .ok (.iload_n 1, 1) := by decide +kernel
theorem dX8_highOf_127 : decode cX8_highOf 127 = .ok (.iaload, 1) := by decide +kernel
theorem dX8_highOf_128 : decode cX8_highOf 128 = .ok (.iadd, 1) := by decide +kernel
theorem dX8_highOf_129 : decode cX8_highOf 129 = .ok (.i2l, 1) := by decide +kernel
theorem dX8_highOf_130 : decode cX8_highOf 130 = .ok (.lload 4, 2) := by decide +kernel
theorem dX8_highOf_132 : decode cX8_highOf 132 = .ok (.ldc2_w 293, 3) := by decide +kernel
theorem dX8_highOf_135 : decode cX8_highOf 135 = .ok (.invokestatic 124, 3) := by decide +kernel
theorem dX8_highOf_138 : decode cX8_highOf 138 = .ok (.lsub, 1) := by decide +kernel
theorem dX8_highOf_139 : decode cX8_highOf 139 = .ok (.aload_n 0, 1) := by decide +kernel
theorem dX8_highOf_140 : decode cX8_highOf 140 = .ok (.getfield 44, 3) := by decide +kernel
theorem dX8_highOf_143 : decode cX8_highOf 143 = .ok (.aload_n 0, 1) := by decide +kernel
theorem dX8_highOf_144 : decode cX8_highOf 144 = .ok (.getfield 19, 3) := by decide +kernel
theorem dX8_highOf_147 : decode cX8_highOf 147 = .ok (.iload_n 1, 1) := by decide +kernel
theorem dX8_highOf_148 : decode cX8_highOf 148 = .ok (.iaload, 1) := by decide +kernel
theorem dX8_highOf_149 : decode cX8_highOf 149 = .ok (.iaload, 1) := by decide +kernel
theorem dX8_highOf_150 : decode cX8_highOf 150 = .ok (.i2l, 1) := by decide +kernel
theorem dX8_highOf_151 : decode cX8_highOf 151 = .ok (.aload_n 0, 1) := by decide +kernel
theorem dX8_highOf_152 : decode cX8_highOf 152 = .ok (.getfield 189, 3) := by decide +kernel
theorem dX8_highOf_155 : decode cX8_highOf 155 = .ok (.i2l, 1) := by decide +kernel
theorem dX8_highOf_156 : decode cX8_highOf 156 = .ok (.lmul, 1) := by decide +kernel
theorem dX8_highOf_157 : decode cX8_highOf 157 = .ok (.ldc2_w 298, 3) := by decide +kernel
theorem dX8_highOf_160 : decode cX8_highOf 160 = .ok (.invokestatic 124, 3) := by decide +kernel
theorem dX8_highOf_163 : decode cX8_highOf 163 = .ok (.lsub, 1) := by decide +kernel
theorem dX8_highOf_164 : decode cX8_highOf 164 = .ok (.iload_n 2, 1) := by decide +kernel
theorem dX8_highOf_165 : decode cX8_highOf 165 = .ok (.i2l, 1) := by decide +kernel
theorem dX8_highOf_166 : decode cX8_highOf 166 = .ok (.ladd, 1) := by decide +kernel
theorem dX8_highOf_167 : decode cX8_highOf 167 = .ok (.lreturn, 1) := by decide +kernel
theorem dX8_isIn_0 : decode cX8_isIn 0 = .ok (.iload_n 1, 1) := by decide +kernel
theorem dX8_isIn_1 : decode cX8_isIn 1 = .ok (.iload_n 2, 1) := by decide +kernel
theorem dX8_isIn_2 : decode cX8_isIn 2 = .ok (.if_icmp .ge 54, 3) := by decide +kernel
theorem dX8_isIn_5 : decode cX8_isIn 5 = .ok (.aload_n 0, 1) := by decide +kernel
theorem dX8_isIn_6 : decode cX8_isIn 6 = .ok (.getfield 38, 3) := by decide +kernel
theorem dX8_isIn_9 : decode cX8_isIn 9 = .ok (.iload_n 1, 1) := by decide +kernel
theorem dX8_isIn_10 : decode cX8_isIn 10 = .ok (.baload, 1) := by decide +kernel
theorem dX8_isIn_11 : decode cX8_isIn 11 = .ok (.ifCond .ne 45, 3) := by decide +kernel
theorem dX8_isIn_14 : decode cX8_isIn 14 = .ok (.aload_n 0, 1) := by decide +kernel
theorem dX8_isIn_15 : decode cX8_isIn 15 = .ok (.getfield 34, 3) := by decide +kernel
theorem dX8_isIn_18 : decode cX8_isIn 18 = .ok (.iload_n 1, 1) := by decide +kernel
theorem dX8_isIn_19 : decode cX8_isIn 19 = .ok (.baload, 1) := by decide +kernel
theorem dX8_isIn_20 : decode cX8_isIn 20 = .ok (.ifCond .ne 36, 3) := by decide +kernel
theorem dX8_isIn_23 : decode cX8_isIn 23 = .ok (.iload_n 1, 1) := by decide +kernel
theorem dX8_isIn_24 : decode cX8_isIn 24 = .ok (.aload_n 0, 1) := by decide +kernel
theorem dX8_isIn_25 : decode cX8_isIn 25 = .ok (.getfield 94, 3) := by decide +kernel
theorem dX8_isIn_28 : decode cX8_isIn 28 = .ok (.if_icmp .eq 28, 3) := by decide +kernel
theorem dX8_isIn_31 : decode cX8_isIn 31 = .ok (.iload_n 1, 1) := by decide +kernel
theorem dX8_isIn_32 : decode cX8_isIn 32 = .ok (.aload_n 0, 1) := by decide +kernel
theorem dX8_isIn_33 : decode cX8_isIn 33 = .ok (.getfield 97, 3) := by decide +kernel
theorem dX8_isIn_36 : decode cX8_isIn 36 = .ok (.if_icmp .eq 20, 3) := by decide +kernel
theorem dX8_isIn_39 : decode cX8_isIn 39 = .ok (.aload_n 0, 1) := by decide +kernel
theorem dX8_isIn_40 : decode cX8_isIn 40 = .ok (.getfield 13, 3) := by decide +kernel
theorem dX8_isIn_43 : decode cX8_isIn 43 = .ok (.iload_n 1, 1) := by decide +kernel
theorem dX8_isIn_44 : decode cX8_isIn 44 = .ok (.iaload, 1) := by decide +kernel
theorem dX8_isIn_45 : decode cX8_isIn 45 = .ok (.aload_n 0, 1) := by decide +kernel
theorem dX8_isIn_46 : decode cX8_isIn 46 = .ok (.getfield 100, 3) := by decide +kernel
theorem dX8_isIn_49 : decode cX8_isIn 49 = .ok (.if_icmp .eq 7, 3) := by decide +kernel
theorem dX8_isIn_52 : decode cX8_isIn 52 = .ok (.iconst 1, 1) := by decide +kernel
theorem dX8_isIn_53 : decode cX8_isIn 53 = .ok (.goto 4, 3) := by decide +kernel
theorem dX8_isIn_56 : decode cX8_isIn 56 = .ok (.iconst 0, 1) := by decide +kernel
theorem dX8_isIn_57 : decode cX8_isIn 57 = .ok (.ireturn, 1) := by decide +kernel
theorem dX8_upper_0 : decode cX8_upper 0 = .ok (.aload_n 0, 1) := by decide +kernel
theorem dX8_upper_1 : decode cX8_upper 1 = .ok (.getfield 7, 3) := by decide +kernel
theorem dX8_upper_4 : decode cX8_upper 4 = .ok (.iload_n 1, 1) := by decide +kernel
theorem dX8_upper_5 : decode cX8_upper 5 = .ok (.iaload, 1) := by decide +kernel
theorem dX8_upper_6 : decode cX8_upper 6 = .ok (.iconst 2, 1) := by decide +kernel
theorem dX8_upper_7 : decode cX8_upper 7 = .ok (.if_icmp .ne 7, 3) := by decide +kernel
theorem dX8_upper_10 : decode cX8_upper 10 = .ok (.iconst 0, 1) := by decide +kernel
theorem dX8_upper_11 : decode cX8_upper 11 = .ok (.goto 11, 3) := by decide +kernel
theorem dX8_upper_14 : decode cX8_upper 14 = .ok (.iconst 1, 1) := by decide +kernel
theorem dX8_upper_15 : decode cX8_upper 15 = .ok (.aload_n 0, 1) := by decide +kernel
theorem dX8_upper_16 : decode cX8_upper 16 = .ok (.getfield 19, 3) := by decide +kernel
theorem dX8_upper_19 : decode cX8_upper 19 = .ok (.iload_n 1, 1) := by decide +kernel
theorem dX8_upper_20 : decode cX8_upper 20 = .ok (.iaload, 1) := by decide +kernel
theorem dX8_upper_21 : decode cX8_upper 21 = .ok (.iadd, 1) := by decide +kernel
theorem dX8_upper_22 : decode cX8_upper 22 = .ok (.ireturn, 1) := by decide +kernel
theorem dX8_lower_0 : decode cX8_lower 0 = .ok (.aload_n 0, 1) := by decide +kernel
theorem dX8_lower_1 : decode cX8_lower 1 = .ok (.getfield 7, 3) := by decide +kernel
theorem dX8_lower_4 : decode cX8_lower 4 = .ok (.iload_n 1, 1) := by decide +kernel
theorem dX8_lower_5 : decode cX8_lower 5 = .ok (.iaload, 1) := by decide +kernel
theorem dX8_lower_6 : decode cX8_lower 6 = .ok (.iconst 1, 1) := by decide +kernel
theorem dX8_lower_7 : decode cX8_lower 7 = .ok (.if_icmp .ne 7, 3) := by decide +kernel
theorem dX8_lower_10 : decode cX8_lower 10 = .ok (.iconst 0, 1) := by decide +kernel
theorem dX8_lower_11 : decode cX8_lower 11 = .ok (.goto 12, 3) := by decide +kernel
theorem dX8_lower_14 : decode cX8_lower 14 = .ok (.bipush 11, 2) := by decide +kernel
theorem dX8_lower_16 : decode cX8_lower 16 = .ok (.aload_n 0, 1) := by decide +kernel
theorem dX8_lower_17 : decode cX8_lower 17 = .ok (.getfield 16, 3) := by decide +kernel
theorem dX8_lower_20 : decode cX8_lower 20 = .ok (.iload_n 1, 1) := by decide +kernel
theorem dX8_lower_21 : decode cX8_lower 21 = .ok (.iaload, 1) := by decide +kernel
theorem dX8_lower_22 : decode cX8_lower 22 = .ok (.iadd, 1) := by decide +kernel
theorem dX8_lower_23 : decode cX8_lower 23 = .ok (.ireturn, 1) := by decide +kernel
theorem dX8_cell_0 : decode cX8_cell 0 = .ok (.bipush 17, 2) := by decide +kernel
theorem dX8_cell_2 : decode cX8_cell 2 = .ok (.iload_n 0, 1) := by decide +kernel
theorem dX8_cell_3 : decode cX8_cell 3 = .ok (.imul, 1) := by decide +kernel
theorem dX8_cell_4 : decode cX8_cell 4 = .ok (.iload_n 1, 1) := by decide +kernel
theorem dX8_cell_5 : decode cX8_cell 5 = .ok (.iadd, 1) := by decide +kernel
theorem dX8_cell_6 : decode cX8_cell 6 = .ok (.ireturn, 1) := by decide +kernel
theorem dX8_layWays_0 : decode cX8_layWays 0 = .ok (.iconst 0, 1) := by decide +kernel
theorem dX8_layWays_1 : decode cX8_layWays 1 = .ok (.istore_n 2, 1) := by decide +kernel
theorem dX8_layWays_2 : decode cX8_layWays 2 = .ok (.iload_n 2, 1) := by decide +kernel
theorem dX8_layWays_3 : decode cX8_layWays 3 = .ok (.sipush 289, 3) := by decide +kernel
theorem dX8_layWays_6 : decode cX8_layWays 6 = .ok (.if_icmp .ge 18, 3) := by decide +kernel
theorem dX8_layWays_9 : decode cX8_layWays 9 = .ok (.aload_n 0, 1) := by decide +kernel
theorem dX8_layWays_10 : decode cX8_layWays 10 = .ok (.getfield 90, 3) := by decide +kernel
theorem dX8_layWays_13 : decode cX8_layWays 13 = .ok (.iload_n 2, 1) := by decide +kernel
theorem dX8_layWays_14 : decode cX8_layWays 14 = .ok (.ldc2_w 303, 3) := by decide +kernel
theorem dX8_layWays_17 : decode cX8_layWays 17 = .ok (.lastore, 1) := by decide +kernel
theorem dX8_layWays_18 : decode cX8_layWays 18 = .ok (.iinc 2 1, 3) := by decide +kernel
theorem dX8_layWays_21 : decode cX8_layWays 21 = .ok (.goto (-19), 3) := by decide +kernel
theorem dX8_layWays_24 : decode cX8_layWays 24 = .ok (.iconst 0, 1) := by decide +kernel
theorem dX8_layWays_25 : decode cX8_layWays 25 = .ok (.istore_n 2, 1) := by decide +kernel
theorem dX8_layWays_26 : decode cX8_layWays 26 = .ok (.iload_n 2, 1) := by decide +kernel
theorem dX8_layWays_27 : decode cX8_layWays 27 = .ok (.bipush 17, 2) := by decide +kernel
theorem dX8_layWays_29 : decode cX8_layWays 29 = .ok (.if_icmp .ge 20, 3) := by decide +kernel
theorem dX8_layWays_32 : decode cX8_layWays 32 = .ok (.aload_n 0, 1) := by decide +kernel
theorem dX8_layWays_33 : decode cX8_layWays 33 = .ok (.getfield 90, 3) := by decide +kernel
theorem dX8_layWays_36 : decode cX8_layWays 36 = .ok (.iload_n 2, 1) := by decide +kernel
theorem dX8_layWays_37 : decode cX8_layWays 37 = .ok (.iload_n 2, 1) := by decide +kernel
theorem dX8_layWays_38 : decode cX8_layWays 38 = .ok (.invokestatic 305, 3) := by decide +kernel
theorem dX8_layWays_41 : decode cX8_layWays 41 = .ok (.lconst 0, 1) := by decide +kernel
theorem dX8_layWays_42 : decode cX8_layWays 42 = .ok (.lastore, 1) := by decide +kernel
theorem dX8_layWays_43 : decode cX8_layWays 43 = .ok (.iinc 2 1, 3) := by decide +kernel
theorem dX8_layWays_46 : decode cX8_layWays 46 = .ok (.goto (-20), 3) := by decide +kernel
theorem dX8_layWays_49 : decode cX8_layWays 49 = .ok (.iconst 0, 1) := by decide +kernel
theorem dX8_layWays_50 : decode cX8_layWays 50 = .ok (.istore_n 2, 1) := by decide +kernel
