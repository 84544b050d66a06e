theorem dX8_init_0 : decode cX8_init 0 = .ok (.aload_n 0, 1) := by decide +kernel
theorem dX8_init_1 : decode cX8_init 1 = .ok (.invokespecial 1, 3) := by decide +kernel
theorem dX8_init_4 : decode cX8_init 4 = .ok (.aload_n 0, 1) := by decide +kernel
theorem dX8_init_5 : decode cX8_init 5 = .ok (.bipush 24, 2) := by decide +kernel
theorem dX8_init_7 : decode cX8_init 7 = .ok (.newarray .int, 2) := by decide +kernel
theorem dX8_init_9 : decode cX8_init 9 = .ok (.putfield 7, 3) := by decide +kernel
theorem dX8_init_12 : decode cX8_init 12 = .ok (.aload_n 0, 1) := by decide +kernel
theorem dX8_init_13 : decode cX8_init 13 = .ok (.bipush 24, 2) := by decide +kernel
theorem dX8_init_15 : decode cX8_init 15 = .ok (.newarray .int, 2) := by decide +kernel
theorem dX8_init_17 : decode cX8_init 17 = .ok (.putfield 13, 3) := by decide +kernel
theorem dX8_init_20 : decode cX8_init 20 = .ok (.aload_n 0, 1) := by decide +kernel
theorem dX8_init_21 : decode cX8_init 21 = .ok (.bipush 24, 2) := by decide +kernel
theorem dX8_init_23 : decode cX8_init 23 = .ok (.newarray .int, 2) := by decide +kernel
theorem dX8_init_25 : decode cX8_init 25 = .ok (.putfield 16, 3) := by decide +kernel
theorem dX8_init_28 : decode cX8_init 28 = .ok (.aload_n 0, 1) := by decide +kernel
theorem dX8_init_29 : decode cX8_init 29 = .ok (.bipush 24, 2) := by decide +kernel
theorem dX8_init_31 : decode cX8_init 31 = .ok (.newarray .int, 2) := by decide +kernel
theorem dX8_init_33 : decode cX8_init 33 = .ok (.putfield 19, 3) := by decide +kernel
theorem dX8_init_36 : decode cX8_init 36 = .ok (.aload_n 0, 1) := by decide +kernel
theorem dX8_init_37 : decode cX8_init 37 = .ok (.bipush 6, 2) := by decide +kernel
theorem dX8_init_39 : decode cX8_init 39 = .ok (.newarray .int, 2) := by decide +kernel
theorem dX8_init_41 : decode cX8_init 41 = .ok (.putfield 22, 3) := by decide +kernel
theorem dX8_init_44 : decode cX8_init 44 = .ok (.aload_n 0, 1) := by decide +kernel
theorem dX8_init_45 : decode cX8_init 45 = .ok (.bipush 6, 2) := by decide +kernel
theorem dX8_init_47 : decode cX8_init 47 = .ok (.newarray .int, 2) := by decide +kernel
theorem dX8_init_49 : decode cX8_init 49 = .ok (.putfield 25, 3) := by decide +kernel
theorem dX8_init_52 : decode cX8_init 52 = .ok (.aload_n 0, 1) := by decide +kernel
theorem dX8_init_53 : decode cX8_init 53 = .ok (.bipush 60, 2) := by decide +kernel
theorem dX8_init_55 : decode cX8_init 55 = .ok (.newarray .int, 2) := by decide +kernel
theorem dX8_init_57 : decode cX8_init 57 = .ok (.putfield 28, 3) := by decide +kernel
theorem dX8_init_60 : decode cX8_init 60 = .ok (.aload_n 0, 1) := by decide +kernel
theorem dX8_init_61 : decode cX8_init 61 = .ok (.bipush 60, 2) := by decide +kernel
theorem dX8_init_63 : decode cX8_init 63 = .ok (.newarray .int, 2) := by decide +kernel
theorem dX8_init_65 : decode cX8_init 65 = .ok (.putfield 31, 3) := by decide +kernel
theorem dX8_init_68 : decode cX8_init 68 = .ok (.aload_n 0, 1) := by decide +kernel
theorem dX8_init_69 : decode cX8_init 69 = .ok (.bipush 60, 2) := by decide +kernel
theorem dX8_init_71 : decode cX8_init 71 = .ok (.newarray .int, 2) := by decide +kernel
theorem dX8_init_73 : decode cX8_init 73 = .ok (.putfield 34, 3) := by decide +kernel
theorem dX8_init_76 : decode cX8_init 76 = .ok (.aload_n 0, 1) := by decide +kernel
theorem dX8_init_77 : decode cX8_init 77 = .ok (.bipush 60, 2) := by decide +kernel
theorem dX8_init_79 : decode cX8_init 79 = .ok (.newarray .int, 2) := by decide +kernel
theorem dX8_init_81 : decode cX8_init 81 = .ok (.putfield 37, 3) := by decide +kernel
theorem dX8_init_84 : decode cX8_init 84 = .ok (.aload_n 0, 1) := by decide +kernel
theorem dX8_init_85 : decode cX8_init 85 = .ok (.bipush 12, 2) := by decide +kernel
theorem dX8_init_87 : decode cX8_init 87 = .ok (.newarray .int, 2) := by decide +kernel
theorem dX8_init_89 : decode cX8_init 89 = .ok (.putfield 40, 3) := by decide +kernel
theorem dX8_init_92 : decode cX8_init 92 = .ok (.aload_n 0, 1) := by decide +kernel
theorem dX8_init_93 : decode cX8_init 93 = .ok (.bipush 36, 2) := by decide +kernel
theorem dX8_init_95 : decode cX8_init 95 = .ok (.newarray .int, 2) := by decide +kernel
theorem dX8_init_97 : decode cX8_init 97 = .ok (.putfield 43, 3) := by decide +kernel
theorem dX8_init_100 : decode cX8_init 100 = .ok (.aload_n 0, 1) := by decide +kernel
theorem dX8_init_101 : decode cX8_init 101 = .ok (.sipush 288, 3) := by decide +kernel
theorem dX8_init_104 : decode cX8_init 104 = .ok (.newarray .boolean, 2) := by decide +kernel
theorem dX8_init_106 : decode cX8_init 106 = .ok (.putfield 46, 3) := by decide +kernel
theorem dX8_init_109 : decode cX8_init 109 = .ok (.aload_n 0, 1) := by decide +kernel
theorem dX8_init_110 : decode cX8_init 110 = .ok (.sipush 288, 3) := by decide +kernel
theorem dX8_init_113 : decode cX8_init 113 = .ok (.newarray .int, 2) := by decide +kernel
theorem dX8_init_115 : decode cX8_init 115 = .ok (.putfield 50, 3) := by decide +kernel
theorem dX8_init_118 : decode cX8_init 118 = .ok (.aload_n 0, 1) := by decide +kernel
theorem dX8_init_119 : decode cX8_init 119 = .ok (.sipush 288, 3) := by decide +kernel
theorem dX8_init_122 : decode cX8_init 122 = .ok (.newarray .int, 2) := by decide +kernel
theorem dX8_init_124 : decode cX8_init 124 = .ok (.putfield 53, 3) := by decide +kernel
theorem dX8_init_127 : decode cX8_init 127 = .ok (.aload_n 0, 1) := by decide +kernel
theorem dX8_init_128 : decode cX8_init 128 = .ok (.sipush 288, 3) := by decide +kernel
theorem dX8_init_131 : decode cX8_init 131 = .ok (.newarray .int, 2) := by decide +kernel
theorem dX8_init_133 : decode cX8_init 133 = .ok (.putfield 56, 3) := by decide +kernel
theorem dX8_init_136 : decode cX8_init 136 = .ok (.aload_n 0, 1) := by decide +kernel
theorem dX8_init_137 : decode cX8_init 137 = .ok (.sipush 288, 3) := by decide +kernel
theorem dX8_init_140 : decode cX8_init 140 = .ok (.newarray .int, 2) := by decide +kernel
theorem dX8_init_142 : decode cX8_init 142 = .ok (.putfield 59, 3) := by decide +kernel
theorem dX8_init_145 : decode cX8_init 145 = .ok (.aload_n 0, 1) := by decide +kernel
theorem dX8_init_146 : decode cX8_init 146 = .ok (.iconst 4, 1) := by decide +kernel
theorem dX8_init_147 : decode cX8_init 147 = .ok (.newarray .int, 2) := by decide +kernel
theorem dX8_init_149 : decode cX8_init 149 = .ok (.putfield 62, 3) := by decide +kernel
theorem dX8_init_152 : decode cX8_init 152 = .ok (.aload_n 0, 1) := by decide +kernel
theorem dX8_init_153 : decode cX8_init 153 = .ok (.sipush 400, 3) := by decide +kernel
theorem dX8_init_156 : decode cX8_init 156 = .ok (.newarray .int, 2) := by decide +kernel
theorem dX8_init_158 : decode cX8_init 158 = .ok (.putfield 65, 3) := by decide +kernel
theorem dX8_init_161 : decode cX8_init 161 = .ok (.aload_n 0, 1) := by decide +kernel
theorem dX8_init_162 : decode cX8_init 162 = .ok (.bipush 20, 2) := by decide +kernel
theorem dX8_init_164 : decode cX8_init 164 = .ok (.newarray .int, 2) := by decide +kernel
theorem dX8_init_166 : decode cX8_init 166 = .ok (.putfield 68, 3) := by decide +kernel
theorem dX8_init_169 : decode cX8_init 169 = .ok (.aload_n 0, 1) := by decide +kernel
theorem dX8_init_170 : decode cX8_init 170 = .ok (.bipush 20, 2) := by decide +kernel
theorem dX8_init_172 : decode cX8_init 172 = .ok (.newarray .int, 2) := by decide +kernel
theorem dX8_init_174 : decode cX8_init 174 = .ok (.putfield 71, 3) := by decide +kernel
theorem dX8_init_177 : decode cX8_init 177 = .ok (.aload_n 0, 1) := by decide +kernel
theorem dX8_init_178 : decode cX8_init 178 = .ok (.bipush 20, 2) := by decide +kernel
theorem dX8_init_180 : decode cX8_init 180 = .ok (.newarray .int, 2) := by decide +kernel
theorem dX8_init_182 : decode cX8_init 182 = .ok (.putfield 74, 3) := by decide +kernel
theorem dX8_init_185 : decode cX8_init 185 = .ok (.aload_n 0, 1) := by decide +kernel
theorem dX8_init_186 : decode cX8_init 186 = .ok (.sipush 240, 3) := by decide +kernel
theorem dX8_init_189 : decode cX8_init 189 = .ok (.newarray .boolean, 2) := by decide +kernel
theorem dX8_init_191 : decode cX8_init 191 = .ok (.putfield 77, 3) := by decide +kernel
theorem dX8_init_194 : decode cX8_init 194 = .ok (.aload_n 0, 1) := by decide +kernel
theorem dX8_init_195 : decode cX8_init 195 = .ok (.bipush 24, 2) := by decide +kernel
theorem dX8_init_197 : decode cX8_init 197 = .ok (.newarray .boolean, 2) := by decide +kernel
theorem dX8_init_199 : decode cX8_init 199 = .ok (.putfield 80, 3) := by decide +kernel
theorem dX8_init_202 : decode cX8_init 202 = .ok (.aload_n 0, 1) := by decide +kernel
theorem dX8_init_203 : decode cX8_init 203 = .ok (.bipush 24, 2) := by decide +kernel
theorem dX8_init_205 : decode cX8_init 205 = .ok (.newarray .int, 2) := by decide +kernel
theorem dX8_init_207 : decode cX8_init 207 = .ok (.putfield 83, 3) := by decide +kernel
theorem dX8_init_210 : decode cX8_init 210 = .ok (.aload_n 0, 1) := by decide +kernel
theorem dX8_init_211 : decode cX8_init 211 = .ok (.bipush 24, 2) := by decide +kernel
theorem dX8_init_213 : decode cX8_init 213 = .ok (.newarray .int, 2) := by decide +kernel
theorem dX8_init_215 : decode cX8_init 215 = .ok (.putfield 86, 3) := by decide +kernel
theorem dX8_init_218 : decode cX8_init 218 = .ok (.aload_n 0, 1) := by decide +kernel
theorem dX8_init_219 : decode cX8_init 219 = .ok (.bipush 24, 2) := by decide +kernel
theorem dX8_init_221 : decode cX8_init 221 = .ok (.newarray .int, 2) := by decide +kernel
theorem dX8_init_223 : decode cX8_init 223 = .ok (.putfield 89, 3) := by decide +kernel
theorem dX8_init_226 : decode cX8_init 226 = .ok (.iconst 0, 1) := by decide +kernel
theorem dX8_init_227 : decode cX8_init 227 = .ok (.istore_n 1, 1) := by decide +kernel
theorem dX8_init_228 : decode cX8_init 228 = .ok (.iload_n 1, 1) := by decide +kernel
theorem dX8_init_229 : decode cX8_init 229 = .ok (.bipush 24, 2) := by decide +kernel
theorem dX8_init_231 : decode cX8_init 231 = .ok (.if_icmp .ge 27, 3) := by decide +kernel
theorem dX8_init_234 : decode cX8_init 234 = .ok (.aload_n 0, 1) := by decide +kernel
theorem dX8_init_235 : decode cX8_init 235 = .ok (.getfield 16, 3) := by decide +kernel
theorem dX8_init_238 : decode cX8_init 238 = .ok (.iload_n 1, 1) := by decide +kernel
theorem dX8_init_239 : decode cX8_init 239 = .ok (.iload_n 1, 1) := by decide +kernel
theorem dX8_init_240 : decode cX8_init 240 = .ok (.iconst 1, 1) := by decide +kernel
theorem dX8_init_241 : decode cX8_init 241 = .ok (.iadd, 1) := by decide +kernel
theorem dX8_init_242 : decode cX8_init 242 = .ok (.iastore, 1) := by decide +kernel
theorem dX8_init_243 : decode cX8_init 243 = .ok (.aload_n 0, 1) := by decide +kernel
theorem dX8_init_244 : decode cX8_init 244 = .ok (.getfield 19, 3) := by decide +kernel
theorem dX8_init_247 : decode cX8_init 247 = .ok (.iload_n 1, 1) := by decide +kernel
theorem dX8_init_248 : decode cX8_init 248 = .ok (.sipush 1000, 3) := by decide +kernel
theorem dX8_init_251 : decode cX8_init 251 = .ok (.iastore, 1) := by decide +kernel
theorem dX8_init_252 : decode cX8_init 252 = .ok (.iinc 1 1, 3) := by decide +kernel
theorem dX8_init_255 : decode cX8_init 255 = .ok (.goto (-27), 3) := by decide +kernel
theorem dX8_init_258 : decode cX8_init 258 = .ok (.iconst 0, 1) := by decide +kernel
theorem dX8_init_259 : decode cX8_init 259 = .ok (.istore_n 1, 1) := by decide +kernel
theorem dX8_init_260 : decode cX8_init 260 = .ok (.iload_n 1, 1) := by decide +kernel
theorem dX8_init_261 : decode cX8_init 261 = .ok (.iconst 4, 1) := by decide +kernel
theorem dX8_init_262 : decode cX8_init 262 = .ok (.if_icmp .ge 35, 3) := by decide +kernel
theorem dX8_init_265 : decode cX8_init 265 = .ok (.iconst 0, 1) := by decide +kernel
theorem dX8_init_266 : decode cX8_init 266 = .ok (.istore_n 2, 1) := by decide +kernel
theorem dX8_init_267 : decode cX8_init 267 = .ok (.iload_n 2, 1) := by decide +kernel
theorem dX8_init_268 : decode cX8_init 268 = .ok (.bipush 100, 2) := by decide +kernel
theorem dX8_init_270 : decode cX8_init 270 = .ok (.if_icmp .ge 21, 3) := by decide +kernel
theorem dX8_init_273 : decode cX8_init 273 = .ok (.aload_n 0, 1) := by decide +kernel
theorem dX8_init_274 : decode cX8_init 274 = .ok (.getfield 65, 3) := by decide +kernel
theorem dX8_init_277 : decode cX8_init 277 = .ok (.bipush 100, 2) := by decide +kernel
theorem dX8_init_279 : decode cX8_init 279 = .ok (.iload_n 1, 1) := by decide +kernel
theorem dX8_init_280 : decode cX8_init 280 = .ok (.imul, 1) := by decide +kernel
theorem dX8_init_281 : decode cX8_init 281 = .ok (.iload_n 2, 1) := by decide +kernel
theorem dX8_init_282 : decode cX8_init 282 = .ok (.iadd, 1) := by decide +kernel
theorem dX8_init_283 : decode cX8_init 283 = .ok (.iload_n 2, 1) := by decide +kernel
theorem dX8_init_284 : decode cX8_init 284 = .ok (.iastore, 1) := by decide +kernel
theorem dX8_init_285 : decode cX8_init 285 = .ok (.iinc 2 1, 3) := by decide +kernel
theorem dX8_init_288 : decode cX8_init 288 = .ok (.goto (-21), 3) := by decide +kernel
theorem dX8_init_291 : decode cX8_init 291 = .ok (.iinc 1 1, 3) := by decide +kernel
theorem dX8_init_294 : decode cX8_init 294 = .ok (.goto (-34), 3) := by decide +kernel
theorem dX8_init_297 : decode cX8_init 297 = .ok (.return_, 1) := by decide +kernel
theorem dX8_thrown_0 : decode cX8_thrown 0 = .ok (.aload_n 0, 1) := by decide +kernel
theorem dX8_thrown_1 : decode cX8_thrown 1 = .ok (.getfield 92, 3) := by decide +kernel
theorem dX8_thrown_4 : decode cX8_thrown 4 = .ok (.ireturn, 1) := by decide +kernel
theorem dX8_isIn_0 : decode cX8_isIn 0 = .ok (.iload_n 0, 1) := by decide +kernel
theorem dX8_isIn_1 : decode cX8_isIn 1 = .ok (.iload_n 1, 1) := by decide +kernel
theorem dX8_isIn_2 : decode cX8_isIn 2 = .ok (.if_icmp .lt 12, 3) := by decide +kernel
theorem dX8_isIn_5 : decode cX8_isIn 5 = .ok (.iload_n 0, 1) := by decide +kernel
theorem dX8_isIn_6 : decode cX8_isIn 6 = .ok (.iload_n 2, 1) := by decide +kernel
theorem dX8_isIn_7 : decode cX8_isIn 7 = .ok (.if_icmp .gt 7, 3) := by decide +kernel
theorem dX8_isIn_10 : decode cX8_isIn 10 = .ok (.iconst 1, 1) := by decide +kernel
theorem dX8_isIn_11 : decode cX8_isIn 11 = .ok (.goto 4, 3) := by decide +kernel
theorem dX8_isIn_14 : decode cX8_isIn 14 = .ok (.iconst 0, 1) := by decide +kernel
theorem dX8_isIn_15 : decode cX8_isIn 15 = .ok (.ireturn, 1) := by decide +kernel
theorem dX8_isPoint_0 : decode cX8_isPoint 0 = .ok (.iload_n 0, 1) := by decide +kernel
theorem dX8_isPoint_1 : decode cX8_isPoint 1 = .ok (.iconst 0, 1) := by decide +kernel
theorem dX8_isPoint_2 : decode cX8_isPoint 2 = .ok (.bipush 23, 2) := by decide +kernel
theorem dX8_isPoint_4 : decode cX8_isPoint 4 = .ok (.invokestatic 96, 3) := by decide +kernel
theorem dX8_isPoint_7 : decode cX8_isPoint 7 = .ok (.ireturn, 1) := by decide +kernel
theorem dX8_isBasin_0 : decode cX8_isBasin 0 = .ok (.iload_n 0, 1) := by decide +kernel
theorem dX8_isBasin_1 : decode cX8_isBasin 1 = .ok (.iconst 0, 1) := by decide +kernel
theorem dX8_isBasin_2 : decode cX8_isBasin 2 = .ok (.iconst 2, 1) := by decide +kernel
theorem dX8_isBasin_3 : decode cX8_isBasin 3 = .ok (.invokestatic 96, 3) := by decide +kernel
theorem dX8_isBasin_6 : decode cX8_isBasin 6 = .ok (.ireturn, 1) := by decide +kernel
theorem dX8_isName_0 : decode cX8_isName 0 = .ok (.iload_n 0, 1) := by decide +kernel
theorem dX8_isName_1 : decode cX8_isName 1 = .ok (.iconst 1, 1) := by decide +kernel
theorem dX8_isName_2 : decode cX8_isName 2 = .ok (.bipush 99, 2) := by decide +kernel
theorem dX8_isName_4 : decode cX8_isName 4 = .ok (.invokestatic 96, 3) := by decide +kernel
theorem dX8_isName_7 : decode cX8_isName 7 = .ok (.ireturn, 1) := by decide +kernel
theorem dX8_isYear_0 : decode cX8_isYear 0 = .ok (.iload_n 0, 1) := by decide +kernel
theorem dX8_isYear_1 : decode cX8_isYear 1 = .ok (.iconst 0, 1) := by decide +kernel
theorem dX8_isYear_2 : decode cX8_isYear 2 = .ok (.sipush 2000, 3) := by decide +kernel
theorem dX8_isYear_5 : decode cX8_isYear 5 = .ok (.invokestatic 96, 3) := by decide +kernel
theorem dX8_isYear_8 : decode cX8_isYear 8 = .ok (.ireturn, 1) := by decide +kernel
theorem dX8_isChart_0 : decode cX8_isChart 0 = .ok (.iload_n 1, 1) := by decide +kernel
theorem dX8_isChart_1 : decode cX8_isChart 1 = .ok (.iconst 0, 1) := by decide +kernel
theorem dX8_isChart_2 : decode cX8_isChart 2 = .ok (.aload_n 0, 1) := by decide +kernel
theorem dX8_isChart_3 : decode cX8_isChart 3 = .ok (.getfield 100, 3) := by decide +kernel
theorem dX8_isChart_6 : decode cX8_isChart 6 = .ok (.iconst 1, 1) := by decide +kernel
theorem dX8_isChart_7 : decode cX8_isChart 7 = .ok (.isub, 1) := by decide +kernel
theorem dX8_isChart_8 : decode cX8_isChart 8 = .ok (.invokestatic 96, 3) := by decide +kernel
theorem dX8_isChart_11 : decode cX8_isChart 11 = .ok (.ireturn, 1) := by decide +kernel
theorem dX8_isIsland_0 : decode cX8_isIsland 0 = .ok (.iload_n 1, 1) := by decide +kernel
theorem dX8_isIsland_1 : decode cX8_isIsland 1 = .ok (.iconst 0, 1) := by decide +kernel
theorem dX8_isIsland_2 : decode cX8_isIsland 2 = .ok (.aload_n 0, 1) := by decide +kernel
theorem dX8_isIsland_3 : decode cX8_isIsland 3 = .ok (.getfield 103, 3) := by decide +kernel
theorem dX8_isIsland_6 : decode cX8_isIsland 6 = .ok (.iconst 1, 1) := by decide +kernel
theorem dX8_isIsland_7 : decode cX8_isIsland 7 = .ok (.isub, 1) := by decide +kernel
theorem dX8_isIsland_8 : decode cX8_isIsland 8 = .ok (.invokestatic 96, 3) := by decide +kernel
theorem dX8_isIsland_11 : decode cX8_isIsland 11 = .ok (.ireturn, 1) := by decide +kernel
theorem dX8_coast_0 : decode cX8_coast 0 = .ok (.iload_n 2, 1) := by decide +kernel
theorem dX8_coast_1 : decode cX8_coast 1 = .ok (.sipush (-500), 3) := by decide +kernel
theorem dX8_coast_4 : decode cX8_coast 4 = .ok (.sipush 500, 3) := by decide +kernel
theorem dX8_coast_7 : decode cX8_coast 7 = .ok (.invokestatic 96, 3) := by decide +kernel
theorem dX8_coast_10 : decode cX8_coast 10 = .ok (.ifCond .eq 36, 3) := by decide +kernel
theorem dX8_coast_13 : decode cX8_coast 13 = .ok (.iload_n 3, 1) := by decide +kernel
theorem dX8_coast_14 : decode cX8_coast 14 = .ok (.sipush (-500), 3) := by decide +kernel
theorem dX8_coast_17 : decode cX8_coast 17 = .ok (.sipush 500, 3) := by decide +kernel
theorem dX8_coast_20 : decode cX8_coast 20 = .ok (.invokestatic 96, 3) := by decide +kernel
theorem dX8_coast_23 : decode cX8_coast 23 = .ok (.ifCond .eq 23, 3) := by decide +kernel
theorem dX8_coast_26 : decode cX8_coast 26 = .ok (.iload 4, 2) := by decide +kernel
theorem dX8_coast_28 : decode cX8_coast 28 = .ok (.invokestatic 106, 3) := by decide +kernel
theorem dX8_coast_31 : decode cX8_coast 31 = .ok (.ifCond .eq 15, 3) := by decide +kernel
theorem dX8_coast_34 : decode cX8_coast 34 = .ok (.iload 5, 2) := by decide +kernel
theorem dX8_coast_36 : decode cX8_coast 36 = .ok (.invokestatic 110, 3) := by decide +kernel
theorem dX8_coast_39 : decode cX8_coast 39 = .ok (.ifCond .eq 7, 3) := by decide +kernel
theorem dX8_coast_42 : decode cX8_coast 42 = .ok (.iconst 1, 1) := by decide +kernel
theorem dX8_coast_43 : decode cX8_coast 43 = .ok (.goto 4, 3) := by decide +kernel
theorem dX8_coast_46 : decode cX8_coast 46 = .ok (.iconst 0, 1) := by decide +kernel
theorem dX8_coast_47 : decode cX8_coast 47 = .ok (.istore 6, 2) := by decide +kernel
theorem dX8_coast_49 : decode cX8_coast 49 = .ok (.aload_n 0, 1) := by decide +kernel
theorem dX8_coast_50 : decode cX8_coast 50 = .ok (.iload_n 1, 1) := by decide +kernel
theorem dX8_coast_51 : decode cX8_coast 51 = .ok (.invokestatic 113, 3) := by decide +kernel
theorem dX8_coast_54 : decode cX8_coast 54 = .ok (.ifCond .ne 7, 3) := by decide +kernel
theorem dX8_coast_57 : decode cX8_coast 57 = .ok (.iconst 1, 1) := by decide +kernel
theorem dX8_coast_58 : decode cX8_coast 58 = .ok (.goto 24, 3) := by decide +kernel
theorem dX8_coast_61 : decode cX8_coast 61 = .ok (.iload 6, 2) := by decide +kernel
theorem dX8_coast_63 : decode cX8_coast 63 = .ok (.ifCond .ne 7, 3) := by decide +kernel
theorem dX8_coast_66 : decode cX8_coast 66 = .ok (.iconst 2, 1) := by decide +kernel
theorem dX8_coast_67 : decode cX8_coast 67 = .ok (.goto 15, 3) := by decide +kernel
theorem dX8_coast_70 : decode cX8_coast 70 = .ok (.aload_n 0, 1) := by decide +kernel
theorem dX8_coast_71 : decode cX8_coast 71 = .ok (.getfield 116, 3) := by decide +kernel
theorem dX8_coast_74 : decode cX8_coast 74 = .ok (.ifCond .le 7, 3) := by decide +kernel
theorem dX8_coast_77 : decode cX8_coast 77 = .ok (.iconst 3, 1) := by decide +kernel
theorem dX8_coast_78 : decode cX8_coast 78 = .ok (.goto 4, 3) := by decide +kernel
theorem dX8_coast_81 : decode cX8_coast 81 = .ok (.iconst 0, 1) := by decide +kernel
theorem dX8_coast_82 : decode cX8_coast 82 = .ok (.putfield 92, 3) := by decide +kernel
theorem dX8_coast_85 : decode cX8_coast 85 = .ok (.aload_n 0, 1) := by decide +kernel
theorem dX8_coast_86 : decode cX8_coast 86 = .ok (.getfield 92, 3) := by decide +kernel
theorem dX8_coast_89 : decode cX8_coast 89 = .ok (.ifCond .ne 33, 3) := by decide +kernel
theorem dX8_coast_92 : decode cX8_coast 92 = .ok (.aload_n 0, 1) := by decide +kernel
theorem dX8_coast_93 : decode cX8_coast 93 = .ok (.getfield 7, 3) := by decide +kernel
theorem dX8_coast_96 : decode cX8_coast 96 = .ok (.iload_n 1, 1) := by decide +kernel
theorem dX8_coast_97 : decode cX8_coast 97 = .ok (.iload_n 2, 1) := by decide +kernel
theorem dX8_coast_98 : decode cX8_coast 98 = .ok (.iastore, 1) := by decide +kernel
theorem dX8_coast_99 : decode cX8_coast 99 = .ok (.aload_n 0, 1) := by decide +kernel
theorem dX8_coast_100 : decode cX8_coast 100 = .ok (.getfield 13, 3) := by decide +kernel
theorem dX8_coast_103 : decode cX8_coast 103 = .ok (.iload_n 1, 1) := by decide +kernel
theorem dX8_coast_104 : decode cX8_coast 104 = .ok (.iload_n 3, 1) := by decide +kernel
theorem dX8_coast_105 : decode cX8_coast 105 = .ok (.iastore, 1) := by decide +kernel
theorem dX8_coast_106 : decode cX8_coast 106 = .ok (.aload_n 0, 1) := by decide +kernel
theorem dX8_coast_107 : decode cX8_coast 107 = .ok (.getfield 16, 3) := by decide +kernel
theorem dX8_coast_110 : decode cX8_coast 110 = .ok (.iload_n 1, 1) := by decide +kernel
theorem dX8_coast_111 : decode cX8_coast 111 = .ok (.iload 4, 2) := by decide +kernel
theorem dX8_coast_113 : decode cX8_coast 113 = .ok (.iastore, 1) := by decide +kernel
theorem dX8_coast_114 : decode cX8_coast 114 = .ok (.aload_n 0, 1) := by decide +kernel
theorem dX8_coast_115 : decode cX8_coast 115 = .ok (.getfield 19, 3) := by decide +kernel
theorem dX8_coast_118 : decode cX8_coast 118 = .ok (.iload_n 1, 1) := by decide +kernel
theorem dX8_coast_119 : decode cX8_coast 119 = .ok (.iload 5, 2) := by decide +kernel
theorem dX8_coast_121 : decode cX8_coast 121 = .ok (.iastore, 1) := by decide +kernel
theorem dX8_coast_122 : decode cX8_coast 122 = .ok (.return_, 1) := by decide +kernel
theorem dX8_pilot_0 : decode cX8_pilot 0 = .ok (.iload_n 1, 1) := by decide +kernel
theorem dX8_pilot_1 : decode cX8_pilot 1 = .ok (.bipush (-30), 2) := by decide +kernel
theorem dX8_pilot_3 : decode cX8_pilot 3 = .ok (.bipush 30, 2) := by decide +kernel
theorem dX8_pilot_5 : decode cX8_pilot 5 = .ok (.invokestatic 96, 3) := by decide +kernel
theorem dX8_pilot_8 : decode cX8_pilot 8 = .ok (.ifCond .eq 18, 3) := by decide +kernel
theorem dX8_pilot_11 : decode cX8_pilot 11 = .ok (.iload_n 2, 1) := by decide +kernel
theorem dX8_pilot_12 : decode cX8_pilot 12 = .ok (.bipush (-30), 2) := by decide +kernel
theorem dX8_pilot_14 : decode cX8_pilot 14 = .ok (.bipush 30, 2) := by decide +kernel
theorem dX8_pilot_16 : decode cX8_pilot 16 = .ok (.invokestatic 96, 3) := by decide +kernel
theorem dX8_pilot_19 : decode cX8_pilot 19 = .ok (.ifCond .eq 7, 3) := by decide +kernel
theorem dX8_pilot_22 : decode cX8_pilot 22 = .ok (.iconst 1, 1) := by decide +kernel
theorem dX8_pilot_23 : decode cX8_pilot 23 = .ok (.goto 4, 3) := by decide +kernel
theorem dX8_pilot_26 : decode cX8_pilot 26 = .ok (.iconst 0, 1) := by decide +kernel
theorem dX8_pilot_27 : decode cX8_pilot 27 = .ok (.istore_n 3, 1) := by decide +kernel
theorem dX8_pilot_28 : decode cX8_pilot 28 = .ok (.aload_n 0, 1) := by decide +kernel
theorem dX8_pilot_29 : decode cX8_pilot 29 = .ok (.iload_n 3, 1) := by decide +kernel
theorem dX8_pilot_30 : decode cX8_pilot 30 = .ok (.ifCond .ne 7, 3) := by decide +kernel
theorem dX8_pilot_33 : decode cX8_pilot 33 = .ok (.iconst 1, 1) := by decide +kernel
theorem dX8_pilot_34 : decode cX8_pilot 34 = .ok (.goto 17, 3) := by decide +kernel
theorem dX8_pilot_37 : decode cX8_pilot 37 = .ok (.aload_n 0, 1) := by decide +kernel
theorem dX8_pilot_38 : decode cX8_pilot 38 = .ok (.getfield 119, 3) := by decide +kernel
theorem dX8_pilot_41 : decode cX8_pilot 41 = .ok (.bipush 6, 2) := by decide +kernel
theorem dX8_pilot_43 : decode cX8_pilot 43 = .ok (.if_icmp .ne 7, 3) := by decide +kernel
theorem dX8_pilot_46 : decode cX8_pilot 46 = .ok (.iconst 2, 1) := by decide +kernel
theorem dX8_pilot_47 : decode cX8_pilot 47 = .ok (.goto 4, 3) := by decide +kernel
theorem dX8_pilot_50 : decode cX8_pilot 50 = .ok (.iconst 0, 1) := by decide +kernel
theorem dX8_pilot_51 : decode cX8_pilot 51 = .ok (.putfield 92, 3) := by decide +kernel
theorem dX8_pilot_54 : decode cX8_pilot 54 = .ok (.aload_n 0, 1) := by decide +kernel
theorem dX8_pilot_55 : decode cX8_pilot 55 = .ok (.getfield 92, 3) := by decide +kernel
theorem dX8_pilot_58 : decode cX8_pilot 58 = .ok (.ifCond .le 5, 3) := by decide +kernel
theorem dX8_pilot_61 : decode cX8_pilot 61 = .ok (.iconst 0, 1) := by decide +kernel
theorem dX8_pilot_62 : decode cX8_pilot 62 = .ok (.ireturn, 1) := by decide +kernel
theorem dX8_pilot_63 : decode cX8_pilot 63 = .ok (.aload_n 0, 1) := by decide +kernel
theorem dX8_pilot_64 : decode cX8_pilot 64 = .ok (.getfield 22, 3) := by decide +kernel
theorem dX8_pilot_67 : decode cX8_pilot 67 = .ok (.aload_n 0, 1) := by decide +kernel
theorem dX8_pilot_68 : decode cX8_pilot 68 = .ok (.getfield 119, 3) := by decide +kernel
theorem dX8_pilot_71 : decode cX8_pilot 71 = .ok (.iload_n 1, 1) := by decide +kernel
theorem dX8_pilot_72 : decode cX8_pilot 72 = .ok (.iastore, 1) := by decide +kernel
theorem dX8_pilot_73 : decode cX8_pilot 73 = .ok (.aload_n 0, 1) := by decide +kernel
theorem dX8_pilot_74 : decode cX8_pilot 74 = .ok (.getfield 25, 3) := by decide +kernel
theorem dX8_pilot_77 : decode cX8_pilot 77 = .ok (.aload_n 0, 1) := by decide +kernel
theorem dX8_pilot_78 : decode cX8_pilot 78 = .ok (.getfield 119, 3) := by decide +kernel
theorem dX8_pilot_81 : decode cX8_pilot 81 = .ok (.iload_n 2, 1) := by decide +kernel
theorem dX8_pilot_82 : decode cX8_pilot 82 = .ok (.iastore, 1) := by decide +kernel
theorem dX8_pilot_83 : decode cX8_pilot 83 = .ok (.aload_n 0, 1) := by decide +kernel
theorem dX8_pilot_84 : decode cX8_pilot 84 = .ok (.dup, 1) := by decide +kernel
theorem dX8_pilot_85 : decode cX8_pilot 85 = .ok (.getfield 119, 3) := by decide +kernel
theorem dX8_pilot_88 : decode cX8_pilot 88 = .ok (.iconst 1, 1) := by decide +kernel
theorem dX8_pilot_89 : decode cX8_pilot 89 = .ok (.iadd, 1) := by decide +kernel
theorem dX8_pilot_90 : decode cX8_pilot 90 = .ok (.putfield 119, 3) := by decide +kernel
theorem dX8_pilot_93 : decode cX8_pilot 93 = .ok (.aload_n 0, 1) := by decide +kernel
theorem dX8_pilot_94 : decode cX8_pilot 94 = .ok (.getfield 119, 3) := by decide +kernel
theorem dX8_pilot_97 : decode cX8_pilot 97 = .ok (.iconst 1, 1) := by decide +kernel
theorem dX8_pilot_98 : decode cX8_pilot 98 = .ok (.isub, 1) := by decide +kernel
theorem dX8_pilot_99 : decode cX8_pilot 99 = .ok (.ireturn, 1) := by decide +kernel
theorem dX8_report_0 : decode cX8_report 0 = .ok (.iload_n 1, 1) := by decide +kernel
theorem dX8_report_1 : decode cX8_report 1 = .ok (.iconst 0, 1) := by decide +kernel
theorem dX8_report_2 : decode cX8_report 2 = .ok (.aload_n 0, 1) := by decide +kernel
theorem dX8_report_3 : decode cX8_report 3 = .ok (.getfield 119, 3) := by decide +kernel
theorem dX8_report_6 : decode cX8_report 6 = .ok (.iconst 1, 1) := by decide +kernel
theorem dX8_report_7 : decode cX8_report 7 = .ok (.isub, 1) := by decide +kernel
theorem dX8_report_8 : decode cX8_report 8 = .ok (.invokestatic 96, 3) := by decide +kernel
theorem dX8_report_11 : decode cX8_report 11 = .ok (.ifCond .eq 21, 3) := by decide +kernel
theorem dX8_report_14 : decode cX8_report 14 = .ok (.iload_n 2, 1) := by decide +kernel
theorem dX8_report_15 : decode cX8_report 15 = .ok (.invokestatic 113, 3) := by decide +kernel
theorem dX8_report_18 : decode cX8_report 18 = .ok (.ifCond .eq 14, 3) := by decide +kernel
theorem dX8_report_21 : decode cX8_report 21 = .ok (.iload_n 3, 1) := by decide +kernel
theorem dX8_report_22 : decode cX8_report 22 = .ok (.invokestatic 113, 3) := by decide +kernel
theorem dX8_report_25 : decode cX8_report 25 = .ok (.ifCond .eq 7, 3) := by decide +kernel
theorem dX8_report_28 : decode cX8_report 28 = .ok (.iconst 1, 1) := by decide +kernel
theorem dX8_report_29 : decode cX8_report 29 = .ok (.goto 4, 3) := by decide +kernel
theorem dX8_report_32 : decode cX8_report 32 = .ok (.iconst 0, 1) := by decide +kernel
theorem dX8_report_33 : decode cX8_report 33 = .ok (.istore 4, 2) := by decide +kernel
theorem dX8_report_35 : decode cX8_report 35 = .ok (.aload_n 0, 1) := by decide +kernel
theorem dX8_report_36 : decode cX8_report 36 = .ok (.iload 4, 2) := by decide +kernel
theorem dX8_report_38 : decode cX8_report 38 = .ok (.ifCond .ne 7, 3) := by decide +kernel
theorem dX8_report_41 : decode cX8_report 41 = .ok (.iconst 1, 1) := by decide +kernel
theorem dX8_report_42 : decode cX8_report 42 = .ok (.goto 26, 3) := by decide +kernel
theorem dX8_report_45 : decode cX8_report 45 = .ok (.iload_n 2, 1) := by decide +kernel
theorem dX8_report_46 : decode cX8_report 46 = .ok (.iload_n 3, 1) := by decide +kernel
theorem dX8_report_47 : decode cX8_report 47 = .ok (.if_icmp .ne 7, 3) := by decide +kernel
theorem dX8_report_50 : decode cX8_report 50 = .ok (.iconst 2, 1) := by decide +kernel
theorem dX8_report_51 : decode cX8_report 51 = .ok (.goto 17, 3) := by decide +kernel
theorem dX8_report_54 : decode cX8_report 54 = .ok (.aload_n 0, 1) := by decide +kernel
theorem dX8_report_55 : decode cX8_report 55 = .ok (.getfield 116, 3) := by decide +kernel
theorem dX8_report_58 : decode cX8_report 58 = .ok (.bipush 60, 2) := by decide +kernel
theorem dX8_report_60 : decode cX8_report 60 = .ok (.if_icmp .ne 7, 3) := by decide +kernel
theorem dX8_report_63 : decode cX8_report 63 = .ok (.iconst 3, 1) := by decide +kernel
theorem dX8_report_64 : decode cX8_report 64 = .ok (.goto 4, 3) := by decide +kernel
theorem dX8_report_67 : decode cX8_report 67 = .ok (.iconst 0, 1) := by decide +kernel
theorem dX8_report_68 : decode cX8_report 68 = .ok (.putfield 92, 3) := by decide +kernel
theorem dX8_report_71 : decode cX8_report 71 = .ok (.aload_n 0, 1) := by decide +kernel
theorem dX8_report_72 : decode cX8_report 72 = .ok (.getfield 92, 3) := by decide +kernel
theorem dX8_report_75 : decode cX8_report 75 = .ok (.ifCond .le 5, 3) := by decide +kernel
theorem dX8_report_78 : decode cX8_report 78 = .ok (.iconst 0, 1) := by decide +kernel
theorem dX8_report_79 : decode cX8_report 79 = .ok (.ireturn, 1) := by decide +kernel
theorem dX8_report_80 : decode cX8_report 80 = .ok (.aload_n 0, 1) := by decide +kernel
theorem dX8_report_81 : decode cX8_report 81 = .ok (.getfield 7, 3) := by decide +kernel
theorem dX8_report_84 : decode cX8_report 84 = .ok (.iload_n 3, 1) := by decide +kernel
theorem dX8_report_85 : decode cX8_report 85 = .ok (.iaload, 1) := by decide +kernel
theorem dX8_report_86 : decode cX8_report 86 = .ok (.aload_n 0, 1) := by decide +kernel
theorem dX8_report_87 : decode cX8_report 87 = .ok (.getfield 7, 3) := by decide +kernel
theorem dX8_report_90 : decode cX8_report 90 = .ok (.iload_n 2, 1) := by decide +kernel
theorem dX8_report_91 : decode cX8_report 91 = .ok (.iaload, 1) := by decide +kernel
theorem dX8_report_92 : decode cX8_report 92 = .ok (.isub, 1) := by decide +kernel
theorem dX8_report_93 : decode cX8_report 93 = .ok (.istore 5, 2) := by decide +kernel
theorem dX8_report_95 : decode cX8_report 95 = .ok (.aload_n 0, 1) := by decide +kernel
theorem dX8_report_96 : decode cX8_report 96 = .ok (.getfield 13, 3) := by decide +kernel
theorem dX8_report_99 : decode cX8_report 99 = .ok (.iload_n 3, 1) := by decide +kernel
theorem dX8_report_100 : decode cX8_report 100 = .ok (.iaload, 1) := by decide +kernel
theorem dX8_report_101 : decode cX8_report 101 = .ok (.aload_n 0, 1) := by decide +kernel
theorem dX8_report_102 : decode cX8_report 102 = .ok (.getfield 13, 3) := by decide +kernel
theorem dX8_report_105 : decode cX8_report 105 = .ok (.iload_n 2, 1) := by decide +kernel
theorem dX8_report_106 : decode cX8_report 106 = .ok (.iaload, 1) := by decide +kernel
theorem dX8_report_107 : decode cX8_report 107 = .ok (.isub, 1) := by decide +kernel
theorem dX8_report_108 : decode cX8_report 108 = .ok (.istore 6, 2) := by decide +kernel
theorem dX8_report_110 : decode cX8_report 110 = .ok (.iload 5, 2) := by decide +kernel
theorem dX8_report_112 : decode cX8_report 112 = .ok (.iload 6, 2) := by decide +kernel
theorem dX8_report_114 : decode cX8_report 114 = .ok (.aload_n 0, 1) := by decide +kernel
theorem dX8_report_115 : decode cX8_report 115 = .ok (.getfield 22, 3) := by decide +kernel
theorem dX8_report_118 : decode cX8_report 118 = .ok (.iload_n 1, 1) := by decide +kernel
theorem dX8_report_119 : decode cX8_report 119 = .ok (.iaload, 1) := by decide +kernel
theorem dX8_report_120 : decode cX8_report 120 = .ok (.imul, 1) := by decide +kernel
theorem dX8_report_121 : decode cX8_report 121 = .ok (.bipush 100, 2) := by decide +kernel
theorem dX8_report_123 : decode cX8_report 123 = .ok (.idiv, 1) := by decide +kernel
theorem dX8_report_124 : decode cX8_report 124 = .ok (.isub, 1) := by decide +kernel
theorem dX8_report_125 : decode cX8_report 125 = .ok (.istore 7, 2) := by decide +kernel
theorem dX8_report_127 : decode cX8_report 127 = .ok (.iload 6, 2) := by decide +kernel
theorem dX8_report_129 : decode cX8_report 129 = .ok (.iload 5, 2) := by decide +kernel
theorem dX8_report_131 : decode cX8_report 131 = .ok (.aload_n 0, 1) := by decide +kernel
theorem dX8_report_132 : decode cX8_report 132 = .ok (.getfield 22, 3) := by decide +kernel
theorem dX8_report_135 : decode cX8_report 135 = .ok (.iload_n 1, 1) := by decide +kernel
theorem dX8_report_136 : decode cX8_report 136 = .ok (.iaload, 1) := by decide +kernel
theorem dX8_report_137 : decode cX8_report 137 = .ok (.imul, 1) := by decide +kernel
theorem dX8_report_138 : decode cX8_report 138 = .ok (.bipush 100, 2) := by decide +kernel
theorem dX8_report_140 : decode cX8_report 140 = .ok (.idiv, 1) := by decide +kernel
theorem dX8_report_141 : decode cX8_report 141 = .ok (.iadd, 1) := by decide +kernel
theorem dX8_report_142 : decode cX8_report 142 = .ok (.istore 8, 2) := by decide +kernel
theorem dX8_report_144 : decode cX8_report 144 = .ok (.aload_n 0, 1) := by decide +kernel
theorem dX8_report_145 : decode cX8_report 145 = .ok (.getfield 28, 3) := by decide +kernel
theorem dX8_report_148 : decode cX8_report 148 = .ok (.aload_n 0, 1) := by decide +kernel
theorem dX8_report_149 : decode cX8_report 149 = .ok (.getfield 116, 3) := by decide +kernel
theorem dX8_report_152 : decode cX8_report 152 = .ok (.iload_n 2, 1) := by decide +kernel
theorem dX8_report_153 : decode cX8_report 153 = .ok (.iastore, 1) := by decide +kernel
theorem dX8_report_154 : decode cX8_report 154 = .ok (.aload_n 0, 1) := by decide +kernel
theorem dX8_report_155 : decode cX8_report 155 = .ok (.getfield 31, 3) := by decide +kernel
theorem dX8_report_158 : decode cX8_report 158 = .ok (.aload_n 0, 1) := by decide +kernel
theorem dX8_report_159 : decode cX8_report 159 = .ok (.getfield 116, 3) := by decide +kernel
theorem dX8_report_162 : decode cX8_report 162 = .ok (.iload_n 3, 1) := by decide +kernel
theorem dX8_report_163 : decode cX8_report 163 = .ok (.iastore, 1) := by decide +kernel
theorem dX8_report_164 : decode cX8_report 164 = .ok (.aload_n 0, 1) := by decide +kernel
theorem dX8_report_165 : decode cX8_report 165 = .ok (.getfield 34, 3) := by decide +kernel
theorem dX8_report_168 : decode cX8_report 168 = .ok (.aload_n 0, 1) := by decide +kernel
theorem dX8_report_169 : decode cX8_report 169 = .ok (.getfield 116, 3) := by decide +kernel
theorem dX8_report_172 : decode cX8_report 172 = .ok (.iload 7, 2) := by decide +kernel
theorem dX8_report_174 : decode cX8_report 174 = .ok (.iload 7, 2) := by decide +kernel
theorem dX8_report_176 : decode cX8_report 176 = .ok (.aload_n 0, 1) := by decide +kernel
theorem dX8_report_177 : decode cX8_report 177 = .ok (.getfield 25, 3) := by decide +kernel
theorem dX8_report_180 : decode cX8_report 180 = .ok (.iload_n 1, 1) := by decide +kernel
theorem dX8_report_181 : decode cX8_report 181 = .ok (.iaload, 1) := by decide +kernel
theorem dX8_report_182 : decode cX8_report 182 = .ok (.imul, 1) := by decide +kernel
theorem dX8_report_183 : decode cX8_report 183 = .ok (.bipush 100, 2) := by decide +kernel
theorem dX8_report_185 : decode cX8_report 185 = .ok (.idiv, 1) := by decide +kernel
theorem dX8_report_186 : decode cX8_report 186 = .ok (.iadd, 1) := by decide +kernel
theorem dX8_report_187 : decode cX8_report 187 = .ok (.iastore, 1) := by decide +kernel
theorem dX8_report_188 : decode cX8_report 188 = .ok (.aload_n 0, 1) := by decide +kernel
theorem dX8_report_189 : decode cX8_report 189 = .ok (.getfield 37, 3) := by decide +kernel
theorem dX8_report_192 : decode cX8_report 192 = .ok (.aload_n 0, 1) := by decide +kernel
theorem dX8_report_193 : decode cX8_report 193 = .ok (.getfield 116, 3) := by decide +kernel
theorem dX8_report_196 : decode cX8_report 196 = .ok (.iload 8, 2) := by decide +kernel
theorem dX8_report_198 : decode cX8_report 198 = .ok (.iload 8, 2) := by decide +kernel
theorem dX8_report_200 : decode cX8_report 200 = .ok (.aload_n 0, 1) := by decide +kernel
theorem dX8_report_201 : decode cX8_report 201 = .ok (.getfield 25, 3) := by decide +kernel
theorem dX8_report_204 : decode cX8_report 204 = .ok (.iload_n 1, 1) := by decide +kernel
theorem dX8_report_205 : decode cX8_report 205 = .ok (.iaload, 1) := by decide +kernel
theorem dX8_report_206 : decode cX8_report 206 = .ok (.imul, 1) := by decide +kernel
theorem dX8_report_207 : decode cX8_report 207 = .ok (.bipush 100, 2) := by decide +kernel
theorem dX8_report_209 : decode cX8_report 209 = .ok (.idiv, 1) := by decide +kernel
theorem dX8_report_210 : decode cX8_report 210 = .ok (.iadd, 1) := by decide +kernel
theorem dX8_report_211 : decode cX8_report 211 = .ok (.iastore, 1) := by decide +kernel
theorem dX8_report_212 : decode cX8_report 212 = .ok (.aload_n 0, 1) := by decide +kernel
theorem dX8_report_213 : decode cX8_report 213 = .ok (.dup, 1) := by decide +kernel
theorem dX8_report_214 : decode cX8_report 214 = .ok (.getfield 116, 3) := by decide +kernel
theorem dX8_report_217 : decode cX8_report 217 = .ok (.iconst 1, 1) := by decide +kernel
theorem dX8_report_218 : decode cX8_report 218 = .ok (.iadd, 1) := by decide +kernel
theorem dX8_report_219 : decode cX8_report 219 = .ok (.putfield 116, 3) := by decide +kernel
theorem dX8_report_222 : decode cX8_report 222 = .ok (.aload_n 0, 1) := by decide +kernel
theorem dX8_report_223 : decode cX8_report 223 = .ok (.getfield 116, 3) := by decide +kernel
theorem dX8_report_226 : decode cX8_report 226 = .ok (.iconst 1, 1) := by decide +kernel
theorem dX8_report_227 : decode cX8_report 227 = .ok (.isub, 1) := by decide +kernel
theorem dX8_report_228 : decode cX8_report 228 = .ok (.ireturn, 1) := by decide +kernel
theorem dX8_spot_0 : decode cX8_spot 0 = .ok (.bipush 24, 2) := by decide +kernel
theorem dX8_spot_2 : decode cX8_spot 2 = .ok (.iload_n 0, 1) := by decide +kernel
theorem dX8_spot_3 : decode cX8_spot 3 = .ok (.imul, 1) := by decide +kernel
theorem dX8_spot_4 : decode cX8_spot 4 = .ok (.iload_n 1, 1) := by decide +kernel
theorem dX8_spot_5 : decode cX8_spot 5 = .ok (.iadd, 1) := by decide +kernel
theorem dX8_spot_6 : decode cX8_spot 6 = .ok (.ireturn, 1) := by decide +kernel
theorem dX8_gives_0 : decode cX8_gives 0 = .ok (.aload_n 0, 1) := by decide +kernel
theorem dX8_gives_1 : decode cX8_gives 1 = .ok (.getfield 80, 3) := by decide +kernel
theorem dX8_gives_4 : decode cX8_gives 4 = .ok (.iload_n 1, 1) := by decide +kernel
theorem dX8_gives_5 : decode cX8_gives 5 = .ok (.baload, 1) := by decide +kernel
theorem dX8_gives_6 : decode cX8_gives 6 = .ok (.ifCond .ne 71, 3) := by decide +kernel
theorem dX8_gives_9 : decode cX8_gives 9 = .ok (.aload_n 0, 1) := by decide +kernel
theorem dX8_gives_10 : decode cX8_gives 10 = .ok (.getfield 80, 3) := by decide +kernel
theorem dX8_gives_13 : decode cX8_gives 13 = .ok (.iload_n 2, 1) := by decide +kernel
theorem dX8_gives_14 : decode cX8_gives 14 = .ok (.baload, 1) := by decide +kernel
theorem dX8_gives_15 : decode cX8_gives 15 = .ok (.ifCond .eq 62, 3) := by decide +kernel
theorem dX8_gives_18 : decode cX8_gives 18 = .ok (.aload_n 0, 1) := by decide +kernel
theorem dX8_gives_19 : decode cX8_gives 19 = .ok (.getfield 83, 3) := by decide +kernel
theorem dX8_gives_22 : decode cX8_gives 22 = .ok (.iload_n 1, 1) := by decide +kernel
theorem dX8_gives_23 : decode cX8_gives 23 = .ok (.dup2, 1) := by decide +kernel
theorem dX8_gives_24 : decode cX8_gives 24 = .ok (.iaload, 1) := by decide +kernel
theorem dX8_gives_25 : decode cX8_gives 25 = .ok (.aload_n 0, 1) := by decide +kernel
theorem dX8_gives_26 : decode cX8_gives 26 = .ok (.getfield 50, 3) := by decide +kernel
theorem dX8_gives_29 : decode cX8_gives 29 = .ok (.aload_n 0, 1) := by decide +kernel
theorem dX8_gives_30 : decode cX8_gives 30 = .ok (.getfield 100, 3) := by decide +kernel
theorem dX8_gives_33 : decode cX8_gives 33 = .ok (.iload_n 2, 1) := by decide +kernel
theorem dX8_gives_34 : decode cX8_gives 34 = .ok (.invokestatic 122, 3) := by decide +kernel
theorem dX8_gives_37 : decode cX8_gives 37 = .ok (.iaload, 1) := by decide +kernel
theorem dX8_gives_38 : decode cX8_gives 38 = .ok (.iload_n 3, 1) := by decide +kernel
theorem dX8_gives_39 : decode cX8_gives 39 = .ok (.iadd, 1) := by decide +kernel
theorem dX8_gives_40 : decode cX8_gives 40 = .ok (.iadd, 1) := by decide +kernel
theorem dX8_gives_41 : decode cX8_gives 41 = .ok (.iastore, 1) := by decide +kernel
theorem dX8_gives_42 : decode cX8_gives 42 = .ok (.aload_n 0, 1) := by decide +kernel
theorem dX8_gives_43 : decode cX8_gives 43 = .ok (.getfield 86, 3) := by decide +kernel
theorem dX8_gives_46 : decode cX8_gives 46 = .ok (.iload_n 1, 1) := by decide +kernel
theorem dX8_gives_47 : decode cX8_gives 47 = .ok (.dup2, 1) := by decide +kernel
theorem dX8_gives_48 : decode cX8_gives 48 = .ok (.iaload, 1) := by decide +kernel
theorem dX8_gives_49 : decode cX8_gives 49 = .ok (.aload_n 0, 1) := by decide +kernel
theorem dX8_gives_50 : decode cX8_gives 50 = .ok (.getfield 53, 3) := by decide +kernel
theorem dX8_gives_53 : decode cX8_gives 53 = .ok (.aload_n 0, 1) := by decide +kernel
theorem dX8_gives_54 : decode cX8_gives 54 = .ok (.getfield 100, 3) := by decide +kernel
theorem dX8_gives_57 : decode cX8_gives 57 = .ok (.iload_n 2, 1) := by decide +kernel
theorem dX8_gives_58 : decode cX8_gives 58 = .ok (.invokestatic 122, 3) := by decide +kernel
theorem dX8_gives_61 : decode cX8_gives 61 = .ok (.iaload, 1) := by decide +kernel
theorem dX8_gives_62 : decode cX8_gives 62 = .ok (.iload 4, 2) := by decide +kernel
theorem dX8_gives_64 : decode cX8_gives 64 = .ok (.iadd, 1) := by decide +kernel
theorem dX8_gives_65 : decode cX8_gives 65 = .ok (.iadd, 1) := by decide +kernel
theorem dX8_gives_66 : decode cX8_gives 66 = .ok (.iastore, 1) := by decide +kernel
theorem dX8_gives_67 : decode cX8_gives 67 = .ok (.aload_n 0, 1) := by decide +kernel
theorem dX8_gives_68 : decode cX8_gives 68 = .ok (.getfield 89, 3) := by decide +kernel
theorem dX8_gives_71 : decode cX8_gives 71 = .ok (.iload_n 1, 1) := by decide +kernel
theorem dX8_gives_72 : decode cX8_gives 72 = .ok (.dup2, 1) := by decide +kernel
theorem dX8_gives_73 : decode cX8_gives 73 = .ok (.iaload, 1) := by decide +kernel
theorem dX8_gives_74 : decode cX8_gives 74 = .ok (.iconst 1, 1) := by decide +kernel
theorem dX8_gives_75 : decode cX8_gives 75 = .ok (.iadd, 1) := by decide +kernel
theorem dX8_gives_76 : decode cX8_gives 76 = .ok (.iastore, 1) := by decide +kernel
theorem dX8_gives_77 : decode cX8_gives 77 = .ok (.return_, 1) := by decide +kernel
theorem dX8_rounds_0 : decode cX8_rounds 0 = .ok (.iconst 0, 1) := by decide +kernel
theorem dX8_rounds_1 : decode cX8_rounds 1 = .ok (.istore_n 2, 1) := by decide +kernel
theorem dX8_rounds_2 : decode cX8_rounds 2 = .ok (.iload_n 2, 1) := by decide +kernel
theorem dX8_rounds_3 : decode cX8_rounds 3 = .ok (.bipush 24, 2) := by decide +kernel
theorem dX8_rounds_5 : decode cX8_rounds 5 = .ok (.if_icmp .ge 49, 3) := by decide +kernel
theorem dX8_rounds_8 : decode cX8_rounds 8 = .ok (.aload_n 0, 1) := by decide +kernel
theorem dX8_rounds_9 : decode cX8_rounds 9 = .ok (.getfield 80, 3) := by decide +kernel
theorem dX8_rounds_12 : decode cX8_rounds 12 = .ok (.iload_n 2, 1) := by decide +kernel
theorem dX8_rounds_13 : decode cX8_rounds 13 = .ok (.aload_n 0, 1) := by decide +kernel
theorem dX8_rounds_14 : decode cX8_rounds 14 = .ok (.getfield 46, 3) := by decide +kernel
theorem dX8_rounds_17 : decode cX8_rounds 17 = .ok (.aload_n 0, 1) := by decide +kernel
theorem dX8_rounds_18 : decode cX8_rounds 18 = .ok (.getfield 100, 3) := by decide +kernel
theorem dX8_rounds_21 : decode cX8_rounds 21 = .ok (.iload_n 2, 1) := by decide +kernel
theorem dX8_rounds_22 : decode cX8_rounds 22 = .ok (.invokestatic 122, 3) := by decide +kernel
theorem dX8_rounds_25 : decode cX8_rounds 25 = .ok (.baload, 1) := by decide +kernel
theorem dX8_rounds_26 : decode cX8_rounds 26 = .ok (.bastore, 1) := by decide +kernel
theorem dX8_rounds_27 : decode cX8_rounds 27 = .ok (.aload_n 0, 1) := by decide +kernel
theorem dX8_rounds_28 : decode cX8_rounds 28 = .ok (.getfield 83, 3) := by decide +kernel
theorem dX8_rounds_31 : decode cX8_rounds 31 = .ok (.iload_n 2, 1) := by decide +kernel
theorem dX8_rounds_32 : decode cX8_rounds 32 = .ok (.iconst 0, 1) := by decide +kernel
theorem dX8_rounds_33 : decode cX8_rounds 33 = .ok (.iastore, 1) := by decide +kernel
theorem dX8_rounds_34 : decode cX8_rounds 34 = .ok (.aload_n 0, 1) := by decide +kernel
theorem dX8_rounds_35 : decode cX8_rounds 35 = .ok (.getfield 86, 3) := by decide +kernel
theorem dX8_rounds_38 : decode cX8_rounds 38 = .ok (.iload_n 2, 1) := by decide +kernel
theorem dX8_rounds_39 : decode cX8_rounds 39 = .ok (.iconst 0, 1) := by decide +kernel
theorem dX8_rounds_40 : decode cX8_rounds 40 = .ok (.iastore, 1) := by decide +kernel
theorem dX8_rounds_41 : decode cX8_rounds 41 = .ok (.aload_n 0, 1) := by decide +kernel
theorem dX8_rounds_42 : decode cX8_rounds 42 = .ok (.getfield 89, 3) := by decide +kernel
theorem dX8_rounds_45 : decode cX8_rounds 45 = .ok (.iload_n 2, 1) := by decide +kernel
theorem dX8_rounds_46 : decode cX8_rounds 46 = .ok (.iconst 0, 1) := by decide +kernel
theorem dX8_rounds_47 : decode cX8_rounds 47 = .ok (.iastore, 1) := by decide +kernel
theorem dX8_rounds_48 : decode cX8_rounds 48 = .ok (.iinc 2 1, 3) := by decide +kernel
theorem dX8_rounds_51 : decode cX8_rounds 51 = .ok (.goto (-49), 3) := by decide +kernel
theorem dX8_rounds_54 : decode cX8_rounds 54 = .ok (.iconst 0, 1) := by decide +kernel
theorem dX8_rounds_55 : decode cX8_rounds 55 = .ok (.istore_n 2, 1) := by decide +kernel
theorem dX8_rounds_56 : decode cX8_rounds 56 = .ok (.iload_n 2, 1) := by decide +kernel
theorem dX8_rounds_57 : decode cX8_rounds 57 = .ok (.iload_n 1, 1) := by decide +kernel
theorem dX8_rounds_58 : decode cX8_rounds 58 = .ok (.if_icmp .ge 67, 3) := by decide +kernel
theorem dX8_rounds_61 : decode cX8_rounds 61 = .ok (.aload_n 0, 1) := by decide +kernel
theorem dX8_rounds_62 : decode cX8_rounds 62 = .ok (.aload_n 0, 1) := by decide +kernel
theorem dX8_rounds_63 : decode cX8_rounds 63 = .ok (.getfield 31, 3) := by decide +kernel
theorem dX8_rounds_66 : decode cX8_rounds 66 = .ok (.iload_n 2, 1) := by decide +kernel
theorem dX8_rounds_67 : decode cX8_rounds 67 = .ok (.iaload, 1) := by decide +kernel
theorem dX8_rounds_68 : decode cX8_rounds 68 = .ok (.aload_n 0, 1) := by decide +kernel
theorem dX8_rounds_69 : decode cX8_rounds 69 = .ok (.getfield 28, 3) := by decide +kernel
theorem dX8_rounds_72 : decode cX8_rounds 72 = .ok (.iload_n 2, 1) := by decide +kernel
theorem dX8_rounds_73 : decode cX8_rounds 73 = .ok (.iaload, 1) := by decide +kernel
theorem dX8_rounds_74 : decode cX8_rounds 74 = .ok (.aload_n 0, 1) := by decide +kernel
theorem dX8_rounds_75 : decode cX8_rounds 75 = .ok (.getfield 34, 3) := by decide +kernel
theorem dX8_rounds_78 : decode cX8_rounds 78 = .ok (.iload_n 2, 1) := by decide +kernel
theorem dX8_rounds_79 : decode cX8_rounds 79 = .ok (.iaload, 1) := by decide +kernel
theorem dX8_rounds_80 : decode cX8_rounds 80 = .ok (.aload_n 0, 1) := by decide +kernel
theorem dX8_rounds_81 : decode cX8_rounds 81 = .ok (.getfield 37, 3) := by decide +kernel
theorem dX8_rounds_84 : decode cX8_rounds 84 = .ok (.iload_n 2, 1) := by decide +kernel
theorem dX8_rounds_85 : decode cX8_rounds 85 = .ok (.iaload, 1) := by decide +kernel
theorem dX8_rounds_86 : decode cX8_rounds 86 = .ok (.invokevirtual 126, 3) := by decide +kernel
theorem dX8_rounds_89 : decode cX8_rounds 89 = .ok (.aload_n 0, 1) := by decide +kernel
theorem dX8_rounds_90 : decode cX8_rounds 90 = .ok (.aload_n 0, 1) := by decide +kernel
theorem dX8_rounds_91 : decode cX8_rounds 91 = .ok (.getfield 28, 3) := by decide +kernel
theorem dX8_rounds_94 : decode cX8_rounds 94 = .ok (.iload_n 2, 1) := by decide +kernel
theorem dX8_rounds_95 : decode cX8_rounds 95 = .ok (.iaload, 1) := by decide +kernel
theorem dX8_rounds_96 : decode cX8_rounds 96 = .ok (.aload_n 0, 1) := by decide +kernel
theorem dX8_rounds_97 : decode cX8_rounds 97 = .ok (.getfield 31, 3) := by decide +kernel
theorem dX8_rounds_100 : decode cX8_rounds 100 = .ok (.iload_n 2, 1) := by decide +kernel
theorem dX8_rounds_101 : decode cX8_rounds 101 = .ok (.iaload, 1) := by decide +kernel
theorem dX8_rounds_102 : decode cX8_rounds 102 = .ok (.aload_n 0, 1) := by decide +kernel
theorem dX8_rounds_103 : decode cX8_rounds 103 = .ok (.getfield 34, 3) := by decide +kernel
theorem dX8_rounds_106 : decode cX8_rounds 106 = .ok (.iload_n 2, 1) := by decide +kernel
theorem dX8_rounds_107 : decode cX8_rounds 107 = .ok (.iaload, 1) := by decide +kernel
theorem dX8_rounds_108 : decode cX8_rounds 108 = .ok (.ineg, 1) := by decide +kernel
theorem dX8_rounds_109 : decode cX8_rounds 109 = .ok (.aload_n 0, 1) := by decide +kernel
theorem dX8_rounds_110 : decode cX8_rounds 110 = .ok (.getfield 37, 3) := by decide +kernel
theorem dX8_rounds_113 : decode cX8_rounds 113 = .ok (.iload_n 2, 1) := by decide +kernel
theorem dX8_rounds_114 : decode cX8_rounds 114 = .ok (.iaload, 1) := by decide +kernel
theorem dX8_rounds_115 : decode cX8_rounds 115 = .ok (.ineg, 1) := by decide +kernel
theorem dX8_rounds_116 : decode cX8_rounds 116 = .ok (.invokevirtual 126, 3) := by decide +kernel
theorem dX8_rounds_119 : decode cX8_rounds 119 = .ok (.iinc 2 1, 3) := by decide +kernel
theorem dX8_rounds_122 : decode cX8_rounds 122 = .ok (.goto (-66), 3) := by decide +kernel
theorem dX8_rounds_125 : decode cX8_rounds 125 = .ok (.iconst 0, 1) := by decide +kernel
theorem dX8_rounds_126 : decode cX8_rounds 126 = .ok (.istore_n 2, 1) := by decide +kernel
theorem dX8_rounds_127 : decode cX8_rounds 127 = .ok (.iconst 0, 1) := by decide +kernel
theorem dX8_rounds_128 : decode cX8_rounds 128 = .ok (.istore_n 3, 1) := by decide +kernel
theorem dX8_rounds_129 : decode cX8_rounds 129 = .ok (.iload_n 3, 1) := by decide +kernel
theorem dX8_rounds_130 : decode cX8_rounds 130 = .ok (.bipush 24, 2) := by decide +kernel
theorem dX8_rounds_132 : decode cX8_rounds 132 = .ok (.if_icmp .ge 86, 3) := by decide +kernel
theorem dX8_rounds_135 : decode cX8_rounds 135 = .ok (.aload_n 0, 1) := by decide +kernel
theorem dX8_rounds_136 : decode cX8_rounds 136 = .ok (.getfield 89, 3) := by decide +kernel
theorem dX8_rounds_139 : decode cX8_rounds 139 = .ok (.iload_n 3, 1) := by decide +kernel
theorem dX8_rounds_140 : decode cX8_rounds 140 = .ok (.iaload, 1) := by decide +kernel
theorem dX8_rounds_141 : decode cX8_rounds 141 = .ok (.ifCond .le 71, 3) := by decide +kernel
theorem dX8_rounds_144 : decode cX8_rounds 144 = .ok (.aload_n 0, 1) := by decide +kernel
theorem dX8_rounds_145 : decode cX8_rounds 145 = .ok (.getfield 46, 3) := by decide +kernel
theorem dX8_rounds_148 : decode cX8_rounds 148 = .ok (.aload_n 0, 1) := by decide +kernel
theorem dX8_rounds_149 : decode cX8_rounds 149 = .ok (.getfield 100, 3) := by decide +kernel
theorem dX8_rounds_152 : decode cX8_rounds 152 = .ok (.iload_n 3, 1) := by decide +kernel
theorem dX8_rounds_153 : decode cX8_rounds 153 = .ok (.invokestatic 122, 3) := by decide +kernel
theorem dX8_rounds_156 : decode cX8_rounds 156 = .ok (.iconst 1, 1) := by decide +kernel
theorem dX8_rounds_157 : decode cX8_rounds 157 = .ok (.bastore, 1) := by decide +kernel
theorem dX8_rounds_158 : decode cX8_rounds 158 = .ok (.aload_n 0, 1) := by decide +kernel
theorem dX8_rounds_159 : decode cX8_rounds 159 = .ok (.getfield 50, 3) := by decide +kernel
theorem dX8_rounds_162 : decode cX8_rounds 162 = .ok (.aload_n 0, 1) := by decide +kernel
theorem dX8_rounds_163 : decode cX8_rounds 163 = .ok (.getfield 100, 3) := by decide +kernel
theorem dX8_rounds_166 : decode cX8_rounds 166 = .ok (.iload_n 3, 1) := by decide +kernel
theorem dX8_rounds_167 : decode cX8_rounds 167 = .ok (.invokestatic 122, 3) := by decide +kernel
theorem dX8_rounds_170 : decode cX8_rounds 170 = .ok (.aload_n 0, 1) := by decide +kernel
theorem dX8_rounds_171 : decode cX8_rounds 171 = .ok (.getfield 83, 3) := by decide +kernel
theorem dX8_rounds_174 : decode cX8_rounds 174 = .ok (.iload_n 3, 1) := by decide +kernel
theorem dX8_rounds_175 : decode cX8_rounds 175 = .ok (.iaload, 1) := by decide +kernel
theorem dX8_rounds_176 : decode cX8_rounds 176 = .ok (.aload_n 0, 1) := by decide +kernel
theorem dX8_rounds_177 : decode cX8_rounds 177 = .ok (.getfield 89, 3) := by decide +kernel
theorem dX8_rounds_180 : decode cX8_rounds 180 = .ok (.iload_n 3, 1) := by decide +kernel
theorem dX8_rounds_181 : decode cX8_rounds 181 = .ok (.iaload, 1) := by decide +kernel
theorem dX8_rounds_182 : decode cX8_rounds 182 = .ok (.idiv, 1) := by decide +kernel
theorem dX8_rounds_183 : decode cX8_rounds 183 = .ok (.iastore, 1) := by decide +kernel
theorem dX8_rounds_184 : decode cX8_rounds 184 = .ok (.aload_n 0, 1) := by decide +kernel
theorem dX8_rounds_185 : decode cX8_rounds 185 = .ok (.getfield 53, 3) := by decide +kernel
theorem dX8_rounds_188 : decode cX8_rounds 188 = .ok (.aload_n 0, 1) := by decide +kernel
theorem dX8_rounds_189 : decode cX8_rounds 189 = .ok (.getfield 100, 3) := by decide +kernel
theorem dX8_rounds_192 : decode cX8_rounds 192 = .ok (.iload_n 3, 1) := by decide +kernel
theorem dX8_rounds_193 : decode cX8_rounds 193 = .ok (.invokestatic 122, 3) := by decide +kernel
theorem dX8_rounds_196 : decode cX8_rounds 196 = .ok (.aload_n 0, 1) := by decide +kernel
theorem dX8_rounds_197 : decode cX8_rounds 197 = .ok (.getfield 86, 3) := by decide +kernel
theorem dX8_rounds_200 : decode cX8_rounds 200 = .ok (.iload_n 3, 1) := by decide +kernel
theorem dX8_rounds_201 : decode cX8_rounds 201 = .ok (.iaload, 1) := by decide +kernel
theorem dX8_rounds_202 : decode cX8_rounds 202 = .ok (.aload_n 0, 1) := by decide +kernel
theorem dX8_rounds_203 : decode cX8_rounds 203 = .ok (.getfield 89, 3) := by decide +kernel
theorem dX8_rounds_206 : decode cX8_rounds 206 = .ok (.iload_n 3, 1) := by decide +kernel
theorem dX8_rounds_207 : decode cX8_rounds 207 = .ok (.iaload, 1) := by decide +kernel
theorem dX8_rounds_208 : decode cX8_rounds 208 = .ok (.idiv, 1) := by decide +kernel
theorem dX8_rounds_209 : decode cX8_rounds 209 = .ok (.iastore, 1) := by decide +kernel
theorem dX8_rounds_210 : decode cX8_rounds 210 = .ok (.iconst 1, 1) := by decide +kernel
theorem dX8_rounds_211 : decode cX8_rounds 211 = .ok (.istore_n 2, 1) := by decide +kernel
theorem dX8_rounds_212 : decode cX8_rounds 212 = .ok (.iinc 3 1, 3) := by decide +kernel
theorem dX8_rounds_215 : decode cX8_rounds 215 = .ok (.goto (-86), 3) := by decide +kernel
theorem dX8_rounds_218 : decode cX8_rounds 218 = .ok (.iload_n 2, 1) := by decide +kernel
theorem dX8_rounds_219 : decode cX8_rounds 219 = .ok (.ireturn, 1) := by decide +kernel
theorem dX8_chart_0 : decode cX8_chart 0 = .ok (.iload_n 1, 1) := by decide +kernel
theorem dX8_chart_1 : decode cX8_chart 1 = .ok (.iconst 1, 1) := by decide +kernel
theorem dX8_chart_2 : decode cX8_chart 2 = .ok (.aload_n 0, 1) := by decide +kernel
theorem dX8_chart_3 : decode cX8_chart 3 = .ok (.getfield 116, 3) := by decide +kernel
theorem dX8_chart_6 : decode cX8_chart 6 = .ok (.invokestatic 96, 3) := by decide +kernel
theorem dX8_chart_9 : decode cX8_chart 9 = .ok (.ifCond .eq 14, 3) := by decide +kernel
theorem dX8_chart_12 : decode cX8_chart 12 = .ok (.iload_n 2, 1) := by decide +kernel
theorem dX8_chart_13 : decode cX8_chart 13 = .ok (.invokestatic 110, 3) := by decide +kernel
theorem dX8_chart_16 : decode cX8_chart 16 = .ok (.ifCond .eq 7, 3) := by decide +kernel
theorem dX8_chart_19 : decode cX8_chart 19 = .ok (.iconst 1, 1) := by decide +kernel
theorem dX8_chart_20 : decode cX8_chart 20 = .ok (.goto 4, 3) := by decide +kernel
theorem dX8_chart_23 : decode cX8_chart 23 = .ok (.iconst 0, 1) := by decide +kernel
theorem dX8_chart_24 : decode cX8_chart 24 = .ok (.istore_n 3, 1) := by decide +kernel
theorem dX8_chart_25 : decode cX8_chart 25 = .ok (.aload_n 0, 1) := by decide +kernel
theorem dX8_chart_26 : decode cX8_chart 26 = .ok (.iload_n 3, 1) := by decide +kernel
theorem dX8_chart_27 : decode cX8_chart 27 = .ok (.ifCond .ne 7, 3) := by decide +kernel
theorem dX8_chart_30 : decode cX8_chart 30 = .ok (.iconst 1, 1) := by decide +kernel
theorem dX8_chart_31 : decode cX8_chart 31 = .ok (.goto 17, 3) := by decide +kernel
theorem dX8_chart_34 : decode cX8_chart 34 = .ok (.aload_n 0, 1) := by decide +kernel
theorem dX8_chart_35 : decode cX8_chart 35 = .ok (.getfield 100, 3) := by decide +kernel
theorem dX8_chart_38 : decode cX8_chart 38 = .ok (.bipush 12, 2) := by decide +kernel
theorem dX8_chart_40 : decode cX8_chart 40 = .ok (.if_icmp .ne 7, 3) := by decide +kernel
theorem dX8_chart_43 : decode cX8_chart 43 = .ok (.iconst 2, 1) := by decide +kernel
theorem dX8_chart_44 : decode cX8_chart 44 = .ok (.goto 4, 3) := by decide +kernel
theorem dX8_chart_47 : decode cX8_chart 47 = .ok (.iconst 0, 1) := by decide +kernel
theorem dX8_chart_48 : decode cX8_chart 48 = .ok (.putfield 92, 3) := by decide +kernel
theorem dX8_chart_51 : decode cX8_chart 51 = .ok (.aload_n 0, 1) := by decide +kernel
theorem dX8_chart_52 : decode cX8_chart 52 = .ok (.getfield 92, 3) := by decide +kernel
theorem dX8_chart_55 : decode cX8_chart 55 = .ok (.ifCond .le 5, 3) := by decide +kernel
theorem dX8_chart_58 : decode cX8_chart 58 = .ok (.iconst 0, 1) := by decide +kernel
theorem dX8_chart_59 : decode cX8_chart 59 = .ok (.ireturn, 1) := by decide +kernel
theorem dX8_chart_60 : decode cX8_chart 60 = .ok (.iconst 0, 1) := by decide +kernel
theorem dX8_chart_61 : decode cX8_chart 61 = .ok (.istore 4, 2) := by decide +kernel
theorem dX8_chart_63 : decode cX8_chart 63 = .ok (.iload 4, 2) := by decide +kernel
theorem dX8_chart_65 : decode cX8_chart 65 = .ok (.bipush 24, 2) := by decide +kernel
theorem dX8_chart_67 : decode cX8_chart 67 = .ok (.if_icmp .ge 69, 3) := by decide +kernel
theorem dX8_chart_70 : decode cX8_chart 70 = .ok (.aload_n 0, 1) := by decide +kernel
theorem dX8_chart_71 : decode cX8_chart 71 = .ok (.getfield 46, 3) := by decide +kernel
theorem dX8_chart_74 : decode cX8_chart 74 = .ok (.aload_n 0, 1) := by decide +kernel
theorem dX8_chart_75 : decode cX8_chart 75 = .ok (.getfield 100, 3) := by decide +kernel
theorem dX8_chart_78 : decode cX8_chart 78 = .ok (.iload 4, 2) := by decide +kernel
theorem dX8_chart_80 : decode cX8_chart 80 = .ok (.invokestatic 122, 3) := by decide +kernel
theorem dX8_chart_83 : decode cX8_chart 83 = .ok (.iload 4, 2) := by decide +kernel
theorem dX8_chart_85 : decode cX8_chart 85 = .ok (.ifCond .ne 7, 3) := by decide +kernel
theorem dX8_chart_88 : decode cX8_chart 88 = .ok (.iconst 1, 1) := by decide +kernel
theorem dX8_chart_89 : decode cX8_chart 89 = .ok (.goto 4, 3) := by decide +kernel
theorem dX8_chart_92 : decode cX8_chart 92 = .ok (.iconst 0, 1) := by decide +kernel
theorem dX8_chart_93 : decode cX8_chart 93 = .ok (.bastore, 1) := by decide +kernel
theorem dX8_chart_94 : decode cX8_chart 94 = .ok (.aload_n 0, 1) := by decide +kernel
theorem dX8_chart_95 : decode cX8_chart 95 = .ok (.getfield 56, 3) := by decide +kernel
theorem dX8_chart_98 : decode cX8_chart 98 = .ok (.aload_n 0, 1) := by decide +kernel
theorem dX8_chart_99 : decode cX8_chart 99 = .ok (.getfield 100, 3) := by decide +kernel
theorem dX8_chart_102 : decode cX8_chart 102 = .ok (.iload 4, 2) := by decide +kernel
theorem dX8_chart_104 : decode cX8_chart 104 = .ok (.invokestatic 122, 3) := by decide +kernel
theorem dX8_chart_107 : decode cX8_chart 107 = .ok (.aload_n 0, 1) := by decide +kernel
theorem dX8_chart_108 : decode cX8_chart 108 = .ok (.getfield 16, 3) := by decide +kernel
theorem dX8_chart_111 : decode cX8_chart 111 = .ok (.iload 4, 2) := by decide +kernel
theorem dX8_chart_113 : decode cX8_chart 113 = .ok (.iaload, 1) := by decide +kernel
theorem dX8_chart_114 : decode cX8_chart 114 = .ok (.iastore, 1) := by decide +kernel
theorem dX8_chart_115 : decode cX8_chart 115 = .ok (.aload_n 0, 1) := by decide +kernel
theorem dX8_chart_116 : decode cX8_chart 116 = .ok (.getfield 59, 3) := by decide +kernel
theorem dX8_chart_119 : decode cX8_chart 119 = .ok (.aload_n 0, 1) := by decide +kernel
theorem dX8_chart_120 : decode cX8_chart 120 = .ok (.getfield 100, 3) := by decide +kernel
theorem dX8_chart_123 : decode cX8_chart 123 = .ok (.iload 4, 2) := by decide +kernel
theorem dX8_chart_125 : decode cX8_chart 125 = .ok (.invokestatic 122, 3) := by decide +kernel
theorem dX8_chart_128 : decode cX8_chart 128 = .ok (.iconst (-1), 1) := by decide +kernel
theorem dX8_chart_129 : decode cX8_chart 129 = .ok (.iastore, 1) := by decide +kernel
theorem dX8_chart_130 : decode cX8_chart 130 = .ok (.iinc 4 1, 3) := by decide +kernel
theorem dX8_chart_133 : decode cX8_chart 133 = .ok (.goto (-70), 3) := by decide +kernel
theorem dX8_chart_136 : decode cX8_chart 136 = .ok (.aload_n 0, 1) := by decide +kernel
theorem dX8_chart_137 : decode cX8_chart 137 = .ok (.getfield 50, 3) := by decide +kernel
theorem dX8_chart_140 : decode cX8_chart 140 = .ok (.aload_n 0, 1) := by decide +kernel
theorem dX8_chart_141 : decode cX8_chart 141 = .ok (.getfield 100, 3) := by decide +kernel
theorem dX8_chart_144 : decode cX8_chart 144 = .ok (.iconst 0, 1) := by decide +kernel
theorem dX8_chart_145 : decode cX8_chart 145 = .ok (.invokestatic 122, 3) := by decide +kernel
theorem dX8_chart_148 : decode cX8_chart 148 = .ok (.aload_n 0, 1) := by decide +kernel
theorem dX8_chart_149 : decode cX8_chart 149 = .ok (.getfield 7, 3) := by decide +kernel
theorem dX8_chart_152 : decode cX8_chart 152 = .ok (.iconst 0, 1) := by decide +kernel
theorem dX8_chart_153 : decode cX8_chart 153 = .ok (.iaload, 1) := by decide +kernel
theorem dX8_chart_154 : decode cX8_chart 154 = .ok (.iastore, 1) := by decide +kernel
theorem dX8_chart_155 : decode cX8_chart 155 = .ok (.aload_n 0, 1) := by decide +kernel
theorem dX8_chart_156 : decode cX8_chart 156 = .ok (.getfield 53, 3) := by decide +kernel
theorem dX8_chart_159 : decode cX8_chart 159 = .ok (.aload_n 0, 1) := by decide +kernel
theorem dX8_chart_160 : decode cX8_chart 160 = .ok (.getfield 100, 3) := by decide +kernel
theorem dX8_chart_163 : decode cX8_chart 163 = .ok (.iconst 0, 1) := by decide +kernel
theorem dX8_chart_164 : decode cX8_chart 164 = .ok (.invokestatic 122, 3) := by decide +kernel
theorem dX8_chart_167 : decode cX8_chart 167 = .ok (.aload_n 0, 1) := by decide +kernel
theorem dX8_chart_168 : decode cX8_chart 168 = .ok (.getfield 13, 3) := by decide +kernel
theorem dX8_chart_171 : decode cX8_chart 171 = .ok (.iconst 0, 1) := by decide +kernel
theorem dX8_chart_172 : decode cX8_chart 172 = .ok (.iaload, 1) := by decide +kernel
theorem dX8_chart_173 : decode cX8_chart 173 = .ok (.iastore, 1) := by decide +kernel
theorem dX8_chart_174 : decode cX8_chart 174 = .ok (.iconst 0, 1) := by decide +kernel
theorem dX8_chart_175 : decode cX8_chart 175 = .ok (.istore 4, 2) := by decide +kernel
theorem dX8_chart_177 : decode cX8_chart 177 = .ok (.iload 4, 2) := by decide +kernel
theorem dX8_chart_179 : decode cX8_chart 179 = .ok (.iconst 3, 1) := by decide +kernel
theorem dX8_chart_180 : decode cX8_chart 180 = .ok (.if_icmp .ge 25, 3) := by decide +kernel
theorem dX8_chart_183 : decode cX8_chart 183 = .ok (.aload_n 0, 1) := by decide +kernel
theorem dX8_chart_184 : decode cX8_chart 184 = .ok (.getfield 43, 3) := by decide +kernel
theorem dX8_chart_187 : decode cX8_chart 187 = .ok (.iconst 3, 1) := by decide +kernel
theorem dX8_chart_188 : decode cX8_chart 188 = .ok (.aload_n 0, 1) := by decide +kernel
theorem dX8_chart_189 : decode cX8_chart 189 = .ok (.getfield 100, 3) := by decide +kernel
theorem dX8_chart_192 : decode cX8_chart 192 = .ok (.imul, 1) := by decide +kernel
theorem dX8_chart_193 : decode cX8_chart 193 = .ok (.iload 4, 2) := by decide +kernel
theorem dX8_chart_195 : decode cX8_chart 195 = .ok (.iadd, 1) := by decide +kernel
theorem dX8_chart_196 : decode cX8_chart 196 = .ok (.bipush 100, 2) := by decide +kernel
theorem dX8_chart_198 : decode cX8_chart 198 = .ok (.iastore, 1) := by decide +kernel
theorem dX8_chart_199 : decode cX8_chart 199 = .ok (.iinc 4 1, 3) := by decide +kernel
theorem dX8_chart_202 : decode cX8_chart 202 = .ok (.goto (-25), 3) := by decide +kernel
theorem dX8_chart_205 : decode cX8_chart 205 = .ok (.iconst 1, 1) := by decide +kernel
theorem dX8_chart_206 : decode cX8_chart 206 = .ok (.istore 4, 2) := by decide +kernel
theorem dX8_chart_208 : decode cX8_chart 208 = .ok (.iload 4, 2) := by decide +kernel
theorem dX8_chart_210 : decode cX8_chart 210 = .ok (.ifCond .eq 13, 3) := by decide +kernel
theorem dX8_chart_213 : decode cX8_chart 213 = .ok (.aload_n 0, 1) := by decide +kernel
theorem dX8_chart_214 : decode cX8_chart 214 = .ok (.iload_n 1, 1) := by decide +kernel
theorem dX8_chart_215 : decode cX8_chart 215 = .ok (.invokevirtual 130, 3) := by decide +kernel
theorem dX8_chart_218 : decode cX8_chart 218 = .ok (.istore 4, 2) := by decide +kernel
theorem dX8_chart_220 : decode cX8_chart 220 = .ok (.goto (-12), 3) := by decide +kernel
theorem dX8_chart_223 : decode cX8_chart 223 = .ok (.aload_n 0, 1) := by decide +kernel
theorem dX8_chart_224 : decode cX8_chart 224 = .ok (.getfield 40, 3) := by decide +kernel
theorem dX8_chart_227 : decode cX8_chart 227 = .ok (.aload_n 0, 1) := by decide +kernel
theorem dX8_chart_228 : decode cX8_chart 228 = .ok (.getfield 100, 3) := by decide +kernel
theorem dX8_chart_231 : decode cX8_chart 231 = .ok (.iload_n 2, 1) := by decide +kernel
theorem dX8_chart_232 : decode cX8_chart 232 = .ok (.iastore, 1) := by decide +kernel
theorem dX8_chart_233 : decode cX8_chart 233 = .ok (.aload_n 0, 1) := by decide +kernel
theorem dX8_chart_234 : decode cX8_chart 234 = .ok (.dup, 1) := by decide +kernel
theorem dX8_chart_235 : decode cX8_chart 235 = .ok (.getfield 100, 3) := by decide +kernel
theorem dX8_chart_238 : decode cX8_chart 238 = .ok (.iconst 1, 1) := by decide +kernel
theorem dX8_chart_239 : decode cX8_chart 239 = .ok (.iadd, 1) := by decide +kernel
theorem dX8_chart_240 : decode cX8_chart 240 = .ok (.putfield 100, 3) := by decide +kernel
theorem dX8_chart_243 : decode cX8_chart 243 = .ok (.aload_n 0, 1) := by decide +kernel
theorem dX8_chart_244 : decode cX8_chart 244 = .ok (.getfield 100, 3) := by decide +kernel
theorem dX8_chart_247 : decode cX8_chart 247 = .ok (.iconst 1, 1) := by decide +kernel
theorem dX8_chart_248 : decode cX8_chart 248 = .ok (.isub, 1) := by decide +kernel
theorem dX8_chart_249 : decode cX8_chart 249 = .ok (.ireturn, 1) := by decide +kernel
theorem dX8_isCopyist_0 : decode cX8_isCopyist 0 = .ok (.iload_n 0, 1) := by decide +kernel
theorem dX8_isCopyist_1 : decode cX8_isCopyist 1 = .ok (.iconst 0, 1) := by decide +kernel
theorem dX8_isCopyist_2 : decode cX8_isCopyist 2 = .ok (.iconst 3, 1) := by decide +kernel
theorem dX8_isCopyist_3 : decode cX8_isCopyist 3 = .ok (.invokestatic 96, 3) := by decide +kernel
theorem dX8_isCopyist_6 : decode cX8_isCopyist 6 = .ok (.ireturn, 1) := by decide +kernel
theorem dX8_hand_0 : decode cX8_hand 0 = .ok (.aload_n 0, 1) := by decide +kernel
theorem dX8_hand_1 : decode cX8_hand 1 = .ok (.iload_n 1, 1) := by decide +kernel
theorem dX8_hand_2 : decode cX8_hand 2 = .ok (.invokestatic 133, 3) := by decide +kernel
theorem dX8_hand_5 : decode cX8_hand 5 = .ok (.ifCond .ne 7, 3) := by decide +kernel
theorem dX8_hand_8 : decode cX8_hand 8 = .ok (.iconst 1, 1) := by decide +kernel
theorem dX8_hand_9 : decode cX8_hand 9 = .ok (.goto 19, 3) := by decide +kernel
theorem dX8_hand_12 : decode cX8_hand 12 = .ok (.iload_n 2, 1) := by decide +kernel
theorem dX8_hand_13 : decode cX8_hand 13 = .ok (.bipush (-9), 2) := by decide +kernel
theorem dX8_hand_15 : decode cX8_hand 15 = .ok (.bipush 9, 2) := by decide +kernel
theorem dX8_hand_17 : decode cX8_hand 17 = .ok (.invokestatic 96, 3) := by decide +kernel
theorem dX8_hand_20 : decode cX8_hand 20 = .ok (.ifCond .ne 7, 3) := by decide +kernel
theorem dX8_hand_23 : decode cX8_hand 23 = .ok (.iconst 2, 1) := by decide +kernel
theorem dX8_hand_24 : decode cX8_hand 24 = .ok (.goto 4, 3) := by decide +kernel
theorem dX8_hand_27 : decode cX8_hand 27 = .ok (.iconst 0, 1) := by decide +kernel
theorem dX8_hand_28 : decode cX8_hand 28 = .ok (.putfield 92, 3) := by decide +kernel
theorem dX8_hand_31 : decode cX8_hand 31 = .ok (.aload_n 0, 1) := by decide +kernel
theorem dX8_hand_32 : decode cX8_hand 32 = .ok (.getfield 92, 3) := by decide +kernel
theorem dX8_hand_35 : decode cX8_hand 35 = .ok (.ifCond .le 5, 3) := by decide +kernel
theorem dX8_hand_38 : decode cX8_hand 38 = .ok (.iconst 0, 1) := by decide +kernel
theorem dX8_hand_39 : decode cX8_hand 39 = .ok (.ireturn, 1) := by decide +kernel
theorem dX8_hand_40 : decode cX8_hand 40 = .ok (.aload_n 0, 1) := by decide +kernel
theorem dX8_hand_41 : decode cX8_hand 41 = .ok (.getfield 62, 3) := by decide +kernel
theorem dX8_hand_44 : decode cX8_hand 44 = .ok (.iload_n 1, 1) := by decide +kernel
theorem dX8_hand_45 : decode cX8_hand 45 = .ok (.iaload, 1) := by decide +kernel
theorem dX8_hand_46 : decode cX8_hand 46 = .ok (.istore_n 3, 1) := by decide +kernel
theorem dX8_hand_47 : decode cX8_hand 47 = .ok (.aload_n 0, 1) := by decide +kernel
theorem dX8_hand_48 : decode cX8_hand 48 = .ok (.getfield 62, 3) := by decide +kernel
theorem dX8_hand_51 : decode cX8_hand 51 = .ok (.iload_n 1, 1) := by decide +kernel
theorem dX8_hand_52 : decode cX8_hand 52 = .ok (.iload_n 2, 1) := by decide +kernel
theorem dX8_hand_53 : decode cX8_hand 53 = .ok (.iastore, 1) := by decide +kernel
theorem dX8_hand_54 : decode cX8_hand 54 = .ok (.iload_n 3, 1) := by decide +kernel
theorem dX8_hand_55 : decode cX8_hand 55 = .ok (.ireturn, 1) := by decide +kernel
theorem dX8_reads_0 : decode cX8_reads 0 = .ok (.aload_n 0, 1) := by decide +kernel
theorem dX8_reads_1 : decode cX8_reads 1 = .ok (.iload_n 1, 1) := by decide +kernel
theorem dX8_reads_2 : decode cX8_reads 2 = .ok (.invokestatic 133, 3) := by decide +kernel
theorem dX8_reads_5 : decode cX8_reads 5 = .ok (.ifCond .ne 7, 3) := by decide +kernel
theorem dX8_reads_8 : decode cX8_reads 8 = .ok (.iconst 1, 1) := by decide +kernel
theorem dX8_reads_9 : decode cX8_reads 9 = .ok (.goto 22, 3) := by decide +kernel
theorem dX8_reads_12 : decode cX8_reads 12 = .ok (.iload_n 2, 1) := by decide +kernel
theorem dX8_reads_13 : decode cX8_reads 13 = .ok (.invokestatic 106, 3) := by decide +kernel
theorem dX8_reads_16 : decode cX8_reads 16 = .ok (.ifCond .eq 10, 3) := by decide +kernel
theorem dX8_reads_19 : decode cX8_reads 19 = .ok (.iload_n 3, 1) := by decide +kernel
theorem dX8_reads_20 : decode cX8_reads 20 = .ok (.invokestatic 106, 3) := by decide +kernel
theorem dX8_reads_23 : decode cX8_reads 23 = .ok (.ifCond .ne 7, 3) := by decide +kernel
theorem dX8_reads_26 : decode cX8_reads 26 = .ok (.iconst 2, 1) := by decide +kernel
theorem dX8_reads_27 : decode cX8_reads 27 = .ok (.goto 4, 3) := by decide +kernel
theorem dX8_reads_30 : decode cX8_reads 30 = .ok (.iconst 0, 1) := by decide +kernel
theorem dX8_reads_31 : decode cX8_reads 31 = .ok (.putfield 92, 3) := by decide +kernel
theorem dX8_reads_34 : decode cX8_reads 34 = .ok (.aload_n 0, 1) := by decide +kernel
theorem dX8_reads_35 : decode cX8_reads 35 = .ok (.getfield 92, 3) := by decide +kernel
theorem dX8_reads_38 : decode cX8_reads 38 = .ok (.ifCond .ne 15, 3) := by decide +kernel
theorem dX8_reads_41 : decode cX8_reads 41 = .ok (.aload_n 0, 1) := by decide +kernel
theorem dX8_reads_42 : decode cX8_reads 42 = .ok (.getfield 65, 3) := by decide +kernel
theorem dX8_reads_45 : decode cX8_reads 45 = .ok (.bipush 100, 2) := by decide +kernel
theorem dX8_reads_47 : decode cX8_reads 47 = .ok (.iload_n 1, 1) := by decide +kernel
theorem dX8_reads_48 : decode cX8_reads 48 = .ok (.imul, 1) := by decide +kernel
theorem dX8_reads_49 : decode cX8_reads 49 = .ok (.iload_n 2, 1) := by decide +kernel
theorem dX8_reads_50 : decode cX8_reads 50 = .ok (.iadd, 1) := by decide +kernel
theorem dX8_reads_51 : decode cX8_reads 51 = .ok (.iload_n 3, 1) := by decide +kernel
theorem dX8_reads_52 : decode cX8_reads 52 = .ok (.iastore, 1) := by decide +kernel
theorem dX8_reads_53 : decode cX8_reads 53 = .ok (.return_, 1) := by decide +kernel
theorem dX8_made_0 : decode cX8_made 0 = .ok (.iload_n 1, 1) := by decide +kernel
theorem dX8_made_1 : decode cX8_made 1 = .ok (.iconst 1, 1) := by decide +kernel
theorem dX8_made_2 : decode cX8_made 2 = .ok (.if_icmp .ne 11, 3) := by decide +kernel
theorem dX8_made_5 : decode cX8_made 5 = .ok (.iload_n 0, 1) := by decide +kernel
theorem dX8_made_6 : decode cX8_made 6 = .ok (.iconst 5, 1) := by decide +kernel
theorem dX8_made_7 : decode cX8_made 7 = .ok (.idiv, 1) := by decide +kernel
theorem dX8_made_8 : decode cX8_made 8 = .ok (.iconst 5, 1) := by decide +kernel
theorem dX8_made_9 : decode cX8_made 9 = .ok (.imul, 1) := by decide +kernel
theorem dX8_made_10 : decode cX8_made 10 = .ok (.goto 15, 3) := by decide +kernel
theorem dX8_made_13 : decode cX8_made 13 = .ok (.iload_n 1, 1) := by decide +kernel
theorem dX8_made_14 : decode cX8_made 14 = .ok (.iconst 2, 1) := by decide +kernel
theorem dX8_made_15 : decode cX8_made 15 = .ok (.if_icmp .ne 9, 3) := by decide +kernel
theorem dX8_made_18 : decode cX8_made 18 = .ok (.iload_n 0, 1) := by decide +kernel
theorem dX8_made_19 : decode cX8_made 19 = .ok (.iload_n 2, 1) := by decide +kernel
theorem dX8_made_20 : decode cX8_made 20 = .ok (.iadd, 1) := by decide +kernel
theorem dX8_made_21 : decode cX8_made 21 = .ok (.goto 4, 3) := by decide +kernel
theorem dX8_made_24 : decode cX8_made 24 = .ok (.iload_n 0, 1) := by decide +kernel
theorem dX8_made_25 : decode cX8_made 25 = .ok (.ireturn, 1) := by decide +kernel
theorem dX8_copy_0 : decode cX8_copy 0 = .ok (.aload_n 0, 1) := by decide +kernel
theorem dX8_copy_1 : decode cX8_copy 1 = .ok (.iload_n 1, 1) := by decide +kernel
theorem dX8_copy_2 : decode cX8_copy 2 = .ok (.invokevirtual 136, 3) := by decide +kernel
theorem dX8_copy_5 : decode cX8_copy 5 = .ok (.ifCond .eq 14, 3) := by decide +kernel
theorem dX8_copy_8 : decode cX8_copy 8 = .ok (.iload_n 2, 1) := by decide +kernel
theorem dX8_copy_9 : decode cX8_copy 9 = .ok (.invokestatic 133, 3) := by decide +kernel
theorem dX8_copy_12 : decode cX8_copy 12 = .ok (.ifCond .eq 7, 3) := by decide +kernel
theorem dX8_copy_15 : decode cX8_copy 15 = .ok (.iconst 1, 1) := by decide +kernel
theorem dX8_copy_16 : decode cX8_copy 16 = .ok (.goto 4, 3) := by decide +kernel
theorem dX8_copy_19 : decode cX8_copy 19 = .ok (.iconst 0, 1) := by decide +kernel
theorem dX8_copy_20 : decode cX8_copy 20 = .ok (.istore 5, 2) := by decide +kernel
theorem dX8_copy_22 : decode cX8_copy 22 = .ok (.iload 5, 2) := by decide +kernel
theorem dX8_copy_24 : decode cX8_copy 24 = .ok (.ifCond .eq 35, 3) := by decide +kernel
theorem dX8_copy_27 : decode cX8_copy 27 = .ok (.iload_n 3, 1) := by decide +kernel
theorem dX8_copy_28 : decode cX8_copy 28 = .ok (.iconst 0, 1) := by decide +kernel
theorem dX8_copy_29 : decode cX8_copy 29 = .ok (.iconst 2, 1) := by decide +kernel
theorem dX8_copy_30 : decode cX8_copy 30 = .ok (.invokestatic 96, 3) := by decide +kernel
theorem dX8_copy_33 : decode cX8_copy 33 = .ok (.ifCond .eq 26, 3) := by decide +kernel
theorem dX8_copy_36 : decode cX8_copy 36 = .ok (.iload 4, 2) := by decide +kernel
theorem dX8_copy_38 : decode cX8_copy 38 = .ok (.invokestatic 110, 3) := by decide +kernel
theorem dX8_copy_41 : decode cX8_copy 41 = .ok (.ifCond .eq 18, 3) := by decide +kernel
theorem dX8_copy_44 : decode cX8_copy 44 = .ok (.iload 4, 2) := by decide +kernel
theorem dX8_copy_46 : decode cX8_copy 46 = .ok (.aload_n 0, 1) := by decide +kernel
theorem dX8_copy_47 : decode cX8_copy 47 = .ok (.getfield 40, 3) := by decide +kernel
theorem dX8_copy_50 : decode cX8_copy 50 = .ok (.iload_n 1, 1) := by decide +kernel
theorem dX8_copy_51 : decode cX8_copy 51 = .ok (.iaload, 1) := by decide +kernel
theorem dX8_copy_52 : decode cX8_copy 52 = .ok (.if_icmp .lt 7, 3) := by decide +kernel
theorem dX8_copy_55 : decode cX8_copy 55 = .ok (.iconst 1, 1) := by decide +kernel
theorem dX8_copy_56 : decode cX8_copy 56 = .ok (.goto 4, 3) := by decide +kernel
theorem dX8_copy_59 : decode cX8_copy 59 = .ok (.iconst 0, 1) := by decide +kernel
theorem dX8_copy_60 : decode cX8_copy 60 = .ok (.istore 6, 2) := by decide +kernel
theorem dX8_copy_62 : decode cX8_copy 62 = .ok (.aload_n 0, 1) := by decide +kernel
theorem dX8_copy_63 : decode cX8_copy 63 = .ok (.iload 5, 2) := by decide +kernel
theorem dX8_copy_65 : decode cX8_copy 65 = .ok (.ifCond .ne 7, 3) := by decide +kernel
theorem dX8_copy_68 : decode cX8_copy 68 = .ok (.iconst 1, 1) := by decide +kernel
theorem dX8_copy_69 : decode cX8_copy 69 = .ok (.goto 26, 3) := by decide +kernel
theorem dX8_copy_72 : decode cX8_copy 72 = .ok (.iload 6, 2) := by decide +kernel
theorem dX8_copy_74 : decode cX8_copy 74 = .ok (.ifCond .ne 7, 3) := by decide +kernel
theorem dX8_copy_77 : decode cX8_copy 77 = .ok (.iconst 2, 1) := by decide +kernel
theorem dX8_copy_78 : decode cX8_copy 78 = .ok (.goto 17, 3) := by decide +kernel
theorem dX8_copy_81 : decode cX8_copy 81 = .ok (.aload_n 0, 1) := by decide +kernel
theorem dX8_copy_82 : decode cX8_copy 82 = .ok (.getfield 100, 3) := by decide +kernel
theorem dX8_copy_85 : decode cX8_copy 85 = .ok (.bipush 12, 2) := by decide +kernel
theorem dX8_copy_87 : decode cX8_copy 87 = .ok (.if_icmp .ne 7, 3) := by decide +kernel
theorem dX8_copy_90 : decode cX8_copy 90 = .ok (.iconst 3, 1) := by decide +kernel
theorem dX8_copy_91 : decode cX8_copy 91 = .ok (.goto 4, 3) := by decide +kernel
theorem dX8_copy_94 : decode cX8_copy 94 = .ok (.iconst 0, 1) := by decide +kernel
theorem dX8_copy_95 : decode cX8_copy 95 = .ok (.putfield 92, 3) := by decide +kernel
theorem dX8_copy_98 : decode cX8_copy 98 = .ok (.aload_n 0, 1) := by decide +kernel
theorem dX8_copy_99 : decode cX8_copy 99 = .ok (.getfield 92, 3) := by decide +kernel
theorem dX8_copy_102 : decode cX8_copy 102 = .ok (.ifCond .le 5, 3) := by decide +kernel
theorem dX8_copy_105 : decode cX8_copy 105 = .ok (.iconst 0, 1) := by decide +kernel
theorem dX8_copy_106 : decode cX8_copy 106 = .ok (.ireturn, 1) := by decide +kernel
theorem dX8_copy_107 : decode cX8_copy 107 = .ok (.iconst 0, 1) := by decide +kernel
theorem dX8_copy_108 : decode cX8_copy 108 = .ok (.istore 7, 2) := by decide +kernel
theorem dX8_copy_110 : decode cX8_copy 110 = .ok (.iload 7, 2) := by decide +kernel
theorem dX8_copy_112 : decode cX8_copy 112 = .ok (.bipush 24, 2) := by decide +kernel
theorem dX8_copy_114 : decode cX8_copy 114 = .ok (.if_icmp .ge 137, 3) := by decide +kernel
theorem dX8_copy_117 : decode cX8_copy 117 = .ok (.iload_n 1, 1) := by decide +kernel
theorem dX8_copy_118 : decode cX8_copy 118 = .ok (.iload 7, 2) := by decide +kernel
theorem dX8_copy_120 : decode cX8_copy 120 = .ok (.invokestatic 122, 3) := by decide +kernel
theorem dX8_copy_123 : decode cX8_copy 123 = .ok (.istore 8, 2) := by decide +kernel
theorem dX8_copy_125 : decode cX8_copy 125 = .ok (.aload_n 0, 1) := by decide +kernel
theorem dX8_copy_126 : decode cX8_copy 126 = .ok (.getfield 100, 3) := by decide +kernel
theorem dX8_copy_129 : decode cX8_copy 129 = .ok (.iload 7, 2) := by decide +kernel
theorem dX8_copy_131 : decode cX8_copy 131 = .ok (.invokestatic 122, 3) := by decide +kernel
theorem dX8_copy_134 : decode cX8_copy 134 = .ok (.istore 9, 2) := by decide +kernel
theorem dX8_copy_136 : decode cX8_copy 136 = .ok (.aload_n 0, 1) := by decide +kernel
theorem dX8_copy_137 : decode cX8_copy 137 = .ok (.getfield 46, 3) := by decide +kernel
theorem dX8_copy_140 : decode cX8_copy 140 = .ok (.iload 9, 2) := by decide +kernel
theorem dX8_copy_142 : decode cX8_copy 142 = .ok (.aload_n 0, 1) := by decide +kernel
theorem dX8_copy_143 : decode cX8_copy 143 = .ok (.getfield 46, 3) := by decide +kernel
theorem dX8_copy_146 : decode cX8_copy 146 = .ok (.iload 8, 2) := by decide +kernel
theorem dX8_copy_148 : decode cX8_copy 148 = .ok (.baload, 1) := by decide +kernel
theorem dX8_copy_149 : decode cX8_copy 149 = .ok (.bastore, 1) := by decide +kernel
theorem dX8_copy_150 : decode cX8_copy 150 = .ok (.aload_n 0, 1) := by decide +kernel
theorem dX8_copy_151 : decode cX8_copy 151 = .ok (.getfield 50, 3) := by decide +kernel
theorem dX8_copy_154 : decode cX8_copy 154 = .ok (.iload 9, 2) := by decide +kernel
theorem dX8_copy_156 : decode cX8_copy 156 = .ok (.aload_n 0, 1) := by decide +kernel
theorem dX8_copy_157 : decode cX8_copy 157 = .ok (.getfield 50, 3) := by decide +kernel
theorem dX8_copy_160 : decode cX8_copy 160 = .ok (.iload 8, 2) := by decide +kernel
theorem dX8_copy_162 : decode cX8_copy 162 = .ok (.iaload, 1) := by decide +kernel
theorem dX8_copy_163 : decode cX8_copy 163 = .ok (.iload_n 3, 1) := by decide +kernel
theorem dX8_copy_164 : decode cX8_copy 164 = .ok (.aload_n 0, 1) := by decide +kernel
theorem dX8_copy_165 : decode cX8_copy 165 = .ok (.getfield 62, 3) := by decide +kernel
theorem dX8_copy_168 : decode cX8_copy 168 = .ok (.iload_n 2, 1) := by decide +kernel
theorem dX8_copy_169 : decode cX8_copy 169 = .ok (.iaload, 1) := by decide +kernel
theorem dX8_copy_170 : decode cX8_copy 170 = .ok (.invokestatic 139, 3) := by decide +kernel
theorem dX8_copy_173 : decode cX8_copy 173 = .ok (.iastore, 1) := by decide +kernel
theorem dX8_copy_174 : decode cX8_copy 174 = .ok (.aload_n 0, 1) := by decide +kernel
theorem dX8_copy_175 : decode cX8_copy 175 = .ok (.getfield 53, 3) := by decide +kernel
theorem dX8_copy_178 : decode cX8_copy 178 = .ok (.iload 9, 2) := by decide +kernel
theorem dX8_copy_180 : decode cX8_copy 180 = .ok (.aload_n 0, 1) := by decide +kernel
theorem dX8_copy_181 : decode cX8_copy 181 = .ok (.getfield 53, 3) := by decide +kernel
theorem dX8_copy_184 : decode cX8_copy 184 = .ok (.iload 8, 2) := by decide +kernel
theorem dX8_copy_186 : decode cX8_copy 186 = .ok (.iaload, 1) := by decide +kernel
theorem dX8_copy_187 : decode cX8_copy 187 = .ok (.iload_n 3, 1) := by decide +kernel
theorem dX8_copy_188 : decode cX8_copy 188 = .ok (.aload_n 0, 1) := by decide +kernel
theorem dX8_copy_189 : decode cX8_copy 189 = .ok (.getfield 62, 3) := by decide +kernel
theorem dX8_copy_192 : decode cX8_copy 192 = .ok (.iload_n 2, 1) := by decide +kernel
theorem dX8_copy_193 : decode cX8_copy 193 = .ok (.iaload, 1) := by decide +kernel
theorem dX8_copy_194 : decode cX8_copy 194 = .ok (.ineg, 1) := by decide +kernel
theorem dX8_copy_195 : decode cX8_copy 195 = .ok (.invokestatic 139, 3) := by decide +kernel
theorem dX8_copy_198 : decode cX8_copy 198 = .ok (.iastore, 1) := by decide +kernel
theorem dX8_copy_199 : decode cX8_copy 199 = .ok (.aload_n 0, 1) := by decide +kernel
theorem dX8_copy_200 : decode cX8_copy 200 = .ok (.getfield 56, 3) := by decide +kernel
theorem dX8_copy_203 : decode cX8_copy 203 = .ok (.iload 9, 2) := by decide +kernel
theorem dX8_copy_205 : decode cX8_copy 205 = .ok (.aload_n 0, 1) := by decide +kernel
theorem dX8_copy_206 : decode cX8_copy 206 = .ok (.getfield 65, 3) := by decide +kernel
theorem dX8_copy_209 : decode cX8_copy 209 = .ok (.bipush 100, 2) := by decide +kernel
theorem dX8_copy_211 : decode cX8_copy 211 = .ok (.iload_n 2, 1) := by decide +kernel
theorem dX8_copy_212 : decode cX8_copy 212 = .ok (.imul, 1) := by decide +kernel
theorem dX8_copy_213 : decode cX8_copy 213 = .ok (.aload_n 0, 1) := by decide +kernel
theorem dX8_copy_214 : decode cX8_copy 214 = .ok (.getfield 56, 3) := by decide +kernel
theorem dX8_copy_217 : decode cX8_copy 217 = .ok (.iload 8, 2) := by decide +kernel
theorem dX8_copy_219 : decode cX8_copy 219 = .ok (.iaload, 1) := by decide +kernel
theorem dX8_copy_220 : decode cX8_copy 220 = .ok (.iadd, 1) := by decide +kernel
theorem dX8_copy_221 : decode cX8_copy 221 = .ok (.iaload, 1) := by decide +kernel
theorem dX8_copy_222 : decode cX8_copy 222 = .ok (.iastore, 1) := by decide +kernel
theorem dX8_copy_223 : decode cX8_copy 223 = .ok (.aload_n 0, 1) := by decide +kernel
theorem dX8_copy_224 : decode cX8_copy 224 = .ok (.getfield 59, 3) := by decide +kernel
theorem dX8_copy_227 : decode cX8_copy 227 = .ok (.iload 9, 2) := by decide +kernel
theorem dX8_copy_229 : decode cX8_copy 229 = .ok (.aload_n 0, 1) := by decide +kernel
theorem dX8_copy_230 : decode cX8_copy 230 = .ok (.getfield 46, 3) := by decide +kernel
theorem dX8_copy_233 : decode cX8_copy 233 = .ok (.iload 8, 2) := by decide +kernel
theorem dX8_copy_235 : decode cX8_copy 235 = .ok (.baload, 1) := by decide +kernel
theorem dX8_copy_236 : decode cX8_copy 236 = .ok (.ifCond .eq 7, 3) := by decide +kernel
theorem dX8_copy_239 : decode cX8_copy 239 = .ok (.iload_n 1, 1) := by decide +kernel
theorem dX8_copy_240 : decode cX8_copy 240 = .ok (.goto 4, 3) := by decide +kernel
theorem dX8_copy_243 : decode cX8_copy 243 = .ok (.iconst (-1), 1) := by decide +kernel
theorem dX8_copy_244 : decode cX8_copy 244 = .ok (.iastore, 1) := by decide +kernel
theorem dX8_copy_245 : decode cX8_copy 245 = .ok (.iinc 7 1, 3) := by decide +kernel
theorem dX8_copy_248 : decode cX8_copy 248 = .ok (.goto (-138), 3) := by decide +kernel
theorem dX8_copy_251 : decode cX8_copy 251 = .ok (.iconst 0, 1) := by decide +kernel
theorem dX8_copy_252 : decode cX8_copy 252 = .ok (.istore 7, 2) := by decide +kernel
theorem dX8_copy_254 : decode cX8_copy 254 = .ok (.iload 7, 2) := by decide +kernel
theorem dX8_copy_256 : decode cX8_copy 256 = .ok (.iconst 3, 1) := by decide +kernel
theorem dX8_copy_257 : decode cX8_copy 257 = .ok (.if_icmp .ge 34, 3) := by decide +kernel
theorem dX8_copy_260 : decode cX8_copy 260 = .ok (.aload_n 0, 1) := by decide +kernel
theorem dX8_copy_261 : decode cX8_copy 261 = .ok (.getfield 43, 3) := by decide +kernel
theorem dX8_copy_264 : decode cX8_copy 264 = .ok (.iconst 3, 1) := by decide +kernel
theorem dX8_copy_265 : decode cX8_copy 265 = .ok (.aload_n 0, 1) := by decide +kernel
theorem dX8_copy_266 : decode cX8_copy 266 = .ok (.getfield 100, 3) := by decide +kernel
theorem dX8_copy_269 : decode cX8_copy 269 = .ok (.imul, 1) := by decide +kernel
theorem dX8_copy_270 : decode cX8_copy 270 = .ok (.iload 7, 2) := by decide +kernel
theorem dX8_copy_272 : decode cX8_copy 272 = .ok (.iadd, 1) := by decide +kernel
theorem dX8_copy_273 : decode cX8_copy 273 = .ok (.aload_n 0, 1) := by decide +kernel
theorem dX8_copy_274 : decode cX8_copy 274 = .ok (.getfield 43, 3) := by decide +kernel
theorem dX8_copy_277 : decode cX8_copy 277 = .ok (.iconst 3, 1) := by decide +kernel
theorem dX8_copy_278 : decode cX8_copy 278 = .ok (.iload_n 1, 1) := by decide +kernel
theorem dX8_copy_279 : decode cX8_copy 279 = .ok (.imul, 1) := by decide +kernel
theorem dX8_copy_280 : decode cX8_copy 280 = .ok (.iload 7, 2) := by decide +kernel
theorem dX8_copy_282 : decode cX8_copy 282 = .ok (.iadd, 1) := by decide +kernel
theorem dX8_copy_283 : decode cX8_copy 283 = .ok (.iaload, 1) := by decide +kernel
theorem dX8_copy_284 : decode cX8_copy 284 = .ok (.iastore, 1) := by decide +kernel
theorem dX8_copy_285 : decode cX8_copy 285 = .ok (.iinc 7 1, 3) := by decide +kernel
theorem dX8_copy_288 : decode cX8_copy 288 = .ok (.goto (-34), 3) := by decide +kernel
theorem dX8_copy_291 : decode cX8_copy 291 = .ok (.iconst 0, 1) := by decide +kernel
theorem dX8_copy_292 : decode cX8_copy 292 = .ok (.istore 7, 2) := by decide +kernel
theorem dX8_copy_294 : decode cX8_copy 294 = .ok (.iload 7, 2) := by decide +kernel
theorem dX8_copy_296 : decode cX8_copy 296 = .ok (.aload_n 0, 1) := by decide +kernel
theorem dX8_copy_297 : decode cX8_copy 297 = .ok (.getfield 103, 3) := by decide +kernel
theorem dX8_copy_300 : decode cX8_copy 300 = .ok (.if_icmp .ge 36, 3) := by decide +kernel
theorem dX8_copy_303 : decode cX8_copy 303 = .ok (.aload_n 0, 1) := by decide +kernel
theorem dX8_copy_304 : decode cX8_copy 304 = .ok (.getfield 77, 3) := by decide +kernel
theorem dX8_copy_307 : decode cX8_copy 307 = .ok (.bipush 20, 2) := by decide +kernel
theorem dX8_copy_309 : decode cX8_copy 309 = .ok (.aload_n 0, 1) := by decide +kernel
theorem dX8_copy_310 : decode cX8_copy 310 = .ok (.getfield 100, 3) := by decide +kernel
theorem dX8_copy_313 : decode cX8_copy 313 = .ok (.imul, 1) := by decide +kernel
theorem dX8_copy_314 : decode cX8_copy 314 = .ok (.iload 7, 2) := by decide +kernel
theorem dX8_copy_316 : decode cX8_copy 316 = .ok (.iadd, 1) := by decide +kernel
theorem dX8_copy_317 : decode cX8_copy 317 = .ok (.aload_n 0, 1) := by decide +kernel
theorem dX8_copy_318 : decode cX8_copy 318 = .ok (.getfield 77, 3) := by decide +kernel
theorem dX8_copy_321 : decode cX8_copy 321 = .ok (.bipush 20, 2) := by decide +kernel
theorem dX8_copy_323 : decode cX8_copy 323 = .ok (.iload_n 1, 1) := by decide +kernel
theorem dX8_copy_324 : decode cX8_copy 324 = .ok (.imul, 1) := by decide +kernel
theorem dX8_copy_325 : decode cX8_copy 325 = .ok (.iload 7, 2) := by decide +kernel
theorem dX8_copy_327 : decode cX8_copy 327 = .ok (.iadd, 1) := by decide +kernel
theorem dX8_copy_328 : decode cX8_copy 328 = .ok (.baload, 1) := by decide +kernel
theorem dX8_copy_329 : decode cX8_copy 329 = .ok (.bastore, 1) := by decide +kernel
theorem dX8_copy_330 : decode cX8_copy 330 = .ok (.iinc 7 1, 3) := by decide +kernel
theorem dX8_copy_333 : decode cX8_copy 333 = .ok (.goto (-39), 3) := by decide +kernel
theorem dX8_copy_336 : decode cX8_copy 336 = .ok (.aload_n 0, 1) := by decide +kernel
theorem dX8_copy_337 : decode cX8_copy 337 = .ok (.getfield 40, 3) := by decide +kernel
theorem dX8_copy_340 : decode cX8_copy 340 = .ok (.aload_n 0, 1) := by decide +kernel
theorem dX8_copy_341 : decode cX8_copy 341 = .ok (.getfield 100, 3) := by decide +kernel
theorem dX8_copy_344 : decode cX8_copy 344 = .ok (.iload 4, 2) := by decide +kernel
theorem dX8_copy_346 : decode cX8_copy 346 = .ok (.iastore, 1) := by decide +kernel
theorem dX8_copy_347 : decode cX8_copy 347 = .ok (.aload_n 0, 1) := by decide +kernel
theorem dX8_copy_348 : decode cX8_copy 348 = .ok (.dup, 1) := by decide +kernel
theorem dX8_copy_349 : decode cX8_copy 349 = .ok (.getfield 100, 3) := by decide +kernel
theorem dX8_copy_352 : decode cX8_copy 352 = .ok (.iconst 1, 1) := by decide +kernel
theorem dX8_copy_353 : decode cX8_copy 353 = .ok (.iadd, 1) := by decide +kernel
theorem dX8_copy_354 : decode cX8_copy 354 = .ok (.putfield 100, 3) := by decide +kernel
theorem dX8_copy_357 : decode cX8_copy 357 = .ok (.aload_n 0, 1) := by decide +kernel
theorem dX8_copy_358 : decode cX8_copy 358 = .ok (.getfield 100, 3) := by decide +kernel
theorem dX8_copy_361 : decode cX8_copy 361 = .ok (.iconst 1, 1) := by decide +kernel
theorem dX8_copy_362 : decode cX8_copy 362 = .ok (.isub, 1) := by decide +kernel
theorem dX8_copy_363 : decode cX8_copy 363 = .ok (.ireturn, 1) := by decide +kernel
theorem dX8_isInChain_0 : decode cX8_isInChain 0 = .ok (.aload_n 0, 1) := by decide +kernel
theorem dX8_isInChain_1 : decode cX8_isInChain 1 = .ok (.getfield 46, 3) := by decide +kernel
theorem dX8_isInChain_4 : decode cX8_isInChain 4 = .ok (.iload_n 2, 1) := by decide +kernel
theorem dX8_isInChain_5 : decode cX8_isInChain 5 = .ok (.iload_n 3, 1) := by decide +kernel
theorem dX8_isInChain_6 : decode cX8_isInChain 6 = .ok (.invokestatic 122, 3) := by decide +kernel
theorem dX8_isInChain_9 : decode cX8_isInChain 9 = .ok (.baload, 1) := by decide +kernel
theorem dX8_isInChain_10 : decode cX8_isInChain 10 = .ok (.ifCond .eq 7, 3) := by decide +kernel
theorem dX8_isInChain_13 : decode cX8_isInChain 13 = .ok (.iload_n 2, 1) := by decide +kernel
theorem dX8_isInChain_14 : decode cX8_isInChain 14 = .ok (.goto 4, 3) := by decide +kernel
theorem dX8_isInChain_17 : decode cX8_isInChain 17 = .ok (.iconst (-1), 1) := by decide +kernel
theorem dX8_isInChain_18 : decode cX8_isInChain 18 = .ok (.istore 4, 2) := by decide +kernel
theorem dX8_isInChain_20 : decode cX8_isInChain 20 = .ok (.iload 4, 2) := by decide +kernel
theorem dX8_isInChain_22 : decode cX8_isInChain 22 = .ok (.iconst (-1), 1) := by decide +kernel
theorem dX8_isInChain_23 : decode cX8_isInChain 23 = .ok (.if_icmp .eq 21, 3) := by decide +kernel
theorem dX8_isInChain_26 : decode cX8_isInChain 26 = .ok (.iload 4, 2) := by decide +kernel
theorem dX8_isInChain_28 : decode cX8_isInChain 28 = .ok (.iload_n 1, 1) := by decide +kernel
theorem dX8_isInChain_29 : decode cX8_isInChain 29 = .ok (.if_icmp .eq 15, 3) := by decide +kernel
theorem dX8_isInChain_32 : decode cX8_isInChain 32 = .ok (.aload_n 0, 1) := by decide +kernel
theorem dX8_isInChain_33 : decode cX8_isInChain 33 = .ok (.iload 4, 2) := by decide +kernel
theorem dX8_isInChain_35 : decode cX8_isInChain 35 = .ok (.iload_n 3, 1) := by decide +kernel
theorem dX8_isInChain_36 : decode cX8_isInChain 36 = .ok (.invokevirtual 143, 3) := by decide +kernel
theorem dX8_isInChain_39 : decode cX8_isInChain 39 = .ok (.istore 4, 2) := by decide +kernel
theorem dX8_isInChain_41 : decode cX8_isInChain 41 = .ok (.goto (-21), 3) := by decide +kernel
theorem dX8_isInChain_44 : decode cX8_isInChain 44 = .ok (.iload 4, 2) := by decide +kernel
theorem dX8_isInChain_46 : decode cX8_isInChain 46 = .ok (.iload_n 1, 1) := by decide +kernel
theorem dX8_isInChain_47 : decode cX8_isInChain 47 = .ok (.if_icmp .ne 7, 3) := by decide +kernel
theorem dX8_isInChain_50 : decode cX8_isInChain 50 = .ok (.iconst 1, 1) := by decide +kernel
theorem dX8_isInChain_51 : decode cX8_isInChain 51 = .ok (.goto 4, 3) := by decide +kernel
theorem dX8_isInChain_54 : decode cX8_isInChain 54 = .ok (.iconst 0, 1) := by decide +kernel
theorem dX8_isInChain_55 : decode cX8_isInChain 55 = .ok (.ireturn, 1) := by decide +kernel
theorem dX8_next_0 : decode cX8_next 0 = .ok (.aload_n 0, 1) := by decide +kernel
theorem dX8_next_1 : decode cX8_next 1 = .ok (.getfield 46, 3) := by decide +kernel
theorem dX8_next_4 : decode cX8_next 4 = .ok (.iload_n 1, 1) := by decide +kernel
theorem dX8_next_5 : decode cX8_next 5 = .ok (.iload_n 2, 1) := by decide +kernel
theorem dX8_next_6 : decode cX8_next 6 = .ok (.invokestatic 122, 3) := by decide +kernel
theorem dX8_next_9 : decode cX8_next 9 = .ok (.baload, 1) := by decide +kernel
theorem dX8_next_10 : decode cX8_next 10 = .ok (.ifCond .eq 16, 3) := by decide +kernel
theorem dX8_next_13 : decode cX8_next 13 = .ok (.aload_n 0, 1) := by decide +kernel
theorem dX8_next_14 : decode cX8_next 14 = .ok (.getfield 59, 3) := by decide +kernel
theorem dX8_next_17 : decode cX8_next 17 = .ok (.iload_n 1, 1) := by decide +kernel
theorem dX8_next_18 : decode cX8_next 18 = .ok (.iload_n 2, 1) := by decide +kernel
theorem dX8_next_19 : decode cX8_next 19 = .ok (.invokestatic 122, 3) := by decide +kernel
theorem dX8_next_22 : decode cX8_next 22 = .ok (.iaload, 1) := by decide +kernel
theorem dX8_next_23 : decode cX8_next 23 = .ok (.goto 4, 3) := by decide +kernel
theorem dX8_next_26 : decode cX8_next 26 = .ok (.iconst (-1), 1) := by decide +kernel
theorem dX8_next_27 : decode cX8_next 27 = .ok (.ireturn, 1) := by decide +kernel
theorem dX8_isNear_0 : decode cX8_isNear 0 = .ok (.aload_n 0, 1) := by decide +kernel
theorem dX8_isNear_1 : decode cX8_isNear 1 = .ok (.getfield 46, 3) := by decide +kernel
theorem dX8_isNear_4 : decode cX8_isNear 4 = .ok (.iload_n 1, 1) := by decide +kernel
theorem dX8_isNear_5 : decode cX8_isNear 5 = .ok (.baload, 1) := by decide +kernel
theorem dX8_isNear_6 : decode cX8_isNear 6 = .ok (.ifCond .eq 43, 3) := by decide +kernel
theorem dX8_isNear_9 : decode cX8_isNear 9 = .ok (.aload_n 0, 1) := by decide +kernel
theorem dX8_isNear_10 : decode cX8_isNear 10 = .ok (.getfield 50, 3) := by decide +kernel
theorem dX8_isNear_13 : decode cX8_isNear 13 = .ok (.iload_n 1, 1) := by decide +kernel
theorem dX8_isNear_14 : decode cX8_isNear 14 = .ok (.iaload, 1) := by decide +kernel
theorem dX8_isNear_15 : decode cX8_isNear 15 = .ok (.iload_n 2, 1) := by decide +kernel
theorem dX8_isNear_16 : decode cX8_isNear 16 = .ok (.iadd, 1) := by decide +kernel
theorem dX8_isNear_17 : decode cX8_isNear 17 = .ok (.sipush (-9999), 3) := by decide +kernel
theorem dX8_isNear_20 : decode cX8_isNear 20 = .ok (.sipush 9999, 3) := by decide +kernel
theorem dX8_isNear_23 : decode cX8_isNear 23 = .ok (.invokestatic 96, 3) := by decide +kernel
theorem dX8_isNear_26 : decode cX8_isNear 26 = .ok (.ifCond .eq 27, 3) := by decide +kernel
theorem dX8_isNear_29 : decode cX8_isNear 29 = .ok (.aload_n 0, 1) := by decide +kernel
theorem dX8_isNear_30 : decode cX8_isNear 30 = .ok (.getfield 53, 3) := by decide +kernel
theorem dX8_isNear_33 : decode cX8_isNear 33 = .ok (.iload_n 1, 1) := by decide +kernel
theorem dX8_isNear_34 : decode cX8_isNear 34 = .ok (.iaload, 1) := by decide +kernel
theorem dX8_isNear_35 : decode cX8_isNear 35 = .ok (.iload_n 3, 1) := by decide +kernel
theorem dX8_isNear_36 : decode cX8_isNear 36 = .ok (.iadd, 1) := by decide +kernel
theorem dX8_isNear_37 : decode cX8_isNear 37 = .ok (.sipush (-9999), 3) := by decide +kernel
theorem dX8_isNear_40 : decode cX8_isNear 40 = .ok (.sipush 9999, 3) := by decide +kernel
theorem dX8_isNear_43 : decode cX8_isNear 43 = .ok (.invokestatic 96, 3) := by decide +kernel
theorem dX8_isNear_46 : decode cX8_isNear 46 = .ok (.ifCond .eq 7, 3) := by decide +kernel
theorem dX8_isNear_49 : decode cX8_isNear 49 = .ok (.iconst 1, 1) := by decide +kernel
theorem dX8_isNear_50 : decode cX8_isNear 50 = .ok (.goto 4, 3) := by decide +kernel
theorem dX8_isNear_53 : decode cX8_isNear 53 = .ok (.iconst 0, 1) := by decide +kernel
theorem dX8_isNear_54 : decode cX8_isNear 54 = .ok (.ireturn, 1) := by decide +kernel
theorem dX8_paste_0 : decode cX8_paste 0 = .ok (.aload_n 0, 1) := by decide +kernel
theorem dX8_paste_1 : decode cX8_paste 1 = .ok (.iload_n 1, 1) := by decide +kernel
theorem dX8_paste_2 : decode cX8_paste 2 = .ok (.invokevirtual 136, 3) := by decide +kernel
theorem dX8_paste_5 : decode cX8_paste 5 = .ok (.ifCond .eq 30, 3) := by decide +kernel
theorem dX8_paste_8 : decode cX8_paste 8 = .ok (.aload_n 0, 1) := by decide +kernel
theorem dX8_paste_9 : decode cX8_paste 9 = .ok (.iload_n 2, 1) := by decide +kernel
theorem dX8_paste_10 : decode cX8_paste 10 = .ok (.invokevirtual 136, 3) := by decide +kernel
theorem dX8_paste_13 : decode cX8_paste 13 = .ok (.ifCond .eq 22, 3) := by decide +kernel
theorem dX8_paste_16 : decode cX8_paste 16 = .ok (.iload_n 3, 1) := by decide +kernel
theorem dX8_paste_17 : decode cX8_paste 17 = .ok (.invokestatic 113, 3) := by decide +kernel
theorem dX8_paste_20 : decode cX8_paste 20 = .ok (.ifCond .eq 15, 3) := by decide +kernel
theorem dX8_paste_23 : decode cX8_paste 23 = .ok (.iload 4, 2) := by decide +kernel
theorem dX8_paste_25 : decode cX8_paste 25 = .ok (.invokestatic 113, 3) := by decide +kernel
theorem dX8_paste_28 : decode cX8_paste 28 = .ok (.ifCond .eq 7, 3) := by decide +kernel
theorem dX8_paste_31 : decode cX8_paste 31 = .ok (.iconst 1, 1) := by decide +kernel
theorem dX8_paste_32 : decode cX8_paste 32 = .ok (.goto 4, 3) := by decide +kernel
theorem dX8_paste_35 : decode cX8_paste 35 = .ok (.iconst 0, 1) := by decide +kernel
theorem dX8_paste_36 : decode cX8_paste 36 = .ok (.istore 5, 2) := by decide +kernel
theorem dX8_paste_38 : decode cX8_paste 38 = .ok (.iload 5, 2) := by decide +kernel
theorem dX8_paste_40 : decode cX8_paste 40 = .ok (.ifCond .eq 18, 3) := by decide +kernel
theorem dX8_paste_43 : decode cX8_paste 43 = .ok (.iload_n 1, 1) := by decide +kernel
theorem dX8_paste_44 : decode cX8_paste 44 = .ok (.iload_n 2, 1) := by decide +kernel
theorem dX8_paste_45 : decode cX8_paste 45 = .ok (.if_icmp .eq 13, 3) := by decide +kernel
theorem dX8_paste_48 : decode cX8_paste 48 = .ok (.iload 4, 2) := by decide +kernel
theorem dX8_paste_50 : decode cX8_paste 50 = .ok (.iload_n 3, 1) := by decide +kernel
theorem dX8_paste_51 : decode cX8_paste 51 = .ok (.if_icmp .lt 7, 3) := by decide +kernel
theorem dX8_paste_54 : decode cX8_paste 54 = .ok (.iconst 1, 1) := by decide +kernel
theorem dX8_paste_55 : decode cX8_paste 55 = .ok (.goto 4, 3) := by decide +kernel
theorem dX8_paste_58 : decode cX8_paste 58 = .ok (.iconst 0, 1) := by decide +kernel
theorem dX8_paste_59 : decode cX8_paste 59 = .ok (.istore 6, 2) := by decide +kernel
theorem dX8_paste_61 : decode cX8_paste 61 = .ok (.iload 6, 2) := by decide +kernel
theorem dX8_paste_63 : decode cX8_paste 63 = .ok (.ifCond .eq 33, 3) := by decide +kernel
theorem dX8_paste_66 : decode cX8_paste 66 = .ok (.aload_n 0, 1) := by decide +kernel
theorem dX8_paste_67 : decode cX8_paste 67 = .ok (.getfield 46, 3) := by decide +kernel
theorem dX8_paste_70 : decode cX8_paste 70 = .ok (.iload_n 1, 1) := by decide +kernel
theorem dX8_paste_71 : decode cX8_paste 71 = .ok (.iload_n 3, 1) := by decide +kernel
theorem dX8_paste_72 : decode cX8_paste 72 = .ok (.invokestatic 122, 3) := by decide +kernel
theorem dX8_paste_75 : decode cX8_paste 75 = .ok (.baload, 1) := by decide +kernel
theorem dX8_paste_76 : decode cX8_paste 76 = .ok (.ifCond .eq 20, 3) := by decide +kernel
theorem dX8_paste_79 : decode cX8_paste 79 = .ok (.aload_n 0, 1) := by decide +kernel
theorem dX8_paste_80 : decode cX8_paste 80 = .ok (.getfield 46, 3) := by decide +kernel
theorem dX8_paste_83 : decode cX8_paste 83 = .ok (.iload_n 2, 1) := by decide +kernel
theorem dX8_paste_84 : decode cX8_paste 84 = .ok (.iload_n 3, 1) := by decide +kernel
theorem dX8_paste_85 : decode cX8_paste 85 = .ok (.invokestatic 122, 3) := by decide +kernel
theorem dX8_paste_88 : decode cX8_paste 88 = .ok (.baload, 1) := by decide +kernel
theorem dX8_paste_89 : decode cX8_paste 89 = .ok (.ifCond .eq 7, 3) := by decide +kernel
theorem dX8_paste_92 : decode cX8_paste 92 = .ok (.iconst 1, 1) := by decide +kernel
theorem dX8_paste_93 : decode cX8_paste 93 = .ok (.goto 4, 3) := by decide +kernel
theorem dX8_paste_96 : decode cX8_paste 96 = .ok (.iconst 0, 1) := by decide +kernel
theorem dX8_paste_97 : decode cX8_paste 97 = .ok (.istore 7, 2) := by decide +kernel
theorem dX8_paste_99 : decode cX8_paste 99 = .ok (.iload 7, 2) := by decide +kernel
theorem dX8_paste_101 : decode cX8_paste 101 = .ok (.ifCond .eq 27, 3) := by decide +kernel
theorem dX8_paste_104 : decode cX8_paste 104 = .ok (.aload_n 0, 1) := by decide +kernel
theorem dX8_paste_105 : decode cX8_paste 105 = .ok (.getfield 50, 3) := by decide +kernel
theorem dX8_paste_108 : decode cX8_paste 108 = .ok (.iload_n 1, 1) := by decide +kernel
theorem dX8_paste_109 : decode cX8_paste 109 = .ok (.iload_n 3, 1) := by decide +kernel
theorem dX8_paste_110 : decode cX8_paste 110 = .ok (.invokestatic 122, 3) := by decide +kernel
theorem dX8_paste_113 : decode cX8_paste 113 = .ok (.iaload, 1) := by decide +kernel
theorem dX8_paste_114 : decode cX8_paste 114 = .ok (.aload_n 0, 1) := by decide +kernel
theorem dX8_paste_115 : decode cX8_paste 115 = .ok (.getfield 50, 3) := by decide +kernel
theorem dX8_paste_118 : decode cX8_paste 118 = .ok (.iload_n 2, 1) := by decide +kernel
theorem dX8_paste_119 : decode cX8_paste 119 = .ok (.iload_n 3, 1) := by decide +kernel
theorem dX8_paste_120 : decode cX8_paste 120 = .ok (.invokestatic 122, 3) := by decide +kernel
theorem dX8_paste_123 : decode cX8_paste 123 = .ok (.iaload, 1) := by decide +kernel
theorem dX8_paste_124 : decode cX8_paste 124 = .ok (.isub, 1) := by decide +kernel
theorem dX8_paste_125 : decode cX8_paste 125 = .ok (.goto 4, 3) := by decide +kernel
theorem dX8_paste_128 : decode cX8_paste 128 = .ok (.iconst 0, 1) := by decide +kernel
theorem dX8_paste_129 : decode cX8_paste 129 = .ok (.istore 8, 2) := by decide +kernel
theorem dX8_paste_131 : decode cX8_paste 131 = .ok (.iload 7, 2) := by decide +kernel
theorem dX8_paste_133 : decode cX8_paste 133 = .ok (.ifCond .eq 27, 3) := by decide +kernel
theorem dX8_paste_136 : decode cX8_paste 136 = .ok (.aload_n 0, 1) := by decide +kernel
theorem dX8_paste_137 : decode cX8_paste 137 = .ok (.getfield 53, 3) := by decide +kernel
theorem dX8_paste_140 : decode cX8_paste 140 = .ok (.iload_n 1, 1) := by decide +kernel
theorem dX8_paste_141 : decode cX8_paste 141 = .ok (.iload_n 3, 1) := by decide +kernel
theorem dX8_paste_142 : decode cX8_paste 142 = .ok (.invokestatic 122, 3) := by decide +kernel
theorem dX8_paste_145 : decode cX8_paste 145 = .ok (.iaload, 1) := by decide +kernel
theorem dX8_paste_146 : decode cX8_paste 146 = .ok (.aload_n 0, 1) := by decide +kernel
theorem dX8_paste_147 : decode cX8_paste 147 = .ok (.getfield 53, 3) := by decide +kernel
theorem dX8_paste_150 : decode cX8_paste 150 = .ok (.iload_n 2, 1) := by decide +kernel
theorem dX8_paste_151 : decode cX8_paste 151 = .ok (.iload_n 3, 1) := by decide +kernel
theorem dX8_paste_152 : decode cX8_paste 152 = .ok (.invokestatic 122, 3) := by decide +kernel
theorem dX8_paste_155 : decode cX8_paste 155 = .ok (.iaload, 1) := by decide +kernel
theorem dX8_paste_156 : decode cX8_paste 156 = .ok (.isub, 1) := by decide +kernel
theorem dX8_paste_157 : decode cX8_paste 157 = .ok (.goto 4, 3) := by decide +kernel
theorem dX8_paste_160 : decode cX8_paste 160 = .ok (.iconst 0, 1) := by decide +kernel
theorem dX8_paste_161 : decode cX8_paste 161 = .ok (.istore 9, 2) := by decide +kernel
theorem dX8_paste_163 : decode cX8_paste 163 = .ok (.iload 6, 2) := by decide +kernel
theorem dX8_paste_165 : decode cX8_paste 165 = .ok (.ifCond .eq 22, 3) := by decide +kernel
theorem dX8_paste_168 : decode cX8_paste 168 = .ok (.aload_n 0, 1) := by decide +kernel
theorem dX8_paste_169 : decode cX8_paste 169 = .ok (.getfield 40, 3) := by decide +kernel
theorem dX8_paste_172 : decode cX8_paste 172 = .ok (.iload_n 2, 1) := by decide +kernel
theorem dX8_paste_173 : decode cX8_paste 173 = .ok (.iaload, 1) := by decide +kernel
theorem dX8_paste_174 : decode cX8_paste 174 = .ok (.aload_n 0, 1) := by decide +kernel
theorem dX8_paste_175 : decode cX8_paste 175 = .ok (.getfield 40, 3) := by decide +kernel
theorem dX8_paste_178 : decode cX8_paste 178 = .ok (.iload_n 1, 1) := by decide +kernel
theorem dX8_paste_179 : decode cX8_paste 179 = .ok (.iaload, 1) := by decide +kernel
theorem dX8_paste_180 : decode cX8_paste 180 = .ok (.if_icmp .gt 7, 3) := by decide +kernel
theorem dX8_paste_183 : decode cX8_paste 183 = .ok (.iconst 1, 1) := by decide +kernel
theorem dX8_paste_184 : decode cX8_paste 184 = .ok (.goto 4, 3) := by decide +kernel
theorem dX8_paste_187 : decode cX8_paste 187 = .ok (.iconst 0, 1) := by decide +kernel
theorem dX8_paste_188 : decode cX8_paste 188 = .ok (.istore 10, 2) := by decide +kernel
theorem dX8_paste_190 : decode cX8_paste 190 = .ok (.iload_n 3, 1) := by decide +kernel
theorem dX8_paste_191 : decode cX8_paste 191 = .ok (.istore 11, 2) := by decide +kernel
theorem dX8_paste_193 : decode cX8_paste 193 = .ok (.iload 10, 2) := by decide +kernel
theorem dX8_paste_195 : decode cX8_paste 195 = .ok (.ifCond .eq 51, 3) := by decide +kernel
theorem dX8_paste_198 : decode cX8_paste 198 = .ok (.iload 11, 2) := by decide +kernel
theorem dX8_paste_200 : decode cX8_paste 200 = .ok (.iload 4, 2) := by decide +kernel
theorem dX8_paste_202 : decode cX8_paste 202 = .ok (.if_icmp .gt 44, 3) := by decide +kernel
theorem dX8_paste_205 : decode cX8_paste 205 = .ok (.aload_n 0, 1) := by decide +kernel
theorem dX8_paste_206 : decode cX8_paste 206 = .ok (.iload_n 1, 1) := by decide +kernel
theorem dX8_paste_207 : decode cX8_paste 207 = .ok (.iload_n 2, 1) := by decide +kernel
theorem dX8_paste_208 : decode cX8_paste 208 = .ok (.iload 11, 2) := by decide +kernel
theorem dX8_paste_210 : decode cX8_paste 210 = .ok (.invokevirtual 146, 3) := by decide +kernel
theorem dX8_paste_213 : decode cX8_paste 213 = .ok (.ifCond .ne 24, 3) := by decide +kernel
theorem dX8_paste_216 : decode cX8_paste 216 = .ok (.aload_n 0, 1) := by decide +kernel
theorem dX8_paste_217 : decode cX8_paste 217 = .ok (.iload_n 2, 1) := by decide +kernel
theorem dX8_paste_218 : decode cX8_paste 218 = .ok (.iload 11, 2) := by decide +kernel
theorem dX8_paste_220 : decode cX8_paste 220 = .ok (.invokestatic 122, 3) := by decide +kernel
theorem dX8_paste_223 : decode cX8_paste 223 = .ok (.iload 8, 2) := by decide +kernel
theorem dX8_paste_225 : decode cX8_paste 225 = .ok (.iload 9, 2) := by decide +kernel
theorem dX8_paste_227 : decode cX8_paste 227 = .ok (.invokevirtual 149, 3) := by decide +kernel
theorem dX8_paste_230 : decode cX8_paste 230 = .ok (.ifCond .eq 7, 3) := by decide +kernel
theorem dX8_paste_233 : decode cX8_paste 233 = .ok (.iconst 1, 1) := by decide +kernel
theorem dX8_paste_234 : decode cX8_paste 234 = .ok (.goto 4, 3) := by decide +kernel
theorem dX8_paste_237 : decode cX8_paste 237 = .ok (.iconst 0, 1) := by decide +kernel
theorem dX8_paste_238 : decode cX8_paste 238 = .ok (.istore 10, 2) := by decide +kernel
theorem dX8_paste_240 : decode cX8_paste 240 = .ok (.iinc 11 1, 3) := by decide +kernel
theorem dX8_paste_243 : decode cX8_paste 243 = .ok (.goto (-50), 3) := by decide +kernel
theorem dX8_paste_246 : decode cX8_paste 246 = .ok (.aload_n 0, 1) := by decide +kernel
theorem dX8_paste_247 : decode cX8_paste 247 = .ok (.iload 5, 2) := by decide +kernel
theorem dX8_paste_249 : decode cX8_paste 249 = .ok (.ifCond .ne 7, 3) := by decide +kernel
theorem dX8_paste_252 : decode cX8_paste 252 = .ok (.iconst 1, 1) := by decide +kernel
theorem dX8_paste_253 : decode cX8_paste 253 = .ok (.goto 22, 3) := by decide +kernel
theorem dX8_paste_256 : decode cX8_paste 256 = .ok (.iload 6, 2) := by decide +kernel
theorem dX8_paste_258 : decode cX8_paste 258 = .ok (.ifCond .ne 7, 3) := by decide +kernel
theorem dX8_paste_261 : decode cX8_paste 261 = .ok (.iconst 2, 1) := by decide +kernel
theorem dX8_paste_262 : decode cX8_paste 262 = .ok (.goto 13, 3) := by decide +kernel
theorem dX8_paste_265 : decode cX8_paste 265 = .ok (.iload 10, 2) := by decide +kernel
theorem dX8_paste_267 : decode cX8_paste 267 = .ok (.ifCond .ne 7, 3) := by decide +kernel
theorem dX8_paste_270 : decode cX8_paste 270 = .ok (.iconst 3, 1) := by decide +kernel
theorem dX8_paste_271 : decode cX8_paste 271 = .ok (.goto 4, 3) := by decide +kernel
theorem dX8_paste_274 : decode cX8_paste 274 = .ok (.iconst 0, 1) := by decide +kernel
theorem dX8_paste_275 : decode cX8_paste 275 = .ok (.putfield 92, 3) := by decide +kernel
theorem dX8_paste_278 : decode cX8_paste 278 = .ok (.aload_n 0, 1) := by decide +kernel
theorem dX8_paste_279 : decode cX8_paste 279 = .ok (.getfield 92, 3) := by decide +kernel
theorem dX8_paste_282 : decode cX8_paste 282 = .ok (.ifCond .le 5, 3) := by decide +kernel
theorem dX8_paste_285 : decode cX8_paste 285 = .ok (.iconst 0, 1) := by decide +kernel
theorem dX8_paste_286 : decode cX8_paste 286 = .ok (.ireturn, 1) := by decide +kernel
theorem dX8_paste_287 : decode cX8_paste 287 = .ok (.iconst 0, 1) := by decide +kernel
theorem dX8_paste_288 : decode cX8_paste 288 = .ok (.istore 11, 2) := by decide +kernel
theorem dX8_paste_290 : decode cX8_paste 290 = .ok (.iload_n 3, 1) := by decide +kernel
theorem dX8_paste_291 : decode cX8_paste 291 = .ok (.istore 12, 2) := by decide +kernel
theorem dX8_paste_293 : decode cX8_paste 293 = .ok (.iload 12, 2) := by decide +kernel
theorem dX8_paste_295 : decode cX8_paste 295 = .ok (.iload 4, 2) := by decide +kernel
theorem dX8_paste_297 : decode cX8_paste 297 = .ok (.if_icmp .gt 129, 3) := by decide +kernel
theorem dX8_paste_300 : decode cX8_paste 300 = .ok (.iload_n 2, 1) := by decide +kernel
theorem dX8_paste_301 : decode cX8_paste 301 = .ok (.iload 12, 2) := by decide +kernel
theorem dX8_paste_303 : decode cX8_paste 303 = .ok (.invokestatic 122, 3) := by decide +kernel
theorem dX8_paste_306 : decode cX8_paste 306 = .ok (.istore 13, 2) := by decide +kernel
theorem dX8_paste_308 : decode cX8_paste 308 = .ok (.iload_n 1, 1) := by decide +kernel
theorem dX8_paste_309 : decode cX8_paste 309 = .ok (.iload 12, 2) := by decide +kernel
theorem dX8_paste_311 : decode cX8_paste 311 = .ok (.invokestatic 122, 3) := by decide +kernel
theorem dX8_paste_314 : decode cX8_paste 314 = .ok (.istore 14, 2) := by decide +kernel
theorem dX8_paste_316 : decode cX8_paste 316 = .ok (.aload_n 0, 1) := by decide +kernel
theorem dX8_paste_317 : decode cX8_paste 317 = .ok (.getfield 46, 3) := by decide +kernel
theorem dX8_paste_320 : decode cX8_paste 320 = .ok (.iload 14, 2) := by decide +kernel
theorem dX8_paste_322 : decode cX8_paste 322 = .ok (.aload_n 0, 1) := by decide +kernel
theorem dX8_paste_323 : decode cX8_paste 323 = .ok (.getfield 46, 3) := by decide +kernel
theorem dX8_paste_326 : decode cX8_paste 326 = .ok (.iload 13, 2) := by decide +kernel
theorem dX8_paste_328 : decode cX8_paste 328 = .ok (.baload, 1) := by decide +kernel
theorem dX8_paste_329 : decode cX8_paste 329 = .ok (.bastore, 1) := by decide +kernel
theorem dX8_paste_330 : decode cX8_paste 330 = .ok (.aload_n 0, 1) := by decide +kernel
theorem dX8_paste_331 : decode cX8_paste 331 = .ok (.getfield 50, 3) := by decide +kernel
theorem dX8_paste_334 : decode cX8_paste 334 = .ok (.iload 14, 2) := by decide +kernel
theorem dX8_paste_336 : decode cX8_paste 336 = .ok (.aload_n 0, 1) := by decide +kernel
theorem dX8_paste_337 : decode cX8_paste 337 = .ok (.getfield 50, 3) := by decide +kernel
theorem dX8_paste_340 : decode cX8_paste 340 = .ok (.iload 13, 2) := by decide +kernel
theorem dX8_paste_342 : decode cX8_paste 342 = .ok (.iaload, 1) := by decide +kernel
theorem dX8_paste_343 : decode cX8_paste 343 = .ok (.iload 8, 2) := by decide +kernel
theorem dX8_paste_345 : decode cX8_paste 345 = .ok (.iadd, 1) := by decide +kernel
theorem dX8_paste_346 : decode cX8_paste 346 = .ok (.iastore, 1) := by decide +kernel
theorem dX8_paste_347 : decode cX8_paste 347 = .ok (.aload_n 0, 1) := by decide +kernel
theorem dX8_paste_348 : decode cX8_paste 348 = .ok (.getfield 53, 3) := by decide +kernel
theorem dX8_paste_351 : decode cX8_paste 351 = .ok (.iload 14, 2) := by decide +kernel
theorem dX8_paste_353 : decode cX8_paste 353 = .ok (.aload_n 0, 1) := by decide +kernel
theorem dX8_paste_354 : decode cX8_paste 354 = .ok (.getfield 53, 3) := by decide +kernel
theorem dX8_paste_357 : decode cX8_paste 357 = .ok (.iload 13, 2) := by decide +kernel
theorem dX8_paste_359 : decode cX8_paste 359 = .ok (.iaload, 1) := by decide +kernel
theorem dX8_paste_360 : decode cX8_paste 360 = .ok (.iload 9, 2) := by decide +kernel
theorem dX8_paste_362 : decode cX8_paste 362 = .ok (.iadd, 1) := by decide +kernel
theorem dX8_paste_363 : decode cX8_paste 363 = .ok (.iastore, 1) := by decide +kernel
theorem dX8_paste_364 : decode cX8_paste 364 = .ok (.aload_n 0, 1) := by decide +kernel
theorem dX8_paste_365 : decode cX8_paste 365 = .ok (.getfield 56, 3) := by decide +kernel
theorem dX8_paste_368 : decode cX8_paste 368 = .ok (.iload 14, 2) := by decide +kernel
theorem dX8_paste_370 : decode cX8_paste 370 = .ok (.aload_n 0, 1) := by decide +kernel
theorem dX8_paste_371 : decode cX8_paste 371 = .ok (.getfield 56, 3) := by decide +kernel
theorem dX8_paste_374 : decode cX8_paste 374 = .ok (.iload 13, 2) := by decide +kernel
theorem dX8_paste_376 : decode cX8_paste 376 = .ok (.iaload, 1) := by decide +kernel
theorem dX8_paste_377 : decode cX8_paste 377 = .ok (.iastore, 1) := by decide +kernel
theorem dX8_paste_378 : decode cX8_paste 378 = .ok (.aload_n 0, 1) := by decide +kernel
theorem dX8_paste_379 : decode cX8_paste 379 = .ok (.getfield 59, 3) := by decide +kernel
theorem dX8_paste_382 : decode cX8_paste 382 = .ok (.iload 14, 2) := by decide +kernel
theorem dX8_paste_384 : decode cX8_paste 384 = .ok (.aload_n 0, 1) := by decide +kernel
theorem dX8_paste_385 : decode cX8_paste 385 = .ok (.getfield 46, 3) := by decide +kernel
theorem dX8_paste_388 : decode cX8_paste 388 = .ok (.iload 13, 2) := by decide +kernel
theorem dX8_paste_390 : decode cX8_paste 390 = .ok (.baload, 1) := by decide +kernel
theorem dX8_paste_391 : decode cX8_paste 391 = .ok (.ifCond .eq 7, 3) := by decide +kernel
theorem dX8_paste_394 : decode cX8_paste 394 = .ok (.iload_n 2, 1) := by decide +kernel
theorem dX8_paste_395 : decode cX8_paste 395 = .ok (.goto 4, 3) := by decide +kernel
theorem dX8_paste_398 : decode cX8_paste 398 = .ok (.iconst (-1), 1) := by decide +kernel
theorem dX8_paste_399 : decode cX8_paste 399 = .ok (.iastore, 1) := by decide +kernel
theorem dX8_paste_400 : decode cX8_paste 400 = .ok (.iload 11, 2) := by decide +kernel
theorem dX8_paste_402 : decode cX8_paste 402 = .ok (.aload_n 0, 1) := by decide +kernel
theorem dX8_paste_403 : decode cX8_paste 403 = .ok (.getfield 46, 3) := by decide +kernel
theorem dX8_paste_406 : decode cX8_paste 406 = .ok (.iload 13, 2) := by decide +kernel
theorem dX8_paste_408 : decode cX8_paste 408 = .ok (.baload, 1) := by decide +kernel
theorem dX8_paste_409 : decode cX8_paste 409 = .ok (.ifCond .eq 7, 3) := by decide +kernel
theorem dX8_paste_412 : decode cX8_paste 412 = .ok (.iconst 1, 1) := by decide +kernel
theorem dX8_paste_413 : decode cX8_paste 413 = .ok (.goto 4, 3) := by decide +kernel
theorem dX8_paste_416 : decode cX8_paste 416 = .ok (.iconst 0, 1) := by decide +kernel
theorem dX8_paste_417 : decode cX8_paste 417 = .ok (.iadd, 1) := by decide +kernel
theorem dX8_paste_418 : decode cX8_paste 418 = .ok (.istore 11, 2) := by decide +kernel
theorem dX8_paste_420 : decode cX8_paste 420 = .ok (.iinc 12 1, 3) := by decide +kernel
theorem dX8_paste_423 : decode cX8_paste 423 = .ok (.goto (-130), 3) := by decide +kernel
theorem dX8_paste_426 : decode cX8_paste 426 = .ok (.iload 11, 2) := by decide +kernel
theorem dX8_paste_428 : decode cX8_paste 428 = .ok (.ireturn, 1) := by decide +kernel
theorem dX8_island_0 : decode cX8_island 0 = .ok (.iload_n 2, 1) := by decide +kernel
theorem dX8_island_1 : decode cX8_island 1 = .ok (.sipush (-999), 3) := by decide +kernel
theorem dX8_island_4 : decode cX8_island 4 = .ok (.sipush 999, 3) := by decide +kernel
theorem dX8_island_7 : decode cX8_island 7 = .ok (.invokestatic 96, 3) := by decide +kernel
theorem dX8_island_10 : decode cX8_island 10 = .ok (.ifCond .eq 20, 3) := by decide +kernel
theorem dX8_island_13 : decode cX8_island 13 = .ok (.iload_n 3, 1) := by decide +kernel
theorem dX8_island_14 : decode cX8_island 14 = .ok (.sipush (-999), 3) := by decide +kernel
theorem dX8_island_17 : decode cX8_island 17 = .ok (.sipush 999, 3) := by decide +kernel
theorem dX8_island_20 : decode cX8_island 20 = .ok (.invokestatic 96, 3) := by decide +kernel
theorem dX8_island_23 : decode cX8_island 23 = .ok (.ifCond .eq 7, 3) := by decide +kernel
theorem dX8_island_26 : decode cX8_island 26 = .ok (.iconst 1, 1) := by decide +kernel
theorem dX8_island_27 : decode cX8_island 27 = .ok (.goto 4, 3) := by decide +kernel
theorem dX8_island_30 : decode cX8_island 30 = .ok (.iconst 0, 1) := by decide +kernel
theorem dX8_island_31 : decode cX8_island 31 = .ok (.istore 4, 2) := by decide +kernel
theorem dX8_island_33 : decode cX8_island 33 = .ok (.aload_n 0, 1) := by decide +kernel
theorem dX8_island_34 : decode cX8_island 34 = .ok (.aload_n 0, 1) := by decide +kernel
theorem dX8_island_35 : decode cX8_island 35 = .ok (.iload_n 1, 1) := by decide +kernel
theorem dX8_island_36 : decode cX8_island 36 = .ok (.invokevirtual 136, 3) := by decide +kernel
theorem dX8_island_39 : decode cX8_island 39 = .ok (.ifCond .ne 7, 3) := by decide +kernel
theorem dX8_island_42 : decode cX8_island 42 = .ok (.iconst 1, 1) := by decide +kernel
theorem dX8_island_43 : decode cX8_island 43 = .ok (.goto 26, 3) := by decide +kernel
theorem dX8_island_46 : decode cX8_island 46 = .ok (.iload 4, 2) := by decide +kernel
theorem dX8_island_48 : decode cX8_island 48 = .ok (.ifCond .ne 7, 3) := by decide +kernel
theorem dX8_island_51 : decode cX8_island 51 = .ok (.iconst 2, 1) := by decide +kernel
theorem dX8_island_52 : decode cX8_island 52 = .ok (.goto 17, 3) := by decide +kernel
theorem dX8_island_55 : decode cX8_island 55 = .ok (.aload_n 0, 1) := by decide +kernel
theorem dX8_island_56 : decode cX8_island 56 = .ok (.getfield 103, 3) := by decide +kernel
theorem dX8_island_59 : decode cX8_island 59 = .ok (.bipush 20, 2) := by decide +kernel
theorem dX8_island_61 : decode cX8_island 61 = .ok (.if_icmp .ne 7, 3) := by decide +kernel
theorem dX8_island_64 : decode cX8_island 64 = .ok (.iconst 3, 1) := by decide +kernel
theorem dX8_island_65 : decode cX8_island 65 = .ok (.goto 4, 3) := by decide +kernel
theorem dX8_island_68 : decode cX8_island 68 = .ok (.iconst 0, 1) := by decide +kernel
theorem dX8_island_69 : decode cX8_island 69 = .ok (.putfield 92, 3) := by decide +kernel
theorem dX8_island_72 : decode cX8_island 72 = .ok (.aload_n 0, 1) := by decide +kernel
theorem dX8_island_73 : decode cX8_island 73 = .ok (.getfield 92, 3) := by decide +kernel
theorem dX8_island_76 : decode cX8_island 76 = .ok (.ifCond .le 5, 3) := by decide +kernel
theorem dX8_island_79 : decode cX8_island 79 = .ok (.iconst 0, 1) := by decide +kernel
theorem dX8_island_80 : decode cX8_island 80 = .ok (.ireturn, 1) := by decide +kernel
theorem dX8_island_81 : decode cX8_island 81 = .ok (.aload_n 0, 1) := by decide +kernel
theorem dX8_island_82 : decode cX8_island 82 = .ok (.getfield 68, 3) := by decide +kernel
theorem dX8_island_85 : decode cX8_island 85 = .ok (.aload_n 0, 1) := by decide +kernel
theorem dX8_island_86 : decode cX8_island 86 = .ok (.getfield 103, 3) := by decide +kernel
theorem dX8_island_89 : decode cX8_island 89 = .ok (.iload_n 2, 1) := by decide +kernel
theorem dX8_island_90 : decode cX8_island 90 = .ok (.iastore, 1) := by decide +kernel
theorem dX8_island_91 : decode cX8_island 91 = .ok (.aload_n 0, 1) := by decide +kernel
theorem dX8_island_92 : decode cX8_island 92 = .ok (.getfield 71, 3) := by decide +kernel
theorem dX8_island_95 : decode cX8_island 95 = .ok (.aload_n 0, 1) := by decide +kernel
theorem dX8_island_96 : decode cX8_island 96 = .ok (.getfield 103, 3) := by decide +kernel
theorem dX8_island_99 : decode cX8_island 99 = .ok (.iload_n 3, 1) := by decide +kernel
theorem dX8_island_100 : decode cX8_island 100 = .ok (.iastore, 1) := by decide +kernel
theorem dX8_island_101 : decode cX8_island 101 = .ok (.aload_n 0, 1) := by decide +kernel
theorem dX8_island_102 : decode cX8_island 102 = .ok (.getfield 74, 3) := by decide +kernel
theorem dX8_island_105 : decode cX8_island 105 = .ok (.aload_n 0, 1) := by decide +kernel
theorem dX8_island_106 : decode cX8_island 106 = .ok (.getfield 103, 3) := by decide +kernel
theorem dX8_island_109 : decode cX8_island 109 = .ok (.iload_n 1, 1) := by decide +kernel
theorem dX8_island_110 : decode cX8_island 110 = .ok (.iastore, 1) := by decide +kernel
theorem dX8_island_111 : decode cX8_island 111 = .ok (.aload_n 0, 1) := by decide +kernel
theorem dX8_island_112 : decode cX8_island 112 = .ok (.getfield 77, 3) := by decide +kernel
theorem dX8_island_115 : decode cX8_island 115 = .ok (.bipush 20, 2) := by decide +kernel
theorem dX8_island_117 : decode cX8_island 117 = .ok (.iload_n 1, 1) := by decide +kernel
theorem dX8_island_118 : decode cX8_island 118 = .ok (.imul, 1) := by decide +kernel
theorem dX8_island_119 : decode cX8_island 119 = .ok (.aload_n 0, 1) := by decide +kernel
theorem dX8_island_120 : decode cX8_island 120 = .ok (.getfield 103, 3) := by decide +kernel
theorem dX8_island_123 : decode cX8_island 123 = .ok (.iadd, 1) := by decide +kernel
theorem dX8_island_124 : decode cX8_island 124 = .ok (.iconst 1, 1) := by decide +kernel
theorem dX8_island_125 : decode cX8_island 125 = .ok (.bastore, 1) := by decide +kernel
theorem dX8_island_126 : decode cX8_island 126 = .ok (.aload_n 0, 1) := by decide +kernel
theorem dX8_island_127 : decode cX8_island 127 = .ok (.dup, 1) := by decide +kernel
theorem dX8_island_128 : decode cX8_island 128 = .ok (.getfield 103, 3) := by decide +kernel
theorem dX8_island_131 : decode cX8_island 131 = .ok (.iconst 1, 1) := by decide +kernel
theorem dX8_island_132 : decode cX8_island 132 = .ok (.iadd, 1) := by decide +kernel
theorem dX8_island_133 : decode cX8_island 133 = .ok (.putfield 103, 3) := by decide +kernel
theorem dX8_island_136 : decode cX8_island 136 = .ok (.aload_n 0, 1) := by decide +kernel
theorem dX8_island_137 : decode cX8_island 137 = .ok (.getfield 103, 3) := by decide +kernel
theorem dX8_island_140 : decode cX8_island 140 = .ok (.iconst 1, 1) := by decide +kernel
theorem dX8_island_141 : decode cX8_island 141 = .ok (.isub, 1) := by decide +kernel
theorem dX8_island_142 : decode cX8_island 142 = .ok (.ireturn, 1) := by decide +kernel
theorem dX8_exchange_0 : decode cX8_exchange 0 = .ok (.aload_n 0, 1) := by decide +kernel
theorem dX8_exchange_1 : decode cX8_exchange 1 = .ok (.aload_n 0, 1) := by decide +kernel
theorem dX8_exchange_2 : decode cX8_exchange 2 = .ok (.iload_n 1, 1) := by decide +kernel
theorem dX8_exchange_3 : decode cX8_exchange 3 = .ok (.invokevirtual 136, 3) := by decide +kernel
theorem dX8_exchange_6 : decode cX8_exchange 6 = .ok (.ifCond .eq 21, 3) := by decide +kernel
theorem dX8_exchange_9 : decode cX8_exchange 9 = .ok (.iload_n 2, 1) := by decide +kernel
theorem dX8_exchange_10 : decode cX8_exchange 10 = .ok (.invokestatic 113, 3) := by decide +kernel
theorem dX8_exchange_13 : decode cX8_exchange 13 = .ok (.ifCond .eq 14, 3) := by decide +kernel
theorem dX8_exchange_16 : decode cX8_exchange 16 = .ok (.iload_n 3, 1) := by decide +kernel
theorem dX8_exchange_17 : decode cX8_exchange 17 = .ok (.invokestatic 113, 3) := by decide +kernel
theorem dX8_exchange_20 : decode cX8_exchange 20 = .ok (.ifCond .eq 7, 3) := by decide +kernel
theorem dX8_exchange_23 : decode cX8_exchange 23 = .ok (.iconst 0, 1) := by decide +kernel
theorem dX8_exchange_24 : decode cX8_exchange 24 = .ok (.goto 4, 3) := by decide +kernel
theorem dX8_exchange_27 : decode cX8_exchange 27 = .ok (.iconst 1, 1) := by decide +kernel
theorem dX8_exchange_28 : decode cX8_exchange 28 = .ok (.putfield 92, 3) := by decide +kernel
theorem dX8_exchange_31 : decode cX8_exchange 31 = .ok (.aload_n 0, 1) := by decide +kernel
theorem dX8_exchange_32 : decode cX8_exchange 32 = .ok (.getfield 92, 3) := by decide +kernel
theorem dX8_exchange_35 : decode cX8_exchange 35 = .ok (.ifCond .ne 47, 3) := by decide +kernel
theorem dX8_exchange_38 : decode cX8_exchange 38 = .ok (.aload_n 0, 1) := by decide +kernel
theorem dX8_exchange_39 : decode cX8_exchange 39 = .ok (.getfield 56, 3) := by decide +kernel
theorem dX8_exchange_42 : decode cX8_exchange 42 = .ok (.iload_n 1, 1) := by decide +kernel
theorem dX8_exchange_43 : decode cX8_exchange 43 = .ok (.iload_n 2, 1) := by decide +kernel
theorem dX8_exchange_44 : decode cX8_exchange 44 = .ok (.invokestatic 122, 3) := by decide +kernel
theorem dX8_exchange_47 : decode cX8_exchange 47 = .ok (.iaload, 1) := by decide +kernel
theorem dX8_exchange_48 : decode cX8_exchange 48 = .ok (.istore 4, 2) := by decide +kernel
theorem dX8_exchange_50 : decode cX8_exchange 50 = .ok (.aload_n 0, 1) := by decide +kernel
theorem dX8_exchange_51 : decode cX8_exchange 51 = .ok (.getfield 56, 3) := by decide +kernel
theorem dX8_exchange_54 : decode cX8_exchange 54 = .ok (.iload_n 1, 1) := by decide +kernel
theorem dX8_exchange_55 : decode cX8_exchange 55 = .ok (.iload_n 2, 1) := by decide +kernel
theorem dX8_exchange_56 : decode cX8_exchange 56 = .ok (.invokestatic 122, 3) := by decide +kernel
theorem dX8_exchange_59 : decode cX8_exchange 59 = .ok (.aload_n 0, 1) := by decide +kernel
theorem dX8_exchange_60 : decode cX8_exchange 60 = .ok (.getfield 56, 3) := by decide +kernel
theorem dX8_exchange_63 : decode cX8_exchange 63 = .ok (.iload_n 1, 1) := by decide +kernel
theorem dX8_exchange_64 : decode cX8_exchange 64 = .ok (.iload_n 3, 1) := by decide +kernel
theorem dX8_exchange_65 : decode cX8_exchange 65 = .ok (.invokestatic 122, 3) := by decide +kernel
theorem dX8_exchange_68 : decode cX8_exchange 68 = .ok (.iaload, 1) := by decide +kernel
theorem dX8_exchange_69 : decode cX8_exchange 69 = .ok (.iastore, 1) := by decide +kernel
theorem dX8_exchange_70 : decode cX8_exchange 70 = .ok (.aload_n 0, 1) := by decide +kernel
theorem dX8_exchange_71 : decode cX8_exchange 71 = .ok (.getfield 56, 3) := by decide +kernel
theorem dX8_exchange_74 : decode cX8_exchange 74 = .ok (.iload_n 1, 1) := by decide +kernel
theorem dX8_exchange_75 : decode cX8_exchange 75 = .ok (.iload_n 3, 1) := by decide +kernel
theorem dX8_exchange_76 : decode cX8_exchange 76 = .ok (.invokestatic 122, 3) := by decide +kernel
theorem dX8_exchange_79 : decode cX8_exchange 79 = .ok (.iload 4, 2) := by decide +kernel
theorem dX8_exchange_81 : decode cX8_exchange 81 = .ok (.iastore, 1) := by decide +kernel
theorem dX8_exchange_82 : decode cX8_exchange 82 = .ok (.return_, 1) := by decide +kernel
theorem dX8_canShrink_0 : decode cX8_canShrink 0 = .ok (.iconst 1, 1) := by decide +kernel
theorem dX8_canShrink_1 : decode cX8_canShrink 1 = .ok (.istore 4, 2) := by decide +kernel
theorem dX8_canShrink_3 : decode cX8_canShrink 3 = .ok (.bipush 8, 2) := by decide +kernel
theorem dX8_canShrink_5 : decode cX8_canShrink 5 = .ok (.iload_n 2, 1) := by decide +kernel
theorem dX8_canShrink_6 : decode cX8_canShrink 6 = .ok (.imul, 1) := by decide +kernel
theorem dX8_canShrink_7 : decode cX8_canShrink 7 = .ok (.istore 5, 2) := by decide +kernel
theorem dX8_canShrink_9 : decode cX8_canShrink 9 = .ok (.iload 5, 2) := by decide +kernel
theorem dX8_canShrink_11 : decode cX8_canShrink 11 = .ok (.bipush 8, 2) := by decide +kernel
theorem dX8_canShrink_13 : decode cX8_canShrink 13 = .ok (.iload_n 2, 1) := by decide +kernel
theorem dX8_canShrink_14 : decode cX8_canShrink 14 = .ok (.imul, 1) := by decide +kernel
theorem dX8_canShrink_15 : decode cX8_canShrink 15 = .ok (.bipush 8, 2) := by decide +kernel
theorem dX8_canShrink_17 : decode cX8_canShrink 17 = .ok (.iadd, 1) := by decide +kernel
theorem dX8_canShrink_18 : decode cX8_canShrink 18 = .ok (.if_icmp .ge 87, 3) := by decide +kernel
theorem dX8_canShrink_21 : decode cX8_canShrink 21 = .ok (.iload_n 1, 1) := by decide +kernel
theorem dX8_canShrink_22 : decode cX8_canShrink 22 = .ok (.iload 5, 2) := by decide +kernel
theorem dX8_canShrink_24 : decode cX8_canShrink 24 = .ok (.invokestatic 122, 3) := by decide +kernel
theorem dX8_canShrink_27 : decode cX8_canShrink 27 = .ok (.istore 6, 2) := by decide +kernel
theorem dX8_canShrink_29 : decode cX8_canShrink 29 = .ok (.iload 4, 2) := by decide +kernel
theorem dX8_canShrink_31 : decode cX8_canShrink 31 = .ok (.ifCond .eq 65, 3) := by decide +kernel
theorem dX8_canShrink_34 : decode cX8_canShrink 34 = .ok (.aload_n 0, 1) := by decide +kernel
theorem dX8_canShrink_35 : decode cX8_canShrink 35 = .ok (.getfield 46, 3) := by decide +kernel
theorem dX8_canShrink_38 : decode cX8_canShrink 38 = .ok (.iload 6, 2) := by decide +kernel
theorem dX8_canShrink_40 : decode cX8_canShrink 40 = .ok (.baload, 1) := by decide +kernel
theorem dX8_canShrink_41 : decode cX8_canShrink 41 = .ok (.ifCond .eq 51, 3) := by decide +kernel
theorem dX8_canShrink_44 : decode cX8_canShrink 44 = .ok (.aload_n 0, 1) := by decide +kernel
theorem dX8_canShrink_45 : decode cX8_canShrink 45 = .ok (.getfield 50, 3) := by decide +kernel
theorem dX8_canShrink_48 : decode cX8_canShrink 48 = .ok (.iload 6, 2) := by decide +kernel
theorem dX8_canShrink_50 : decode cX8_canShrink 50 = .ok (.iaload, 1) := by decide +kernel
theorem dX8_canShrink_51 : decode cX8_canShrink 51 = .ok (.iload_n 3, 1) := by decide +kernel
theorem dX8_canShrink_52 : decode cX8_canShrink 52 = .ok (.imul, 1) := by decide +kernel
theorem dX8_canShrink_53 : decode cX8_canShrink 53 = .ok (.bipush 100, 2) := by decide +kernel
theorem dX8_canShrink_55 : decode cX8_canShrink 55 = .ok (.idiv, 1) := by decide +kernel
theorem dX8_canShrink_56 : decode cX8_canShrink 56 = .ok (.sipush (-9999), 3) := by decide +kernel
theorem dX8_canShrink_59 : decode cX8_canShrink 59 = .ok (.sipush 9999, 3) := by decide +kernel
theorem dX8_canShrink_62 : decode cX8_canShrink 62 = .ok (.invokestatic 96, 3) := by decide +kernel
theorem dX8_canShrink_65 : decode cX8_canShrink 65 = .ok (.ifCond .eq 31, 3) := by decide +kernel
theorem dX8_canShrink_68 : decode cX8_canShrink 68 = .ok (.aload_n 0, 1) := by decide +kernel
theorem dX8_canShrink_69 : decode cX8_canShrink 69 = .ok (.getfield 53, 3) := by decide +kernel
theorem dX8_canShrink_72 : decode cX8_canShrink 72 = .ok (.iload 6, 2) := by decide +kernel
theorem dX8_canShrink_74 : decode cX8_canShrink 74 = .ok (.iaload, 1) := by decide +kernel
theorem dX8_canShrink_75 : decode cX8_canShrink 75 = .ok (.iload_n 3, 1) := by decide +kernel
theorem dX8_canShrink_76 : decode cX8_canShrink 76 = .ok (.imul, 1) := by decide +kernel
theorem dX8_canShrink_77 : decode cX8_canShrink 77 = .ok (.bipush 100, 2) := by decide +kernel
theorem dX8_canShrink_79 : decode cX8_canShrink 79 = .ok (.idiv, 1) := by decide +kernel
theorem dX8_canShrink_80 : decode cX8_canShrink 80 = .ok (.sipush (-9999), 3) := by decide +kernel
theorem dX8_canShrink_83 : decode cX8_canShrink 83 = .ok (.sipush 9999, 3) := by decide +kernel
theorem dX8_canShrink_86 : decode cX8_canShrink 86 = .ok (.invokestatic 96, 3) := by decide +kernel
theorem dX8_canShrink_89 : decode cX8_canShrink 89 = .ok (.ifCond .eq 7, 3) := by decide +kernel
theorem dX8_canShrink_92 : decode cX8_canShrink 92 = .ok (.iconst 1, 1) := by decide +kernel
theorem dX8_canShrink_93 : decode cX8_canShrink 93 = .ok (.goto 4, 3) := by decide +kernel
theorem dX8_canShrink_96 : decode cX8_canShrink 96 = .ok (.iconst 0, 1) := by decide +kernel
theorem dX8_canShrink_97 : decode cX8_canShrink 97 = .ok (.istore 4, 2) := by decide +kernel
theorem dX8_canShrink_99 : decode cX8_canShrink 99 = .ok (.iinc 5 1, 3) := by decide +kernel
theorem dX8_canShrink_102 : decode cX8_canShrink 102 = .ok (.goto (-93), 3) := by decide +kernel
theorem dX8_canShrink_105 : decode cX8_canShrink 105 = .ok (.iload 4, 2) := by decide +kernel
theorem dX8_canShrink_107 : decode cX8_canShrink 107 = .ok (.ireturn, 1) := by decide +kernel
theorem dX8_shrink_0 : decode cX8_shrink 0 = .ok (.aload_n 0, 1) := by decide +kernel
theorem dX8_shrink_1 : decode cX8_shrink 1 = .ok (.iload_n 1, 1) := by decide +kernel
theorem dX8_shrink_2 : decode cX8_shrink 2 = .ok (.invokevirtual 136, 3) := by decide +kernel
theorem dX8_shrink_5 : decode cX8_shrink 5 = .ok (.ifCond .eq 14, 3) := by decide +kernel
theorem dX8_shrink_8 : decode cX8_shrink 8 = .ok (.iload_n 2, 1) := by decide +kernel
theorem dX8_shrink_9 : decode cX8_shrink 9 = .ok (.invokestatic 152, 3) := by decide +kernel
theorem dX8_shrink_12 : decode cX8_shrink 12 = .ok (.ifCond .eq 7, 3) := by decide +kernel
theorem dX8_shrink_15 : decode cX8_shrink 15 = .ok (.iconst 1, 1) := by decide +kernel
theorem dX8_shrink_16 : decode cX8_shrink 16 = .ok (.goto 4, 3) := by decide +kernel
theorem dX8_shrink_19 : decode cX8_shrink 19 = .ok (.iconst 0, 1) := by decide +kernel
theorem dX8_shrink_20 : decode cX8_shrink 20 = .ok (.istore 5, 2) := by decide +kernel
theorem dX8_shrink_22 : decode cX8_shrink 22 = .ok (.iload_n 3, 1) := by decide +kernel
theorem dX8_shrink_23 : decode cX8_shrink 23 = .ok (.bipush 50, 2) := by decide +kernel
theorem dX8_shrink_25 : decode cX8_shrink 25 = .ok (.sipush 200, 3) := by decide +kernel
theorem dX8_shrink_28 : decode cX8_shrink 28 = .ok (.invokestatic 96, 3) := by decide +kernel
theorem dX8_shrink_31 : decode cX8_shrink 31 = .ok (.istore 6, 2) := by decide +kernel
theorem dX8_shrink_33 : decode cX8_shrink 33 = .ok (.aload_n 0, 1) := by decide +kernel
theorem dX8_shrink_34 : decode cX8_shrink 34 = .ok (.iload 5, 2) := by decide +kernel
theorem dX8_shrink_36 : decode cX8_shrink 36 = .ok (.ifCond .ne 7, 3) := by decide +kernel
theorem dX8_shrink_39 : decode cX8_shrink 39 = .ok (.iconst 1, 1) := by decide +kernel
theorem dX8_shrink_40 : decode cX8_shrink 40 = .ok (.goto 32, 3) := by decide +kernel
theorem dX8_shrink_43 : decode cX8_shrink 43 = .ok (.iload 6, 2) := by decide +kernel
theorem dX8_shrink_45 : decode cX8_shrink 45 = .ok (.ifCond .ne 7, 3) := by decide +kernel
theorem dX8_shrink_48 : decode cX8_shrink 48 = .ok (.iconst 2, 1) := by decide +kernel
theorem dX8_shrink_49 : decode cX8_shrink 49 = .ok (.goto 23, 3) := by decide +kernel
theorem dX8_shrink_52 : decode cX8_shrink 52 = .ok (.iload 4, 2) := by decide +kernel
theorem dX8_shrink_54 : decode cX8_shrink 54 = .ok (.ifCond .ne 17, 3) := by decide +kernel
theorem dX8_shrink_57 : decode cX8_shrink 57 = .ok (.aload_n 0, 1) := by decide +kernel
theorem dX8_shrink_58 : decode cX8_shrink 58 = .ok (.iload_n 1, 1) := by decide +kernel
theorem dX8_shrink_59 : decode cX8_shrink 59 = .ok (.iload_n 2, 1) := by decide +kernel
theorem dX8_shrink_60 : decode cX8_shrink 60 = .ok (.iload_n 3, 1) := by decide +kernel
theorem dX8_shrink_61 : decode cX8_shrink 61 = .ok (.invokevirtual 155, 3) := by decide +kernel
theorem dX8_shrink_64 : decode cX8_shrink 64 = .ok (.ifCond .ne 7, 3) := by decide +kernel
theorem dX8_shrink_67 : decode cX8_shrink 67 = .ok (.iconst 3, 1) := by decide +kernel
theorem dX8_shrink_68 : decode cX8_shrink 68 = .ok (.goto 4, 3) := by decide +kernel
theorem dX8_shrink_71 : decode cX8_shrink 71 = .ok (.iconst 0, 1) := by decide +kernel
theorem dX8_shrink_72 : decode cX8_shrink 72 = .ok (.putfield 92, 3) := by decide +kernel
theorem dX8_shrink_75 : decode cX8_shrink 75 = .ok (.aload_n 0, 1) := by decide +kernel
theorem dX8_shrink_76 : decode cX8_shrink 76 = .ok (.getfield 92, 3) := by decide +kernel
theorem dX8_shrink_79 : decode cX8_shrink 79 = .ok (.ifCond .le 5, 3) := by decide +kernel
theorem dX8_shrink_82 : decode cX8_shrink 82 = .ok (.iconst 0, 1) := by decide +kernel
theorem dX8_shrink_83 : decode cX8_shrink 83 = .ok (.ireturn, 1) := by decide +kernel
theorem dX8_shrink_84 : decode cX8_shrink 84 = .ok (.bipush 8, 2) := by decide +kernel
theorem dX8_shrink_86 : decode cX8_shrink 86 = .ok (.iload_n 2, 1) := by decide +kernel
theorem dX8_shrink_87 : decode cX8_shrink 87 = .ok (.imul, 1) := by decide +kernel
theorem dX8_shrink_88 : decode cX8_shrink 88 = .ok (.istore 7, 2) := by decide +kernel
theorem dX8_shrink_90 : decode cX8_shrink 90 = .ok (.iload 7, 2) := by decide +kernel
theorem dX8_shrink_92 : decode cX8_shrink 92 = .ok (.bipush 8, 2) := by decide +kernel
theorem dX8_shrink_94 : decode cX8_shrink 94 = .ok (.iload_n 2, 1) := by decide +kernel
theorem dX8_shrink_95 : decode cX8_shrink 95 = .ok (.imul, 1) := by decide +kernel
theorem dX8_shrink_96 : decode cX8_shrink 96 = .ok (.bipush 8, 2) := by decide +kernel
theorem dX8_shrink_98 : decode cX8_shrink 98 = .ok (.iadd, 1) := by decide +kernel
theorem dX8_shrink_99 : decode cX8_shrink 99 = .ok (.if_icmp .ge 68, 3) := by decide +kernel
theorem dX8_shrink_102 : decode cX8_shrink 102 = .ok (.iload 4, 2) := by decide +kernel
theorem dX8_shrink_104 : decode cX8_shrink 104 = .ok (.ifCond .ne 63, 3) := by decide +kernel
theorem dX8_shrink_107 : decode cX8_shrink 107 = .ok (.aload_n 0, 1) := by decide +kernel
theorem dX8_shrink_108 : decode cX8_shrink 108 = .ok (.getfield 50, 3) := by decide +kernel
theorem dX8_shrink_111 : decode cX8_shrink 111 = .ok (.iload_n 1, 1) := by decide +kernel
theorem dX8_shrink_112 : decode cX8_shrink 112 = .ok (.iload 7, 2) := by decide +kernel
theorem dX8_shrink_114 : decode cX8_shrink 114 = .ok (.invokestatic 122, 3) := by decide +kernel
theorem dX8_shrink_117 : decode cX8_shrink 117 = .ok (.aload_n 0, 1) := by decide +kernel
theorem dX8_shrink_118 : decode cX8_shrink 118 = .ok (.getfield 50, 3) := by decide +kernel
theorem dX8_shrink_121 : decode cX8_shrink 121 = .ok (.iload_n 1, 1) := by decide +kernel
theorem dX8_shrink_122 : decode cX8_shrink 122 = .ok (.iload 7, 2) := by decide +kernel
theorem dX8_shrink_124 : decode cX8_shrink 124 = .ok (.invokestatic 122, 3) := by decide +kernel
theorem dX8_shrink_127 : decode cX8_shrink 127 = .ok (.iaload, 1) := by decide +kernel
theorem dX8_shrink_128 : decode cX8_shrink 128 = .ok (.iload_n 3, 1) := by decide +kernel
theorem dX8_shrink_129 : decode cX8_shrink 129 = .ok (.imul, 1) := by decide +kernel
theorem dX8_shrink_130 : decode cX8_shrink 130 = .ok (.bipush 100, 2) := by decide +kernel
theorem dX8_shrink_132 : decode cX8_shrink 132 = .ok (.idiv, 1) := by decide +kernel
theorem dX8_shrink_133 : decode cX8_shrink 133 = .ok (.iastore, 1) := by decide +kernel
theorem dX8_shrink_134 : decode cX8_shrink 134 = .ok (.aload_n 0, 1) := by decide +kernel
theorem dX8_shrink_135 : decode cX8_shrink 135 = .ok (.getfield 53, 3) := by decide +kernel
theorem dX8_shrink_138 : decode cX8_shrink 138 = .ok (.iload_n 1, 1) := by decide +kernel
theorem dX8_shrink_139 : decode cX8_shrink 139 = .ok (.iload 7, 2) := by decide +kernel
theorem dX8_shrink_141 : decode cX8_shrink 141 = .ok (.invokestatic 122, 3) := by decide +kernel
theorem dX8_shrink_144 : decode cX8_shrink 144 = .ok (.aload_n 0, 1) := by decide +kernel
theorem dX8_shrink_145 : decode cX8_shrink 145 = .ok (.getfield 53, 3) := by decide +kernel
theorem dX8_shrink_148 : decode cX8_shrink 148 = .ok (.iload_n 1, 1) := by decide +kernel
theorem dX8_shrink_149 : decode cX8_shrink 149 = .ok (.iload 7, 2) := by decide +kernel
theorem dX8_shrink_151 : decode cX8_shrink 151 = .ok (.invokestatic 122, 3) := by decide +kernel
theorem dX8_shrink_154 : decode cX8_shrink 154 = .ok (.iaload, 1) := by decide +kernel
theorem dX8_shrink_155 : decode cX8_shrink 155 = .ok (.iload_n 3, 1) := by decide +kernel
theorem dX8_shrink_156 : decode cX8_shrink 156 = .ok (.imul, 1) := by decide +kernel
theorem dX8_shrink_157 : decode cX8_shrink 157 = .ok (.bipush 100, 2) := by decide +kernel
theorem dX8_shrink_159 : decode cX8_shrink 159 = .ok (.idiv, 1) := by decide +kernel
theorem dX8_shrink_160 : decode cX8_shrink 160 = .ok (.iastore, 1) := by decide +kernel
theorem dX8_shrink_161 : decode cX8_shrink 161 = .ok (.iinc 7 1, 3) := by decide +kernel
theorem dX8_shrink_164 : decode cX8_shrink 164 = .ok (.goto (-74), 3) := by decide +kernel
theorem dX8_shrink_167 : decode cX8_shrink 167 = .ok (.iconst 3, 1) := by decide +kernel
theorem dX8_shrink_168 : decode cX8_shrink 168 = .ok (.iload_n 1, 1) := by decide +kernel
theorem dX8_shrink_169 : decode cX8_shrink 169 = .ok (.imul, 1) := by decide +kernel
theorem dX8_shrink_170 : decode cX8_shrink 170 = .ok (.iload_n 2, 1) := by decide +kernel
theorem dX8_shrink_171 : decode cX8_shrink 171 = .ok (.iadd, 1) := by decide +kernel
theorem dX8_shrink_172 : decode cX8_shrink 172 = .ok (.istore 7, 2) := by decide +kernel
theorem dX8_shrink_174 : decode cX8_shrink 174 = .ok (.aload_n 0, 1) := by decide +kernel
theorem dX8_shrink_175 : decode cX8_shrink 175 = .ok (.getfield 43, 3) := by decide +kernel
theorem dX8_shrink_178 : decode cX8_shrink 178 = .ok (.iload 7, 2) := by decide +kernel
theorem dX8_shrink_180 : decode cX8_shrink 180 = .ok (.iload 4, 2) := by decide +kernel
theorem dX8_shrink_182 : decode cX8_shrink 182 = .ok (.ifCond .eq 7, 3) := by decide +kernel
theorem dX8_shrink_185 : decode cX8_shrink 185 = .ok (.iload_n 3, 1) := by decide +kernel
theorem dX8_shrink_186 : decode cX8_shrink 186 = .ok (.goto 10, 3) := by decide +kernel
theorem dX8_shrink_189 : decode cX8_shrink 189 = .ok (.aload_n 0, 1) := by decide +kernel
theorem dX8_shrink_190 : decode cX8_shrink 190 = .ok (.getfield 43, 3) := by decide +kernel
theorem dX8_shrink_193 : decode cX8_shrink 193 = .ok (.iload 7, 2) := by decide +kernel
theorem dX8_shrink_195 : decode cX8_shrink 195 = .ok (.iaload, 1) := by decide +kernel
theorem dX8_shrink_196 : decode cX8_shrink 196 = .ok (.iastore, 1) := by decide +kernel
theorem dX8_shrink_197 : decode cX8_shrink 197 = .ok (.aload_n 0, 1) := by decide +kernel
theorem dX8_shrink_198 : decode cX8_shrink 198 = .ok (.getfield 43, 3) := by decide +kernel
theorem dX8_shrink_201 : decode cX8_shrink 201 = .ok (.iload 7, 2) := by decide +kernel
theorem dX8_shrink_203 : decode cX8_shrink 203 = .ok (.iaload, 1) := by decide +kernel
theorem dX8_shrink_204 : decode cX8_shrink 204 = .ok (.ireturn, 1) := by decide +kernel
theorem dX8_lose_0 : decode cX8_lose 0 = .ok (.aload_n 0, 1) := by decide +kernel
theorem dX8_lose_1 : decode cX8_lose 1 = .ok (.iload_n 1, 1) := by decide +kernel
theorem dX8_lose_2 : decode cX8_lose 2 = .ok (.invokevirtual 136, 3) := by decide +kernel
theorem dX8_lose_5 : decode cX8_lose 5 = .ok (.ifCond .eq 21, 3) := by decide +kernel
theorem dX8_lose_8 : decode cX8_lose 8 = .ok (.iload_n 2, 1) := by decide +kernel
theorem dX8_lose_9 : decode cX8_lose 9 = .ok (.invokestatic 113, 3) := by decide +kernel
theorem dX8_lose_12 : decode cX8_lose 12 = .ok (.ifCond .eq 14, 3) := by decide +kernel
theorem dX8_lose_15 : decode cX8_lose 15 = .ok (.iload_n 3, 1) := by decide +kernel
theorem dX8_lose_16 : decode cX8_lose 16 = .ok (.invokestatic 113, 3) := by decide +kernel
theorem dX8_lose_19 : decode cX8_lose 19 = .ok (.ifCond .eq 7, 3) := by decide +kernel
theorem dX8_lose_22 : decode cX8_lose 22 = .ok (.iconst 1, 1) := by decide +kernel
theorem dX8_lose_23 : decode cX8_lose 23 = .ok (.goto 4, 3) := by decide +kernel
theorem dX8_lose_26 : decode cX8_lose 26 = .ok (.iconst 0, 1) := by decide +kernel
theorem dX8_lose_27 : decode cX8_lose 27 = .ok (.istore 4, 2) := by decide +kernel
theorem dX8_lose_29 : decode cX8_lose 29 = .ok (.aload_n 0, 1) := by decide +kernel
theorem dX8_lose_30 : decode cX8_lose 30 = .ok (.iload 4, 2) := by decide +kernel
theorem dX8_lose_32 : decode cX8_lose 32 = .ok (.ifCond .ne 7, 3) := by decide +kernel
theorem dX8_lose_35 : decode cX8_lose 35 = .ok (.iconst 1, 1) := by decide +kernel
theorem dX8_lose_36 : decode cX8_lose 36 = .ok (.goto 13, 3) := by decide +kernel
theorem dX8_lose_39 : decode cX8_lose 39 = .ok (.iload_n 3, 1) := by decide +kernel
theorem dX8_lose_40 : decode cX8_lose 40 = .ok (.iload_n 2, 1) := by decide +kernel
theorem dX8_lose_41 : decode cX8_lose 41 = .ok (.if_icmp .ge 7, 3) := by decide +kernel
theorem dX8_lose_44 : decode cX8_lose 44 = .ok (.iconst 2, 1) := by decide +kernel
theorem dX8_lose_45 : decode cX8_lose 45 = .ok (.goto 4, 3) := by decide +kernel
theorem dX8_lose_48 : decode cX8_lose 48 = .ok (.iconst 0, 1) := by decide +kernel
theorem dX8_lose_49 : decode cX8_lose 49 = .ok (.putfield 92, 3) := by decide +kernel
theorem dX8_lose_52 : decode cX8_lose 52 = .ok (.iconst 0, 1) := by decide +kernel
theorem dX8_lose_53 : decode cX8_lose 53 = .ok (.istore 5, 2) := by decide +kernel
theorem dX8_lose_55 : decode cX8_lose 55 = .ok (.iload_n 2, 1) := by decide +kernel
theorem dX8_lose_56 : decode cX8_lose 56 = .ok (.istore 6, 2) := by decide +kernel
theorem dX8_lose_58 : decode cX8_lose 58 = .ok (.iload 6, 2) := by decide +kernel
theorem dX8_lose_60 : decode cX8_lose 60 = .ok (.iload_n 3, 1) := by decide +kernel
theorem dX8_lose_61 : decode cX8_lose 61 = .ok (.if_icmp .gt 88, 3) := by decide +kernel
theorem dX8_lose_64 : decode cX8_lose 64 = .ok (.aload_n 0, 1) := by decide +kernel
theorem dX8_lose_65 : decode cX8_lose 65 = .ok (.getfield 92, 3) := by decide +kernel
theorem dX8_lose_68 : decode cX8_lose 68 = .ok (.ifCond .ne 81, 3) := by decide +kernel
theorem dX8_lose_71 : decode cX8_lose 71 = .ok (.iload 5, 2) := by decide +kernel
theorem dX8_lose_73 : decode cX8_lose 73 = .ok (.aload_n 0, 1) := by decide +kernel
theorem dX8_lose_74 : decode cX8_lose 74 = .ok (.getfield 46, 3) := by decide +kernel
theorem dX8_lose_77 : decode cX8_lose 77 = .ok (.iload_n 1, 1) := by decide +kernel
theorem dX8_lose_78 : decode cX8_lose 78 = .ok (.iload 6, 2) := by decide +kernel
theorem dX8_lose_80 : decode cX8_lose 80 = .ok (.invokestatic 122, 3) := by decide +kernel
theorem dX8_lose_83 : decode cX8_lose 83 = .ok (.baload, 1) := by decide +kernel
theorem dX8_lose_84 : decode cX8_lose 84 = .ok (.ifCond .eq 7, 3) := by decide +kernel
theorem dX8_lose_87 : decode cX8_lose 87 = .ok (.iconst 1, 1) := by decide +kernel
theorem dX8_lose_88 : decode cX8_lose 88 = .ok (.goto 4, 3) := by decide +kernel
theorem dX8_lose_91 : decode cX8_lose 91 = .ok (.iconst 0, 1) := by decide +kernel
theorem dX8_lose_92 : decode cX8_lose 92 = .ok (.iadd, 1) := by decide +kernel
theorem dX8_lose_93 : decode cX8_lose 93 = .ok (.istore 5, 2) := by decide +kernel
theorem dX8_lose_95 : decode cX8_lose 95 = .ok (.aload_n 0, 1) := by decide +kernel
theorem dX8_lose_96 : decode cX8_lose 96 = .ok (.getfield 46, 3) := by decide +kernel
theorem dX8_lose_99 : decode cX8_lose 99 = .ok (.iload_n 1, 1) := by decide +kernel
theorem dX8_lose_100 : decode cX8_lose 100 = .ok (.iload 6, 2) := by decide +kernel
theorem dX8_lose_102 : decode cX8_lose 102 = .ok (.invokestatic 122, 3) := by decide +kernel
theorem dX8_lose_105 : decode cX8_lose 105 = .ok (.iconst 0, 1) := by decide +kernel
theorem dX8_lose_106 : decode cX8_lose 106 = .ok (.bastore, 1) := by decide +kernel
theorem dX8_lose_107 : decode cX8_lose 107 = .ok (.aload_n 0, 1) := by decide +kernel
theorem dX8_lose_108 : decode cX8_lose 108 = .ok (.getfield 50, 3) := by decide +kernel
theorem dX8_lose_111 : decode cX8_lose 111 = .ok (.iload_n 1, 1) := by decide +kernel
theorem dX8_lose_112 : decode cX8_lose 112 = .ok (.iload 6, 2) := by decide +kernel
theorem dX8_lose_114 : decode cX8_lose 114 = .ok (.invokestatic 122, 3) := by decide +kernel
theorem dX8_lose_117 : decode cX8_lose 117 = .ok (.iconst 0, 1) := by decide +kernel
theorem dX8_lose_118 : decode cX8_lose 118 = .ok (.iastore, 1) := by decide +kernel
theorem dX8_lose_119 : decode cX8_lose 119 = .ok (.aload_n 0, 1) := by decide +kernel
theorem dX8_lose_120 : decode cX8_lose 120 = .ok (.getfield 53, 3) := by decide +kernel
theorem dX8_lose_123 : decode cX8_lose 123 = .ok (.iload_n 1, 1) := by decide +kernel
theorem dX8_lose_124 : decode cX8_lose 124 = .ok (.iload 6, 2) := by decide +kernel
theorem dX8_lose_126 : decode cX8_lose 126 = .ok (.invokestatic 122, 3) := by decide +kernel
theorem dX8_lose_129 : decode cX8_lose 129 = .ok (.iconst 0, 1) := by decide +kernel
theorem dX8_lose_130 : decode cX8_lose 130 = .ok (.iastore, 1) := by decide +kernel
theorem dX8_lose_131 : decode cX8_lose 131 = .ok (.aload_n 0, 1) := by decide +kernel
theorem dX8_lose_132 : decode cX8_lose 132 = .ok (.getfield 59, 3) := by decide +kernel
theorem dX8_lose_135 : decode cX8_lose 135 = .ok (.iload_n 1, 1) := by decide +kernel
theorem dX8_lose_136 : decode cX8_lose 136 = .ok (.iload 6, 2) := by decide +kernel
theorem dX8_lose_138 : decode cX8_lose 138 = .ok (.invokestatic 122, 3) := by decide +kernel
theorem dX8_lose_141 : decode cX8_lose 141 = .ok (.iconst (-1), 1) := by decide +kernel
theorem dX8_lose_142 : decode cX8_lose 142 = .ok (.iastore, 1) := by decide +kernel
theorem dX8_lose_143 : decode cX8_lose 143 = .ok (.iinc 6 1, 3) := by decide +kernel
theorem dX8_lose_146 : decode cX8_lose 146 = .ok (.goto (-88), 3) := by decide +kernel
theorem dX8_lose_149 : decode cX8_lose 149 = .ok (.iload 5, 2) := by decide +kernel
theorem dX8_lose_151 : decode cX8_lose 151 = .ok (.ireturn, 1) := by decide +kernel
theorem dX8_paint_0 : decode cX8_paint 0 = .ok (.aload_n 0, 1) := by decide +kernel
theorem dX8_paint_1 : decode cX8_paint 1 = .ok (.aload_n 0, 1) := by decide +kernel
theorem dX8_paint_2 : decode cX8_paint 2 = .ok (.iload_n 1, 1) := by decide +kernel
theorem dX8_paint_3 : decode cX8_paint 3 = .ok (.invokevirtual 136, 3) := by decide +kernel
theorem dX8_paint_6 : decode cX8_paint 6 = .ok (.ifCond .eq 15, 3) := by decide +kernel
theorem dX8_paint_9 : decode cX8_paint 9 = .ok (.aload_n 0, 1) := by decide +kernel
theorem dX8_paint_10 : decode cX8_paint 10 = .ok (.iload_n 2, 1) := by decide +kernel
theorem dX8_paint_11 : decode cX8_paint 11 = .ok (.invokevirtual 158, 3) := by decide +kernel
theorem dX8_paint_14 : decode cX8_paint 14 = .ok (.ifCond .eq 7, 3) := by decide +kernel
theorem dX8_paint_17 : decode cX8_paint 17 = .ok (.iconst 0, 1) := by decide +kernel
theorem dX8_paint_18 : decode cX8_paint 18 = .ok (.goto 4, 3) := by decide +kernel
theorem dX8_paint_21 : decode cX8_paint 21 = .ok (.iconst 1, 1) := by decide +kernel
theorem dX8_paint_22 : decode cX8_paint 22 = .ok (.putfield 92, 3) := by decide +kernel
theorem dX8_paint_25 : decode cX8_paint 25 = .ok (.aload_n 0, 1) := by decide +kernel
theorem dX8_paint_26 : decode cX8_paint 26 = .ok (.getfield 92, 3) := by decide +kernel
theorem dX8_paint_29 : decode cX8_paint 29 = .ok (.ifCond .le 5, 3) := by decide +kernel
theorem dX8_paint_32 : decode cX8_paint 32 = .ok (.iconst 0, 1) := by decide +kernel
theorem dX8_paint_33 : decode cX8_paint 33 = .ok (.ireturn, 1) := by decide +kernel
theorem dX8_paint_34 : decode cX8_paint 34 = .ok (.aload_n 0, 1) := by decide +kernel
theorem dX8_paint_35 : decode cX8_paint 35 = .ok (.getfield 77, 3) := by decide +kernel
theorem dX8_paint_38 : decode cX8_paint 38 = .ok (.bipush 20, 2) := by decide +kernel
theorem dX8_paint_40 : decode cX8_paint 40 = .ok (.iload_n 1, 1) := by decide +kernel
theorem dX8_paint_41 : decode cX8_paint 41 = .ok (.imul, 1) := by decide +kernel
theorem dX8_paint_42 : decode cX8_paint 42 = .ok (.iload_n 2, 1) := by decide +kernel
theorem dX8_paint_43 : decode cX8_paint 43 = .ok (.iadd, 1) := by decide +kernel
theorem dX8_paint_44 : decode cX8_paint 44 = .ok (.baload, 1) := by decide +kernel
theorem dX8_paint_45 : decode cX8_paint 45 = .ok (.istore_n 3, 1) := by decide +kernel
theorem dX8_paint_46 : decode cX8_paint 46 = .ok (.aload_n 0, 1) := by decide +kernel
theorem dX8_paint_47 : decode cX8_paint 47 = .ok (.getfield 77, 3) := by decide +kernel
theorem dX8_paint_50 : decode cX8_paint 50 = .ok (.bipush 20, 2) := by decide +kernel
theorem dX8_paint_52 : decode cX8_paint 52 = .ok (.iload_n 1, 1) := by decide +kernel
theorem dX8_paint_53 : decode cX8_paint 53 = .ok (.imul, 1) := by decide +kernel
theorem dX8_paint_54 : decode cX8_paint 54 = .ok (.iload_n 2, 1) := by decide +kernel
theorem dX8_paint_55 : decode cX8_paint 55 = .ok (.iadd, 1) := by decide +kernel
theorem dX8_paint_56 : decode cX8_paint 56 = .ok (.iconst 0, 1) := by decide +kernel
theorem dX8_paint_57 : decode cX8_paint 57 = .ok (.bastore, 1) := by decide +kernel
theorem dX8_paint_58 : decode cX8_paint 58 = .ok (.iload_n 3, 1) := by decide +kernel
theorem dX8_paint_59 : decode cX8_paint 59 = .ok (.ireturn, 1) := by decide +kernel
theorem dX8_told_0 : decode cX8_told 0 = .ok (.aload_n 0, 1) := by decide +kernel
theorem dX8_told_1 : decode cX8_told 1 = .ok (.iload_n 1, 1) := by decide +kernel
theorem dX8_told_2 : decode cX8_told 2 = .ok (.iconst 0, 1) := by decide +kernel
theorem dX8_told_3 : decode cX8_told 3 = .ok (.aload_n 0, 1) := by decide +kernel
theorem dX8_told_4 : decode cX8_told 4 = .ok (.getfield 116, 3) := by decide +kernel
theorem dX8_told_7 : decode cX8_told 7 = .ok (.iconst 1, 1) := by decide +kernel
theorem dX8_told_8 : decode cX8_told 8 = .ok (.isub, 1) := by decide +kernel
theorem dX8_told_9 : decode cX8_told 9 = .ok (.invokestatic 96, 3) := by decide +kernel
theorem dX8_told_12 : decode cX8_told 12 = .ok (.ifCond .eq 7, 3) := by decide +kernel
theorem dX8_told_15 : decode cX8_told 15 = .ok (.iconst 0, 1) := by decide +kernel
theorem dX8_told_16 : decode cX8_told 16 = .ok (.goto 4, 3) := by decide +kernel
theorem dX8_told_19 : decode cX8_told 19 = .ok (.iconst 1, 1) := by decide +kernel
theorem dX8_told_20 : decode cX8_told 20 = .ok (.putfield 92, 3) := by decide +kernel
theorem dX8_told_23 : decode cX8_told 23 = .ok (.aload_n 0, 1) := by decide +kernel
theorem dX8_told_24 : decode cX8_told 24 = .ok (.getfield 92, 3) := by decide +kernel
theorem dX8_told_27 : decode cX8_told 27 = .ok (.ifCond .le 7, 3) := by decide +kernel
theorem dX8_told_30 : decode cX8_told 30 = .ok (.iconst 0, 1) := by decide +kernel
theorem dX8_told_31 : decode cX8_told 31 = .ok (.goto 22, 3) := by decide +kernel
theorem dX8_told_34 : decode cX8_told 34 = .ok (.iload_n 2, 1) := by decide +kernel
theorem dX8_told_35 : decode cX8_told 35 = .ok (.ifCond .eq 12, 3) := by decide +kernel
theorem dX8_told_38 : decode cX8_told 38 = .ok (.aload_n 0, 1) := by decide +kernel
theorem dX8_told_39 : decode cX8_told 39 = .ok (.getfield 34, 3) := by decide +kernel
theorem dX8_told_42 : decode cX8_told 42 = .ok (.iload_n 1, 1) := by decide +kernel
theorem dX8_told_43 : decode cX8_told 43 = .ok (.iaload, 1) := by decide +kernel
theorem dX8_told_44 : decode cX8_told 44 = .ok (.goto 9, 3) := by decide +kernel
theorem dX8_told_47 : decode cX8_told 47 = .ok (.aload_n 0, 1) := by decide +kernel
theorem dX8_told_48 : decode cX8_told 48 = .ok (.getfield 37, 3) := by decide +kernel
theorem dX8_told_51 : decode cX8_told 51 = .ok (.iload_n 1, 1) := by decide +kernel
theorem dX8_told_52 : decode cX8_told 52 = .ok (.iaload, 1) := by decide +kernel
theorem dX8_told_53 : decode cX8_told 53 = .ok (.ireturn, 1) := by decide +kernel
theorem dX8_at_0 : decode cX8_at 0 = .ok (.aload_n 0, 1) := by decide +kernel
theorem dX8_at_1 : decode cX8_at 1 = .ok (.aload_n 0, 1) := by decide +kernel
theorem dX8_at_2 : decode cX8_at 2 = .ok (.iload_n 1, 1) := by decide +kernel
theorem dX8_at_3 : decode cX8_at 3 = .ok (.invokevirtual 136, 3) := by decide +kernel
theorem dX8_at_6 : decode cX8_at 6 = .ok (.ifCond .eq 10, 3) := by decide +kernel
theorem dX8_at_9 : decode cX8_at 9 = .ok (.iload_n 2, 1) := by decide +kernel
theorem dX8_at_10 : decode cX8_at 10 = .ok (.invokestatic 113, 3) := by decide +kernel
theorem dX8_at_13 : decode cX8_at 13 = .ok (.ifCond .ne 7, 3) := by decide +kernel
theorem dX8_at_16 : decode cX8_at 16 = .ok (.iconst 1, 1) := by decide +kernel
theorem dX8_at_17 : decode cX8_at 17 = .ok (.goto 17, 3) := by decide +kernel
theorem dX8_at_20 : decode cX8_at 20 = .ok (.iload_n 3, 1) := by decide +kernel
theorem dX8_at_21 : decode cX8_at 21 = .ok (.iconst 0, 1) := by decide +kernel
theorem dX8_at_22 : decode cX8_at 22 = .ok (.iconst 5, 1) := by decide +kernel
theorem dX8_at_23 : decode cX8_at 23 = .ok (.invokestatic 96, 3) := by decide +kernel
theorem dX8_at_26 : decode cX8_at 26 = .ok (.ifCond .ne 7, 3) := by decide +kernel
theorem dX8_at_29 : decode cX8_at 29 = .ok (.iconst 2, 1) := by decide +kernel
theorem dX8_at_30 : decode cX8_at 30 = .ok (.goto 4, 3) := by decide +kernel
theorem dX8_at_33 : decode cX8_at 33 = .ok (.iconst 0, 1) := by decide +kernel
theorem dX8_at_34 : decode cX8_at 34 = .ok (.putfield 92, 3) := by decide +kernel
theorem dX8_at_37 : decode cX8_at 37 = .ok (.aload_n 0, 1) := by decide +kernel
theorem dX8_at_38 : decode cX8_at 38 = .ok (.getfield 92, 3) := by decide +kernel
theorem dX8_at_41 : decode cX8_at 41 = .ok (.ifCond .le 5, 3) := by decide +kernel
theorem dX8_at_44 : decode cX8_at 44 = .ok (.iconst 0, 1) := by decide +kernel
theorem dX8_at_45 : decode cX8_at 45 = .ok (.ireturn, 1) := by decide +kernel
theorem dX8_at_46 : decode cX8_at 46 = .ok (.bipush 24, 2) := by decide +kernel
theorem dX8_at_48 : decode cX8_at 48 = .ok (.iload_n 1, 1) := by decide +kernel
theorem dX8_at_49 : decode cX8_at 49 = .ok (.imul, 1) := by decide +kernel
theorem dX8_at_50 : decode cX8_at 50 = .ok (.iload_n 2, 1) := by decide +kernel
theorem dX8_at_51 : decode cX8_at 51 = .ok (.iadd, 1) := by decide +kernel
theorem dX8_at_52 : decode cX8_at 52 = .ok (.istore 4, 2) := by decide +kernel
theorem dX8_at_54 : decode cX8_at 54 = .ok (.iload_n 3, 1) := by decide +kernel
theorem dX8_at_55 : decode cX8_at 55 = .ok (.iconst 2, 1) := by decide +kernel
theorem dX8_at_56 : decode cX8_at 56 = .ok (.if_icmp .ne 11, 3) := by decide +kernel
theorem dX8_at_59 : decode cX8_at 59 = .ok (.aload_n 0, 1) := by decide +kernel
theorem dX8_at_60 : decode cX8_at 60 = .ok (.getfield 56, 3) := by decide +kernel
theorem dX8_at_63 : decode cX8_at 63 = .ok (.iload 4, 2) := by decide +kernel
theorem dX8_at_65 : decode cX8_at 65 = .ok (.iaload, 1) := by decide +kernel
theorem dX8_at_66 : decode cX8_at 66 = .ok (.ireturn, 1) := by decide +kernel
theorem dX8_at_67 : decode cX8_at 67 = .ok (.iload_n 3, 1) := by decide +kernel
theorem dX8_at_68 : decode cX8_at 68 = .ok (.iconst 3, 1) := by decide +kernel
theorem dX8_at_69 : decode cX8_at 69 = .ok (.if_icmp .ne 10, 3) := by decide +kernel
theorem dX8_at_72 : decode cX8_at 72 = .ok (.aload_n 0, 1) := by decide +kernel
theorem dX8_at_73 : decode cX8_at 73 = .ok (.iload_n 1, 1) := by decide +kernel
theorem dX8_at_74 : decode cX8_at 74 = .ok (.iload_n 2, 1) := by decide +kernel
theorem dX8_at_75 : decode cX8_at 75 = .ok (.invokevirtual 143, 3) := by decide +kernel
theorem dX8_at_78 : decode cX8_at 78 = .ok (.ireturn, 1) := by decide +kernel
theorem dX8_at_79 : decode cX8_at 79 = .ok (.aload_n 0, 1) := by decide +kernel
theorem dX8_at_80 : decode cX8_at 80 = .ok (.getfield 46, 3) := by decide +kernel
theorem dX8_at_83 : decode cX8_at 83 = .ok (.iload 4, 2) := by decide +kernel
theorem dX8_at_85 : decode cX8_at 85 = .ok (.baload, 1) := by decide +kernel
theorem dX8_at_86 : decode cX8_at 86 = .ok (.ifCond .ne 6, 3) := by decide +kernel
theorem dX8_at_89 : decode cX8_at 89 = .ok (.ldc 161, 2) := by decide +kernel
theorem dX8_at_91 : decode cX8_at 91 = .ok (.ireturn, 1) := by decide +kernel
theorem dX8_at_92 : decode cX8_at 92 = .ok (.iload_n 3, 1) := by decide +kernel
theorem dX8_at_93 : decode cX8_at 93 = .ok (.ifCond .ne 13, 3) := by decide +kernel
theorem dX8_at_96 : decode cX8_at 96 = .ok (.aload_n 0, 1) := by decide +kernel
theorem dX8_at_97 : decode cX8_at 97 = .ok (.getfield 50, 3) := by decide +kernel
theorem dX8_at_100 : decode cX8_at 100 = .ok (.iload 4, 2) := by decide +kernel
theorem dX8_at_102 : decode cX8_at 102 = .ok (.iaload, 1) := by decide +kernel
theorem dX8_at_103 : decode cX8_at 103 = .ok (.goto 54, 3) := by decide +kernel
theorem dX8_at_106 : decode cX8_at 106 = .ok (.iload_n 3, 1) := by decide +kernel
theorem dX8_at_107 : decode cX8_at 107 = .ok (.iconst 1, 1) := by decide +kernel
theorem dX8_at_108 : decode cX8_at 108 = .ok (.if_icmp .ne 13, 3) := by decide +kernel
theorem dX8_at_111 : decode cX8_at 111 = .ok (.aload_n 0, 1) := by decide +kernel
theorem dX8_at_112 : decode cX8_at 112 = .ok (.getfield 53, 3) := by decide +kernel
theorem dX8_at_115 : decode cX8_at 115 = .ok (.iload 4, 2) := by decide +kernel
theorem dX8_at_117 : decode cX8_at 117 = .ok (.iaload, 1) := by decide +kernel
theorem dX8_at_118 : decode cX8_at 118 = .ok (.goto 39, 3) := by decide +kernel
theorem dX8_at_121 : decode cX8_at 121 = .ok (.iload_n 3, 1) := by decide +kernel
theorem dX8_at_122 : decode cX8_at 122 = .ok (.iconst 4, 1) := by decide +kernel
theorem dX8_at_123 : decode cX8_at 123 = .ok (.if_icmp .ne 20, 3) := by decide +kernel
theorem dX8_at_126 : decode cX8_at 126 = .ok (.aload_n 0, 1) := by decide +kernel
theorem dX8_at_127 : decode cX8_at 127 = .ok (.getfield 50, 3) := by decide +kernel
theorem dX8_at_130 : decode cX8_at 130 = .ok (.iload 4, 2) := by decide +kernel
theorem dX8_at_132 : decode cX8_at 132 = .ok (.iaload, 1) := by decide +kernel
theorem dX8_at_133 : decode cX8_at 133 = .ok (.aload_n 0, 1) := by decide +kernel
theorem dX8_at_134 : decode cX8_at 134 = .ok (.getfield 7, 3) := by decide +kernel
theorem dX8_at_137 : decode cX8_at 137 = .ok (.iload_n 2, 1) := by decide +kernel
theorem dX8_at_138 : decode cX8_at 138 = .ok (.iaload, 1) := by decide +kernel
theorem dX8_at_139 : decode cX8_at 139 = .ok (.isub, 1) := by decide +kernel
theorem dX8_at_140 : decode cX8_at 140 = .ok (.goto 17, 3) := by decide +kernel
theorem dX8_at_143 : decode cX8_at 143 = .ok (.aload_n 0, 1) := by decide +kernel
theorem dX8_at_144 : decode cX8_at 144 = .ok (.getfield 53, 3) := by decide +kernel
theorem dX8_at_147 : decode cX8_at 147 = .ok (.iload 4, 2) := by decide +kernel
theorem dX8_at_149 : decode cX8_at 149 = .ok (.iaload, 1) := by decide +kernel
theorem dX8_at_150 : decode cX8_at 150 = .ok (.aload_n 0, 1) := by decide +kernel
theorem dX8_at_151 : decode cX8_at 151 = .ok (.getfield 13, 3) := by decide +kernel
theorem dX8_at_154 : decode cX8_at 154 = .ok (.iload_n 2, 1) := by decide +kernel
theorem dX8_at_155 : decode cX8_at 155 = .ok (.iaload, 1) := by decide +kernel
theorem dX8_at_156 : decode cX8_at 156 = .ok (.isub, 1) := by decide +kernel
theorem dX8_at_157 : decode cX8_at 157 = .ok (.ireturn, 1) := by decide +kernel
theorem dX8_chain_0 : decode cX8_chain 0 = .ok (.aload_n 0, 1) := by decide +kernel
theorem dX8_chain_1 : decode cX8_chain 1 = .ok (.aload_n 0, 1) := by decide +kernel
theorem dX8_chain_2 : decode cX8_chain 2 = .ok (.iload_n 1, 1) := by decide +kernel
theorem dX8_chain_3 : decode cX8_chain 3 = .ok (.invokevirtual 136, 3) := by decide +kernel
theorem dX8_chain_6 : decode cX8_chain 6 = .ok (.ifCond .eq 18, 3) := by decide +kernel
theorem dX8_chain_9 : decode cX8_chain 9 = .ok (.iload_n 2, 1) := by decide +kernel
theorem dX8_chain_10 : decode cX8_chain 10 = .ok (.invokestatic 113, 3) := by decide +kernel
theorem dX8_chain_13 : decode cX8_chain 13 = .ok (.ifCond .eq 11, 3) := by decide +kernel
theorem dX8_chain_16 : decode cX8_chain 16 = .ok (.iload_n 3, 1) := by decide +kernel
theorem dX8_chain_17 : decode cX8_chain 17 = .ok (.ifCond .lt 7, 3) := by decide +kernel
theorem dX8_chain_20 : decode cX8_chain 20 = .ok (.iconst 0, 1) := by decide +kernel
theorem dX8_chain_21 : decode cX8_chain 21 = .ok (.goto 4, 3) := by decide +kernel
theorem dX8_chain_24 : decode cX8_chain 24 = .ok (.iconst 1, 1) := by decide +kernel
theorem dX8_chain_25 : decode cX8_chain 25 = .ok (.putfield 92, 3) := by decide +kernel
theorem dX8_chain_28 : decode cX8_chain 28 = .ok (.aload_n 0, 1) := by decide +kernel
theorem dX8_chain_29 : decode cX8_chain 29 = .ok (.getfield 92, 3) := by decide +kernel
theorem dX8_chain_32 : decode cX8_chain 32 = .ok (.ifCond .le 5, 3) := by decide +kernel
theorem dX8_chain_35 : decode cX8_chain 35 = .ok (.iconst 0, 1) := by decide +kernel
theorem dX8_chain_36 : decode cX8_chain 36 = .ok (.ireturn, 1) := by decide +kernel
theorem dX8_chain_37 : decode cX8_chain 37 = .ok (.aload_n 0, 1) := by decide +kernel
theorem dX8_chain_38 : decode cX8_chain 38 = .ok (.getfield 46, 3) := by decide +kernel
theorem dX8_chain_41 : decode cX8_chain 41 = .ok (.bipush 24, 2) := by decide +kernel
theorem dX8_chain_43 : decode cX8_chain 43 = .ok (.iload_n 1, 1) := by decide +kernel
theorem dX8_chain_44 : decode cX8_chain 44 = .ok (.imul, 1) := by decide +kernel
theorem dX8_chain_45 : decode cX8_chain 45 = .ok (.iload_n 2, 1) := by decide +kernel
theorem dX8_chain_46 : decode cX8_chain 46 = .ok (.iadd, 1) := by decide +kernel
theorem dX8_chain_47 : decode cX8_chain 47 = .ok (.baload, 1) := by decide +kernel
theorem dX8_chain_48 : decode cX8_chain 48 = .ok (.ifCond .eq 7, 3) := by decide +kernel
theorem dX8_chain_51 : decode cX8_chain 51 = .ok (.iload_n 1, 1) := by decide +kernel
theorem dX8_chain_52 : decode cX8_chain 52 = .ok (.goto 4, 3) := by decide +kernel
theorem dX8_chain_55 : decode cX8_chain 55 = .ok (.iconst (-1), 1) := by decide +kernel
theorem dX8_chain_56 : decode cX8_chain 56 = .ok (.istore 4, 2) := by decide +kernel
theorem dX8_chain_58 : decode cX8_chain 58 = .ok (.iconst 0, 1) := by decide +kernel
theorem dX8_chain_59 : decode cX8_chain 59 = .ok (.istore 5, 2) := by decide +kernel
theorem dX8_chain_61 : decode cX8_chain 61 = .ok (.iload 5, 2) := by decide +kernel
theorem dX8_chain_63 : decode cX8_chain 63 = .ok (.iload_n 3, 1) := by decide +kernel
theorem dX8_chain_64 : decode cX8_chain 64 = .ok (.if_icmp .ge 24, 3) := by decide +kernel
theorem dX8_chain_67 : decode cX8_chain 67 = .ok (.iload 4, 2) := by decide +kernel
theorem dX8_chain_69 : decode cX8_chain 69 = .ok (.iconst (-1), 1) := by decide +kernel
theorem dX8_chain_70 : decode cX8_chain 70 = .ok (.if_icmp .eq 18, 3) := by decide +kernel
theorem dX8_chain_73 : decode cX8_chain 73 = .ok (.aload_n 0, 1) := by decide +kernel
theorem dX8_chain_74 : decode cX8_chain 74 = .ok (.iload 4, 2) := by decide +kernel
theorem dX8_chain_76 : decode cX8_chain 76 = .ok (.iload_n 2, 1) := by decide +kernel
theorem dX8_chain_77 : decode cX8_chain 77 = .ok (.invokevirtual 143, 3) := by decide +kernel
theorem dX8_chain_80 : decode cX8_chain 80 = .ok (.istore 4, 2) := by decide +kernel
theorem dX8_chain_82 : decode cX8_chain 82 = .ok (.iinc 5 1, 3) := by decide +kernel
theorem dX8_chain_85 : decode cX8_chain 85 = .ok (.goto (-24), 3) := by decide +kernel
theorem dX8_chain_88 : decode cX8_chain 88 = .ok (.iload 4, 2) := by decide +kernel
theorem dX8_chain_90 : decode cX8_chain 90 = .ok (.ireturn, 1) := by decide +kernel
theorem dX8_of_0 : decode cX8_of 0 = .ok (.aload_n 0, 1) := by decide +kernel
theorem dX8_of_1 : decode cX8_of 1 = .ok (.aload_n 0, 1) := by decide +kernel
theorem dX8_of_2 : decode cX8_of 2 = .ok (.iload_n 1, 1) := by decide +kernel
theorem dX8_of_3 : decode cX8_of 3 = .ok (.invokevirtual 136, 3) := by decide +kernel
theorem dX8_of_6 : decode cX8_of 6 = .ok (.ifCond .ne 7, 3) := by decide +kernel
theorem dX8_of_9 : decode cX8_of 9 = .ok (.iconst 1, 1) := by decide +kernel
theorem dX8_of_10 : decode cX8_of 10 = .ok (.goto 18, 3) := by decide +kernel
theorem dX8_of_13 : decode cX8_of 13 = .ok (.iload_n 2, 1) := by decide +kernel
theorem dX8_of_14 : decode cX8_of 14 = .ok (.iconst 0, 1) := by decide +kernel
theorem dX8_of_15 : decode cX8_of 15 = .ok (.bipush 6, 2) := by decide +kernel
theorem dX8_of_17 : decode cX8_of 17 = .ok (.invokestatic 96, 3) := by decide +kernel
theorem dX8_of_20 : decode cX8_of 20 = .ok (.ifCond .ne 7, 3) := by decide +kernel
theorem dX8_of_23 : decode cX8_of 23 = .ok (.iconst 2, 1) := by decide +kernel
theorem dX8_of_24 : decode cX8_of 24 = .ok (.goto 4, 3) := by decide +kernel
theorem dX8_of_27 : decode cX8_of 27 = .ok (.iconst 0, 1) := by decide +kernel
theorem dX8_of_28 : decode cX8_of 28 = .ok (.putfield 92, 3) := by decide +kernel
theorem dX8_of_31 : decode cX8_of 31 = .ok (.aload_n 0, 1) := by decide +kernel
theorem dX8_of_32 : decode cX8_of 32 = .ok (.getfield 92, 3) := by decide +kernel
theorem dX8_of_35 : decode cX8_of 35 = .ok (.ifCond .le 5, 3) := by decide +kernel
theorem dX8_of_38 : decode cX8_of 38 = .ok (.iconst 0, 1) := by decide +kernel
theorem dX8_of_39 : decode cX8_of 39 = .ok (.ireturn, 1) := by decide +kernel
theorem dX8_of_40 : decode cX8_of 40 = .ok (.iconst 0, 1) := by decide +kernel
theorem dX8_of_41 : decode cX8_of 41 = .ok (.istore_n 3, 1) := by decide +kernel
theorem dX8_of_42 : decode cX8_of 42 = .ok (.iconst 0, 1) := by decide +kernel
theorem dX8_of_43 : decode cX8_of 43 = .ok (.istore 4, 2) := by decide +kernel
theorem dX8_of_45 : decode cX8_of 45 = .ok (.iconst 0, 1) := by decide +kernel
theorem dX8_of_46 : decode cX8_of 46 = .ok (.istore 5, 2) := by decide +kernel
theorem dX8_of_48 : decode cX8_of 48 = .ok (.iload 5, 2) := by decide +kernel
theorem dX8_of_50 : decode cX8_of 50 = .ok (.bipush 24, 2) := by decide +kernel
theorem dX8_of_52 : decode cX8_of 52 = .ok (.if_icmp .ge 64, 3) := by decide +kernel
theorem dX8_of_55 : decode cX8_of 55 = .ok (.iload_n 3, 1) := by decide +kernel
theorem dX8_of_56 : decode cX8_of 56 = .ok (.aload_n 0, 1) := by decide +kernel
theorem dX8_of_57 : decode cX8_of 57 = .ok (.getfield 46, 3) := by decide +kernel
theorem dX8_of_60 : decode cX8_of 60 = .ok (.bipush 24, 2) := by decide +kernel
theorem dX8_of_62 : decode cX8_of 62 = .ok (.iload_n 1, 1) := by decide +kernel
theorem dX8_of_63 : decode cX8_of 63 = .ok (.imul, 1) := by decide +kernel
theorem dX8_of_64 : decode cX8_of 64 = .ok (.iload 5, 2) := by decide +kernel
theorem dX8_of_66 : decode cX8_of 66 = .ok (.iadd, 1) := by decide +kernel
theorem dX8_of_67 : decode cX8_of 67 = .ok (.baload, 1) := by decide +kernel
theorem dX8_of_68 : decode cX8_of 68 = .ok (.ifCond .eq 7, 3) := by decide +kernel
theorem dX8_of_71 : decode cX8_of 71 = .ok (.iconst 1, 1) := by decide +kernel
theorem dX8_of_72 : decode cX8_of 72 = .ok (.goto 4, 3) := by decide +kernel
theorem dX8_of_75 : decode cX8_of 75 = .ok (.iconst 0, 1) := by decide +kernel
theorem dX8_of_76 : decode cX8_of 76 = .ok (.iadd, 1) := by decide +kernel
theorem dX8_of_77 : decode cX8_of 77 = .ok (.istore_n 3, 1) := by decide +kernel
theorem dX8_of_78 : decode cX8_of 78 = .ok (.iload 4, 2) := by decide +kernel
theorem dX8_of_80 : decode cX8_of 80 = .ok (.aload_n 0, 1) := by decide +kernel
theorem dX8_of_81 : decode cX8_of 81 = .ok (.getfield 56, 3) := by decide +kernel
theorem dX8_of_84 : decode cX8_of 84 = .ok (.bipush 24, 2) := by decide +kernel
theorem dX8_of_86 : decode cX8_of 86 = .ok (.iload_n 1, 1) := by decide +kernel
theorem dX8_of_87 : decode cX8_of 87 = .ok (.imul, 1) := by decide +kernel
theorem dX8_of_88 : decode cX8_of 88 = .ok (.iload 5, 2) := by decide +kernel
theorem dX8_of_90 : decode cX8_of 90 = .ok (.iadd, 1) := by decide +kernel
theorem dX8_of_91 : decode cX8_of 91 = .ok (.iaload, 1) := by decide +kernel
theorem dX8_of_92 : decode cX8_of 92 = .ok (.aload_n 0, 1) := by decide +kernel
theorem dX8_of_93 : decode cX8_of 93 = .ok (.getfield 16, 3) := by decide +kernel
theorem dX8_of_96 : decode cX8_of 96 = .ok (.iload 5, 2) := by decide +kernel
theorem dX8_of_98 : decode cX8_of 98 = .ok (.iaload, 1) := by decide +kernel
theorem dX8_of_99 : decode cX8_of 99 = .ok (.if_icmp .eq 7, 3) := by decide +kernel
theorem dX8_of_102 : decode cX8_of 102 = .ok (.iconst 1, 1) := by decide +kernel
theorem dX8_of_103 : decode cX8_of 103 = .ok (.goto 4, 3) := by decide +kernel
theorem dX8_of_106 : decode cX8_of 106 = .ok (.iconst 0, 1) := by decide +kernel
theorem dX8_of_107 : decode cX8_of 107 = .ok (.iadd, 1) := by decide +kernel
theorem dX8_of_108 : decode cX8_of 108 = .ok (.istore 4, 2) := by decide +kernel
theorem dX8_of_110 : decode cX8_of 110 = .ok (.iinc 5 1, 3) := by decide +kernel
theorem dX8_of_113 : decode cX8_of 113 = .ok (.goto (-65), 3) := by decide +kernel
theorem dX8_of_116 : decode cX8_of 116 = .ok (.iconst 0, 1) := by decide +kernel
theorem dX8_of_117 : decode cX8_of 117 = .ok (.istore 5, 2) := by decide +kernel
theorem dX8_of_119 : decode cX8_of 119 = .ok (.iconst 0, 1) := by decide +kernel
theorem dX8_of_120 : decode cX8_of 120 = .ok (.istore 6, 2) := by decide +kernel
theorem dX8_of_122 : decode cX8_of 122 = .ok (.iload 6, 2) := by decide +kernel
theorem dX8_of_124 : decode cX8_of 124 = .ok (.aload_n 0, 1) := by decide +kernel
theorem dX8_of_125 : decode cX8_of 125 = .ok (.getfield 103, 3) := by decide +kernel
theorem dX8_of_128 : decode cX8_of 128 = .ok (.if_icmp .ge 34, 3) := by decide +kernel
theorem dX8_of_131 : decode cX8_of 131 = .ok (.iload 5, 2) := by decide +kernel
theorem dX8_of_133 : decode cX8_of 133 = .ok (.aload_n 0, 1) := by decide +kernel
theorem dX8_of_134 : decode cX8_of 134 = .ok (.getfield 77, 3) := by decide +kernel
theorem dX8_of_137 : decode cX8_of 137 = .ok (.bipush 20, 2) := by decide +kernel
theorem dX8_of_139 : decode cX8_of 139 = .ok (.iload_n 1, 1) := by decide +kernel
theorem dX8_of_140 : decode cX8_of 140 = .ok (.imul, 1) := by decide +kernel
theorem dX8_of_141 : decode cX8_of 141 = .ok (.iload 6, 2) := by decide +kernel
theorem dX8_of_143 : decode cX8_of 143 = .ok (.iadd, 1) := by decide +kernel
theorem dX8_of_144 : decode cX8_of 144 = .ok (.baload, 1) := by decide +kernel
theorem dX8_of_145 : decode cX8_of 145 = .ok (.ifCond .eq 7, 3) := by decide +kernel
theorem dX8_of_148 : decode cX8_of 148 = .ok (.iconst 1, 1) := by decide +kernel
theorem dX8_of_149 : decode cX8_of 149 = .ok (.goto 4, 3) := by decide +kernel
theorem dX8_of_152 : decode cX8_of 152 = .ok (.iconst 0, 1) := by decide +kernel
theorem dX8_of_153 : decode cX8_of 153 = .ok (.iadd, 1) := by decide +kernel
theorem dX8_of_154 : decode cX8_of 154 = .ok (.istore 5, 2) := by decide +kernel
theorem dX8_of_156 : decode cX8_of 156 = .ok (.iinc 6 1, 3) := by decide +kernel
theorem dX8_of_159 : decode cX8_of 159 = .ok (.goto (-37), 3) := by decide +kernel
theorem dX8_of_162 : decode cX8_of 162 = .ok (.iload_n 2, 1) := by decide +kernel
theorem dX8_of_163 : decode cX8_of 163 = .ok (.ifCond .ne 12, 3) := by decide +kernel
theorem dX8_of_166 : decode cX8_of 166 = .ok (.aload_n 0, 1) := by decide +kernel
theorem dX8_of_167 : decode cX8_of 167 = .ok (.getfield 40, 3) := by decide +kernel
theorem dX8_of_170 : decode cX8_of 170 = .ok (.iload_n 1, 1) := by decide +kernel
theorem dX8_of_171 : decode cX8_of 171 = .ok (.iaload, 1) := by decide +kernel
theorem dX8_of_172 : decode cX8_of 172 = .ok (.goto 45, 3) := by decide +kernel
theorem dX8_of_175 : decode cX8_of 175 = .ok (.iload_n 2, 1) := by decide +kernel
theorem dX8_of_176 : decode cX8_of 176 = .ok (.iconst 1, 1) := by decide +kernel
theorem dX8_of_177 : decode cX8_of 177 = .ok (.if_icmp .ne 7, 3) := by decide +kernel
theorem dX8_of_180 : decode cX8_of 180 = .ok (.iload_n 3, 1) := by decide +kernel
theorem dX8_of_181 : decode cX8_of 181 = .ok (.goto 36, 3) := by decide +kernel
theorem dX8_of_184 : decode cX8_of 184 = .ok (.iload_n 2, 1) := by decide +kernel
theorem dX8_of_185 : decode cX8_of 185 = .ok (.iconst 2, 1) := by decide +kernel
theorem dX8_of_186 : decode cX8_of 186 = .ok (.if_icmp .ne 8, 3) := by decide +kernel
theorem dX8_of_189 : decode cX8_of 189 = .ok (.iload 5, 2) := by decide +kernel
theorem dX8_of_191 : decode cX8_of 191 = .ok (.goto 26, 3) := by decide +kernel
theorem dX8_of_194 : decode cX8_of 194 = .ok (.iload_n 2, 1) := by decide +kernel
theorem dX8_of_195 : decode cX8_of 195 = .ok (.bipush 6, 2) := by decide +kernel
theorem dX8_of_197 : decode cX8_of 197 = .ok (.if_icmp .ne 8, 3) := by decide +kernel
theorem dX8_of_200 : decode cX8_of 200 = .ok (.iload 4, 2) := by decide +kernel
theorem dX8_of_202 : decode cX8_of 202 = .ok (.goto 15, 3) := by decide +kernel
theorem dX8_of_205 : decode cX8_of 205 = .ok (.aload_n 0, 1) := by decide +kernel
theorem dX8_of_206 : decode cX8_of 206 = .ok (.getfield 43, 3) := by decide +kernel
theorem dX8_of_209 : decode cX8_of 209 = .ok (.iconst 3, 1) := by decide +kernel
theorem dX8_of_210 : decode cX8_of 210 = .ok (.iload_n 1, 1) := by decide +kernel
theorem dX8_of_211 : decode cX8_of 211 = .ok (.imul, 1) := by decide +kernel
theorem dX8_of_212 : decode cX8_of 212 = .ok (.iload_n 2, 1) := by decide +kernel
theorem dX8_of_213 : decode cX8_of 213 = .ok (.iadd, 1) := by decide +kernel
theorem dX8_of_214 : decode cX8_of 214 = .ok (.iconst 3, 1) := by decide +kernel
theorem dX8_of_215 : decode cX8_of 215 = .ok (.isub, 1) := by decide +kernel
theorem dX8_of_216 : decode cX8_of 216 = .ok (.iaload, 1) := by decide +kernel
theorem dX8_of_217 : decode cX8_of 217 = .ok (.ireturn, 1) := by decide +kernel
theorem dX8_ofIsland_0 : decode cX8_ofIsland 0 = .ok (.aload_n 0, 1) := by decide +kernel
theorem dX8_ofIsland_1 : decode cX8_ofIsland 1 = .ok (.aload_n 0, 1) := by decide +kernel
theorem dX8_ofIsland_2 : decode cX8_ofIsland 2 = .ok (.iload_n 1, 1) := by decide +kernel
theorem dX8_ofIsland_3 : decode cX8_ofIsland 3 = .ok (.invokevirtual 158, 3) := by decide +kernel
theorem dX8_ofIsland_6 : decode cX8_ofIsland 6 = .ok (.ifCond .ne 7, 3) := by decide +kernel
theorem dX8_ofIsland_9 : decode cX8_ofIsland 9 = .ok (.iconst 1, 1) := by decide +kernel
theorem dX8_ofIsland_10 : decode cX8_ofIsland 10 = .ok (.goto 17, 3) := by decide +kernel
theorem dX8_ofIsland_13 : decode cX8_ofIsland 13 = .ok (.iload_n 2, 1) := by decide +kernel
theorem dX8_ofIsland_14 : decode cX8_ofIsland 14 = .ok (.iconst 0, 1) := by decide +kernel
theorem dX8_ofIsland_15 : decode cX8_ofIsland 15 = .ok (.iconst 4, 1) := by decide +kernel
theorem dX8_ofIsland_16 : decode cX8_ofIsland 16 = .ok (.invokestatic 96, 3) := by decide +kernel
theorem dX8_ofIsland_19 : decode cX8_ofIsland 19 = .ok (.ifCond .ne 7, 3) := by decide +kernel
theorem dX8_ofIsland_22 : decode cX8_ofIsland 22 = .ok (.iconst 2, 1) := by decide +kernel
theorem dX8_ofIsland_23 : decode cX8_ofIsland 23 = .ok (.goto 4, 3) := by decide +kernel
theorem dX8_ofIsland_26 : decode cX8_ofIsland 26 = .ok (.iconst 0, 1) := by decide +kernel
theorem dX8_ofIsland_27 : decode cX8_ofIsland 27 = .ok (.putfield 92, 3) := by decide +kernel
theorem dX8_ofIsland_30 : decode cX8_ofIsland 30 = .ok (.aload_n 0, 1) := by decide +kernel
theorem dX8_ofIsland_31 : decode cX8_ofIsland 31 = .ok (.getfield 92, 3) := by decide +kernel
theorem dX8_ofIsland_34 : decode cX8_ofIsland 34 = .ok (.ifCond .le 5, 3) := by decide +kernel
theorem dX8_ofIsland_37 : decode cX8_ofIsland 37 = .ok (.iconst 0, 1) := by decide +kernel
theorem dX8_ofIsland_38 : decode cX8_ofIsland 38 = .ok (.ireturn, 1) := by decide +kernel
theorem dX8_ofIsland_39 : decode cX8_ofIsland 39 = .ok (.iconst 0, 1) := by decide +kernel
theorem dX8_ofIsland_40 : decode cX8_ofIsland 40 = .ok (.istore_n 3, 1) := by decide +kernel
theorem dX8_ofIsland_41 : decode cX8_ofIsland 41 = .ok (.iconst (-1), 1) := by decide +kernel
theorem dX8_ofIsland_42 : decode cX8_ofIsland 42 = .ok (.istore 4, 2) := by decide +kernel
theorem dX8_ofIsland_44 : decode cX8_ofIsland 44 = .ok (.iconst 0, 1) := by decide +kernel
theorem dX8_ofIsland_45 : decode cX8_ofIsland 45 = .ok (.istore 5, 2) := by decide +kernel
theorem dX8_ofIsland_47 : decode cX8_ofIsland 47 = .ok (.iload 5, 2) := by decide +kernel
theorem dX8_ofIsland_49 : decode cX8_ofIsland 49 = .ok (.aload_n 0, 1) := by decide +kernel
theorem dX8_ofIsland_50 : decode cX8_ofIsland 50 = .ok (.getfield 100, 3) := by decide +kernel
theorem dX8_ofIsland_53 : decode cX8_ofIsland 53 = .ok (.if_icmp .ge 56, 3) := by decide +kernel
theorem dX8_ofIsland_56 : decode cX8_ofIsland 56 = .ok (.iload_n 3, 1) := by decide +kernel
theorem dX8_ofIsland_57 : decode cX8_ofIsland 57 = .ok (.aload_n 0, 1) := by decide +kernel
theorem dX8_ofIsland_58 : decode cX8_ofIsland 58 = .ok (.getfield 77, 3) := by decide +kernel
theorem dX8_ofIsland_61 : decode cX8_ofIsland 61 = .ok (.bipush 20, 2) := by decide +kernel
theorem dX8_ofIsland_63 : decode cX8_ofIsland 63 = .ok (.iload 5, 2) := by decide +kernel
theorem dX8_ofIsland_65 : decode cX8_ofIsland 65 = .ok (.imul, 1) := by decide +kernel
theorem dX8_ofIsland_66 : decode cX8_ofIsland 66 = .ok (.iload_n 1, 1) := by decide +kernel
theorem dX8_ofIsland_67 : decode cX8_ofIsland 67 = .ok (.iadd, 1) := by decide +kernel
theorem dX8_ofIsland_68 : decode cX8_ofIsland 68 = .ok (.baload, 1) := by decide +kernel
theorem dX8_ofIsland_69 : decode cX8_ofIsland 69 = .ok (.ifCond .eq 7, 3) := by decide +kernel
theorem dX8_ofIsland_72 : decode cX8_ofIsland 72 = .ok (.iconst 1, 1) := by decide +kernel
theorem dX8_ofIsland_73 : decode cX8_ofIsland 73 = .ok (.goto 4, 3) := by decide +kernel
theorem dX8_ofIsland_76 : decode cX8_ofIsland 76 = .ok (.iconst 0, 1) := by decide +kernel
theorem dX8_ofIsland_77 : decode cX8_ofIsland 77 = .ok (.iadd, 1) := by decide +kernel
theorem dX8_ofIsland_78 : decode cX8_ofIsland 78 = .ok (.istore_n 3, 1) := by decide +kernel
theorem dX8_ofIsland_79 : decode cX8_ofIsland 79 = .ok (.aload_n 0, 1) := by decide +kernel
theorem dX8_ofIsland_80 : decode cX8_ofIsland 80 = .ok (.getfield 77, 3) := by decide +kernel
theorem dX8_ofIsland_83 : decode cX8_ofIsland 83 = .ok (.bipush 20, 2) := by decide +kernel
theorem dX8_ofIsland_85 : decode cX8_ofIsland 85 = .ok (.iload 5, 2) := by decide +kernel
theorem dX8_ofIsland_87 : decode cX8_ofIsland 87 = .ok (.imul, 1) := by decide +kernel
theorem dX8_ofIsland_88 : decode cX8_ofIsland 88 = .ok (.iload_n 1, 1) := by decide +kernel
theorem dX8_ofIsland_89 : decode cX8_ofIsland 89 = .ok (.iadd, 1) := by decide +kernel
theorem dX8_ofIsland_90 : decode cX8_ofIsland 90 = .ok (.baload, 1) := by decide +kernel
theorem dX8_ofIsland_91 : decode cX8_ofIsland 91 = .ok (.ifCond .eq 8, 3) := by decide +kernel
theorem dX8_ofIsland_94 : decode cX8_ofIsland 94 = .ok (.iload 5, 2) := by decide +kernel
theorem dX8_ofIsland_96 : decode cX8_ofIsland 96 = .ok (.goto 5, 3) := by decide +kernel
theorem dX8_ofIsland_99 : decode cX8_ofIsland 99 = .ok (.iload 4, 2) := by decide +kernel
theorem dX8_ofIsland_101 : decode cX8_ofIsland 101 = .ok (.istore 4, 2) := by decide +kernel
theorem dX8_ofIsland_103 : decode cX8_ofIsland 103 = .ok (.iinc 5 1, 3) := by decide +kernel
theorem dX8_ofIsland_106 : decode cX8_ofIsland 106 = .ok (.goto (-59), 3) := by decide +kernel
theorem dX8_ofIsland_109 : decode cX8_ofIsland 109 = .ok (.iload_n 2, 1) := by decide +kernel
theorem dX8_ofIsland_110 : decode cX8_ofIsland 110 = .ok (.ifCond .ne 7, 3) := by decide +kernel
theorem dX8_ofIsland_113 : decode cX8_ofIsland 113 = .ok (.iload_n 3, 1) := by decide +kernel
theorem dX8_ofIsland_114 : decode cX8_ofIsland 114 = .ok (.goto 47, 3) := by decide +kernel
theorem dX8_ofIsland_117 : decode cX8_ofIsland 117 = .ok (.iload_n 2, 1) := by decide +kernel
theorem dX8_ofIsland_118 : decode cX8_ofIsland 118 = .ok (.iconst 1, 1) := by decide +kernel
theorem dX8_ofIsland_119 : decode cX8_ofIsland 119 = .ok (.if_icmp .ne 12, 3) := by decide +kernel
theorem dX8_ofIsland_122 : decode cX8_ofIsland 122 = .ok (.aload_n 0, 1) := by decide +kernel
theorem dX8_ofIsland_123 : decode cX8_ofIsland 123 = .ok (.getfield 68, 3) := by decide +kernel
theorem dX8_ofIsland_126 : decode cX8_ofIsland 126 = .ok (.iload_n 1, 1) := by decide +kernel
theorem dX8_ofIsland_127 : decode cX8_ofIsland 127 = .ok (.iaload, 1) := by decide +kernel
theorem dX8_ofIsland_128 : decode cX8_ofIsland 128 = .ok (.goto 33, 3) := by decide +kernel
theorem dX8_ofIsland_131 : decode cX8_ofIsland 131 = .ok (.iload_n 2, 1) := by decide +kernel
theorem dX8_ofIsland_132 : decode cX8_ofIsland 132 = .ok (.iconst 2, 1) := by decide +kernel
theorem dX8_ofIsland_133 : decode cX8_ofIsland 133 = .ok (.if_icmp .ne 12, 3) := by decide +kernel
theorem dX8_ofIsland_136 : decode cX8_ofIsland 136 = .ok (.aload_n 0, 1) := by decide +kernel
theorem dX8_ofIsland_137 : decode cX8_ofIsland 137 = .ok (.getfield 71, 3) := by decide +kernel
theorem dX8_ofIsland_140 : decode cX8_ofIsland 140 = .ok (.iload_n 1, 1) := by decide +kernel
theorem dX8_ofIsland_141 : decode cX8_ofIsland 141 = .ok (.iaload, 1) := by decide +kernel
theorem dX8_ofIsland_142 : decode cX8_ofIsland 142 = .ok (.goto 19, 3) := by decide +kernel
theorem dX8_ofIsland_145 : decode cX8_ofIsland 145 = .ok (.iload_n 2, 1) := by decide +kernel
theorem dX8_ofIsland_146 : decode cX8_ofIsland 146 = .ok (.iconst 3, 1) := by decide +kernel
theorem dX8_ofIsland_147 : decode cX8_ofIsland 147 = .ok (.if_icmp .ne 12, 3) := by decide +kernel
theorem dX8_ofIsland_150 : decode cX8_ofIsland 150 = .ok (.aload_n 0, 1) := by decide +kernel
theorem dX8_ofIsland_151 : decode cX8_ofIsland 151 = .ok (.getfield 74, 3) := by decide +kernel
theorem dX8_ofIsland_154 : decode cX8_ofIsland 154 = .ok (.iload_n 1, 1) := by decide +kernel
theorem dX8_ofIsland_155 : decode cX8_ofIsland 155 = .ok (.iaload, 1) := by decide +kernel
theorem dX8_ofIsland_156 : decode cX8_ofIsland 156 = .ok (.goto 5, 3) := by decide +kernel
theorem dX8_ofIsland_159 : decode cX8_ofIsland 159 = .ok (.iload 4, 2) := by decide +kernel
theorem dX8_ofIsland_161 : decode cX8_ofIsland 161 = .ok (.ireturn, 1) := by decide +kernel
theorem dX8_size_0 : decode cX8_size 0 = .ok (.iload_n 0, 1) := by decide +kernel
theorem dX8_size_1 : decode cX8_size 1 = .ok (.ifCond .ge 8, 3) := by decide +kernel
theorem dX8_size_4 : decode cX8_size 4 = .ok (.iload_n 0, 1) := by decide +kernel
theorem dX8_size_5 : decode cX8_size 5 = .ok (.ineg, 1) := by decide +kernel
theorem dX8_size_6 : decode cX8_size 6 = .ok (.goto 4, 3) := by decide +kernel
theorem dX8_size_9 : decode cX8_size 9 = .ok (.iload_n 0, 1) := by decide +kernel
theorem dX8_size_10 : decode cX8_size 10 = .ok (.ireturn, 1) := by decide +kernel
theorem dX8_shifts_0 : decode cX8_shifts 0 = .ok (.iconst 0, 1) := by decide +kernel
theorem dX8_shifts_1 : decode cX8_shifts 1 = .ok (.istore_n 3, 1) := by decide +kernel
theorem dX8_shifts_2 : decode cX8_shifts 2 = .ok (.aload_n 0, 1) := by decide +kernel
theorem dX8_shifts_3 : decode cX8_shifts 3 = .ok (.iconst 0, 1) := by decide +kernel
theorem dX8_shifts_4 : decode cX8_shifts 4 = .ok (.putfield 162, 3) := by decide +kernel
theorem dX8_shifts_7 : decode cX8_shifts 7 = .ok (.aload_n 0, 1) := by decide +kernel
theorem dX8_shifts_8 : decode cX8_shifts 8 = .ok (.iconst 0, 1) := by decide +kernel
theorem dX8_shifts_9 : decode cX8_shifts 9 = .ok (.putfield 165, 3) := by decide +kernel
theorem dX8_shifts_12 : decode cX8_shifts 12 = .ok (.bipush 8, 2) := by decide +kernel
theorem dX8_shifts_14 : decode cX8_shifts 14 = .ok (.iload_n 2, 1) := by decide +kernel
theorem dX8_shifts_15 : decode cX8_shifts 15 = .ok (.imul, 1) := by decide +kernel
theorem dX8_shifts_16 : decode cX8_shifts 16 = .ok (.istore 4, 2) := by decide +kernel
theorem dX8_shifts_18 : decode cX8_shifts 18 = .ok (.iload 4, 2) := by decide +kernel
theorem dX8_shifts_20 : decode cX8_shifts 20 = .ok (.bipush 8, 2) := by decide +kernel
theorem dX8_shifts_22 : decode cX8_shifts 22 = .ok (.iload_n 2, 1) := by decide +kernel
theorem dX8_shifts_23 : decode cX8_shifts 23 = .ok (.imul, 1) := by decide +kernel
theorem dX8_shifts_24 : decode cX8_shifts 24 = .ok (.bipush 8, 2) := by decide +kernel
theorem dX8_shifts_26 : decode cX8_shifts 26 = .ok (.iadd, 1) := by decide +kernel
theorem dX8_shifts_27 : decode cX8_shifts 27 = .ok (.if_icmp .ge 79, 3) := by decide +kernel
theorem dX8_shifts_30 : decode cX8_shifts 30 = .ok (.bipush 24, 2) := by decide +kernel
theorem dX8_shifts_32 : decode cX8_shifts 32 = .ok (.iload_n 1, 1) := by decide +kernel
theorem dX8_shifts_33 : decode cX8_shifts 33 = .ok (.imul, 1) := by decide +kernel
theorem dX8_shifts_34 : decode cX8_shifts 34 = .ok (.iload 4, 2) := by decide +kernel
theorem dX8_shifts_36 : decode cX8_shifts 36 = .ok (.iadd, 1) := by decide +kernel
theorem dX8_shifts_37 : decode cX8_shifts 37 = .ok (.istore 5, 2) := by decide +kernel
theorem dX8_shifts_39 : decode cX8_shifts 39 = .ok (.aload_n 0, 1) := by decide +kernel
theorem dX8_shifts_40 : decode cX8_shifts 40 = .ok (.getfield 46, 3) := by decide +kernel
theorem dX8_shifts_43 : decode cX8_shifts 43 = .ok (.iload 5, 2) := by decide +kernel
theorem dX8_shifts_45 : decode cX8_shifts 45 = .ok (.baload, 1) := by decide +kernel
theorem dX8_shifts_46 : decode cX8_shifts 46 = .ok (.ifCond .eq 54, 3) := by decide +kernel
theorem dX8_shifts_49 : decode cX8_shifts 49 = .ok (.aload_n 0, 1) := by decide +kernel
theorem dX8_shifts_50 : decode cX8_shifts 50 = .ok (.dup, 1) := by decide +kernel
theorem dX8_shifts_51 : decode cX8_shifts 51 = .ok (.getfield 162, 3) := by decide +kernel
theorem dX8_shifts_54 : decode cX8_shifts 54 = .ok (.aload_n 0, 1) := by decide +kernel
theorem dX8_shifts_55 : decode cX8_shifts 55 = .ok (.getfield 50, 3) := by decide +kernel
theorem dX8_shifts_58 : decode cX8_shifts 58 = .ok (.iload 5, 2) := by decide +kernel
theorem dX8_shifts_60 : decode cX8_shifts 60 = .ok (.iaload, 1) := by decide +kernel
theorem dX8_shifts_61 : decode cX8_shifts 61 = .ok (.aload_n 0, 1) := by decide +kernel
theorem dX8_shifts_62 : decode cX8_shifts 62 = .ok (.getfield 7, 3) := by decide +kernel
theorem dX8_shifts_65 : decode cX8_shifts 65 = .ok (.iload 4, 2) := by decide +kernel
theorem dX8_shifts_67 : decode cX8_shifts 67 = .ok (.iaload, 1) := by decide +kernel
theorem dX8_shifts_68 : decode cX8_shifts 68 = .ok (.isub, 1) := by decide +kernel
theorem dX8_shifts_69 : decode cX8_shifts 69 = .ok (.iadd, 1) := by decide +kernel
theorem dX8_shifts_70 : decode cX8_shifts 70 = .ok (.putfield 162, 3) := by decide +kernel
theorem dX8_shifts_73 : decode cX8_shifts 73 = .ok (.aload_n 0, 1) := by decide +kernel
theorem dX8_shifts_74 : decode cX8_shifts 74 = .ok (.dup, 1) := by decide +kernel
theorem dX8_shifts_75 : decode cX8_shifts 75 = .ok (.getfield 165, 3) := by decide +kernel
theorem dX8_shifts_78 : decode cX8_shifts 78 = .ok (.aload_n 0, 1) := by decide +kernel
theorem dX8_shifts_79 : decode cX8_shifts 79 = .ok (.getfield 53, 3) := by decide +kernel
theorem dX8_shifts_82 : decode cX8_shifts 82 = .ok (.iload 5, 2) := by decide +kernel
theorem dX8_shifts_84 : decode cX8_shifts 84 = .ok (.iaload, 1) := by decide +kernel
theorem dX8_shifts_85 : decode cX8_shifts 85 = .ok (.aload_n 0, 1) := by decide +kernel
theorem dX8_shifts_86 : decode cX8_shifts 86 = .ok (.getfield 13, 3) := by decide +kernel
theorem dX8_shifts_89 : decode cX8_shifts 89 = .ok (.iload 4, 2) := by decide +kernel
theorem dX8_shifts_91 : decode cX8_shifts 91 = .ok (.iaload, 1) := by decide +kernel
theorem dX8_shifts_92 : decode cX8_shifts 92 = .ok (.isub, 1) := by decide +kernel
theorem dX8_shifts_93 : decode cX8_shifts 93 = .ok (.iadd, 1) := by decide +kernel
theorem dX8_shifts_94 : decode cX8_shifts 94 = .ok (.putfield 165, 3) := by decide +kernel
theorem dX8_shifts_97 : decode cX8_shifts 97 = .ok (.iinc 3 1, 3) := by decide +kernel
theorem dX8_shifts_100 : decode cX8_shifts 100 = .ok (.iinc 4 1, 3) := by decide +kernel
theorem dX8_shifts_103 : decode cX8_shifts 103 = .ok (.goto (-85), 3) := by decide +kernel
theorem dX8_shifts_106 : decode cX8_shifts 106 = .ok (.aload_n 0, 1) := by decide +kernel
theorem dX8_shifts_107 : decode cX8_shifts 107 = .ok (.iload_n 3, 1) := by decide +kernel
theorem dX8_shifts_108 : decode cX8_shifts 108 = .ok (.ifCond .ne 7, 3) := by decide +kernel
theorem dX8_shifts_111 : decode cX8_shifts 111 = .ok (.iconst 0, 1) := by decide +kernel
theorem dX8_shifts_112 : decode cX8_shifts 112 = .ok (.goto 9, 3) := by decide +kernel
theorem dX8_shifts_115 : decode cX8_shifts 115 = .ok (.aload_n 0, 1) := by decide +kernel
theorem dX8_shifts_116 : decode cX8_shifts 116 = .ok (.getfield 162, 3) := by decide +kernel
theorem dX8_shifts_119 : decode cX8_shifts 119 = .ok (.iload_n 3, 1) := by decide +kernel
theorem dX8_shifts_120 : decode cX8_shifts 120 = .ok (.idiv, 1) := by decide +kernel
theorem dX8_shifts_121 : decode cX8_shifts 121 = .ok (.putfield 162, 3) := by decide +kernel
theorem dX8_shifts_124 : decode cX8_shifts 124 = .ok (.aload_n 0, 1) := by decide +kernel
theorem dX8_shifts_125 : decode cX8_shifts 125 = .ok (.iload_n 3, 1) := by decide +kernel
theorem dX8_shifts_126 : decode cX8_shifts 126 = .ok (.ifCond .ne 7, 3) := by decide +kernel
theorem dX8_shifts_129 : decode cX8_shifts 129 = .ok (.iconst 0, 1) := by decide +kernel
theorem dX8_shifts_130 : decode cX8_shifts 130 = .ok (.goto 9, 3) := by decide +kernel
theorem dX8_shifts_133 : decode cX8_shifts 133 = .ok (.aload_n 0, 1) := by decide +kernel
theorem dX8_shifts_134 : decode cX8_shifts 134 = .ok (.getfield 165, 3) := by decide +kernel
theorem dX8_shifts_137 : decode cX8_shifts 137 = .ok (.iload_n 3, 1) := by decide +kernel
theorem dX8_shifts_138 : decode cX8_shifts 138 = .ok (.idiv, 1) := by decide +kernel
theorem dX8_shifts_139 : decode cX8_shifts 139 = .ok (.putfield 165, 3) := by decide +kernel
theorem dX8_shifts_142 : decode cX8_shifts 142 = .ok (.return_, 1) := by decide +kernel
theorem dX8_fit_0 : decode cX8_fit 0 = .ok (.aload_n 0, 1) := by decide +kernel
theorem dX8_fit_1 : decode cX8_fit 1 = .ok (.aload_n 0, 1) := by decide +kernel
theorem dX8_fit_2 : decode cX8_fit 2 = .ok (.iload_n 1, 1) := by decide +kernel
theorem dX8_fit_3 : decode cX8_fit 3 = .ok (.invokevirtual 136, 3) := by decide +kernel
theorem dX8_fit_6 : decode cX8_fit 6 = .ok (.ifCond .eq 10, 3) := by decide +kernel
theorem dX8_fit_9 : decode cX8_fit 9 = .ok (.iload_n 2, 1) := by decide +kernel
theorem dX8_fit_10 : decode cX8_fit 10 = .ok (.invokestatic 152, 3) := by decide +kernel
theorem dX8_fit_13 : decode cX8_fit 13 = .ok (.ifCond .ne 7, 3) := by decide +kernel
theorem dX8_fit_16 : decode cX8_fit 16 = .ok (.iconst 1, 1) := by decide +kernel
theorem dX8_fit_17 : decode cX8_fit 17 = .ok (.goto 17, 3) := by decide +kernel
theorem dX8_fit_20 : decode cX8_fit 20 = .ok (.iload_n 3, 1) := by decide +kernel
theorem dX8_fit_21 : decode cX8_fit 21 = .ok (.iconst 0, 1) := by decide +kernel
theorem dX8_fit_22 : decode cX8_fit 22 = .ok (.iconst 2, 1) := by decide +kernel
theorem dX8_fit_23 : decode cX8_fit 23 = .ok (.invokestatic 96, 3) := by decide +kernel
theorem dX8_fit_26 : decode cX8_fit 26 = .ok (.ifCond .ne 7, 3) := by decide +kernel
theorem dX8_fit_29 : decode cX8_fit 29 = .ok (.iconst 2, 1) := by decide +kernel
theorem dX8_fit_30 : decode cX8_fit 30 = .ok (.goto 4, 3) := by decide +kernel
theorem dX8_fit_33 : decode cX8_fit 33 = .ok (.iconst 0, 1) := by decide +kernel
theorem dX8_fit_34 : decode cX8_fit 34 = .ok (.putfield 92, 3) := by decide +kernel
theorem dX8_fit_37 : decode cX8_fit 37 = .ok (.aload_n 0, 1) := by decide +kernel
theorem dX8_fit_38 : decode cX8_fit 38 = .ok (.getfield 92, 3) := by decide +kernel
theorem dX8_fit_41 : decode cX8_fit 41 = .ok (.ifCond .le 5, 3) := by decide +kernel
theorem dX8_fit_44 : decode cX8_fit 44 = .ok (.iconst 0, 1) := by decide +kernel
theorem dX8_fit_45 : decode cX8_fit 45 = .ok (.ireturn, 1) := by decide +kernel
theorem dX8_fit_46 : decode cX8_fit 46 = .ok (.aload_n 0, 1) := by decide +kernel
theorem dX8_fit_47 : decode cX8_fit 47 = .ok (.iload_n 1, 1) := by decide +kernel
theorem dX8_fit_48 : decode cX8_fit 48 = .ok (.iload_n 2, 1) := by decide +kernel
theorem dX8_fit_49 : decode cX8_fit 49 = .ok (.invokevirtual 168, 3) := by decide +kernel
theorem dX8_fit_52 : decode cX8_fit 52 = .ok (.iconst 0, 1) := by decide +kernel
theorem dX8_fit_53 : decode cX8_fit 53 = .ok (.istore 4, 2) := by decide +kernel
theorem dX8_fit_55 : decode cX8_fit 55 = .ok (.bipush 8, 2) := by decide +kernel
theorem dX8_fit_57 : decode cX8_fit 57 = .ok (.iload_n 2, 1) := by decide +kernel
theorem dX8_fit_58 : decode cX8_fit 58 = .ok (.imul, 1) := by decide +kernel
theorem dX8_fit_59 : decode cX8_fit 59 = .ok (.istore 5, 2) := by decide +kernel
theorem dX8_fit_61 : decode cX8_fit 61 = .ok (.iload 5, 2) := by decide +kernel
theorem dX8_fit_63 : decode cX8_fit 63 = .ok (.bipush 8, 2) := by decide +kernel
theorem dX8_fit_65 : decode cX8_fit 65 = .ok (.iload_n 2, 1) := by decide +kernel
theorem dX8_fit_66 : decode cX8_fit 66 = .ok (.imul, 1) := by decide +kernel
theorem dX8_fit_67 : decode cX8_fit 67 = .ok (.bipush 8, 2) := by decide +kernel
theorem dX8_fit_69 : decode cX8_fit 69 = .ok (.iadd, 1) := by decide +kernel
theorem dX8_fit_70 : decode cX8_fit 70 = .ok (.if_icmp .ge 84, 3) := by decide +kernel
theorem dX8_fit_73 : decode cX8_fit 73 = .ok (.bipush 24, 2) := by decide +kernel
theorem dX8_fit_75 : decode cX8_fit 75 = .ok (.iload_n 1, 1) := by decide +kernel
theorem dX8_fit_76 : decode cX8_fit 76 = .ok (.imul, 1) := by decide +kernel
theorem dX8_fit_77 : decode cX8_fit 77 = .ok (.iload 5, 2) := by decide +kernel
theorem dX8_fit_79 : decode cX8_fit 79 = .ok (.iadd, 1) := by decide +kernel
theorem dX8_fit_80 : decode cX8_fit 80 = .ok (.istore 6, 2) := by decide +kernel
theorem dX8_fit_82 : decode cX8_fit 82 = .ok (.iload 4, 2) := by decide +kernel
theorem dX8_fit_84 : decode cX8_fit 84 = .ok (.aload_n 0, 1) := by decide +kernel
theorem dX8_fit_85 : decode cX8_fit 85 = .ok (.getfield 46, 3) := by decide +kernel
theorem dX8_fit_88 : decode cX8_fit 88 = .ok (.iload 6, 2) := by decide +kernel
theorem dX8_fit_90 : decode cX8_fit 90 = .ok (.baload, 1) := by decide +kernel
theorem dX8_fit_91 : decode cX8_fit 91 = .ok (.ifCond .eq 53, 3) := by decide +kernel
theorem dX8_fit_94 : decode cX8_fit 94 = .ok (.aload_n 0, 1) := by decide +kernel
theorem dX8_fit_95 : decode cX8_fit 95 = .ok (.getfield 50, 3) := by decide +kernel
theorem dX8_fit_98 : decode cX8_fit 98 = .ok (.iload 6, 2) := by decide +kernel
theorem dX8_fit_100 : decode cX8_fit 100 = .ok (.iaload, 1) := by decide +kernel
theorem dX8_fit_101 : decode cX8_fit 101 = .ok (.aload_n 0, 1) := by decide +kernel
theorem dX8_fit_102 : decode cX8_fit 102 = .ok (.getfield 7, 3) := by decide +kernel
theorem dX8_fit_105 : decode cX8_fit 105 = .ok (.iload 5, 2) := by decide +kernel
theorem dX8_fit_107 : decode cX8_fit 107 = .ok (.iaload, 1) := by decide +kernel
theorem dX8_fit_108 : decode cX8_fit 108 = .ok (.isub, 1) := by decide +kernel
theorem dX8_fit_109 : decode cX8_fit 109 = .ok (.aload_n 0, 1) := by decide +kernel
theorem dX8_fit_110 : decode cX8_fit 110 = .ok (.getfield 162, 3) := by decide +kernel
theorem dX8_fit_113 : decode cX8_fit 113 = .ok (.isub, 1) := by decide +kernel
theorem dX8_fit_114 : decode cX8_fit 114 = .ok (.invokestatic 172, 3) := by decide +kernel
theorem dX8_fit_117 : decode cX8_fit 117 = .ok (.aload_n 0, 1) := by decide +kernel
theorem dX8_fit_118 : decode cX8_fit 118 = .ok (.getfield 53, 3) := by decide +kernel
theorem dX8_fit_121 : decode cX8_fit 121 = .ok (.iload 6, 2) := by decide +kernel
theorem dX8_fit_123 : decode cX8_fit 123 = .ok (.iaload, 1) := by decide +kernel
theorem dX8_fit_124 : decode cX8_fit 124 = .ok (.aload_n 0, 1) := by decide +kernel
theorem dX8_fit_125 : decode cX8_fit 125 = .ok (.getfield 13, 3) := by decide +kernel
theorem dX8_fit_128 : decode cX8_fit 128 = .ok (.iload 5, 2) := by decide +kernel
theorem dX8_fit_130 : decode cX8_fit 130 = .ok (.iaload, 1) := by decide +kernel
theorem dX8_fit_131 : decode cX8_fit 131 = .ok (.isub, 1) := by decide +kernel
theorem dX8_fit_132 : decode cX8_fit 132 = .ok (.aload_n 0, 1) := by decide +kernel
theorem dX8_fit_133 : decode cX8_fit 133 = .ok (.getfield 165, 3) := by decide +kernel
theorem dX8_fit_136 : decode cX8_fit 136 = .ok (.isub, 1) := by decide +kernel
theorem dX8_fit_137 : decode cX8_fit 137 = .ok (.invokestatic 172, 3) := by decide +kernel
theorem dX8_fit_140 : decode cX8_fit 140 = .ok (.iadd, 1) := by decide +kernel
theorem dX8_fit_141 : decode cX8_fit 141 = .ok (.goto 4, 3) := by decide +kernel
theorem dX8_fit_144 : decode cX8_fit 144 = .ok (.iconst 0, 1) := by decide +kernel
theorem dX8_fit_145 : decode cX8_fit 145 = .ok (.iadd, 1) := by decide +kernel
theorem dX8_fit_146 : decode cX8_fit 146 = .ok (.istore 4, 2) := by decide +kernel
theorem dX8_fit_148 : decode cX8_fit 148 = .ok (.iinc 5 1, 3) := by decide +kernel
theorem dX8_fit_151 : decode cX8_fit 151 = .ok (.goto (-90), 3) := by decide +kernel
theorem dX8_fit_154 : decode cX8_fit 154 = .ok (.iload_n 3, 1) := by decide +kernel
theorem dX8_fit_155 : decode cX8_fit 155 = .ok (.ifCond .ne 10, 3) := by decide +kernel
theorem dX8_fit_158 : decode cX8_fit 158 = .ok (.aload_n 0, 1) := by decide +kernel
theorem dX8_fit_159 : decode cX8_fit 159 = .ok (.getfield 162, 3) := by decide +kernel
theorem dX8_fit_162 : decode cX8_fit 162 = .ok (.goto 17, 3) := by decide +kernel
theorem dX8_fit_165 : decode cX8_fit 165 = .ok (.iload_n 3, 1) := by decide +kernel
theorem dX8_fit_166 : decode cX8_fit 166 = .ok (.iconst 1, 1) := by decide +kernel
theorem dX8_fit_167 : decode cX8_fit 167 = .ok (.if_icmp .ne 10, 3) := by decide +kernel
theorem dX8_fit_170 : decode cX8_fit 170 = .ok (.aload_n 0, 1) := by decide +kernel
theorem dX8_fit_171 : decode cX8_fit 171 = .ok (.getfield 165, 3) := by decide +kernel
theorem dX8_fit_174 : decode cX8_fit 174 = .ok (.goto 5, 3) := by decide +kernel
theorem dX8_fit_177 : decode cX8_fit 177 = .ok (.iload 4, 2) := by decide +kernel
theorem dX8_fit_179 : decode cX8_fit 179 = .ok (.ireturn, 1) := by decide +kernel
theorem dX8_sharedBy_0 : decode cX8_sharedBy 0 = .ok (.iconst 0, 1) := by decide +kernel
theorem dX8_sharedBy_1 : decode cX8_sharedBy 1 = .ok (.istore 4, 2) := by decide +kernel
theorem dX8_sharedBy_3 : decode cX8_sharedBy 3 = .ok (.bipush 8, 2) := by decide +kernel
theorem dX8_sharedBy_5 : decode cX8_sharedBy 5 = .ok (.iload_n 3, 1) := by decide +kernel
theorem dX8_sharedBy_6 : decode cX8_sharedBy 6 = .ok (.imul, 1) := by decide +kernel
theorem dX8_sharedBy_7 : decode cX8_sharedBy 7 = .ok (.istore 5, 2) := by decide +kernel
theorem dX8_sharedBy_9 : decode cX8_sharedBy 9 = .ok (.iload 5, 2) := by decide +kernel
theorem dX8_sharedBy_11 : decode cX8_sharedBy 11 = .ok (.bipush 8, 2) := by decide +kernel
theorem dX8_sharedBy_13 : decode cX8_sharedBy 13 = .ok (.iload_n 3, 1) := by decide +kernel
theorem dX8_sharedBy_14 : decode cX8_sharedBy 14 = .ok (.imul, 1) := by decide +kernel
theorem dX8_sharedBy_15 : decode cX8_sharedBy 15 = .ok (.bipush 8, 2) := by decide +kernel
theorem dX8_sharedBy_17 : decode cX8_sharedBy 17 = .ok (.iadd, 1) := by decide +kernel
theorem dX8_sharedBy_18 : decode cX8_sharedBy 18 = .ok (.if_icmp .ge 181, 3) := by decide +kernel
theorem dX8_sharedBy_21 : decode cX8_sharedBy 21 = .ok (.bipush 24, 2) := by decide +kernel
theorem dX8_sharedBy_23 : decode cX8_sharedBy 23 = .ok (.iload_n 1, 1) := by decide +kernel
theorem dX8_sharedBy_24 : decode cX8_sharedBy 24 = .ok (.imul, 1) := by decide +kernel
theorem dX8_sharedBy_25 : decode cX8_sharedBy 25 = .ok (.iload 5, 2) := by decide +kernel
theorem dX8_sharedBy_27 : decode cX8_sharedBy 27 = .ok (.iadd, 1) := by decide +kernel
theorem dX8_sharedBy_28 : decode cX8_sharedBy 28 = .ok (.istore 6, 2) := by decide +kernel
theorem dX8_sharedBy_30 : decode cX8_sharedBy 30 = .ok (.bipush 24, 2) := by decide +kernel
theorem dX8_sharedBy_32 : decode cX8_sharedBy 32 = .ok (.iload_n 2, 1) := by decide +kernel
theorem dX8_sharedBy_33 : decode cX8_sharedBy 33 = .ok (.imul, 1) := by decide +kernel
theorem dX8_sharedBy_34 : decode cX8_sharedBy 34 = .ok (.iload 5, 2) := by decide +kernel
theorem dX8_sharedBy_36 : decode cX8_sharedBy 36 = .ok (.iadd, 1) := by decide +kernel
theorem dX8_sharedBy_37 : decode cX8_sharedBy 37 = .ok (.istore 7, 2) := by decide +kernel
theorem dX8_sharedBy_39 : decode cX8_sharedBy 39 = .ok (.aload_n 0, 1) := by decide +kernel
theorem dX8_sharedBy_40 : decode cX8_sharedBy 40 = .ok (.getfield 46, 3) := by decide +kernel
theorem dX8_sharedBy_43 : decode cX8_sharedBy 43 = .ok (.iload 6, 2) := by decide +kernel
theorem dX8_sharedBy_45 : decode cX8_sharedBy 45 = .ok (.baload, 1) := by decide +kernel
theorem dX8_sharedBy_46 : decode cX8_sharedBy 46 = .ok (.ifCond .eq 51, 3) := by decide +kernel
theorem dX8_sharedBy_49 : decode cX8_sharedBy 49 = .ok (.aload_n 0, 1) := by decide +kernel
theorem dX8_sharedBy_50 : decode cX8_sharedBy 50 = .ok (.getfield 46, 3) := by decide +kernel
theorem dX8_sharedBy_53 : decode cX8_sharedBy 53 = .ok (.iload 7, 2) := by decide +kernel
theorem dX8_sharedBy_55 : decode cX8_sharedBy 55 = .ok (.baload, 1) := by decide +kernel
theorem dX8_sharedBy_56 : decode cX8_sharedBy 56 = .ok (.ifCond .eq 41, 3) := by decide +kernel
theorem dX8_sharedBy_59 : decode cX8_sharedBy 59 = .ok (.aload_n 0, 1) := by decide +kernel
theorem dX8_sharedBy_60 : decode cX8_sharedBy 60 = .ok (.getfield 50, 3) := by decide +kernel
theorem dX8_sharedBy_63 : decode cX8_sharedBy 63 = .ok (.iload 6, 2) := by decide +kernel
theorem dX8_sharedBy_65 : decode cX8_sharedBy 65 = .ok (.iaload, 1) := by decide +kernel
theorem dX8_sharedBy_66 : decode cX8_sharedBy 66 = .ok (.aload_n 0, 1) := by decide +kernel
theorem dX8_sharedBy_67 : decode cX8_sharedBy 67 = .ok (.getfield 50, 3) := by decide +kernel
theorem dX8_sharedBy_70 : decode cX8_sharedBy 70 = .ok (.iload 7, 2) := by decide +kernel
theorem dX8_sharedBy_72 : decode cX8_sharedBy 72 = .ok (.iaload, 1) := by decide +kernel
theorem dX8_sharedBy_73 : decode cX8_sharedBy 73 = .ok (.if_icmp .ne 24, 3) := by decide +kernel
theorem dX8_sharedBy_76 : decode cX8_sharedBy 76 = .ok (.aload_n 0, 1) := by decide +kernel
theorem dX8_sharedBy_77 : decode cX8_sharedBy 77 = .ok (.getfield 53, 3) := by decide +kernel
theorem dX8_sharedBy_80 : decode cX8_sharedBy 80 = .ok (.iload 6, 2) := by decide +kernel
theorem dX8_sharedBy_82 : decode cX8_sharedBy 82 = .ok (.iaload, 1) := by decide +kernel
theorem dX8_sharedBy_83 : decode cX8_sharedBy 83 = .ok (.aload_n 0, 1) := by decide +kernel
theorem dX8_sharedBy_84 : decode cX8_sharedBy 84 = .ok (.getfield 53, 3) := by decide +kernel
theorem dX8_sharedBy_87 : decode cX8_sharedBy 87 = .ok (.iload 7, 2) := by decide +kernel
theorem dX8_sharedBy_89 : decode cX8_sharedBy 89 = .ok (.iaload, 1) := by decide +kernel
theorem dX8_sharedBy_90 : decode cX8_sharedBy 90 = .ok (.if_icmp .ne 7, 3) := by decide +kernel
theorem dX8_sharedBy_93 : decode cX8_sharedBy 93 = .ok (.iconst 1, 1) := by decide +kernel
theorem dX8_sharedBy_94 : decode cX8_sharedBy 94 = .ok (.goto 4, 3) := by decide +kernel
theorem dX8_sharedBy_97 : decode cX8_sharedBy 97 = .ok (.iconst 0, 1) := by decide +kernel
theorem dX8_sharedBy_98 : decode cX8_sharedBy 98 = .ok (.istore 8, 2) := by decide +kernel
theorem dX8_sharedBy_100 : decode cX8_sharedBy 100 = .ok (.iload 4, 2) := by decide +kernel
theorem dX8_sharedBy_102 : decode cX8_sharedBy 102 = .ok (.iload 8, 2) := by decide +kernel
theorem dX8_sharedBy_104 : decode cX8_sharedBy 104 = .ok (.ifCond .eq 41, 3) := by decide +kernel
theorem dX8_sharedBy_107 : decode cX8_sharedBy 107 = .ok (.aload_n 0, 1) := by decide +kernel
theorem dX8_sharedBy_108 : decode cX8_sharedBy 108 = .ok (.getfield 50, 3) := by decide +kernel
theorem dX8_sharedBy_111 : decode cX8_sharedBy 111 = .ok (.iload 6, 2) := by decide +kernel
theorem dX8_sharedBy_113 : decode cX8_sharedBy 113 = .ok (.iaload, 1) := by decide +kernel
theorem dX8_sharedBy_114 : decode cX8_sharedBy 114 = .ok (.aload_n 0, 1) := by decide +kernel
theorem dX8_sharedBy_115 : decode cX8_sharedBy 115 = .ok (.getfield 7, 3) := by decide +kernel
theorem dX8_sharedBy_118 : decode cX8_sharedBy 118 = .ok (.iload 5, 2) := by decide +kernel
theorem dX8_sharedBy_120 : decode cX8_sharedBy 120 = .ok (.iaload, 1) := by decide +kernel
theorem dX8_sharedBy_121 : decode cX8_sharedBy 121 = .ok (.if_icmp .ne 20, 3) := by decide +kernel
theorem dX8_sharedBy_124 : decode cX8_sharedBy 124 = .ok (.aload_n 0, 1) := by decide +kernel
theorem dX8_sharedBy_125 : decode cX8_sharedBy 125 = .ok (.getfield 53, 3) := by decide +kernel
theorem dX8_sharedBy_128 : decode cX8_sharedBy 128 = .ok (.iload 6, 2) := by decide +kernel
theorem dX8_sharedBy_130 : decode cX8_sharedBy 130 = .ok (.iaload, 1) := by decide +kernel
theorem dX8_sharedBy_131 : decode cX8_sharedBy 131 = .ok (.aload_n 0, 1) := by decide +kernel
theorem dX8_sharedBy_132 : decode cX8_sharedBy 132 = .ok (.getfield 13, 3) := by decide +kernel
theorem dX8_sharedBy_135 : decode cX8_sharedBy 135 = .ok (.iload 5, 2) := by decide +kernel
theorem dX8_sharedBy_137 : decode cX8_sharedBy 137 = .ok (.iaload, 1) := by decide +kernel
theorem dX8_sharedBy_138 : decode cX8_sharedBy 138 = .ok (.if_icmp .eq 7, 3) := by decide +kernel
theorem dX8_sharedBy_141 : decode cX8_sharedBy 141 = .ok (.iconst 1, 1) := by decide +kernel
theorem dX8_sharedBy_142 : decode cX8_sharedBy 142 = .ok (.goto 4, 3) := by decide +kernel
theorem dX8_sharedBy_145 : decode cX8_sharedBy 145 = .ok (.iconst 0, 1) := by decide +kernel
theorem dX8_sharedBy_146 : decode cX8_sharedBy 146 = .ok (.iadd, 1) := by decide +kernel
theorem dX8_sharedBy_147 : decode cX8_sharedBy 147 = .ok (.istore 4, 2) := by decide +kernel
theorem dX8_sharedBy_149 : decode cX8_sharedBy 149 = .ok (.iload 4, 2) := by decide +kernel
theorem dX8_sharedBy_151 : decode cX8_sharedBy 151 = .ok (.aload_n 0, 1) := by decide +kernel
theorem dX8_sharedBy_152 : decode cX8_sharedBy 152 = .ok (.getfield 56, 3) := by decide +kernel
theorem dX8_sharedBy_155 : decode cX8_sharedBy 155 = .ok (.iload 6, 2) := by decide +kernel
theorem dX8_sharedBy_157 : decode cX8_sharedBy 157 = .ok (.iaload, 1) := by decide +kernel
theorem dX8_sharedBy_158 : decode cX8_sharedBy 158 = .ok (.aload_n 0, 1) := by decide +kernel
theorem dX8_sharedBy_159 : decode cX8_sharedBy 159 = .ok (.getfield 56, 3) := by decide +kernel
theorem dX8_sharedBy_162 : decode cX8_sharedBy 162 = .ok (.iload 7, 2) := by decide +kernel
theorem dX8_sharedBy_164 : decode cX8_sharedBy 164 = .ok (.iaload, 1) := by decide +kernel
theorem dX8_sharedBy_165 : decode cX8_sharedBy 165 = .ok (.if_icmp .ne 24, 3) := by decide +kernel
theorem dX8_sharedBy_168 : decode cX8_sharedBy 168 = .ok (.aload_n 0, 1) := by decide +kernel
theorem dX8_sharedBy_169 : decode cX8_sharedBy 169 = .ok (.getfield 56, 3) := by decide +kernel
theorem dX8_sharedBy_172 : decode cX8_sharedBy 172 = .ok (.iload 6, 2) := by decide +kernel
theorem dX8_sharedBy_174 : decode cX8_sharedBy 174 = .ok (.iaload, 1) := by decide +kernel
theorem dX8_sharedBy_175 : decode cX8_sharedBy 175 = .ok (.aload_n 0, 1) := by decide +kernel
theorem dX8_sharedBy_176 : decode cX8_sharedBy 176 = .ok (.getfield 16, 3) := by decide +kernel
theorem dX8_sharedBy_179 : decode cX8_sharedBy 179 = .ok (.iload 5, 2) := by decide +kernel
theorem dX8_sharedBy_181 : decode cX8_sharedBy 181 = .ok (.iaload, 1) := by decide +kernel
theorem dX8_sharedBy_182 : decode cX8_sharedBy 182 = .ok (.if_icmp .eq 7, 3) := by decide +kernel
theorem dX8_sharedBy_185 : decode cX8_sharedBy 185 = .ok (.iconst 1, 1) := by decide +kernel
theorem dX8_sharedBy_186 : decode cX8_sharedBy 186 = .ok (.goto 4, 3) := by decide +kernel
theorem dX8_sharedBy_189 : decode cX8_sharedBy 189 = .ok (.iconst 0, 1) := by decide +kernel
theorem dX8_sharedBy_190 : decode cX8_sharedBy 190 = .ok (.iadd, 1) := by decide +kernel
theorem dX8_sharedBy_191 : decode cX8_sharedBy 191 = .ok (.istore 4, 2) := by decide +kernel
theorem dX8_sharedBy_193 : decode cX8_sharedBy 193 = .ok (.iinc 5 1, 3) := by decide +kernel
theorem dX8_sharedBy_196 : decode cX8_sharedBy 196 = .ok (.goto (-187), 3) := by decide +kernel
theorem dX8_sharedBy_199 : decode cX8_sharedBy 199 = .ok (.iconst 0, 1) := by decide +kernel
theorem dX8_sharedBy_200 : decode cX8_sharedBy 200 = .ok (.istore 5, 2) := by decide +kernel
theorem dX8_sharedBy_202 : decode cX8_sharedBy 202 = .ok (.iload 5, 2) := by decide +kernel
theorem dX8_sharedBy_204 : decode cX8_sharedBy 204 = .ok (.aload_n 0, 1) := by decide +kernel
theorem dX8_sharedBy_205 : decode cX8_sharedBy 205 = .ok (.getfield 103, 3) := by decide +kernel
theorem dX8_sharedBy_208 : decode cX8_sharedBy 208 = .ok (.if_icmp .ge 49, 3) := by decide +kernel
theorem dX8_sharedBy_211 : decode cX8_sharedBy 211 = .ok (.iload 4, 2) := by decide +kernel
theorem dX8_sharedBy_213 : decode cX8_sharedBy 213 = .ok (.aload_n 0, 1) := by decide +kernel
theorem dX8_sharedBy_214 : decode cX8_sharedBy 214 = .ok (.getfield 77, 3) := by decide +kernel
theorem dX8_sharedBy_217 : decode cX8_sharedBy 217 = .ok (.bipush 20, 2) := by decide +kernel
theorem dX8_sharedBy_219 : decode cX8_sharedBy 219 = .ok (.iload_n 1, 1) := by decide +kernel
theorem dX8_sharedBy_220 : decode cX8_sharedBy 220 = .ok (.imul, 1) := by decide +kernel
theorem dX8_sharedBy_221 : decode cX8_sharedBy 221 = .ok (.iload 5, 2) := by decide +kernel
theorem dX8_sharedBy_223 : decode cX8_sharedBy 223 = .ok (.iadd, 1) := by decide +kernel
theorem dX8_sharedBy_224 : decode cX8_sharedBy 224 = .ok (.baload, 1) := by decide +kernel
theorem dX8_sharedBy_225 : decode cX8_sharedBy 225 = .ok (.ifCond .eq 22, 3) := by decide +kernel
theorem dX8_sharedBy_228 : decode cX8_sharedBy 228 = .ok (.aload_n 0, 1) := by decide +kernel
theorem dX8_sharedBy_229 : decode cX8_sharedBy 229 = .ok (.getfield 77, 3) := by decide +kernel
theorem dX8_sharedBy_232 : decode cX8_sharedBy 232 = .ok (.bipush 20, 2) := by decide +kernel
theorem dX8_sharedBy_234 : decode cX8_sharedBy 234 = .ok (.iload_n 2, 1) := by decide +kernel
theorem dX8_sharedBy_235 : decode cX8_sharedBy 235 = .ok (.imul, 1) := by decide +kernel
theorem dX8_sharedBy_236 : decode cX8_sharedBy 236 = .ok (.iload 5, 2) := by decide +kernel
theorem dX8_sharedBy_238 : decode cX8_sharedBy 238 = .ok (.iadd, 1) := by decide +kernel
theorem dX8_sharedBy_239 : decode cX8_sharedBy 239 = .ok (.baload, 1) := by decide +kernel
theorem dX8_sharedBy_240 : decode cX8_sharedBy 240 = .ok (.ifCond .eq 7, 3) := by decide +kernel
theorem dX8_sharedBy_243 : decode cX8_sharedBy 243 = .ok (.iconst 1, 1) := by decide +kernel
theorem dX8_sharedBy_244 : decode cX8_sharedBy 244 = .ok (.goto 4, 3) := by decide +kernel
theorem dX8_sharedBy_247 : decode cX8_sharedBy 247 = .ok (.iconst 0, 1) := by decide +kernel
theorem dX8_sharedBy_248 : decode cX8_sharedBy 248 = .ok (.iadd, 1) := by decide +kernel
theorem dX8_sharedBy_249 : decode cX8_sharedBy 249 = .ok (.istore 4, 2) := by decide +kernel
theorem dX8_sharedBy_251 : decode cX8_sharedBy 251 = .ok (.iinc 5 1, 3) := by decide +kernel
theorem dX8_sharedBy_254 : decode cX8_sharedBy 254 = .ok (.goto (-52), 3) := by decide +kernel
theorem dX8_sharedBy_257 : decode cX8_sharedBy 257 = .ok (.iload 4, 2) := by decide +kernel
theorem dX8_sharedBy_259 : decode cX8_sharedBy 259 = .ok (.ireturn, 1) := by decide +kernel
theorem dX8_shared_0 : decode cX8_shared 0 = .ok (.aload_n 0, 1) := by decide +kernel
theorem dX8_shared_1 : decode cX8_shared 1 = .ok (.aload_n 0, 1) := by decide +kernel
theorem dX8_shared_2 : decode cX8_shared 2 = .ok (.iload_n 1, 1) := by decide +kernel
theorem dX8_shared_3 : decode cX8_shared 3 = .ok (.invokevirtual 136, 3) := by decide +kernel
theorem dX8_shared_6 : decode cX8_shared 6 = .ok (.ifCond .eq 22, 3) := by decide +kernel
theorem dX8_shared_9 : decode cX8_shared 9 = .ok (.aload_n 0, 1) := by decide +kernel
theorem dX8_shared_10 : decode cX8_shared 10 = .ok (.iload_n 2, 1) := by decide +kernel
theorem dX8_shared_11 : decode cX8_shared 11 = .ok (.invokevirtual 136, 3) := by decide +kernel
theorem dX8_shared_14 : decode cX8_shared 14 = .ok (.ifCond .eq 14, 3) := by decide +kernel
theorem dX8_shared_17 : decode cX8_shared 17 = .ok (.iload_n 3, 1) := by decide +kernel
theorem dX8_shared_18 : decode cX8_shared 18 = .ok (.invokestatic 152, 3) := by decide +kernel
theorem dX8_shared_21 : decode cX8_shared 21 = .ok (.ifCond .eq 7, 3) := by decide +kernel
theorem dX8_shared_24 : decode cX8_shared 24 = .ok (.iconst 0, 1) := by decide +kernel
theorem dX8_shared_25 : decode cX8_shared 25 = .ok (.goto 4, 3) := by decide +kernel
theorem dX8_shared_28 : decode cX8_shared 28 = .ok (.iconst 1, 1) := by decide +kernel
theorem dX8_shared_29 : decode cX8_shared 29 = .ok (.putfield 92, 3) := by decide +kernel
theorem dX8_shared_32 : decode cX8_shared 32 = .ok (.aload_n 0, 1) := by decide +kernel
theorem dX8_shared_33 : decode cX8_shared 33 = .ok (.getfield 92, 3) := by decide +kernel
theorem dX8_shared_36 : decode cX8_shared 36 = .ok (.ifCond .le 7, 3) := by decide +kernel
theorem dX8_shared_39 : decode cX8_shared 39 = .ok (.iconst 0, 1) := by decide +kernel
theorem dX8_shared_40 : decode cX8_shared 40 = .ok (.goto 10, 3) := by decide +kernel
theorem dX8_shared_43 : decode cX8_shared 43 = .ok (.aload_n 0, 1) := by decide +kernel
theorem dX8_shared_44 : decode cX8_shared 44 = .ok (.iload_n 1, 1) := by decide +kernel
theorem dX8_shared_45 : decode cX8_shared 45 = .ok (.iload_n 2, 1) := by decide +kernel
theorem dX8_shared_46 : decode cX8_shared 46 = .ok (.iload_n 3, 1) := by decide +kernel
theorem dX8_shared_47 : decode cX8_shared 47 = .ok (.invokevirtual 176, 3) := by decide +kernel
theorem dX8_shared_50 : decode cX8_shared 50 = .ok (.ireturn, 1) := by decide +kernel
theorem dX8_kin_0 : decode cX8_kin 0 = .ok (.aload_n 0, 1) := by decide +kernel
theorem dX8_kin_1 : decode cX8_kin 1 = .ok (.aload_n 0, 1) := by decide +kernel
theorem dX8_kin_2 : decode cX8_kin 2 = .ok (.iload_n 1, 1) := by decide +kernel
theorem dX8_kin_3 : decode cX8_kin 3 = .ok (.invokevirtual 136, 3) := by decide +kernel
theorem dX8_kin_6 : decode cX8_kin 6 = .ok (.ifCond .eq 14, 3) := by decide +kernel
theorem dX8_kin_9 : decode cX8_kin 9 = .ok (.iload_n 2, 1) := by decide +kernel
theorem dX8_kin_10 : decode cX8_kin 10 = .ok (.invokestatic 152, 3) := by decide +kernel
theorem dX8_kin_13 : decode cX8_kin 13 = .ok (.ifCond .eq 7, 3) := by decide +kernel
theorem dX8_kin_16 : decode cX8_kin 16 = .ok (.iconst 0, 1) := by decide +kernel
theorem dX8_kin_17 : decode cX8_kin 17 = .ok (.goto 4, 3) := by decide +kernel
theorem dX8_kin_20 : decode cX8_kin 20 = .ok (.iconst 1, 1) := by decide +kernel
theorem dX8_kin_21 : decode cX8_kin 21 = .ok (.putfield 92, 3) := by decide +kernel
theorem dX8_kin_24 : decode cX8_kin 24 = .ok (.iconst (-1), 1) := by decide +kernel
theorem dX8_kin_25 : decode cX8_kin 25 = .ok (.istore_n 3, 1) := by decide +kernel
theorem dX8_kin_26 : decode cX8_kin 26 = .ok (.iconst 0, 1) := by decide +kernel
theorem dX8_kin_27 : decode cX8_kin 27 = .ok (.istore 4, 2) := by decide +kernel
theorem dX8_kin_29 : decode cX8_kin 29 = .ok (.iconst 0, 1) := by decide +kernel
theorem dX8_kin_30 : decode cX8_kin 30 = .ok (.istore 5, 2) := by decide +kernel
theorem dX8_kin_32 : decode cX8_kin 32 = .ok (.iload 5, 2) := by decide +kernel
theorem dX8_kin_34 : decode cX8_kin 34 = .ok (.iload_n 1, 1) := by decide +kernel
theorem dX8_kin_35 : decode cX8_kin 35 = .ok (.if_icmp .ge 56, 3) := by decide +kernel
theorem dX8_kin_38 : decode cX8_kin 38 = .ok (.aload_n 0, 1) := by decide +kernel
theorem dX8_kin_39 : decode cX8_kin 39 = .ok (.getfield 92, 3) := by decide +kernel
theorem dX8_kin_42 : decode cX8_kin 42 = .ok (.ifCond .ne 49, 3) := by decide +kernel
theorem dX8_kin_45 : decode cX8_kin 45 = .ok (.aload_n 0, 1) := by decide +kernel
theorem dX8_kin_46 : decode cX8_kin 46 = .ok (.iload_n 1, 1) := by decide +kernel
theorem dX8_kin_47 : decode cX8_kin 47 = .ok (.iload 5, 2) := by decide +kernel
theorem dX8_kin_49 : decode cX8_kin 49 = .ok (.iload_n 2, 1) := by decide +kernel
theorem dX8_kin_50 : decode cX8_kin 50 = .ok (.invokevirtual 176, 3) := by decide +kernel
theorem dX8_kin_53 : decode cX8_kin 53 = .ok (.istore 6, 2) := by decide +kernel
theorem dX8_kin_55 : decode cX8_kin 55 = .ok (.iload 6, 2) := by decide +kernel
theorem dX8_kin_57 : decode cX8_kin 57 = .ok (.iload 4, 2) := by decide +kernel
theorem dX8_kin_59 : decode cX8_kin 59 = .ok (.if_icmp .le 8, 3) := by decide +kernel
theorem dX8_kin_62 : decode cX8_kin 62 = .ok (.iload 5, 2) := by decide +kernel
theorem dX8_kin_64 : decode cX8_kin 64 = .ok (.goto 4, 3) := by decide +kernel
theorem dX8_kin_67 : decode cX8_kin 67 = .ok (.iload_n 3, 1) := by decide +kernel
theorem dX8_kin_68 : decode cX8_kin 68 = .ok (.istore_n 3, 1) := by decide +kernel
theorem dX8_kin_69 : decode cX8_kin 69 = .ok (.iload 6, 2) := by decide +kernel
theorem dX8_kin_71 : decode cX8_kin 71 = .ok (.iload 4, 2) := by decide +kernel
theorem dX8_kin_73 : decode cX8_kin 73 = .ok (.if_icmp .le 8, 3) := by decide +kernel
theorem dX8_kin_76 : decode cX8_kin 76 = .ok (.iload 6, 2) := by decide +kernel
theorem dX8_kin_78 : decode cX8_kin 78 = .ok (.goto 5, 3) := by decide +kernel
theorem dX8_kin_81 : decode cX8_kin 81 = .ok (.iload 4, 2) := by decide +kernel
theorem dX8_kin_83 : decode cX8_kin 83 = .ok (.istore 4, 2) := by decide +kernel
theorem dX8_kin_85 : decode cX8_kin 85 = .ok (.iinc 5 1, 3) := by decide +kernel
theorem dX8_kin_88 : decode cX8_kin 88 = .ok (.goto (-56), 3) := by decide +kernel
theorem dX8_kin_91 : decode cX8_kin 91 = .ok (.aload_n 0, 1) := by decide +kernel
theorem dX8_kin_92 : decode cX8_kin 92 = .ok (.getfield 92, 3) := by decide +kernel
theorem dX8_kin_95 : decode cX8_kin 95 = .ok (.ifCond .le 7, 3) := by decide +kernel
theorem dX8_kin_98 : decode cX8_kin 98 = .ok (.iconst 0, 1) := by decide +kernel
theorem dX8_kin_99 : decode cX8_kin 99 = .ok (.goto 4, 3) := by decide +kernel
theorem dX8_kin_102 : decode cX8_kin 102 = .ok (.iload_n 3, 1) := by decide +kernel
theorem dX8_kin_103 : decode cX8_kin 103 = .ok (.ireturn, 1) := by decide +kernel
theorem dX8_date_0 : decode cX8_date 0 = .ok (.aload_n 0, 1) := by decide +kernel
theorem dX8_date_1 : decode cX8_date 1 = .ok (.aload_n 0, 1) := by decide +kernel
theorem dX8_date_2 : decode cX8_date 2 = .ok (.iload_n 1, 1) := by decide +kernel
theorem dX8_date_3 : decode cX8_date 3 = .ok (.invokevirtual 136, 3) := by decide +kernel
theorem dX8_date_6 : decode cX8_date 6 = .ok (.ifCond .eq 14, 3) := by decide +kernel
theorem dX8_date_9 : decode cX8_date 9 = .ok (.iload_n 2, 1) := by decide +kernel
theorem dX8_date_10 : decode cX8_date 10 = .ok (.invokestatic 152, 3) := by decide +kernel
theorem dX8_date_13 : decode cX8_date 13 = .ok (.ifCond .eq 7, 3) := by decide +kernel
theorem dX8_date_16 : decode cX8_date 16 = .ok (.iconst 0, 1) := by decide +kernel
theorem dX8_date_17 : decode cX8_date 17 = .ok (.goto 4, 3) := by decide +kernel
theorem dX8_date_20 : decode cX8_date 20 = .ok (.iconst 1, 1) := by decide +kernel
theorem dX8_date_21 : decode cX8_date 21 = .ok (.putfield 92, 3) := by decide +kernel
theorem dX8_date_24 : decode cX8_date 24 = .ok (.iconst (-1), 1) := by decide +kernel
theorem dX8_date_25 : decode cX8_date 25 = .ok (.istore_n 3, 1) := by decide +kernel
theorem dX8_date_26 : decode cX8_date 26 = .ok (.bipush 8, 2) := by decide +kernel
theorem dX8_date_28 : decode cX8_date 28 = .ok (.iload_n 2, 1) := by decide +kernel
theorem dX8_date_29 : decode cX8_date 29 = .ok (.imul, 1) := by decide +kernel
theorem dX8_date_30 : decode cX8_date 30 = .ok (.istore 4, 2) := by decide +kernel
theorem dX8_date_32 : decode cX8_date 32 = .ok (.iload 4, 2) := by decide +kernel
theorem dX8_date_34 : decode cX8_date 34 = .ok (.bipush 8, 2) := by decide +kernel
theorem dX8_date_36 : decode cX8_date 36 = .ok (.iload_n 2, 1) := by decide +kernel
theorem dX8_date_37 : decode cX8_date 37 = .ok (.imul, 1) := by decide +kernel
theorem dX8_date_38 : decode cX8_date 38 = .ok (.bipush 8, 2) := by decide +kernel
theorem dX8_date_40 : decode cX8_date 40 = .ok (.iadd, 1) := by decide +kernel
theorem dX8_date_41 : decode cX8_date 41 = .ok (.if_icmp .ge 73, 3) := by decide +kernel
theorem dX8_date_44 : decode cX8_date 44 = .ok (.aload_n 0, 1) := by decide +kernel
theorem dX8_date_45 : decode cX8_date 45 = .ok (.getfield 92, 3) := by decide +kernel
theorem dX8_date_48 : decode cX8_date 48 = .ok (.ifCond .ne 66, 3) := by decide +kernel
theorem dX8_date_51 : decode cX8_date 51 = .ok (.aload_n 0, 1) := by decide +kernel
theorem dX8_date_52 : decode cX8_date 52 = .ok (.getfield 56, 3) := by decide +kernel
theorem dX8_date_55 : decode cX8_date 55 = .ok (.bipush 24, 2) := by decide +kernel
theorem dX8_date_57 : decode cX8_date 57 = .ok (.iload_n 1, 1) := by decide +kernel
theorem dX8_date_58 : decode cX8_date 58 = .ok (.imul, 1) := by decide +kernel
theorem dX8_date_59 : decode cX8_date 59 = .ok (.iload 4, 2) := by decide +kernel
theorem dX8_date_61 : decode cX8_date 61 = .ok (.iadd, 1) := by decide +kernel
theorem dX8_date_62 : decode cX8_date 62 = .ok (.iaload, 1) := by decide +kernel
theorem dX8_date_63 : decode cX8_date 63 = .ok (.aload_n 0, 1) := by decide +kernel
theorem dX8_date_64 : decode cX8_date 64 = .ok (.getfield 16, 3) := by decide +kernel
theorem dX8_date_67 : decode cX8_date 67 = .ok (.iload 4, 2) := by decide +kernel
theorem dX8_date_69 : decode cX8_date 69 = .ok (.iaload, 1) := by decide +kernel
theorem dX8_date_70 : decode cX8_date 70 = .ok (.if_icmp .ne 7, 3) := by decide +kernel
theorem dX8_date_73 : decode cX8_date 73 = .ok (.iconst 1, 1) := by decide +kernel
theorem dX8_date_74 : decode cX8_date 74 = .ok (.goto 4, 3) := by decide +kernel
theorem dX8_date_77 : decode cX8_date 77 = .ok (.iconst 0, 1) := by decide +kernel
theorem dX8_date_78 : decode cX8_date 78 = .ok (.istore 5, 2) := by decide +kernel
theorem dX8_date_80 : decode cX8_date 80 = .ok (.iload 5, 2) := by decide +kernel
theorem dX8_date_82 : decode cX8_date 82 = .ok (.ifCond .eq 24, 3) := by decide +kernel
theorem dX8_date_85 : decode cX8_date 85 = .ok (.aload_n 0, 1) := by decide +kernel
theorem dX8_date_86 : decode cX8_date 86 = .ok (.getfield 19, 3) := by decide +kernel
theorem dX8_date_89 : decode cX8_date 89 = .ok (.iload 4, 2) := by decide +kernel
theorem dX8_date_91 : decode cX8_date 91 = .ok (.iaload, 1) := by decide +kernel
theorem dX8_date_92 : decode cX8_date 92 = .ok (.iload_n 3, 1) := by decide +kernel
theorem dX8_date_93 : decode cX8_date 93 = .ok (.if_icmp .le 13, 3) := by decide +kernel
theorem dX8_date_96 : decode cX8_date 96 = .ok (.aload_n 0, 1) := by decide +kernel
theorem dX8_date_97 : decode cX8_date 97 = .ok (.getfield 19, 3) := by decide +kernel
theorem dX8_date_100 : decode cX8_date 100 = .ok (.iload 4, 2) := by decide +kernel
theorem dX8_date_102 : decode cX8_date 102 = .ok (.iaload, 1) := by decide +kernel
theorem dX8_date_103 : decode cX8_date 103 = .ok (.goto 4, 3) := by decide +kernel
theorem dX8_date_106 : decode cX8_date 106 = .ok (.iload_n 3, 1) := by decide +kernel
theorem dX8_date_107 : decode cX8_date 107 = .ok (.istore_n 3, 1) := by decide +kernel
theorem dX8_date_108 : decode cX8_date 108 = .ok (.iinc 4 1, 3) := by decide +kernel
theorem dX8_date_111 : decode cX8_date 111 = .ok (.goto (-79), 3) := by decide +kernel
theorem dX8_date_114 : decode cX8_date 114 = .ok (.aload_n 0, 1) := by decide +kernel
theorem dX8_date_115 : decode cX8_date 115 = .ok (.getfield 92, 3) := by decide +kernel
theorem dX8_date_118 : decode cX8_date 118 = .ok (.ifCond .le 7, 3) := by decide +kernel
theorem dX8_date_121 : decode cX8_date 121 = .ok (.iconst 0, 1) := by decide +kernel
theorem dX8_date_122 : decode cX8_date 122 = .ok (.goto 4, 3) := by decide +kernel
theorem dX8_date_125 : decode cX8_date 125 = .ok (.iload_n 3, 1) := by decide +kernel
theorem dX8_date_126 : decode cX8_date 126 = .ok (.ireturn, 1) := by decide +kernel
