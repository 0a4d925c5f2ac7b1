theorem dX11_init_0 : decode cX11_init 0 = .ok (.aload_n 0, 1) := by decide +kernel
theorem dX11_init_1 : decode cX11_init 1 = .ok (.invokespecial 3, 3) := by decide +kernel
theorem dX11_init_4 : decode cX11_init 4 = .ok (.aload_n 0, 1) := by decide +kernel
theorem dX11_init_5 : decode cX11_init 5 = .ok (.bipush 8, 2) := by decide +kernel
theorem dX11_init_7 : decode cX11_init 7 = .ok (.newarray .int, 2) := by decide +kernel
theorem dX11_init_9 : decode cX11_init 9 = .ok (.putfield 9, 3) := by decide +kernel
theorem dX11_init_12 : decode cX11_init 12 = .ok (.aload_n 0, 1) := by decide +kernel
theorem dX11_init_13 : decode cX11_init 13 = .ok (.bipush 8, 2) := by decide +kernel
theorem dX11_init_15 : decode cX11_init 15 = .ok (.newarray .int, 2) := by decide +kernel
theorem dX11_init_17 : decode cX11_init 17 = .ok (.putfield 13, 3) := by decide +kernel
theorem dX11_init_20 : decode cX11_init 20 = .ok (.aload_n 0, 1) := by decide +kernel
theorem dX11_init_21 : decode cX11_init 21 = .ok (.bipush 8, 2) := by decide +kernel
theorem dX11_init_23 : decode cX11_init 23 = .ok (.newarray .boolean, 2) := by decide +kernel
theorem dX11_init_25 : decode cX11_init 25 = .ok (.putfield 16, 3) := by decide +kernel
theorem dX11_init_28 : decode cX11_init 28 = .ok (.aload_n 0, 1) := by decide +kernel
theorem dX11_init_29 : decode cX11_init 29 = .ok (.bipush 8, 2) := by decide +kernel
theorem dX11_init_31 : decode cX11_init 31 = .ok (.newarray .int, 2) := by decide +kernel
theorem dX11_init_33 : decode cX11_init 33 = .ok (.putfield 20, 3) := by decide +kernel
theorem dX11_init_36 : decode cX11_init 36 = .ok (.aload_n 0, 1) := by decide +kernel
theorem dX11_init_37 : decode cX11_init 37 = .ok (.bipush 8, 2) := by decide +kernel
theorem dX11_init_39 : decode cX11_init 39 = .ok (.newarray .int, 2) := by decide +kernel
theorem dX11_init_41 : decode cX11_init 41 = .ok (.putfield 23, 3) := by decide +kernel
theorem dX11_init_44 : decode cX11_init 44 = .ok (.aload_n 0, 1) := by decide +kernel
theorem dX11_init_45 : decode cX11_init 45 = .ok (.bipush 64, 2) := by decide +kernel
theorem dX11_init_47 : decode cX11_init 47 = .ok (.newarray .int, 2) := by decide +kernel
theorem dX11_init_49 : decode cX11_init 49 = .ok (.putfield 26, 3) := by decide +kernel
theorem dX11_init_52 : decode cX11_init 52 = .ok (.aload_n 0, 1) := by decide +kernel
theorem dX11_init_53 : decode cX11_init 53 = .ok (.bipush 10, 2) := by decide +kernel
theorem dX11_init_55 : decode cX11_init 55 = .ok (.newarray .int, 2) := by decide +kernel
theorem dX11_init_57 : decode cX11_init 57 = .ok (.putfield 29, 3) := by decide +kernel
theorem dX11_init_60 : decode cX11_init 60 = .ok (.aload_n 0, 1) := by decide +kernel
theorem dX11_init_61 : decode cX11_init 61 = .ok (.bipush 10, 2) := by decide +kernel
theorem dX11_init_63 : decode cX11_init 63 = .ok (.newarray .int, 2) := by decide +kernel
theorem dX11_init_65 : decode cX11_init 65 = .ok (.putfield 32, 3) := by decide +kernel
theorem dX11_init_68 : decode cX11_init 68 = .ok (.aload_n 0, 1) := by decide +kernel
theorem dX11_init_69 : decode cX11_init 69 = .ok (.bipush 10, 2) := by decide +kernel
theorem dX11_init_71 : decode cX11_init 71 = .ok (.newarray .int, 2) := by decide +kernel
theorem dX11_init_73 : decode cX11_init 73 = .ok (.putfield 35, 3) := by decide +kernel
theorem dX11_init_76 : decode cX11_init 76 = .ok (.aload_n 0, 1) := by decide +kernel
theorem dX11_init_77 : decode cX11_init 77 = .ok (.bipush 10, 2) := by decide +kernel
theorem dX11_init_79 : decode cX11_init 79 = .ok (.newarray .int, 2) := by decide +kernel
theorem dX11_init_81 : decode cX11_init 81 = .ok (.putfield 38, 3) := by decide +kernel
theorem dX11_init_84 : decode cX11_init 84 = .ok (.aload_n 0, 1) := by decide +kernel
theorem dX11_init_85 : decode cX11_init 85 = .ok (.bipush 10, 2) := by decide +kernel
theorem dX11_init_87 : decode cX11_init 87 = .ok (.newarray .int, 2) := by decide +kernel
theorem dX11_init_89 : decode cX11_init 89 = .ok (.putfield 41, 3) := by decide +kernel
theorem dX11_init_92 : decode cX11_init 92 = .ok (.aload_n 0, 1) := by decide +kernel
theorem dX11_init_93 : decode cX11_init 93 = .ok (.bipush 10, 2) := by decide +kernel
theorem dX11_init_95 : decode cX11_init 95 = .ok (.newarray .int, 2) := by decide +kernel
theorem dX11_init_97 : decode cX11_init 97 = .ok (.putfield 44, 3) := by decide +kernel
theorem dX11_init_100 : decode cX11_init 100 = .ok (.aload_n 0, 1) := by decide +kernel
theorem dX11_init_101 : decode cX11_init 101 = .ok (.iconst 4, 1) := by decide +kernel
theorem dX11_init_102 : decode cX11_init 102 = .ok (.newarray .int, 2) := by decide +kernel
theorem dX11_init_104 : decode cX11_init 104 = .ok (.dup, 1) := by decide +kernel
theorem dX11_init_105 : decode cX11_init 105 = .ok (.iconst 0, 1) := by decide +kernel
theorem dX11_init_106 : decode cX11_init 106 = .ok (.iconst 0, 1) := by decide +kernel
theorem dX11_init_107 : decode cX11_init 107 = .ok (.iastore, 1) := by decide +kernel
theorem dX11_init_108 : decode cX11_init 108 = .ok (.dup, 1) := by decide +kernel
theorem dX11_init_109 : decode cX11_init 109 = .ok (.iconst 1, 1) := by decide +kernel
theorem dX11_init_110 : decode cX11_init 110 = .ok (.iconst 1, 1) := by decide +kernel
theorem dX11_init_111 : decode cX11_init 111 = .ok (.iastore, 1) := by decide +kernel
theorem dX11_init_112 : decode cX11_init 112 = .ok (.dup, 1) := by decide +kernel
theorem dX11_init_113 : decode cX11_init 113 = .ok (.iconst 2, 1) := by decide +kernel
theorem dX11_init_114 : decode cX11_init 114 = .ok (.iconst 0, 1) := by decide +kernel
theorem dX11_init_115 : decode cX11_init 115 = .ok (.iastore, 1) := by decide +kernel
theorem dX11_init_116 : decode cX11_init 116 = .ok (.dup, 1) := by decide +kernel
theorem dX11_init_117 : decode cX11_init 117 = .ok (.iconst 3, 1) := by decide +kernel
theorem dX11_init_118 : decode cX11_init 118 = .ok (.iconst 0, 1) := by decide +kernel
theorem dX11_init_119 : decode cX11_init 119 = .ok (.iastore, 1) := by decide +kernel
theorem dX11_init_120 : decode cX11_init 120 = .ok (.putfield 47, 3) := by decide +kernel
theorem dX11_init_123 : decode cX11_init 123 = .ok (.aload_n 0, 1) := by decide +kernel
theorem dX11_init_124 : decode cX11_init 124 = .ok (.iconst 1, 1) := by decide +kernel
theorem dX11_init_125 : decode cX11_init 125 = .ok (.putfield 50, 3) := by decide +kernel
theorem dX11_init_128 : decode cX11_init 128 = .ok (.aload_n 0, 1) := by decide +kernel
theorem dX11_init_129 : decode cX11_init 129 = .ok (.bipush 80, 2) := by decide +kernel
theorem dX11_init_131 : decode cX11_init 131 = .ok (.newarray .byte, 2) := by decide +kernel
theorem dX11_init_133 : decode cX11_init 133 = .ok (.putfield 54, 3) := by decide +kernel
theorem dX11_init_136 : decode cX11_init 136 = .ok (.aload_n 0, 1) := by decide +kernel
theorem dX11_init_137 : decode cX11_init 137 = .ok (.bipush 16, 2) := by decide +kernel
theorem dX11_init_139 : decode cX11_init 139 = .ok (.newarray .long, 2) := by decide +kernel
theorem dX11_init_141 : decode cX11_init 141 = .ok (.putfield 58, 3) := by decide +kernel
theorem dX11_init_144 : decode cX11_init 144 = .ok (.aload_n 0, 1) := by decide +kernel
theorem dX11_init_145 : decode cX11_init 145 = .ok (.bipush 40, 2) := by decide +kernel
theorem dX11_init_147 : decode cX11_init 147 = .ok (.newarray .byte, 2) := by decide +kernel
theorem dX11_init_149 : decode cX11_init 149 = .ok (.putfield 62, 3) := by decide +kernel
theorem dX11_init_152 : decode cX11_init 152 = .ok (.aload_n 0, 1) := by decide +kernel
theorem dX11_init_153 : decode cX11_init 153 = .ok (.iconst (-1), 1) := by decide +kernel
theorem dX11_init_154 : decode cX11_init 154 = .ok (.putfield 65, 3) := by decide +kernel
theorem dX11_init_157 : decode cX11_init 157 = .ok (.aload_n 0, 1) := by decide +kernel
theorem dX11_init_158 : decode cX11_init 158 = .ok (.bipush 10, 2) := by decide +kernel
theorem dX11_init_160 : decode cX11_init 160 = .ok (.newarray .int, 2) := by decide +kernel
theorem dX11_init_162 : decode cX11_init 162 = .ok (.putfield 68, 3) := by decide +kernel
theorem dX11_init_165 : decode cX11_init 165 = .ok (.aload_n 0, 1) := by decide +kernel
theorem dX11_init_166 : decode cX11_init 166 = .ok (.bipush 18, 2) := by decide +kernel
theorem dX11_init_168 : decode cX11_init 168 = .ok (.newarray .int, 2) := by decide +kernel
theorem dX11_init_170 : decode cX11_init 170 = .ok (.putfield 71, 3) := by decide +kernel
theorem dX11_init_173 : decode cX11_init 173 = .ok (.aload_n 0, 1) := by decide +kernel
theorem dX11_init_174 : decode cX11_init 174 = .ok (.sipush 3000, 3) := by decide +kernel
theorem dX11_init_177 : decode cX11_init 177 = .ok (.newarray .int, 2) := by decide +kernel
theorem dX11_init_179 : decode cX11_init 179 = .ok (.putfield 74, 3) := by decide +kernel
theorem dX11_init_182 : decode cX11_init 182 = .ok (.aload_n 0, 1) := by decide +kernel
theorem dX11_init_183 : decode cX11_init 183 = .ok (.sipush 24000, 3) := by decide +kernel
theorem dX11_init_186 : decode cX11_init 186 = .ok (.newarray .int, 2) := by decide +kernel
theorem dX11_init_188 : decode cX11_init 188 = .ok (.putfield 77, 3) := by decide +kernel
theorem dX11_init_191 : decode cX11_init 191 = .ok (.aload_n 0, 1) := by decide +kernel
theorem dX11_init_192 : decode cX11_init 192 = .ok (.ldc 80, 2) := by decide +kernel
theorem dX11_init_194 : decode cX11_init 194 = .ok (.newarray .int, 2) := by decide +kernel
theorem dX11_init_196 : decode cX11_init 196 = .ok (.putfield 81, 3) := by decide +kernel
theorem dX11_init_199 : decode cX11_init 199 = .ok (.aload_n 0, 1) := by decide +kernel
theorem dX11_init_200 : decode cX11_init 200 = .ok (.sipush 3000, 3) := by decide +kernel
theorem dX11_init_203 : decode cX11_init 203 = .ok (.newarray .int, 2) := by decide +kernel
theorem dX11_init_205 : decode cX11_init 205 = .ok (.putfield 84, 3) := by decide +kernel
theorem dX11_init_208 : decode cX11_init 208 = .ok (.aload_n 0, 1) := by decide +kernel
theorem dX11_init_209 : decode cX11_init 209 = .ok (.sipush 3000, 3) := by decide +kernel
theorem dX11_init_212 : decode cX11_init 212 = .ok (.newarray .int, 2) := by decide +kernel
theorem dX11_init_214 : decode cX11_init 214 = .ok (.putfield 87, 3) := by decide +kernel
theorem dX11_init_217 : decode cX11_init 217 = .ok (.aload_n 0, 1) := by decide +kernel
theorem dX11_init_218 : decode cX11_init 218 = .ok (.sipush 3000, 3) := by decide +kernel
theorem dX11_init_221 : decode cX11_init 221 = .ok (.newarray .int, 2) := by decide +kernel
theorem dX11_init_223 : decode cX11_init 223 = .ok (.putfield 90, 3) := by decide +kernel
theorem dX11_init_226 : decode cX11_init 226 = .ok (.aload_n 0, 1) := by decide +kernel
theorem dX11_init_227 : decode cX11_init 227 = .ok (.sipush 3000, 3) := by decide +kernel
theorem dX11_init_230 : decode cX11_init 230 = .ok (.newarray .int, 2) := by decide +kernel
theorem dX11_init_232 : decode cX11_init 232 = .ok (.putfield 93, 3) := by decide +kernel
theorem dX11_init_235 : decode cX11_init 235 = .ok (.aload_n 0, 1) := by decide +kernel
theorem dX11_init_236 : decode cX11_init 236 = .ok (.sipush 3000, 3) := by decide +kernel
theorem dX11_init_239 : decode cX11_init 239 = .ok (.newarray .long, 2) := by decide +kernel
theorem dX11_init_241 : decode cX11_init 241 = .ok (.putfield 96, 3) := by decide +kernel
theorem dX11_init_244 : decode cX11_init 244 = .ok (.aload_n 0, 1) := by decide +kernel
theorem dX11_init_245 : decode cX11_init 245 = .ok (.sipush 3000, 3) := by decide +kernel
theorem dX11_init_248 : decode cX11_init 248 = .ok (.newarray .boolean, 2) := by decide +kernel
theorem dX11_init_250 : decode cX11_init 250 = .ok (.putfield 99, 3) := by decide +kernel
theorem dX11_init_253 : decode cX11_init 253 = .ok (.aload_n 0, 1) := by decide +kernel
theorem dX11_init_254 : decode cX11_init 254 = .ok (.sipush 8192, 3) := by decide +kernel
theorem dX11_init_257 : decode cX11_init 257 = .ok (.newarray .int, 2) := by decide +kernel
theorem dX11_init_259 : decode cX11_init 259 = .ok (.putfield 102, 3) := by decide +kernel
theorem dX11_init_262 : decode cX11_init 262 = .ok (.aload_n 0, 1) := by decide +kernel
theorem dX11_init_263 : decode cX11_init 263 = .ok (.bipush 8, 2) := by decide +kernel
theorem dX11_init_265 : decode cX11_init 265 = .ok (.newarray .int, 2) := by decide +kernel
theorem dX11_init_267 : decode cX11_init 267 = .ok (.putfield 105, 3) := by decide +kernel
theorem dX11_init_270 : decode cX11_init 270 = .ok (.aload_n 0, 1) := by decide +kernel
theorem dX11_init_271 : decode cX11_init 271 = .ok (.bipush 10, 2) := by decide +kernel
theorem dX11_init_273 : decode cX11_init 273 = .ok (.newarray .int, 2) := by decide +kernel
theorem dX11_init_275 : decode cX11_init 275 = .ok (.putfield 108, 3) := by decide +kernel
theorem dX11_init_278 : decode cX11_init 278 = .ok (.aload_n 0, 1) := by decide +kernel
theorem dX11_init_279 : decode cX11_init 279 = .ok (.iconst 4, 1) := by decide +kernel
theorem dX11_init_280 : decode cX11_init 280 = .ok (.newarray .int, 2) := by decide +kernel
theorem dX11_init_282 : decode cX11_init 282 = .ok (.putfield 111, 3) := by decide +kernel
theorem dX11_init_285 : decode cX11_init 285 = .ok (.aload_n 0, 1) := by decide +kernel
theorem dX11_init_286 : decode cX11_init 286 = .ok (.bipush 101, 2) := by decide +kernel
theorem dX11_init_288 : decode cX11_init 288 = .ok (.newarray .int, 2) := by decide +kernel
theorem dX11_init_290 : decode cX11_init 290 = .ok (.putfield 114, 3) := by decide +kernel
theorem dX11_init_293 : decode cX11_init 293 = .ok (.aload_n 0, 1) := by decide +kernel
theorem dX11_init_294 : decode cX11_init 294 = .ok (.sipush 266, 3) := by decide +kernel
theorem dX11_init_297 : decode cX11_init 297 = .ok (.newarray .int, 2) := by decide +kernel
theorem dX11_init_299 : decode cX11_init 299 = .ok (.putfield 117, 3) := by decide +kernel
theorem dX11_init_302 : decode cX11_init 302 = .ok (.aload_n 0, 1) := by decide +kernel
theorem dX11_init_303 : decode cX11_init 303 = .ok (.iconst 2, 1) := by decide +kernel
theorem dX11_init_304 : decode cX11_init 304 = .ok (.newarray .boolean, 2) := by decide +kernel
theorem dX11_init_306 : decode cX11_init 306 = .ok (.putfield 120, 3) := by decide +kernel
theorem dX11_init_309 : decode cX11_init 309 = .ok (.aload_n 0, 1) := by decide +kernel
theorem dX11_init_310 : decode cX11_init 310 = .ok (.iconst 2, 1) := by decide +kernel
theorem dX11_init_311 : decode cX11_init 311 = .ok (.newarray .int, 2) := by decide +kernel
theorem dX11_init_313 : decode cX11_init 313 = .ok (.putfield 123, 3) := by decide +kernel
theorem dX11_init_316 : decode cX11_init 316 = .ok (.return_, 1) := by decide +kernel
theorem dX11_thrown_0 : decode cX11_thrown 0 = .ok (.aload_n 0, 1) := by decide +kernel
theorem dX11_thrown_1 : decode cX11_thrown 1 = .ok (.getfield 126, 3) := by decide +kernel
theorem dX11_thrown_4 : decode cX11_thrown 4 = .ok (.ireturn, 1) := by decide +kernel
theorem dX11_in_0 : decode cX11_in 0 = .ok (.lload_n 0, 1) := by decide +kernel
theorem dX11_in_1 : decode cX11_in 1 = .ok (.lload_n 2, 1) := by decide +kernel
theorem dX11_in_2 : decode cX11_in 2 = .ok (.lcmp, 1) := by decide +kernel
theorem dX11_in_3 : decode cX11_in 3 = .ok (.ifCond .lt 14, 3) := by decide +kernel
theorem dX11_in_6 : decode cX11_in 6 = .ok (.lload_n 0, 1) := by decide +kernel
theorem dX11_in_7 : decode cX11_in 7 = .ok (.lload 4, 2) := by decide +kernel
theorem dX11_in_9 : decode cX11_in 9 = .ok (.lcmp, 1) := by decide +kernel
theorem dX11_in_10 : decode cX11_in 10 = .ok (.ifCond .gt 7, 3) := by decide +kernel
theorem dX11_in_13 : decode cX11_in 13 = .ok (.iconst 1, 1) := by decide +kernel
theorem dX11_in_14 : decode cX11_in 14 = .ok (.goto 4, 3) := by decide +kernel
theorem dX11_in_17 : decode cX11_in 17 = .ok (.iconst 0, 1) := by decide +kernel
theorem dX11_in_18 : decode cX11_in 18 = .ok (.ireturn, 1) := by decide +kernel
theorem dX11_has_0 : decode cX11_has 0 = .ok (.iload_n 0, 1) := by decide +kernel
theorem dX11_has_1 : decode cX11_has 1 = .ok (.iload_n 1, 1) := by decide +kernel
theorem dX11_has_2 : decode cX11_has 2 = .ok (.ishr, 1) := by decide +kernel
theorem dX11_has_3 : decode cX11_has 3 = .ok (.iconst 1, 1) := by decide +kernel
theorem dX11_has_4 : decode cX11_has 4 = .ok (.iand, 1) := by decide +kernel
theorem dX11_has_5 : decode cX11_has 5 = .ok (.iconst 1, 1) := by decide +kernel
theorem dX11_has_6 : decode cX11_has 6 = .ok (.if_icmp .ne 7, 3) := by decide +kernel
theorem dX11_has_9 : decode cX11_has 9 = .ok (.iconst 1, 1) := by decide +kernel
theorem dX11_has_10 : decode cX11_has 10 = .ok (.goto 4, 3) := by decide +kernel
theorem dX11_has_13 : decode cX11_has 13 = .ok (.iconst 0, 1) := by decide +kernel
theorem dX11_has_14 : decode cX11_has 14 = .ok (.ireturn, 1) := by decide +kernel
theorem dX11_lost_0 : decode cX11_lost 0 = .ok (.aload_n 0, 1) := by decide +kernel
theorem dX11_lost_1 : decode cX11_lost 1 = .ok (.iconst 1, 1) := by decide +kernel
theorem dX11_lost_2 : decode cX11_lost 2 = .ok (.putfield 126, 3) := by decide +kernel
theorem dX11_lost_5 : decode cX11_lost 5 = .ok (.iconst 0, 1) := by decide +kernel
theorem dX11_lost_6 : decode cX11_lost 6 = .ok (.ireturn, 1) := by decide +kernel
theorem dX11_tell_0 : decode cX11_tell 0 = .ok (.aload_n 0, 1) := by decide +kernel
theorem dX11_tell_1 : decode cX11_tell 1 = .ok (.getfield 58, 3) := by decide +kernel
theorem dX11_tell_4 : decode cX11_tell 4 = .ok (.aload_n 0, 1) := by decide +kernel
theorem dX11_tell_5 : decode cX11_tell 5 = .ok (.getfield 129, 3) := by decide +kernel
theorem dX11_tell_8 : decode cX11_tell 8 = .ok (.lload_n 1, 1) := by decide +kernel
theorem dX11_tell_9 : decode cX11_tell 9 = .ok (.lastore, 1) := by decide +kernel
theorem dX11_tell_10 : decode cX11_tell 10 = .ok (.aload_n 0, 1) := by decide +kernel
theorem dX11_tell_11 : decode cX11_tell 11 = .ok (.dup, 1) := by decide +kernel
theorem dX11_tell_12 : decode cX11_tell 12 = .ok (.getfield 129, 3) := by decide +kernel
theorem dX11_tell_15 : decode cX11_tell 15 = .ok (.iconst 1, 1) := by decide +kernel
theorem dX11_tell_16 : decode cX11_tell 16 = .ok (.iadd, 1) := by decide +kernel
theorem dX11_tell_17 : decode cX11_tell 17 = .ok (.putfield 129, 3) := by decide +kernel
theorem dX11_tell_20 : decode cX11_tell 20 = .ok (.return_, 1) := by decide +kernel
theorem dX11_isOne_0 : decode cX11_isOne 0 = .ok (.iload_n 1, 1) := by decide +kernel
theorem dX11_isOne_1 : decode cX11_isOne 1 = .ok (.i2l, 1) := by decide +kernel
theorem dX11_isOne_2 : decode cX11_isOne 2 = .ok (.lconst 0, 1) := by decide +kernel
theorem dX11_isOne_3 : decode cX11_isOne 3 = .ok (.aload_n 0, 1) := by decide +kernel
theorem dX11_isOne_4 : decode cX11_isOne 4 = .ok (.getfield 132, 3) := by decide +kernel
theorem dX11_isOne_7 : decode cX11_isOne 7 = .ok (.iconst 1, 1) := by decide +kernel
theorem dX11_isOne_8 : decode cX11_isOne 8 = .ok (.isub, 1) := by decide +kernel
theorem dX11_isOne_9 : decode cX11_isOne 9 = .ok (.i2l, 1) := by decide +kernel
theorem dX11_isOne_10 : decode cX11_isOne 10 = .ok (.invokestatic 135, 3) := by decide +kernel
theorem dX11_isOne_13 : decode cX11_isOne 13 = .ok (.ireturn, 1) := by decide +kernel
theorem dX11_isDebt_0 : decode cX11_isDebt 0 = .ok (.iload_n 1, 1) := by decide +kernel
theorem dX11_isDebt_1 : decode cX11_isDebt 1 = .ok (.i2l, 1) := by decide +kernel
theorem dX11_isDebt_2 : decode cX11_isDebt 2 = .ok (.lconst 0, 1) := by decide +kernel
theorem dX11_isDebt_3 : decode cX11_isDebt 3 = .ok (.aload_n 0, 1) := by decide +kernel
theorem dX11_isDebt_4 : decode cX11_isDebt 4 = .ok (.getfield 139, 3) := by decide +kernel
theorem dX11_isDebt_7 : decode cX11_isDebt 7 = .ok (.iconst 1, 1) := by decide +kernel
theorem dX11_isDebt_8 : decode cX11_isDebt 8 = .ok (.isub, 1) := by decide +kernel
theorem dX11_isDebt_9 : decode cX11_isDebt 9 = .ok (.i2l, 1) := by decide +kernel
theorem dX11_isDebt_10 : decode cX11_isDebt 10 = .ok (.invokestatic 135, 3) := by decide +kernel
theorem dX11_isDebt_13 : decode cX11_isDebt 13 = .ok (.ireturn, 1) := by decide +kernel
theorem dX11_isOpen_0 : decode cX11_isOpen 0 = .ok (.aload_n 0, 1) := by decide +kernel
theorem dX11_isOpen_1 : decode cX11_isOpen 1 = .ok (.iload_n 1, 1) := by decide +kernel
theorem dX11_isOpen_2 : decode cX11_isOpen 2 = .ok (.invokevirtual 142, 3) := by decide +kernel
theorem dX11_isOpen_5 : decode cX11_isOpen 5 = .ok (.ifCond .eq 16, 3) := by decide +kernel
theorem dX11_isOpen_8 : decode cX11_isOpen 8 = .ok (.aload_n 0, 1) := by decide +kernel
theorem dX11_isOpen_9 : decode cX11_isOpen 9 = .ok (.getfield 41, 3) := by decide +kernel
theorem dX11_isOpen_12 : decode cX11_isOpen 12 = .ok (.iload_n 1, 1) := by decide +kernel
theorem dX11_isOpen_13 : decode cX11_isOpen 13 = .ok (.iaload, 1) := by decide +kernel
theorem dX11_isOpen_14 : decode cX11_isOpen 14 = .ok (.ifCond .ne 7, 3) := by decide +kernel
theorem dX11_isOpen_17 : decode cX11_isOpen 17 = .ok (.iconst 1, 1) := by decide +kernel
theorem dX11_isOpen_18 : decode cX11_isOpen 18 = .ok (.goto 4, 3) := by decide +kernel
theorem dX11_isOpen_21 : decode cX11_isOpen 21 = .ok (.iconst 0, 1) := by decide +kernel
theorem dX11_isOpen_22 : decode cX11_isOpen 22 = .ok (.ireturn, 1) := by decide +kernel
theorem dX11_counted_0 : decode cX11_counted 0 = .ok (.aload_n 0, 1) := by decide +kernel
theorem dX11_counted_1 : decode cX11_counted 1 = .ok (.getfield 9, 3) := by decide +kernel
theorem dX11_counted_4 : decode cX11_counted 4 = .ok (.iload_n 1, 1) := by decide +kernel
theorem dX11_counted_5 : decode cX11_counted 5 = .ok (.iaload, 1) := by decide +kernel
theorem dX11_counted_6 : decode cX11_counted 6 = .ok (.aload_n 0, 1) := by decide +kernel
theorem dX11_counted_7 : decode cX11_counted 7 = .ok (.getfield 20, 3) := by decide +kernel
theorem dX11_counted_10 : decode cX11_counted 10 = .ok (.iload_n 1, 1) := by decide +kernel
theorem dX11_counted_11 : decode cX11_counted 11 = .ok (.iaload, 1) := by decide +kernel
theorem dX11_counted_12 : decode cX11_counted 12 = .ok (.isub, 1) := by decide +kernel
theorem dX11_counted_13 : decode cX11_counted 13 = .ok (.ireturn, 1) := by decide +kernel
theorem dX11_sign_0 : decode cX11_sign 0 = .ok (.aload_n 0, 1) := by decide +kernel
theorem dX11_sign_1 : decode cX11_sign 1 = .ok (.iconst 0, 1) := by decide +kernel
theorem dX11_sign_2 : decode cX11_sign 2 = .ok (.putfield 126, 3) := by decide +kernel
theorem dX11_sign_5 : decode cX11_sign 5 = .ok (.aload_n 0, 1) := by decide +kernel
theorem dX11_sign_6 : decode cX11_sign 6 = .ok (.getfield 146, 3) := by decide +kernel
theorem dX11_sign_9 : decode cX11_sign 9 = .ok (.iconst 4, 1) := by decide +kernel
theorem dX11_sign_10 : decode cX11_sign 10 = .ok (.iadd, 1) := by decide +kernel
theorem dX11_sign_11 : decode cX11_sign 11 = .ok (.bipush 80, 2) := by decide +kernel
theorem dX11_sign_13 : decode cX11_sign 13 = .ok (.if_icmp .le 5, 3) := by decide +kernel
theorem dX11_sign_16 : decode cX11_sign 16 = .ok (.iconst (-1), 1) := by decide +kernel
theorem dX11_sign_17 : decode cX11_sign 17 = .ok (.ireturn, 1) := by decide +kernel
theorem dX11_sign_18 : decode cX11_sign 18 = .ok (.iconst 3, 1) := by decide +kernel
theorem dX11_sign_19 : decode cX11_sign 19 = .ok (.istore_n 2, 1) := by decide +kernel
theorem dX11_sign_20 : decode cX11_sign 20 = .ok (.iload_n 2, 1) := by decide +kernel
theorem dX11_sign_21 : decode cX11_sign 21 = .ok (.ifCond .lt 32, 3) := by decide +kernel
theorem dX11_sign_24 : decode cX11_sign 24 = .ok (.aload_n 0, 1) := by decide +kernel
theorem dX11_sign_25 : decode cX11_sign 25 = .ok (.getfield 54, 3) := by decide +kernel
theorem dX11_sign_28 : decode cX11_sign 28 = .ok (.aload_n 0, 1) := by decide +kernel
theorem dX11_sign_29 : decode cX11_sign 29 = .ok (.dup, 1) := by decide +kernel
theorem dX11_sign_30 : decode cX11_sign 30 = .ok (.getfield 146, 3) := by decide +kernel
theorem dX11_sign_33 : decode cX11_sign 33 = .ok (.dup_x1, 1) := by decide +kernel
theorem dX11_sign_34 : decode cX11_sign 34 = .ok (.iconst 1, 1) := by decide +kernel
theorem dX11_sign_35 : decode cX11_sign 35 = .ok (.iadd, 1) := by decide +kernel
theorem dX11_sign_36 : decode cX11_sign 36 = .ok (.putfield 146, 3) := by decide +kernel
theorem dX11_sign_39 : decode cX11_sign 39 = .ok (.iload_n 1, 1) := by decide +kernel
theorem dX11_sign_40 : decode cX11_sign 40 = .ok (.bipush 8, 2) := by decide +kernel
theorem dX11_sign_42 : decode cX11_sign 42 = .ok (.iload_n 2, 1) := by decide +kernel
theorem dX11_sign_43 : decode cX11_sign 43 = .ok (.imul, 1) := by decide +kernel
theorem dX11_sign_44 : decode cX11_sign 44 = .ok (.ishr, 1) := by decide +kernel
theorem dX11_sign_45 : decode cX11_sign 45 = .ok (.i2b, 1) := by decide +kernel
theorem dX11_sign_46 : decode cX11_sign 46 = .ok (.bastore, 1) := by decide +kernel
theorem dX11_sign_47 : decode cX11_sign 47 = .ok (.iinc 2 (-1), 3) := by decide +kernel
theorem dX11_sign_50 : decode cX11_sign 50 = .ok (.goto (-30), 3) := by decide +kernel
theorem dX11_sign_53 : decode cX11_sign 53 = .ok (.aload_n 0, 1) := by decide +kernel
theorem dX11_sign_54 : decode cX11_sign 54 = .ok (.getfield 146, 3) := by decide +kernel
theorem dX11_sign_57 : decode cX11_sign 57 = .ok (.ireturn, 1) := by decide +kernel
theorem dX11_end_0 : decode cX11_end 0 = .ok (.aload_n 0, 1) := by decide +kernel
theorem dX11_end_1 : decode cX11_end 1 = .ok (.iconst 0, 1) := by decide +kernel
theorem dX11_end_2 : decode cX11_end 2 = .ok (.putfield 126, 3) := by decide +kernel
theorem dX11_end_5 : decode cX11_end 5 = .ok (.iload_n 1, 1) := by decide +kernel
theorem dX11_end_6 : decode cX11_end 6 = .ok (.i2l, 1) := by decide +kernel
theorem dX11_end_7 : decode cX11_end 7 = .ok (.lconst 0, 1) := by decide +kernel
theorem dX11_end_8 : decode cX11_end 8 = .ok (.aload_n 0, 1) := by decide +kernel
theorem dX11_end_9 : decode cX11_end 9 = .ok (.getfield 146, 3) := by decide +kernel
theorem dX11_end_12 : decode cX11_end 12 = .ok (.i2l, 1) := by decide +kernel
theorem dX11_end_13 : decode cX11_end 13 = .ok (.invokestatic 135, 3) := by decide +kernel
theorem dX11_end_16 : decode cX11_end 16 = .ok (.ifCond .ne 5, 3) := by decide +kernel
theorem dX11_end_19 : decode cX11_end 19 = .ok (.iconst 0, 1) := by decide +kernel
theorem dX11_end_20 : decode cX11_end 20 = .ok (.ireturn, 1) := by decide +kernel
theorem dX11_end_21 : decode cX11_end 21 = .ok (.aload_n 0, 1) := by decide +kernel
theorem dX11_end_22 : decode cX11_end 22 = .ok (.iload_n 1, 1) := by decide +kernel
theorem dX11_end_23 : decode cX11_end 23 = .ok (.putfield 146, 3) := by decide +kernel
theorem dX11_end_26 : decode cX11_end 26 = .ok (.iconst 1, 1) := by decide +kernel
theorem dX11_end_27 : decode cX11_end 27 = .ok (.ireturn, 1) := by decide +kernel
theorem dX11_begin_0 : decode cX11_begin 0 = .ok (.aload_n 0, 1) := by decide +kernel
theorem dX11_begin_1 : decode cX11_begin 1 = .ok (.aload_n 1, 1) := by decide +kernel
theorem dX11_begin_2 : decode cX11_begin 2 = .ok (.putfield 149, 3) := by decide +kernel
theorem dX11_begin_5 : decode cX11_begin 5 = .ok (.aload_n 0, 1) := by decide +kernel
theorem dX11_begin_6 : decode cX11_begin 6 = .ok (.iload_n 2, 1) := by decide +kernel
theorem dX11_begin_7 : decode cX11_begin 7 = .ok (.putfield 152, 3) := by decide +kernel
theorem dX11_begin_10 : decode cX11_begin 10 = .ok (.aload_n 0, 1) := by decide +kernel
theorem dX11_begin_11 : decode cX11_begin 11 = .ok (.iload_n 3, 1) := by decide +kernel
theorem dX11_begin_12 : decode cX11_begin 12 = .ok (.putfield 155, 3) := by decide +kernel
theorem dX11_begin_15 : decode cX11_begin 15 = .ok (.aload_n 0, 1) := by decide +kernel
theorem dX11_begin_16 : decode cX11_begin 16 = .ok (.iconst 0, 1) := by decide +kernel
theorem dX11_begin_17 : decode cX11_begin 17 = .ok (.putfield 158, 3) := by decide +kernel
theorem dX11_begin_20 : decode cX11_begin 20 = .ok (.aload_n 0, 1) := by decide +kernel
theorem dX11_begin_21 : decode cX11_begin 21 = .ok (.iconst (-1), 1) := by decide +kernel
theorem dX11_begin_22 : decode cX11_begin 22 = .ok (.putfield 161, 3) := by decide +kernel
theorem dX11_begin_25 : decode cX11_begin 25 = .ok (.return_, 1) := by decide +kernel
theorem dX11_here_0 : decode cX11_here 0 = .ok (.aload_n 0, 1) := by decide +kernel
theorem dX11_here_1 : decode cX11_here 1 = .ok (.getfield 158, 3) := by decide +kernel
theorem dX11_here_4 : decode cX11_here 4 = .ok (.aload_n 0, 1) := by decide +kernel
theorem dX11_here_5 : decode cX11_here 5 = .ok (.getfield 152, 3) := by decide +kernel
theorem dX11_here_8 : decode cX11_here 8 = .ok (.if_icmp .ge 26, 3) := by decide +kernel
theorem dX11_here_11 : decode cX11_here 11 = .ok (.aload_n 0, 1) := by decide +kernel
theorem dX11_here_12 : decode cX11_here 12 = .ok (.getfield 158, 3) := by decide +kernel
theorem dX11_here_15 : decode cX11_here 15 = .ok (.aload_n 0, 1) := by decide +kernel
theorem dX11_here_16 : decode cX11_here 16 = .ok (.getfield 155, 3) := by decide +kernel
theorem dX11_here_19 : decode cX11_here 19 = .ok (.if_icmp .ge 15, 3) := by decide +kernel
theorem dX11_here_22 : decode cX11_here 22 = .ok (.aload_n 0, 1) := by decide +kernel
theorem dX11_here_23 : decode cX11_here 23 = .ok (.getfield 149, 3) := by decide +kernel
theorem dX11_here_26 : decode cX11_here 26 = .ok (.aload_n 0, 1) := by decide +kernel
theorem dX11_here_27 : decode cX11_here 27 = .ok (.getfield 158, 3) := by decide +kernel
theorem dX11_here_30 : decode cX11_here 30 = .ok (.baload, 1) := by decide +kernel
theorem dX11_here_31 : decode cX11_here 31 = .ok (.goto 4, 3) := by decide +kernel
theorem dX11_here_34 : decode cX11_here 34 = .ok (.iconst (-1), 1) := by decide +kernel
theorem dX11_here_35 : decode cX11_here 35 = .ok (.ireturn, 1) := by decide +kernel
theorem dX11_fine_0 : decode cX11_fine 0 = .ok (.aload_n 0, 1) := by decide +kernel
theorem dX11_fine_1 : decode cX11_fine 1 = .ok (.getfield 161, 3) := by decide +kernel
theorem dX11_fine_4 : decode cX11_fine 4 = .ok (.iconst (-1), 1) := by decide +kernel
theorem dX11_fine_5 : decode cX11_fine 5 = .ok (.if_icmp .ne 7, 3) := by decide +kernel
theorem dX11_fine_8 : decode cX11_fine 8 = .ok (.iconst 1, 1) := by decide +kernel
theorem dX11_fine_9 : decode cX11_fine 9 = .ok (.goto 4, 3) := by decide +kernel
theorem dX11_fine_12 : decode cX11_fine 12 = .ok (.iconst 0, 1) := by decide +kernel
theorem dX11_fine_13 : decode cX11_fine 13 = .ok (.ireturn, 1) := by decide +kernel
theorem dX11_fault_0 : decode cX11_fault 0 = .ok (.aload_n 0, 1) := by decide +kernel
theorem dX11_fault_1 : decode cX11_fault 1 = .ok (.invokevirtual 164, 3) := by decide +kernel
theorem dX11_fault_4 : decode cX11_fault 4 = .ok (.ifCond .eq 8, 3) := by decide +kernel
theorem dX11_fault_7 : decode cX11_fault 7 = .ok (.aload_n 0, 1) := by decide +kernel
theorem dX11_fault_8 : decode cX11_fault 8 = .ok (.iload_n 1, 1) := by decide +kernel
theorem dX11_fault_9 : decode cX11_fault 9 = .ok (.putfield 161, 3) := by decide +kernel
theorem dX11_fault_12 : decode cX11_fault 12 = .ok (.return_, 1) := by decide +kernel
theorem dX11_passes_0 : decode cX11_passes 0 = .ok (.aload_n 0, 1) := by decide +kernel
theorem dX11_passes_1 : decode cX11_passes 1 = .ok (.invokevirtual 164, 3) := by decide +kernel
theorem dX11_passes_4 : decode cX11_passes 4 = .ok (.ifCond .eq 11, 3) := by decide +kernel
theorem dX11_passes_7 : decode cX11_passes 7 = .ok (.aload_n 0, 1) := by decide +kernel
theorem dX11_passes_8 : decode cX11_passes 8 = .ok (.invokevirtual 168, 3) := by decide +kernel
theorem dX11_passes_11 : decode cX11_passes 11 = .ok (.iload_n 1, 1) := by decide +kernel
theorem dX11_passes_12 : decode cX11_passes 12 = .ok (.if_icmp .eq 5, 3) := by decide +kernel
theorem dX11_passes_15 : decode cX11_passes 15 = .ok (.iconst 0, 1) := by decide +kernel
theorem dX11_passes_16 : decode cX11_passes 16 = .ok (.ireturn, 1) := by decide +kernel
theorem dX11_passes_17 : decode cX11_passes 17 = .ok (.aload_n 0, 1) := by decide +kernel
theorem dX11_passes_18 : decode cX11_passes 18 = .ok (.dup, 1) := by decide +kernel
theorem dX11_passes_19 : decode cX11_passes 19 = .ok (.getfield 158, 3) := by decide +kernel
theorem dX11_passes_22 : decode cX11_passes 22 = .ok (.iconst 1, 1) := by decide +kernel
theorem dX11_passes_23 : decode cX11_passes 23 = .ok (.iadd, 1) := by decide +kernel
theorem dX11_passes_24 : decode cX11_passes 24 = .ok (.putfield 158, 3) := by decide +kernel
theorem dX11_passes_27 : decode cX11_passes 27 = .ok (.iconst 1, 1) := by decide +kernel
theorem dX11_passes_28 : decode cX11_passes 28 = .ok (.ireturn, 1) := by decide +kernel
theorem dX11_need_0 : decode cX11_need 0 = .ok (.aload_n 0, 1) := by decide +kernel
theorem dX11_need_1 : decode cX11_need 1 = .ok (.iload_n 1, 1) := by decide +kernel
theorem dX11_need_2 : decode cX11_need 2 = .ok (.invokevirtual 172, 3) := by decide +kernel
theorem dX11_need_5 : decode cX11_need 5 = .ok (.ifCond .ne 11, 3) := by decide +kernel
theorem dX11_need_8 : decode cX11_need 8 = .ok (.aload_n 0, 1) := by decide +kernel
theorem dX11_need_9 : decode cX11_need 9 = .ok (.aload_n 0, 1) := by decide +kernel
theorem dX11_need_10 : decode cX11_need 10 = .ok (.getfield 158, 3) := by decide +kernel
theorem dX11_need_13 : decode cX11_need 13 = .ok (.invokevirtual 176, 3) := by decide +kernel
theorem dX11_need_16 : decode cX11_need 16 = .ok (.return_, 1) := by decide +kernel
theorem dX11_number_0 : decode cX11_number 0 = .ok (.aload_n 0, 1) := by decide +kernel
theorem dX11_number_1 : decode cX11_number 1 = .ok (.invokevirtual 164, 3) := by decide +kernel
theorem dX11_number_4 : decode cX11_number 4 = .ok (.ifCond .ne 5, 3) := by decide +kernel
theorem dX11_number_7 : decode cX11_number 7 = .ok (.iconst 0, 1) := by decide +kernel
theorem dX11_number_8 : decode cX11_number 8 = .ok (.ireturn, 1) := by decide +kernel
theorem dX11_number_9 : decode cX11_number 9 = .ok (.aload_n 0, 1) := by decide +kernel
theorem dX11_number_10 : decode cX11_number 10 = .ok (.getfield 158, 3) := by decide +kernel
theorem dX11_number_13 : decode cX11_number 13 = .ok (.istore 4, 2) := by decide +kernel
theorem dX11_number_15 : decode cX11_number 15 = .ok (.iconst 0, 1) := by decide +kernel
theorem dX11_number_16 : decode cX11_number 16 = .ok (.istore 5, 2) := by decide +kernel
theorem dX11_number_18 : decode cX11_number 18 = .ok (.aload_n 0, 1) := by decide +kernel
theorem dX11_number_19 : decode cX11_number 19 = .ok (.getfield 158, 3) := by decide +kernel
theorem dX11_number_22 : decode cX11_number 22 = .ok (.iload 4, 2) := by decide +kernel
theorem dX11_number_24 : decode cX11_number 24 = .ok (.iload_n 1, 1) := by decide +kernel
theorem dX11_number_25 : decode cX11_number 25 = .ok (.iadd, 1) := by decide +kernel
theorem dX11_number_26 : decode cX11_number 26 = .ok (.if_icmp .ge 48, 3) := by decide +kernel
theorem dX11_number_29 : decode cX11_number 29 = .ok (.aload_n 0, 1) := by decide +kernel
theorem dX11_number_30 : decode cX11_number 30 = .ok (.invokevirtual 168, 3) := by decide +kernel
theorem dX11_number_33 : decode cX11_number 33 = .ok (.i2l, 1) := by decide +kernel
theorem dX11_number_34 : decode cX11_number 34 = .ok (.ldc2_w 180, 3) := by decide +kernel
theorem dX11_number_37 : decode cX11_number 37 = .ok (.ldc2_w 182, 3) := by decide +kernel
theorem dX11_number_40 : decode cX11_number 40 = .ok (.invokestatic 135, 3) := by decide +kernel
theorem dX11_number_43 : decode cX11_number 43 = .ok (.ifCond .eq 31, 3) := by decide +kernel
theorem dX11_number_46 : decode cX11_number 46 = .ok (.bipush 10, 2) := by decide +kernel
theorem dX11_number_48 : decode cX11_number 48 = .ok (.iload 5, 2) := by decide +kernel
theorem dX11_number_50 : decode cX11_number 50 = .ok (.imul, 1) := by decide +kernel
theorem dX11_number_51 : decode cX11_number 51 = .ok (.aload_n 0, 1) := by decide +kernel
theorem dX11_number_52 : decode cX11_number 52 = .ok (.invokevirtual 168, 3) := by decide +kernel
theorem dX11_number_55 : decode cX11_number 55 = .ok (.iadd, 1) := by decide +kernel
theorem dX11_number_56 : decode cX11_number 56 = .ok (.bipush 48, 2) := by decide +kernel
theorem dX11_number_58 : decode cX11_number 58 = .ok (.isub, 1) := by decide +kernel
theorem dX11_number_59 : decode cX11_number 59 = .ok (.istore 5, 2) := by decide +kernel
theorem dX11_number_61 : decode cX11_number 61 = .ok (.aload_n 0, 1) := by decide +kernel
theorem dX11_number_62 : decode cX11_number 62 = .ok (.dup, 1) := by decide +kernel
theorem dX11_number_63 : decode cX11_number 63 = .ok (.getfield 158, 3) := by decide +kernel
theorem dX11_number_66 : decode cX11_number 66 = .ok (.iconst 1, 1) := by decide +kernel
theorem dX11_number_67 : decode cX11_number 67 = .ok (.iadd, 1) := by decide +kernel
theorem dX11_number_68 : decode cX11_number 68 = .ok (.putfield 158, 3) := by decide +kernel
theorem dX11_number_71 : decode cX11_number 71 = .ok (.goto (-53), 3) := by decide +kernel
theorem dX11_number_74 : decode cX11_number 74 = .ok (.aload_n 0, 1) := by decide +kernel
theorem dX11_number_75 : decode cX11_number 75 = .ok (.getfield 158, 3) := by decide +kernel
theorem dX11_number_78 : decode cX11_number 78 = .ok (.iload 4, 2) := by decide +kernel
theorem dX11_number_80 : decode cX11_number 80 = .ok (.if_icmp .ne 14, 3) := by decide +kernel
theorem dX11_number_83 : decode cX11_number 83 = .ok (.aload_n 0, 1) := by decide +kernel
theorem dX11_number_84 : decode cX11_number 84 = .ok (.aload_n 0, 1) := by decide +kernel
theorem dX11_number_85 : decode cX11_number 85 = .ok (.getfield 158, 3) := by decide +kernel
theorem dX11_number_88 : decode cX11_number 88 = .ok (.invokevirtual 176, 3) := by decide +kernel
theorem dX11_number_91 : decode cX11_number 91 = .ok (.goto 26, 3) := by decide +kernel
theorem dX11_number_94 : decode cX11_number 94 = .ok (.iload 5, 2) := by decide +kernel
theorem dX11_number_96 : decode cX11_number 96 = .ok (.i2l, 1) := by decide +kernel
theorem dX11_number_97 : decode cX11_number 97 = .ok (.iload_n 2, 1) := by decide +kernel
theorem dX11_number_98 : decode cX11_number 98 = .ok (.i2l, 1) := by decide +kernel
theorem dX11_number_99 : decode cX11_number 99 = .ok (.iload_n 3, 1) := by decide +kernel
theorem dX11_number_100 : decode cX11_number 100 = .ok (.i2l, 1) := by decide +kernel
theorem dX11_number_101 : decode cX11_number 101 = .ok (.invokestatic 135, 3) := by decide +kernel
theorem dX11_number_104 : decode cX11_number 104 = .ok (.ifCond .ne 13, 3) := by decide +kernel
theorem dX11_number_107 : decode cX11_number 107 = .ok (.aload_n 0, 1) := by decide +kernel
theorem dX11_number_108 : decode cX11_number 108 = .ok (.aload_n 0, 1) := by decide +kernel
theorem dX11_number_109 : decode cX11_number 109 = .ok (.getfield 158, 3) := by decide +kernel
theorem dX11_number_112 : decode cX11_number 112 = .ok (.iconst 1, 1) := by decide +kernel
theorem dX11_number_113 : decode cX11_number 113 = .ok (.isub, 1) := by decide +kernel
theorem dX11_number_114 : decode cX11_number 114 = .ok (.invokevirtual 176, 3) := by decide +kernel
theorem dX11_number_117 : decode cX11_number 117 = .ok (.aload_n 0, 1) := by decide +kernel
theorem dX11_number_118 : decode cX11_number 118 = .ok (.invokevirtual 164, 3) := by decide +kernel
theorem dX11_number_121 : decode cX11_number 121 = .ok (.ifCond .eq 8, 3) := by decide +kernel
theorem dX11_number_124 : decode cX11_number 124 = .ok (.iload 5, 2) := by decide +kernel
theorem dX11_number_126 : decode cX11_number 126 = .ok (.goto 4, 3) := by decide +kernel
theorem dX11_number_129 : decode cX11_number 129 = .ok (.iconst 0, 1) := by decide +kernel
theorem dX11_number_130 : decode cX11_number 130 = .ok (.ireturn, 1) := by decide +kernel
theorem dX11_town_0 : decode cX11_town 0 = .ok (.aload_n 0, 1) := by decide +kernel
theorem dX11_town_1 : decode cX11_town 1 = .ok (.iconst 0, 1) := by decide +kernel
theorem dX11_town_2 : decode cX11_town 2 = .ok (.putfield 126, 3) := by decide +kernel
theorem dX11_town_5 : decode cX11_town 5 = .ok (.aload_n 0, 1) := by decide +kernel
theorem dX11_town_6 : decode cX11_town 6 = .ok (.aload_n 0, 1) := by decide +kernel
theorem dX11_town_7 : decode cX11_town 7 = .ok (.getfield 54, 3) := by decide +kernel
theorem dX11_town_10 : decode cX11_town 10 = .ok (.aload_n 0, 1) := by decide +kernel
theorem dX11_town_11 : decode cX11_town 11 = .ok (.getfield 146, 3) := by decide +kernel
theorem dX11_town_14 : decode cX11_town 14 = .ok (.bipush 76, 2) := by decide +kernel
theorem dX11_town_16 : decode cX11_town 16 = .ok (.invokevirtual 184, 3) := by decide +kernel
theorem dX11_town_19 : decode cX11_town 19 = .ok (.aload_n 0, 1) := by decide +kernel
theorem dX11_town_20 : decode cX11_town 20 = .ok (.iconst 0, 1) := by decide +kernel
theorem dX11_town_21 : decode cX11_town 21 = .ok (.putfield 146, 3) := by decide +kernel
theorem dX11_town_24 : decode cX11_town 24 = .ok (.aload_n 0, 1) := by decide +kernel
theorem dX11_town_25 : decode cX11_town 25 = .ok (.getfield 152, 3) := by decide +kernel
theorem dX11_town_28 : decode cX11_town 28 = .ok (.ifCond .ne 5, 3) := by decide +kernel
theorem dX11_town_31 : decode cX11_town 31 = .ok (.iconst 0, 1) := by decide +kernel
theorem dX11_town_32 : decode cX11_town 32 = .ok (.ireturn, 1) := by decide +kernel
theorem dX11_town_33 : decode cX11_town 33 = .ok (.aload_n 0, 1) := by decide +kernel
theorem dX11_town_34 : decode cX11_town 34 = .ok (.getfield 132, 3) := by decide +kernel
theorem dX11_town_37 : decode cX11_town 37 = .ok (.istore_n 1, 1) := by decide +kernel
theorem dX11_town_38 : decode cX11_town 38 = .ok (.aload_n 0, 1) := by decide +kernel
theorem dX11_town_39 : decode cX11_town 39 = .ok (.getfield 139, 3) := by decide +kernel
theorem dX11_town_42 : decode cX11_town 42 = .ok (.istore_n 2, 1) := by decide +kernel
theorem dX11_town_43 : decode cX11_town 43 = .ok (.iconst 0, 1) := by decide +kernel
theorem dX11_town_44 : decode cX11_town 44 = .ok (.istore_n 3, 1) := by decide +kernel
theorem dX11_town_45 : decode cX11_town 45 = .ok (.iconst 1, 1) := by decide +kernel
theorem dX11_town_46 : decode cX11_town 46 = .ok (.istore 4, 2) := by decide +kernel
theorem dX11_town_48 : decode cX11_town 48 = .ok (.iload 4, 2) := by decide +kernel
theorem dX11_town_50 : decode cX11_town 50 = .ok (.ifCond .eq 87, 3) := by decide +kernel
theorem dX11_town_53 : decode cX11_town 53 = .ok (.aload_n 0, 1) := by decide +kernel
theorem dX11_town_54 : decode cX11_town 54 = .ok (.invokevirtual 164, 3) := by decide +kernel
theorem dX11_town_57 : decode cX11_town 57 = .ok (.ifCond .eq 80, 3) := by decide +kernel
theorem dX11_town_60 : decode cX11_town 60 = .ok (.aload_n 0, 1) := by decide +kernel
theorem dX11_town_61 : decode cX11_town 61 = .ok (.invokevirtual 168, 3) := by decide +kernel
theorem dX11_town_64 : decode cX11_town 64 = .ok (.bipush 100, 2) := by decide +kernel
theorem dX11_town_66 : decode cX11_town 66 = .ok (.if_icmp .ne 32, 3) := by decide +kernel
theorem dX11_town_69 : decode cX11_town 69 = .ok (.iload_n 2, 1) := by decide +kernel
theorem dX11_town_70 : decode cX11_town 70 = .ok (.bipush 10, 2) := by decide +kernel
theorem dX11_town_72 : decode cX11_town 72 = .ok (.if_icmp .ne 14, 3) := by decide +kernel
theorem dX11_town_75 : decode cX11_town 75 = .ok (.aload_n 0, 1) := by decide +kernel
theorem dX11_town_76 : decode cX11_town 76 = .ok (.aload_n 0, 1) := by decide +kernel
theorem dX11_town_77 : decode cX11_town 77 = .ok (.getfield 158, 3) := by decide +kernel
theorem dX11_town_80 : decode cX11_town 80 = .ok (.invokevirtual 176, 3) := by decide +kernel
theorem dX11_town_83 : decode cX11_town 83 = .ok (.goto 9, 3) := by decide +kernel
theorem dX11_town_86 : decode cX11_town 86 = .ok (.aload_n 0, 1) := by decide +kernel
theorem dX11_town_87 : decode cX11_town 87 = .ok (.iload_n 2, 1) := by decide +kernel
theorem dX11_town_88 : decode cX11_town 88 = .ok (.iload_n 1, 1) := by decide +kernel
theorem dX11_town_89 : decode cX11_town 89 = .ok (.invokevirtual 188, 3) := by decide +kernel
theorem dX11_town_92 : decode cX11_town 92 = .ok (.iinc 2 1, 3) := by decide +kernel
theorem dX11_town_95 : decode cX11_town 95 = .ok (.goto 28, 3) := by decide +kernel
theorem dX11_town_98 : decode cX11_town 98 = .ok (.iload_n 1, 1) := by decide +kernel
theorem dX11_town_99 : decode cX11_town 99 = .ok (.bipush 8, 2) := by decide +kernel
theorem dX11_town_101 : decode cX11_town 101 = .ok (.if_icmp .ne 14, 3) := by decide +kernel
theorem dX11_town_104 : decode cX11_town 104 = .ok (.aload_n 0, 1) := by decide +kernel
theorem dX11_town_105 : decode cX11_town 105 = .ok (.aload_n 0, 1) := by decide +kernel
theorem dX11_town_106 : decode cX11_town 106 = .ok (.getfield 158, 3) := by decide +kernel
theorem dX11_town_109 : decode cX11_town 109 = .ok (.invokevirtual 176, 3) := by decide +kernel
theorem dX11_town_112 : decode cX11_town 112 = .ok (.goto 11, 3) := by decide +kernel
theorem dX11_town_115 : decode cX11_town 115 = .ok (.aload_n 0, 1) := by decide +kernel
theorem dX11_town_116 : decode cX11_town 116 = .ok (.iload_n 1, 1) := by decide +kernel
theorem dX11_town_117 : decode cX11_town 117 = .ok (.invokevirtual 192, 3) := by decide +kernel
theorem dX11_town_120 : decode cX11_town 120 = .ok (.iinc 1 1, 3) := by decide +kernel
theorem dX11_town_123 : decode cX11_town 123 = .ok (.iinc 3 1, 3) := by decide +kernel
theorem dX11_town_126 : decode cX11_town 126 = .ok (.aload_n 0, 1) := by decide +kernel
theorem dX11_town_127 : decode cX11_town 127 = .ok (.bipush 59, 2) := by decide +kernel
theorem dX11_town_129 : decode cX11_town 129 = .ok (.invokevirtual 172, 3) := by decide +kernel
theorem dX11_town_132 : decode cX11_town 132 = .ok (.istore 4, 2) := by decide +kernel
theorem dX11_town_134 : decode cX11_town 134 = .ok (.goto (-86), 3) := by decide +kernel
theorem dX11_town_137 : decode cX11_town 137 = .ok (.aload_n 0, 1) := by decide +kernel
theorem dX11_town_138 : decode cX11_town 138 = .ok (.getfield 158, 3) := by decide +kernel
theorem dX11_town_141 : decode cX11_town 141 = .ok (.aload_n 0, 1) := by decide +kernel
theorem dX11_town_142 : decode cX11_town 142 = .ok (.getfield 152, 3) := by decide +kernel
theorem dX11_town_145 : decode cX11_town 145 = .ok (.if_icmp .ge 11, 3) := by decide +kernel
theorem dX11_town_148 : decode cX11_town 148 = .ok (.aload_n 0, 1) := by decide +kernel
theorem dX11_town_149 : decode cX11_town 149 = .ok (.aload_n 0, 1) := by decide +kernel
theorem dX11_town_150 : decode cX11_town 150 = .ok (.getfield 158, 3) := by decide +kernel
theorem dX11_town_153 : decode cX11_town 153 = .ok (.invokevirtual 176, 3) := by decide +kernel
theorem dX11_town_156 : decode cX11_town 156 = .ok (.aload_n 0, 1) := by decide +kernel
theorem dX11_town_157 : decode cX11_town 157 = .ok (.invokevirtual 164, 3) := by decide +kernel
theorem dX11_town_160 : decode cX11_town 160 = .ok (.ifCond .ne 10, 3) := by decide +kernel
theorem dX11_town_163 : decode cX11_town 163 = .ok (.iconst (-1), 1) := by decide +kernel
theorem dX11_town_164 : decode cX11_town 164 = .ok (.aload_n 0, 1) := by decide +kernel
theorem dX11_town_165 : decode cX11_town 165 = .ok (.getfield 161, 3) := by decide +kernel
theorem dX11_town_168 : decode cX11_town 168 = .ok (.isub, 1) := by decide +kernel
theorem dX11_town_169 : decode cX11_town 169 = .ok (.ireturn, 1) := by decide +kernel
theorem dX11_town_170 : decode cX11_town 170 = .ok (.aload_n 0, 1) := by decide +kernel
theorem dX11_town_171 : decode cX11_town 171 = .ok (.getfield 132, 3) := by decide +kernel
theorem dX11_town_174 : decode cX11_town 174 = .ok (.istore 5, 2) := by decide +kernel
theorem dX11_town_176 : decode cX11_town 176 = .ok (.iload 5, 2) := by decide +kernel
theorem dX11_town_178 : decode cX11_town 178 = .ok (.iload_n 1, 1) := by decide +kernel
theorem dX11_town_179 : decode cX11_town 179 = .ok (.if_icmp .ge 31, 3) := by decide +kernel
theorem dX11_town_182 : decode cX11_town 182 = .ok (.aload_n 0, 1) := by decide +kernel
theorem dX11_town_183 : decode cX11_town 183 = .ok (.getfield 20, 3) := by decide +kernel
theorem dX11_town_186 : decode cX11_town 186 = .ok (.iload 5, 2) := by decide +kernel
theorem dX11_town_188 : decode cX11_town 188 = .ok (.iconst 0, 1) := by decide +kernel
theorem dX11_town_189 : decode cX11_town 189 = .ok (.iastore, 1) := by decide +kernel
theorem dX11_town_190 : decode cX11_town 190 = .ok (.aload_n 0, 1) := by decide +kernel
theorem dX11_town_191 : decode cX11_town 191 = .ok (.getfield 23, 3) := by decide +kernel
theorem dX11_town_194 : decode cX11_town 194 = .ok (.iload 5, 2) := by decide +kernel
theorem dX11_town_196 : decode cX11_town 196 = .ok (.aload_n 0, 1) := by decide +kernel
theorem dX11_town_197 : decode cX11_town 197 = .ok (.getfield 9, 3) := by decide +kernel
theorem dX11_town_200 : decode cX11_town 200 = .ok (.iload 5, 2) := by decide +kernel
theorem dX11_town_202 : decode cX11_town 202 = .ok (.iaload, 1) := by decide +kernel
theorem dX11_town_203 : decode cX11_town 203 = .ok (.iastore, 1) := by decide +kernel
theorem dX11_town_204 : decode cX11_town 204 = .ok (.iinc 5 1, 3) := by decide +kernel
theorem dX11_town_207 : decode cX11_town 207 = .ok (.goto (-31), 3) := by decide +kernel
theorem dX11_town_210 : decode cX11_town 210 = .ok (.aload_n 0, 1) := by decide +kernel
theorem dX11_town_211 : decode cX11_town 211 = .ok (.getfield 139, 3) := by decide +kernel
theorem dX11_town_214 : decode cX11_town 214 = .ok (.istore 5, 2) := by decide +kernel
theorem dX11_town_216 : decode cX11_town 216 = .ok (.iload 5, 2) := by decide +kernel
theorem dX11_town_218 : decode cX11_town 218 = .ok (.iload_n 2, 1) := by decide +kernel
theorem dX11_town_219 : decode cX11_town 219 = .ok (.if_icmp .ge 25, 3) := by decide +kernel
theorem dX11_town_222 : decode cX11_town 222 = .ok (.aload_n 0, 1) := by decide +kernel
theorem dX11_town_223 : decode cX11_town 223 = .ok (.getfield 41, 3) := by decide +kernel
theorem dX11_town_226 : decode cX11_town 226 = .ok (.iload 5, 2) := by decide +kernel
theorem dX11_town_228 : decode cX11_town 228 = .ok (.iconst 0, 1) := by decide +kernel
theorem dX11_town_229 : decode cX11_town 229 = .ok (.iastore, 1) := by decide +kernel
theorem dX11_town_230 : decode cX11_town 230 = .ok (.aload_n 0, 1) := by decide +kernel
theorem dX11_town_231 : decode cX11_town 231 = .ok (.getfield 44, 3) := by decide +kernel
theorem dX11_town_234 : decode cX11_town 234 = .ok (.iload 5, 2) := by decide +kernel
theorem dX11_town_236 : decode cX11_town 236 = .ok (.iconst (-1), 1) := by decide +kernel
theorem dX11_town_237 : decode cX11_town 237 = .ok (.iastore, 1) := by decide +kernel
theorem dX11_town_238 : decode cX11_town 238 = .ok (.iinc 5 1, 3) := by decide +kernel
theorem dX11_town_241 : decode cX11_town 241 = .ok (.goto (-25), 3) := by decide +kernel
theorem dX11_town_244 : decode cX11_town 244 = .ok (.aload_n 0, 1) := by decide +kernel
theorem dX11_town_245 : decode cX11_town 245 = .ok (.iload_n 1, 1) := by decide +kernel
theorem dX11_town_246 : decode cX11_town 246 = .ok (.putfield 132, 3) := by decide +kernel
theorem dX11_town_249 : decode cX11_town 249 = .ok (.aload_n 0, 1) := by decide +kernel
theorem dX11_town_250 : decode cX11_town 250 = .ok (.iload_n 2, 1) := by decide +kernel
theorem dX11_town_251 : decode cX11_town 251 = .ok (.putfield 139, 3) := by decide +kernel
theorem dX11_town_254 : decode cX11_town 254 = .ok (.aload_n 0, 1) := by decide +kernel
theorem dX11_town_255 : decode cX11_town 255 = .ok (.dup, 1) := by decide +kernel
theorem dX11_town_256 : decode cX11_town 256 = .ok (.getfield 195, 3) := by decide +kernel
theorem dX11_town_259 : decode cX11_town 259 = .ok (.iconst 1, 1) := by decide +kernel
theorem dX11_town_260 : decode cX11_town 260 = .ok (.iadd, 1) := by decide +kernel
theorem dX11_town_261 : decode cX11_town 261 = .ok (.putfield 195, 3) := by decide +kernel
theorem dX11_town_264 : decode cX11_town 264 = .ok (.aload_n 0, 1) := by decide +kernel
theorem dX11_town_265 : decode cX11_town 265 = .ok (.iconst 0, 1) := by decide +kernel
theorem dX11_town_266 : decode cX11_town 266 = .ok (.putfield 198, 3) := by decide +kernel
theorem dX11_town_269 : decode cX11_town 269 = .ok (.iload_n 3, 1) := by decide +kernel
theorem dX11_town_270 : decode cX11_town 270 = .ok (.ireturn, 1) := by decide +kernel
theorem dX11_readOne_0 : decode cX11_readOne 0 = .ok (.aload_n 0, 1) := by decide +kernel
theorem dX11_readOne_1 : decode cX11_readOne 1 = .ok (.getfield 9, 3) := by decide +kernel
theorem dX11_readOne_4 : decode cX11_readOne 4 = .ok (.iload_n 1, 1) := by decide +kernel
theorem dX11_readOne_5 : decode cX11_readOne 5 = .ok (.aload_n 0, 1) := by decide +kernel
theorem dX11_readOne_6 : decode cX11_readOne 6 = .ok (.iconst 3, 1) := by decide +kernel
theorem dX11_readOne_7 : decode cX11_readOne 7 = .ok (.iconst 0, 1) := by decide +kernel
theorem dX11_readOne_8 : decode cX11_readOne 8 = .ok (.sipush 999, 3) := by decide +kernel
theorem dX11_readOne_11 : decode cX11_readOne 11 = .ok (.invokevirtual 201, 3) := by decide +kernel
theorem dX11_readOne_14 : decode cX11_readOne 14 = .ok (.iastore, 1) := by decide +kernel
theorem dX11_readOne_15 : decode cX11_readOne 15 = .ok (.aload_n 0, 1) := by decide +kernel
theorem dX11_readOne_16 : decode cX11_readOne 16 = .ok (.bipush 44, 2) := by decide +kernel
theorem dX11_readOne_18 : decode cX11_readOne 18 = .ok (.invokevirtual 205, 3) := by decide +kernel
theorem dX11_readOne_21 : decode cX11_readOne 21 = .ok (.aload_n 0, 1) := by decide +kernel
theorem dX11_readOne_22 : decode cX11_readOne 22 = .ok (.getfield 13, 3) := by decide +kernel
theorem dX11_readOne_25 : decode cX11_readOne 25 = .ok (.iload_n 1, 1) := by decide +kernel
theorem dX11_readOne_26 : decode cX11_readOne 26 = .ok (.aload_n 0, 1) := by decide +kernel
theorem dX11_readOne_27 : decode cX11_readOne 27 = .ok (.iconst 2, 1) := by decide +kernel
theorem dX11_readOne_28 : decode cX11_readOne 28 = .ok (.iconst 0, 1) := by decide +kernel
theorem dX11_readOne_29 : decode cX11_readOne 29 = .ok (.bipush 99, 2) := by decide +kernel
theorem dX11_readOne_31 : decode cX11_readOne 31 = .ok (.invokevirtual 201, 3) := by decide +kernel
theorem dX11_readOne_34 : decode cX11_readOne 34 = .ok (.iastore, 1) := by decide +kernel
theorem dX11_readOne_35 : decode cX11_readOne 35 = .ok (.aload_n 0, 1) := by decide +kernel
theorem dX11_readOne_36 : decode cX11_readOne 36 = .ok (.getfield 16, 3) := by decide +kernel
theorem dX11_readOne_39 : decode cX11_readOne 39 = .ok (.iload_n 1, 1) := by decide +kernel
theorem dX11_readOne_40 : decode cX11_readOne 40 = .ok (.aload_n 0, 1) := by decide +kernel
theorem dX11_readOne_41 : decode cX11_readOne 41 = .ok (.bipush 33, 2) := by decide +kernel
theorem dX11_readOne_43 : decode cX11_readOne 43 = .ok (.invokevirtual 172, 3) := by decide +kernel
theorem dX11_readOne_46 : decode cX11_readOne 46 = .ok (.bastore, 1) := by decide +kernel
theorem dX11_readOne_47 : decode cX11_readOne 47 = .ok (.return_, 1) := by decide +kernel
theorem dX11_readDebt_0 : decode cX11_readDebt 0 = .ok (.aload_n 0, 1) := by decide +kernel
theorem dX11_readDebt_1 : decode cX11_readDebt 1 = .ok (.dup, 1) := by decide +kernel
theorem dX11_readDebt_2 : decode cX11_readDebt 2 = .ok (.getfield 158, 3) := by decide +kernel
theorem dX11_readDebt_5 : decode cX11_readDebt 5 = .ok (.iconst 1, 1) := by decide +kernel
theorem dX11_readDebt_6 : decode cX11_readDebt 6 = .ok (.iadd, 1) := by decide +kernel
theorem dX11_readDebt_7 : decode cX11_readDebt 7 = .ok (.putfield 158, 3) := by decide +kernel
theorem dX11_readDebt_10 : decode cX11_readDebt 10 = .ok (.aload_n 0, 1) := by decide +kernel
theorem dX11_readDebt_11 : decode cX11_readDebt 11 = .ok (.getfield 29, 3) := by decide +kernel
theorem dX11_readDebt_14 : decode cX11_readDebt 14 = .ok (.iload_n 1, 1) := by decide +kernel
theorem dX11_readDebt_15 : decode cX11_readDebt 15 = .ok (.aload_n 0, 1) := by decide +kernel
theorem dX11_readDebt_16 : decode cX11_readDebt 16 = .ok (.iconst 1, 1) := by decide +kernel
theorem dX11_readDebt_17 : decode cX11_readDebt 17 = .ok (.iconst 0, 1) := by decide +kernel
theorem dX11_readDebt_18 : decode cX11_readDebt 18 = .ok (.iload_n 2, 1) := by decide +kernel
theorem dX11_readDebt_19 : decode cX11_readDebt 19 = .ok (.iconst 1, 1) := by decide +kernel
theorem dX11_readDebt_20 : decode cX11_readDebt 20 = .ok (.isub, 1) := by decide +kernel
theorem dX11_readDebt_21 : decode cX11_readDebt 21 = .ok (.invokevirtual 201, 3) := by decide +kernel
theorem dX11_readDebt_24 : decode cX11_readDebt 24 = .ok (.iastore, 1) := by decide +kernel
theorem dX11_readDebt_25 : decode cX11_readDebt 25 = .ok (.aload_n 0, 1) := by decide +kernel
theorem dX11_readDebt_26 : decode cX11_readDebt 26 = .ok (.bipush 62, 2) := by decide +kernel
theorem dX11_readDebt_28 : decode cX11_readDebt 28 = .ok (.invokevirtual 205, 3) := by decide +kernel
theorem dX11_readDebt_31 : decode cX11_readDebt 31 = .ok (.aload_n 0, 1) := by decide +kernel
theorem dX11_readDebt_32 : decode cX11_readDebt 32 = .ok (.getfield 32, 3) := by decide +kernel
theorem dX11_readDebt_35 : decode cX11_readDebt 35 = .ok (.iload_n 1, 1) := by decide +kernel
theorem dX11_readDebt_36 : decode cX11_readDebt 36 = .ok (.aload_n 0, 1) := by decide +kernel
theorem dX11_readDebt_37 : decode cX11_readDebt 37 = .ok (.iconst 1, 1) := by decide +kernel
theorem dX11_readDebt_38 : decode cX11_readDebt 38 = .ok (.iconst 0, 1) := by decide +kernel
theorem dX11_readDebt_39 : decode cX11_readDebt 39 = .ok (.iload_n 2, 1) := by decide +kernel
theorem dX11_readDebt_40 : decode cX11_readDebt 40 = .ok (.iconst 1, 1) := by decide +kernel
theorem dX11_readDebt_41 : decode cX11_readDebt 41 = .ok (.isub, 1) := by decide +kernel
theorem dX11_readDebt_42 : decode cX11_readDebt 42 = .ok (.invokevirtual 201, 3) := by decide +kernel
theorem dX11_readDebt_45 : decode cX11_readDebt 45 = .ok (.iastore, 1) := by decide +kernel
theorem dX11_readDebt_46 : decode cX11_readDebt 46 = .ok (.aload_n 0, 1) := by decide +kernel
theorem dX11_readDebt_47 : decode cX11_readDebt 47 = .ok (.invokevirtual 164, 3) := by decide +kernel
theorem dX11_readDebt_50 : decode cX11_readDebt 50 = .ok (.ifCond .eq 28, 3) := by decide +kernel
theorem dX11_readDebt_53 : decode cX11_readDebt 53 = .ok (.aload_n 0, 1) := by decide +kernel
theorem dX11_readDebt_54 : decode cX11_readDebt 54 = .ok (.getfield 32, 3) := by decide +kernel
theorem dX11_readDebt_57 : decode cX11_readDebt 57 = .ok (.iload_n 1, 1) := by decide +kernel
theorem dX11_readDebt_58 : decode cX11_readDebt 58 = .ok (.iaload, 1) := by decide +kernel
theorem dX11_readDebt_59 : decode cX11_readDebt 59 = .ok (.aload_n 0, 1) := by decide +kernel
theorem dX11_readDebt_60 : decode cX11_readDebt 60 = .ok (.getfield 29, 3) := by decide +kernel
theorem dX11_readDebt_63 : decode cX11_readDebt 63 = .ok (.iload_n 1, 1) := by decide +kernel
theorem dX11_readDebt_64 : decode cX11_readDebt 64 = .ok (.iaload, 1) := by decide +kernel
theorem dX11_readDebt_65 : decode cX11_readDebt 65 = .ok (.if_icmp .ne 13, 3) := by decide +kernel
theorem dX11_readDebt_68 : decode cX11_readDebt 68 = .ok (.aload_n 0, 1) := by decide +kernel
theorem dX11_readDebt_69 : decode cX11_readDebt 69 = .ok (.aload_n 0, 1) := by decide +kernel
theorem dX11_readDebt_70 : decode cX11_readDebt 70 = .ok (.getfield 158, 3) := by decide +kernel
theorem dX11_readDebt_73 : decode cX11_readDebt 73 = .ok (.iconst 1, 1) := by decide +kernel
theorem dX11_readDebt_74 : decode cX11_readDebt 74 = .ok (.isub, 1) := by decide +kernel
theorem dX11_readDebt_75 : decode cX11_readDebt 75 = .ok (.invokevirtual 176, 3) := by decide +kernel
theorem dX11_readDebt_78 : decode cX11_readDebt 78 = .ok (.aload_n 0, 1) := by decide +kernel
theorem dX11_readDebt_79 : decode cX11_readDebt 79 = .ok (.bipush 42, 2) := by decide +kernel
theorem dX11_readDebt_81 : decode cX11_readDebt 81 = .ok (.invokevirtual 205, 3) := by decide +kernel
theorem dX11_readDebt_84 : decode cX11_readDebt 84 = .ok (.aload_n 0, 1) := by decide +kernel
theorem dX11_readDebt_85 : decode cX11_readDebt 85 = .ok (.getfield 35, 3) := by decide +kernel
theorem dX11_readDebt_88 : decode cX11_readDebt 88 = .ok (.iload_n 1, 1) := by decide +kernel
theorem dX11_readDebt_89 : decode cX11_readDebt 89 = .ok (.aload_n 0, 1) := by decide +kernel
theorem dX11_readDebt_90 : decode cX11_readDebt 90 = .ok (.iconst 2, 1) := by decide +kernel
theorem dX11_readDebt_91 : decode cX11_readDebt 91 = .ok (.iconst 1, 1) := by decide +kernel
theorem dX11_readDebt_92 : decode cX11_readDebt 92 = .ok (.bipush 99, 2) := by decide +kernel
theorem dX11_readDebt_94 : decode cX11_readDebt 94 = .ok (.invokevirtual 201, 3) := by decide +kernel
theorem dX11_readDebt_97 : decode cX11_readDebt 97 = .ok (.iastore, 1) := by decide +kernel
theorem dX11_readDebt_98 : decode cX11_readDebt 98 = .ok (.aload_n 0, 1) := by decide +kernel
theorem dX11_readDebt_99 : decode cX11_readDebt 99 = .ok (.bipush 64, 2) := by decide +kernel
theorem dX11_readDebt_101 : decode cX11_readDebt 101 = .ok (.invokevirtual 205, 3) := by decide +kernel
theorem dX11_readDebt_104 : decode cX11_readDebt 104 = .ok (.aload_n 0, 1) := by decide +kernel
theorem dX11_readDebt_105 : decode cX11_readDebt 105 = .ok (.getfield 38, 3) := by decide +kernel
theorem dX11_readDebt_108 : decode cX11_readDebt 108 = .ok (.iload_n 1, 1) := by decide +kernel
theorem dX11_readDebt_109 : decode cX11_readDebt 109 = .ok (.aload_n 0, 1) := by decide +kernel
theorem dX11_readDebt_110 : decode cX11_readDebt 110 = .ok (.iconst 2, 1) := by decide +kernel
theorem dX11_readDebt_111 : decode cX11_readDebt 111 = .ok (.iconst 0, 1) := by decide +kernel
theorem dX11_readDebt_112 : decode cX11_readDebt 112 = .ok (.bipush 99, 2) := by decide +kernel
theorem dX11_readDebt_114 : decode cX11_readDebt 114 = .ok (.invokevirtual 201, 3) := by decide +kernel
theorem dX11_readDebt_117 : decode cX11_readDebt 117 = .ok (.iastore, 1) := by decide +kernel
theorem dX11_readDebt_118 : decode cX11_readDebt 118 = .ok (.return_, 1) := by decide +kernel
theorem dX11_held_0 : decode cX11_held 0 = .ok (.aload_n 0, 1) := by decide +kernel
theorem dX11_held_1 : decode cX11_held 1 = .ok (.iload_n 1, 1) := by decide +kernel
theorem dX11_held_2 : decode cX11_held 2 = .ok (.invokevirtual 209, 3) := by decide +kernel
theorem dX11_held_5 : decode cX11_held 5 = .ok (.istore_n 2, 1) := by decide +kernel
theorem dX11_held_6 : decode cX11_held 6 = .ok (.aload_n 0, 1) := by decide +kernel
theorem dX11_held_7 : decode cX11_held 7 = .ok (.bipush 60, 2) := by decide +kernel
theorem dX11_held_9 : decode cX11_held 9 = .ok (.invokevirtual 172, 3) := by decide +kernel
theorem dX11_held_12 : decode cX11_held 12 = .ok (.ifCond .eq 18, 3) := by decide +kernel
theorem dX11_held_15 : decode cX11_held 15 = .ok (.iload_n 2, 1) := by decide +kernel
theorem dX11_held_16 : decode cX11_held 16 = .ok (.aload_n 0, 1) := by decide +kernel
theorem dX11_held_17 : decode cX11_held 17 = .ok (.iload_n 1, 1) := by decide +kernel
theorem dX11_held_18 : decode cX11_held 18 = .ok (.invokevirtual 209, 3) := by decide +kernel
theorem dX11_held_21 : decode cX11_held 21 = .ok (.if_icmp .ge 7, 3) := by decide +kernel
theorem dX11_held_24 : decode cX11_held 24 = .ok (.iconst 1, 1) := by decide +kernel
theorem dX11_held_25 : decode cX11_held 25 = .ok (.goto 4, 3) := by decide +kernel
theorem dX11_held_28 : decode cX11_held 28 = .ok (.iconst 0, 1) := by decide +kernel
theorem dX11_held_29 : decode cX11_held 29 = .ok (.ireturn, 1) := by decide +kernel
theorem dX11_held_30 : decode cX11_held 30 = .ok (.aload_n 0, 1) := by decide +kernel
theorem dX11_held_31 : decode cX11_held 31 = .ok (.bipush 62, 2) := by decide +kernel
theorem dX11_held_33 : decode cX11_held 33 = .ok (.invokevirtual 172, 3) := by decide +kernel
theorem dX11_held_36 : decode cX11_held 36 = .ok (.ifCond .eq 18, 3) := by decide +kernel
theorem dX11_held_39 : decode cX11_held 39 = .ok (.iload_n 2, 1) := by decide +kernel
theorem dX11_held_40 : decode cX11_held 40 = .ok (.aload_n 0, 1) := by decide +kernel
theorem dX11_held_41 : decode cX11_held 41 = .ok (.iload_n 1, 1) := by decide +kernel
theorem dX11_held_42 : decode cX11_held 42 = .ok (.invokevirtual 209, 3) := by decide +kernel
theorem dX11_held_45 : decode cX11_held 45 = .ok (.if_icmp .le 7, 3) := by decide +kernel
theorem dX11_held_48 : decode cX11_held 48 = .ok (.iconst 1, 1) := by decide +kernel
theorem dX11_held_49 : decode cX11_held 49 = .ok (.goto 4, 3) := by decide +kernel
theorem dX11_held_52 : decode cX11_held 52 = .ok (.iconst 0, 1) := by decide +kernel
theorem dX11_held_53 : decode cX11_held 53 = .ok (.ireturn, 1) := by decide +kernel
theorem dX11_held_54 : decode cX11_held 54 = .ok (.aload_n 0, 1) := by decide +kernel
theorem dX11_held_55 : decode cX11_held 55 = .ok (.bipush 61, 2) := by decide +kernel
theorem dX11_held_57 : decode cX11_held 57 = .ok (.invokevirtual 172, 3) := by decide +kernel
theorem dX11_held_60 : decode cX11_held 60 = .ok (.ifCond .eq 18, 3) := by decide +kernel
theorem dX11_held_63 : decode cX11_held 63 = .ok (.iload_n 2, 1) := by decide +kernel
theorem dX11_held_64 : decode cX11_held 64 = .ok (.aload_n 0, 1) := by decide +kernel
theorem dX11_held_65 : decode cX11_held 65 = .ok (.iload_n 1, 1) := by decide +kernel
theorem dX11_held_66 : decode cX11_held 66 = .ok (.invokevirtual 209, 3) := by decide +kernel
theorem dX11_held_69 : decode cX11_held 69 = .ok (.if_icmp .ne 7, 3) := by decide +kernel
theorem dX11_held_72 : decode cX11_held 72 = .ok (.iconst 1, 1) := by decide +kernel
theorem dX11_held_73 : decode cX11_held 73 = .ok (.goto 4, 3) := by decide +kernel
theorem dX11_held_76 : decode cX11_held 76 = .ok (.iconst 0, 1) := by decide +kernel
theorem dX11_held_77 : decode cX11_held 77 = .ok (.ireturn, 1) := by decide +kernel
theorem dX11_held_78 : decode cX11_held 78 = .ok (.iload_n 2, 1) := by decide +kernel
theorem dX11_held_79 : decode cX11_held 79 = .ok (.ireturn, 1) := by decide +kernel
theorem dX11_sum_0 : decode cX11_sum 0 = .ok (.aload_n 0, 1) := by decide +kernel
theorem dX11_sum_1 : decode cX11_sum 1 = .ok (.iload_n 1, 1) := by decide +kernel
theorem dX11_sum_2 : decode cX11_sum 2 = .ok (.invokevirtual 213, 3) := by decide +kernel
theorem dX11_sum_5 : decode cX11_sum 5 = .ok (.istore_n 2, 1) := by decide +kernel
theorem dX11_sum_6 : decode cX11_sum 6 = .ok (.aload_n 0, 1) := by decide +kernel
theorem dX11_sum_7 : decode cX11_sum 7 = .ok (.invokevirtual 164, 3) := by decide +kernel
theorem dX11_sum_10 : decode cX11_sum 10 = .ok (.ifCond .eq 72, 3) := by decide +kernel
theorem dX11_sum_13 : decode cX11_sum 13 = .ok (.aload_n 0, 1) := by decide +kernel
theorem dX11_sum_14 : decode cX11_sum 14 = .ok (.invokevirtual 168, 3) := by decide +kernel
theorem dX11_sum_17 : decode cX11_sum 17 = .ok (.bipush 43, 2) := by decide +kernel
theorem dX11_sum_19 : decode cX11_sum 19 = .ok (.if_icmp .eq 12, 3) := by decide +kernel
theorem dX11_sum_22 : decode cX11_sum 22 = .ok (.aload_n 0, 1) := by decide +kernel
theorem dX11_sum_23 : decode cX11_sum 23 = .ok (.invokevirtual 168, 3) := by decide +kernel
theorem dX11_sum_26 : decode cX11_sum 26 = .ok (.bipush 45, 2) := by decide +kernel
theorem dX11_sum_28 : decode cX11_sum 28 = .ok (.if_icmp .ne 54, 3) := by decide +kernel
theorem dX11_sum_31 : decode cX11_sum 31 = .ok (.aload_n 0, 1) := by decide +kernel
theorem dX11_sum_32 : decode cX11_sum 32 = .ok (.invokevirtual 168, 3) := by decide +kernel
theorem dX11_sum_35 : decode cX11_sum 35 = .ok (.bipush 43, 2) := by decide +kernel
theorem dX11_sum_37 : decode cX11_sum 37 = .ok (.if_icmp .ne 7, 3) := by decide +kernel
theorem dX11_sum_40 : decode cX11_sum 40 = .ok (.iconst 1, 1) := by decide +kernel
theorem dX11_sum_41 : decode cX11_sum 41 = .ok (.goto 4, 3) := by decide +kernel
theorem dX11_sum_44 : decode cX11_sum 44 = .ok (.iconst 0, 1) := by decide +kernel
theorem dX11_sum_45 : decode cX11_sum 45 = .ok (.istore_n 3, 1) := by decide +kernel
theorem dX11_sum_46 : decode cX11_sum 46 = .ok (.aload_n 0, 1) := by decide +kernel
theorem dX11_sum_47 : decode cX11_sum 47 = .ok (.dup, 1) := by decide +kernel
theorem dX11_sum_48 : decode cX11_sum 48 = .ok (.getfield 158, 3) := by decide +kernel
theorem dX11_sum_51 : decode cX11_sum 51 = .ok (.iconst 1, 1) := by decide +kernel
theorem dX11_sum_52 : decode cX11_sum 52 = .ok (.iadd, 1) := by decide +kernel
theorem dX11_sum_53 : decode cX11_sum 53 = .ok (.putfield 158, 3) := by decide +kernel
theorem dX11_sum_56 : decode cX11_sum 56 = .ok (.aload_n 0, 1) := by decide +kernel
theorem dX11_sum_57 : decode cX11_sum 57 = .ok (.iload_n 1, 1) := by decide +kernel
theorem dX11_sum_58 : decode cX11_sum 58 = .ok (.invokevirtual 213, 3) := by decide +kernel
theorem dX11_sum_61 : decode cX11_sum 61 = .ok (.istore 4, 2) := by decide +kernel
theorem dX11_sum_63 : decode cX11_sum 63 = .ok (.iload_n 3, 1) := by decide +kernel
theorem dX11_sum_64 : decode cX11_sum 64 = .ok (.ifCond .eq 10, 3) := by decide +kernel
theorem dX11_sum_67 : decode cX11_sum 67 = .ok (.iload_n 2, 1) := by decide +kernel
theorem dX11_sum_68 : decode cX11_sum 68 = .ok (.iload 4, 2) := by decide +kernel
theorem dX11_sum_70 : decode cX11_sum 70 = .ok (.iadd, 1) := by decide +kernel
theorem dX11_sum_71 : decode cX11_sum 71 = .ok (.goto 7, 3) := by decide +kernel
theorem dX11_sum_74 : decode cX11_sum 74 = .ok (.iload_n 2, 1) := by decide +kernel
theorem dX11_sum_75 : decode cX11_sum 75 = .ok (.iload 4, 2) := by decide +kernel
theorem dX11_sum_77 : decode cX11_sum 77 = .ok (.isub, 1) := by decide +kernel
theorem dX11_sum_78 : decode cX11_sum 78 = .ok (.istore_n 2, 1) := by decide +kernel
theorem dX11_sum_79 : decode cX11_sum 79 = .ok (.goto (-73), 3) := by decide +kernel
theorem dX11_sum_82 : decode cX11_sum 82 = .ok (.iload_n 2, 1) := by decide +kernel
theorem dX11_sum_83 : decode cX11_sum 83 = .ok (.ireturn, 1) := by decide +kernel
theorem dX11_product_0 : decode cX11_product 0 = .ok (.aload_n 0, 1) := by decide +kernel
theorem dX11_product_1 : decode cX11_product 1 = .ok (.iload_n 1, 1) := by decide +kernel
theorem dX11_product_2 : decode cX11_product 2 = .ok (.invokevirtual 216, 3) := by decide +kernel
theorem dX11_product_5 : decode cX11_product 5 = .ok (.istore_n 2, 1) := by decide +kernel
theorem dX11_product_6 : decode cX11_product 6 = .ok (.aload_n 0, 1) := by decide +kernel
theorem dX11_product_7 : decode cX11_product 7 = .ok (.invokevirtual 164, 3) := by decide +kernel
theorem dX11_product_10 : decode cX11_product 10 = .ok (.ifCond .eq 81, 3) := by decide +kernel
theorem dX11_product_13 : decode cX11_product 13 = .ok (.aload_n 0, 1) := by decide +kernel
theorem dX11_product_14 : decode cX11_product 14 = .ok (.invokevirtual 168, 3) := by decide +kernel
theorem dX11_product_17 : decode cX11_product 17 = .ok (.bipush 42, 2) := by decide +kernel
theorem dX11_product_19 : decode cX11_product 19 = .ok (.if_icmp .eq 12, 3) := by decide +kernel
theorem dX11_product_22 : decode cX11_product 22 = .ok (.aload_n 0, 1) := by decide +kernel
theorem dX11_product_23 : decode cX11_product 23 = .ok (.invokevirtual 168, 3) := by decide +kernel
theorem dX11_product_26 : decode cX11_product 26 = .ok (.bipush 47, 2) := by decide +kernel
theorem dX11_product_28 : decode cX11_product 28 = .ok (.if_icmp .ne 63, 3) := by decide +kernel
theorem dX11_product_31 : decode cX11_product 31 = .ok (.aload_n 0, 1) := by decide +kernel
theorem dX11_product_32 : decode cX11_product 32 = .ok (.invokevirtual 168, 3) := by decide +kernel
theorem dX11_product_35 : decode cX11_product 35 = .ok (.bipush 42, 2) := by decide +kernel
theorem dX11_product_37 : decode cX11_product 37 = .ok (.if_icmp .ne 7, 3) := by decide +kernel
theorem dX11_product_40 : decode cX11_product 40 = .ok (.iconst 1, 1) := by decide +kernel
theorem dX11_product_41 : decode cX11_product 41 = .ok (.goto 4, 3) := by decide +kernel
theorem dX11_product_44 : decode cX11_product 44 = .ok (.iconst 0, 1) := by decide +kernel
theorem dX11_product_45 : decode cX11_product 45 = .ok (.istore_n 3, 1) := by decide +kernel
theorem dX11_product_46 : decode cX11_product 46 = .ok (.aload_n 0, 1) := by decide +kernel
theorem dX11_product_47 : decode cX11_product 47 = .ok (.dup, 1) := by decide +kernel
theorem dX11_product_48 : decode cX11_product 48 = .ok (.getfield 158, 3) := by decide +kernel
theorem dX11_product_51 : decode cX11_product 51 = .ok (.iconst 1, 1) := by decide +kernel
theorem dX11_product_52 : decode cX11_product 52 = .ok (.iadd, 1) := by decide +kernel
theorem dX11_product_53 : decode cX11_product 53 = .ok (.putfield 158, 3) := by decide +kernel
theorem dX11_product_56 : decode cX11_product 56 = .ok (.aload_n 0, 1) := by decide +kernel
theorem dX11_product_57 : decode cX11_product 57 = .ok (.iload_n 1, 1) := by decide +kernel
theorem dX11_product_58 : decode cX11_product 58 = .ok (.invokevirtual 216, 3) := by decide +kernel
theorem dX11_product_61 : decode cX11_product 61 = .ok (.istore 4, 2) := by decide +kernel
theorem dX11_product_63 : decode cX11_product 63 = .ok (.iload_n 3, 1) := by decide +kernel
theorem dX11_product_64 : decode cX11_product 64 = .ok (.ifCond .eq 10, 3) := by decide +kernel
theorem dX11_product_67 : decode cX11_product 67 = .ok (.iload_n 2, 1) := by decide +kernel
theorem dX11_product_68 : decode cX11_product 68 = .ok (.iload 4, 2) := by decide +kernel
theorem dX11_product_70 : decode cX11_product 70 = .ok (.imul, 1) := by decide +kernel
theorem dX11_product_71 : decode cX11_product 71 = .ok (.goto 16, 3) := by decide +kernel
theorem dX11_product_74 : decode cX11_product 74 = .ok (.iload 4, 2) := by decide +kernel
theorem dX11_product_76 : decode cX11_product 76 = .ok (.ifCond .ne 7, 3) := by decide +kernel
theorem dX11_product_79 : decode cX11_product 79 = .ok (.iconst 0, 1) := by decide +kernel
theorem dX11_product_80 : decode cX11_product 80 = .ok (.goto 7, 3) := by decide +kernel
theorem dX11_product_83 : decode cX11_product 83 = .ok (.iload_n 2, 1) := by decide +kernel
theorem dX11_product_84 : decode cX11_product 84 = .ok (.iload 4, 2) := by decide +kernel
theorem dX11_product_86 : decode cX11_product 86 = .ok (.idiv, 1) := by decide +kernel
theorem dX11_product_87 : decode cX11_product 87 = .ok (.istore_n 2, 1) := by decide +kernel
theorem dX11_product_88 : decode cX11_product 88 = .ok (.goto (-82), 3) := by decide +kernel
theorem dX11_product_91 : decode cX11_product 91 = .ok (.iload_n 2, 1) := by decide +kernel
theorem dX11_product_92 : decode cX11_product 92 = .ok (.ireturn, 1) := by decide +kernel
theorem dX11_thing_0 : decode cX11_thing 0 = .ok (.aload_n 0, 1) := by decide +kernel
theorem dX11_thing_1 : decode cX11_thing 1 = .ok (.bipush 45, 2) := by decide +kernel
theorem dX11_thing_3 : decode cX11_thing 3 = .ok (.invokevirtual 172, 3) := by decide +kernel
theorem dX11_thing_6 : decode cX11_thing 6 = .ok (.ifCond .eq 10, 3) := by decide +kernel
theorem dX11_thing_9 : decode cX11_thing 9 = .ok (.aload_n 0, 1) := by decide +kernel
theorem dX11_thing_10 : decode cX11_thing 10 = .ok (.iload_n 1, 1) := by decide +kernel
theorem dX11_thing_11 : decode cX11_thing 11 = .ok (.invokevirtual 216, 3) := by decide +kernel
theorem dX11_thing_14 : decode cX11_thing 14 = .ok (.ineg, 1) := by decide +kernel
theorem dX11_thing_15 : decode cX11_thing 15 = .ok (.ireturn, 1) := by decide +kernel
theorem dX11_thing_16 : decode cX11_thing 16 = .ok (.aload_n 0, 1) := by decide +kernel
theorem dX11_thing_17 : decode cX11_thing 17 = .ok (.invokevirtual 164, 3) := by decide +kernel
theorem dX11_thing_20 : decode cX11_thing 20 = .ok (.ifCond .ne 5, 3) := by decide +kernel
theorem dX11_thing_23 : decode cX11_thing 23 = .ok (.iconst 0, 1) := by decide +kernel
theorem dX11_thing_24 : decode cX11_thing 24 = .ok (.ireturn, 1) := by decide +kernel
theorem dX11_thing_25 : decode cX11_thing 25 = .ok (.aload_n 0, 1) := by decide +kernel
theorem dX11_thing_26 : decode cX11_thing 26 = .ok (.invokevirtual 168, 3) := by decide +kernel
theorem dX11_thing_29 : decode cX11_thing 29 = .ok (.istore_n 2, 1) := by decide +kernel
theorem dX11_thing_30 : decode cX11_thing 30 = .ok (.iload_n 2, 1) := by decide +kernel
theorem dX11_thing_31 : decode cX11_thing 31 = .ok (.bipush 40, 2) := by decide +kernel
theorem dX11_thing_33 : decode cX11_thing 33 = .ok (.if_icmp .ne 34, 3) := by decide +kernel
theorem dX11_thing_36 : decode cX11_thing 36 = .ok (.iload_n 1, 1) := by decide +kernel
theorem dX11_thing_37 : decode cX11_thing 37 = .ok (.iconst 4, 1) := by decide +kernel
theorem dX11_thing_38 : decode cX11_thing 38 = .ok (.if_icmp .ge 29, 3) := by decide +kernel
theorem dX11_thing_41 : decode cX11_thing 41 = .ok (.aload_n 0, 1) := by decide +kernel
theorem dX11_thing_42 : decode cX11_thing 42 = .ok (.dup, 1) := by decide +kernel
theorem dX11_thing_43 : decode cX11_thing 43 = .ok (.getfield 158, 3) := by decide +kernel
theorem dX11_thing_46 : decode cX11_thing 46 = .ok (.iconst 1, 1) := by decide +kernel
theorem dX11_thing_47 : decode cX11_thing 47 = .ok (.iadd, 1) := by decide +kernel
theorem dX11_thing_48 : decode cX11_thing 48 = .ok (.putfield 158, 3) := by decide +kernel
theorem dX11_thing_51 : decode cX11_thing 51 = .ok (.aload_n 0, 1) := by decide +kernel
theorem dX11_thing_52 : decode cX11_thing 52 = .ok (.iload_n 1, 1) := by decide +kernel
theorem dX11_thing_53 : decode cX11_thing 53 = .ok (.iconst 1, 1) := by decide +kernel
theorem dX11_thing_54 : decode cX11_thing 54 = .ok (.iadd, 1) := by decide +kernel
theorem dX11_thing_55 : decode cX11_thing 55 = .ok (.invokevirtual 219, 3) := by decide +kernel
theorem dX11_thing_58 : decode cX11_thing 58 = .ok (.istore_n 3, 1) := by decide +kernel
theorem dX11_thing_59 : decode cX11_thing 59 = .ok (.aload_n 0, 1) := by decide +kernel
theorem dX11_thing_60 : decode cX11_thing 60 = .ok (.bipush 41, 2) := by decide +kernel
theorem dX11_thing_62 : decode cX11_thing 62 = .ok (.invokevirtual 205, 3) := by decide +kernel
theorem dX11_thing_65 : decode cX11_thing 65 = .ok (.iload_n 3, 1) := by decide +kernel
theorem dX11_thing_66 : decode cX11_thing 66 = .ok (.ireturn, 1) := by decide +kernel
theorem dX11_thing_67 : decode cX11_thing 67 = .ok (.iload_n 2, 1) := by decide +kernel
theorem dX11_thing_68 : decode cX11_thing 68 = .ok (.i2l, 1) := by decide +kernel
theorem dX11_thing_69 : decode cX11_thing 69 = .ok (.ldc2_w 180, 3) := by decide +kernel
theorem dX11_thing_72 : decode cX11_thing 72 = .ok (.ldc2_w 182, 3) := by decide +kernel
theorem dX11_thing_75 : decode cX11_thing 75 = .ok (.invokestatic 135, 3) := by decide +kernel
theorem dX11_thing_78 : decode cX11_thing 78 = .ok (.ifCond .eq 13, 3) := by decide +kernel
theorem dX11_thing_81 : decode cX11_thing 81 = .ok (.aload_n 0, 1) := by decide +kernel
theorem dX11_thing_82 : decode cX11_thing 82 = .ok (.iconst 3, 1) := by decide +kernel
theorem dX11_thing_83 : decode cX11_thing 83 = .ok (.iconst 0, 1) := by decide +kernel
theorem dX11_thing_84 : decode cX11_thing 84 = .ok (.sipush 999, 3) := by decide +kernel
theorem dX11_thing_87 : decode cX11_thing 87 = .ok (.invokevirtual 201, 3) := by decide +kernel
theorem dX11_thing_90 : decode cX11_thing 90 = .ok (.ireturn, 1) := by decide +kernel
theorem dX11_thing_91 : decode cX11_thing 91 = .ok (.iload_n 2, 1) := by decide +kernel
theorem dX11_thing_92 : decode cX11_thing 92 = .ok (.bipush 105, 2) := by decide +kernel
theorem dX11_thing_94 : decode cX11_thing 94 = .ok (.if_icmp .eq 55, 3) := by decide +kernel
theorem dX11_thing_97 : decode cX11_thing 97 = .ok (.iload_n 2, 1) := by decide +kernel
theorem dX11_thing_98 : decode cX11_thing 98 = .ok (.bipush 99, 2) := by decide +kernel
theorem dX11_thing_100 : decode cX11_thing 100 = .ok (.if_icmp .eq 49, 3) := by decide +kernel
theorem dX11_thing_103 : decode cX11_thing 103 = .ok (.iload_n 2, 1) := by decide +kernel
theorem dX11_thing_104 : decode cX11_thing 104 = .ok (.bipush 97, 2) := by decide +kernel
theorem dX11_thing_106 : decode cX11_thing 106 = .ok (.if_icmp .eq 43, 3) := by decide +kernel
theorem dX11_thing_109 : decode cX11_thing 109 = .ok (.iload_n 2, 1) := by decide +kernel
theorem dX11_thing_110 : decode cX11_thing 110 = .ok (.bipush 115, 2) := by decide +kernel
theorem dX11_thing_112 : decode cX11_thing 112 = .ok (.if_icmp .eq 37, 3) := by decide +kernel
theorem dX11_thing_115 : decode cX11_thing 115 = .ok (.iload_n 2, 1) := by decide +kernel
theorem dX11_thing_116 : decode cX11_thing 116 = .ok (.bipush 112, 2) := by decide +kernel
theorem dX11_thing_118 : decode cX11_thing 118 = .ok (.if_icmp .eq 31, 3) := by decide +kernel
theorem dX11_thing_121 : decode cX11_thing 121 = .ok (.iload_n 2, 1) := by decide +kernel
theorem dX11_thing_122 : decode cX11_thing 122 = .ok (.bipush 102, 2) := by decide +kernel
theorem dX11_thing_124 : decode cX11_thing 124 = .ok (.if_icmp .eq 25, 3) := by decide +kernel
theorem dX11_thing_127 : decode cX11_thing 127 = .ok (.iload_n 2, 1) := by decide +kernel
theorem dX11_thing_128 : decode cX11_thing 128 = .ok (.bipush 111, 2) := by decide +kernel
theorem dX11_thing_130 : decode cX11_thing 130 = .ok (.if_icmp .eq 19, 3) := by decide +kernel
theorem dX11_thing_133 : decode cX11_thing 133 = .ok (.iload_n 2, 1) := by decide +kernel
theorem dX11_thing_134 : decode cX11_thing 134 = .ok (.bipush 103, 2) := by decide +kernel
theorem dX11_thing_136 : decode cX11_thing 136 = .ok (.if_icmp .eq 13, 3) := by decide +kernel
theorem dX11_thing_139 : decode cX11_thing 139 = .ok (.aload_n 0, 1) := by decide +kernel
theorem dX11_thing_140 : decode cX11_thing 140 = .ok (.aload_n 0, 1) := by decide +kernel
theorem dX11_thing_141 : decode cX11_thing 141 = .ok (.getfield 158, 3) := by decide +kernel
theorem dX11_thing_144 : decode cX11_thing 144 = .ok (.invokevirtual 176, 3) := by decide +kernel
theorem dX11_thing_147 : decode cX11_thing 147 = .ok (.iconst 0, 1) := by decide +kernel
theorem dX11_thing_148 : decode cX11_thing 148 = .ok (.ireturn, 1) := by decide +kernel
theorem dX11_thing_149 : decode cX11_thing 149 = .ok (.aload_n 0, 1) := by decide +kernel
theorem dX11_thing_150 : decode cX11_thing 150 = .ok (.dup, 1) := by decide +kernel
theorem dX11_thing_151 : decode cX11_thing 151 = .ok (.getfield 158, 3) := by decide +kernel
theorem dX11_thing_154 : decode cX11_thing 154 = .ok (.iconst 1, 1) := by decide +kernel
theorem dX11_thing_155 : decode cX11_thing 155 = .ok (.iadd, 1) := by decide +kernel
theorem dX11_thing_156 : decode cX11_thing 156 = .ok (.putfield 158, 3) := by decide +kernel
theorem dX11_thing_159 : decode cX11_thing 159 = .ok (.aload_n 0, 1) := by decide +kernel
theorem dX11_thing_160 : decode cX11_thing 160 = .ok (.getfield 65, 3) := by decide +kernel
theorem dX11_thing_163 : decode cX11_thing 163 = .ok (.iconst (-1), 1) := by decide +kernel
theorem dX11_thing_164 : decode cX11_thing 164 = .ok (.if_icmp .ne 7, 3) := by decide +kernel
theorem dX11_thing_167 : decode cX11_thing 167 = .ok (.iconst 0, 1) := by decide +kernel
theorem dX11_thing_168 : decode cX11_thing 168 = .ok (.goto 8, 3) := by decide +kernel
theorem dX11_thing_171 : decode cX11_thing 171 = .ok (.aload_n 0, 1) := by decide +kernel
theorem dX11_thing_172 : decode cX11_thing 172 = .ok (.iload_n 2, 1) := by decide +kernel
theorem dX11_thing_173 : decode cX11_thing 173 = .ok (.invokevirtual 222, 3) := by decide +kernel
theorem dX11_thing_176 : decode cX11_thing 176 = .ok (.ireturn, 1) := by decide +kernel
theorem dX11_letter_0 : decode cX11_letter 0 = .ok (.iload_n 1, 1) := by decide +kernel
theorem dX11_letter_1 : decode cX11_letter 1 = .ok (.tableswitch 156 97 115 #[105, 156, 96, 156, 156, 138, 156, 156, 91, 156, 156, 156, 156, 156, 147, 125, 156, 156, 115], 91) := by decide +kernel
theorem dX11_letter_92 : decode cX11_letter 92 = .ok (.aload_n 0, 1) := by decide +kernel
theorem dX11_letter_93 : decode cX11_letter 93 = .ok (.getfield 65, 3) := by decide +kernel
theorem dX11_letter_96 : decode cX11_letter 96 = .ok (.ireturn, 1) := by decide +kernel
theorem dX11_letter_97 : decode cX11_letter 97 = .ok (.aload_n 0, 1) := by decide +kernel
theorem dX11_letter_98 : decode cX11_letter 98 = .ok (.aload_n 0, 1) := by decide +kernel
theorem dX11_letter_99 : decode cX11_letter 99 = .ok (.getfield 65, 3) := by decide +kernel
theorem dX11_letter_102 : decode cX11_letter 102 = .ok (.invokevirtual 225, 3) := by decide +kernel
theorem dX11_letter_105 : decode cX11_letter 105 = .ok (.ireturn, 1) := by decide +kernel
theorem dX11_letter_106 : decode cX11_letter 106 = .ok (.aload_n 0, 1) := by decide +kernel
theorem dX11_letter_107 : decode cX11_letter 107 = .ok (.getfield 13, 3) := by decide +kernel
theorem dX11_letter_110 : decode cX11_letter 110 = .ok (.aload_n 0, 1) := by decide +kernel
theorem dX11_letter_111 : decode cX11_letter 111 = .ok (.getfield 65, 3) := by decide +kernel
theorem dX11_letter_114 : decode cX11_letter 114 = .ok (.iaload, 1) := by decide +kernel
theorem dX11_letter_115 : decode cX11_letter 115 = .ok (.ireturn, 1) := by decide +kernel
theorem dX11_letter_116 : decode cX11_letter 116 = .ok (.aload_n 0, 1) := by decide +kernel
theorem dX11_letter_117 : decode cX11_letter 117 = .ok (.getfield 35, 3) := by decide +kernel
theorem dX11_letter_120 : decode cX11_letter 120 = .ok (.aload_n 0, 1) := by decide +kernel
theorem dX11_letter_121 : decode cX11_letter 121 = .ok (.getfield 228, 3) := by decide +kernel
theorem dX11_letter_124 : decode cX11_letter 124 = .ok (.iaload, 1) := by decide +kernel
theorem dX11_letter_125 : decode cX11_letter 125 = .ok (.ireturn, 1) := by decide +kernel
theorem dX11_letter_126 : decode cX11_letter 126 = .ok (.aload_n 0, 1) := by decide +kernel
theorem dX11_letter_127 : decode cX11_letter 127 = .ok (.aload_n 0, 1) := by decide +kernel
theorem dX11_letter_128 : decode cX11_letter 128 = .ok (.getfield 65, 3) := by decide +kernel
theorem dX11_letter_131 : decode cX11_letter 131 = .ok (.aload_n 0, 1) := by decide +kernel
theorem dX11_letter_132 : decode cX11_letter 132 = .ok (.getfield 228, 3) := by decide +kernel
theorem dX11_letter_135 : decode cX11_letter 135 = .ok (.invokevirtual 231, 3) := by decide +kernel
theorem dX11_letter_138 : decode cX11_letter 138 = .ok (.ireturn, 1) := by decide +kernel
theorem dX11_letter_139 : decode cX11_letter 139 = .ok (.aload_n 0, 1) := by decide +kernel
theorem dX11_letter_140 : decode cX11_letter 140 = .ok (.aload_n 0, 1) := by decide +kernel
theorem dX11_letter_141 : decode cX11_letter 141 = .ok (.getfield 65, 3) := by decide +kernel
theorem dX11_letter_144 : decode cX11_letter 144 = .ok (.invokevirtual 235, 3) := by decide +kernel
theorem dX11_letter_147 : decode cX11_letter 147 = .ok (.ireturn, 1) := by decide +kernel
theorem dX11_letter_148 : decode cX11_letter 148 = .ok (.aload_n 0, 1) := by decide +kernel
theorem dX11_letter_149 : decode cX11_letter 149 = .ok (.aload_n 0, 1) := by decide +kernel
theorem dX11_letter_150 : decode cX11_letter 150 = .ok (.getfield 65, 3) := by decide +kernel
theorem dX11_letter_153 : decode cX11_letter 153 = .ok (.invokevirtual 238, 3) := by decide +kernel
theorem dX11_letter_156 : decode cX11_letter 156 = .ok (.ireturn, 1) := by decide +kernel
theorem dX11_letter_157 : decode cX11_letter 157 = .ok (.iconst 0, 1) := by decide +kernel
theorem dX11_letter_158 : decode cX11_letter 158 = .ok (.istore_n 2, 1) := by decide +kernel
theorem dX11_letter_159 : decode cX11_letter 159 = .ok (.iload_n 2, 1) := by decide +kernel
theorem dX11_letter_160 : decode cX11_letter 160 = .ok (.aload_n 0, 1) := by decide +kernel
theorem dX11_letter_161 : decode cX11_letter 161 = .ok (.getfield 139, 3) := by decide +kernel
theorem dX11_letter_164 : decode cX11_letter 164 = .ok (.if_icmp .ge 51, 3) := by decide +kernel
theorem dX11_letter_167 : decode cX11_letter 167 = .ok (.aload_n 0, 1) := by decide +kernel
theorem dX11_letter_168 : decode cX11_letter 168 = .ok (.getfield 41, 3) := by decide +kernel
theorem dX11_letter_171 : decode cX11_letter 171 = .ok (.iload_n 2, 1) := by decide +kernel
theorem dX11_letter_172 : decode cX11_letter 172 = .ok (.iaload, 1) := by decide +kernel
theorem dX11_letter_173 : decode cX11_letter 173 = .ok (.ifCond .ne 36, 3) := by decide +kernel
theorem dX11_letter_176 : decode cX11_letter 176 = .ok (.aload_n 0, 1) := by decide +kernel
theorem dX11_letter_177 : decode cX11_letter 177 = .ok (.getfield 29, 3) := by decide +kernel
theorem dX11_letter_180 : decode cX11_letter 180 = .ok (.iload_n 2, 1) := by decide +kernel
theorem dX11_letter_181 : decode cX11_letter 181 = .ok (.iaload, 1) := by decide +kernel
theorem dX11_letter_182 : decode cX11_letter 182 = .ok (.aload_n 0, 1) := by decide +kernel
theorem dX11_letter_183 : decode cX11_letter 183 = .ok (.getfield 65, 3) := by decide +kernel
theorem dX11_letter_186 : decode cX11_letter 186 = .ok (.if_icmp .ne 23, 3) := by decide +kernel
theorem dX11_letter_189 : decode cX11_letter 189 = .ok (.aload_n 0, 1) := by decide +kernel
theorem dX11_letter_190 : decode cX11_letter 190 = .ok (.getfield 32, 3) := by decide +kernel
theorem dX11_letter_193 : decode cX11_letter 193 = .ok (.iload_n 2, 1) := by decide +kernel
theorem dX11_letter_194 : decode cX11_letter 194 = .ok (.iaload, 1) := by decide +kernel
theorem dX11_letter_195 : decode cX11_letter 195 = .ok (.aload_n 0, 1) := by decide +kernel
theorem dX11_letter_196 : decode cX11_letter 196 = .ok (.getfield 29, 3) := by decide +kernel
theorem dX11_letter_199 : decode cX11_letter 199 = .ok (.aload_n 0, 1) := by decide +kernel
theorem dX11_letter_200 : decode cX11_letter 200 = .ok (.getfield 228, 3) := by decide +kernel
theorem dX11_letter_203 : decode cX11_letter 203 = .ok (.iaload, 1) := by decide +kernel
theorem dX11_letter_204 : decode cX11_letter 204 = .ok (.if_icmp .ne 5, 3) := by decide +kernel
theorem dX11_letter_207 : decode cX11_letter 207 = .ok (.iconst 1, 1) := by decide +kernel
theorem dX11_letter_208 : decode cX11_letter 208 = .ok (.ireturn, 1) := by decide +kernel
theorem dX11_letter_209 : decode cX11_letter 209 = .ok (.iinc 2 1, 3) := by decide +kernel
theorem dX11_letter_212 : decode cX11_letter 212 = .ok (.goto (-53), 3) := by decide +kernel
theorem dX11_letter_215 : decode cX11_letter 215 = .ok (.iconst 0, 1) := by decide +kernel
theorem dX11_letter_216 : decode cX11_letter 216 = .ok (.ireturn, 1) := by decide +kernel
theorem dX11_rule_0 : decode cX11_rule 0 = .ok (.aload_n 0, 1) := by decide +kernel
theorem dX11_rule_1 : decode cX11_rule 1 = .ok (.iconst 0, 1) := by decide +kernel
theorem dX11_rule_2 : decode cX11_rule 2 = .ok (.putfield 126, 3) := by decide +kernel
theorem dX11_rule_5 : decode cX11_rule 5 = .ok (.aload_n 0, 1) := by decide +kernel
theorem dX11_rule_6 : decode cX11_rule 6 = .ok (.getfield 146, 3) := by decide +kernel
theorem dX11_rule_9 : decode cX11_rule 9 = .ok (.istore_n 1, 1) := by decide +kernel
theorem dX11_rule_10 : decode cX11_rule 10 = .ok (.aload_n 0, 1) := by decide +kernel
theorem dX11_rule_11 : decode cX11_rule 11 = .ok (.aload_n 0, 1) := by decide +kernel
theorem dX11_rule_12 : decode cX11_rule 12 = .ok (.getfield 54, 3) := by decide +kernel
theorem dX11_rule_15 : decode cX11_rule 15 = .ok (.iload_n 1, 1) := by decide +kernel
theorem dX11_rule_16 : decode cX11_rule 16 = .ok (.bipush 40, 2) := by decide +kernel
theorem dX11_rule_18 : decode cX11_rule 18 = .ok (.invokevirtual 184, 3) := by decide +kernel
theorem dX11_rule_21 : decode cX11_rule 21 = .ok (.aload_n 0, 1) := by decide +kernel
theorem dX11_rule_22 : decode cX11_rule 22 = .ok (.iconst 0, 1) := by decide +kernel
theorem dX11_rule_23 : decode cX11_rule 23 = .ok (.putfield 146, 3) := by decide +kernel
theorem dX11_rule_26 : decode cX11_rule 26 = .ok (.aload_n 0, 1) := by decide +kernel
theorem dX11_rule_27 : decode cX11_rule 27 = .ok (.iconst (-1), 1) := by decide +kernel
theorem dX11_rule_28 : decode cX11_rule 28 = .ok (.putfield 65, 3) := by decide +kernel
theorem dX11_rule_31 : decode cX11_rule 31 = .ok (.iload_n 1, 1) := by decide +kernel
theorem dX11_rule_32 : decode cX11_rule 32 = .ok (.ifCond .le 39, 3) := by decide +kernel
theorem dX11_rule_35 : decode cX11_rule 35 = .ok (.aload_n 0, 1) := by decide +kernel
theorem dX11_rule_36 : decode cX11_rule 36 = .ok (.iconst 0, 1) := by decide +kernel
theorem dX11_rule_37 : decode cX11_rule 37 = .ok (.invokevirtual 219, 3) := by decide +kernel
theorem dX11_rule_40 : decode cX11_rule 40 = .ok (.pop, 1) := by decide +kernel
theorem dX11_rule_41 : decode cX11_rule 41 = .ok (.aload_n 0, 1) := by decide +kernel
theorem dX11_rule_42 : decode cX11_rule 42 = .ok (.getfield 158, 3) := by decide +kernel
theorem dX11_rule_45 : decode cX11_rule 45 = .ok (.iload_n 1, 1) := by decide +kernel
theorem dX11_rule_46 : decode cX11_rule 46 = .ok (.if_icmp .ge 11, 3) := by decide +kernel
theorem dX11_rule_49 : decode cX11_rule 49 = .ok (.aload_n 0, 1) := by decide +kernel
theorem dX11_rule_50 : decode cX11_rule 50 = .ok (.aload_n 0, 1) := by decide +kernel
theorem dX11_rule_51 : decode cX11_rule 51 = .ok (.getfield 158, 3) := by decide +kernel
theorem dX11_rule_54 : decode cX11_rule 54 = .ok (.invokevirtual 176, 3) := by decide +kernel
theorem dX11_rule_57 : decode cX11_rule 57 = .ok (.aload_n 0, 1) := by decide +kernel
theorem dX11_rule_58 : decode cX11_rule 58 = .ok (.invokevirtual 164, 3) := by decide +kernel
theorem dX11_rule_61 : decode cX11_rule 61 = .ok (.ifCond .ne 10, 3) := by decide +kernel
theorem dX11_rule_64 : decode cX11_rule 64 = .ok (.iconst (-1), 1) := by decide +kernel
theorem dX11_rule_65 : decode cX11_rule 65 = .ok (.aload_n 0, 1) := by decide +kernel
theorem dX11_rule_66 : decode cX11_rule 66 = .ok (.getfield 161, 3) := by decide +kernel
theorem dX11_rule_69 : decode cX11_rule 69 = .ok (.isub, 1) := by decide +kernel
theorem dX11_rule_70 : decode cX11_rule 70 = .ok (.ireturn, 1) := by decide +kernel
theorem dX11_rule_71 : decode cX11_rule 71 = .ok (.iconst 0, 1) := by decide +kernel
theorem dX11_rule_72 : decode cX11_rule 72 = .ok (.istore_n 2, 1) := by decide +kernel
theorem dX11_rule_73 : decode cX11_rule 73 = .ok (.iload_n 2, 1) := by decide +kernel
theorem dX11_rule_74 : decode cX11_rule 74 = .ok (.iload_n 1, 1) := by decide +kernel
theorem dX11_rule_75 : decode cX11_rule 75 = .ok (.if_icmp .ge 21, 3) := by decide +kernel
theorem dX11_rule_78 : decode cX11_rule 78 = .ok (.aload_n 0, 1) := by decide +kernel
theorem dX11_rule_79 : decode cX11_rule 79 = .ok (.getfield 62, 3) := by decide +kernel
theorem dX11_rule_82 : decode cX11_rule 82 = .ok (.iload_n 2, 1) := by decide +kernel
theorem dX11_rule_83 : decode cX11_rule 83 = .ok (.aload_n 0, 1) := by decide +kernel
theorem dX11_rule_84 : decode cX11_rule 84 = .ok (.getfield 54, 3) := by decide +kernel
theorem dX11_rule_87 : decode cX11_rule 87 = .ok (.iload_n 2, 1) := by decide +kernel
theorem dX11_rule_88 : decode cX11_rule 88 = .ok (.baload, 1) := by decide +kernel
theorem dX11_rule_89 : decode cX11_rule 89 = .ok (.bastore, 1) := by decide +kernel
theorem dX11_rule_90 : decode cX11_rule 90 = .ok (.iinc 2 1, 3) := by decide +kernel
theorem dX11_rule_93 : decode cX11_rule 93 = .ok (.goto (-20), 3) := by decide +kernel
theorem dX11_rule_96 : decode cX11_rule 96 = .ok (.aload_n 0, 1) := by decide +kernel
theorem dX11_rule_97 : decode cX11_rule 97 = .ok (.iload_n 1, 1) := by decide +kernel
theorem dX11_rule_98 : decode cX11_rule 98 = .ok (.putfield 241, 3) := by decide +kernel
theorem dX11_rule_101 : decode cX11_rule 101 = .ok (.iconst 0, 1) := by decide +kernel
theorem dX11_rule_102 : decode cX11_rule 102 = .ok (.ireturn, 1) := by decide +kernel
theorem dX11_ruleFor_0 : decode cX11_ruleFor 0 = .ok (.aload_n 0, 1) := by decide +kernel
theorem dX11_ruleFor_1 : decode cX11_ruleFor 1 = .ok (.getfield 241, 3) := by decide +kernel
theorem dX11_ruleFor_4 : decode cX11_ruleFor 4 = .ok (.ifCond .ne 5, 3) := by decide +kernel
theorem dX11_ruleFor_7 : decode cX11_ruleFor 7 = .ok (.iconst 0, 1) := by decide +kernel
theorem dX11_ruleFor_8 : decode cX11_ruleFor 8 = .ok (.ireturn, 1) := by decide +kernel
theorem dX11_ruleFor_9 : decode cX11_ruleFor 9 = .ok (.aload_n 0, 1) := by decide +kernel
theorem dX11_ruleFor_10 : decode cX11_ruleFor 10 = .ok (.aload_n 0, 1) := by decide +kernel
theorem dX11_ruleFor_11 : decode cX11_ruleFor 11 = .ok (.getfield 62, 3) := by decide +kernel
theorem dX11_ruleFor_14 : decode cX11_ruleFor 14 = .ok (.aload_n 0, 1) := by decide +kernel
theorem dX11_ruleFor_15 : decode cX11_ruleFor 15 = .ok (.getfield 241, 3) := by decide +kernel
theorem dX11_ruleFor_18 : decode cX11_ruleFor 18 = .ok (.bipush 40, 2) := by decide +kernel
theorem dX11_ruleFor_20 : decode cX11_ruleFor 20 = .ok (.invokevirtual 184, 3) := by decide +kernel
theorem dX11_ruleFor_23 : decode cX11_ruleFor 23 = .ok (.aload_n 0, 1) := by decide +kernel
theorem dX11_ruleFor_24 : decode cX11_ruleFor 24 = .ok (.iload_n 1, 1) := by decide +kernel
theorem dX11_ruleFor_25 : decode cX11_ruleFor 25 = .ok (.putfield 65, 3) := by decide +kernel
theorem dX11_ruleFor_28 : decode cX11_ruleFor 28 = .ok (.aload_n 0, 1) := by decide +kernel
theorem dX11_ruleFor_29 : decode cX11_ruleFor 29 = .ok (.iload_n 2, 1) := by decide +kernel
theorem dX11_ruleFor_30 : decode cX11_ruleFor 30 = .ok (.putfield 228, 3) := by decide +kernel
theorem dX11_ruleFor_33 : decode cX11_ruleFor 33 = .ok (.aload_n 0, 1) := by decide +kernel
theorem dX11_ruleFor_34 : decode cX11_ruleFor 34 = .ok (.iconst 0, 1) := by decide +kernel
theorem dX11_ruleFor_35 : decode cX11_ruleFor 35 = .ok (.invokevirtual 219, 3) := by decide +kernel
theorem dX11_ruleFor_38 : decode cX11_ruleFor 38 = .ok (.ireturn, 1) := by decide +kernel
theorem dX11_openOf_0 : decode cX11_openOf 0 = .ok (.iconst 0, 1) := by decide +kernel
theorem dX11_openOf_1 : decode cX11_openOf 1 = .ok (.istore_n 2, 1) := by decide +kernel
theorem dX11_openOf_2 : decode cX11_openOf 2 = .ok (.iconst 0, 1) := by decide +kernel
theorem dX11_openOf_3 : decode cX11_openOf 3 = .ok (.istore_n 3, 1) := by decide +kernel
theorem dX11_openOf_4 : decode cX11_openOf 4 = .ok (.iload_n 3, 1) := by decide +kernel
theorem dX11_openOf_5 : decode cX11_openOf 5 = .ok (.aload_n 0, 1) := by decide +kernel
theorem dX11_openOf_6 : decode cX11_openOf 6 = .ok (.getfield 139, 3) := by decide +kernel
theorem dX11_openOf_9 : decode cX11_openOf 9 = .ok (.if_icmp .ge 41, 3) := by decide +kernel
theorem dX11_openOf_12 : decode cX11_openOf 12 = .ok (.iload_n 2, 1) := by decide +kernel
theorem dX11_openOf_13 : decode cX11_openOf 13 = .ok (.aload_n 0, 1) := by decide +kernel
theorem dX11_openOf_14 : decode cX11_openOf 14 = .ok (.getfield 41, 3) := by decide +kernel
theorem dX11_openOf_17 : decode cX11_openOf 17 = .ok (.iload_n 3, 1) := by decide +kernel
theorem dX11_openOf_18 : decode cX11_openOf 18 = .ok (.iaload, 1) := by decide +kernel
theorem dX11_openOf_19 : decode cX11_openOf 19 = .ok (.ifCond .ne 22, 3) := by decide +kernel
theorem dX11_openOf_22 : decode cX11_openOf 22 = .ok (.aload_n 0, 1) := by decide +kernel
theorem dX11_openOf_23 : decode cX11_openOf 23 = .ok (.getfield 29, 3) := by decide +kernel
theorem dX11_openOf_26 : decode cX11_openOf 26 = .ok (.iload_n 3, 1) := by decide +kernel
theorem dX11_openOf_27 : decode cX11_openOf 27 = .ok (.iaload, 1) := by decide +kernel
theorem dX11_openOf_28 : decode cX11_openOf 28 = .ok (.iload_n 1, 1) := by decide +kernel
theorem dX11_openOf_29 : decode cX11_openOf 29 = .ok (.if_icmp .ne 12, 3) := by decide +kernel
theorem dX11_openOf_32 : decode cX11_openOf 32 = .ok (.aload_n 0, 1) := by decide +kernel
theorem dX11_openOf_33 : decode cX11_openOf 33 = .ok (.getfield 35, 3) := by decide +kernel
theorem dX11_openOf_36 : decode cX11_openOf 36 = .ok (.iload_n 3, 1) := by decide +kernel
theorem dX11_openOf_37 : decode cX11_openOf 37 = .ok (.iaload, 1) := by decide +kernel
theorem dX11_openOf_38 : decode cX11_openOf 38 = .ok (.goto 4, 3) := by decide +kernel
theorem dX11_openOf_41 : decode cX11_openOf 41 = .ok (.iconst 0, 1) := by decide +kernel
theorem dX11_openOf_42 : decode cX11_openOf 42 = .ok (.iadd, 1) := by decide +kernel
theorem dX11_openOf_43 : decode cX11_openOf 43 = .ok (.istore_n 2, 1) := by decide +kernel
theorem dX11_openOf_44 : decode cX11_openOf 44 = .ok (.iinc 3 1, 3) := by decide +kernel
theorem dX11_openOf_47 : decode cX11_openOf 47 = .ok (.goto (-43), 3) := by decide +kernel
theorem dX11_openOf_50 : decode cX11_openOf 50 = .ok (.iload_n 2, 1) := by decide +kernel
theorem dX11_openOf_51 : decode cX11_openOf 51 = .ok (.ireturn, 1) := by decide +kernel
theorem dX11_openTo_0 : decode cX11_openTo 0 = .ok (.iconst 0, 1) := by decide +kernel
theorem dX11_openTo_1 : decode cX11_openTo 1 = .ok (.istore_n 2, 1) := by decide +kernel
theorem dX11_openTo_2 : decode cX11_openTo 2 = .ok (.iconst 0, 1) := by decide +kernel
theorem dX11_openTo_3 : decode cX11_openTo 3 = .ok (.istore_n 3, 1) := by decide +kernel
theorem dX11_openTo_4 : decode cX11_openTo 4 = .ok (.iload_n 3, 1) := by decide +kernel
theorem dX11_openTo_5 : decode cX11_openTo 5 = .ok (.aload_n 0, 1) := by decide +kernel
theorem dX11_openTo_6 : decode cX11_openTo 6 = .ok (.getfield 139, 3) := by decide +kernel
theorem dX11_openTo_9 : decode cX11_openTo 9 = .ok (.if_icmp .ge 41, 3) := by decide +kernel
theorem dX11_openTo_12 : decode cX11_openTo 12 = .ok (.iload_n 2, 1) := by decide +kernel
theorem dX11_openTo_13 : decode cX11_openTo 13 = .ok (.aload_n 0, 1) := by decide +kernel
theorem dX11_openTo_14 : decode cX11_openTo 14 = .ok (.getfield 41, 3) := by decide +kernel
theorem dX11_openTo_17 : decode cX11_openTo 17 = .ok (.iload_n 3, 1) := by decide +kernel
theorem dX11_openTo_18 : decode cX11_openTo 18 = .ok (.iaload, 1) := by decide +kernel
theorem dX11_openTo_19 : decode cX11_openTo 19 = .ok (.ifCond .ne 22, 3) := by decide +kernel
theorem dX11_openTo_22 : decode cX11_openTo 22 = .ok (.aload_n 0, 1) := by decide +kernel
theorem dX11_openTo_23 : decode cX11_openTo 23 = .ok (.getfield 32, 3) := by decide +kernel
theorem dX11_openTo_26 : decode cX11_openTo 26 = .ok (.iload_n 3, 1) := by decide +kernel
theorem dX11_openTo_27 : decode cX11_openTo 27 = .ok (.iaload, 1) := by decide +kernel
theorem dX11_openTo_28 : decode cX11_openTo 28 = .ok (.iload_n 1, 1) := by decide +kernel
theorem dX11_openTo_29 : decode cX11_openTo 29 = .ok (.if_icmp .ne 12, 3) := by decide +kernel
theorem dX11_openTo_32 : decode cX11_openTo 32 = .ok (.aload_n 0, 1) := by decide +kernel
theorem dX11_openTo_33 : decode cX11_openTo 33 = .ok (.getfield 35, 3) := by decide +kernel
theorem dX11_openTo_36 : decode cX11_openTo 36 = .ok (.iload_n 3, 1) := by decide +kernel
theorem dX11_openTo_37 : decode cX11_openTo 37 = .ok (.iaload, 1) := by decide +kernel
theorem dX11_openTo_38 : decode cX11_openTo 38 = .ok (.goto 4, 3) := by decide +kernel
theorem dX11_openTo_41 : decode cX11_openTo 41 = .ok (.iconst 0, 1) := by decide +kernel
theorem dX11_openTo_42 : decode cX11_openTo 42 = .ok (.iadd, 1) := by decide +kernel
theorem dX11_openTo_43 : decode cX11_openTo 43 = .ok (.istore_n 2, 1) := by decide +kernel
theorem dX11_openTo_44 : decode cX11_openTo 44 = .ok (.iinc 3 1, 3) := by decide +kernel
theorem dX11_openTo_47 : decode cX11_openTo 47 = .ok (.goto (-43), 3) := by decide +kernel
theorem dX11_openTo_50 : decode cX11_openTo 50 = .ok (.iload_n 2, 1) := by decide +kernel
theorem dX11_openTo_51 : decode cX11_openTo 51 = .ok (.ireturn, 1) := by decide +kernel
theorem dX11_favoursOwed_0 : decode cX11_favoursOwed 0 = .ok (.iconst 0, 1) := by decide +kernel
theorem dX11_favoursOwed_1 : decode cX11_favoursOwed 1 = .ok (.istore_n 2, 1) := by decide +kernel
theorem dX11_favoursOwed_2 : decode cX11_favoursOwed 2 = .ok (.iconst 0, 1) := by decide +kernel
theorem dX11_favoursOwed_3 : decode cX11_favoursOwed 3 = .ok (.istore_n 3, 1) := by decide +kernel
theorem dX11_favoursOwed_4 : decode cX11_favoursOwed 4 = .ok (.iload_n 3, 1) := by decide +kernel
theorem dX11_favoursOwed_5 : decode cX11_favoursOwed 5 = .ok (.aload_n 0, 1) := by decide +kernel
theorem dX11_favoursOwed_6 : decode cX11_favoursOwed 6 = .ok (.getfield 132, 3) := by decide +kernel
theorem dX11_favoursOwed_9 : decode cX11_favoursOwed 9 = .ok (.if_icmp .ge 23, 3) := by decide +kernel
theorem dX11_favoursOwed_12 : decode cX11_favoursOwed 12 = .ok (.iload_n 2, 1) := by decide +kernel
theorem dX11_favoursOwed_13 : decode cX11_favoursOwed 13 = .ok (.aload_n 0, 1) := by decide +kernel
theorem dX11_favoursOwed_14 : decode cX11_favoursOwed 14 = .ok (.getfield 26, 3) := by decide +kernel
theorem dX11_favoursOwed_17 : decode cX11_favoursOwed 17 = .ok (.bipush 8, 2) := by decide +kernel
theorem dX11_favoursOwed_19 : decode cX11_favoursOwed 19 = .ok (.iload_n 3, 1) := by decide +kernel
theorem dX11_favoursOwed_20 : decode cX11_favoursOwed 20 = .ok (.imul, 1) := by decide +kernel
theorem dX11_favoursOwed_21 : decode cX11_favoursOwed 21 = .ok (.iload_n 1, 1) := by decide +kernel
theorem dX11_favoursOwed_22 : decode cX11_favoursOwed 22 = .ok (.iadd, 1) := by decide +kernel
theorem dX11_favoursOwed_23 : decode cX11_favoursOwed 23 = .ok (.iaload, 1) := by decide +kernel
theorem dX11_favoursOwed_24 : decode cX11_favoursOwed 24 = .ok (.iadd, 1) := by decide +kernel
theorem dX11_favoursOwed_25 : decode cX11_favoursOwed 25 = .ok (.istore_n 2, 1) := by decide +kernel
theorem dX11_favoursOwed_26 : decode cX11_favoursOwed 26 = .ok (.iinc 3 1, 3) := by decide +kernel
theorem dX11_favoursOwed_29 : decode cX11_favoursOwed 29 = .ok (.goto (-25), 3) := by decide +kernel
theorem dX11_favoursOwed_32 : decode cX11_favoursOwed 32 = .ok (.iload_n 2, 1) := by decide +kernel
theorem dX11_favoursOwed_33 : decode cX11_favoursOwed 33 = .ok (.ireturn, 1) := by decide +kernel
theorem dX11_favoursOwing_0 : decode cX11_favoursOwing 0 = .ok (.iconst 0, 1) := by decide +kernel
theorem dX11_favoursOwing_1 : decode cX11_favoursOwing 1 = .ok (.istore_n 2, 1) := by decide +kernel
theorem dX11_favoursOwing_2 : decode cX11_favoursOwing 2 = .ok (.iconst 0, 1) := by decide +kernel
theorem dX11_favoursOwing_3 : decode cX11_favoursOwing 3 = .ok (.istore_n 3, 1) := by decide +kernel
theorem dX11_favoursOwing_4 : decode cX11_favoursOwing 4 = .ok (.iload_n 3, 1) := by decide +kernel
theorem dX11_favoursOwing_5 : decode cX11_favoursOwing 5 = .ok (.aload_n 0, 1) := by decide +kernel
theorem dX11_favoursOwing_6 : decode cX11_favoursOwing 6 = .ok (.getfield 132, 3) := by decide +kernel
theorem dX11_favoursOwing_9 : decode cX11_favoursOwing 9 = .ok (.if_icmp .ge 23, 3) := by decide +kernel
theorem dX11_favoursOwing_12 : decode cX11_favoursOwing 12 = .ok (.iload_n 2, 1) := by decide +kernel
theorem dX11_favoursOwing_13 : decode cX11_favoursOwing 13 = .ok (.aload_n 0, 1) := by decide +kernel
theorem dX11_favoursOwing_14 : decode cX11_favoursOwing 14 = .ok (.getfield 26, 3) := by decide +kernel
theorem dX11_favoursOwing_17 : decode cX11_favoursOwing 17 = .ok (.bipush 8, 2) := by decide +kernel
theorem dX11_favoursOwing_19 : decode cX11_favoursOwing 19 = .ok (.iload_n 1, 1) := by decide +kernel
theorem dX11_favoursOwing_20 : decode cX11_favoursOwing 20 = .ok (.imul, 1) := by decide +kernel
theorem dX11_favoursOwing_21 : decode cX11_favoursOwing 21 = .ok (.iload_n 3, 1) := by decide +kernel
theorem dX11_favoursOwing_22 : decode cX11_favoursOwing 22 = .ok (.iadd, 1) := by decide +kernel
theorem dX11_favoursOwing_23 : decode cX11_favoursOwing 23 = .ok (.iaload, 1) := by decide +kernel
theorem dX11_favoursOwing_24 : decode cX11_favoursOwing 24 = .ok (.iadd, 1) := by decide +kernel
theorem dX11_favoursOwing_25 : decode cX11_favoursOwing 25 = .ok (.istore_n 2, 1) := by decide +kernel
theorem dX11_favoursOwing_26 : decode cX11_favoursOwing 26 = .ok (.iinc 3 1, 3) := by decide +kernel
theorem dX11_favoursOwing_29 : decode cX11_favoursOwing 29 = .ok (.goto (-25), 3) := by decide +kernel
theorem dX11_favoursOwing_32 : decode cX11_favoursOwing 32 = .ok (.iload_n 2, 1) := by decide +kernel
theorem dX11_favoursOwing_33 : decode cX11_favoursOwing 33 = .ok (.ireturn, 1) := by decide +kernel
theorem dX11_onList_0 : decode cX11_onList 0 = .ok (.aload_n 0, 1) := by decide +kernel
theorem dX11_onList_1 : decode cX11_onList 1 = .ok (.getfield 47, 3) := by decide +kernel
theorem dX11_onList_4 : decode cX11_onList 4 = .ok (.iconst 2, 1) := by decide +kernel
theorem dX11_onList_5 : decode cX11_onList 5 = .ok (.iaload, 1) := by decide +kernel
theorem dX11_onList_6 : decode cX11_onList 6 = .ok (.iconst 1, 1) := by decide +kernel
theorem dX11_onList_7 : decode cX11_onList 7 = .ok (.if_icmp .ne 12, 3) := by decide +kernel
theorem dX11_onList_10 : decode cX11_onList 10 = .ok (.aload_n 0, 1) := by decide +kernel
theorem dX11_onList_11 : decode cX11_onList 11 = .ok (.getfield 23, 3) := by decide +kernel
theorem dX11_onList_14 : decode cX11_onList 14 = .ok (.iload_n 1, 1) := by decide +kernel
theorem dX11_onList_15 : decode cX11_onList 15 = .ok (.iaload, 1) := by decide +kernel
theorem dX11_onList_16 : decode cX11_onList 16 = .ok (.goto 8, 3) := by decide +kernel
theorem dX11_onList_19 : decode cX11_onList 19 = .ok (.aload_n 0, 1) := by decide +kernel
theorem dX11_onList_20 : decode cX11_onList 20 = .ok (.iload_n 1, 1) := by decide +kernel
theorem dX11_onList_21 : decode cX11_onList 21 = .ok (.invokevirtual 225, 3) := by decide +kernel
theorem dX11_onList_24 : decode cX11_onList 24 = .ok (.ireturn, 1) := by decide +kernel
theorem dX11_of_0 : decode cX11_of 0 = .ok (.aload_n 0, 1) := by decide +kernel
theorem dX11_of_1 : decode cX11_of 1 = .ok (.iconst 0, 1) := by decide +kernel
theorem dX11_of_2 : decode cX11_of 2 = .ok (.putfield 126, 3) := by decide +kernel
theorem dX11_of_5 : decode cX11_of 5 = .ok (.aload_n 0, 1) := by decide +kernel
theorem dX11_of_6 : decode cX11_of 6 = .ok (.iload_n 1, 1) := by decide +kernel
theorem dX11_of_7 : decode cX11_of 7 = .ok (.invokevirtual 244, 3) := by decide +kernel
theorem dX11_of_10 : decode cX11_of 10 = .ok (.ifCond .eq 15, 3) := by decide +kernel
theorem dX11_of_13 : decode cX11_of 13 = .ok (.iload_n 2, 1) := by decide +kernel
theorem dX11_of_14 : decode cX11_of 14 = .ok (.i2l, 1) := by decide +kernel
theorem dX11_of_15 : decode cX11_of 15 = .ok (.lconst 0, 1) := by decide +kernel
theorem dX11_of_16 : decode cX11_of 16 = .ok (.ldc2_w 247, 3) := by decide +kernel
theorem dX11_of_19 : decode cX11_of 19 = .ok (.invokestatic 135, 3) := by decide +kernel
theorem dX11_of_22 : decode cX11_of 22 = .ok (.ifCond .ne 8, 3) := by decide +kernel
theorem dX11_of_25 : decode cX11_of 25 = .ok (.aload_n 0, 1) := by decide +kernel
theorem dX11_of_26 : decode cX11_of 26 = .ok (.invokevirtual 249, 3) := by decide +kernel
theorem dX11_of_29 : decode cX11_of 29 = .ok (.ireturn, 1) := by decide +kernel
theorem dX11_of_30 : decode cX11_of 30 = .ok (.iload_n 2, 1) := by decide +kernel
theorem dX11_of_31 : decode cX11_of 31 = .ok (.tableswitch 105 0 7 #[45, 52, 59, 74, 81, 87, 93, 99], 45) := by decide +kernel
theorem dX11_of_76 : decode cX11_of 76 = .ok (.aload_n 0, 1) := by decide +kernel
theorem dX11_of_77 : decode cX11_of 77 = .ok (.getfield 9, 3) := by decide +kernel
theorem dX11_of_80 : decode cX11_of 80 = .ok (.iload_n 1, 1) := by decide +kernel
theorem dX11_of_81 : decode cX11_of 81 = .ok (.iaload, 1) := by decide +kernel
theorem dX11_of_82 : decode cX11_of 82 = .ok (.ireturn, 1) := by decide +kernel
theorem dX11_of_83 : decode cX11_of 83 = .ok (.aload_n 0, 1) := by decide +kernel
theorem dX11_of_84 : decode cX11_of 84 = .ok (.getfield 13, 3) := by decide +kernel
theorem dX11_of_87 : decode cX11_of 87 = .ok (.iload_n 1, 1) := by decide +kernel
theorem dX11_of_88 : decode cX11_of 88 = .ok (.iaload, 1) := by decide +kernel
theorem dX11_of_89 : decode cX11_of 89 = .ok (.ireturn, 1) := by decide +kernel
theorem dX11_of_90 : decode cX11_of 90 = .ok (.aload_n 0, 1) := by decide +kernel
theorem dX11_of_91 : decode cX11_of 91 = .ok (.getfield 16, 3) := by decide +kernel
theorem dX11_of_94 : decode cX11_of 94 = .ok (.iload_n 1, 1) := by decide +kernel
theorem dX11_of_95 : decode cX11_of 95 = .ok (.baload, 1) := by decide +kernel
theorem dX11_of_96 : decode cX11_of 96 = .ok (.ifCond .eq 7, 3) := by decide +kernel
theorem dX11_of_99 : decode cX11_of 99 = .ok (.iconst 1, 1) := by decide +kernel
theorem dX11_of_100 : decode cX11_of 100 = .ok (.goto 4, 3) := by decide +kernel
theorem dX11_of_103 : decode cX11_of 103 = .ok (.iconst 0, 1) := by decide +kernel
theorem dX11_of_104 : decode cX11_of 104 = .ok (.ireturn, 1) := by decide +kernel
theorem dX11_of_105 : decode cX11_of 105 = .ok (.aload_n 0, 1) := by decide +kernel
theorem dX11_of_106 : decode cX11_of 106 = .ok (.getfield 20, 3) := by decide +kernel
theorem dX11_of_109 : decode cX11_of 109 = .ok (.iload_n 1, 1) := by decide +kernel
theorem dX11_of_110 : decode cX11_of 110 = .ok (.iaload, 1) := by decide +kernel
theorem dX11_of_111 : decode cX11_of 111 = .ok (.ireturn, 1) := by decide +kernel
theorem dX11_of_112 : decode cX11_of 112 = .ok (.aload_n 0, 1) := by decide +kernel
theorem dX11_of_113 : decode cX11_of 113 = .ok (.iload_n 1, 1) := by decide +kernel
theorem dX11_of_114 : decode cX11_of 114 = .ok (.invokevirtual 252, 3) := by decide +kernel
theorem dX11_of_117 : decode cX11_of 117 = .ok (.ireturn, 1) := by decide +kernel
theorem dX11_of_118 : decode cX11_of 118 = .ok (.aload_n 0, 1) := by decide +kernel
theorem dX11_of_119 : decode cX11_of 119 = .ok (.iload_n 1, 1) := by decide +kernel
theorem dX11_of_120 : decode cX11_of 120 = .ok (.invokevirtual 238, 3) := by decide +kernel
theorem dX11_of_123 : decode cX11_of 123 = .ok (.ireturn, 1) := by decide +kernel
theorem dX11_of_124 : decode cX11_of 124 = .ok (.aload_n 0, 1) := by decide +kernel
theorem dX11_of_125 : decode cX11_of 125 = .ok (.iload_n 1, 1) := by decide +kernel
theorem dX11_of_126 : decode cX11_of 126 = .ok (.invokevirtual 255, 3) := by decide +kernel
theorem dX11_of_129 : decode cX11_of 129 = .ok (.ireturn, 1) := by decide +kernel
theorem dX11_of_130 : decode cX11_of 130 = .ok (.aload_n 0, 1) := by decide +kernel
theorem dX11_of_131 : decode cX11_of 131 = .ok (.iload_n 1, 1) := by decide +kernel
theorem dX11_of_132 : decode cX11_of 132 = .ok (.invokevirtual 258, 3) := by decide +kernel
theorem dX11_of_135 : decode cX11_of 135 = .ok (.ireturn, 1) := by decide +kernel
theorem dX11_of_136 : decode cX11_of 136 = .ok (.aload_n 0, 1) := by decide +kernel
theorem dX11_of_137 : decode cX11_of 137 = .ok (.iload_n 1, 1) := by decide +kernel
theorem dX11_of_138 : decode cX11_of 138 = .ok (.invokevirtual 235, 3) := by decide +kernel
theorem dX11_of_141 : decode cX11_of 141 = .ok (.ireturn, 1) := by decide +kernel
theorem dX11_debt_0 : decode cX11_debt 0 = .ok (.aload_n 0, 1) := by decide +kernel
theorem dX11_debt_1 : decode cX11_debt 1 = .ok (.iconst 0, 1) := by decide +kernel
theorem dX11_debt_2 : decode cX11_debt 2 = .ok (.putfield 126, 3) := by decide +kernel
theorem dX11_debt_5 : decode cX11_debt 5 = .ok (.aload_n 0, 1) := by decide +kernel
theorem dX11_debt_6 : decode cX11_debt 6 = .ok (.iload_n 1, 1) := by decide +kernel
theorem dX11_debt_7 : decode cX11_debt 7 = .ok (.invokevirtual 142, 3) := by decide +kernel
theorem dX11_debt_10 : decode cX11_debt 10 = .ok (.ifCond .eq 15, 3) := by decide +kernel
theorem dX11_debt_13 : decode cX11_debt 13 = .ok (.iload_n 2, 1) := by decide +kernel
theorem dX11_debt_14 : decode cX11_debt 14 = .ok (.i2l, 1) := by decide +kernel
theorem dX11_debt_15 : decode cX11_debt 15 = .ok (.lconst 0, 1) := by decide +kernel
theorem dX11_debt_16 : decode cX11_debt 16 = .ok (.ldc2_w 261, 3) := by decide +kernel
theorem dX11_debt_19 : decode cX11_debt 19 = .ok (.invokestatic 135, 3) := by decide +kernel
theorem dX11_debt_22 : decode cX11_debt 22 = .ok (.ifCond .ne 8, 3) := by decide +kernel
theorem dX11_debt_25 : decode cX11_debt 25 = .ok (.aload_n 0, 1) := by decide +kernel
theorem dX11_debt_26 : decode cX11_debt 26 = .ok (.invokevirtual 249, 3) := by decide +kernel
theorem dX11_debt_29 : decode cX11_debt 29 = .ok (.ireturn, 1) := by decide +kernel
theorem dX11_debt_30 : decode cX11_debt 30 = .ok (.iload_n 2, 1) := by decide +kernel
theorem dX11_debt_31 : decode cX11_debt 31 = .ok (.tableswitch 68 0 4 #[33, 40, 47, 54, 61], 33) := by decide +kernel
theorem dX11_debt_64 : decode cX11_debt 64 = .ok (.aload_n 0, 1) := by decide +kernel
theorem dX11_debt_65 : decode cX11_debt 65 = .ok (.getfield 29, 3) := by decide +kernel
theorem dX11_debt_68 : decode cX11_debt 68 = .ok (.iload_n 1, 1) := by decide +kernel
theorem dX11_debt_69 : decode cX11_debt 69 = .ok (.iaload, 1) := by decide +kernel
theorem dX11_debt_70 : decode cX11_debt 70 = .ok (.ireturn, 1) := by decide +kernel
theorem dX11_debt_71 : decode cX11_debt 71 = .ok (.aload_n 0, 1) := by decide +kernel
theorem dX11_debt_72 : decode cX11_debt 72 = .ok (.getfield 32, 3) := by decide +kernel
theorem dX11_debt_75 : decode cX11_debt 75 = .ok (.iload_n 1, 1) := by decide +kernel
theorem dX11_debt_76 : decode cX11_debt 76 = .ok (.iaload, 1) := by decide +kernel
theorem dX11_debt_77 : decode cX11_debt 77 = .ok (.ireturn, 1) := by decide +kernel
theorem dX11_debt_78 : decode cX11_debt 78 = .ok (.aload_n 0, 1) := by decide +kernel
theorem dX11_debt_79 : decode cX11_debt 79 = .ok (.getfield 35, 3) := by decide +kernel
theorem dX11_debt_82 : decode cX11_debt 82 = .ok (.iload_n 1, 1) := by decide +kernel
theorem dX11_debt_83 : decode cX11_debt 83 = .ok (.iaload, 1) := by decide +kernel
theorem dX11_debt_84 : decode cX11_debt 84 = .ok (.ireturn, 1) := by decide +kernel
theorem dX11_debt_85 : decode cX11_debt 85 = .ok (.aload_n 0, 1) := by decide +kernel
theorem dX11_debt_86 : decode cX11_debt 86 = .ok (.getfield 38, 3) := by decide +kernel
theorem dX11_debt_89 : decode cX11_debt 89 = .ok (.iload_n 1, 1) := by decide +kernel
theorem dX11_debt_90 : decode cX11_debt 90 = .ok (.iaload, 1) := by decide +kernel
theorem dX11_debt_91 : decode cX11_debt 91 = .ok (.ireturn, 1) := by decide +kernel
theorem dX11_debt_92 : decode cX11_debt 92 = .ok (.aload_n 0, 1) := by decide +kernel
theorem dX11_debt_93 : decode cX11_debt 93 = .ok (.getfield 41, 3) := by decide +kernel
theorem dX11_debt_96 : decode cX11_debt 96 = .ok (.iload_n 1, 1) := by decide +kernel
theorem dX11_debt_97 : decode cX11_debt 97 = .ok (.iaload, 1) := by decide +kernel
theorem dX11_debt_98 : decode cX11_debt 98 = .ok (.ireturn, 1) := by decide +kernel
theorem dX11_debt_99 : decode cX11_debt 99 = .ok (.aload_n 0, 1) := by decide +kernel
theorem dX11_debt_100 : decode cX11_debt 100 = .ok (.getfield 44, 3) := by decide +kernel
theorem dX11_debt_103 : decode cX11_debt 103 = .ok (.iload_n 1, 1) := by decide +kernel
theorem dX11_debt_104 : decode cX11_debt 104 = .ok (.iaload, 1) := by decide +kernel
theorem dX11_debt_105 : decode cX11_debt 105 = .ok (.ireturn, 1) := by decide +kernel
theorem dX11_law_0 : decode cX11_law 0 = .ok (.aload_n 0, 1) := by decide +kernel
theorem dX11_law_1 : decode cX11_law 1 = .ok (.iconst 0, 1) := by decide +kernel
theorem dX11_law_2 : decode cX11_law 2 = .ok (.putfield 126, 3) := by decide +kernel
theorem dX11_law_5 : decode cX11_law 5 = .ok (.iload_n 1, 1) := by decide +kernel
theorem dX11_law_6 : decode cX11_law 6 = .ok (.i2l, 1) := by decide +kernel
theorem dX11_law_7 : decode cX11_law 7 = .ok (.lconst 0, 1) := by decide +kernel
theorem dX11_law_8 : decode cX11_law 8 = .ok (.ldc2_w 263, 3) := by decide +kernel
theorem dX11_law_11 : decode cX11_law 11 = .ok (.invokestatic 135, 3) := by decide +kernel
theorem dX11_law_14 : decode cX11_law 14 = .ok (.ifCond .eq 34, 3) := by decide +kernel
theorem dX11_law_17 : decode cX11_law 17 = .ok (.iload_n 2, 1) := by decide +kernel
theorem dX11_law_18 : decode cX11_law 18 = .ok (.i2l, 1) := by decide +kernel
theorem dX11_law_19 : decode cX11_law 19 = .ok (.lconst 0, 1) := by decide +kernel
theorem dX11_law_20 : decode cX11_law 20 = .ok (.iload_n 1, 1) := by decide +kernel
theorem dX11_law_21 : decode cX11_law 21 = .ok (.ifCond .ne 9, 3) := by decide +kernel
theorem dX11_law_24 : decode cX11_law 24 = .ok (.ldc2_w 263, 3) := by decide +kernel
theorem dX11_law_27 : decode cX11_law 27 = .ok (.goto 15, 3) := by decide +kernel
theorem dX11_law_30 : decode cX11_law 30 = .ok (.iload_n 1, 1) := by decide +kernel
theorem dX11_law_31 : decode cX11_law 31 = .ok (.iconst 2, 1) := by decide +kernel
theorem dX11_law_32 : decode cX11_law 32 = .ok (.if_icmp .ne 7, 3) := by decide +kernel
theorem dX11_law_35 : decode cX11_law 35 = .ok (.lconst 1, 1) := by decide +kernel
theorem dX11_law_36 : decode cX11_law 36 = .ok (.goto 6, 3) := by decide +kernel
theorem dX11_law_39 : decode cX11_law 39 = .ok (.ldc2_w 265, 3) := by decide +kernel
theorem dX11_law_42 : decode cX11_law 42 = .ok (.invokestatic 135, 3) := by decide +kernel
theorem dX11_law_45 : decode cX11_law 45 = .ok (.ifCond .ne 5, 3) := by decide +kernel
theorem dX11_law_48 : decode cX11_law 48 = .ok (.iconst (-1), 1) := by decide +kernel
theorem dX11_law_49 : decode cX11_law 49 = .ok (.ireturn, 1) := by decide +kernel
theorem dX11_law_50 : decode cX11_law 50 = .ok (.aload_n 0, 1) := by decide +kernel
theorem dX11_law_51 : decode cX11_law 51 = .ok (.getfield 47, 3) := by decide +kernel
theorem dX11_law_54 : decode cX11_law 54 = .ok (.iload_n 1, 1) := by decide +kernel
theorem dX11_law_55 : decode cX11_law 55 = .ok (.iaload, 1) := by decide +kernel
theorem dX11_law_56 : decode cX11_law 56 = .ok (.istore_n 3, 1) := by decide +kernel
theorem dX11_law_57 : decode cX11_law 57 = .ok (.aload_n 0, 1) := by decide +kernel
theorem dX11_law_58 : decode cX11_law 58 = .ok (.getfield 47, 3) := by decide +kernel
theorem dX11_law_61 : decode cX11_law 61 = .ok (.iload_n 1, 1) := by decide +kernel
theorem dX11_law_62 : decode cX11_law 62 = .ok (.iload_n 2, 1) := by decide +kernel
theorem dX11_law_63 : decode cX11_law 63 = .ok (.iastore, 1) := by decide +kernel
theorem dX11_law_64 : decode cX11_law 64 = .ok (.iload_n 3, 1) := by decide +kernel
theorem dX11_law_65 : decode cX11_law 65 = .ok (.ireturn, 1) := by decide +kernel
theorem dX11_sheet_0 : decode cX11_sheet 0 = .ok (.aload_n 0, 1) := by decide +kernel
theorem dX11_sheet_1 : decode cX11_sheet 1 = .ok (.iconst 0, 1) := by decide +kernel
theorem dX11_sheet_2 : decode cX11_sheet 2 = .ok (.putfield 126, 3) := by decide +kernel
theorem dX11_sheet_5 : decode cX11_sheet 5 = .ok (.iload_n 1, 1) := by decide +kernel
theorem dX11_sheet_6 : decode cX11_sheet 6 = .ok (.i2l, 1) := by decide +kernel
theorem dX11_sheet_7 : decode cX11_sheet 7 = .ok (.lconst 0, 1) := by decide +kernel
theorem dX11_sheet_8 : decode cX11_sheet 8 = .ok (.ldc2_w 263, 3) := by decide +kernel
theorem dX11_sheet_11 : decode cX11_sheet 11 = .ok (.invokestatic 135, 3) := by decide +kernel
theorem dX11_sheet_14 : decode cX11_sheet 14 = .ok (.ifCond .eq 9, 3) := by decide +kernel
theorem dX11_sheet_17 : decode cX11_sheet 17 = .ok (.iload_n 2, 1) := by decide +kernel
theorem dX11_sheet_18 : decode cX11_sheet 18 = .ok (.bipush 8, 2) := by decide +kernel
theorem dX11_sheet_20 : decode cX11_sheet 20 = .ok (.if_icmp .le 5, 3) := by decide +kernel
theorem dX11_sheet_23 : decode cX11_sheet 23 = .ok (.iconst (-1), 1) := by decide +kernel
theorem dX11_sheet_24 : decode cX11_sheet 24 = .ok (.ireturn, 1) := by decide +kernel
theorem dX11_sheet_25 : decode cX11_sheet 25 = .ok (.iload_n 1, 1) := by decide +kernel
theorem dX11_sheet_26 : decode cX11_sheet 26 = .ok (.iconst 3, 1) := by decide +kernel
theorem dX11_sheet_27 : decode cX11_sheet 27 = .ok (.if_icmp .ge 10, 3) := by decide +kernel
theorem dX11_sheet_30 : decode cX11_sheet 30 = .ok (.iload_n 2, 1) := by decide +kernel
theorem dX11_sheet_31 : decode cX11_sheet 31 = .ok (.ifCond .ge 6, 3) := by decide +kernel
theorem dX11_sheet_34 : decode cX11_sheet 34 = .ok (.bipush (-2), 2) := by decide +kernel
theorem dX11_sheet_36 : decode cX11_sheet 36 = .ok (.ireturn, 1) := by decide +kernel
theorem dX11_sheet_37 : decode cX11_sheet 37 = .ok (.iconst 0, 1) := by decide +kernel
theorem dX11_sheet_38 : decode cX11_sheet 38 = .ok (.istore 5, 2) := by decide +kernel
theorem dX11_sheet_40 : decode cX11_sheet 40 = .ok (.iload_n 3, 1) := by decide +kernel
theorem dX11_sheet_41 : decode cX11_sheet 41 = .ok (.istore 6, 2) := by decide +kernel
theorem dX11_sheet_43 : decode cX11_sheet 43 = .ok (.iconst 0, 1) := by decide +kernel
theorem dX11_sheet_44 : decode cX11_sheet 44 = .ok (.istore 7, 2) := by decide +kernel
theorem dX11_sheet_46 : decode cX11_sheet 46 = .ok (.iload 7, 2) := by decide +kernel
theorem dX11_sheet_48 : decode cX11_sheet 48 = .ok (.aload_n 0, 1) := by decide +kernel
theorem dX11_sheet_49 : decode cX11_sheet 49 = .ok (.getfield 132, 3) := by decide +kernel
theorem dX11_sheet_52 : decode cX11_sheet 52 = .ok (.if_icmp .ge 95, 3) := by decide +kernel
theorem dX11_sheet_55 : decode cX11_sheet 55 = .ok (.iload_n 1, 1) := by decide +kernel
theorem dX11_sheet_56 : decode cX11_sheet 56 = .ok (.ifCond .ne 9, 3) := by decide +kernel
theorem dX11_sheet_59 : decode cX11_sheet 59 = .ok (.iload 6, 2) := by decide +kernel
theorem dX11_sheet_61 : decode cX11_sheet 61 = .ok (.i2b, 1) := by decide +kernel
theorem dX11_sheet_62 : decode cX11_sheet 62 = .ok (.goto 16, 3) := by decide +kernel
theorem dX11_sheet_65 : decode cX11_sheet 65 = .ok (.iload_n 1, 1) := by decide +kernel
theorem dX11_sheet_66 : decode cX11_sheet 66 = .ok (.iconst 1, 1) := by decide +kernel
theorem dX11_sheet_67 : decode cX11_sheet 67 = .ok (.if_icmp .ne 9, 3) := by decide +kernel
theorem dX11_sheet_70 : decode cX11_sheet 70 = .ok (.iload 6, 2) := by decide +kernel
theorem dX11_sheet_72 : decode cX11_sheet 72 = .ok (.i2s, 1) := by decide +kernel
theorem dX11_sheet_73 : decode cX11_sheet 73 = .ok (.goto 5, 3) := by decide +kernel
theorem dX11_sheet_76 : decode cX11_sheet 76 = .ok (.iload 6, 2) := by decide +kernel
theorem dX11_sheet_78 : decode cX11_sheet 78 = .ok (.istore 8, 2) := by decide +kernel
theorem dX11_sheet_80 : decode cX11_sheet 80 = .ok (.aload_n 0, 1) := by decide +kernel
theorem dX11_sheet_81 : decode cX11_sheet 81 = .ok (.getfield 9, 3) := by decide +kernel
theorem dX11_sheet_84 : decode cX11_sheet 84 = .ok (.iload 7, 2) := by decide +kernel
theorem dX11_sheet_86 : decode cX11_sheet 86 = .ok (.iload_n 1, 1) := by decide +kernel
theorem dX11_sheet_87 : decode cX11_sheet 87 = .ok (.iconst 3, 1) := by decide +kernel
theorem dX11_sheet_88 : decode cX11_sheet 88 = .ok (.if_icmp .eq 9, 3) := by decide +kernel
theorem dX11_sheet_91 : decode cX11_sheet 91 = .ok (.iload 7, 2) := by decide +kernel
theorem dX11_sheet_93 : decode cX11_sheet 93 = .ok (.iload_n 2, 1) := by decide +kernel
theorem dX11_sheet_94 : decode cX11_sheet 94 = .ok (.if_icmp .lt 7, 3) := by decide +kernel
theorem dX11_sheet_97 : decode cX11_sheet 97 = .ok (.iconst 0, 1) := by decide +kernel
theorem dX11_sheet_98 : decode cX11_sheet 98 = .ok (.goto 15, 3) := by decide +kernel
theorem dX11_sheet_101 : decode cX11_sheet 101 = .ok (.iconst 0, 1) := by decide +kernel
theorem dX11_sheet_102 : decode cX11_sheet 102 = .ok (.sipush 999, 3) := by decide +kernel
theorem dX11_sheet_105 : decode cX11_sheet 105 = .ok (.iload 8, 2) := by decide +kernel
theorem dX11_sheet_107 : decode cX11_sheet 107 = .ok (.invokestatic 267, 3) := by decide +kernel
theorem dX11_sheet_110 : decode cX11_sheet 110 = .ok (.invokestatic 272, 3) := by decide +kernel
theorem dX11_sheet_113 : decode cX11_sheet 113 = .ok (.iastore, 1) := by decide +kernel
theorem dX11_sheet_114 : decode cX11_sheet 114 = .ok (.aload_n 0, 1) := by decide +kernel
theorem dX11_sheet_115 : decode cX11_sheet 115 = .ok (.getfield 20, 3) := by decide +kernel
theorem dX11_sheet_118 : decode cX11_sheet 118 = .ok (.iload 7, 2) := by decide +kernel
theorem dX11_sheet_120 : decode cX11_sheet 120 = .ok (.iconst 0, 1) := by decide +kernel
theorem dX11_sheet_121 : decode cX11_sheet 121 = .ok (.iastore, 1) := by decide +kernel
theorem dX11_sheet_122 : decode cX11_sheet 122 = .ok (.iload 5, 2) := by decide +kernel
theorem dX11_sheet_124 : decode cX11_sheet 124 = .ok (.aload_n 0, 1) := by decide +kernel
theorem dX11_sheet_125 : decode cX11_sheet 125 = .ok (.getfield 9, 3) := by decide +kernel
theorem dX11_sheet_128 : decode cX11_sheet 128 = .ok (.iload 7, 2) := by decide +kernel
theorem dX11_sheet_130 : decode cX11_sheet 130 = .ok (.iaload, 1) := by decide +kernel
theorem dX11_sheet_131 : decode cX11_sheet 131 = .ok (.iadd, 1) := by decide +kernel
theorem dX11_sheet_132 : decode cX11_sheet 132 = .ok (.istore 5, 2) := by decide +kernel
theorem dX11_sheet_134 : decode cX11_sheet 134 = .ok (.iload 6, 2) := by decide +kernel
theorem dX11_sheet_136 : decode cX11_sheet 136 = .ok (.iload 4, 2) := by decide +kernel
theorem dX11_sheet_138 : decode cX11_sheet 138 = .ok (.iadd, 1) := by decide +kernel
theorem dX11_sheet_139 : decode cX11_sheet 139 = .ok (.istore 6, 2) := by decide +kernel
theorem dX11_sheet_141 : decode cX11_sheet 141 = .ok (.iinc 7 1, 3) := by decide +kernel
theorem dX11_sheet_144 : decode cX11_sheet 144 = .ok (.goto (-98), 3) := by decide +kernel
theorem dX11_sheet_147 : decode cX11_sheet 147 = .ok (.aload_n 0, 1) := by decide +kernel
theorem dX11_sheet_148 : decode cX11_sheet 148 = .ok (.iconst 0, 1) := by decide +kernel
theorem dX11_sheet_149 : decode cX11_sheet 149 = .ok (.putfield 198, 3) := by decide +kernel
theorem dX11_sheet_152 : decode cX11_sheet 152 = .ok (.iload_n 1, 1) := by decide +kernel
theorem dX11_sheet_153 : decode cX11_sheet 153 = .ok (.iconst 3, 1) := by decide +kernel
theorem dX11_sheet_154 : decode cX11_sheet 154 = .ok (.if_icmp .ne 8, 3) := by decide +kernel
theorem dX11_sheet_157 : decode cX11_sheet 157 = .ok (.bipush (-3), 2) := by decide +kernel
theorem dX11_sheet_159 : decode cX11_sheet 159 = .ok (.goto 5, 3) := by decide +kernel
theorem dX11_sheet_162 : decode cX11_sheet 162 = .ok (.iload 5, 2) := by decide +kernel
theorem dX11_sheet_164 : decode cX11_sheet 164 = .ok (.ireturn, 1) := by decide +kernel
theorem dX11_takeNoon_0 : decode cX11_takeNoon 0 = .ok (.iconst 0, 1) := by decide +kernel
theorem dX11_takeNoon_1 : decode cX11_takeNoon 1 = .ok (.istore_n 1, 1) := by decide +kernel
theorem dX11_takeNoon_2 : decode cX11_takeNoon 2 = .ok (.iload_n 1, 1) := by decide +kernel
theorem dX11_takeNoon_3 : decode cX11_takeNoon 3 = .ok (.aload_n 0, 1) := by decide +kernel
theorem dX11_takeNoon_4 : decode cX11_takeNoon 4 = .ok (.getfield 132, 3) := by decide +kernel
theorem dX11_takeNoon_7 : decode cX11_takeNoon 7 = .ok (.if_icmp .ge 20, 3) := by decide +kernel
theorem dX11_takeNoon_10 : decode cX11_takeNoon 10 = .ok (.aload_n 0, 1) := by decide +kernel
theorem dX11_takeNoon_11 : decode cX11_takeNoon 11 = .ok (.getfield 23, 3) := by decide +kernel
theorem dX11_takeNoon_14 : decode cX11_takeNoon 14 = .ok (.iload_n 1, 1) := by decide +kernel
theorem dX11_takeNoon_15 : decode cX11_takeNoon 15 = .ok (.aload_n 0, 1) := by decide +kernel
theorem dX11_takeNoon_16 : decode cX11_takeNoon 16 = .ok (.iload_n 1, 1) := by decide +kernel
theorem dX11_takeNoon_17 : decode cX11_takeNoon 17 = .ok (.invokevirtual 225, 3) := by decide +kernel
theorem dX11_takeNoon_20 : decode cX11_takeNoon 20 = .ok (.iastore, 1) := by decide +kernel
theorem dX11_takeNoon_21 : decode cX11_takeNoon 21 = .ok (.iinc 1 1, 3) := by decide +kernel
theorem dX11_takeNoon_24 : decode cX11_takeNoon 24 = .ok (.goto (-22), 3) := by decide +kernel
theorem dX11_takeNoon_27 : decode cX11_takeNoon 27 = .ok (.return_, 1) := by decide +kernel
theorem dX11_noon_0 : decode cX11_noon 0 = .ok (.aload_n 0, 1) := by decide +kernel
theorem dX11_noon_1 : decode cX11_noon 1 = .ok (.iconst 0, 1) := by decide +kernel
theorem dX11_noon_2 : decode cX11_noon 2 = .ok (.putfield 126, 3) := by decide +kernel
theorem dX11_noon_5 : decode cX11_noon 5 = .ok (.aload_n 0, 1) := by decide +kernel
theorem dX11_noon_6 : decode cX11_noon 6 = .ok (.invokevirtual 275, 3) := by decide +kernel
theorem dX11_noon_9 : decode cX11_noon 9 = .ok (.aload_n 0, 1) := by decide +kernel
theorem dX11_noon_10 : decode cX11_noon 10 = .ok (.iconst 0, 1) := by decide +kernel
theorem dX11_noon_11 : decode cX11_noon 11 = .ok (.putfield 198, 3) := by decide +kernel
theorem dX11_noon_14 : decode cX11_noon 14 = .ok (.iconst 0, 1) := by decide +kernel
theorem dX11_noon_15 : decode cX11_noon 15 = .ok (.istore_n 1, 1) := by decide +kernel
theorem dX11_noon_16 : decode cX11_noon 16 = .ok (.iconst 0, 1) := by decide +kernel
theorem dX11_noon_17 : decode cX11_noon 17 = .ok (.istore_n 2, 1) := by decide +kernel
theorem dX11_noon_18 : decode cX11_noon 18 = .ok (.iload_n 2, 1) := by decide +kernel
theorem dX11_noon_19 : decode cX11_noon 19 = .ok (.aload_n 0, 1) := by decide +kernel
theorem dX11_noon_20 : decode cX11_noon 20 = .ok (.getfield 132, 3) := by decide +kernel
theorem dX11_noon_23 : decode cX11_noon 23 = .ok (.if_icmp .ge 18, 3) := by decide +kernel
theorem dX11_noon_26 : decode cX11_noon 26 = .ok (.iload_n 1, 1) := by decide +kernel
theorem dX11_noon_27 : decode cX11_noon 27 = .ok (.aload_n 0, 1) := by decide +kernel
theorem dX11_noon_28 : decode cX11_noon 28 = .ok (.getfield 23, 3) := by decide +kernel
theorem dX11_noon_31 : decode cX11_noon 31 = .ok (.iload_n 2, 1) := by decide +kernel
theorem dX11_noon_32 : decode cX11_noon 32 = .ok (.iaload, 1) := by decide +kernel
theorem dX11_noon_33 : decode cX11_noon 33 = .ok (.iadd, 1) := by decide +kernel
theorem dX11_noon_34 : decode cX11_noon 34 = .ok (.istore_n 1, 1) := by decide +kernel
theorem dX11_noon_35 : decode cX11_noon 35 = .ok (.iinc 2 1, 3) := by decide +kernel
theorem dX11_noon_38 : decode cX11_noon 38 = .ok (.goto (-20), 3) := by decide +kernel
theorem dX11_noon_41 : decode cX11_noon 41 = .ok (.iload_n 1, 1) := by decide +kernel
theorem dX11_noon_42 : decode cX11_noon 42 = .ok (.ireturn, 1) := by decide +kernel
theorem dX11_hide_0 : decode cX11_hide 0 = .ok (.aload_n 0, 1) := by decide +kernel
theorem dX11_hide_1 : decode cX11_hide 1 = .ok (.iconst 0, 1) := by decide +kernel
theorem dX11_hide_2 : decode cX11_hide 2 = .ok (.putfield 126, 3) := by decide +kernel
theorem dX11_hide_5 : decode cX11_hide 5 = .ok (.aload_n 0, 1) := by decide +kernel
theorem dX11_hide_6 : decode cX11_hide 6 = .ok (.iload_n 1, 1) := by decide +kernel
theorem dX11_hide_7 : decode cX11_hide 7 = .ok (.invokevirtual 244, 3) := by decide +kernel
theorem dX11_hide_10 : decode cX11_hide 10 = .ok (.ifCond .eq 19, 3) := by decide +kernel
theorem dX11_hide_13 : decode cX11_hide 13 = .ok (.iload_n 2, 1) := by decide +kernel
theorem dX11_hide_14 : decode cX11_hide 14 = .ok (.i2l, 1) := by decide +kernel
theorem dX11_hide_15 : decode cX11_hide 15 = .ok (.lconst 0, 1) := by decide +kernel
theorem dX11_hide_16 : decode cX11_hide 16 = .ok (.aload_n 0, 1) := by decide +kernel
theorem dX11_hide_17 : decode cX11_hide 17 = .ok (.getfield 9, 3) := by decide +kernel
theorem dX11_hide_20 : decode cX11_hide 20 = .ok (.iload_n 1, 1) := by decide +kernel
theorem dX11_hide_21 : decode cX11_hide 21 = .ok (.iaload, 1) := by decide +kernel
theorem dX11_hide_22 : decode cX11_hide 22 = .ok (.i2l, 1) := by decide +kernel
theorem dX11_hide_23 : decode cX11_hide 23 = .ok (.invokestatic 135, 3) := by decide +kernel
theorem dX11_hide_26 : decode cX11_hide 26 = .ok (.ifCond .ne 5, 3) := by decide +kernel
theorem dX11_hide_29 : decode cX11_hide 29 = .ok (.iconst (-1), 1) := by decide +kernel
theorem dX11_hide_30 : decode cX11_hide 30 = .ok (.ireturn, 1) := by decide +kernel
theorem dX11_hide_31 : decode cX11_hide 31 = .ok (.aload_n 0, 1) := by decide +kernel
theorem dX11_hide_32 : decode cX11_hide 32 = .ok (.getfield 20, 3) := by decide +kernel
theorem dX11_hide_35 : decode cX11_hide 35 = .ok (.iload_n 1, 1) := by decide +kernel
theorem dX11_hide_36 : decode cX11_hide 36 = .ok (.iaload, 1) := by decide +kernel
theorem dX11_hide_37 : decode cX11_hide 37 = .ok (.istore_n 3, 1) := by decide +kernel
theorem dX11_hide_38 : decode cX11_hide 38 = .ok (.aload_n 0, 1) := by decide +kernel
theorem dX11_hide_39 : decode cX11_hide 39 = .ok (.getfield 20, 3) := by decide +kernel
theorem dX11_hide_42 : decode cX11_hide 42 = .ok (.iload_n 1, 1) := by decide +kernel
theorem dX11_hide_43 : decode cX11_hide 43 = .ok (.iload_n 2, 1) := by decide +kernel
theorem dX11_hide_44 : decode cX11_hide 44 = .ok (.iastore, 1) := by decide +kernel
theorem dX11_hide_45 : decode cX11_hide 45 = .ok (.aload_n 0, 1) := by decide +kernel
theorem dX11_hide_46 : decode cX11_hide 46 = .ok (.iconst 0, 1) := by decide +kernel
theorem dX11_hide_47 : decode cX11_hide 47 = .ok (.putfield 198, 3) := by decide +kernel
theorem dX11_hide_50 : decode cX11_hide 50 = .ok (.iload_n 3, 1) := by decide +kernel
theorem dX11_hide_51 : decode cX11_hide 51 = .ok (.ireturn, 1) := by decide +kernel
theorem dX11_search_0 : decode cX11_search 0 = .ok (.aload_n 0, 1) := by decide +kernel
theorem dX11_search_1 : decode cX11_search 1 = .ok (.iconst 0, 1) := by decide +kernel
theorem dX11_search_2 : decode cX11_search 2 = .ok (.putfield 126, 3) := by decide +kernel
theorem dX11_search_5 : decode cX11_search 5 = .ok (.aload_n 0, 1) := by decide +kernel
theorem dX11_search_6 : decode cX11_search 6 = .ok (.iload_n 1, 1) := by decide +kernel
theorem dX11_search_7 : decode cX11_search 7 = .ok (.invokevirtual 244, 3) := by decide +kernel
theorem dX11_search_10 : decode cX11_search 10 = .ok (.ifCond .eq 15, 3) := by decide +kernel
theorem dX11_search_13 : decode cX11_search 13 = .ok (.iload_n 2, 1) := by decide +kernel
theorem dX11_search_14 : decode cX11_search 14 = .ok (.i2l, 1) := by decide +kernel
theorem dX11_search_15 : decode cX11_search 15 = .ok (.lconst 0, 1) := by decide +kernel
theorem dX11_search_16 : decode cX11_search 16 = .ok (.ldc2_w 278, 3) := by decide +kernel
theorem dX11_search_19 : decode cX11_search 19 = .ok (.invokestatic 135, 3) := by decide +kernel
theorem dX11_search_22 : decode cX11_search 22 = .ok (.ifCond .ne 5, 3) := by decide +kernel
theorem dX11_search_25 : decode cX11_search 25 = .ok (.iconst (-1), 1) := by decide +kernel
theorem dX11_search_26 : decode cX11_search 26 = .ok (.ireturn, 1) := by decide +kernel
theorem dX11_search_27 : decode cX11_search 27 = .ok (.aload_n 0, 1) := by decide +kernel
theorem dX11_search_28 : decode cX11_search 28 = .ok (.aload_n 0, 1) := by decide +kernel
theorem dX11_search_29 : decode cX11_search 29 = .ok (.getfield 50, 3) := by decide +kernel
theorem dX11_search_32 : decode cX11_search 32 = .ok (.ldc_w 280, 3) := by decide +kernel
theorem dX11_search_35 : decode cX11_search 35 = .ok (.imul, 1) := by decide +kernel
theorem dX11_search_36 : decode cX11_search 36 = .ok (.sipush 12345, 3) := by decide +kernel
theorem dX11_search_39 : decode cX11_search 39 = .ok (.iadd, 1) := by decide +kernel
theorem dX11_search_40 : decode cX11_search 40 = .ok (.putfield 50, 3) := by decide +kernel
theorem dX11_search_43 : decode cX11_search 43 = .ok (.aload_n 0, 1) := by decide +kernel
theorem dX11_search_44 : decode cX11_search 44 = .ok (.iconst 0, 1) := by decide +kernel
theorem dX11_search_45 : decode cX11_search 45 = .ok (.putfield 198, 3) := by decide +kernel
theorem dX11_search_48 : decode cX11_search 48 = .ok (.aload_n 0, 1) := by decide +kernel
theorem dX11_search_49 : decode cX11_search 49 = .ok (.getfield 50, 3) := by decide +kernel
theorem dX11_search_52 : decode cX11_search 52 = .ok (.bipush 16, 2) := by decide +kernel
theorem dX11_search_54 : decode cX11_search 54 = .ok (.iushr, 1) := by decide +kernel
theorem dX11_search_55 : decode cX11_search 55 = .ok (.bipush 10, 2) := by decide +kernel
theorem dX11_search_57 : decode cX11_search 57 = .ok (.irem, 1) := by decide +kernel
theorem dX11_search_58 : decode cX11_search 58 = .ok (.iload_n 2, 1) := by decide +kernel
theorem dX11_search_59 : decode cX11_search 59 = .ok (.if_icmp .lt 5, 3) := by decide +kernel
theorem dX11_search_62 : decode cX11_search 62 = .ok (.iconst 0, 1) := by decide +kernel
theorem dX11_search_63 : decode cX11_search 63 = .ok (.ireturn, 1) := by decide +kernel
theorem dX11_search_64 : decode cX11_search 64 = .ok (.aload_n 0, 1) := by decide +kernel
theorem dX11_search_65 : decode cX11_search 65 = .ok (.getfield 20, 3) := by decide +kernel
theorem dX11_search_68 : decode cX11_search 68 = .ok (.iload_n 1, 1) := by decide +kernel
theorem dX11_search_69 : decode cX11_search 69 = .ok (.iaload, 1) := by decide +kernel
theorem dX11_search_70 : decode cX11_search 70 = .ok (.istore_n 3, 1) := by decide +kernel
theorem dX11_search_71 : decode cX11_search 71 = .ok (.aload_n 0, 1) := by decide +kernel
theorem dX11_search_72 : decode cX11_search 72 = .ok (.getfield 9, 3) := by decide +kernel
theorem dX11_search_75 : decode cX11_search 75 = .ok (.iload_n 1, 1) := by decide +kernel
theorem dX11_search_76 : decode cX11_search 76 = .ok (.dup2, 1) := by decide +kernel
theorem dX11_search_77 : decode cX11_search 77 = .ok (.iaload, 1) := by decide +kernel
theorem dX11_search_78 : decode cX11_search 78 = .ok (.iload_n 3, 1) := by decide +kernel
theorem dX11_search_79 : decode cX11_search 79 = .ok (.isub, 1) := by decide +kernel
theorem dX11_search_80 : decode cX11_search 80 = .ok (.iastore, 1) := by decide +kernel
theorem dX11_search_81 : decode cX11_search 81 = .ok (.aload_n 0, 1) := by decide +kernel
theorem dX11_search_82 : decode cX11_search 82 = .ok (.getfield 20, 3) := by decide +kernel
theorem dX11_search_85 : decode cX11_search 85 = .ok (.iload_n 1, 1) := by decide +kernel
theorem dX11_search_86 : decode cX11_search 86 = .ok (.iconst 0, 1) := by decide +kernel
theorem dX11_search_87 : decode cX11_search 87 = .ok (.iastore, 1) := by decide +kernel
theorem dX11_search_88 : decode cX11_search 88 = .ok (.iload_n 3, 1) := by decide +kernel
theorem dX11_search_89 : decode cX11_search 89 = .ok (.ireturn, 1) := by decide +kernel
theorem dX11_isBelow_0 : decode cX11_isBelow 0 = .ok (.aload_n 0, 1) := by decide +kernel
theorem dX11_isBelow_1 : decode cX11_isBelow 1 = .ok (.iload_n 1, 1) := by decide +kernel
theorem dX11_isBelow_2 : decode cX11_isBelow 2 = .ok (.invokevirtual 252, 3) := by decide +kernel
theorem dX11_isBelow_5 : decode cX11_isBelow 5 = .ok (.istore_n 3, 1) := by decide +kernel
theorem dX11_isBelow_6 : decode cX11_isBelow 6 = .ok (.aload_n 0, 1) := by decide +kernel
theorem dX11_isBelow_7 : decode cX11_isBelow 7 = .ok (.iload_n 2, 1) := by decide +kernel
theorem dX11_isBelow_8 : decode cX11_isBelow 8 = .ok (.invokevirtual 252, 3) := by decide +kernel
theorem dX11_isBelow_11 : decode cX11_isBelow 11 = .ok (.istore 4, 2) := by decide +kernel
theorem dX11_isBelow_13 : decode cX11_isBelow 13 = .ok (.aload_n 0, 1) := by decide +kernel
theorem dX11_isBelow_14 : decode cX11_isBelow 14 = .ok (.getfield 47, 3) := by decide +kernel
theorem dX11_isBelow_17 : decode cX11_isBelow 17 = .ok (.iconst 0, 1) := by decide +kernel
theorem dX11_isBelow_18 : decode cX11_isBelow 18 = .ok (.iaload, 1) := by decide +kernel
theorem dX11_isBelow_19 : decode cX11_isBelow 19 = .ok (.tableswitch 102 0 2 #[25, 37, 90], 25) := by decide +kernel
theorem dX11_isBelow_44 : decode cX11_isBelow 44 = .ok (.iload_n 3, 1) := by decide +kernel
theorem dX11_isBelow_45 : decode cX11_isBelow 45 = .ok (.iload 4, 2) := by decide +kernel
theorem dX11_isBelow_47 : decode cX11_isBelow 47 = .ok (.if_icmp .ge 7, 3) := by decide +kernel
theorem dX11_isBelow_50 : decode cX11_isBelow 50 = .ok (.iconst 1, 1) := by decide +kernel
theorem dX11_isBelow_51 : decode cX11_isBelow 51 = .ok (.goto 4, 3) := by decide +kernel
theorem dX11_isBelow_54 : decode cX11_isBelow 54 = .ok (.iconst 0, 1) := by decide +kernel
theorem dX11_isBelow_55 : decode cX11_isBelow 55 = .ok (.ireturn, 1) := by decide +kernel
theorem dX11_isBelow_56 : decode cX11_isBelow 56 = .ok (.iconst 0, 1) := by decide +kernel
theorem dX11_isBelow_57 : decode cX11_isBelow 57 = .ok (.istore 5, 2) := by decide +kernel
theorem dX11_isBelow_59 : decode cX11_isBelow 59 = .ok (.iload 5, 2) := by decide +kernel
theorem dX11_isBelow_61 : decode cX11_isBelow 61 = .ok (.aload_n 0, 1) := by decide +kernel
theorem dX11_isBelow_62 : decode cX11_isBelow 62 = .ok (.getfield 132, 3) := by decide +kernel
theorem dX11_isBelow_65 : decode cX11_isBelow 65 = .ok (.if_icmp .ge 32, 3) := by decide +kernel
theorem dX11_isBelow_68 : decode cX11_isBelow 68 = .ok (.aload_n 0, 1) := by decide +kernel
theorem dX11_isBelow_69 : decode cX11_isBelow 69 = .ok (.iload 5, 2) := by decide +kernel
theorem dX11_isBelow_71 : decode cX11_isBelow 71 = .ok (.invokevirtual 252, 3) := by decide +kernel
theorem dX11_isBelow_74 : decode cX11_isBelow 74 = .ok (.iload_n 3, 1) := by decide +kernel
theorem dX11_isBelow_75 : decode cX11_isBelow 75 = .ok (.if_icmp .le 16, 3) := by decide +kernel
theorem dX11_isBelow_78 : decode cX11_isBelow 78 = .ok (.aload_n 0, 1) := by decide +kernel
theorem dX11_isBelow_79 : decode cX11_isBelow 79 = .ok (.iload 5, 2) := by decide +kernel
theorem dX11_isBelow_81 : decode cX11_isBelow 81 = .ok (.invokevirtual 252, 3) := by decide +kernel
theorem dX11_isBelow_84 : decode cX11_isBelow 84 = .ok (.iload 4, 2) := by decide +kernel
theorem dX11_isBelow_86 : decode cX11_isBelow 86 = .ok (.if_icmp .ge 5, 3) := by decide +kernel
theorem dX11_isBelow_89 : decode cX11_isBelow 89 = .ok (.iconst 0, 1) := by decide +kernel
theorem dX11_isBelow_90 : decode cX11_isBelow 90 = .ok (.ireturn, 1) := by decide +kernel
theorem dX11_isBelow_91 : decode cX11_isBelow 91 = .ok (.iinc 5 1, 3) := by decide +kernel
theorem dX11_isBelow_94 : decode cX11_isBelow 94 = .ok (.goto (-35), 3) := by decide +kernel
theorem dX11_isBelow_97 : decode cX11_isBelow 97 = .ok (.iload_n 3, 1) := by decide +kernel
theorem dX11_isBelow_98 : decode cX11_isBelow 98 = .ok (.iload 4, 2) := by decide +kernel
theorem dX11_isBelow_100 : decode cX11_isBelow 100 = .ok (.if_icmp .ge 7, 3) := by decide +kernel
theorem dX11_isBelow_103 : decode cX11_isBelow 103 = .ok (.iconst 1, 1) := by decide +kernel
theorem dX11_isBelow_104 : decode cX11_isBelow 104 = .ok (.goto 4, 3) := by decide +kernel
theorem dX11_isBelow_107 : decode cX11_isBelow 107 = .ok (.iconst 0, 1) := by decide +kernel
theorem dX11_isBelow_108 : decode cX11_isBelow 108 = .ok (.ireturn, 1) := by decide +kernel
theorem dX11_isBelow_109 : decode cX11_isBelow 109 = .ok (.iload_n 3, 1) := by decide +kernel
theorem dX11_isBelow_110 : decode cX11_isBelow 110 = .ok (.iload 4, 2) := by decide +kernel
theorem dX11_isBelow_112 : decode cX11_isBelow 112 = .ok (.if_icmp .le 7, 3) := by decide +kernel
theorem dX11_isBelow_115 : decode cX11_isBelow 115 = .ok (.iconst 1, 1) := by decide +kernel
theorem dX11_isBelow_116 : decode cX11_isBelow 116 = .ok (.goto 4, 3) := by decide +kernel
theorem dX11_isBelow_119 : decode cX11_isBelow 119 = .ok (.iconst 0, 1) := by decide +kernel
theorem dX11_isBelow_120 : decode cX11_isBelow 120 = .ok (.ireturn, 1) := by decide +kernel
theorem dX11_isBelow_121 : decode cX11_isBelow 121 = .ok (.iload 4, 2) := by decide +kernel
theorem dX11_isBelow_123 : decode cX11_isBelow 123 = .ok (.iload_n 3, 1) := by decide +kernel
theorem dX11_isBelow_124 : decode cX11_isBelow 124 = .ok (.isub, 1) := by decide +kernel
theorem dX11_isBelow_125 : decode cX11_isBelow 125 = .ok (.aload_n 0, 1) := by decide +kernel
theorem dX11_isBelow_126 : decode cX11_isBelow 126 = .ok (.getfield 47, 3) := by decide +kernel
theorem dX11_isBelow_129 : decode cX11_isBelow 129 = .ok (.iconst 1, 1) := by decide +kernel
theorem dX11_isBelow_130 : decode cX11_isBelow 130 = .ok (.iaload, 1) := by decide +kernel
theorem dX11_isBelow_131 : decode cX11_isBelow 131 = .ok (.if_icmp .lt 7, 3) := by decide +kernel
theorem dX11_isBelow_134 : decode cX11_isBelow 134 = .ok (.iconst 1, 1) := by decide +kernel
theorem dX11_isBelow_135 : decode cX11_isBelow 135 = .ok (.goto 4, 3) := by decide +kernel
theorem dX11_isBelow_138 : decode cX11_isBelow 138 = .ok (.iconst 0, 1) := by decide +kernel
theorem dX11_isBelow_139 : decode cX11_isBelow 139 = .ok (.ireturn, 1) := by decide +kernel
theorem dX11_below_0 : decode cX11_below 0 = .ok (.aload_n 0, 1) := by decide +kernel
theorem dX11_below_1 : decode cX11_below 1 = .ok (.iconst 0, 1) := by decide +kernel
theorem dX11_below_2 : decode cX11_below 2 = .ok (.putfield 126, 3) := by decide +kernel
theorem dX11_below_5 : decode cX11_below 5 = .ok (.aload_n 0, 1) := by decide +kernel
theorem dX11_below_6 : decode cX11_below 6 = .ok (.iload_n 1, 1) := by decide +kernel
theorem dX11_below_7 : decode cX11_below 7 = .ok (.invokevirtual 244, 3) := by decide +kernel
theorem dX11_below_10 : decode cX11_below 10 = .ok (.ifCond .ne 5, 3) := by decide +kernel
theorem dX11_below_13 : decode cX11_below 13 = .ok (.iconst (-1), 1) := by decide +kernel
theorem dX11_below_14 : decode cX11_below 14 = .ok (.ireturn, 1) := by decide +kernel
theorem dX11_below_15 : decode cX11_below 15 = .ok (.iconst 0, 1) := by decide +kernel
theorem dX11_below_16 : decode cX11_below 16 = .ok (.istore_n 2, 1) := by decide +kernel
theorem dX11_below_17 : decode cX11_below 17 = .ok (.iconst 0, 1) := by decide +kernel
theorem dX11_below_18 : decode cX11_below 18 = .ok (.istore_n 3, 1) := by decide +kernel
theorem dX11_below_19 : decode cX11_below 19 = .ok (.iload_n 3, 1) := by decide +kernel
theorem dX11_below_20 : decode cX11_below 20 = .ok (.aload_n 0, 1) := by decide +kernel
theorem dX11_below_21 : decode cX11_below 21 = .ok (.getfield 132, 3) := by decide +kernel
theorem dX11_below_24 : decode cX11_below 24 = .ok (.if_icmp .ge 33, 3) := by decide +kernel
theorem dX11_below_27 : decode cX11_below 27 = .ok (.iload_n 2, 1) := by decide +kernel
theorem dX11_below_28 : decode cX11_below 28 = .ok (.iload_n 3, 1) := by decide +kernel
theorem dX11_below_29 : decode cX11_below 29 = .ok (.iload_n 1, 1) := by decide +kernel
theorem dX11_below_30 : decode cX11_below 30 = .ok (.if_icmp .eq 18, 3) := by decide +kernel
theorem dX11_below_33 : decode cX11_below 33 = .ok (.aload_n 0, 1) := by decide +kernel
theorem dX11_below_34 : decode cX11_below 34 = .ok (.iload_n 3, 1) := by decide +kernel
theorem dX11_below_35 : decode cX11_below 35 = .ok (.iload_n 1, 1) := by decide +kernel
theorem dX11_below_36 : decode cX11_below 36 = .ok (.invokevirtual 281, 3) := by decide +kernel
theorem dX11_below_39 : decode cX11_below 39 = .ok (.ifCond .eq 9, 3) := by decide +kernel
theorem dX11_below_42 : decode cX11_below 42 = .ok (.iconst 1, 1) := by decide +kernel
theorem dX11_below_43 : decode cX11_below 43 = .ok (.iload_n 3, 1) := by decide +kernel
theorem dX11_below_44 : decode cX11_below 44 = .ok (.ishl, 1) := by decide +kernel
theorem dX11_below_45 : decode cX11_below 45 = .ok (.goto 4, 3) := by decide +kernel
theorem dX11_below_48 : decode cX11_below 48 = .ok (.iconst 0, 1) := by decide +kernel
theorem dX11_below_49 : decode cX11_below 49 = .ok (.ior, 1) := by decide +kernel
theorem dX11_below_50 : decode cX11_below 50 = .ok (.istore_n 2, 1) := by decide +kernel
theorem dX11_below_51 : decode cX11_below 51 = .ok (.iinc 3 1, 3) := by decide +kernel
theorem dX11_below_54 : decode cX11_below 54 = .ok (.goto (-35), 3) := by decide +kernel
theorem dX11_below_57 : decode cX11_below 57 = .ok (.iload_n 2, 1) := by decide +kernel
theorem dX11_below_58 : decode cX11_below 58 = .ok (.ireturn, 1) := by decide +kernel
theorem dX11_priceOf_0 : decode cX11_priceOf 0 = .ok (.aload_n 0, 1) := by decide +kernel
theorem dX11_priceOf_1 : decode cX11_priceOf 1 = .ok (.getfield 16, 3) := by decide +kernel
theorem dX11_priceOf_4 : decode cX11_priceOf 4 = .ok (.iload_n 1, 1) := by decide +kernel
theorem dX11_priceOf_5 : decode cX11_priceOf 5 = .ok (.baload, 1) := by decide +kernel
theorem dX11_priceOf_6 : decode cX11_priceOf 6 = .ok (.ifCond .eq 7, 3) := by decide +kernel
theorem dX11_priceOf_9 : decode cX11_priceOf 9 = .ok (.iconst 0, 1) := by decide +kernel
theorem dX11_priceOf_10 : decode cX11_priceOf 10 = .ok (.goto 26, 3) := by decide +kernel
theorem dX11_priceOf_13 : decode cX11_priceOf 13 = .ok (.aload_n 0, 1) := by decide +kernel
theorem dX11_priceOf_14 : decode cX11_priceOf 14 = .ok (.getfield 35, 3) := by decide +kernel
theorem dX11_priceOf_17 : decode cX11_priceOf 17 = .ok (.iload_n 2, 1) := by decide +kernel
theorem dX11_priceOf_18 : decode cX11_priceOf 18 = .ok (.iaload, 1) := by decide +kernel
theorem dX11_priceOf_19 : decode cX11_priceOf 19 = .ok (.aload_n 0, 1) := by decide +kernel
theorem dX11_priceOf_20 : decode cX11_priceOf 20 = .ok (.getfield 35, 3) := by decide +kernel
theorem dX11_priceOf_23 : decode cX11_priceOf 23 = .ok (.iload_n 2, 1) := by decide +kernel
theorem dX11_priceOf_24 : decode cX11_priceOf 24 = .ok (.iaload, 1) := by decide +kernel
theorem dX11_priceOf_25 : decode cX11_priceOf 25 = .ok (.aload_n 0, 1) := by decide +kernel
theorem dX11_priceOf_26 : decode cX11_priceOf 26 = .ok (.getfield 13, 3) := by decide +kernel
theorem dX11_priceOf_29 : decode cX11_priceOf 29 = .ok (.iload_n 1, 1) := by decide +kernel
theorem dX11_priceOf_30 : decode cX11_priceOf 30 = .ok (.iaload, 1) := by decide +kernel
theorem dX11_priceOf_31 : decode cX11_priceOf 31 = .ok (.imul, 1) := by decide +kernel
theorem dX11_priceOf_32 : decode cX11_priceOf 32 = .ok (.bipush 100, 2) := by decide +kernel
theorem dX11_priceOf_34 : decode cX11_priceOf 34 = .ok (.idiv, 1) := by decide +kernel
theorem dX11_priceOf_35 : decode cX11_priceOf 35 = .ok (.iadd, 1) := by decide +kernel
theorem dX11_priceOf_36 : decode cX11_priceOf 36 = .ok (.ireturn, 1) := by decide +kernel
theorem dX11_may_0 : decode cX11_may 0 = .ok (.iload_n 1, 1) := by decide +kernel
theorem dX11_may_1 : decode cX11_may 1 = .ok (.aload_n 0, 1) := by decide +kernel
theorem dX11_may_2 : decode cX11_may 2 = .ok (.getfield 29, 3) := by decide +kernel
theorem dX11_may_5 : decode cX11_may 5 = .ok (.iload_n 2, 1) := by decide +kernel
theorem dX11_may_6 : decode cX11_may 6 = .ok (.iaload, 1) := by decide +kernel
theorem dX11_may_7 : decode cX11_may 7 = .ok (.if_icmp .eq 45, 3) := by decide +kernel
theorem dX11_may_10 : decode cX11_may 10 = .ok (.iload_n 1, 1) := by decide +kernel
theorem dX11_may_11 : decode cX11_may 11 = .ok (.aload_n 0, 1) := by decide +kernel
theorem dX11_may_12 : decode cX11_may 12 = .ok (.getfield 32, 3) := by decide +kernel
theorem dX11_may_15 : decode cX11_may 15 = .ok (.iload_n 2, 1) := by decide +kernel
theorem dX11_may_16 : decode cX11_may 16 = .ok (.iaload, 1) := by decide +kernel
theorem dX11_may_17 : decode cX11_may 17 = .ok (.if_icmp .eq 35, 3) := by decide +kernel
theorem dX11_may_20 : decode cX11_may 20 = .ok (.aload_n 0, 1) := by decide +kernel
theorem dX11_may_21 : decode cX11_may 21 = .ok (.iload_n 1, 1) := by decide +kernel
theorem dX11_may_22 : decode cX11_may 22 = .ok (.invokevirtual 225, 3) := by decide +kernel
theorem dX11_may_25 : decode cX11_may 25 = .ok (.aload_n 0, 1) := by decide +kernel
theorem dX11_may_26 : decode cX11_may 26 = .ok (.getfield 35, 3) := by decide +kernel
theorem dX11_may_29 : decode cX11_may 29 = .ok (.iload_n 2, 1) := by decide +kernel
theorem dX11_may_30 : decode cX11_may 30 = .ok (.iaload, 1) := by decide +kernel
theorem dX11_may_31 : decode cX11_may 31 = .ok (.if_icmp .lt 21, 3) := by decide +kernel
theorem dX11_may_34 : decode cX11_may 34 = .ok (.aload_n 0, 1) := by decide +kernel
theorem dX11_may_35 : decode cX11_may 35 = .ok (.iload_n 1, 1) := by decide +kernel
theorem dX11_may_36 : decode cX11_may 36 = .ok (.aload_n 0, 1) := by decide +kernel
theorem dX11_may_37 : decode cX11_may 37 = .ok (.getfield 29, 3) := by decide +kernel
theorem dX11_may_40 : decode cX11_may 40 = .ok (.iload_n 2, 1) := by decide +kernel
theorem dX11_may_41 : decode cX11_may 41 = .ok (.iaload, 1) := by decide +kernel
theorem dX11_may_42 : decode cX11_may 42 = .ok (.invokevirtual 281, 3) := by decide +kernel
theorem dX11_may_45 : decode cX11_may 45 = .ok (.ifCond .eq 7, 3) := by decide +kernel
theorem dX11_may_48 : decode cX11_may 48 = .ok (.iconst 1, 1) := by decide +kernel
theorem dX11_may_49 : decode cX11_may 49 = .ok (.goto 4, 3) := by decide +kernel
theorem dX11_may_52 : decode cX11_may 52 = .ok (.iconst 0, 1) := by decide +kernel
theorem dX11_may_53 : decode cX11_may 53 = .ok (.ireturn, 1) := by decide +kernel
theorem dX11_mayPay_0 : decode cX11_mayPay 0 = .ok (.iconst 0, 1) := by decide +kernel
theorem dX11_mayPay_1 : decode cX11_mayPay 1 = .ok (.istore_n 2, 1) := by decide +kernel
theorem dX11_mayPay_2 : decode cX11_mayPay 2 = .ok (.iconst 0, 1) := by decide +kernel
theorem dX11_mayPay_3 : decode cX11_mayPay 3 = .ok (.istore_n 3, 1) := by decide +kernel
theorem dX11_mayPay_4 : decode cX11_mayPay 4 = .ok (.iload_n 3, 1) := by decide +kernel
theorem dX11_mayPay_5 : decode cX11_mayPay 5 = .ok (.aload_n 0, 1) := by decide +kernel
theorem dX11_mayPay_6 : decode cX11_mayPay 6 = .ok (.getfield 132, 3) := by decide +kernel
theorem dX11_mayPay_9 : decode cX11_mayPay 9 = .ok (.if_icmp .ge 28, 3) := by decide +kernel
theorem dX11_mayPay_12 : decode cX11_mayPay 12 = .ok (.iload_n 2, 1) := by decide +kernel
theorem dX11_mayPay_13 : decode cX11_mayPay 13 = .ok (.aload_n 0, 1) := by decide +kernel
theorem dX11_mayPay_14 : decode cX11_mayPay 14 = .ok (.iload_n 3, 1) := by decide +kernel
theorem dX11_mayPay_15 : decode cX11_mayPay 15 = .ok (.iload_n 1, 1) := by decide +kernel
theorem dX11_mayPay_16 : decode cX11_mayPay 16 = .ok (.invokevirtual 285, 3) := by decide +kernel
theorem dX11_mayPay_19 : decode cX11_mayPay 19 = .ok (.ifCond .eq 9, 3) := by decide +kernel
theorem dX11_mayPay_22 : decode cX11_mayPay 22 = .ok (.iconst 1, 1) := by decide +kernel
theorem dX11_mayPay_23 : decode cX11_mayPay 23 = .ok (.iload_n 3, 1) := by decide +kernel
theorem dX11_mayPay_24 : decode cX11_mayPay 24 = .ok (.ishl, 1) := by decide +kernel
theorem dX11_mayPay_25 : decode cX11_mayPay 25 = .ok (.goto 4, 3) := by decide +kernel
theorem dX11_mayPay_28 : decode cX11_mayPay 28 = .ok (.iconst 0, 1) := by decide +kernel
theorem dX11_mayPay_29 : decode cX11_mayPay 29 = .ok (.ior, 1) := by decide +kernel
theorem dX11_mayPay_30 : decode cX11_mayPay 30 = .ok (.istore_n 2, 1) := by decide +kernel
theorem dX11_mayPay_31 : decode cX11_mayPay 31 = .ok (.iinc 3 1, 3) := by decide +kernel
theorem dX11_mayPay_34 : decode cX11_mayPay 34 = .ok (.goto (-30), 3) := by decide +kernel
theorem dX11_mayPay_37 : decode cX11_mayPay 37 = .ok (.iload_n 2, 1) := by decide +kernel
theorem dX11_mayPay_38 : decode cX11_mayPay 38 = .ok (.ireturn, 1) := by decide +kernel
theorem dX11_may__0 : decode cX11_may_ 0 = .ok (.aload_n 0, 1) := by decide +kernel
theorem dX11_may__1 : decode cX11_may_ 1 = .ok (.iconst 0, 1) := by decide +kernel
theorem dX11_may__2 : decode cX11_may_ 2 = .ok (.putfield 126, 3) := by decide +kernel
theorem dX11_may__5 : decode cX11_may_ 5 = .ok (.aload_n 0, 1) := by decide +kernel
theorem dX11_may__6 : decode cX11_may_ 6 = .ok (.iload_n 1, 1) := by decide +kernel
theorem dX11_may__7 : decode cX11_may_ 7 = .ok (.invokevirtual 142, 3) := by decide +kernel
theorem dX11_may__10 : decode cX11_may_ 10 = .ok (.ifCond .ne 5, 3) := by decide +kernel
theorem dX11_may__13 : decode cX11_may_ 13 = .ok (.iconst (-1), 1) := by decide +kernel
theorem dX11_may__14 : decode cX11_may_ 14 = .ok (.ireturn, 1) := by decide +kernel
theorem dX11_may__15 : decode cX11_may_ 15 = .ok (.aload_n 0, 1) := by decide +kernel
theorem dX11_may__16 : decode cX11_may_ 16 = .ok (.getfield 41, 3) := by decide +kernel
theorem dX11_may__19 : decode cX11_may_ 19 = .ok (.iload_n 1, 1) := by decide +kernel
theorem dX11_may__20 : decode cX11_may_ 20 = .ok (.iaload, 1) := by decide +kernel
theorem dX11_may__21 : decode cX11_may_ 21 = .ok (.ifCond .ne 11, 3) := by decide +kernel
theorem dX11_may__24 : decode cX11_may_ 24 = .ok (.aload_n 0, 1) := by decide +kernel
theorem dX11_may__25 : decode cX11_may_ 25 = .ok (.iload_n 1, 1) := by decide +kernel
theorem dX11_may__26 : decode cX11_may_ 26 = .ok (.invokevirtual 288, 3) := by decide +kernel
theorem dX11_may__29 : decode cX11_may_ 29 = .ok (.goto 4, 3) := by decide +kernel
theorem dX11_may__32 : decode cX11_may_ 32 = .ok (.iconst 0, 1) := by decide +kernel
theorem dX11_may__33 : decode cX11_may_ 33 = .ok (.istore_n 2, 1) := by decide +kernel
theorem dX11_may__34 : decode cX11_may_ 34 = .ok (.iconst (-1), 1) := by decide +kernel
theorem dX11_may__35 : decode cX11_may_ 35 = .ok (.istore_n 3, 1) := by decide +kernel
theorem dX11_may__36 : decode cX11_may_ 36 = .ok (.iconst 0, 1) := by decide +kernel
theorem dX11_may__37 : decode cX11_may_ 37 = .ok (.istore 4, 2) := by decide +kernel
theorem dX11_may__39 : decode cX11_may_ 39 = .ok (.iload 4, 2) := by decide +kernel
theorem dX11_may__41 : decode cX11_may_ 41 = .ok (.aload_n 0, 1) := by decide +kernel
theorem dX11_may__42 : decode cX11_may_ 42 = .ok (.getfield 132, 3) := by decide +kernel
theorem dX11_may__45 : decode cX11_may_ 45 = .ok (.if_icmp .ge 42, 3) := by decide +kernel
theorem dX11_may__48 : decode cX11_may_ 48 = .ok (.iload_n 2, 1) := by decide +kernel
theorem dX11_may__49 : decode cX11_may_ 49 = .ok (.iload 4, 2) := by decide +kernel
theorem dX11_may__51 : decode cX11_may_ 51 = .ok (.invokestatic 291, 3) := by decide +kernel
theorem dX11_may__54 : decode cX11_may_ 54 = .ok (.ifCond .eq 27, 3) := by decide +kernel
theorem dX11_may__57 : decode cX11_may_ 57 = .ok (.iload_n 3, 1) := by decide +kernel
theorem dX11_may__58 : decode cX11_may_ 58 = .ok (.iconst (-1), 1) := by decide +kernel
theorem dX11_may__59 : decode cX11_may_ 59 = .ok (.if_icmp .eq 19, 3) := by decide +kernel
theorem dX11_may__62 : decode cX11_may_ 62 = .ok (.aload_n 0, 1) := by decide +kernel
theorem dX11_may__63 : decode cX11_may_ 63 = .ok (.iload 4, 2) := by decide +kernel
theorem dX11_may__65 : decode cX11_may_ 65 = .ok (.iload_n 1, 1) := by decide +kernel
theorem dX11_may__66 : decode cX11_may_ 66 = .ok (.invokevirtual 231, 3) := by decide +kernel
theorem dX11_may__69 : decode cX11_may_ 69 = .ok (.aload_n 0, 1) := by decide +kernel
theorem dX11_may__70 : decode cX11_may_ 70 = .ok (.iload_n 3, 1) := by decide +kernel
theorem dX11_may__71 : decode cX11_may_ 71 = .ok (.iload_n 1, 1) := by decide +kernel
theorem dX11_may__72 : decode cX11_may_ 72 = .ok (.invokevirtual 231, 3) := by decide +kernel
theorem dX11_may__75 : decode cX11_may_ 75 = .ok (.if_icmp .ge 6, 3) := by decide +kernel
theorem dX11_may__78 : decode cX11_may_ 78 = .ok (.iload 4, 2) := by decide +kernel
theorem dX11_may__80 : decode cX11_may_ 80 = .ok (.istore_n 3, 1) := by decide +kernel
theorem dX11_may__81 : decode cX11_may_ 81 = .ok (.iinc 4 1, 3) := by decide +kernel
theorem dX11_may__84 : decode cX11_may_ 84 = .ok (.goto (-45), 3) := by decide +kernel
theorem dX11_may__87 : decode cX11_may_ 87 = .ok (.aload_n 0, 1) := by decide +kernel
theorem dX11_may__88 : decode cX11_may_ 88 = .ok (.iconst 0, 1) := by decide +kernel
theorem dX11_may__89 : decode cX11_may_ 89 = .ok (.putfield 129, 3) := by decide +kernel
theorem dX11_may__92 : decode cX11_may_ 92 = .ok (.iload_n 3, 1) := by decide +kernel
theorem dX11_may__93 : decode cX11_may_ 93 = .ok (.iconst (-1), 1) := by decide +kernel
theorem dX11_may__94 : decode cX11_may_ 94 = .ok (.if_icmp .eq 20, 3) := by decide +kernel
theorem dX11_may__97 : decode cX11_may_ 97 = .ok (.aload_n 0, 1) := by decide +kernel
theorem dX11_may__98 : decode cX11_may_ 98 = .ok (.aload_n 0, 1) := by decide +kernel
theorem dX11_may__99 : decode cX11_may_ 99 = .ok (.iload_n 3, 1) := by decide +kernel
theorem dX11_may__100 : decode cX11_may_ 100 = .ok (.iload_n 1, 1) := by decide +kernel
theorem dX11_may__101 : decode cX11_may_ 101 = .ok (.invokevirtual 231, 3) := by decide +kernel
theorem dX11_may__104 : decode cX11_may_ 104 = .ok (.i2l, 1) := by decide +kernel
theorem dX11_may__105 : decode cX11_may_ 105 = .ok (.invokevirtual 294, 3) := by decide +kernel
theorem dX11_may__108 : decode cX11_may_ 108 = .ok (.aload_n 0, 1) := by decide +kernel
theorem dX11_may__109 : decode cX11_may_ 109 = .ok (.iload_n 3, 1) := by decide +kernel
theorem dX11_may__110 : decode cX11_may_ 110 = .ok (.i2l, 1) := by decide +kernel
theorem dX11_may__111 : decode cX11_may_ 111 = .ok (.invokevirtual 294, 3) := by decide +kernel
theorem dX11_may__114 : decode cX11_may_ 114 = .ok (.iload_n 2, 1) := by decide +kernel
theorem dX11_may__115 : decode cX11_may_ 115 = .ok (.ireturn, 1) := by decide +kernel
theorem dX11_willingTo_0 : decode cX11_willingTo 0 = .ok (.bipush (-2), 2) := by decide +kernel
theorem dX11_willingTo_2 : decode cX11_willingTo 2 = .ok (.istore_n 2, 1) := by decide +kernel
theorem dX11_willingTo_3 : decode cX11_willingTo 3 = .ok (.iconst 0, 1) := by decide +kernel
theorem dX11_willingTo_4 : decode cX11_willingTo 4 = .ok (.istore_n 3, 1) := by decide +kernel
theorem dX11_willingTo_5 : decode cX11_willingTo 5 = .ok (.aload_n 0, 1) := by decide +kernel
theorem dX11_willingTo_6 : decode cX11_willingTo 6 = .ok (.getfield 41, 3) := by decide +kernel
theorem dX11_willingTo_9 : decode cX11_willingTo 9 = .ok (.iload_n 1, 1) := by decide +kernel
theorem dX11_willingTo_10 : decode cX11_willingTo 10 = .ok (.iaload, 1) := by decide +kernel
theorem dX11_willingTo_11 : decode cX11_willingTo 11 = .ok (.ifCond .eq 5, 3) := by decide +kernel
theorem dX11_willingTo_14 : decode cX11_willingTo 14 = .ok (.iload_n 2, 1) := by decide +kernel
theorem dX11_willingTo_15 : decode cX11_willingTo 15 = .ok (.ireturn, 1) := by decide +kernel
theorem dX11_willingTo_16 : decode cX11_willingTo 16 = .ok (.iconst 0, 1) := by decide +kernel
theorem dX11_willingTo_17 : decode cX11_willingTo 17 = .ok (.istore 4, 2) := by decide +kernel
theorem dX11_willingTo_19 : decode cX11_willingTo 19 = .ok (.iload 4, 2) := by decide +kernel
theorem dX11_willingTo_21 : decode cX11_willingTo 21 = .ok (.aload_n 0, 1) := by decide +kernel
theorem dX11_willingTo_22 : decode cX11_willingTo 22 = .ok (.getfield 132, 3) := by decide +kernel
theorem dX11_willingTo_25 : decode cX11_willingTo 25 = .ok (.if_icmp .ge 55, 3) := by decide +kernel
theorem dX11_willingTo_28 : decode cX11_willingTo 28 = .ok (.aload_n 0, 1) := by decide +kernel
theorem dX11_willingTo_29 : decode cX11_willingTo 29 = .ok (.iload 4, 2) := by decide +kernel
theorem dX11_willingTo_31 : decode cX11_willingTo 31 = .ok (.iload_n 1, 1) := by decide +kernel
theorem dX11_willingTo_32 : decode cX11_willingTo 32 = .ok (.invokevirtual 285, 3) := by decide +kernel
theorem dX11_willingTo_35 : decode cX11_willingTo 35 = .ok (.ifCond .ne 6, 3) := by decide +kernel
theorem dX11_willingTo_38 : decode cX11_willingTo 38 = .ok (.goto 36, 3) := by decide +kernel
theorem dX11_willingTo_41 : decode cX11_willingTo 41 = .ok (.aload_n 0, 1) := by decide +kernel
theorem dX11_willingTo_42 : decode cX11_willingTo 42 = .ok (.iload 4, 2) := by decide +kernel
theorem dX11_willingTo_44 : decode cX11_willingTo 44 = .ok (.iload_n 1, 1) := by decide +kernel
theorem dX11_willingTo_45 : decode cX11_willingTo 45 = .ok (.invokevirtual 298, 3) := by decide +kernel
theorem dX11_willingTo_48 : decode cX11_willingTo 48 = .ok (.istore 5, 2) := by decide +kernel
theorem dX11_willingTo_50 : decode cX11_willingTo 50 = .ok (.iload 5, 2) := by decide +kernel
theorem dX11_willingTo_52 : decode cX11_willingTo 52 = .ok (.ifCond .lt 22, 3) := by decide +kernel
theorem dX11_willingTo_55 : decode cX11_willingTo 55 = .ok (.iload_n 2, 1) := by decide +kernel
theorem dX11_willingTo_56 : decode cX11_willingTo 56 = .ok (.ifCond .lt 12, 3) := by decide +kernel
theorem dX11_willingTo_59 : decode cX11_willingTo 59 = .ok (.iload 5, 2) := by decide +kernel
theorem dX11_willingTo_61 : decode cX11_willingTo 61 = .ok (.iload_n 3, 1) := by decide +kernel
theorem dX11_willingTo_62 : decode cX11_willingTo 62 = .ok (.if_icmp .gt 6, 3) := by decide +kernel
theorem dX11_willingTo_65 : decode cX11_willingTo 65 = .ok (.goto 9, 3) := by decide +kernel
theorem dX11_willingTo_68 : decode cX11_willingTo 68 = .ok (.iload 4, 2) := by decide +kernel
theorem dX11_willingTo_70 : decode cX11_willingTo 70 = .ok (.istore_n 2, 1) := by decide +kernel
theorem dX11_willingTo_71 : decode cX11_willingTo 71 = .ok (.iload 5, 2) := by decide +kernel
theorem dX11_willingTo_73 : decode cX11_willingTo 73 = .ok (.istore_n 3, 1) := by decide +kernel
theorem dX11_willingTo_74 : decode cX11_willingTo 74 = .ok (.iinc 4 1, 3) := by decide +kernel
theorem dX11_willingTo_77 : decode cX11_willingTo 77 = .ok (.goto (-58), 3) := by decide +kernel
theorem dX11_willingTo_80 : decode cX11_willingTo 80 = .ok (.iload_n 2, 1) := by decide +kernel
theorem dX11_willingTo_81 : decode cX11_willingTo 81 = .ok (.ireturn, 1) := by decide +kernel
theorem dX11_willing_0 : decode cX11_willing 0 = .ok (.aload_n 0, 1) := by decide +kernel
theorem dX11_willing_1 : decode cX11_willing 1 = .ok (.iconst 0, 1) := by decide +kernel
theorem dX11_willing_2 : decode cX11_willing 2 = .ok (.putfield 126, 3) := by decide +kernel
theorem dX11_willing_5 : decode cX11_willing 5 = .ok (.aload_n 0, 1) := by decide +kernel
theorem dX11_willing_6 : decode cX11_willing 6 = .ok (.iload_n 1, 1) := by decide +kernel
theorem dX11_willing_7 : decode cX11_willing 7 = .ok (.invokevirtual 142, 3) := by decide +kernel
theorem dX11_willing_10 : decode cX11_willing 10 = .ok (.ifCond .ne 5, 3) := by decide +kernel
theorem dX11_willing_13 : decode cX11_willing 13 = .ok (.iconst (-1), 1) := by decide +kernel
theorem dX11_willing_14 : decode cX11_willing 14 = .ok (.ireturn, 1) := by decide +kernel
theorem dX11_willing_15 : decode cX11_willing 15 = .ok (.aload_n 0, 1) := by decide +kernel
theorem dX11_willing_16 : decode cX11_willing 16 = .ok (.iload_n 1, 1) := by decide +kernel
theorem dX11_willing_17 : decode cX11_willing 17 = .ok (.invokevirtual 301, 3) := by decide +kernel
theorem dX11_willing_20 : decode cX11_willing 20 = .ok (.istore_n 2, 1) := by decide +kernel
theorem dX11_willing_21 : decode cX11_willing 21 = .ok (.iload_n 2, 1) := by decide +kernel
theorem dX11_willing_22 : decode cX11_willing 22 = .ok (.ifCond .ge 6, 3) := by decide +kernel
theorem dX11_willing_25 : decode cX11_willing 25 = .ok (.bipush (-2), 2) := by decide +kernel
theorem dX11_willing_27 : decode cX11_willing 27 = .ok (.ireturn, 1) := by decide +kernel
theorem dX11_willing_28 : decode cX11_willing 28 = .ok (.aload_n 0, 1) := by decide +kernel
theorem dX11_willing_29 : decode cX11_willing 29 = .ok (.iconst 0, 1) := by decide +kernel
theorem dX11_willing_30 : decode cX11_willing 30 = .ok (.putfield 129, 3) := by decide +kernel
theorem dX11_willing_33 : decode cX11_willing 33 = .ok (.aload_n 0, 1) := by decide +kernel
theorem dX11_willing_34 : decode cX11_willing 34 = .ok (.aload_n 0, 1) := by decide +kernel
theorem dX11_willing_35 : decode cX11_willing 35 = .ok (.iload_n 2, 1) := by decide +kernel
theorem dX11_willing_36 : decode cX11_willing 36 = .ok (.iload_n 1, 1) := by decide +kernel
theorem dX11_willing_37 : decode cX11_willing 37 = .ok (.invokevirtual 298, 3) := by decide +kernel
theorem dX11_willing_40 : decode cX11_willing 40 = .ok (.i2l, 1) := by decide +kernel
theorem dX11_willing_41 : decode cX11_willing 41 = .ok (.invokevirtual 294, 3) := by decide +kernel
theorem dX11_willing_44 : decode cX11_willing 44 = .ok (.iload_n 2, 1) := by decide +kernel
theorem dX11_willing_45 : decode cX11_willing 45 = .ok (.ireturn, 1) := by decide +kernel
theorem dX11_make_0 : decode cX11_make 0 = .ok (.aload_n 0, 1) := by decide +kernel
theorem dX11_make_1 : decode cX11_make 1 = .ok (.iload_n 1, 1) := by decide +kernel
theorem dX11_make_2 : decode cX11_make 2 = .ok (.iload_n 2, 1) := by decide +kernel
theorem dX11_make_3 : decode cX11_make 3 = .ok (.invokevirtual 231, 3) := by decide +kernel
theorem dX11_make_6 : decode cX11_make 6 = .ok (.istore_n 3, 1) := by decide +kernel
theorem dX11_make_7 : decode cX11_make 7 = .ok (.aload_n 0, 1) := by decide +kernel
theorem dX11_make_8 : decode cX11_make 8 = .ok (.getfield 9, 3) := by decide +kernel
theorem dX11_make_11 : decode cX11_make 11 = .ok (.iload_n 1, 1) := by decide +kernel
theorem dX11_make_12 : decode cX11_make 12 = .ok (.dup2, 1) := by decide +kernel
theorem dX11_make_13 : decode cX11_make 13 = .ok (.iaload, 1) := by decide +kernel
theorem dX11_make_14 : decode cX11_make 14 = .ok (.aload_n 0, 1) := by decide +kernel
theorem dX11_make_15 : decode cX11_make 15 = .ok (.getfield 35, 3) := by decide +kernel
theorem dX11_make_18 : decode cX11_make 18 = .ok (.iload_n 2, 1) := by decide +kernel
theorem dX11_make_19 : decode cX11_make 19 = .ok (.iaload, 1) := by decide +kernel
theorem dX11_make_20 : decode cX11_make 20 = .ok (.isub, 1) := by decide +kernel
theorem dX11_make_21 : decode cX11_make 21 = .ok (.iastore, 1) := by decide +kernel
theorem dX11_make_22 : decode cX11_make 22 = .ok (.aload_n 0, 1) := by decide +kernel
theorem dX11_make_23 : decode cX11_make 23 = .ok (.getfield 9, 3) := by decide +kernel
theorem dX11_make_26 : decode cX11_make 26 = .ok (.aload_n 0, 1) := by decide +kernel
theorem dX11_make_27 : decode cX11_make 27 = .ok (.getfield 32, 3) := by decide +kernel
theorem dX11_make_30 : decode cX11_make 30 = .ok (.iload_n 2, 1) := by decide +kernel
theorem dX11_make_31 : decode cX11_make 31 = .ok (.iaload, 1) := by decide +kernel
theorem dX11_make_32 : decode cX11_make 32 = .ok (.dup2, 1) := by decide +kernel
theorem dX11_make_33 : decode cX11_make 33 = .ok (.iaload, 1) := by decide +kernel
theorem dX11_make_34 : decode cX11_make 34 = .ok (.aload_n 0, 1) := by decide +kernel
theorem dX11_make_35 : decode cX11_make 35 = .ok (.getfield 35, 3) := by decide +kernel
theorem dX11_make_38 : decode cX11_make 38 = .ok (.iload_n 2, 1) := by decide +kernel
theorem dX11_make_39 : decode cX11_make 39 = .ok (.iaload, 1) := by decide +kernel
theorem dX11_make_40 : decode cX11_make 40 = .ok (.iadd, 1) := by decide +kernel
theorem dX11_make_41 : decode cX11_make 41 = .ok (.iastore, 1) := by decide +kernel
theorem dX11_make_42 : decode cX11_make 42 = .ok (.aload_n 0, 1) := by decide +kernel
theorem dX11_make_43 : decode cX11_make 43 = .ok (.getfield 26, 3) := by decide +kernel
theorem dX11_make_46 : decode cX11_make 46 = .ok (.bipush 8, 2) := by decide +kernel
theorem dX11_make_48 : decode cX11_make 48 = .ok (.aload_n 0, 1) := by decide +kernel
theorem dX11_make_49 : decode cX11_make 49 = .ok (.getfield 29, 3) := by decide +kernel
theorem dX11_make_52 : decode cX11_make 52 = .ok (.iload_n 2, 1) := by decide +kernel
theorem dX11_make_53 : decode cX11_make 53 = .ok (.iaload, 1) := by decide +kernel
theorem dX11_make_54 : decode cX11_make 54 = .ok (.imul, 1) := by decide +kernel
theorem dX11_make_55 : decode cX11_make 55 = .ok (.iload_n 1, 1) := by decide +kernel
theorem dX11_make_56 : decode cX11_make 56 = .ok (.iadd, 1) := by decide +kernel
theorem dX11_make_57 : decode cX11_make 57 = .ok (.dup2, 1) := by decide +kernel
theorem dX11_make_58 : decode cX11_make 58 = .ok (.iaload, 1) := by decide +kernel
theorem dX11_make_59 : decode cX11_make 59 = .ok (.iload_n 3, 1) := by decide +kernel
theorem dX11_make_60 : decode cX11_make 60 = .ok (.iadd, 1) := by decide +kernel
theorem dX11_make_61 : decode cX11_make 61 = .ok (.iastore, 1) := by decide +kernel
theorem dX11_make_62 : decode cX11_make 62 = .ok (.aload_n 0, 1) := by decide +kernel
theorem dX11_make_63 : decode cX11_make 63 = .ok (.getfield 41, 3) := by decide +kernel
theorem dX11_make_66 : decode cX11_make 66 = .ok (.iload_n 2, 1) := by decide +kernel
theorem dX11_make_67 : decode cX11_make 67 = .ok (.iconst 1, 1) := by decide +kernel
theorem dX11_make_68 : decode cX11_make 68 = .ok (.iastore, 1) := by decide +kernel
theorem dX11_make_69 : decode cX11_make 69 = .ok (.aload_n 0, 1) := by decide +kernel
theorem dX11_make_70 : decode cX11_make 70 = .ok (.getfield 44, 3) := by decide +kernel
theorem dX11_make_73 : decode cX11_make 73 = .ok (.iload_n 2, 1) := by decide +kernel
theorem dX11_make_74 : decode cX11_make 74 = .ok (.iload_n 1, 1) := by decide +kernel
theorem dX11_make_75 : decode cX11_make 75 = .ok (.iastore, 1) := by decide +kernel
theorem dX11_make_76 : decode cX11_make 76 = .ok (.iload_n 3, 1) := by decide +kernel
theorem dX11_make_77 : decode cX11_make 77 = .ok (.ireturn, 1) := by decide +kernel
theorem dX11_pay_0 : decode cX11_pay 0 = .ok (.aload_n 0, 1) := by decide +kernel
theorem dX11_pay_1 : decode cX11_pay 1 = .ok (.iconst 0, 1) := by decide +kernel
theorem dX11_pay_2 : decode cX11_pay 2 = .ok (.putfield 126, 3) := by decide +kernel
theorem dX11_pay_5 : decode cX11_pay 5 = .ok (.aload_n 0, 1) := by decide +kernel
theorem dX11_pay_6 : decode cX11_pay 6 = .ok (.iload_n 1, 1) := by decide +kernel
theorem dX11_pay_7 : decode cX11_pay 7 = .ok (.invokevirtual 244, 3) := by decide +kernel
theorem dX11_pay_10 : decode cX11_pay 10 = .ok (.ifCond .eq 11, 3) := by decide +kernel
theorem dX11_pay_13 : decode cX11_pay 13 = .ok (.aload_n 0, 1) := by decide +kernel
theorem dX11_pay_14 : decode cX11_pay 14 = .ok (.iload_n 2, 1) := by decide +kernel
theorem dX11_pay_15 : decode cX11_pay 15 = .ok (.invokevirtual 142, 3) := by decide +kernel
theorem dX11_pay_18 : decode cX11_pay 18 = .ok (.ifCond .ne 5, 3) := by decide +kernel
theorem dX11_pay_21 : decode cX11_pay 21 = .ok (.iconst (-1), 1) := by decide +kernel
theorem dX11_pay_22 : decode cX11_pay 22 = .ok (.ireturn, 1) := by decide +kernel
theorem dX11_pay_23 : decode cX11_pay 23 = .ok (.aload_n 0, 1) := by decide +kernel
theorem dX11_pay_24 : decode cX11_pay 24 = .ok (.getfield 41, 3) := by decide +kernel
theorem dX11_pay_27 : decode cX11_pay 27 = .ok (.iload_n 2, 1) := by decide +kernel
theorem dX11_pay_28 : decode cX11_pay 28 = .ok (.iaload, 1) := by decide +kernel
theorem dX11_pay_29 : decode cX11_pay 29 = .ok (.ifCond .ne 12, 3) := by decide +kernel
theorem dX11_pay_32 : decode cX11_pay 32 = .ok (.aload_n 0, 1) := by decide +kernel
theorem dX11_pay_33 : decode cX11_pay 33 = .ok (.iload_n 1, 1) := by decide +kernel
theorem dX11_pay_34 : decode cX11_pay 34 = .ok (.iload_n 2, 1) := by decide +kernel
theorem dX11_pay_35 : decode cX11_pay 35 = .ok (.invokevirtual 285, 3) := by decide +kernel
theorem dX11_pay_38 : decode cX11_pay 38 = .ok (.ifCond .ne 6, 3) := by decide +kernel
theorem dX11_pay_41 : decode cX11_pay 41 = .ok (.bipush (-2), 2) := by decide +kernel
theorem dX11_pay_43 : decode cX11_pay 43 = .ok (.ireturn, 1) := by decide +kernel
theorem dX11_pay_44 : decode cX11_pay 44 = .ok (.aload_n 0, 1) := by decide +kernel
theorem dX11_pay_45 : decode cX11_pay 45 = .ok (.getfield 68, 3) := by decide +kernel
theorem dX11_pay_48 : decode cX11_pay 48 = .ok (.aload_n 0, 1) := by decide +kernel
theorem dX11_pay_49 : decode cX11_pay 49 = .ok (.getfield 198, 3) := by decide +kernel
theorem dX11_pay_52 : decode cX11_pay 52 = .ok (.iload_n 2, 1) := by decide +kernel
theorem dX11_pay_53 : decode cX11_pay 53 = .ok (.iastore, 1) := by decide +kernel
theorem dX11_pay_54 : decode cX11_pay 54 = .ok (.aload_n 0, 1) := by decide +kernel
theorem dX11_pay_55 : decode cX11_pay 55 = .ok (.dup, 1) := by decide +kernel
theorem dX11_pay_56 : decode cX11_pay 56 = .ok (.getfield 198, 3) := by decide +kernel
theorem dX11_pay_59 : decode cX11_pay 59 = .ok (.iconst 1, 1) := by decide +kernel
theorem dX11_pay_60 : decode cX11_pay 60 = .ok (.iadd, 1) := by decide +kernel
theorem dX11_pay_61 : decode cX11_pay 61 = .ok (.putfield 198, 3) := by decide +kernel
theorem dX11_pay_64 : decode cX11_pay 64 = .ok (.aload_n 0, 1) := by decide +kernel
theorem dX11_pay_65 : decode cX11_pay 65 = .ok (.iload_n 1, 1) := by decide +kernel
theorem dX11_pay_66 : decode cX11_pay 66 = .ok (.iload_n 2, 1) := by decide +kernel
theorem dX11_pay_67 : decode cX11_pay 67 = .ok (.invokevirtual 304, 3) := by decide +kernel
theorem dX11_pay_70 : decode cX11_pay 70 = .ok (.ireturn, 1) := by decide +kernel
theorem dX11_unmake_0 : decode cX11_unmake 0 = .ok (.aload_n 0, 1) := by decide +kernel
theorem dX11_unmake_1 : decode cX11_unmake 1 = .ok (.getfield 44, 3) := by decide +kernel
theorem dX11_unmake_4 : decode cX11_unmake 4 = .ok (.iload_n 1, 1) := by decide +kernel
theorem dX11_unmake_5 : decode cX11_unmake 5 = .ok (.iaload, 1) := by decide +kernel
theorem dX11_unmake_6 : decode cX11_unmake 6 = .ok (.istore_n 2, 1) := by decide +kernel
theorem dX11_unmake_7 : decode cX11_unmake 7 = .ok (.aload_n 0, 1) := by decide +kernel
theorem dX11_unmake_8 : decode cX11_unmake 8 = .ok (.getfield 9, 3) := by decide +kernel
theorem dX11_unmake_11 : decode cX11_unmake 11 = .ok (.iload_n 2, 1) := by decide +kernel
theorem dX11_unmake_12 : decode cX11_unmake 12 = .ok (.dup2, 1) := by decide +kernel
theorem dX11_unmake_13 : decode cX11_unmake 13 = .ok (.iaload, 1) := by decide +kernel
theorem dX11_unmake_14 : decode cX11_unmake 14 = .ok (.aload_n 0, 1) := by decide +kernel
theorem dX11_unmake_15 : decode cX11_unmake 15 = .ok (.getfield 35, 3) := by decide +kernel
theorem dX11_unmake_18 : decode cX11_unmake 18 = .ok (.iload_n 1, 1) := by decide +kernel
theorem dX11_unmake_19 : decode cX11_unmake 19 = .ok (.iaload, 1) := by decide +kernel
theorem dX11_unmake_20 : decode cX11_unmake 20 = .ok (.iadd, 1) := by decide +kernel
theorem dX11_unmake_21 : decode cX11_unmake 21 = .ok (.iastore, 1) := by decide +kernel
theorem dX11_unmake_22 : decode cX11_unmake 22 = .ok (.aload_n 0, 1) := by decide +kernel
theorem dX11_unmake_23 : decode cX11_unmake 23 = .ok (.getfield 9, 3) := by decide +kernel
theorem dX11_unmake_26 : decode cX11_unmake 26 = .ok (.aload_n 0, 1) := by decide +kernel
theorem dX11_unmake_27 : decode cX11_unmake 27 = .ok (.getfield 32, 3) := by decide +kernel
theorem dX11_unmake_30 : decode cX11_unmake 30 = .ok (.iload_n 1, 1) := by decide +kernel
theorem dX11_unmake_31 : decode cX11_unmake 31 = .ok (.iaload, 1) := by decide +kernel
theorem dX11_unmake_32 : decode cX11_unmake 32 = .ok (.dup2, 1) := by decide +kernel
theorem dX11_unmake_33 : decode cX11_unmake 33 = .ok (.iaload, 1) := by decide +kernel
theorem dX11_unmake_34 : decode cX11_unmake 34 = .ok (.aload_n 0, 1) := by decide +kernel
theorem dX11_unmake_35 : decode cX11_unmake 35 = .ok (.getfield 35, 3) := by decide +kernel
theorem dX11_unmake_38 : decode cX11_unmake 38 = .ok (.iload_n 1, 1) := by decide +kernel
theorem dX11_unmake_39 : decode cX11_unmake 39 = .ok (.iaload, 1) := by decide +kernel
theorem dX11_unmake_40 : decode cX11_unmake 40 = .ok (.isub, 1) := by decide +kernel
theorem dX11_unmake_41 : decode cX11_unmake 41 = .ok (.iastore, 1) := by decide +kernel
theorem dX11_unmake_42 : decode cX11_unmake 42 = .ok (.aload_n 0, 1) := by decide +kernel
theorem dX11_unmake_43 : decode cX11_unmake 43 = .ok (.getfield 26, 3) := by decide +kernel
theorem dX11_unmake_46 : decode cX11_unmake 46 = .ok (.bipush 8, 2) := by decide +kernel
theorem dX11_unmake_48 : decode cX11_unmake 48 = .ok (.aload_n 0, 1) := by decide +kernel
theorem dX11_unmake_49 : decode cX11_unmake 49 = .ok (.getfield 29, 3) := by decide +kernel
theorem dX11_unmake_52 : decode cX11_unmake 52 = .ok (.iload_n 1, 1) := by decide +kernel
theorem dX11_unmake_53 : decode cX11_unmake 53 = .ok (.iaload, 1) := by decide +kernel
theorem dX11_unmake_54 : decode cX11_unmake 54 = .ok (.imul, 1) := by decide +kernel
theorem dX11_unmake_55 : decode cX11_unmake 55 = .ok (.iload_n 2, 1) := by decide +kernel
theorem dX11_unmake_56 : decode cX11_unmake 56 = .ok (.iadd, 1) := by decide +kernel
theorem dX11_unmake_57 : decode cX11_unmake 57 = .ok (.dup2, 1) := by decide +kernel
theorem dX11_unmake_58 : decode cX11_unmake 58 = .ok (.iaload, 1) := by decide +kernel
theorem dX11_unmake_59 : decode cX11_unmake 59 = .ok (.aload_n 0, 1) := by decide +kernel
theorem dX11_unmake_60 : decode cX11_unmake 60 = .ok (.iload_n 2, 1) := by decide +kernel
theorem dX11_unmake_61 : decode cX11_unmake 61 = .ok (.iload_n 1, 1) := by decide +kernel
theorem dX11_unmake_62 : decode cX11_unmake 62 = .ok (.invokevirtual 231, 3) := by decide +kernel
theorem dX11_unmake_65 : decode cX11_unmake 65 = .ok (.isub, 1) := by decide +kernel
theorem dX11_unmake_66 : decode cX11_unmake 66 = .ok (.iastore, 1) := by decide +kernel
theorem dX11_unmake_67 : decode cX11_unmake 67 = .ok (.aload_n 0, 1) := by decide +kernel
theorem dX11_unmake_68 : decode cX11_unmake 68 = .ok (.getfield 41, 3) := by decide +kernel
theorem dX11_unmake_71 : decode cX11_unmake 71 = .ok (.iload_n 1, 1) := by decide +kernel
theorem dX11_unmake_72 : decode cX11_unmake 72 = .ok (.iconst 0, 1) := by decide +kernel
theorem dX11_unmake_73 : decode cX11_unmake 73 = .ok (.iastore, 1) := by decide +kernel
theorem dX11_unmake_74 : decode cX11_unmake 74 = .ok (.aload_n 0, 1) := by decide +kernel
theorem dX11_unmake_75 : decode cX11_unmake 75 = .ok (.getfield 44, 3) := by decide +kernel
theorem dX11_unmake_78 : decode cX11_unmake 78 = .ok (.iload_n 1, 1) := by decide +kernel
theorem dX11_unmake_79 : decode cX11_unmake 79 = .ok (.iconst (-1), 1) := by decide +kernel
theorem dX11_unmake_80 : decode cX11_unmake 80 = .ok (.iastore, 1) := by decide +kernel
theorem dX11_unmake_81 : decode cX11_unmake 81 = .ok (.return_, 1) := by decide +kernel
theorem dX11_undo_0 : decode cX11_undo 0 = .ok (.aload_n 0, 1) := by decide +kernel
theorem dX11_undo_1 : decode cX11_undo 1 = .ok (.iconst 0, 1) := by decide +kernel
theorem dX11_undo_2 : decode cX11_undo 2 = .ok (.putfield 126, 3) := by decide +kernel
theorem dX11_undo_5 : decode cX11_undo 5 = .ok (.aload_n 0, 1) := by decide +kernel
theorem dX11_undo_6 : decode cX11_undo 6 = .ok (.getfield 198, 3) := by decide +kernel
theorem dX11_undo_9 : decode cX11_undo 9 = .ok (.ifCond .ne 5, 3) := by decide +kernel
theorem dX11_undo_12 : decode cX11_undo 12 = .ok (.iconst (-1), 1) := by decide +kernel
theorem dX11_undo_13 : decode cX11_undo 13 = .ok (.ireturn, 1) := by decide +kernel
theorem dX11_undo_14 : decode cX11_undo 14 = .ok (.aload_n 0, 1) := by decide +kernel
theorem dX11_undo_15 : decode cX11_undo 15 = .ok (.dup, 1) := by decide +kernel
theorem dX11_undo_16 : decode cX11_undo 16 = .ok (.getfield 198, 3) := by decide +kernel
theorem dX11_undo_19 : decode cX11_undo 19 = .ok (.iconst 1, 1) := by decide +kernel
theorem dX11_undo_20 : decode cX11_undo 20 = .ok (.isub, 1) := by decide +kernel
theorem dX11_undo_21 : decode cX11_undo 21 = .ok (.putfield 198, 3) := by decide +kernel
theorem dX11_undo_24 : decode cX11_undo 24 = .ok (.aload_n 0, 1) := by decide +kernel
theorem dX11_undo_25 : decode cX11_undo 25 = .ok (.aload_n 0, 1) := by decide +kernel
theorem dX11_undo_26 : decode cX11_undo 26 = .ok (.getfield 68, 3) := by decide +kernel
theorem dX11_undo_29 : decode cX11_undo 29 = .ok (.aload_n 0, 1) := by decide +kernel
theorem dX11_undo_30 : decode cX11_undo 30 = .ok (.getfield 198, 3) := by decide +kernel
theorem dX11_undo_33 : decode cX11_undo 33 = .ok (.iaload, 1) := by decide +kernel
theorem dX11_undo_34 : decode cX11_undo 34 = .ok (.invokevirtual 307, 3) := by decide +kernel
theorem dX11_undo_37 : decode cX11_undo 37 = .ok (.aload_n 0, 1) := by decide +kernel
theorem dX11_undo_38 : decode cX11_undo 38 = .ok (.getfield 198, 3) := by decide +kernel
theorem dX11_undo_41 : decode cX11_undo 41 = .ok (.ireturn, 1) := by decide +kernel
theorem dX11_judge_0 : decode cX11_judge 0 = .ok (.aload_n 0, 1) := by decide +kernel
theorem dX11_judge_1 : decode cX11_judge 1 = .ok (.iconst 0, 1) := by decide +kernel
theorem dX11_judge_2 : decode cX11_judge 2 = .ok (.putfield 126, 3) := by decide +kernel
theorem dX11_judge_5 : decode cX11_judge 5 = .ok (.iload_n 1, 1) := by decide +kernel
theorem dX11_judge_6 : decode cX11_judge 6 = .ok (.i2l, 1) := by decide +kernel
theorem dX11_judge_7 : decode cX11_judge 7 = .ok (.lconst 0, 1) := by decide +kernel
theorem dX11_judge_8 : decode cX11_judge 8 = .ok (.ldc2_w 310, 3) := by decide +kernel
theorem dX11_judge_11 : decode cX11_judge 11 = .ok (.invokestatic 135, 3) := by decide +kernel
theorem dX11_judge_14 : decode cX11_judge 14 = .ok (.ifCond .ne 5, 3) := by decide +kernel
theorem dX11_judge_17 : decode cX11_judge 17 = .ok (.iconst (-1), 1) := by decide +kernel
theorem dX11_judge_18 : decode cX11_judge 18 = .ok (.ireturn, 1) := by decide +kernel
theorem dX11_judge_19 : decode cX11_judge 19 = .ok (.iconst 0, 1) := by decide +kernel
theorem dX11_judge_20 : decode cX11_judge 20 = .ok (.istore_n 3, 1) := by decide +kernel
theorem dX11_judge_21 : decode cX11_judge 21 = .ok (.iconst 0, 1) := by decide +kernel
theorem dX11_judge_22 : decode cX11_judge 22 = .ok (.istore 4, 2) := by decide +kernel
theorem dX11_judge_24 : decode cX11_judge 24 = .ok (.bipush (-2), 2) := by decide +kernel
theorem dX11_judge_26 : decode cX11_judge 26 = .ok (.istore 5, 2) := by decide +kernel
theorem dX11_judge_28 : decode cX11_judge 28 = .ok (.iconst 0, 1) := by decide +kernel
theorem dX11_judge_29 : decode cX11_judge 29 = .ok (.istore 6, 2) := by decide +kernel
theorem dX11_judge_31 : decode cX11_judge 31 = .ok (.iconst 0, 1) := by decide +kernel
theorem dX11_judge_32 : decode cX11_judge 32 = .ok (.istore 7, 2) := by decide +kernel
theorem dX11_judge_34 : decode cX11_judge 34 = .ok (.iload 7, 2) := by decide +kernel
theorem dX11_judge_36 : decode cX11_judge 36 = .ok (.iload_n 1, 1) := by decide +kernel
theorem dX11_judge_37 : decode cX11_judge 37 = .ok (.if_icmp .ge 104, 3) := by decide +kernel
theorem dX11_judge_40 : decode cX11_judge 40 = .ok (.iload 5, 2) := by decide +kernel
theorem dX11_judge_42 : decode cX11_judge 42 = .ok (.bipush (-2), 2) := by decide +kernel
theorem dX11_judge_44 : decode cX11_judge 44 = .ok (.if_icmp .ne 97, 3) := by decide +kernel
theorem dX11_judge_47 : decode cX11_judge 47 = .ok (.iload_n 2, 1) := by decide +kernel
theorem dX11_judge_48 : decode cX11_judge 48 = .ok (.bipush 8, 2) := by decide +kernel
theorem dX11_judge_50 : decode cX11_judge 50 = .ok (.iload 7, 2) := by decide +kernel
theorem dX11_judge_52 : decode cX11_judge 52 = .ok (.imul, 1) := by decide +kernel
theorem dX11_judge_53 : decode cX11_judge 53 = .ok (.ishr, 1) := by decide +kernel
theorem dX11_judge_54 : decode cX11_judge 54 = .ok (.sipush 255, 3) := by decide +kernel
theorem dX11_judge_57 : decode cX11_judge 57 = .ok (.iand, 1) := by decide +kernel
theorem dX11_judge_58 : decode cX11_judge 58 = .ok (.istore 8, 2) := by decide +kernel
theorem dX11_judge_60 : decode cX11_judge 60 = .ok (.iload 8, 2) := by decide +kernel
theorem dX11_judge_62 : decode cX11_judge 62 = .ok (.iconst 4, 1) := by decide +kernel
theorem dX11_judge_63 : decode cX11_judge 63 = .ok (.ishr, 1) := by decide +kernel
theorem dX11_judge_64 : decode cX11_judge 64 = .ok (.istore 9, 2) := by decide +kernel
theorem dX11_judge_66 : decode cX11_judge 66 = .ok (.iload 8, 2) := by decide +kernel
theorem dX11_judge_68 : decode cX11_judge 68 = .ok (.bipush 15, 2) := by decide +kernel
theorem dX11_judge_70 : decode cX11_judge 70 = .ok (.iand, 1) := by decide +kernel
theorem dX11_judge_71 : decode cX11_judge 71 = .ok (.istore 10, 2) := by decide +kernel
theorem dX11_judge_73 : decode cX11_judge 73 = .ok (.aload_n 0, 1) := by decide +kernel
theorem dX11_judge_74 : decode cX11_judge 74 = .ok (.iload 9, 2) := by decide +kernel
theorem dX11_judge_76 : decode cX11_judge 76 = .ok (.invokevirtual 312, 3) := by decide +kernel
theorem dX11_judge_79 : decode cX11_judge 79 = .ok (.ifCond .eq 23, 3) := by decide +kernel
theorem dX11_judge_82 : decode cX11_judge 82 = .ok (.aload_n 0, 1) := by decide +kernel
theorem dX11_judge_83 : decode cX11_judge 83 = .ok (.iload 10, 2) := by decide +kernel
theorem dX11_judge_85 : decode cX11_judge 85 = .ok (.invokevirtual 244, 3) := by decide +kernel
theorem dX11_judge_88 : decode cX11_judge 88 = .ok (.ifCond .eq 14, 3) := by decide +kernel
theorem dX11_judge_91 : decode cX11_judge 91 = .ok (.aload_n 0, 1) := by decide +kernel
theorem dX11_judge_92 : decode cX11_judge 92 = .ok (.iload 10, 2) := by decide +kernel
theorem dX11_judge_94 : decode cX11_judge 94 = .ok (.iload 9, 2) := by decide +kernel
theorem dX11_judge_96 : decode cX11_judge 96 = .ok (.invokevirtual 285, 3) := by decide +kernel
theorem dX11_judge_99 : decode cX11_judge 99 = .ok (.ifCond .ne 10, 3) := by decide +kernel
theorem dX11_judge_102 : decode cX11_judge 102 = .ok (.iload 7, 2) := by decide +kernel
theorem dX11_judge_104 : decode cX11_judge 104 = .ok (.istore 5, 2) := by decide +kernel
theorem dX11_judge_106 : decode cX11_judge 106 = .ok (.goto 29, 3) := by decide +kernel
theorem dX11_judge_109 : decode cX11_judge 109 = .ok (.iload_n 3, 1) := by decide +kernel
theorem dX11_judge_110 : decode cX11_judge 110 = .ok (.aload_n 0, 1) := by decide +kernel
theorem dX11_judge_111 : decode cX11_judge 111 = .ok (.iload 10, 2) := by decide +kernel
theorem dX11_judge_113 : decode cX11_judge 113 = .ok (.iload 9, 2) := by decide +kernel
theorem dX11_judge_115 : decode cX11_judge 115 = .ok (.invokevirtual 304, 3) := by decide +kernel
theorem dX11_judge_118 : decode cX11_judge 118 = .ok (.iadd, 1) := by decide +kernel
theorem dX11_judge_119 : decode cX11_judge 119 = .ok (.istore_n 3, 1) := by decide +kernel
theorem dX11_judge_120 : decode cX11_judge 120 = .ok (.iload 4, 2) := by decide +kernel
theorem dX11_judge_122 : decode cX11_judge 122 = .ok (.aload_n 0, 1) := by decide +kernel
theorem dX11_judge_123 : decode cX11_judge 123 = .ok (.getfield 35, 3) := by decide +kernel
theorem dX11_judge_126 : decode cX11_judge 126 = .ok (.iload 9, 2) := by decide +kernel
theorem dX11_judge_128 : decode cX11_judge 128 = .ok (.iaload, 1) := by decide +kernel
theorem dX11_judge_129 : decode cX11_judge 129 = .ok (.iadd, 1) := by decide +kernel
theorem dX11_judge_130 : decode cX11_judge 130 = .ok (.istore 4, 2) := by decide +kernel
theorem dX11_judge_132 : decode cX11_judge 132 = .ok (.iinc 6 1, 3) := by decide +kernel
theorem dX11_judge_135 : decode cX11_judge 135 = .ok (.iinc 7 1, 3) := by decide +kernel
theorem dX11_judge_138 : decode cX11_judge 138 = .ok (.goto (-104), 3) := by decide +kernel
theorem dX11_judge_141 : decode cX11_judge 141 = .ok (.iload 6, 2) := by decide +kernel
theorem dX11_judge_143 : decode cX11_judge 143 = .ok (.iconst 1, 1) := by decide +kernel
theorem dX11_judge_144 : decode cX11_judge 144 = .ok (.isub, 1) := by decide +kernel
theorem dX11_judge_145 : decode cX11_judge 145 = .ok (.istore 7, 2) := by decide +kernel
theorem dX11_judge_147 : decode cX11_judge 147 = .ok (.iload 7, 2) := by decide +kernel
theorem dX11_judge_149 : decode cX11_judge 149 = .ok (.ifCond .lt 26, 3) := by decide +kernel
theorem dX11_judge_152 : decode cX11_judge 152 = .ok (.aload_n 0, 1) := by decide +kernel
theorem dX11_judge_153 : decode cX11_judge 153 = .ok (.iload_n 2, 1) := by decide +kernel
theorem dX11_judge_154 : decode cX11_judge 154 = .ok (.bipush 8, 2) := by decide +kernel
theorem dX11_judge_156 : decode cX11_judge 156 = .ok (.iload 7, 2) := by decide +kernel
theorem dX11_judge_158 : decode cX11_judge 158 = .ok (.imul, 1) := by decide +kernel
theorem dX11_judge_159 : decode cX11_judge 159 = .ok (.ishr, 1) := by decide +kernel
theorem dX11_judge_160 : decode cX11_judge 160 = .ok (.sipush 255, 3) := by decide +kernel
theorem dX11_judge_163 : decode cX11_judge 163 = .ok (.iand, 1) := by decide +kernel
theorem dX11_judge_164 : decode cX11_judge 164 = .ok (.iconst 4, 1) := by decide +kernel
theorem dX11_judge_165 : decode cX11_judge 165 = .ok (.ishr, 1) := by decide +kernel
theorem dX11_judge_166 : decode cX11_judge 166 = .ok (.invokevirtual 307, 3) := by decide +kernel
theorem dX11_judge_169 : decode cX11_judge 169 = .ok (.iinc 7 (-1), 3) := by decide +kernel
theorem dX11_judge_172 : decode cX11_judge 172 = .ok (.goto (-25), 3) := by decide +kernel
theorem dX11_judge_175 : decode cX11_judge 175 = .ok (.aload_n 0, 1) := by decide +kernel
theorem dX11_judge_176 : decode cX11_judge 176 = .ok (.iconst 0, 1) := by decide +kernel
theorem dX11_judge_177 : decode cX11_judge 177 = .ok (.putfield 129, 3) := by decide +kernel
theorem dX11_judge_180 : decode cX11_judge 180 = .ok (.aload_n 0, 1) := by decide +kernel
theorem dX11_judge_181 : decode cX11_judge 181 = .ok (.iload_n 3, 1) := by decide +kernel
theorem dX11_judge_182 : decode cX11_judge 182 = .ok (.i2l, 1) := by decide +kernel
theorem dX11_judge_183 : decode cX11_judge 183 = .ok (.invokevirtual 294, 3) := by decide +kernel
theorem dX11_judge_186 : decode cX11_judge 186 = .ok (.aload_n 0, 1) := by decide +kernel
theorem dX11_judge_187 : decode cX11_judge 187 = .ok (.iload 4, 2) := by decide +kernel
theorem dX11_judge_189 : decode cX11_judge 189 = .ok (.i2l, 1) := by decide +kernel
theorem dX11_judge_190 : decode cX11_judge 190 = .ok (.invokevirtual 294, 3) := by decide +kernel
theorem dX11_judge_193 : decode cX11_judge 193 = .ok (.iload 5, 2) := by decide +kernel
theorem dX11_judge_195 : decode cX11_judge 195 = .ok (.ireturn, 1) := by decide +kernel
theorem dX11_favour_0 : decode cX11_favour 0 = .ok (.aload_n 0, 1) := by decide +kernel
theorem dX11_favour_1 : decode cX11_favour 1 = .ok (.iconst 0, 1) := by decide +kernel
theorem dX11_favour_2 : decode cX11_favour 2 = .ok (.putfield 126, 3) := by decide +kernel
theorem dX11_favour_5 : decode cX11_favour 5 = .ok (.aload_n 0, 1) := by decide +kernel
theorem dX11_favour_6 : decode cX11_favour 6 = .ok (.iload_n 1, 1) := by decide +kernel
theorem dX11_favour_7 : decode cX11_favour 7 = .ok (.invokevirtual 244, 3) := by decide +kernel
theorem dX11_favour_10 : decode cX11_favour 10 = .ok (.ifCond .eq 30, 3) := by decide +kernel
theorem dX11_favour_13 : decode cX11_favour 13 = .ok (.aload_n 0, 1) := by decide +kernel
theorem dX11_favour_14 : decode cX11_favour 14 = .ok (.iload_n 2, 1) := by decide +kernel
theorem dX11_favour_15 : decode cX11_favour 15 = .ok (.invokevirtual 244, 3) := by decide +kernel
theorem dX11_favour_18 : decode cX11_favour 18 = .ok (.ifCond .eq 22, 3) := by decide +kernel
theorem dX11_favour_21 : decode cX11_favour 21 = .ok (.iload_n 1, 1) := by decide +kernel
theorem dX11_favour_22 : decode cX11_favour 22 = .ok (.iload_n 2, 1) := by decide +kernel
theorem dX11_favour_23 : decode cX11_favour 23 = .ok (.if_icmp .eq 17, 3) := by decide +kernel
theorem dX11_favour_26 : decode cX11_favour 26 = .ok (.aload_n 0, 1) := by decide +kernel
theorem dX11_favour_27 : decode cX11_favour 27 = .ok (.getfield 26, 3) := by decide +kernel
theorem dX11_favour_30 : decode cX11_favour 30 = .ok (.bipush 8, 2) := by decide +kernel
theorem dX11_favour_32 : decode cX11_favour 32 = .ok (.iload_n 1, 1) := by decide +kernel
theorem dX11_favour_33 : decode cX11_favour 33 = .ok (.imul, 1) := by decide +kernel
theorem dX11_favour_34 : decode cX11_favour 34 = .ok (.iload_n 2, 1) := by decide +kernel
theorem dX11_favour_35 : decode cX11_favour 35 = .ok (.iadd, 1) := by decide +kernel
theorem dX11_favour_36 : decode cX11_favour 36 = .ok (.iaload, 1) := by decide +kernel
theorem dX11_favour_37 : decode cX11_favour 37 = .ok (.goto 4, 3) := by decide +kernel
theorem dX11_favour_40 : decode cX11_favour 40 = .ok (.iconst (-1), 1) := by decide +kernel
theorem dX11_favour_41 : decode cX11_favour 41 = .ok (.ireturn, 1) := by decide +kernel
theorem dX11_nets_0 : decode cX11_nets 0 = .ok (.aload_n 0, 1) := by decide +kernel
theorem dX11_nets_1 : decode cX11_nets 1 = .ok (.iconst 0, 1) := by decide +kernel
theorem dX11_nets_2 : decode cX11_nets 2 = .ok (.putfield 126, 3) := by decide +kernel
theorem dX11_nets_5 : decode cX11_nets 5 = .ok (.iconst 0, 1) := by decide +kernel
theorem dX11_nets_6 : decode cX11_nets 6 = .ok (.istore_n 1, 1) := by decide +kernel
theorem dX11_nets_7 : decode cX11_nets 7 = .ok (.iconst 0, 1) := by decide +kernel
theorem dX11_nets_8 : decode cX11_nets 8 = .ok (.istore_n 2, 1) := by decide +kernel
theorem dX11_nets_9 : decode cX11_nets 9 = .ok (.iload_n 2, 1) := by decide +kernel
theorem dX11_nets_10 : decode cX11_nets 10 = .ok (.aload_n 0, 1) := by decide +kernel
theorem dX11_nets_11 : decode cX11_nets 11 = .ok (.getfield 132, 3) := by decide +kernel
theorem dX11_nets_14 : decode cX11_nets 14 = .ok (.if_icmp .ge 88, 3) := by decide +kernel
theorem dX11_nets_17 : decode cX11_nets 17 = .ok (.iconst 0, 1) := by decide +kernel
theorem dX11_nets_18 : decode cX11_nets 18 = .ok (.istore_n 3, 1) := by decide +kernel
theorem dX11_nets_19 : decode cX11_nets 19 = .ok (.iload_n 3, 1) := by decide +kernel
theorem dX11_nets_20 : decode cX11_nets 20 = .ok (.iload_n 2, 1) := by decide +kernel
theorem dX11_nets_21 : decode cX11_nets 21 = .ok (.if_icmp .ge 75, 3) := by decide +kernel
theorem dX11_nets_24 : decode cX11_nets 24 = .ok (.aload_n 0, 1) := by decide +kernel
theorem dX11_nets_25 : decode cX11_nets 25 = .ok (.getfield 26, 3) := by decide +kernel
theorem dX11_nets_28 : decode cX11_nets 28 = .ok (.bipush 8, 2) := by decide +kernel
theorem dX11_nets_30 : decode cX11_nets 30 = .ok (.iload_n 2, 1) := by decide +kernel
theorem dX11_nets_31 : decode cX11_nets 31 = .ok (.imul, 1) := by decide +kernel
theorem dX11_nets_32 : decode cX11_nets 32 = .ok (.iload_n 3, 1) := by decide +kernel
theorem dX11_nets_33 : decode cX11_nets 33 = .ok (.iadd, 1) := by decide +kernel
theorem dX11_nets_34 : decode cX11_nets 34 = .ok (.iaload, 1) := by decide +kernel
theorem dX11_nets_35 : decode cX11_nets 35 = .ok (.aload_n 0, 1) := by decide +kernel
theorem dX11_nets_36 : decode cX11_nets 36 = .ok (.getfield 26, 3) := by decide +kernel
theorem dX11_nets_39 : decode cX11_nets 39 = .ok (.bipush 8, 2) := by decide +kernel
theorem dX11_nets_41 : decode cX11_nets 41 = .ok (.iload_n 3, 1) := by decide +kernel
theorem dX11_nets_42 : decode cX11_nets 42 = .ok (.imul, 1) := by decide +kernel
theorem dX11_nets_43 : decode cX11_nets 43 = .ok (.iload_n 2, 1) := by decide +kernel
theorem dX11_nets_44 : decode cX11_nets 44 = .ok (.iadd, 1) := by decide +kernel
theorem dX11_nets_45 : decode cX11_nets 45 = .ok (.iaload, 1) := by decide +kernel
theorem dX11_nets_46 : decode cX11_nets 46 = .ok (.invokestatic 267, 3) := by decide +kernel
theorem dX11_nets_49 : decode cX11_nets 49 = .ok (.istore 4, 2) := by decide +kernel
theorem dX11_nets_51 : decode cX11_nets 51 = .ok (.aload_n 0, 1) := by decide +kernel
theorem dX11_nets_52 : decode cX11_nets 52 = .ok (.getfield 26, 3) := by decide +kernel
theorem dX11_nets_55 : decode cX11_nets 55 = .ok (.bipush 8, 2) := by decide +kernel
theorem dX11_nets_57 : decode cX11_nets 57 = .ok (.iload_n 2, 1) := by decide +kernel
theorem dX11_nets_58 : decode cX11_nets 58 = .ok (.imul, 1) := by decide +kernel
theorem dX11_nets_59 : decode cX11_nets 59 = .ok (.iload_n 3, 1) := by decide +kernel
theorem dX11_nets_60 : decode cX11_nets 60 = .ok (.iadd, 1) := by decide +kernel
theorem dX11_nets_61 : decode cX11_nets 61 = .ok (.dup2, 1) := by decide +kernel
theorem dX11_nets_62 : decode cX11_nets 62 = .ok (.iaload, 1) := by decide +kernel
theorem dX11_nets_63 : decode cX11_nets 63 = .ok (.iload 4, 2) := by decide +kernel
theorem dX11_nets_65 : decode cX11_nets 65 = .ok (.isub, 1) := by decide +kernel
theorem dX11_nets_66 : decode cX11_nets 66 = .ok (.iastore, 1) := by decide +kernel
theorem dX11_nets_67 : decode cX11_nets 67 = .ok (.aload_n 0, 1) := by decide +kernel
theorem dX11_nets_68 : decode cX11_nets 68 = .ok (.getfield 26, 3) := by decide +kernel
theorem dX11_nets_71 : decode cX11_nets 71 = .ok (.bipush 8, 2) := by decide +kernel
theorem dX11_nets_73 : decode cX11_nets 73 = .ok (.iload_n 3, 1) := by decide +kernel
theorem dX11_nets_74 : decode cX11_nets 74 = .ok (.imul, 1) := by decide +kernel
theorem dX11_nets_75 : decode cX11_nets 75 = .ok (.iload_n 2, 1) := by decide +kernel
theorem dX11_nets_76 : decode cX11_nets 76 = .ok (.iadd, 1) := by decide +kernel
theorem dX11_nets_77 : decode cX11_nets 77 = .ok (.dup2, 1) := by decide +kernel
theorem dX11_nets_78 : decode cX11_nets 78 = .ok (.iaload, 1) := by decide +kernel
theorem dX11_nets_79 : decode cX11_nets 79 = .ok (.iload 4, 2) := by decide +kernel
theorem dX11_nets_81 : decode cX11_nets 81 = .ok (.isub, 1) := by decide +kernel
theorem dX11_nets_82 : decode cX11_nets 82 = .ok (.iastore, 1) := by decide +kernel
theorem dX11_nets_83 : decode cX11_nets 83 = .ok (.iload_n 1, 1) := by decide +kernel
theorem dX11_nets_84 : decode cX11_nets 84 = .ok (.iconst 2, 1) := by decide +kernel
theorem dX11_nets_85 : decode cX11_nets 85 = .ok (.iload 4, 2) := by decide +kernel
theorem dX11_nets_87 : decode cX11_nets 87 = .ok (.imul, 1) := by decide +kernel
theorem dX11_nets_88 : decode cX11_nets 88 = .ok (.iadd, 1) := by decide +kernel
theorem dX11_nets_89 : decode cX11_nets 89 = .ok (.istore_n 1, 1) := by decide +kernel
theorem dX11_nets_90 : decode cX11_nets 90 = .ok (.iinc 3 1, 3) := by decide +kernel
theorem dX11_nets_93 : decode cX11_nets 93 = .ok (.goto (-74), 3) := by decide +kernel
theorem dX11_nets_96 : decode cX11_nets 96 = .ok (.iinc 2 1, 3) := by decide +kernel
theorem dX11_nets_99 : decode cX11_nets 99 = .ok (.goto (-90), 3) := by decide +kernel
theorem dX11_nets_102 : decode cX11_nets 102 = .ok (.aload_n 0, 1) := by decide +kernel
theorem dX11_nets_103 : decode cX11_nets 103 = .ok (.iconst 0, 1) := by decide +kernel
theorem dX11_nets_104 : decode cX11_nets 104 = .ok (.putfield 198, 3) := by decide +kernel
theorem dX11_nets_107 : decode cX11_nets 107 = .ok (.iload_n 1, 1) := by decide +kernel
theorem dX11_nets_108 : decode cX11_nets 108 = .ok (.ireturn, 1) := by decide +kernel
theorem dX11_canGive_0 : decode cX11_canGive 0 = .ok (.aload_n 0, 1) := by decide +kernel
theorem dX11_canGive_1 : decode cX11_canGive 1 = .ok (.iload_n 1, 1) := by decide +kernel
theorem dX11_canGive_2 : decode cX11_canGive 2 = .ok (.invokevirtual 244, 3) := by decide +kernel
theorem dX11_canGive_5 : decode cX11_canGive 5 = .ok (.ifCond .eq 35, 3) := by decide +kernel
theorem dX11_canGive_8 : decode cX11_canGive 8 = .ok (.aload_n 0, 1) := by decide +kernel
theorem dX11_canGive_9 : decode cX11_canGive 9 = .ok (.iload_n 2, 1) := by decide +kernel
theorem dX11_canGive_10 : decode cX11_canGive 10 = .ok (.invokevirtual 244, 3) := by decide +kernel
theorem dX11_canGive_13 : decode cX11_canGive 13 = .ok (.ifCond .eq 27, 3) := by decide +kernel
theorem dX11_canGive_16 : decode cX11_canGive 16 = .ok (.iload_n 1, 1) := by decide +kernel
theorem dX11_canGive_17 : decode cX11_canGive 17 = .ok (.iload_n 2, 1) := by decide +kernel
theorem dX11_canGive_18 : decode cX11_canGive 18 = .ok (.if_icmp .eq 22, 3) := by decide +kernel
theorem dX11_canGive_21 : decode cX11_canGive 21 = .ok (.iload_n 3, 1) := by decide +kernel
theorem dX11_canGive_22 : decode cX11_canGive 22 = .ok (.i2l, 1) := by decide +kernel
theorem dX11_canGive_23 : decode cX11_canGive 23 = .ok (.lconst 1, 1) := by decide +kernel
theorem dX11_canGive_24 : decode cX11_canGive 24 = .ok (.aload_n 0, 1) := by decide +kernel
theorem dX11_canGive_25 : decode cX11_canGive 25 = .ok (.iload_n 1, 1) := by decide +kernel
theorem dX11_canGive_26 : decode cX11_canGive 26 = .ok (.invokevirtual 225, 3) := by decide +kernel
theorem dX11_canGive_29 : decode cX11_canGive 29 = .ok (.i2l, 1) := by decide +kernel
theorem dX11_canGive_30 : decode cX11_canGive 30 = .ok (.invokestatic 135, 3) := by decide +kernel
theorem dX11_canGive_33 : decode cX11_canGive 33 = .ok (.ifCond .eq 7, 3) := by decide +kernel
theorem dX11_canGive_36 : decode cX11_canGive 36 = .ok (.iconst 1, 1) := by decide +kernel
theorem dX11_canGive_37 : decode cX11_canGive 37 = .ok (.goto 4, 3) := by decide +kernel
theorem dX11_canGive_40 : decode cX11_canGive 40 = .ok (.iconst 0, 1) := by decide +kernel
theorem dX11_canGive_41 : decode cX11_canGive 41 = .ok (.ireturn, 1) := by decide +kernel
theorem dX11_give_0 : decode cX11_give 0 = .ok (.aload_n 0, 1) := by decide +kernel
theorem dX11_give_1 : decode cX11_give 1 = .ok (.iconst 0, 1) := by decide +kernel
theorem dX11_give_2 : decode cX11_give 2 = .ok (.putfield 126, 3) := by decide +kernel
theorem dX11_give_5 : decode cX11_give 5 = .ok (.aload_n 0, 1) := by decide +kernel
theorem dX11_give_6 : decode cX11_give 6 = .ok (.iload_n 1, 1) := by decide +kernel
theorem dX11_give_7 : decode cX11_give 7 = .ok (.iload_n 2, 1) := by decide +kernel
theorem dX11_give_8 : decode cX11_give 8 = .ok (.iload_n 3, 1) := by decide +kernel
theorem dX11_give_9 : decode cX11_give 9 = .ok (.invokevirtual 315, 3) := by decide +kernel
theorem dX11_give_12 : decode cX11_give 12 = .ok (.ifCond .ne 5, 3) := by decide +kernel
theorem dX11_give_15 : decode cX11_give 15 = .ok (.iconst 0, 1) := by decide +kernel
theorem dX11_give_16 : decode cX11_give 16 = .ok (.ireturn, 1) := by decide +kernel
theorem dX11_give_17 : decode cX11_give 17 = .ok (.aload_n 0, 1) := by decide +kernel
theorem dX11_give_18 : decode cX11_give 18 = .ok (.getfield 9, 3) := by decide +kernel
theorem dX11_give_21 : decode cX11_give 21 = .ok (.iload_n 1, 1) := by decide +kernel
theorem dX11_give_22 : decode cX11_give 22 = .ok (.dup2, 1) := by decide +kernel
theorem dX11_give_23 : decode cX11_give 23 = .ok (.iaload, 1) := by decide +kernel
theorem dX11_give_24 : decode cX11_give 24 = .ok (.iload_n 3, 1) := by decide +kernel
theorem dX11_give_25 : decode cX11_give 25 = .ok (.isub, 1) := by decide +kernel
theorem dX11_give_26 : decode cX11_give 26 = .ok (.iastore, 1) := by decide +kernel
theorem dX11_give_27 : decode cX11_give 27 = .ok (.aload_n 0, 1) := by decide +kernel
theorem dX11_give_28 : decode cX11_give 28 = .ok (.getfield 9, 3) := by decide +kernel
theorem dX11_give_31 : decode cX11_give 31 = .ok (.iload_n 2, 1) := by decide +kernel
theorem dX11_give_32 : decode cX11_give 32 = .ok (.dup2, 1) := by decide +kernel
theorem dX11_give_33 : decode cX11_give 33 = .ok (.iaload, 1) := by decide +kernel
theorem dX11_give_34 : decode cX11_give 34 = .ok (.iload_n 3, 1) := by decide +kernel
theorem dX11_give_35 : decode cX11_give 35 = .ok (.iadd, 1) := by decide +kernel
theorem dX11_give_36 : decode cX11_give 36 = .ok (.iastore, 1) := by decide +kernel
theorem dX11_give_37 : decode cX11_give 37 = .ok (.aload_n 0, 1) := by decide +kernel
theorem dX11_give_38 : decode cX11_give 38 = .ok (.iconst 0, 1) := by decide +kernel
theorem dX11_give_39 : decode cX11_give 39 = .ok (.putfield 198, 3) := by decide +kernel
theorem dX11_give_42 : decode cX11_give 42 = .ok (.iconst 1, 1) := by decide +kernel
theorem dX11_give_43 : decode cX11_give 43 = .ok (.ireturn, 1) := by decide +kernel
theorem dX11_lend_0 : decode cX11_lend 0 = .ok (.aload_n 0, 1) := by decide +kernel
theorem dX11_lend_1 : decode cX11_lend 1 = .ok (.iconst 0, 1) := by decide +kernel
theorem dX11_lend_2 : decode cX11_lend 2 = .ok (.putfield 126, 3) := by decide +kernel
theorem dX11_lend_5 : decode cX11_lend 5 = .ok (.aload_n 0, 1) := by decide +kernel
theorem dX11_lend_6 : decode cX11_lend 6 = .ok (.iload_n 1, 1) := by decide +kernel
theorem dX11_lend_7 : decode cX11_lend 7 = .ok (.iload_n 2, 1) := by decide +kernel
theorem dX11_lend_8 : decode cX11_lend 8 = .ok (.iload_n 3, 1) := by decide +kernel
theorem dX11_lend_9 : decode cX11_lend 9 = .ok (.invokevirtual 315, 3) := by decide +kernel
theorem dX11_lend_12 : decode cX11_lend 12 = .ok (.ifCond .eq 12, 3) := by decide +kernel
theorem dX11_lend_15 : decode cX11_lend 15 = .ok (.aload_n 0, 1) := by decide +kernel
theorem dX11_lend_16 : decode cX11_lend 16 = .ok (.getfield 319, 3) := by decide +kernel
theorem dX11_lend_19 : decode cX11_lend 19 = .ok (.bipush 6, 2) := by decide +kernel
theorem dX11_lend_21 : decode cX11_lend 21 = .ok (.if_icmp .ne 5, 3) := by decide +kernel
theorem dX11_lend_24 : decode cX11_lend 24 = .ok (.iconst (-1), 1) := by decide +kernel
theorem dX11_lend_25 : decode cX11_lend 25 = .ok (.ireturn, 1) := by decide +kernel
theorem dX11_lend_26 : decode cX11_lend 26 = .ok (.aload_n 0, 1) := by decide +kernel
theorem dX11_lend_27 : decode cX11_lend 27 = .ok (.getfield 9, 3) := by decide +kernel
theorem dX11_lend_30 : decode cX11_lend 30 = .ok (.iload_n 1, 1) := by decide +kernel
theorem dX11_lend_31 : decode cX11_lend 31 = .ok (.dup2, 1) := by decide +kernel
theorem dX11_lend_32 : decode cX11_lend 32 = .ok (.iaload, 1) := by decide +kernel
theorem dX11_lend_33 : decode cX11_lend 33 = .ok (.iload_n 3, 1) := by decide +kernel
theorem dX11_lend_34 : decode cX11_lend 34 = .ok (.isub, 1) := by decide +kernel
theorem dX11_lend_35 : decode cX11_lend 35 = .ok (.iastore, 1) := by decide +kernel
theorem dX11_lend_36 : decode cX11_lend 36 = .ok (.aload_n 0, 1) := by decide +kernel
theorem dX11_lend_37 : decode cX11_lend 37 = .ok (.getfield 9, 3) := by decide +kernel
theorem dX11_lend_40 : decode cX11_lend 40 = .ok (.iload_n 2, 1) := by decide +kernel
theorem dX11_lend_41 : decode cX11_lend 41 = .ok (.dup2, 1) := by decide +kernel
theorem dX11_lend_42 : decode cX11_lend 42 = .ok (.iaload, 1) := by decide +kernel
theorem dX11_lend_43 : decode cX11_lend 43 = .ok (.iload_n 3, 1) := by decide +kernel
theorem dX11_lend_44 : decode cX11_lend 44 = .ok (.iadd, 1) := by decide +kernel
theorem dX11_lend_45 : decode cX11_lend 45 = .ok (.iastore, 1) := by decide +kernel
theorem dX11_lend_46 : decode cX11_lend 46 = .ok (.aload_n 0, 1) := by decide +kernel
theorem dX11_lend_47 : decode cX11_lend 47 = .ok (.getfield 71, 3) := by decide +kernel
theorem dX11_lend_50 : decode cX11_lend 50 = .ok (.iconst 3, 1) := by decide +kernel
theorem dX11_lend_51 : decode cX11_lend 51 = .ok (.aload_n 0, 1) := by decide +kernel
theorem dX11_lend_52 : decode cX11_lend 52 = .ok (.getfield 319, 3) := by decide +kernel
theorem dX11_lend_55 : decode cX11_lend 55 = .ok (.imul, 1) := by decide +kernel
theorem dX11_lend_56 : decode cX11_lend 56 = .ok (.iload_n 1, 1) := by decide +kernel
theorem dX11_lend_57 : decode cX11_lend 57 = .ok (.iastore, 1) := by decide +kernel
theorem dX11_lend_58 : decode cX11_lend 58 = .ok (.aload_n 0, 1) := by decide +kernel
theorem dX11_lend_59 : decode cX11_lend 59 = .ok (.getfield 71, 3) := by decide +kernel
theorem dX11_lend_62 : decode cX11_lend 62 = .ok (.iconst 3, 1) := by decide +kernel
theorem dX11_lend_63 : decode cX11_lend 63 = .ok (.aload_n 0, 1) := by decide +kernel
theorem dX11_lend_64 : decode cX11_lend 64 = .ok (.getfield 319, 3) := by decide +kernel
theorem dX11_lend_67 : decode cX11_lend 67 = .ok (.imul, 1) := by decide +kernel
theorem dX11_lend_68 : decode cX11_lend 68 = .ok (.iconst 1, 1) := by decide +kernel
theorem dX11_lend_69 : decode cX11_lend 69 = .ok (.iadd, 1) := by decide +kernel
theorem dX11_lend_70 : decode cX11_lend 70 = .ok (.iload_n 2, 1) := by decide +kernel
theorem dX11_lend_71 : decode cX11_lend 71 = .ok (.iastore, 1) := by decide +kernel
theorem dX11_lend_72 : decode cX11_lend 72 = .ok (.aload_n 0, 1) := by decide +kernel
theorem dX11_lend_73 : decode cX11_lend 73 = .ok (.getfield 71, 3) := by decide +kernel
theorem dX11_lend_76 : decode cX11_lend 76 = .ok (.iconst 3, 1) := by decide +kernel
theorem dX11_lend_77 : decode cX11_lend 77 = .ok (.aload_n 0, 1) := by decide +kernel
theorem dX11_lend_78 : decode cX11_lend 78 = .ok (.getfield 319, 3) := by decide +kernel
theorem dX11_lend_81 : decode cX11_lend 81 = .ok (.imul, 1) := by decide +kernel
theorem dX11_lend_82 : decode cX11_lend 82 = .ok (.iconst 2, 1) := by decide +kernel
theorem dX11_lend_83 : decode cX11_lend 83 = .ok (.iadd, 1) := by decide +kernel
theorem dX11_lend_84 : decode cX11_lend 84 = .ok (.iload_n 3, 1) := by decide +kernel
theorem dX11_lend_85 : decode cX11_lend 85 = .ok (.iastore, 1) := by decide +kernel
theorem dX11_lend_86 : decode cX11_lend 86 = .ok (.aload_n 0, 1) := by decide +kernel
theorem dX11_lend_87 : decode cX11_lend 87 = .ok (.dup, 1) := by decide +kernel
theorem dX11_lend_88 : decode cX11_lend 88 = .ok (.getfield 319, 3) := by decide +kernel
theorem dX11_lend_91 : decode cX11_lend 91 = .ok (.iconst 1, 1) := by decide +kernel
theorem dX11_lend_92 : decode cX11_lend 92 = .ok (.iadd, 1) := by decide +kernel
theorem dX11_lend_93 : decode cX11_lend 93 = .ok (.putfield 319, 3) := by decide +kernel
theorem dX11_lend_96 : decode cX11_lend 96 = .ok (.aload_n 0, 1) := by decide +kernel
theorem dX11_lend_97 : decode cX11_lend 97 = .ok (.iconst 0, 1) := by decide +kernel
theorem dX11_lend_98 : decode cX11_lend 98 = .ok (.putfield 198, 3) := by decide +kernel
theorem dX11_lend_101 : decode cX11_lend 101 = .ok (.aload_n 0, 1) := by decide +kernel
theorem dX11_lend_102 : decode cX11_lend 102 = .ok (.getfield 319, 3) := by decide +kernel
theorem dX11_lend_105 : decode cX11_lend 105 = .ok (.ireturn, 1) := by decide +kernel
theorem dX11_back_0 : decode cX11_back 0 = .ok (.aload_n 0, 1) := by decide +kernel
theorem dX11_back_1 : decode cX11_back 1 = .ok (.iconst 0, 1) := by decide +kernel
theorem dX11_back_2 : decode cX11_back 2 = .ok (.putfield 126, 3) := by decide +kernel
theorem dX11_back_5 : decode cX11_back 5 = .ok (.aload_n 0, 1) := by decide +kernel
theorem dX11_back_6 : decode cX11_back 6 = .ok (.getfield 319, 3) := by decide +kernel
theorem dX11_back_9 : decode cX11_back 9 = .ok (.ifCond .ne 5, 3) := by decide +kernel
theorem dX11_back_12 : decode cX11_back 12 = .ok (.iconst (-1), 1) := by decide +kernel
theorem dX11_back_13 : decode cX11_back 13 = .ok (.ireturn, 1) := by decide +kernel
theorem dX11_back_14 : decode cX11_back 14 = .ok (.iconst 3, 1) := by decide +kernel
theorem dX11_back_15 : decode cX11_back 15 = .ok (.aload_n 0, 1) := by decide +kernel
theorem dX11_back_16 : decode cX11_back 16 = .ok (.getfield 319, 3) := by decide +kernel
theorem dX11_back_19 : decode cX11_back 19 = .ok (.iconst 1, 1) := by decide +kernel
theorem dX11_back_20 : decode cX11_back 20 = .ok (.isub, 1) := by decide +kernel
theorem dX11_back_21 : decode cX11_back 21 = .ok (.imul, 1) := by decide +kernel
theorem dX11_back_22 : decode cX11_back 22 = .ok (.istore_n 1, 1) := by decide +kernel
theorem dX11_back_23 : decode cX11_back 23 = .ok (.aload_n 0, 1) := by decide +kernel
theorem dX11_back_24 : decode cX11_back 24 = .ok (.aload_n 0, 1) := by decide +kernel
theorem dX11_back_25 : decode cX11_back 25 = .ok (.getfield 71, 3) := by decide +kernel
theorem dX11_back_28 : decode cX11_back 28 = .ok (.iload_n 1, 1) := by decide +kernel
theorem dX11_back_29 : decode cX11_back 29 = .ok (.iconst 1, 1) := by decide +kernel
theorem dX11_back_30 : decode cX11_back 30 = .ok (.iadd, 1) := by decide +kernel
theorem dX11_back_31 : decode cX11_back 31 = .ok (.iaload, 1) := by decide +kernel
theorem dX11_back_32 : decode cX11_back 32 = .ok (.invokevirtual 225, 3) := by decide +kernel
theorem dX11_back_35 : decode cX11_back 35 = .ok (.aload_n 0, 1) := by decide +kernel
theorem dX11_back_36 : decode cX11_back 36 = .ok (.getfield 71, 3) := by decide +kernel
theorem dX11_back_39 : decode cX11_back 39 = .ok (.iload_n 1, 1) := by decide +kernel
theorem dX11_back_40 : decode cX11_back 40 = .ok (.iconst 2, 1) := by decide +kernel
theorem dX11_back_41 : decode cX11_back 41 = .ok (.iadd, 1) := by decide +kernel
theorem dX11_back_42 : decode cX11_back 42 = .ok (.iaload, 1) := by decide +kernel
theorem dX11_back_43 : decode cX11_back 43 = .ok (.if_icmp .ge 6, 3) := by decide +kernel
theorem dX11_back_46 : decode cX11_back 46 = .ok (.bipush (-2), 2) := by decide +kernel
theorem dX11_back_48 : decode cX11_back 48 = .ok (.ireturn, 1) := by decide +kernel
theorem dX11_back_49 : decode cX11_back 49 = .ok (.aload_n 0, 1) := by decide +kernel
theorem dX11_back_50 : decode cX11_back 50 = .ok (.getfield 9, 3) := by decide +kernel
theorem dX11_back_53 : decode cX11_back 53 = .ok (.aload_n 0, 1) := by decide +kernel
theorem dX11_back_54 : decode cX11_back 54 = .ok (.getfield 71, 3) := by decide +kernel
theorem dX11_back_57 : decode cX11_back 57 = .ok (.iload_n 1, 1) := by decide +kernel
theorem dX11_back_58 : decode cX11_back 58 = .ok (.iconst 1, 1) := by decide +kernel
theorem dX11_back_59 : decode cX11_back 59 = .ok (.iadd, 1) := by decide +kernel
theorem dX11_back_60 : decode cX11_back 60 = .ok (.iaload, 1) := by decide +kernel
theorem dX11_back_61 : decode cX11_back 61 = .ok (.dup2, 1) := by decide +kernel
theorem dX11_back_62 : decode cX11_back 62 = .ok (.iaload, 1) := by decide +kernel
theorem dX11_back_63 : decode cX11_back 63 = .ok (.aload_n 0, 1) := by decide +kernel
theorem dX11_back_64 : decode cX11_back 64 = .ok (.getfield 71, 3) := by decide +kernel
theorem dX11_back_67 : decode cX11_back 67 = .ok (.iload_n 1, 1) := by decide +kernel
theorem dX11_back_68 : decode cX11_back 68 = .ok (.iconst 2, 1) := by decide +kernel
theorem dX11_back_69 : decode cX11_back 69 = .ok (.iadd, 1) := by decide +kernel
theorem dX11_back_70 : decode cX11_back 70 = .ok (.iaload, 1) := by decide +kernel
theorem dX11_back_71 : decode cX11_back 71 = .ok (.isub, 1) := by decide +kernel
theorem dX11_back_72 : decode cX11_back 72 = .ok (.iastore, 1) := by decide +kernel
theorem dX11_back_73 : decode cX11_back 73 = .ok (.aload_n 0, 1) := by decide +kernel
theorem dX11_back_74 : decode cX11_back 74 = .ok (.getfield 9, 3) := by decide +kernel
theorem dX11_back_77 : decode cX11_back 77 = .ok (.aload_n 0, 1) := by decide +kernel
theorem dX11_back_78 : decode cX11_back 78 = .ok (.getfield 71, 3) := by decide +kernel
theorem dX11_back_81 : decode cX11_back 81 = .ok (.iload_n 1, 1) := by decide +kernel
theorem dX11_back_82 : decode cX11_back 82 = .ok (.iaload, 1) := by decide +kernel
theorem dX11_back_83 : decode cX11_back 83 = .ok (.dup2, 1) := by decide +kernel
theorem dX11_back_84 : decode cX11_back 84 = .ok (.iaload, 1) := by decide +kernel
theorem dX11_back_85 : decode cX11_back 85 = .ok (.aload_n 0, 1) := by decide +kernel
theorem dX11_back_86 : decode cX11_back 86 = .ok (.getfield 71, 3) := by decide +kernel
theorem dX11_back_89 : decode cX11_back 89 = .ok (.iload_n 1, 1) := by decide +kernel
theorem dX11_back_90 : decode cX11_back 90 = .ok (.iconst 2, 1) := by decide +kernel
theorem dX11_back_91 : decode cX11_back 91 = .ok (.iadd, 1) := by decide +kernel
theorem dX11_back_92 : decode cX11_back 92 = .ok (.iaload, 1) := by decide +kernel
theorem dX11_back_93 : decode cX11_back 93 = .ok (.iadd, 1) := by decide +kernel
theorem dX11_back_94 : decode cX11_back 94 = .ok (.iastore, 1) := by decide +kernel
theorem dX11_back_95 : decode cX11_back 95 = .ok (.aload_n 0, 1) := by decide +kernel
theorem dX11_back_96 : decode cX11_back 96 = .ok (.dup, 1) := by decide +kernel
theorem dX11_back_97 : decode cX11_back 97 = .ok (.getfield 319, 3) := by decide +kernel
theorem dX11_back_100 : decode cX11_back 100 = .ok (.iconst 1, 1) := by decide +kernel
theorem dX11_back_101 : decode cX11_back 101 = .ok (.isub, 1) := by decide +kernel
theorem dX11_back_102 : decode cX11_back 102 = .ok (.putfield 319, 3) := by decide +kernel
theorem dX11_back_105 : decode cX11_back 105 = .ok (.aload_n 0, 1) := by decide +kernel
theorem dX11_back_106 : decode cX11_back 106 = .ok (.iconst 0, 1) := by decide +kernel
theorem dX11_back_107 : decode cX11_back 107 = .ok (.putfield 198, 3) := by decide +kernel
theorem dX11_back_110 : decode cX11_back 110 = .ok (.aload_n 0, 1) := by decide +kernel
theorem dX11_back_111 : decode cX11_back 111 = .ok (.getfield 319, 3) := by decide +kernel
theorem dX11_back_114 : decode cX11_back 114 = .ok (.ireturn, 1) := by decide +kernel
theorem dX11_gift_0 : decode cX11_gift 0 = .ok (.aload_n 0, 1) := by decide +kernel
theorem dX11_gift_1 : decode cX11_gift 1 = .ok (.iconst 0, 1) := by decide +kernel
theorem dX11_gift_2 : decode cX11_gift 2 = .ok (.putfield 126, 3) := by decide +kernel
theorem dX11_gift_5 : decode cX11_gift 5 = .ok (.aload_n 0, 1) := by decide +kernel
theorem dX11_gift_6 : decode cX11_gift 6 = .ok (.iload_n 1, 1) := by decide +kernel
theorem dX11_gift_7 : decode cX11_gift 7 = .ok (.invokevirtual 312, 3) := by decide +kernel
theorem dX11_gift_10 : decode cX11_gift 10 = .ok (.ifCond .ne 5, 3) := by decide +kernel
theorem dX11_gift_13 : decode cX11_gift 13 = .ok (.iconst (-1), 1) := by decide +kernel
theorem dX11_gift_14 : decode cX11_gift 14 = .ok (.ireturn, 1) := by decide +kernel
theorem dX11_gift_15 : decode cX11_gift 15 = .ok (.aload_n 0, 1) := by decide +kernel
theorem dX11_gift_16 : decode cX11_gift 16 = .ok (.iload_n 1, 1) := by decide +kernel
theorem dX11_gift_17 : decode cX11_gift 17 = .ok (.invokevirtual 288, 3) := by decide +kernel
theorem dX11_gift_20 : decode cX11_gift 20 = .ok (.ifCond .eq 5, 3) := by decide +kernel
theorem dX11_gift_23 : decode cX11_gift 23 = .ok (.iconst 0, 1) := by decide +kernel
theorem dX11_gift_24 : decode cX11_gift 24 = .ok (.ireturn, 1) := by decide +kernel
theorem dX11_gift_25 : decode cX11_gift 25 = .ok (.aload_n 0, 1) := by decide +kernel
theorem dX11_gift_26 : decode cX11_gift 26 = .ok (.getfield 29, 3) := by decide +kernel
theorem dX11_gift_29 : decode cX11_gift 29 = .ok (.iload_n 1, 1) := by decide +kernel
theorem dX11_gift_30 : decode cX11_gift 30 = .ok (.iaload, 1) := by decide +kernel
theorem dX11_gift_31 : decode cX11_gift 31 = .ok (.istore_n 2, 1) := by decide +kernel
theorem dX11_gift_32 : decode cX11_gift 32 = .ok (.bipush (-2), 2) := by decide +kernel
theorem dX11_gift_34 : decode cX11_gift 34 = .ok (.istore_n 3, 1) := by decide +kernel
theorem dX11_gift_35 : decode cX11_gift 35 = .ok (.iconst 0, 1) := by decide +kernel
theorem dX11_gift_36 : decode cX11_gift 36 = .ok (.istore 4, 2) := by decide +kernel
theorem dX11_gift_38 : decode cX11_gift 38 = .ok (.iconst 0, 1) := by decide +kernel
theorem dX11_gift_39 : decode cX11_gift 39 = .ok (.istore 5, 2) := by decide +kernel
theorem dX11_gift_41 : decode cX11_gift 41 = .ok (.iconst 0, 1) := by decide +kernel
theorem dX11_gift_42 : decode cX11_gift 42 = .ok (.istore 6, 2) := by decide +kernel
theorem dX11_gift_44 : decode cX11_gift 44 = .ok (.iload 6, 2) := by decide +kernel
theorem dX11_gift_46 : decode cX11_gift 46 = .ok (.aload_n 0, 1) := by decide +kernel
theorem dX11_gift_47 : decode cX11_gift 47 = .ok (.getfield 132, 3) := by decide +kernel
theorem dX11_gift_50 : decode cX11_gift 50 = .ok (.if_icmp .ge 136, 3) := by decide +kernel
theorem dX11_gift_53 : decode cX11_gift 53 = .ok (.iload 6, 2) := by decide +kernel
theorem dX11_gift_55 : decode cX11_gift 55 = .ok (.iload_n 2, 1) := by decide +kernel
theorem dX11_gift_56 : decode cX11_gift 56 = .ok (.if_icmp .ne 6, 3) := by decide +kernel
theorem dX11_gift_59 : decode cX11_gift 59 = .ok (.goto 121, 3) := by decide +kernel
theorem dX11_gift_62 : decode cX11_gift 62 = .ok (.iload_n 3, 1) := by decide +kernel
theorem dX11_gift_63 : decode cX11_gift 63 = .ok (.ifCond .ge 12, 3) := by decide +kernel
theorem dX11_gift_66 : decode cX11_gift 66 = .ok (.aload_n 0, 1) := by decide +kernel
theorem dX11_gift_67 : decode cX11_gift 67 = .ok (.iload 6, 2) := by decide +kernel
theorem dX11_gift_69 : decode cX11_gift 69 = .ok (.invokevirtual 225, 3) := by decide +kernel
theorem dX11_gift_72 : decode cX11_gift 72 = .ok (.goto 15, 3) := by decide +kernel
theorem dX11_gift_75 : decode cX11_gift 75 = .ok (.aload_n 0, 1) := by decide +kernel
theorem dX11_gift_76 : decode cX11_gift 76 = .ok (.iload 6, 2) := by decide +kernel
theorem dX11_gift_78 : decode cX11_gift 78 = .ok (.invokevirtual 225, 3) := by decide +kernel
theorem dX11_gift_81 : decode cX11_gift 81 = .ok (.iload_n 3, 1) := by decide +kernel
theorem dX11_gift_82 : decode cX11_gift 82 = .ok (.iconst 1, 1) := by decide +kernel
theorem dX11_gift_83 : decode cX11_gift 83 = .ok (.isub, 1) := by decide +kernel
theorem dX11_gift_84 : decode cX11_gift 84 = .ok (.invokestatic 267, 3) := by decide +kernel
theorem dX11_gift_87 : decode cX11_gift 87 = .ok (.istore 7, 2) := by decide +kernel
theorem dX11_gift_89 : decode cX11_gift 89 = .ok (.iconst 1, 1) := by decide +kernel
theorem dX11_gift_90 : decode cX11_gift 90 = .ok (.istore 8, 2) := by decide +kernel
theorem dX11_gift_92 : decode cX11_gift 92 = .ok (.iload 8, 2) := by decide +kernel
theorem dX11_gift_94 : decode cX11_gift 94 = .ok (.iload 7, 2) := by decide +kernel
theorem dX11_gift_96 : decode cX11_gift 96 = .ok (.if_icmp .gt 84, 3) := by decide +kernel
theorem dX11_gift_99 : decode cX11_gift 99 = .ok (.aload_n 0, 1) := by decide +kernel
theorem dX11_gift_100 : decode cX11_gift 100 = .ok (.getfield 9, 3) := by decide +kernel
theorem dX11_gift_103 : decode cX11_gift 103 = .ok (.iload 6, 2) := by decide +kernel
theorem dX11_gift_105 : decode cX11_gift 105 = .ok (.dup2, 1) := by decide +kernel
theorem dX11_gift_106 : decode cX11_gift 106 = .ok (.iaload, 1) := by decide +kernel
theorem dX11_gift_107 : decode cX11_gift 107 = .ok (.iload 8, 2) := by decide +kernel
theorem dX11_gift_109 : decode cX11_gift 109 = .ok (.isub, 1) := by decide +kernel
theorem dX11_gift_110 : decode cX11_gift 110 = .ok (.iastore, 1) := by decide +kernel
theorem dX11_gift_111 : decode cX11_gift 111 = .ok (.aload_n 0, 1) := by decide +kernel
theorem dX11_gift_112 : decode cX11_gift 112 = .ok (.getfield 9, 3) := by decide +kernel
theorem dX11_gift_115 : decode cX11_gift 115 = .ok (.iload_n 2, 1) := by decide +kernel
theorem dX11_gift_116 : decode cX11_gift 116 = .ok (.dup2, 1) := by decide +kernel
theorem dX11_gift_117 : decode cX11_gift 117 = .ok (.iaload, 1) := by decide +kernel
theorem dX11_gift_118 : decode cX11_gift 118 = .ok (.iload 8, 2) := by decide +kernel
theorem dX11_gift_120 : decode cX11_gift 120 = .ok (.iadd, 1) := by decide +kernel
theorem dX11_gift_121 : decode cX11_gift 121 = .ok (.iastore, 1) := by decide +kernel
theorem dX11_gift_122 : decode cX11_gift 122 = .ok (.aload_n 0, 1) := by decide +kernel
theorem dX11_gift_123 : decode cX11_gift 123 = .ok (.iload_n 1, 1) := by decide +kernel
theorem dX11_gift_124 : decode cX11_gift 124 = .ok (.invokevirtual 288, 3) := by decide +kernel
theorem dX11_gift_127 : decode cX11_gift 127 = .ok (.istore 9, 2) := by decide +kernel
theorem dX11_gift_129 : decode cX11_gift 129 = .ok (.aload_n 0, 1) := by decide +kernel
theorem dX11_gift_130 : decode cX11_gift 130 = .ok (.getfield 9, 3) := by decide +kernel
theorem dX11_gift_133 : decode cX11_gift 133 = .ok (.iload 6, 2) := by decide +kernel
theorem dX11_gift_135 : decode cX11_gift 135 = .ok (.dup2, 1) := by decide +kernel
theorem dX11_gift_136 : decode cX11_gift 136 = .ok (.iaload, 1) := by decide +kernel
theorem dX11_gift_137 : decode cX11_gift 137 = .ok (.iload 8, 2) := by decide +kernel
theorem dX11_gift_139 : decode cX11_gift 139 = .ok (.iadd, 1) := by decide +kernel
theorem dX11_gift_140 : decode cX11_gift 140 = .ok (.iastore, 1) := by decide +kernel
theorem dX11_gift_141 : decode cX11_gift 141 = .ok (.aload_n 0, 1) := by decide +kernel
theorem dX11_gift_142 : decode cX11_gift 142 = .ok (.getfield 9, 3) := by decide +kernel
theorem dX11_gift_145 : decode cX11_gift 145 = .ok (.iload_n 2, 1) := by decide +kernel
theorem dX11_gift_146 : decode cX11_gift 146 = .ok (.dup2, 1) := by decide +kernel
theorem dX11_gift_147 : decode cX11_gift 147 = .ok (.iaload, 1) := by decide +kernel
theorem dX11_gift_148 : decode cX11_gift 148 = .ok (.iload 8, 2) := by decide +kernel
theorem dX11_gift_150 : decode cX11_gift 150 = .ok (.isub, 1) := by decide +kernel
theorem dX11_gift_151 : decode cX11_gift 151 = .ok (.iastore, 1) := by decide +kernel
theorem dX11_gift_152 : decode cX11_gift 152 = .ok (.iload 9, 2) := by decide +kernel
theorem dX11_gift_154 : decode cX11_gift 154 = .ok (.ifCond .ne 6, 3) := by decide +kernel
theorem dX11_gift_157 : decode cX11_gift 157 = .ok (.goto 17, 3) := by decide +kernel
theorem dX11_gift_160 : decode cX11_gift 160 = .ok (.iload 8, 2) := by decide +kernel
theorem dX11_gift_162 : decode cX11_gift 162 = .ok (.istore_n 3, 1) := by decide +kernel
theorem dX11_gift_163 : decode cX11_gift 163 = .ok (.iload 6, 2) := by decide +kernel
theorem dX11_gift_165 : decode cX11_gift 165 = .ok (.istore 4, 2) := by decide +kernel
theorem dX11_gift_167 : decode cX11_gift 167 = .ok (.iload 9, 2) := by decide +kernel
theorem dX11_gift_169 : decode cX11_gift 169 = .ok (.istore 5, 2) := by decide +kernel
theorem dX11_gift_171 : decode cX11_gift 171 = .ok (.goto 9, 3) := by decide +kernel
theorem dX11_gift_174 : decode cX11_gift 174 = .ok (.iinc 8 1, 3) := by decide +kernel
theorem dX11_gift_177 : decode cX11_gift 177 = .ok (.goto (-85), 3) := by decide +kernel
theorem dX11_gift_180 : decode cX11_gift 180 = .ok (.iinc 6 1, 3) := by decide +kernel
theorem dX11_gift_183 : decode cX11_gift 183 = .ok (.goto (-139), 3) := by decide +kernel
theorem dX11_gift_186 : decode cX11_gift 186 = .ok (.iload_n 3, 1) := by decide +kernel
theorem dX11_gift_187 : decode cX11_gift 187 = .ok (.ifCond .ge 6, 3) := by decide +kernel
theorem dX11_gift_190 : decode cX11_gift 190 = .ok (.bipush (-2), 2) := by decide +kernel
theorem dX11_gift_192 : decode cX11_gift 192 = .ok (.ireturn, 1) := by decide +kernel
theorem dX11_gift_193 : decode cX11_gift 193 = .ok (.aload_n 0, 1) := by decide +kernel
theorem dX11_gift_194 : decode cX11_gift 194 = .ok (.iconst 0, 1) := by decide +kernel
theorem dX11_gift_195 : decode cX11_gift 195 = .ok (.putfield 129, 3) := by decide +kernel
theorem dX11_gift_198 : decode cX11_gift 198 = .ok (.aload_n 0, 1) := by decide +kernel
theorem dX11_gift_199 : decode cX11_gift 199 = .ok (.iload 4, 2) := by decide +kernel
theorem dX11_gift_201 : decode cX11_gift 201 = .ok (.i2l, 1) := by decide +kernel
theorem dX11_gift_202 : decode cX11_gift 202 = .ok (.invokevirtual 294, 3) := by decide +kernel
theorem dX11_gift_205 : decode cX11_gift 205 = .ok (.aload_n 0, 1) := by decide +kernel
theorem dX11_gift_206 : decode cX11_gift 206 = .ok (.iload 5, 2) := by decide +kernel
theorem dX11_gift_208 : decode cX11_gift 208 = .ok (.i2l, 1) := by decide +kernel
theorem dX11_gift_209 : decode cX11_gift 209 = .ok (.invokevirtual 294, 3) := by decide +kernel
theorem dX11_gift_212 : decode cX11_gift 212 = .ok (.iload_n 3, 1) := by decide +kernel
theorem dX11_gift_213 : decode cX11_gift 213 = .ok (.ireturn, 1) := by decide +kernel
theorem dX11_poorer_0 : decode cX11_poorer 0 = .ok (.aload_n 0, 1) := by decide +kernel
theorem dX11_poorer_1 : decode cX11_poorer 1 = .ok (.iconst 0, 1) := by decide +kernel
theorem dX11_poorer_2 : decode cX11_poorer 2 = .ok (.putfield 126, 3) := by decide +kernel
theorem dX11_poorer_5 : decode cX11_poorer 5 = .ok (.aload_n 0, 1) := by decide +kernel
theorem dX11_poorer_6 : decode cX11_poorer 6 = .ok (.iload_n 1, 1) := by decide +kernel
theorem dX11_poorer_7 : decode cX11_poorer 7 = .ok (.invokevirtual 244, 3) := by decide +kernel
theorem dX11_poorer_10 : decode cX11_poorer 10 = .ok (.ifCond .eq 11, 3) := by decide +kernel
theorem dX11_poorer_13 : decode cX11_poorer 13 = .ok (.aload_n 0, 1) := by decide +kernel
theorem dX11_poorer_14 : decode cX11_poorer 14 = .ok (.iload_n 2, 1) := by decide +kernel
theorem dX11_poorer_15 : decode cX11_poorer 15 = .ok (.invokevirtual 312, 3) := by decide +kernel
theorem dX11_poorer_18 : decode cX11_poorer 18 = .ok (.ifCond .ne 5, 3) := by decide +kernel
theorem dX11_poorer_21 : decode cX11_poorer 21 = .ok (.iconst (-1), 1) := by decide +kernel
theorem dX11_poorer_22 : decode cX11_poorer 22 = .ok (.ireturn, 1) := by decide +kernel
theorem dX11_poorer_23 : decode cX11_poorer 23 = .ok (.aload_n 0, 1) := by decide +kernel
theorem dX11_poorer_24 : decode cX11_poorer 24 = .ok (.iload_n 1, 1) := by decide +kernel
theorem dX11_poorer_25 : decode cX11_poorer 25 = .ok (.iload_n 2, 1) := by decide +kernel
theorem dX11_poorer_26 : decode cX11_poorer 26 = .ok (.invokevirtual 285, 3) := by decide +kernel
theorem dX11_poorer_29 : decode cX11_poorer 29 = .ok (.ifCond .eq 5, 3) := by decide +kernel
theorem dX11_poorer_32 : decode cX11_poorer 32 = .ok (.iconst 0, 1) := by decide +kernel
theorem dX11_poorer_33 : decode cX11_poorer 33 = .ok (.ireturn, 1) := by decide +kernel
theorem dX11_poorer_34 : decode cX11_poorer 34 = .ok (.bipush (-2), 2) := by decide +kernel
theorem dX11_poorer_36 : decode cX11_poorer 36 = .ok (.istore_n 3, 1) := by decide +kernel
theorem dX11_poorer_37 : decode cX11_poorer 37 = .ok (.iconst 0, 1) := by decide +kernel
theorem dX11_poorer_38 : decode cX11_poorer 38 = .ok (.istore 4, 2) := by decide +kernel
theorem dX11_poorer_40 : decode cX11_poorer 40 = .ok (.iconst 0, 1) := by decide +kernel
theorem dX11_poorer_41 : decode cX11_poorer 41 = .ok (.istore 5, 2) := by decide +kernel
theorem dX11_poorer_43 : decode cX11_poorer 43 = .ok (.iload 5, 2) := by decide +kernel
theorem dX11_poorer_45 : decode cX11_poorer 45 = .ok (.aload_n 0, 1) := by decide +kernel
theorem dX11_poorer_46 : decode cX11_poorer 46 = .ok (.getfield 132, 3) := by decide +kernel
theorem dX11_poorer_49 : decode cX11_poorer 49 = .ok (.if_icmp .ge 131, 3) := by decide +kernel
theorem dX11_poorer_52 : decode cX11_poorer 52 = .ok (.iload 5, 2) := by decide +kernel
theorem dX11_poorer_54 : decode cX11_poorer 54 = .ok (.iload_n 1, 1) := by decide +kernel
theorem dX11_poorer_55 : decode cX11_poorer 55 = .ok (.if_icmp .ne 6, 3) := by decide +kernel
theorem dX11_poorer_58 : decode cX11_poorer 58 = .ok (.goto 116, 3) := by decide +kernel
theorem dX11_poorer_61 : decode cX11_poorer 61 = .ok (.iload_n 3, 1) := by decide +kernel
theorem dX11_poorer_62 : decode cX11_poorer 62 = .ok (.ifCond .ge 11, 3) := by decide +kernel
theorem dX11_poorer_65 : decode cX11_poorer 65 = .ok (.aload_n 0, 1) := by decide +kernel
theorem dX11_poorer_66 : decode cX11_poorer 66 = .ok (.iload_n 1, 1) := by decide +kernel
theorem dX11_poorer_67 : decode cX11_poorer 67 = .ok (.invokevirtual 225, 3) := by decide +kernel
theorem dX11_poorer_70 : decode cX11_poorer 70 = .ok (.goto 14, 3) := by decide +kernel
theorem dX11_poorer_73 : decode cX11_poorer 73 = .ok (.aload_n 0, 1) := by decide +kernel
theorem dX11_poorer_74 : decode cX11_poorer 74 = .ok (.iload_n 1, 1) := by decide +kernel
theorem dX11_poorer_75 : decode cX11_poorer 75 = .ok (.invokevirtual 225, 3) := by decide +kernel
theorem dX11_poorer_78 : decode cX11_poorer 78 = .ok (.iload_n 3, 1) := by decide +kernel
theorem dX11_poorer_79 : decode cX11_poorer 79 = .ok (.iconst 1, 1) := by decide +kernel
theorem dX11_poorer_80 : decode cX11_poorer 80 = .ok (.isub, 1) := by decide +kernel
theorem dX11_poorer_81 : decode cX11_poorer 81 = .ok (.invokestatic 267, 3) := by decide +kernel
theorem dX11_poorer_84 : decode cX11_poorer 84 = .ok (.istore 6, 2) := by decide +kernel
theorem dX11_poorer_86 : decode cX11_poorer 86 = .ok (.iconst 1, 1) := by decide +kernel
theorem dX11_poorer_87 : decode cX11_poorer 87 = .ok (.istore 7, 2) := by decide +kernel
theorem dX11_poorer_89 : decode cX11_poorer 89 = .ok (.iload 7, 2) := by decide +kernel
theorem dX11_poorer_91 : decode cX11_poorer 91 = .ok (.iload 6, 2) := by decide +kernel
theorem dX11_poorer_93 : decode cX11_poorer 93 = .ok (.if_icmp .gt 81, 3) := by decide +kernel
theorem dX11_poorer_96 : decode cX11_poorer 96 = .ok (.aload_n 0, 1) := by decide +kernel
theorem dX11_poorer_97 : decode cX11_poorer 97 = .ok (.getfield 9, 3) := by decide +kernel
theorem dX11_poorer_100 : decode cX11_poorer 100 = .ok (.iload_n 1, 1) := by decide +kernel
theorem dX11_poorer_101 : decode cX11_poorer 101 = .ok (.dup2, 1) := by decide +kernel
theorem dX11_poorer_102 : decode cX11_poorer 102 = .ok (.iaload, 1) := by decide +kernel
theorem dX11_poorer_103 : decode cX11_poorer 103 = .ok (.iload 7, 2) := by decide +kernel
theorem dX11_poorer_105 : decode cX11_poorer 105 = .ok (.isub, 1) := by decide +kernel
theorem dX11_poorer_106 : decode cX11_poorer 106 = .ok (.iastore, 1) := by decide +kernel
theorem dX11_poorer_107 : decode cX11_poorer 107 = .ok (.aload_n 0, 1) := by decide +kernel
theorem dX11_poorer_108 : decode cX11_poorer 108 = .ok (.getfield 9, 3) := by decide +kernel
theorem dX11_poorer_111 : decode cX11_poorer 111 = .ok (.iload 5, 2) := by decide +kernel
theorem dX11_poorer_113 : decode cX11_poorer 113 = .ok (.dup2, 1) := by decide +kernel
theorem dX11_poorer_114 : decode cX11_poorer 114 = .ok (.iaload, 1) := by decide +kernel
theorem dX11_poorer_115 : decode cX11_poorer 115 = .ok (.iload 7, 2) := by decide +kernel
theorem dX11_poorer_117 : decode cX11_poorer 117 = .ok (.iadd, 1) := by decide +kernel
theorem dX11_poorer_118 : decode cX11_poorer 118 = .ok (.iastore, 1) := by decide +kernel
theorem dX11_poorer_119 : decode cX11_poorer 119 = .ok (.aload_n 0, 1) := by decide +kernel
theorem dX11_poorer_120 : decode cX11_poorer 120 = .ok (.iload_n 1, 1) := by decide +kernel
theorem dX11_poorer_121 : decode cX11_poorer 121 = .ok (.iload_n 2, 1) := by decide +kernel
theorem dX11_poorer_122 : decode cX11_poorer 122 = .ok (.invokevirtual 285, 3) := by decide +kernel
theorem dX11_poorer_125 : decode cX11_poorer 125 = .ok (.istore 8, 2) := by decide +kernel
theorem dX11_poorer_127 : decode cX11_poorer 127 = .ok (.aload_n 0, 1) := by decide +kernel
theorem dX11_poorer_128 : decode cX11_poorer 128 = .ok (.getfield 9, 3) := by decide +kernel
theorem dX11_poorer_131 : decode cX11_poorer 131 = .ok (.iload_n 1, 1) := by decide +kernel
theorem dX11_poorer_132 : decode cX11_poorer 132 = .ok (.dup2, 1) := by decide +kernel
theorem dX11_poorer_133 : decode cX11_poorer 133 = .ok (.iaload, 1) := by decide +kernel
theorem dX11_poorer_134 : decode cX11_poorer 134 = .ok (.iload 7, 2) := by decide +kernel
theorem dX11_poorer_136 : decode cX11_poorer 136 = .ok (.iadd, 1) := by decide +kernel
theorem dX11_poorer_137 : decode cX11_poorer 137 = .ok (.iastore, 1) := by decide +kernel
theorem dX11_poorer_138 : decode cX11_poorer 138 = .ok (.aload_n 0, 1) := by decide +kernel
theorem dX11_poorer_139 : decode cX11_poorer 139 = .ok (.getfield 9, 3) := by decide +kernel
theorem dX11_poorer_142 : decode cX11_poorer 142 = .ok (.iload 5, 2) := by decide +kernel
theorem dX11_poorer_144 : decode cX11_poorer 144 = .ok (.dup2, 1) := by decide +kernel
theorem dX11_poorer_145 : decode cX11_poorer 145 = .ok (.iaload, 1) := by decide +kernel
theorem dX11_poorer_146 : decode cX11_poorer 146 = .ok (.iload 7, 2) := by decide +kernel
theorem dX11_poorer_148 : decode cX11_poorer 148 = .ok (.isub, 1) := by decide +kernel
theorem dX11_poorer_149 : decode cX11_poorer 149 = .ok (.iastore, 1) := by decide +kernel
theorem dX11_poorer_150 : decode cX11_poorer 150 = .ok (.iload 8, 2) := by decide +kernel
theorem dX11_poorer_152 : decode cX11_poorer 152 = .ok (.ifCond .ne 6, 3) := by decide +kernel
theorem dX11_poorer_155 : decode cX11_poorer 155 = .ok (.goto 13, 3) := by decide +kernel
theorem dX11_poorer_158 : decode cX11_poorer 158 = .ok (.iload 7, 2) := by decide +kernel
theorem dX11_poorer_160 : decode cX11_poorer 160 = .ok (.istore_n 3, 1) := by decide +kernel
theorem dX11_poorer_161 : decode cX11_poorer 161 = .ok (.iload 5, 2) := by decide +kernel
theorem dX11_poorer_163 : decode cX11_poorer 163 = .ok (.istore 4, 2) := by decide +kernel
theorem dX11_poorer_165 : decode cX11_poorer 165 = .ok (.goto 9, 3) := by decide +kernel
theorem dX11_poorer_168 : decode cX11_poorer 168 = .ok (.iinc 7 1, 3) := by decide +kernel
theorem dX11_poorer_171 : decode cX11_poorer 171 = .ok (.goto (-82), 3) := by decide +kernel
theorem dX11_poorer_174 : decode cX11_poorer 174 = .ok (.iinc 5 1, 3) := by decide +kernel
theorem dX11_poorer_177 : decode cX11_poorer 177 = .ok (.goto (-134), 3) := by decide +kernel
theorem dX11_poorer_180 : decode cX11_poorer 180 = .ok (.iload_n 3, 1) := by decide +kernel
theorem dX11_poorer_181 : decode cX11_poorer 181 = .ok (.ifCond .ge 6, 3) := by decide +kernel
theorem dX11_poorer_184 : decode cX11_poorer 184 = .ok (.bipush (-2), 2) := by decide +kernel
theorem dX11_poorer_186 : decode cX11_poorer 186 = .ok (.ireturn, 1) := by decide +kernel
theorem dX11_poorer_187 : decode cX11_poorer 187 = .ok (.aload_n 0, 1) := by decide +kernel
theorem dX11_poorer_188 : decode cX11_poorer 188 = .ok (.iconst 0, 1) := by decide +kernel
theorem dX11_poorer_189 : decode cX11_poorer 189 = .ok (.putfield 129, 3) := by decide +kernel
theorem dX11_poorer_192 : decode cX11_poorer 192 = .ok (.aload_n 0, 1) := by decide +kernel
theorem dX11_poorer_193 : decode cX11_poorer 193 = .ok (.iload 4, 2) := by decide +kernel
theorem dX11_poorer_195 : decode cX11_poorer 195 = .ok (.i2l, 1) := by decide +kernel
theorem dX11_poorer_196 : decode cX11_poorer 196 = .ok (.invokevirtual 294, 3) := by decide +kernel
theorem dX11_poorer_199 : decode cX11_poorer 199 = .ok (.iload_n 3, 1) := by decide +kernel
theorem dX11_poorer_200 : decode cX11_poorer 200 = .ok (.ireturn, 1) := by decide +kernel
theorem dX11_load_0 : decode cX11_load 0 = .ok (.iconst 0, 1) := by decide +kernel
theorem dX11_load_1 : decode cX11_load 1 = .ok (.istore_n 2, 1) := by decide +kernel
theorem dX11_load_2 : decode cX11_load 2 = .ok (.iload_n 2, 1) := by decide +kernel
theorem dX11_load_3 : decode cX11_load 3 = .ok (.aload_n 0, 1) := by decide +kernel
theorem dX11_load_4 : decode cX11_load 4 = .ok (.getfield 132, 3) := by decide +kernel
theorem dX11_load_7 : decode cX11_load 7 = .ok (.if_icmp .ge 26, 3) := by decide +kernel
theorem dX11_load_10 : decode cX11_load 10 = .ok (.aload_n 0, 1) := by decide +kernel
theorem dX11_load_11 : decode cX11_load 11 = .ok (.getfield 9, 3) := by decide +kernel
theorem dX11_load_14 : decode cX11_load 14 = .ok (.iload_n 2, 1) := by decide +kernel
theorem dX11_load_15 : decode cX11_load 15 = .ok (.aload_n 0, 1) := by decide +kernel
theorem dX11_load_16 : decode cX11_load 16 = .ok (.getfield 77, 3) := by decide +kernel
theorem dX11_load_19 : decode cX11_load 19 = .ok (.bipush 8, 2) := by decide +kernel
theorem dX11_load_21 : decode cX11_load 21 = .ok (.iload_n 1, 1) := by decide +kernel
theorem dX11_load_22 : decode cX11_load 22 = .ok (.imul, 1) := by decide +kernel
theorem dX11_load_23 : decode cX11_load 23 = .ok (.iload_n 2, 1) := by decide +kernel
theorem dX11_load_24 : decode cX11_load 24 = .ok (.iadd, 1) := by decide +kernel
theorem dX11_load_25 : decode cX11_load 25 = .ok (.iaload, 1) := by decide +kernel
theorem dX11_load_26 : decode cX11_load 26 = .ok (.iastore, 1) := by decide +kernel
theorem dX11_load_27 : decode cX11_load 27 = .ok (.iinc 2 1, 3) := by decide +kernel
theorem dX11_load_30 : decode cX11_load 30 = .ok (.goto (-28), 3) := by decide +kernel
theorem dX11_load_33 : decode cX11_load 33 = .ok (.return_, 1) := by decide +kernel
theorem dX11_isState_0 : decode cX11_isState 0 = .ok (.aload_n 0, 1) := by decide +kernel
theorem dX11_isState_1 : decode cX11_isState 1 = .ok (.getfield 74, 3) := by decide +kernel
theorem dX11_isState_4 : decode cX11_isState 4 = .ok (.iload_n 1, 1) := by decide +kernel
theorem dX11_isState_5 : decode cX11_isState 5 = .ok (.iaload, 1) := by decide +kernel
theorem dX11_isState_6 : decode cX11_isState 6 = .ok (.iload_n 2, 1) := by decide +kernel
theorem dX11_isState_7 : decode cX11_isState 7 = .ok (.if_icmp .eq 5, 3) := by decide +kernel
theorem dX11_isState_10 : decode cX11_isState 10 = .ok (.iconst 0, 1) := by decide +kernel
theorem dX11_isState_11 : decode cX11_isState 11 = .ok (.ireturn, 1) := by decide +kernel
theorem dX11_isState_12 : decode cX11_isState 12 = .ok (.iconst 0, 1) := by decide +kernel
theorem dX11_isState_13 : decode cX11_isState 13 = .ok (.istore_n 3, 1) := by decide +kernel
theorem dX11_isState_14 : decode cX11_isState 14 = .ok (.iload_n 3, 1) := by decide +kernel
theorem dX11_isState_15 : decode cX11_isState 15 = .ok (.aload_n 0, 1) := by decide +kernel
theorem dX11_isState_16 : decode cX11_isState 16 = .ok (.getfield 132, 3) := by decide +kernel
theorem dX11_isState_19 : decode cX11_isState 19 = .ok (.if_icmp .ge 31, 3) := by decide +kernel
theorem dX11_isState_22 : decode cX11_isState 22 = .ok (.aload_n 0, 1) := by decide +kernel
theorem dX11_isState_23 : decode cX11_isState 23 = .ok (.getfield 77, 3) := by decide +kernel
theorem dX11_isState_26 : decode cX11_isState 26 = .ok (.bipush 8, 2) := by decide +kernel
theorem dX11_isState_28 : decode cX11_isState 28 = .ok (.iload_n 1, 1) := by decide +kernel
theorem dX11_isState_29 : decode cX11_isState 29 = .ok (.imul, 1) := by decide +kernel
theorem dX11_isState_30 : decode cX11_isState 30 = .ok (.iload_n 3, 1) := by decide +kernel
theorem dX11_isState_31 : decode cX11_isState 31 = .ok (.iadd, 1) := by decide +kernel
theorem dX11_isState_32 : decode cX11_isState 32 = .ok (.iaload, 1) := by decide +kernel
theorem dX11_isState_33 : decode cX11_isState 33 = .ok (.aload_n 0, 1) := by decide +kernel
theorem dX11_isState_34 : decode cX11_isState 34 = .ok (.getfield 9, 3) := by decide +kernel
theorem dX11_isState_37 : decode cX11_isState 37 = .ok (.iload_n 3, 1) := by decide +kernel
theorem dX11_isState_38 : decode cX11_isState 38 = .ok (.iaload, 1) := by decide +kernel
theorem dX11_isState_39 : decode cX11_isState 39 = .ok (.if_icmp .eq 5, 3) := by decide +kernel
theorem dX11_isState_42 : decode cX11_isState 42 = .ok (.iconst 0, 1) := by decide +kernel
theorem dX11_isState_43 : decode cX11_isState 43 = .ok (.ireturn, 1) := by decide +kernel
theorem dX11_isState_44 : decode cX11_isState 44 = .ok (.iinc 3 1, 3) := by decide +kernel
theorem dX11_isState_47 : decode cX11_isState 47 = .ok (.goto (-33), 3) := by decide +kernel
theorem dX11_isState_50 : decode cX11_isState 50 = .ok (.iconst 1, 1) := by decide +kernel
theorem dX11_isState_51 : decode cX11_isState 51 = .ok (.ireturn, 1) := by decide +kernel
theorem dX11_stateOf_0 : decode cX11_stateOf 0 = .ok (.iload_n 1, 1) := by decide +kernel
theorem dX11_stateOf_1 : decode cX11_stateOf 1 = .ok (.istore_n 2, 1) := by decide +kernel
theorem dX11_stateOf_2 : decode cX11_stateOf 2 = .ok (.iconst 0, 1) := by decide +kernel
theorem dX11_stateOf_3 : decode cX11_stateOf 3 = .ok (.istore_n 3, 1) := by decide +kernel
theorem dX11_stateOf_4 : decode cX11_stateOf 4 = .ok (.iload_n 3, 1) := by decide +kernel
theorem dX11_stateOf_5 : decode cX11_stateOf 5 = .ok (.aload_n 0, 1) := by decide +kernel
theorem dX11_stateOf_6 : decode cX11_stateOf 6 = .ok (.getfield 132, 3) := by decide +kernel
theorem dX11_stateOf_9 : decode cX11_stateOf 9 = .ok (.if_icmp .ge 21, 3) := by decide +kernel
theorem dX11_stateOf_12 : decode cX11_stateOf 12 = .ok (.bipush 31, 2) := by decide +kernel
theorem dX11_stateOf_14 : decode cX11_stateOf 14 = .ok (.iload_n 2, 1) := by decide +kernel
theorem dX11_stateOf_15 : decode cX11_stateOf 15 = .ok (.imul, 1) := by decide +kernel
theorem dX11_stateOf_16 : decode cX11_stateOf 16 = .ok (.aload_n 0, 1) := by decide +kernel
theorem dX11_stateOf_17 : decode cX11_stateOf 17 = .ok (.getfield 9, 3) := by decide +kernel
theorem dX11_stateOf_20 : decode cX11_stateOf 20 = .ok (.iload_n 3, 1) := by decide +kernel
theorem dX11_stateOf_21 : decode cX11_stateOf 21 = .ok (.iaload, 1) := by decide +kernel
theorem dX11_stateOf_22 : decode cX11_stateOf 22 = .ok (.iadd, 1) := by decide +kernel
theorem dX11_stateOf_23 : decode cX11_stateOf 23 = .ok (.istore_n 2, 1) := by decide +kernel
theorem dX11_stateOf_24 : decode cX11_stateOf 24 = .ok (.iinc 3 1, 3) := by decide +kernel
theorem dX11_stateOf_27 : decode cX11_stateOf 27 = .ok (.goto (-23), 3) := by decide +kernel
theorem dX11_stateOf_30 : decode cX11_stateOf 30 = .ok (.iload_n 2, 1) := by decide +kernel
theorem dX11_stateOf_31 : decode cX11_stateOf 31 = .ok (.iload_n 2, 1) := by decide +kernel
theorem dX11_stateOf_32 : decode cX11_stateOf 32 = .ok (.bipush 11, 2) := by decide +kernel
theorem dX11_stateOf_34 : decode cX11_stateOf 34 = .ok (.iushr, 1) := by decide +kernel
theorem dX11_stateOf_35 : decode cX11_stateOf 35 = .ok (.ixor, 1) := by decide +kernel
theorem dX11_stateOf_36 : decode cX11_stateOf 36 = .ok (.sipush 8191, 3) := by decide +kernel
theorem dX11_stateOf_39 : decode cX11_stateOf 39 = .ok (.iand, 1) := by decide +kernel
theorem dX11_stateOf_40 : decode cX11_stateOf 40 = .ok (.istore_n 3, 1) := by decide +kernel
theorem dX11_stateOf_41 : decode cX11_stateOf 41 = .ok (.aload_n 0, 1) := by decide +kernel
theorem dX11_stateOf_42 : decode cX11_stateOf 42 = .ok (.getfield 102, 3) := by decide +kernel
theorem dX11_stateOf_45 : decode cX11_stateOf 45 = .ok (.iload_n 3, 1) := by decide +kernel
theorem dX11_stateOf_46 : decode cX11_stateOf 46 = .ok (.iaload, 1) := by decide +kernel
theorem dX11_stateOf_47 : decode cX11_stateOf 47 = .ok (.ifCond .eq 30, 3) := by decide +kernel
theorem dX11_stateOf_50 : decode cX11_stateOf 50 = .ok (.aload_n 0, 1) := by decide +kernel
theorem dX11_stateOf_51 : decode cX11_stateOf 51 = .ok (.aload_n 0, 1) := by decide +kernel
theorem dX11_stateOf_52 : decode cX11_stateOf 52 = .ok (.getfield 102, 3) := by decide +kernel
theorem dX11_stateOf_55 : decode cX11_stateOf 55 = .ok (.iload_n 3, 1) := by decide +kernel
theorem dX11_stateOf_56 : decode cX11_stateOf 56 = .ok (.iaload, 1) := by decide +kernel
theorem dX11_stateOf_57 : decode cX11_stateOf 57 = .ok (.iconst 1, 1) := by decide +kernel
theorem dX11_stateOf_58 : decode cX11_stateOf 58 = .ok (.isub, 1) := by decide +kernel
theorem dX11_stateOf_59 : decode cX11_stateOf 59 = .ok (.iload_n 1, 1) := by decide +kernel
theorem dX11_stateOf_60 : decode cX11_stateOf 60 = .ok (.invokevirtual 322, 3) := by decide +kernel
theorem dX11_stateOf_63 : decode cX11_stateOf 63 = .ok (.ifCond .ne 14, 3) := by decide +kernel
theorem dX11_stateOf_66 : decode cX11_stateOf 66 = .ok (.iload_n 3, 1) := by decide +kernel
theorem dX11_stateOf_67 : decode cX11_stateOf 67 = .ok (.iconst 1, 1) := by decide +kernel
theorem dX11_stateOf_68 : decode cX11_stateOf 68 = .ok (.iadd, 1) := by decide +kernel
theorem dX11_stateOf_69 : decode cX11_stateOf 69 = .ok (.sipush 8191, 3) := by decide +kernel
theorem dX11_stateOf_72 : decode cX11_stateOf 72 = .ok (.iand, 1) := by decide +kernel
theorem dX11_stateOf_73 : decode cX11_stateOf 73 = .ok (.istore_n 3, 1) := by decide +kernel
theorem dX11_stateOf_74 : decode cX11_stateOf 74 = .ok (.goto (-33), 3) := by decide +kernel
theorem dX11_stateOf_77 : decode cX11_stateOf 77 = .ok (.aload_n 0, 1) := by decide +kernel
theorem dX11_stateOf_78 : decode cX11_stateOf 78 = .ok (.getfield 102, 3) := by decide +kernel
theorem dX11_stateOf_81 : decode cX11_stateOf 81 = .ok (.iload_n 3, 1) := by decide +kernel
theorem dX11_stateOf_82 : decode cX11_stateOf 82 = .ok (.iaload, 1) := by decide +kernel
theorem dX11_stateOf_83 : decode cX11_stateOf 83 = .ok (.ifCond .eq 12, 3) := by decide +kernel
theorem dX11_stateOf_86 : decode cX11_stateOf 86 = .ok (.aload_n 0, 1) := by decide +kernel
theorem dX11_stateOf_87 : decode cX11_stateOf 87 = .ok (.getfield 102, 3) := by decide +kernel
theorem dX11_stateOf_90 : decode cX11_stateOf 90 = .ok (.iload_n 3, 1) := by decide +kernel
theorem dX11_stateOf_91 : decode cX11_stateOf 91 = .ok (.iaload, 1) := by decide +kernel
theorem dX11_stateOf_92 : decode cX11_stateOf 92 = .ok (.iconst 1, 1) := by decide +kernel
theorem dX11_stateOf_93 : decode cX11_stateOf 93 = .ok (.isub, 1) := by decide +kernel
theorem dX11_stateOf_94 : decode cX11_stateOf 94 = .ok (.ireturn, 1) := by decide +kernel
theorem dX11_stateOf_95 : decode cX11_stateOf 95 = .ok (.aload_n 0, 1) := by decide +kernel
theorem dX11_stateOf_96 : decode cX11_stateOf 96 = .ok (.getfield 325, 3) := by decide +kernel
theorem dX11_stateOf_99 : decode cX11_stateOf 99 = .ok (.sipush 3000, 3) := by decide +kernel
theorem dX11_stateOf_102 : decode cX11_stateOf 102 = .ok (.if_icmp .ne 5, 3) := by decide +kernel
theorem dX11_stateOf_105 : decode cX11_stateOf 105 = .ok (.iconst (-1), 1) := by decide +kernel
theorem dX11_stateOf_106 : decode cX11_stateOf 106 = .ok (.ireturn, 1) := by decide +kernel
theorem dX11_stateOf_107 : decode cX11_stateOf 107 = .ok (.aload_n 0, 1) := by decide +kernel
theorem dX11_stateOf_108 : decode cX11_stateOf 108 = .ok (.getfield 74, 3) := by decide +kernel
theorem dX11_stateOf_111 : decode cX11_stateOf 111 = .ok (.aload_n 0, 1) := by decide +kernel
theorem dX11_stateOf_112 : decode cX11_stateOf 112 = .ok (.getfield 325, 3) := by decide +kernel
theorem dX11_stateOf_115 : decode cX11_stateOf 115 = .ok (.iload_n 1, 1) := by decide +kernel
theorem dX11_stateOf_116 : decode cX11_stateOf 116 = .ok (.iastore, 1) := by decide +kernel
theorem dX11_stateOf_117 : decode cX11_stateOf 117 = .ok (.iconst 0, 1) := by decide +kernel
theorem dX11_stateOf_118 : decode cX11_stateOf 118 = .ok (.istore 4, 2) := by decide +kernel
theorem dX11_stateOf_120 : decode cX11_stateOf 120 = .ok (.iload 4, 2) := by decide +kernel
theorem dX11_stateOf_122 : decode cX11_stateOf 122 = .ok (.aload_n 0, 1) := by decide +kernel
theorem dX11_stateOf_123 : decode cX11_stateOf 123 = .ok (.getfield 132, 3) := by decide +kernel
theorem dX11_stateOf_126 : decode cX11_stateOf 126 = .ok (.if_icmp .ge 31, 3) := by decide +kernel
theorem dX11_stateOf_129 : decode cX11_stateOf 129 = .ok (.aload_n 0, 1) := by decide +kernel
theorem dX11_stateOf_130 : decode cX11_stateOf 130 = .ok (.getfield 77, 3) := by decide +kernel
theorem dX11_stateOf_133 : decode cX11_stateOf 133 = .ok (.bipush 8, 2) := by decide +kernel
theorem dX11_stateOf_135 : decode cX11_stateOf 135 = .ok (.aload_n 0, 1) := by decide +kernel
theorem dX11_stateOf_136 : decode cX11_stateOf 136 = .ok (.getfield 325, 3) := by decide +kernel
theorem dX11_stateOf_139 : decode cX11_stateOf 139 = .ok (.imul, 1) := by decide +kernel
theorem dX11_stateOf_140 : decode cX11_stateOf 140 = .ok (.iload 4, 2) := by decide +kernel
theorem dX11_stateOf_142 : decode cX11_stateOf 142 = .ok (.iadd, 1) := by decide +kernel
theorem dX11_stateOf_143 : decode cX11_stateOf 143 = .ok (.aload_n 0, 1) := by decide +kernel
theorem dX11_stateOf_144 : decode cX11_stateOf 144 = .ok (.getfield 9, 3) := by decide +kernel
theorem dX11_stateOf_147 : decode cX11_stateOf 147 = .ok (.iload 4, 2) := by decide +kernel
theorem dX11_stateOf_149 : decode cX11_stateOf 149 = .ok (.iaload, 1) := by decide +kernel
theorem dX11_stateOf_150 : decode cX11_stateOf 150 = .ok (.iastore, 1) := by decide +kernel
theorem dX11_stateOf_151 : decode cX11_stateOf 151 = .ok (.iinc 4 1, 3) := by decide +kernel
theorem dX11_stateOf_154 : decode cX11_stateOf 154 = .ok (.goto (-34), 3) := by decide +kernel
theorem dX11_stateOf_157 : decode cX11_stateOf 157 = .ok (.aload_n 0, 1) := by decide +kernel
theorem dX11_stateOf_158 : decode cX11_stateOf 158 = .ok (.getfield 87, 3) := by decide +kernel
theorem dX11_stateOf_161 : decode cX11_stateOf 161 = .ok (.aload_n 0, 1) := by decide +kernel
theorem dX11_stateOf_162 : decode cX11_stateOf 162 = .ok (.getfield 325, 3) := by decide +kernel
theorem dX11_stateOf_165 : decode cX11_stateOf 165 = .ok (.iconst (-1), 1) := by decide +kernel
theorem dX11_stateOf_166 : decode cX11_stateOf 166 = .ok (.iastore, 1) := by decide +kernel
theorem dX11_stateOf_167 : decode cX11_stateOf 167 = .ok (.aload_n 0, 1) := by decide +kernel
theorem dX11_stateOf_168 : decode cX11_stateOf 168 = .ok (.getfield 96, 3) := by decide +kernel
theorem dX11_stateOf_171 : decode cX11_stateOf 171 = .ok (.aload_n 0, 1) := by decide +kernel
theorem dX11_stateOf_172 : decode cX11_stateOf 172 = .ok (.getfield 325, 3) := by decide +kernel
theorem dX11_stateOf_175 : decode cX11_stateOf 175 = .ok (.lconst 0, 1) := by decide +kernel
theorem dX11_stateOf_176 : decode cX11_stateOf 176 = .ok (.lastore, 1) := by decide +kernel
theorem dX11_stateOf_177 : decode cX11_stateOf 177 = .ok (.aload_n 0, 1) := by decide +kernel
theorem dX11_stateOf_178 : decode cX11_stateOf 178 = .ok (.dup, 1) := by decide +kernel
theorem dX11_stateOf_179 : decode cX11_stateOf 179 = .ok (.getfield 325, 3) := by decide +kernel
theorem dX11_stateOf_182 : decode cX11_stateOf 182 = .ok (.iconst 1, 1) := by decide +kernel
theorem dX11_stateOf_183 : decode cX11_stateOf 183 = .ok (.iadd, 1) := by decide +kernel
theorem dX11_stateOf_184 : decode cX11_stateOf 184 = .ok (.putfield 325, 3) := by decide +kernel
theorem dX11_stateOf_187 : decode cX11_stateOf 187 = .ok (.aload_n 0, 1) := by decide +kernel
theorem dX11_stateOf_188 : decode cX11_stateOf 188 = .ok (.getfield 102, 3) := by decide +kernel
theorem dX11_stateOf_191 : decode cX11_stateOf 191 = .ok (.iload_n 3, 1) := by decide +kernel
theorem dX11_stateOf_192 : decode cX11_stateOf 192 = .ok (.aload_n 0, 1) := by decide +kernel
theorem dX11_stateOf_193 : decode cX11_stateOf 193 = .ok (.getfield 325, 3) := by decide +kernel
theorem dX11_stateOf_196 : decode cX11_stateOf 196 = .ok (.iastore, 1) := by decide +kernel
theorem dX11_stateOf_197 : decode cX11_stateOf 197 = .ok (.aload_n 0, 1) := by decide +kernel
theorem dX11_stateOf_198 : decode cX11_stateOf 198 = .ok (.getfield 325, 3) := by decide +kernel
theorem dX11_stateOf_201 : decode cX11_stateOf 201 = .ok (.iconst 1, 1) := by decide +kernel
theorem dX11_stateOf_202 : decode cX11_stateOf 202 = .ok (.isub, 1) := by decide +kernel
theorem dX11_stateOf_203 : decode cX11_stateOf 203 = .ok (.ireturn, 1) := by decide +kernel
theorem dX11_isDay_0 : decode cX11_isDay 0 = .ok (.iload_n 0, 1) := by decide +kernel
theorem dX11_isDay_1 : decode cX11_isDay 1 = .ok (.i2l, 1) := by decide +kernel
theorem dX11_isDay_2 : decode cX11_isDay 2 = .ok (.lconst 0, 1) := by decide +kernel
theorem dX11_isDay_3 : decode cX11_isDay 3 = .ok (.ldc2_w 265, 3) := by decide +kernel
theorem dX11_isDay_6 : decode cX11_isDay 6 = .ok (.invokestatic 135, 3) := by decide +kernel
theorem dX11_isDay_9 : decode cX11_isDay 9 = .ok (.ireturn, 1) := by decide +kernel
theorem dX11_dueBy_0 : decode cX11_dueBy 0 = .ok (.iconst 0, 1) := by decide +kernel
theorem dX11_dueBy_1 : decode cX11_dueBy 1 = .ok (.istore_n 2, 1) := by decide +kernel
theorem dX11_dueBy_2 : decode cX11_dueBy 2 = .ok (.iconst 0, 1) := by decide +kernel
theorem dX11_dueBy_3 : decode cX11_dueBy 3 = .ok (.istore_n 3, 1) := by decide +kernel
theorem dX11_dueBy_4 : decode cX11_dueBy 4 = .ok (.iload_n 3, 1) := by decide +kernel
theorem dX11_dueBy_5 : decode cX11_dueBy 5 = .ok (.aload_n 0, 1) := by decide +kernel
theorem dX11_dueBy_6 : decode cX11_dueBy 6 = .ok (.getfield 139, 3) := by decide +kernel
theorem dX11_dueBy_9 : decode cX11_dueBy 9 = .ok (.if_icmp .ge 38, 3) := by decide +kernel
theorem dX11_dueBy_12 : decode cX11_dueBy 12 = .ok (.iload_n 2, 1) := by decide +kernel
theorem dX11_dueBy_13 : decode cX11_dueBy 13 = .ok (.aload_n 0, 1) := by decide +kernel
theorem dX11_dueBy_14 : decode cX11_dueBy 14 = .ok (.getfield 41, 3) := by decide +kernel
theorem dX11_dueBy_17 : decode cX11_dueBy 17 = .ok (.iload_n 3, 1) := by decide +kernel
theorem dX11_dueBy_18 : decode cX11_dueBy 18 = .ok (.iaload, 1) := by decide +kernel
theorem dX11_dueBy_19 : decode cX11_dueBy 19 = .ok (.ifCond .ne 19, 3) := by decide +kernel
theorem dX11_dueBy_22 : decode cX11_dueBy 22 = .ok (.aload_n 0, 1) := by decide +kernel
theorem dX11_dueBy_23 : decode cX11_dueBy 23 = .ok (.getfield 38, 3) := by decide +kernel
theorem dX11_dueBy_26 : decode cX11_dueBy 26 = .ok (.iload_n 3, 1) := by decide +kernel
theorem dX11_dueBy_27 : decode cX11_dueBy 27 = .ok (.iaload, 1) := by decide +kernel
theorem dX11_dueBy_28 : decode cX11_dueBy 28 = .ok (.iload_n 1, 1) := by decide +kernel
theorem dX11_dueBy_29 : decode cX11_dueBy 29 = .ok (.if_icmp .gt 9, 3) := by decide +kernel
theorem dX11_dueBy_32 : decode cX11_dueBy 32 = .ok (.iconst 1, 1) := by decide +kernel
theorem dX11_dueBy_33 : decode cX11_dueBy 33 = .ok (.iload_n 3, 1) := by decide +kernel
theorem dX11_dueBy_34 : decode cX11_dueBy 34 = .ok (.ishl, 1) := by decide +kernel
theorem dX11_dueBy_35 : decode cX11_dueBy 35 = .ok (.goto 4, 3) := by decide +kernel
theorem dX11_dueBy_38 : decode cX11_dueBy 38 = .ok (.iconst 0, 1) := by decide +kernel
theorem dX11_dueBy_39 : decode cX11_dueBy 39 = .ok (.ior, 1) := by decide +kernel
theorem dX11_dueBy_40 : decode cX11_dueBy 40 = .ok (.istore_n 2, 1) := by decide +kernel
theorem dX11_dueBy_41 : decode cX11_dueBy 41 = .ok (.iinc 3 1, 3) := by decide +kernel
theorem dX11_dueBy_44 : decode cX11_dueBy 44 = .ok (.goto (-40), 3) := by decide +kernel
theorem dX11_dueBy_47 : decode cX11_dueBy 47 = .ok (.iload_n 2, 1) := by decide +kernel
theorem dX11_dueBy_48 : decode cX11_dueBy 48 = .ok (.ireturn, 1) := by decide +kernel
theorem dX11_findStates_0 : decode cX11_findStates 0 = .ok (.iconst 0, 1) := by decide +kernel
theorem dX11_findStates_1 : decode cX11_findStates 1 = .ok (.istore_n 2, 1) := by decide +kernel
theorem dX11_findStates_2 : decode cX11_findStates 2 = .ok (.iload_n 2, 1) := by decide +kernel
theorem dX11_findStates_3 : decode cX11_findStates 3 = .ok (.sipush 8192, 3) := by decide +kernel
theorem dX11_findStates_6 : decode cX11_findStates 6 = .ok (.if_icmp .ge 16, 3) := by decide +kernel
theorem dX11_findStates_9 : decode cX11_findStates 9 = .ok (.aload_n 0, 1) := by decide +kernel
theorem dX11_findStates_10 : decode cX11_findStates 10 = .ok (.getfield 102, 3) := by decide +kernel
theorem dX11_findStates_13 : decode cX11_findStates 13 = .ok (.iload_n 2, 1) := by decide +kernel
theorem dX11_findStates_14 : decode cX11_findStates 14 = .ok (.iconst 0, 1) := by decide +kernel
theorem dX11_findStates_15 : decode cX11_findStates 15 = .ok (.iastore, 1) := by decide +kernel
theorem dX11_findStates_16 : decode cX11_findStates 16 = .ok (.iinc 2 1, 3) := by decide +kernel
theorem dX11_findStates_19 : decode cX11_findStates 19 = .ok (.goto (-17), 3) := by decide +kernel
theorem dX11_findStates_22 : decode cX11_findStates 22 = .ok (.aload_n 0, 1) := by decide +kernel
theorem dX11_findStates_23 : decode cX11_findStates 23 = .ok (.iconst 0, 1) := by decide +kernel
theorem dX11_findStates_24 : decode cX11_findStates 24 = .ok (.putfield 325, 3) := by decide +kernel
theorem dX11_findStates_27 : decode cX11_findStates 27 = .ok (.aload_n 0, 1) := by decide +kernel
theorem dX11_findStates_28 : decode cX11_findStates 28 = .ok (.aload_n 0, 1) := by decide +kernel
theorem dX11_findStates_29 : decode cX11_findStates 29 = .ok (.iload_n 1, 1) := by decide +kernel
theorem dX11_findStates_30 : decode cX11_findStates 30 = .ok (.invokevirtual 328, 3) := by decide +kernel
theorem dX11_findStates_33 : decode cX11_findStates 33 = .ok (.putfield 331, 3) := by decide +kernel
theorem dX11_findStates_36 : decode cX11_findStates 36 = .ok (.iconst 0, 1) := by decide +kernel
theorem dX11_findStates_37 : decode cX11_findStates 37 = .ok (.istore_n 2, 1) := by decide +kernel
theorem dX11_findStates_38 : decode cX11_findStates 38 = .ok (.iload_n 2, 1) := by decide +kernel
theorem dX11_findStates_39 : decode cX11_findStates 39 = .ok (.aload_n 0, 1) := by decide +kernel
theorem dX11_findStates_40 : decode cX11_findStates 40 = .ok (.getfield 132, 3) := by decide +kernel
theorem dX11_findStates_43 : decode cX11_findStates 43 = .ok (.if_icmp .ge 21, 3) := by decide +kernel
theorem dX11_findStates_46 : decode cX11_findStates 46 = .ok (.aload_n 0, 1) := by decide +kernel
theorem dX11_findStates_47 : decode cX11_findStates 47 = .ok (.getfield 105, 3) := by decide +kernel
theorem dX11_findStates_50 : decode cX11_findStates 50 = .ok (.iload_n 2, 1) := by decide +kernel
theorem dX11_findStates_51 : decode cX11_findStates 51 = .ok (.aload_n 0, 1) := by decide +kernel
theorem dX11_findStates_52 : decode cX11_findStates 52 = .ok (.getfield 9, 3) := by decide +kernel
theorem dX11_findStates_55 : decode cX11_findStates 55 = .ok (.iload_n 2, 1) := by decide +kernel
theorem dX11_findStates_56 : decode cX11_findStates 56 = .ok (.iaload, 1) := by decide +kernel
theorem dX11_findStates_57 : decode cX11_findStates 57 = .ok (.iastore, 1) := by decide +kernel
theorem dX11_findStates_58 : decode cX11_findStates 58 = .ok (.iinc 2 1, 3) := by decide +kernel
theorem dX11_findStates_61 : decode cX11_findStates 61 = .ok (.goto (-23), 3) := by decide +kernel
theorem dX11_findStates_64 : decode cX11_findStates 64 = .ok (.aload_n 0, 1) := by decide +kernel
theorem dX11_findStates_65 : decode cX11_findStates 65 = .ok (.iconst 0, 1) := by decide +kernel
theorem dX11_findStates_66 : decode cX11_findStates 66 = .ok (.invokevirtual 334, 3) := by decide +kernel
theorem dX11_findStates_69 : decode cX11_findStates 69 = .ok (.pop, 1) := by decide +kernel
theorem dX11_findStates_70 : decode cX11_findStates 70 = .ok (.aload_n 0, 1) := by decide +kernel
theorem dX11_findStates_71 : decode cX11_findStates 71 = .ok (.getfield 84, 3) := by decide +kernel
theorem dX11_findStates_74 : decode cX11_findStates 74 = .ok (.iconst 0, 1) := by decide +kernel
theorem dX11_findStates_75 : decode cX11_findStates 75 = .ok (.iconst 0, 1) := by decide +kernel
theorem dX11_findStates_76 : decode cX11_findStates 76 = .ok (.iastore, 1) := by decide +kernel
theorem dX11_findStates_77 : decode cX11_findStates 77 = .ok (.aload_n 0, 1) := by decide +kernel
theorem dX11_findStates_78 : decode cX11_findStates 78 = .ok (.getfield 93, 3) := by decide +kernel
theorem dX11_findStates_81 : decode cX11_findStates 81 = .ok (.iconst 0, 1) := by decide +kernel
theorem dX11_findStates_82 : decode cX11_findStates 82 = .ok (.iconst 0, 1) := by decide +kernel
theorem dX11_findStates_83 : decode cX11_findStates 83 = .ok (.iastore, 1) := by decide +kernel
theorem dX11_findStates_84 : decode cX11_findStates 84 = .ok (.aload_n 0, 1) := by decide +kernel
theorem dX11_findStates_85 : decode cX11_findStates 85 = .ok (.getfield 96, 3) := by decide +kernel
theorem dX11_findStates_88 : decode cX11_findStates 88 = .ok (.iconst 0, 1) := by decide +kernel
theorem dX11_findStates_89 : decode cX11_findStates 89 = .ok (.lconst 1, 1) := by decide +kernel
theorem dX11_findStates_90 : decode cX11_findStates 90 = .ok (.lastore, 1) := by decide +kernel
theorem dX11_findStates_91 : decode cX11_findStates 91 = .ok (.iconst 1, 1) := by decide +kernel
theorem dX11_findStates_92 : decode cX11_findStates 92 = .ok (.istore_n 2, 1) := by decide +kernel
theorem dX11_findStates_93 : decode cX11_findStates 93 = .ok (.iconst 0, 1) := by decide +kernel
theorem dX11_findStates_94 : decode cX11_findStates 94 = .ok (.istore_n 3, 1) := by decide +kernel
theorem dX11_findStates_95 : decode cX11_findStates 95 = .ok (.iload_n 3, 1) := by decide +kernel
theorem dX11_findStates_96 : decode cX11_findStates 96 = .ok (.aload_n 0, 1) := by decide +kernel
theorem dX11_findStates_97 : decode cX11_findStates 97 = .ok (.getfield 325, 3) := by decide +kernel
theorem dX11_findStates_100 : decode cX11_findStates 100 = .ok (.if_icmp .ge 277, 3) := by decide +kernel
theorem dX11_findStates_103 : decode cX11_findStates 103 = .ok (.iload_n 2, 1) := by decide +kernel
theorem dX11_findStates_104 : decode cX11_findStates 104 = .ok (.ifCond .eq 273, 3) := by decide +kernel
theorem dX11_findStates_107 : decode cX11_findStates 107 = .ok (.iload_n 3, 1) := by decide +kernel
theorem dX11_findStates_108 : decode cX11_findStates 108 = .ok (.ifCond .le 31, 3) := by decide +kernel
theorem dX11_findStates_111 : decode cX11_findStates 111 = .ok (.aload_n 0, 1) := by decide +kernel
theorem dX11_findStates_112 : decode cX11_findStates 112 = .ok (.getfield 74, 3) := by decide +kernel
theorem dX11_findStates_115 : decode cX11_findStates 115 = .ok (.iload_n 3, 1) := by decide +kernel
theorem dX11_findStates_116 : decode cX11_findStates 116 = .ok (.iaload, 1) := by decide +kernel
theorem dX11_findStates_117 : decode cX11_findStates 117 = .ok (.invokestatic 337, 3) := by decide +kernel
theorem dX11_findStates_120 : decode cX11_findStates 120 = .ok (.aload_n 0, 1) := by decide +kernel
theorem dX11_findStates_121 : decode cX11_findStates 121 = .ok (.getfield 74, 3) := by decide +kernel
theorem dX11_findStates_124 : decode cX11_findStates 124 = .ok (.iload_n 3, 1) := by decide +kernel
theorem dX11_findStates_125 : decode cX11_findStates 125 = .ok (.iconst 1, 1) := by decide +kernel
theorem dX11_findStates_126 : decode cX11_findStates 126 = .ok (.isub, 1) := by decide +kernel
theorem dX11_findStates_127 : decode cX11_findStates 127 = .ok (.iaload, 1) := by decide +kernel
theorem dX11_findStates_128 : decode cX11_findStates 128 = .ok (.invokestatic 337, 3) := by decide +kernel
theorem dX11_findStates_131 : decode cX11_findStates 131 = .ok (.if_icmp .eq 8, 3) := by decide +kernel
theorem dX11_findStates_134 : decode cX11_findStates 134 = .ok (.aload_n 0, 1) := by decide +kernel
theorem dX11_findStates_135 : decode cX11_findStates 135 = .ok (.iload_n 3, 1) := by decide +kernel
theorem dX11_findStates_136 : decode cX11_findStates 136 = .ok (.invokevirtual 342, 3) := by decide +kernel
theorem dX11_findStates_139 : decode cX11_findStates 139 = .ok (.iconst 0, 1) := by decide +kernel
theorem dX11_findStates_140 : decode cX11_findStates 140 = .ok (.istore 4, 2) := by decide +kernel
theorem dX11_findStates_142 : decode cX11_findStates 142 = .ok (.iload 4, 2) := by decide +kernel
theorem dX11_findStates_144 : decode cX11_findStates 144 = .ok (.bipush 80, 2) := by decide +kernel
theorem dX11_findStates_146 : decode cX11_findStates 146 = .ok (.if_icmp .ge 225, 3) := by decide +kernel
theorem dX11_findStates_149 : decode cX11_findStates 149 = .ok (.iload_n 2, 1) := by decide +kernel
theorem dX11_findStates_150 : decode cX11_findStates 150 = .ok (.ifCond .eq 221, 3) := by decide +kernel
theorem dX11_findStates_153 : decode cX11_findStates 153 = .ok (.aload_n 0, 1) := by decide +kernel
theorem dX11_findStates_154 : decode cX11_findStates 154 = .ok (.getfield 81, 3) := by decide +kernel
theorem dX11_findStates_157 : decode cX11_findStates 157 = .ok (.bipush 80, 2) := by decide +kernel
theorem dX11_findStates_159 : decode cX11_findStates 159 = .ok (.iload_n 3, 1) := by decide +kernel
theorem dX11_findStates_160 : decode cX11_findStates 160 = .ok (.imul, 1) := by decide +kernel
theorem dX11_findStates_161 : decode cX11_findStates 161 = .ok (.iload 4, 2) := by decide +kernel
theorem dX11_findStates_163 : decode cX11_findStates 163 = .ok (.iadd, 1) := by decide +kernel
theorem dX11_findStates_164 : decode cX11_findStates 164 = .ok (.iconst (-1), 1) := by decide +kernel
theorem dX11_findStates_165 : decode cX11_findStates 165 = .ok (.iastore, 1) := by decide +kernel
theorem dX11_findStates_166 : decode cX11_findStates 166 = .ok (.iload 4, 2) := by decide +kernel
theorem dX11_findStates_168 : decode cX11_findStates 168 = .ok (.bipush 8, 2) := by decide +kernel
theorem dX11_findStates_170 : decode cX11_findStates 170 = .ok (.idiv, 1) := by decide +kernel
theorem dX11_findStates_171 : decode cX11_findStates 171 = .ok (.istore 5, 2) := by decide +kernel
theorem dX11_findStates_173 : decode cX11_findStates 173 = .ok (.iload 4, 2) := by decide +kernel
theorem dX11_findStates_175 : decode cX11_findStates 175 = .ok (.bipush 8, 2) := by decide +kernel
theorem dX11_findStates_177 : decode cX11_findStates 177 = .ok (.irem, 1) := by decide +kernel
theorem dX11_findStates_178 : decode cX11_findStates 178 = .ok (.istore 6, 2) := by decide +kernel
theorem dX11_findStates_180 : decode cX11_findStates 180 = .ok (.aload_n 0, 1) := by decide +kernel
theorem dX11_findStates_181 : decode cX11_findStates 181 = .ok (.getfield 331, 3) := by decide +kernel
theorem dX11_findStates_184 : decode cX11_findStates 184 = .ok (.aload_n 0, 1) := by decide +kernel
theorem dX11_findStates_185 : decode cX11_findStates 185 = .ok (.getfield 74, 3) := by decide +kernel
theorem dX11_findStates_188 : decode cX11_findStates 188 = .ok (.iload_n 3, 1) := by decide +kernel
theorem dX11_findStates_189 : decode cX11_findStates 189 = .ok (.iaload, 1) := by decide +kernel
theorem dX11_findStates_190 : decode cX11_findStates 190 = .ok (.iconst (-1), 1) := by decide +kernel
theorem dX11_findStates_191 : decode cX11_findStates 191 = .ok (.ixor, 1) := by decide +kernel
theorem dX11_findStates_192 : decode cX11_findStates 192 = .ok (.iand, 1) := by decide +kernel
theorem dX11_findStates_193 : decode cX11_findStates 193 = .ok (.iload 5, 2) := by decide +kernel
theorem dX11_findStates_195 : decode cX11_findStates 195 = .ok (.invokestatic 291, 3) := by decide +kernel
theorem dX11_findStates_198 : decode cX11_findStates 198 = .ok (.ifCond .eq 167, 3) := by decide +kernel
theorem dX11_findStates_201 : decode cX11_findStates 201 = .ok (.iload 6, 2) := by decide +kernel
theorem dX11_findStates_203 : decode cX11_findStates 203 = .ok (.aload_n 0, 1) := by decide +kernel
theorem dX11_findStates_204 : decode cX11_findStates 204 = .ok (.getfield 132, 3) := by decide +kernel
theorem dX11_findStates_207 : decode cX11_findStates 207 = .ok (.if_icmp .lt 6, 3) := by decide +kernel
theorem dX11_findStates_210 : decode cX11_findStates 210 = .ok (.goto 155, 3) := by decide +kernel
theorem dX11_findStates_213 : decode cX11_findStates 213 = .ok (.aload_n 0, 1) := by decide +kernel
theorem dX11_findStates_214 : decode cX11_findStates 214 = .ok (.iload_n 3, 1) := by decide +kernel
theorem dX11_findStates_215 : decode cX11_findStates 215 = .ok (.invokevirtual 345, 3) := by decide +kernel
theorem dX11_findStates_218 : decode cX11_findStates 218 = .ok (.aload_n 0, 1) := by decide +kernel
theorem dX11_findStates_219 : decode cX11_findStates 219 = .ok (.iload 6, 2) := by decide +kernel
theorem dX11_findStates_221 : decode cX11_findStates 221 = .ok (.iload 5, 2) := by decide +kernel
theorem dX11_findStates_223 : decode cX11_findStates 223 = .ok (.invokevirtual 285, 3) := by decide +kernel
theorem dX11_findStates_226 : decode cX11_findStates 226 = .ok (.ifCond .ne 6, 3) := by decide +kernel
theorem dX11_findStates_229 : decode cX11_findStates 229 = .ok (.goto 136, 3) := by decide +kernel
theorem dX11_findStates_232 : decode cX11_findStates 232 = .ok (.aload_n 0, 1) := by decide +kernel
theorem dX11_findStates_233 : decode cX11_findStates 233 = .ok (.getfield 84, 3) := by decide +kernel
theorem dX11_findStates_236 : decode cX11_findStates 236 = .ok (.iload_n 3, 1) := by decide +kernel
theorem dX11_findStates_237 : decode cX11_findStates 237 = .ok (.iaload, 1) := by decide +kernel
theorem dX11_findStates_238 : decode cX11_findStates 238 = .ok (.aload_n 0, 1) := by decide +kernel
theorem dX11_findStates_239 : decode cX11_findStates 239 = .ok (.iload 6, 2) := by decide +kernel
theorem dX11_findStates_241 : decode cX11_findStates 241 = .ok (.iload 5, 2) := by decide +kernel
theorem dX11_findStates_243 : decode cX11_findStates 243 = .ok (.invokevirtual 231, 3) := by decide +kernel
theorem dX11_findStates_246 : decode cX11_findStates 246 = .ok (.iadd, 1) := by decide +kernel
theorem dX11_findStates_247 : decode cX11_findStates 247 = .ok (.istore 7, 2) := by decide +kernel
theorem dX11_findStates_249 : decode cX11_findStates 249 = .ok (.aload_n 0, 1) := by decide +kernel
theorem dX11_findStates_250 : decode cX11_findStates 250 = .ok (.getfield 9, 3) := by decide +kernel
theorem dX11_findStates_253 : decode cX11_findStates 253 = .ok (.iload 6, 2) := by decide +kernel
theorem dX11_findStates_255 : decode cX11_findStates 255 = .ok (.dup2, 1) := by decide +kernel
theorem dX11_findStates_256 : decode cX11_findStates 256 = .ok (.iaload, 1) := by decide +kernel
theorem dX11_findStates_257 : decode cX11_findStates 257 = .ok (.aload_n 0, 1) := by decide +kernel
theorem dX11_findStates_258 : decode cX11_findStates 258 = .ok (.getfield 35, 3) := by decide +kernel
theorem dX11_findStates_261 : decode cX11_findStates 261 = .ok (.iload 5, 2) := by decide +kernel
theorem dX11_findStates_263 : decode cX11_findStates 263 = .ok (.iaload, 1) := by decide +kernel
theorem dX11_findStates_264 : decode cX11_findStates 264 = .ok (.isub, 1) := by decide +kernel
theorem dX11_findStates_265 : decode cX11_findStates 265 = .ok (.iastore, 1) := by decide +kernel
theorem dX11_findStates_266 : decode cX11_findStates 266 = .ok (.aload_n 0, 1) := by decide +kernel
theorem dX11_findStates_267 : decode cX11_findStates 267 = .ok (.getfield 9, 3) := by decide +kernel
theorem dX11_findStates_270 : decode cX11_findStates 270 = .ok (.aload_n 0, 1) := by decide +kernel
theorem dX11_findStates_271 : decode cX11_findStates 271 = .ok (.getfield 32, 3) := by decide +kernel
theorem dX11_findStates_274 : decode cX11_findStates 274 = .ok (.iload 5, 2) := by decide +kernel
theorem dX11_findStates_276 : decode cX11_findStates 276 = .ok (.iaload, 1) := by decide +kernel
theorem dX11_findStates_277 : decode cX11_findStates 277 = .ok (.dup2, 1) := by decide +kernel
theorem dX11_findStates_278 : decode cX11_findStates 278 = .ok (.iaload, 1) := by decide +kernel
theorem dX11_findStates_279 : decode cX11_findStates 279 = .ok (.aload_n 0, 1) := by decide +kernel
theorem dX11_findStates_280 : decode cX11_findStates 280 = .ok (.getfield 35, 3) := by decide +kernel
theorem dX11_findStates_283 : decode cX11_findStates 283 = .ok (.iload 5, 2) := by decide +kernel
theorem dX11_findStates_285 : decode cX11_findStates 285 = .ok (.iaload, 1) := by decide +kernel
theorem dX11_findStates_286 : decode cX11_findStates 286 = .ok (.iadd, 1) := by decide +kernel
theorem dX11_findStates_287 : decode cX11_findStates 287 = .ok (.iastore, 1) := by decide +kernel
theorem dX11_findStates_288 : decode cX11_findStates 288 = .ok (.aload_n 0, 1) := by decide +kernel
theorem dX11_findStates_289 : decode cX11_findStates 289 = .ok (.aload_n 0, 1) := by decide +kernel
theorem dX11_findStates_290 : decode cX11_findStates 290 = .ok (.getfield 74, 3) := by decide +kernel
theorem dX11_findStates_293 : decode cX11_findStates 293 = .ok (.iload_n 3, 1) := by decide +kernel
theorem dX11_findStates_294 : decode cX11_findStates 294 = .ok (.iaload, 1) := by decide +kernel
theorem dX11_findStates_295 : decode cX11_findStates 295 = .ok (.iconst 1, 1) := by decide +kernel
theorem dX11_findStates_296 : decode cX11_findStates 296 = .ok (.iload 5, 2) := by decide +kernel
theorem dX11_findStates_298 : decode cX11_findStates 298 = .ok (.ishl, 1) := by decide +kernel
theorem dX11_findStates_299 : decode cX11_findStates 299 = .ok (.ior, 1) := by decide +kernel
theorem dX11_findStates_300 : decode cX11_findStates 300 = .ok (.invokevirtual 334, 3) := by decide +kernel
theorem dX11_findStates_303 : decode cX11_findStates 303 = .ok (.istore 8, 2) := by decide +kernel
theorem dX11_findStates_305 : decode cX11_findStates 305 = .ok (.iload 8, 2) := by decide +kernel
theorem dX11_findStates_307 : decode cX11_findStates 307 = .ok (.iconst (-1), 1) := by decide +kernel
theorem dX11_findStates_308 : decode cX11_findStates 308 = .ok (.if_icmp .eq 7, 3) := by decide +kernel
theorem dX11_findStates_311 : decode cX11_findStates 311 = .ok (.iconst 1, 1) := by decide +kernel
theorem dX11_findStates_312 : decode cX11_findStates 312 = .ok (.goto 4, 3) := by decide +kernel
theorem dX11_findStates_315 : decode cX11_findStates 315 = .ok (.iconst 0, 1) := by decide +kernel
theorem dX11_findStates_316 : decode cX11_findStates 316 = .ok (.istore_n 2, 1) := by decide +kernel
theorem dX11_findStates_317 : decode cX11_findStates 317 = .ok (.iload_n 2, 1) := by decide +kernel
theorem dX11_findStates_318 : decode cX11_findStates 318 = .ok (.ifCond .ne 6, 3) := by decide +kernel
theorem dX11_findStates_321 : decode cX11_findStates 321 = .ok (.goto 44, 3) := by decide +kernel
theorem dX11_findStates_324 : decode cX11_findStates 324 = .ok (.aload_n 0, 1) := by decide +kernel
theorem dX11_findStates_325 : decode cX11_findStates 325 = .ok (.getfield 81, 3) := by decide +kernel
theorem dX11_findStates_328 : decode cX11_findStates 328 = .ok (.bipush 80, 2) := by decide +kernel
theorem dX11_findStates_330 : decode cX11_findStates 330 = .ok (.iload_n 3, 1) := by decide +kernel
theorem dX11_findStates_331 : decode cX11_findStates 331 = .ok (.imul, 1) := by decide +kernel
theorem dX11_findStates_332 : decode cX11_findStates 332 = .ok (.iload 4, 2) := by decide +kernel
theorem dX11_findStates_334 : decode cX11_findStates 334 = .ok (.iadd, 1) := by decide +kernel
theorem dX11_findStates_335 : decode cX11_findStates 335 = .ok (.iload 8, 2) := by decide +kernel
theorem dX11_findStates_337 : decode cX11_findStates 337 = .ok (.iastore, 1) := by decide +kernel
theorem dX11_findStates_338 : decode cX11_findStates 338 = .ok (.aload_n 0, 1) := by decide +kernel
theorem dX11_findStates_339 : decode cX11_findStates 339 = .ok (.getfield 96, 3) := by decide +kernel
theorem dX11_findStates_342 : decode cX11_findStates 342 = .ok (.iload 8, 2) := by decide +kernel
theorem dX11_findStates_344 : decode cX11_findStates 344 = .ok (.dup2, 1) := by decide +kernel
theorem dX11_findStates_345 : decode cX11_findStates 345 = .ok (.laload, 1) := by decide +kernel
theorem dX11_findStates_346 : decode cX11_findStates 346 = .ok (.aload_n 0, 1) := by decide +kernel
theorem dX11_findStates_347 : decode cX11_findStates 347 = .ok (.getfield 96, 3) := by decide +kernel
theorem dX11_findStates_350 : decode cX11_findStates 350 = .ok (.iload_n 3, 1) := by decide +kernel
theorem dX11_findStates_351 : decode cX11_findStates 351 = .ok (.laload, 1) := by decide +kernel
theorem dX11_findStates_352 : decode cX11_findStates 352 = .ok (.ladd, 1) := by decide +kernel
theorem dX11_findStates_353 : decode cX11_findStates 353 = .ok (.lastore, 1) := by decide +kernel
theorem dX11_findStates_354 : decode cX11_findStates 354 = .ok (.aload_n 0, 1) := by decide +kernel
theorem dX11_findStates_355 : decode cX11_findStates 355 = .ok (.iload_n 3, 1) := by decide +kernel
theorem dX11_findStates_356 : decode cX11_findStates 356 = .ok (.iload 4, 2) := by decide +kernel
theorem dX11_findStates_358 : decode cX11_findStates 358 = .ok (.iload 8, 2) := by decide +kernel
theorem dX11_findStates_360 : decode cX11_findStates 360 = .ok (.iload 7, 2) := by decide +kernel
theorem dX11_findStates_362 : decode cX11_findStates 362 = .ok (.invokevirtual 348, 3) := by decide +kernel
theorem dX11_findStates_365 : decode cX11_findStates 365 = .ok (.iinc 4 1, 3) := by decide +kernel
theorem dX11_findStates_368 : decode cX11_findStates 368 = .ok (.goto (-226), 3) := by decide +kernel
theorem dX11_findStates_371 : decode cX11_findStates 371 = .ok (.iinc 3 1, 3) := by decide +kernel
theorem dX11_findStates_374 : decode cX11_findStates 374 = .ok (.goto (-279), 3) := by decide +kernel
theorem dX11_findStates_377 : decode cX11_findStates 377 = .ok (.iconst 0, 1) := by decide +kernel
theorem dX11_findStates_378 : decode cX11_findStates 378 = .ok (.istore_n 3, 1) := by decide +kernel
theorem dX11_findStates_379 : decode cX11_findStates 379 = .ok (.iload_n 3, 1) := by decide +kernel
theorem dX11_findStates_380 : decode cX11_findStates 380 = .ok (.aload_n 0, 1) := by decide +kernel
theorem dX11_findStates_381 : decode cX11_findStates 381 = .ok (.getfield 132, 3) := by decide +kernel
theorem dX11_findStates_384 : decode cX11_findStates 384 = .ok (.if_icmp .ge 21, 3) := by decide +kernel
theorem dX11_findStates_387 : decode cX11_findStates 387 = .ok (.aload_n 0, 1) := by decide +kernel
theorem dX11_findStates_388 : decode cX11_findStates 388 = .ok (.getfield 9, 3) := by decide +kernel
theorem dX11_findStates_391 : decode cX11_findStates 391 = .ok (.iload_n 3, 1) := by decide +kernel
theorem dX11_findStates_392 : decode cX11_findStates 392 = .ok (.aload_n 0, 1) := by decide +kernel
theorem dX11_findStates_393 : decode cX11_findStates 393 = .ok (.getfield 105, 3) := by decide +kernel
theorem dX11_findStates_396 : decode cX11_findStates 396 = .ok (.iload_n 3, 1) := by decide +kernel
theorem dX11_findStates_397 : decode cX11_findStates 397 = .ok (.iaload, 1) := by decide +kernel
theorem dX11_findStates_398 : decode cX11_findStates 398 = .ok (.iastore, 1) := by decide +kernel
theorem dX11_findStates_399 : decode cX11_findStates 399 = .ok (.iinc 3 1, 3) := by decide +kernel
theorem dX11_findStates_402 : decode cX11_findStates 402 = .ok (.goto (-23), 3) := by decide +kernel
theorem dX11_findStates_405 : decode cX11_findStates 405 = .ok (.iload_n 2, 1) := by decide +kernel
theorem dX11_findStates_406 : decode cX11_findStates 406 = .ok (.ireturn, 1) := by decide +kernel
theorem dX11_lead_0 : decode cX11_lead 0 = .ok (.aload_n 0, 1) := by decide +kernel
theorem dX11_lead_1 : decode cX11_lead 1 = .ok (.getfield 87, 3) := by decide +kernel
theorem dX11_lead_4 : decode cX11_lead 4 = .ok (.iload_n 3, 1) := by decide +kernel
theorem dX11_lead_5 : decode cX11_lead 5 = .ok (.iaload, 1) := by decide +kernel
theorem dX11_lead_6 : decode cX11_lead 6 = .ok (.iconst (-1), 1) := by decide +kernel
theorem dX11_lead_7 : decode cX11_lead 7 = .ok (.if_icmp .eq 65, 3) := by decide +kernel
theorem dX11_lead_10 : decode cX11_lead 10 = .ok (.iload 4, 2) := by decide +kernel
theorem dX11_lead_12 : decode cX11_lead 12 = .ok (.aload_n 0, 1) := by decide +kernel
theorem dX11_lead_13 : decode cX11_lead 13 = .ok (.getfield 84, 3) := by decide +kernel
theorem dX11_lead_16 : decode cX11_lead 16 = .ok (.iload_n 3, 1) := by decide +kernel
theorem dX11_lead_17 : decode cX11_lead 17 = .ok (.iaload, 1) := by decide +kernel
theorem dX11_lead_18 : decode cX11_lead 18 = .ok (.if_icmp .lt 54, 3) := by decide +kernel
theorem dX11_lead_21 : decode cX11_lead 21 = .ok (.iload 4, 2) := by decide +kernel
theorem dX11_lead_23 : decode cX11_lead 23 = .ok (.aload_n 0, 1) := by decide +kernel
theorem dX11_lead_24 : decode cX11_lead 24 = .ok (.getfield 84, 3) := by decide +kernel
theorem dX11_lead_27 : decode cX11_lead 27 = .ok (.iload_n 3, 1) := by decide +kernel
theorem dX11_lead_28 : decode cX11_lead 28 = .ok (.iaload, 1) := by decide +kernel
theorem dX11_lead_29 : decode cX11_lead 29 = .ok (.if_icmp .ne 47, 3) := by decide +kernel
theorem dX11_lead_32 : decode cX11_lead 32 = .ok (.aload_n 0, 1) := by decide +kernel
theorem dX11_lead_33 : decode cX11_lead 33 = .ok (.getfield 93, 3) := by decide +kernel
theorem dX11_lead_36 : decode cX11_lead 36 = .ok (.iload_n 1, 1) := by decide +kernel
theorem dX11_lead_37 : decode cX11_lead 37 = .ok (.iaload, 1) := by decide +kernel
theorem dX11_lead_38 : decode cX11_lead 38 = .ok (.aload_n 0, 1) := by decide +kernel
theorem dX11_lead_39 : decode cX11_lead 39 = .ok (.getfield 93, 3) := by decide +kernel
theorem dX11_lead_42 : decode cX11_lead 42 = .ok (.aload_n 0, 1) := by decide +kernel
theorem dX11_lead_43 : decode cX11_lead 43 = .ok (.getfield 87, 3) := by decide +kernel
theorem dX11_lead_46 : decode cX11_lead 46 = .ok (.iload_n 3, 1) := by decide +kernel
theorem dX11_lead_47 : decode cX11_lead 47 = .ok (.iaload, 1) := by decide +kernel
theorem dX11_lead_48 : decode cX11_lead 48 = .ok (.iaload, 1) := by decide +kernel
theorem dX11_lead_49 : decode cX11_lead 49 = .ok (.if_icmp .lt 23, 3) := by decide +kernel
theorem dX11_lead_52 : decode cX11_lead 52 = .ok (.iload_n 1, 1) := by decide +kernel
theorem dX11_lead_53 : decode cX11_lead 53 = .ok (.aload_n 0, 1) := by decide +kernel
theorem dX11_lead_54 : decode cX11_lead 54 = .ok (.getfield 87, 3) := by decide +kernel
theorem dX11_lead_57 : decode cX11_lead 57 = .ok (.iload_n 3, 1) := by decide +kernel
theorem dX11_lead_58 : decode cX11_lead 58 = .ok (.iaload, 1) := by decide +kernel
theorem dX11_lead_59 : decode cX11_lead 59 = .ok (.if_icmp .ne 17, 3) := by decide +kernel
theorem dX11_lead_62 : decode cX11_lead 62 = .ok (.iload_n 2, 1) := by decide +kernel
theorem dX11_lead_63 : decode cX11_lead 63 = .ok (.aload_n 0, 1) := by decide +kernel
theorem dX11_lead_64 : decode cX11_lead 64 = .ok (.getfield 90, 3) := by decide +kernel
theorem dX11_lead_67 : decode cX11_lead 67 = .ok (.iload_n 3, 1) := by decide +kernel
theorem dX11_lead_68 : decode cX11_lead 68 = .ok (.iaload, 1) := by decide +kernel
theorem dX11_lead_69 : decode cX11_lead 69 = .ok (.if_icmp .ge 7, 3) := by decide +kernel
theorem dX11_lead_72 : decode cX11_lead 72 = .ok (.iconst 1, 1) := by decide +kernel
theorem dX11_lead_73 : decode cX11_lead 73 = .ok (.goto 4, 3) := by decide +kernel
theorem dX11_lead_76 : decode cX11_lead 76 = .ok (.iconst 0, 1) := by decide +kernel
theorem dX11_lead_77 : decode cX11_lead 77 = .ok (.istore 5, 2) := by decide +kernel
theorem dX11_lead_79 : decode cX11_lead 79 = .ok (.iload 5, 2) := by decide +kernel
theorem dX11_lead_81 : decode cX11_lead 81 = .ok (.ifCond .ne 4, 3) := by decide +kernel
theorem dX11_lead_84 : decode cX11_lead 84 = .ok (.return_, 1) := by decide +kernel
theorem dX11_lead_85 : decode cX11_lead 85 = .ok (.aload_n 0, 1) := by decide +kernel
theorem dX11_lead_86 : decode cX11_lead 86 = .ok (.getfield 84, 3) := by decide +kernel
theorem dX11_lead_89 : decode cX11_lead 89 = .ok (.iload_n 3, 1) := by decide +kernel
theorem dX11_lead_90 : decode cX11_lead 90 = .ok (.iload 4, 2) := by decide +kernel
theorem dX11_lead_92 : decode cX11_lead 92 = .ok (.iastore, 1) := by decide +kernel
theorem dX11_lead_93 : decode cX11_lead 93 = .ok (.aload_n 0, 1) := by decide +kernel
theorem dX11_lead_94 : decode cX11_lead 94 = .ok (.getfield 87, 3) := by decide +kernel
theorem dX11_lead_97 : decode cX11_lead 97 = .ok (.iload_n 3, 1) := by decide +kernel
theorem dX11_lead_98 : decode cX11_lead 98 = .ok (.iload_n 1, 1) := by decide +kernel
theorem dX11_lead_99 : decode cX11_lead 99 = .ok (.iastore, 1) := by decide +kernel
theorem dX11_lead_100 : decode cX11_lead 100 = .ok (.aload_n 0, 1) := by decide +kernel
theorem dX11_lead_101 : decode cX11_lead 101 = .ok (.getfield 90, 3) := by decide +kernel
theorem dX11_lead_104 : decode cX11_lead 104 = .ok (.iload_n 3, 1) := by decide +kernel
theorem dX11_lead_105 : decode cX11_lead 105 = .ok (.iload_n 2, 1) := by decide +kernel
theorem dX11_lead_106 : decode cX11_lead 106 = .ok (.iastore, 1) := by decide +kernel
theorem dX11_lead_107 : decode cX11_lead 107 = .ok (.return_, 1) := by decide +kernel
theorem dX11_isRowLess_0 : decode cX11_isRowLess 0 = .ok (.aload_n 0, 1) := by decide +kernel
theorem dX11_isRowLess_1 : decode cX11_isRowLess 1 = .ok (.getfield 87, 3) := by decide +kernel
theorem dX11_isRowLess_4 : decode cX11_isRowLess 4 = .ok (.iload_n 1, 1) := by decide +kernel
theorem dX11_isRowLess_5 : decode cX11_isRowLess 5 = .ok (.iaload, 1) := by decide +kernel
theorem dX11_isRowLess_6 : decode cX11_isRowLess 6 = .ok (.aload_n 0, 1) := by decide +kernel
theorem dX11_isRowLess_7 : decode cX11_isRowLess 7 = .ok (.getfield 87, 3) := by decide +kernel
theorem dX11_isRowLess_10 : decode cX11_isRowLess 10 = .ok (.iload_n 2, 1) := by decide +kernel
theorem dX11_isRowLess_11 : decode cX11_isRowLess 11 = .ok (.iaload, 1) := by decide +kernel
theorem dX11_isRowLess_12 : decode cX11_isRowLess 12 = .ok (.if_icmp .eq 34, 3) := by decide +kernel
theorem dX11_isRowLess_15 : decode cX11_isRowLess 15 = .ok (.aload_n 0, 1) := by decide +kernel
theorem dX11_isRowLess_16 : decode cX11_isRowLess 16 = .ok (.getfield 93, 3) := by decide +kernel
theorem dX11_isRowLess_19 : decode cX11_isRowLess 19 = .ok (.aload_n 0, 1) := by decide +kernel
theorem dX11_isRowLess_20 : decode cX11_isRowLess 20 = .ok (.getfield 87, 3) := by decide +kernel
theorem dX11_isRowLess_23 : decode cX11_isRowLess 23 = .ok (.iload_n 1, 1) := by decide +kernel
theorem dX11_isRowLess_24 : decode cX11_isRowLess 24 = .ok (.iaload, 1) := by decide +kernel
theorem dX11_isRowLess_25 : decode cX11_isRowLess 25 = .ok (.iaload, 1) := by decide +kernel
theorem dX11_isRowLess_26 : decode cX11_isRowLess 26 = .ok (.aload_n 0, 1) := by decide +kernel
theorem dX11_isRowLess_27 : decode cX11_isRowLess 27 = .ok (.getfield 93, 3) := by decide +kernel
theorem dX11_isRowLess_30 : decode cX11_isRowLess 30 = .ok (.aload_n 0, 1) := by decide +kernel
theorem dX11_isRowLess_31 : decode cX11_isRowLess 31 = .ok (.getfield 87, 3) := by decide +kernel
theorem dX11_isRowLess_34 : decode cX11_isRowLess 34 = .ok (.iload_n 2, 1) := by decide +kernel
theorem dX11_isRowLess_35 : decode cX11_isRowLess 35 = .ok (.iaload, 1) := by decide +kernel
theorem dX11_isRowLess_36 : decode cX11_isRowLess 36 = .ok (.iaload, 1) := by decide +kernel
theorem dX11_isRowLess_37 : decode cX11_isRowLess 37 = .ok (.if_icmp .ge 7, 3) := by decide +kernel
theorem dX11_isRowLess_40 : decode cX11_isRowLess 40 = .ok (.iconst 1, 1) := by decide +kernel
theorem dX11_isRowLess_41 : decode cX11_isRowLess 41 = .ok (.goto 4, 3) := by decide +kernel
theorem dX11_isRowLess_44 : decode cX11_isRowLess 44 = .ok (.iconst 0, 1) := by decide +kernel
theorem dX11_isRowLess_45 : decode cX11_isRowLess 45 = .ok (.ireturn, 1) := by decide +kernel
theorem dX11_isRowLess_46 : decode cX11_isRowLess 46 = .ok (.aload_n 0, 1) := by decide +kernel
theorem dX11_isRowLess_47 : decode cX11_isRowLess 47 = .ok (.getfield 90, 3) := by decide +kernel
theorem dX11_isRowLess_50 : decode cX11_isRowLess 50 = .ok (.iload_n 1, 1) := by decide +kernel
theorem dX11_isRowLess_51 : decode cX11_isRowLess 51 = .ok (.iaload, 1) := by decide +kernel
theorem dX11_isRowLess_52 : decode cX11_isRowLess 52 = .ok (.aload_n 0, 1) := by decide +kernel
theorem dX11_isRowLess_53 : decode cX11_isRowLess 53 = .ok (.getfield 90, 3) := by decide +kernel
theorem dX11_isRowLess_56 : decode cX11_isRowLess 56 = .ok (.iload_n 2, 1) := by decide +kernel
theorem dX11_isRowLess_57 : decode cX11_isRowLess 57 = .ok (.iaload, 1) := by decide +kernel
theorem dX11_isRowLess_58 : decode cX11_isRowLess 58 = .ok (.if_icmp .ge 7, 3) := by decide +kernel
theorem dX11_isRowLess_61 : decode cX11_isRowLess 61 = .ok (.iconst 1, 1) := by decide +kernel
theorem dX11_isRowLess_62 : decode cX11_isRowLess 62 = .ok (.goto 4, 3) := by decide +kernel
theorem dX11_isRowLess_65 : decode cX11_isRowLess 65 = .ok (.iconst 0, 1) := by decide +kernel
theorem dX11_isRowLess_66 : decode cX11_isRowLess 66 = .ok (.ireturn, 1) := by decide +kernel
theorem dX11_orderLayer_0 : decode cX11_orderLayer 0 = .ok (.iload_n 1, 1) := by decide +kernel
theorem dX11_orderLayer_1 : decode cX11_orderLayer 1 = .ok (.istore_n 2, 1) := by decide +kernel
theorem dX11_orderLayer_2 : decode cX11_orderLayer 2 = .ok (.iload_n 2, 1) := by decide +kernel
theorem dX11_orderLayer_3 : decode cX11_orderLayer 3 = .ok (.aload_n 0, 1) := by decide +kernel
theorem dX11_orderLayer_4 : decode cX11_orderLayer 4 = .ok (.getfield 325, 3) := by decide +kernel
theorem dX11_orderLayer_7 : decode cX11_orderLayer 7 = .ok (.if_icmp .ge 30, 3) := by decide +kernel
theorem dX11_orderLayer_10 : decode cX11_orderLayer 10 = .ok (.aload_n 0, 1) := by decide +kernel
theorem dX11_orderLayer_11 : decode cX11_orderLayer 11 = .ok (.getfield 74, 3) := by decide +kernel
theorem dX11_orderLayer_14 : decode cX11_orderLayer 14 = .ok (.iload_n 2, 1) := by decide +kernel
theorem dX11_orderLayer_15 : decode cX11_orderLayer 15 = .ok (.iaload, 1) := by decide +kernel
theorem dX11_orderLayer_16 : decode cX11_orderLayer 16 = .ok (.invokestatic 337, 3) := by decide +kernel
theorem dX11_orderLayer_19 : decode cX11_orderLayer 19 = .ok (.aload_n 0, 1) := by decide +kernel
theorem dX11_orderLayer_20 : decode cX11_orderLayer 20 = .ok (.getfield 74, 3) := by decide +kernel
theorem dX11_orderLayer_23 : decode cX11_orderLayer 23 = .ok (.iload_n 1, 1) := by decide +kernel
theorem dX11_orderLayer_24 : decode cX11_orderLayer 24 = .ok (.iaload, 1) := by decide +kernel
theorem dX11_orderLayer_25 : decode cX11_orderLayer 25 = .ok (.invokestatic 337, 3) := by decide +kernel
theorem dX11_orderLayer_28 : decode cX11_orderLayer 28 = .ok (.if_icmp .ne 9, 3) := by decide +kernel
theorem dX11_orderLayer_31 : decode cX11_orderLayer 31 = .ok (.iinc 2 1, 3) := by decide +kernel
theorem dX11_orderLayer_34 : decode cX11_orderLayer 34 = .ok (.goto (-32), 3) := by decide +kernel
theorem dX11_orderLayer_37 : decode cX11_orderLayer 37 = .ok (.iload_n 1, 1) := by decide +kernel
theorem dX11_orderLayer_38 : decode cX11_orderLayer 38 = .ok (.istore_n 3, 1) := by decide +kernel
theorem dX11_orderLayer_39 : decode cX11_orderLayer 39 = .ok (.iload_n 3, 1) := by decide +kernel
theorem dX11_orderLayer_40 : decode cX11_orderLayer 40 = .ok (.iload_n 2, 1) := by decide +kernel
theorem dX11_orderLayer_41 : decode cX11_orderLayer 41 = .ok (.if_icmp .ge 55, 3) := by decide +kernel
theorem dX11_orderLayer_44 : decode cX11_orderLayer 44 = .ok (.aload_n 0, 1) := by decide +kernel
theorem dX11_orderLayer_45 : decode cX11_orderLayer 45 = .ok (.getfield 93, 3) := by decide +kernel
theorem dX11_orderLayer_48 : decode cX11_orderLayer 48 = .ok (.iload_n 3, 1) := by decide +kernel
theorem dX11_orderLayer_49 : decode cX11_orderLayer 49 = .ok (.iconst 0, 1) := by decide +kernel
theorem dX11_orderLayer_50 : decode cX11_orderLayer 50 = .ok (.iastore, 1) := by decide +kernel
theorem dX11_orderLayer_51 : decode cX11_orderLayer 51 = .ok (.iload_n 1, 1) := by decide +kernel
theorem dX11_orderLayer_52 : decode cX11_orderLayer 52 = .ok (.istore 4, 2) := by decide +kernel
theorem dX11_orderLayer_54 : decode cX11_orderLayer 54 = .ok (.iload 4, 2) := by decide +kernel
theorem dX11_orderLayer_56 : decode cX11_orderLayer 56 = .ok (.iload_n 2, 1) := by decide +kernel
theorem dX11_orderLayer_57 : decode cX11_orderLayer 57 = .ok (.if_icmp .ge 33, 3) := by decide +kernel
theorem dX11_orderLayer_60 : decode cX11_orderLayer 60 = .ok (.aload_n 0, 1) := by decide +kernel
theorem dX11_orderLayer_61 : decode cX11_orderLayer 61 = .ok (.getfield 93, 3) := by decide +kernel
theorem dX11_orderLayer_64 : decode cX11_orderLayer 64 = .ok (.iload_n 3, 1) := by decide +kernel
theorem dX11_orderLayer_65 : decode cX11_orderLayer 65 = .ok (.dup2, 1) := by decide +kernel
theorem dX11_orderLayer_66 : decode cX11_orderLayer 66 = .ok (.iaload, 1) := by decide +kernel
theorem dX11_orderLayer_67 : decode cX11_orderLayer 67 = .ok (.aload_n 0, 1) := by decide +kernel
theorem dX11_orderLayer_68 : decode cX11_orderLayer 68 = .ok (.iload 4, 2) := by decide +kernel
theorem dX11_orderLayer_70 : decode cX11_orderLayer 70 = .ok (.iload_n 3, 1) := by decide +kernel
theorem dX11_orderLayer_71 : decode cX11_orderLayer 71 = .ok (.invokevirtual 352, 3) := by decide +kernel
theorem dX11_orderLayer_74 : decode cX11_orderLayer 74 = .ok (.ifCond .eq 7, 3) := by decide +kernel
theorem dX11_orderLayer_77 : decode cX11_orderLayer 77 = .ok (.iconst 1, 1) := by decide +kernel
theorem dX11_orderLayer_78 : decode cX11_orderLayer 78 = .ok (.goto 4, 3) := by decide +kernel
theorem dX11_orderLayer_81 : decode cX11_orderLayer 81 = .ok (.iconst 0, 1) := by decide +kernel
theorem dX11_orderLayer_82 : decode cX11_orderLayer 82 = .ok (.iadd, 1) := by decide +kernel
theorem dX11_orderLayer_83 : decode cX11_orderLayer 83 = .ok (.iastore, 1) := by decide +kernel
theorem dX11_orderLayer_84 : decode cX11_orderLayer 84 = .ok (.iinc 4 1, 3) := by decide +kernel
theorem dX11_orderLayer_87 : decode cX11_orderLayer 87 = .ok (.goto (-33), 3) := by decide +kernel
theorem dX11_orderLayer_90 : decode cX11_orderLayer 90 = .ok (.iinc 3 1, 3) := by decide +kernel
theorem dX11_orderLayer_93 : decode cX11_orderLayer 93 = .ok (.goto (-54), 3) := by decide +kernel
theorem dX11_orderLayer_96 : decode cX11_orderLayer 96 = .ok (.return_, 1) := by decide +kernel
theorem dX11_sumOf_0 : decode cX11_sumOf 0 = .ok (.iconst 0, 1) := by decide +kernel
theorem dX11_sumOf_1 : decode cX11_sumOf 1 = .ok (.istore_n 2, 1) := by decide +kernel
theorem dX11_sumOf_2 : decode cX11_sumOf 2 = .ok (.iconst 0, 1) := by decide +kernel
theorem dX11_sumOf_3 : decode cX11_sumOf 3 = .ok (.istore_n 3, 1) := by decide +kernel
theorem dX11_sumOf_4 : decode cX11_sumOf 4 = .ok (.iload_n 3, 1) := by decide +kernel
theorem dX11_sumOf_5 : decode cX11_sumOf 5 = .ok (.aload_n 0, 1) := by decide +kernel
theorem dX11_sumOf_6 : decode cX11_sumOf 6 = .ok (.getfield 139, 3) := by decide +kernel
theorem dX11_sumOf_9 : decode cX11_sumOf 9 = .ok (.if_icmp .ge 30, 3) := by decide +kernel
theorem dX11_sumOf_12 : decode cX11_sumOf 12 = .ok (.iload_n 2, 1) := by decide +kernel
theorem dX11_sumOf_13 : decode cX11_sumOf 13 = .ok (.iload_n 1, 1) := by decide +kernel
theorem dX11_sumOf_14 : decode cX11_sumOf 14 = .ok (.iload_n 3, 1) := by decide +kernel
theorem dX11_sumOf_15 : decode cX11_sumOf 15 = .ok (.invokestatic 291, 3) := by decide +kernel
theorem dX11_sumOf_18 : decode cX11_sumOf 18 = .ok (.ifCond .eq 12, 3) := by decide +kernel
theorem dX11_sumOf_21 : decode cX11_sumOf 21 = .ok (.aload_n 0, 1) := by decide +kernel
theorem dX11_sumOf_22 : decode cX11_sumOf 22 = .ok (.getfield 35, 3) := by decide +kernel
theorem dX11_sumOf_25 : decode cX11_sumOf 25 = .ok (.iload_n 3, 1) := by decide +kernel
theorem dX11_sumOf_26 : decode cX11_sumOf 26 = .ok (.iaload, 1) := by decide +kernel
theorem dX11_sumOf_27 : decode cX11_sumOf 27 = .ok (.goto 4, 3) := by decide +kernel
theorem dX11_sumOf_30 : decode cX11_sumOf 30 = .ok (.iconst 0, 1) := by decide +kernel
theorem dX11_sumOf_31 : decode cX11_sumOf 31 = .ok (.iadd, 1) := by decide +kernel
theorem dX11_sumOf_32 : decode cX11_sumOf 32 = .ok (.istore_n 2, 1) := by decide +kernel
theorem dX11_sumOf_33 : decode cX11_sumOf 33 = .ok (.iinc 3 1, 3) := by decide +kernel
theorem dX11_sumOf_36 : decode cX11_sumOf 36 = .ok (.goto (-32), 3) := by decide +kernel
theorem dX11_sumOf_39 : decode cX11_sumOf 39 = .ok (.iload_n 2, 1) := by decide +kernel
theorem dX11_sumOf_40 : decode cX11_sumOf 40 = .ok (.ireturn, 1) := by decide +kernel
theorem dX11_mostPaid_0 : decode cX11_mostPaid 0 = .ok (.iconst 0, 1) := by decide +kernel
theorem dX11_mostPaid_1 : decode cX11_mostPaid 1 = .ok (.istore_n 1, 1) := by decide +kernel
theorem dX11_mostPaid_2 : decode cX11_mostPaid 2 = .ok (.iconst 0, 1) := by decide +kernel
theorem dX11_mostPaid_3 : decode cX11_mostPaid 3 = .ok (.istore_n 2, 1) := by decide +kernel
theorem dX11_mostPaid_4 : decode cX11_mostPaid 4 = .ok (.iload_n 2, 1) := by decide +kernel
theorem dX11_mostPaid_5 : decode cX11_mostPaid 5 = .ok (.aload_n 0, 1) := by decide +kernel
theorem dX11_mostPaid_6 : decode cX11_mostPaid 6 = .ok (.getfield 325, 3) := by decide +kernel
theorem dX11_mostPaid_9 : decode cX11_mostPaid 9 = .ok (.if_icmp .ge 23, 3) := by decide +kernel
theorem dX11_mostPaid_12 : decode cX11_mostPaid 12 = .ok (.iload_n 1, 1) := by decide +kernel
theorem dX11_mostPaid_13 : decode cX11_mostPaid 13 = .ok (.aload_n 0, 1) := by decide +kernel
theorem dX11_mostPaid_14 : decode cX11_mostPaid 14 = .ok (.getfield 74, 3) := by decide +kernel
theorem dX11_mostPaid_17 : decode cX11_mostPaid 17 = .ok (.iload_n 2, 1) := by decide +kernel
theorem dX11_mostPaid_18 : decode cX11_mostPaid 18 = .ok (.iaload, 1) := by decide +kernel
theorem dX11_mostPaid_19 : decode cX11_mostPaid 19 = .ok (.invokestatic 337, 3) := by decide +kernel
theorem dX11_mostPaid_22 : decode cX11_mostPaid 22 = .ok (.invokestatic 272, 3) := by decide +kernel
theorem dX11_mostPaid_25 : decode cX11_mostPaid 25 = .ok (.istore_n 1, 1) := by decide +kernel
theorem dX11_mostPaid_26 : decode cX11_mostPaid 26 = .ok (.iinc 2 1, 3) := by decide +kernel
theorem dX11_mostPaid_29 : decode cX11_mostPaid 29 = .ok (.goto (-25), 3) := by decide +kernel
theorem dX11_mostPaid_32 : decode cX11_mostPaid 32 = .ok (.iload_n 1, 1) := by decide +kernel
theorem dX11_mostPaid_33 : decode cX11_mostPaid 33 = .ok (.ireturn, 1) := by decide +kernel
theorem dX11_most_0 : decode cX11_most 0 = .ok (.aload_n 0, 1) := by decide +kernel
theorem dX11_most_1 : decode cX11_most 1 = .ok (.iconst 0, 1) := by decide +kernel
theorem dX11_most_2 : decode cX11_most 2 = .ok (.putfield 126, 3) := by decide +kernel
theorem dX11_most_5 : decode cX11_most 5 = .ok (.iload_n 1, 1) := by decide +kernel
theorem dX11_most_6 : decode cX11_most 6 = .ok (.invokestatic 355, 3) := by decide +kernel
theorem dX11_most_9 : decode cX11_most 9 = .ok (.ifCond .ne 5, 3) := by decide +kernel
theorem dX11_most_12 : decode cX11_most 12 = .ok (.iconst (-1), 1) := by decide +kernel
theorem dX11_most_13 : decode cX11_most 13 = .ok (.ireturn, 1) := by decide +kernel
theorem dX11_most_14 : decode cX11_most 14 = .ok (.aload_n 0, 1) := by decide +kernel
theorem dX11_most_15 : decode cX11_most 15 = .ok (.iload_n 1, 1) := by decide +kernel
theorem dX11_most_16 : decode cX11_most 16 = .ok (.invokevirtual 358, 3) := by decide +kernel
theorem dX11_most_19 : decode cX11_most 19 = .ok (.ifCond .ne 6, 3) := by decide +kernel
theorem dX11_most_22 : decode cX11_most 22 = .ok (.bipush (-3), 2) := by decide +kernel
theorem dX11_most_24 : decode cX11_most 24 = .ok (.ireturn, 1) := by decide +kernel
theorem dX11_most_25 : decode cX11_most 25 = .ok (.iconst 0, 1) := by decide +kernel
theorem dX11_most_26 : decode cX11_most 26 = .ok (.istore_n 2, 1) := by decide +kernel
theorem dX11_most_27 : decode cX11_most 27 = .ok (.iconst 0, 1) := by decide +kernel
theorem dX11_most_28 : decode cX11_most 28 = .ok (.istore_n 3, 1) := by decide +kernel
theorem dX11_most_29 : decode cX11_most 29 = .ok (.iload_n 3, 1) := by decide +kernel
theorem dX11_most_30 : decode cX11_most 30 = .ok (.aload_n 0, 1) := by decide +kernel
theorem dX11_most_31 : decode cX11_most 31 = .ok (.getfield 325, 3) := by decide +kernel
theorem dX11_most_34 : decode cX11_most 34 = .ok (.if_icmp .ge 24, 3) := by decide +kernel
theorem dX11_most_37 : decode cX11_most 37 = .ok (.iload_n 2, 1) := by decide +kernel
theorem dX11_most_38 : decode cX11_most 38 = .ok (.aload_n 0, 1) := by decide +kernel
theorem dX11_most_39 : decode cX11_most 39 = .ok (.aload_n 0, 1) := by decide +kernel
theorem dX11_most_40 : decode cX11_most 40 = .ok (.getfield 74, 3) := by decide +kernel
theorem dX11_most_43 : decode cX11_most 43 = .ok (.iload_n 3, 1) := by decide +kernel
theorem dX11_most_44 : decode cX11_most 44 = .ok (.iaload, 1) := by decide +kernel
theorem dX11_most_45 : decode cX11_most 45 = .ok (.invokevirtual 361, 3) := by decide +kernel
theorem dX11_most_48 : decode cX11_most 48 = .ok (.invokestatic 272, 3) := by decide +kernel
theorem dX11_most_51 : decode cX11_most 51 = .ok (.istore_n 2, 1) := by decide +kernel
theorem dX11_most_52 : decode cX11_most 52 = .ok (.iinc 3 1, 3) := by decide +kernel
theorem dX11_most_55 : decode cX11_most 55 = .ok (.goto (-26), 3) := by decide +kernel
theorem dX11_most_58 : decode cX11_most 58 = .ok (.aload_n 0, 1) := by decide +kernel
theorem dX11_most_59 : decode cX11_most 59 = .ok (.iconst 0, 1) := by decide +kernel
theorem dX11_most_60 : decode cX11_most 60 = .ok (.putfield 129, 3) := by decide +kernel
theorem dX11_most_63 : decode cX11_most 63 = .ok (.aload_n 0, 1) := by decide +kernel
theorem dX11_most_64 : decode cX11_most 64 = .ok (.iload_n 2, 1) := by decide +kernel
theorem dX11_most_65 : decode cX11_most 65 = .ok (.i2l, 1) := by decide +kernel
theorem dX11_most_66 : decode cX11_most 66 = .ok (.invokevirtual 294, 3) := by decide +kernel
theorem dX11_most_69 : decode cX11_most 69 = .ok (.aload_n 0, 1) := by decide +kernel
theorem dX11_most_70 : decode cX11_most 70 = .ok (.aload_n 0, 1) := by decide +kernel
theorem dX11_most_71 : decode cX11_most 71 = .ok (.getfield 325, 3) := by decide +kernel
theorem dX11_most_74 : decode cX11_most 74 = .ok (.i2l, 1) := by decide +kernel
theorem dX11_most_75 : decode cX11_most 75 = .ok (.invokevirtual 294, 3) := by decide +kernel
theorem dX11_most_78 : decode cX11_most 78 = .ok (.aload_n 0, 1) := by decide +kernel
theorem dX11_most_79 : decode cX11_most 79 = .ok (.invokevirtual 364, 3) := by decide +kernel
theorem dX11_most_82 : decode cX11_most 82 = .ok (.ireturn, 1) := by decide +kernel
theorem dX11_all_0 : decode cX11_all 0 = .ok (.aload_n 0, 1) := by decide +kernel
theorem dX11_all_1 : decode cX11_all 1 = .ok (.iconst 0, 1) := by decide +kernel
theorem dX11_all_2 : decode cX11_all 2 = .ok (.putfield 126, 3) := by decide +kernel
theorem dX11_all_5 : decode cX11_all 5 = .ok (.iload_n 1, 1) := by decide +kernel
theorem dX11_all_6 : decode cX11_all 6 = .ok (.invokestatic 355, 3) := by decide +kernel
theorem dX11_all_9 : decode cX11_all 9 = .ok (.ifCond .ne 5, 3) := by decide +kernel
theorem dX11_all_12 : decode cX11_all 12 = .ok (.iconst (-1), 1) := by decide +kernel
theorem dX11_all_13 : decode cX11_all 13 = .ok (.ireturn, 1) := by decide +kernel
theorem dX11_all_14 : decode cX11_all 14 = .ok (.aload_n 0, 1) := by decide +kernel
theorem dX11_all_15 : decode cX11_all 15 = .ok (.iload_n 1, 1) := by decide +kernel
theorem dX11_all_16 : decode cX11_all 16 = .ok (.invokevirtual 358, 3) := by decide +kernel
theorem dX11_all_19 : decode cX11_all 19 = .ok (.ifCond .ne 6, 3) := by decide +kernel
theorem dX11_all_22 : decode cX11_all 22 = .ok (.bipush (-3), 2) := by decide +kernel
theorem dX11_all_24 : decode cX11_all 24 = .ok (.ireturn, 1) := by decide +kernel
theorem dX11_all_25 : decode cX11_all 25 = .ok (.iconst (-1), 1) := by decide +kernel
theorem dX11_all_26 : decode cX11_all 26 = .ok (.istore_n 2, 1) := by decide +kernel
theorem dX11_all_27 : decode cX11_all 27 = .ok (.iconst 0, 1) := by decide +kernel
theorem dX11_all_28 : decode cX11_all 28 = .ok (.istore_n 3, 1) := by decide +kernel
theorem dX11_all_29 : decode cX11_all 29 = .ok (.iload_n 3, 1) := by decide +kernel
theorem dX11_all_30 : decode cX11_all 30 = .ok (.aload_n 0, 1) := by decide +kernel
theorem dX11_all_31 : decode cX11_all 31 = .ok (.getfield 325, 3) := by decide +kernel
theorem dX11_all_34 : decode cX11_all 34 = .ok (.if_icmp .ge 71, 3) := by decide +kernel
theorem dX11_all_37 : decode cX11_all 37 = .ok (.aload_n 0, 1) := by decide +kernel
theorem dX11_all_38 : decode cX11_all 38 = .ok (.getfield 74, 3) := by decide +kernel
theorem dX11_all_41 : decode cX11_all 41 = .ok (.iload_n 3, 1) := by decide +kernel
theorem dX11_all_42 : decode cX11_all 42 = .ok (.iaload, 1) := by decide +kernel
theorem dX11_all_43 : decode cX11_all 43 = .ok (.aload_n 0, 1) := by decide +kernel
theorem dX11_all_44 : decode cX11_all 44 = .ok (.getfield 331, 3) := by decide +kernel
theorem dX11_all_47 : decode cX11_all 47 = .ok (.if_icmp .eq 6, 3) := by decide +kernel
theorem dX11_all_50 : decode cX11_all 50 = .ok (.goto 49, 3) := by decide +kernel
theorem dX11_all_53 : decode cX11_all 53 = .ok (.iload_n 2, 1) := by decide +kernel
theorem dX11_all_54 : decode cX11_all 54 = .ok (.iconst (-1), 1) := by decide +kernel
theorem dX11_all_55 : decode cX11_all 55 = .ok (.if_icmp .eq 42, 3) := by decide +kernel
theorem dX11_all_58 : decode cX11_all 58 = .ok (.aload_n 0, 1) := by decide +kernel
theorem dX11_all_59 : decode cX11_all 59 = .ok (.getfield 84, 3) := by decide +kernel
theorem dX11_all_62 : decode cX11_all 62 = .ok (.iload_n 3, 1) := by decide +kernel
theorem dX11_all_63 : decode cX11_all 63 = .ok (.iaload, 1) := by decide +kernel
theorem dX11_all_64 : decode cX11_all 64 = .ok (.aload_n 0, 1) := by decide +kernel
theorem dX11_all_65 : decode cX11_all 65 = .ok (.getfield 84, 3) := by decide +kernel
theorem dX11_all_68 : decode cX11_all 68 = .ok (.iload_n 2, 1) := by decide +kernel
theorem dX11_all_69 : decode cX11_all 69 = .ok (.iaload, 1) := by decide +kernel
theorem dX11_all_70 : decode cX11_all 70 = .ok (.if_icmp .lt 27, 3) := by decide +kernel
theorem dX11_all_73 : decode cX11_all 73 = .ok (.aload_n 0, 1) := by decide +kernel
theorem dX11_all_74 : decode cX11_all 74 = .ok (.getfield 84, 3) := by decide +kernel
theorem dX11_all_77 : decode cX11_all 77 = .ok (.iload_n 3, 1) := by decide +kernel
theorem dX11_all_78 : decode cX11_all 78 = .ok (.iaload, 1) := by decide +kernel
theorem dX11_all_79 : decode cX11_all 79 = .ok (.aload_n 0, 1) := by decide +kernel
theorem dX11_all_80 : decode cX11_all 80 = .ok (.getfield 84, 3) := by decide +kernel
theorem dX11_all_83 : decode cX11_all 83 = .ok (.iload_n 2, 1) := by decide +kernel
theorem dX11_all_84 : decode cX11_all 84 = .ok (.iaload, 1) := by decide +kernel
theorem dX11_all_85 : decode cX11_all 85 = .ok (.if_icmp .ne 14, 3) := by decide +kernel
theorem dX11_all_88 : decode cX11_all 88 = .ok (.aload_n 0, 1) := by decide +kernel
theorem dX11_all_89 : decode cX11_all 89 = .ok (.iload_n 3, 1) := by decide +kernel
theorem dX11_all_90 : decode cX11_all 90 = .ok (.iload_n 2, 1) := by decide +kernel
theorem dX11_all_91 : decode cX11_all 91 = .ok (.invokevirtual 352, 3) := by decide +kernel
theorem dX11_all_94 : decode cX11_all 94 = .ok (.ifCond .eq 5, 3) := by decide +kernel
theorem dX11_all_97 : decode cX11_all 97 = .ok (.iload_n 3, 1) := by decide +kernel
theorem dX11_all_98 : decode cX11_all 98 = .ok (.istore_n 2, 1) := by decide +kernel
theorem dX11_all_99 : decode cX11_all 99 = .ok (.iinc 3 1, 3) := by decide +kernel
theorem dX11_all_102 : decode cX11_all 102 = .ok (.goto (-73), 3) := by decide +kernel
theorem dX11_all_105 : decode cX11_all 105 = .ok (.iload_n 2, 1) := by decide +kernel
theorem dX11_all_106 : decode cX11_all 106 = .ok (.iconst (-1), 1) := by decide +kernel
theorem dX11_all_107 : decode cX11_all 107 = .ok (.if_icmp .ne 6, 3) := by decide +kernel
theorem dX11_all_110 : decode cX11_all 110 = .ok (.bipush (-2), 2) := by decide +kernel
theorem dX11_all_112 : decode cX11_all 112 = .ok (.ireturn, 1) := by decide +kernel
theorem dX11_all_113 : decode cX11_all 113 = .ok (.aload_n 0, 1) := by decide +kernel
theorem dX11_all_114 : decode cX11_all 114 = .ok (.getfield 331, 3) := by decide +kernel
theorem dX11_all_117 : decode cX11_all 117 = .ok (.invokestatic 337, 3) := by decide +kernel
theorem dX11_all_120 : decode cX11_all 120 = .ok (.istore_n 3, 1) := by decide +kernel
theorem dX11_all_121 : decode cX11_all 121 = .ok (.iload_n 2, 1) := by decide +kernel
theorem dX11_all_122 : decode cX11_all 122 = .ok (.istore 4, 2) := by decide +kernel
theorem dX11_all_124 : decode cX11_all 124 = .ok (.iload_n 3, 1) := by decide +kernel
theorem dX11_all_125 : decode cX11_all 125 = .ok (.iconst 1, 1) := by decide +kernel
theorem dX11_all_126 : decode cX11_all 126 = .ok (.isub, 1) := by decide +kernel
theorem dX11_all_127 : decode cX11_all 127 = .ok (.istore 5, 2) := by decide +kernel
theorem dX11_all_129 : decode cX11_all 129 = .ok (.iload 5, 2) := by decide +kernel
theorem dX11_all_131 : decode cX11_all 131 = .ok (.ifCond .lt 49, 3) := by decide +kernel
theorem dX11_all_134 : decode cX11_all 134 = .ok (.aload_n 0, 1) := by decide +kernel
theorem dX11_all_135 : decode cX11_all 135 = .ok (.getfield 108, 3) := by decide +kernel
theorem dX11_all_138 : decode cX11_all 138 = .ok (.iload 5, 2) := by decide +kernel
theorem dX11_all_140 : decode cX11_all 140 = .ok (.bipush 10, 2) := by decide +kernel
theorem dX11_all_142 : decode cX11_all 142 = .ok (.aload_n 0, 1) := by decide +kernel
theorem dX11_all_143 : decode cX11_all 143 = .ok (.getfield 90, 3) := by decide +kernel
theorem dX11_all_146 : decode cX11_all 146 = .ok (.iload 4, 2) := by decide +kernel
theorem dX11_all_148 : decode cX11_all 148 = .ok (.iaload, 1) := by decide +kernel
theorem dX11_all_149 : decode cX11_all 149 = .ok (.bipush 8, 2) := by decide +kernel
theorem dX11_all_151 : decode cX11_all 151 = .ok (.idiv, 1) := by decide +kernel
theorem dX11_all_152 : decode cX11_all 152 = .ok (.imul, 1) := by decide +kernel
theorem dX11_all_153 : decode cX11_all 153 = .ok (.aload_n 0, 1) := by decide +kernel
theorem dX11_all_154 : decode cX11_all 154 = .ok (.getfield 90, 3) := by decide +kernel
theorem dX11_all_157 : decode cX11_all 157 = .ok (.iload 4, 2) := by decide +kernel
theorem dX11_all_159 : decode cX11_all 159 = .ok (.iaload, 1) := by decide +kernel
theorem dX11_all_160 : decode cX11_all 160 = .ok (.bipush 8, 2) := by decide +kernel
theorem dX11_all_162 : decode cX11_all 162 = .ok (.irem, 1) := by decide +kernel
theorem dX11_all_163 : decode cX11_all 163 = .ok (.iadd, 1) := by decide +kernel
theorem dX11_all_164 : decode cX11_all 164 = .ok (.iastore, 1) := by decide +kernel
theorem dX11_all_165 : decode cX11_all 165 = .ok (.aload_n 0, 1) := by decide +kernel
theorem dX11_all_166 : decode cX11_all 166 = .ok (.getfield 87, 3) := by decide +kernel
theorem dX11_all_169 : decode cX11_all 169 = .ok (.iload 4, 2) := by decide +kernel
theorem dX11_all_171 : decode cX11_all 171 = .ok (.iaload, 1) := by decide +kernel
theorem dX11_all_172 : decode cX11_all 172 = .ok (.istore 4, 2) := by decide +kernel
theorem dX11_all_174 : decode cX11_all 174 = .ok (.iinc 5 (-1), 3) := by decide +kernel
theorem dX11_all_177 : decode cX11_all 177 = .ok (.goto (-48), 3) := by decide +kernel
theorem dX11_all_180 : decode cX11_all 180 = .ok (.aload_n 0, 1) := by decide +kernel
theorem dX11_all_181 : decode cX11_all 181 = .ok (.iconst 0, 1) := by decide +kernel
theorem dX11_all_182 : decode cX11_all 182 = .ok (.putfield 129, 3) := by decide +kernel
theorem dX11_all_185 : decode cX11_all 185 = .ok (.iconst 0, 1) := by decide +kernel
theorem dX11_all_186 : decode cX11_all 186 = .ok (.istore 5, 2) := by decide +kernel
theorem dX11_all_188 : decode cX11_all 188 = .ok (.iload 5, 2) := by decide +kernel
theorem dX11_all_190 : decode cX11_all 190 = .ok (.iload_n 3, 1) := by decide +kernel
theorem dX11_all_191 : decode cX11_all 191 = .ok (.if_icmp .ge 21, 3) := by decide +kernel
theorem dX11_all_194 : decode cX11_all 194 = .ok (.aload_n 0, 1) := by decide +kernel
theorem dX11_all_195 : decode cX11_all 195 = .ok (.aload_n 0, 1) := by decide +kernel
theorem dX11_all_196 : decode cX11_all 196 = .ok (.getfield 108, 3) := by decide +kernel
theorem dX11_all_199 : decode cX11_all 199 = .ok (.iload 5, 2) := by decide +kernel
theorem dX11_all_201 : decode cX11_all 201 = .ok (.iaload, 1) := by decide +kernel
theorem dX11_all_202 : decode cX11_all 202 = .ok (.i2l, 1) := by decide +kernel
theorem dX11_all_203 : decode cX11_all 203 = .ok (.invokevirtual 294, 3) := by decide +kernel
theorem dX11_all_206 : decode cX11_all 206 = .ok (.iinc 5 1, 3) := by decide +kernel
theorem dX11_all_209 : decode cX11_all 209 = .ok (.goto (-21), 3) := by decide +kernel
theorem dX11_all_212 : decode cX11_all 212 = .ok (.aload_n 0, 1) := by decide +kernel
theorem dX11_all_213 : decode cX11_all 213 = .ok (.getfield 84, 3) := by decide +kernel
theorem dX11_all_216 : decode cX11_all 216 = .ok (.iload_n 2, 1) := by decide +kernel
theorem dX11_all_217 : decode cX11_all 217 = .ok (.iaload, 1) := by decide +kernel
theorem dX11_all_218 : decode cX11_all 218 = .ok (.ireturn, 1) := by decide +kernel
theorem dX11_never_0 : decode cX11_never 0 = .ok (.aload_n 0, 1) := by decide +kernel
theorem dX11_never_1 : decode cX11_never 1 = .ok (.iconst 0, 1) := by decide +kernel
theorem dX11_never_2 : decode cX11_never 2 = .ok (.putfield 126, 3) := by decide +kernel
theorem dX11_never_5 : decode cX11_never 5 = .ok (.iload_n 1, 1) := by decide +kernel
theorem dX11_never_6 : decode cX11_never 6 = .ok (.invokestatic 355, 3) := by decide +kernel
theorem dX11_never_9 : decode cX11_never 9 = .ok (.ifCond .ne 5, 3) := by decide +kernel
theorem dX11_never_12 : decode cX11_never 12 = .ok (.iconst (-1), 1) := by decide +kernel
theorem dX11_never_13 : decode cX11_never 13 = .ok (.ireturn, 1) := by decide +kernel
theorem dX11_never_14 : decode cX11_never 14 = .ok (.aload_n 0, 1) := by decide +kernel
theorem dX11_never_15 : decode cX11_never 15 = .ok (.iload_n 1, 1) := by decide +kernel
theorem dX11_never_16 : decode cX11_never 16 = .ok (.invokevirtual 358, 3) := by decide +kernel
theorem dX11_never_19 : decode cX11_never 19 = .ok (.ifCond .ne 6, 3) := by decide +kernel
theorem dX11_never_22 : decode cX11_never 22 = .ok (.bipush (-3), 2) := by decide +kernel
theorem dX11_never_24 : decode cX11_never 24 = .ok (.ireturn, 1) := by decide +kernel
theorem dX11_never_25 : decode cX11_never 25 = .ok (.iconst 0, 1) := by decide +kernel
theorem dX11_never_26 : decode cX11_never 26 = .ok (.istore_n 2, 1) := by decide +kernel
theorem dX11_never_27 : decode cX11_never 27 = .ok (.iconst 0, 1) := by decide +kernel
theorem dX11_never_28 : decode cX11_never 28 = .ok (.istore_n 3, 1) := by decide +kernel
theorem dX11_never_29 : decode cX11_never 29 = .ok (.iload_n 3, 1) := by decide +kernel
theorem dX11_never_30 : decode cX11_never 30 = .ok (.aload_n 0, 1) := by decide +kernel
theorem dX11_never_31 : decode cX11_never 31 = .ok (.getfield 325, 3) := by decide +kernel
theorem dX11_never_34 : decode cX11_never 34 = .ok (.if_icmp .ge 18, 3) := by decide +kernel
theorem dX11_never_37 : decode cX11_never 37 = .ok (.iload_n 2, 1) := by decide +kernel
theorem dX11_never_38 : decode cX11_never 38 = .ok (.aload_n 0, 1) := by decide +kernel
theorem dX11_never_39 : decode cX11_never 39 = .ok (.getfield 74, 3) := by decide +kernel
theorem dX11_never_42 : decode cX11_never 42 = .ok (.iload_n 3, 1) := by decide +kernel
theorem dX11_never_43 : decode cX11_never 43 = .ok (.iaload, 1) := by decide +kernel
theorem dX11_never_44 : decode cX11_never 44 = .ok (.ior, 1) := by decide +kernel
theorem dX11_never_45 : decode cX11_never 45 = .ok (.istore_n 2, 1) := by decide +kernel
theorem dX11_never_46 : decode cX11_never 46 = .ok (.iinc 3 1, 3) := by decide +kernel
theorem dX11_never_49 : decode cX11_never 49 = .ok (.goto (-20), 3) := by decide +kernel
theorem dX11_never_52 : decode cX11_never 52 = .ok (.aload_n 0, 1) := by decide +kernel
theorem dX11_never_53 : decode cX11_never 53 = .ok (.getfield 331, 3) := by decide +kernel
theorem dX11_never_56 : decode cX11_never 56 = .ok (.iload_n 2, 1) := by decide +kernel
theorem dX11_never_57 : decode cX11_never 57 = .ok (.iconst (-1), 1) := by decide +kernel
theorem dX11_never_58 : decode cX11_never 58 = .ok (.ixor, 1) := by decide +kernel
theorem dX11_never_59 : decode cX11_never 59 = .ok (.iand, 1) := by decide +kernel
theorem dX11_never_60 : decode cX11_never 60 = .ok (.ireturn, 1) := by decide +kernel
theorem dX11_ways_0 : decode cX11_ways 0 = .ok (.aload_n 0, 1) := by decide +kernel
theorem dX11_ways_1 : decode cX11_ways 1 = .ok (.iconst 0, 1) := by decide +kernel
theorem dX11_ways_2 : decode cX11_ways 2 = .ok (.putfield 126, 3) := by decide +kernel
theorem dX11_ways_5 : decode cX11_ways 5 = .ok (.iload_n 1, 1) := by decide +kernel
theorem dX11_ways_6 : decode cX11_ways 6 = .ok (.invokestatic 355, 3) := by decide +kernel
theorem dX11_ways_9 : decode cX11_ways 9 = .ok (.ifCond .ne 7, 3) := by decide +kernel
theorem dX11_ways_12 : decode cX11_ways 12 = .ok (.ldc2_w 367, 3) := by decide +kernel
theorem dX11_ways_15 : decode cX11_ways 15 = .ok (.lreturn, 1) := by decide +kernel
theorem dX11_ways_16 : decode cX11_ways 16 = .ok (.aload_n 0, 1) := by decide +kernel
theorem dX11_ways_17 : decode cX11_ways 17 = .ok (.iload_n 1, 1) := by decide +kernel
theorem dX11_ways_18 : decode cX11_ways 18 = .ok (.invokevirtual 358, 3) := by decide +kernel
theorem dX11_ways_21 : decode cX11_ways 21 = .ok (.ifCond .ne 7, 3) := by decide +kernel
theorem dX11_ways_24 : decode cX11_ways 24 = .ok (.ldc2_w 369, 3) := by decide +kernel
theorem dX11_ways_27 : decode cX11_ways 27 = .ok (.lreturn, 1) := by decide +kernel
theorem dX11_ways_28 : decode cX11_ways 28 = .ok (.lconst 0, 1) := by decide +kernel
theorem dX11_ways_29 : decode cX11_ways 29 = .ok (.lstore_n 2, 1) := by decide +kernel
theorem dX11_ways_30 : decode cX11_ways 30 = .ok (.iconst 0, 1) := by decide +kernel
theorem dX11_ways_31 : decode cX11_ways 31 = .ok (.istore 4, 2) := by decide +kernel
theorem dX11_ways_33 : decode cX11_ways 33 = .ok (.iconst 0, 1) := by decide +kernel
theorem dX11_ways_34 : decode cX11_ways 34 = .ok (.istore 5, 2) := by decide +kernel
theorem dX11_ways_36 : decode cX11_ways 36 = .ok (.aload_n 0, 1) := by decide +kernel
theorem dX11_ways_37 : decode cX11_ways 37 = .ok (.getfield 325, 3) := by decide +kernel
theorem dX11_ways_40 : decode cX11_ways 40 = .ok (.iconst 1, 1) := by decide +kernel
theorem dX11_ways_41 : decode cX11_ways 41 = .ok (.isub, 1) := by decide +kernel
theorem dX11_ways_42 : decode cX11_ways 42 = .ok (.istore 6, 2) := by decide +kernel
theorem dX11_ways_44 : decode cX11_ways 44 = .ok (.iload 6, 2) := by decide +kernel
theorem dX11_ways_46 : decode cX11_ways 46 = .ok (.ifCond .lt 151, 3) := by decide +kernel
theorem dX11_ways_49 : decode cX11_ways 49 = .ok (.aload_n 0, 1) := by decide +kernel
theorem dX11_ways_50 : decode cX11_ways 50 = .ok (.getfield 99, 3) := by decide +kernel
theorem dX11_ways_53 : decode cX11_ways 53 = .ok (.iload 6, 2) := by decide +kernel
theorem dX11_ways_55 : decode cX11_ways 55 = .ok (.aload_n 0, 1) := by decide +kernel
theorem dX11_ways_56 : decode cX11_ways 56 = .ok (.getfield 74, 3) := by decide +kernel
theorem dX11_ways_59 : decode cX11_ways 59 = .ok (.iload 6, 2) := by decide +kernel
theorem dX11_ways_61 : decode cX11_ways 61 = .ok (.iaload, 1) := by decide +kernel
theorem dX11_ways_62 : decode cX11_ways 62 = .ok (.aload_n 0, 1) := by decide +kernel
theorem dX11_ways_63 : decode cX11_ways 63 = .ok (.getfield 331, 3) := by decide +kernel
theorem dX11_ways_66 : decode cX11_ways 66 = .ok (.if_icmp .ne 7, 3) := by decide +kernel
theorem dX11_ways_69 : decode cX11_ways 69 = .ok (.iconst 1, 1) := by decide +kernel
theorem dX11_ways_70 : decode cX11_ways 70 = .ok (.goto 4, 3) := by decide +kernel
theorem dX11_ways_73 : decode cX11_ways 73 = .ok (.iconst 0, 1) := by decide +kernel
theorem dX11_ways_74 : decode cX11_ways 74 = .ok (.bastore, 1) := by decide +kernel
theorem dX11_ways_75 : decode cX11_ways 75 = .ok (.iload 4, 2) := by decide +kernel
theorem dX11_ways_77 : decode cX11_ways 77 = .ok (.ifCond .ne 13, 3) := by decide +kernel
theorem dX11_ways_80 : decode cX11_ways 80 = .ok (.aload_n 0, 1) := by decide +kernel
theorem dX11_ways_81 : decode cX11_ways 81 = .ok (.getfield 99, 3) := by decide +kernel
theorem dX11_ways_84 : decode cX11_ways 84 = .ok (.iload 6, 2) := by decide +kernel
theorem dX11_ways_86 : decode cX11_ways 86 = .ok (.baload, 1) := by decide +kernel
theorem dX11_ways_87 : decode cX11_ways 87 = .ok (.ifCond .eq 7, 3) := by decide +kernel
theorem dX11_ways_90 : decode cX11_ways 90 = .ok (.iconst 1, 1) := by decide +kernel
theorem dX11_ways_91 : decode cX11_ways 91 = .ok (.goto 4, 3) := by decide +kernel
theorem dX11_ways_94 : decode cX11_ways 94 = .ok (.iconst 0, 1) := by decide +kernel
theorem dX11_ways_95 : decode cX11_ways 95 = .ok (.istore 4, 2) := by decide +kernel
theorem dX11_ways_97 : decode cX11_ways 97 = .ok (.lload_n 2, 1) := by decide +kernel
theorem dX11_ways_98 : decode cX11_ways 98 = .ok (.aload_n 0, 1) := by decide +kernel
theorem dX11_ways_99 : decode cX11_ways 99 = .ok (.getfield 99, 3) := by decide +kernel
theorem dX11_ways_102 : decode cX11_ways 102 = .ok (.iload 6, 2) := by decide +kernel
theorem dX11_ways_104 : decode cX11_ways 104 = .ok (.baload, 1) := by decide +kernel
theorem dX11_ways_105 : decode cX11_ways 105 = .ok (.ifCond .eq 13, 3) := by decide +kernel
theorem dX11_ways_108 : decode cX11_ways 108 = .ok (.aload_n 0, 1) := by decide +kernel
theorem dX11_ways_109 : decode cX11_ways 109 = .ok (.getfield 96, 3) := by decide +kernel
theorem dX11_ways_112 : decode cX11_ways 112 = .ok (.iload 6, 2) := by decide +kernel
theorem dX11_ways_114 : decode cX11_ways 114 = .ok (.laload, 1) := by decide +kernel
theorem dX11_ways_115 : decode cX11_ways 115 = .ok (.goto 4, 3) := by decide +kernel
theorem dX11_ways_118 : decode cX11_ways 118 = .ok (.lconst 0, 1) := by decide +kernel
theorem dX11_ways_119 : decode cX11_ways 119 = .ok (.ladd, 1) := by decide +kernel
theorem dX11_ways_120 : decode cX11_ways 120 = .ok (.lstore_n 2, 1) := by decide +kernel
theorem dX11_ways_121 : decode cX11_ways 121 = .ok (.iconst 0, 1) := by decide +kernel
theorem dX11_ways_122 : decode cX11_ways 122 = .ok (.istore 7, 2) := by decide +kernel
theorem dX11_ways_124 : decode cX11_ways 124 = .ok (.iload 7, 2) := by decide +kernel
theorem dX11_ways_126 : decode cX11_ways 126 = .ok (.bipush 80, 2) := by decide +kernel
theorem dX11_ways_128 : decode cX11_ways 128 = .ok (.if_icmp .ge 63, 3) := by decide +kernel
theorem dX11_ways_131 : decode cX11_ways 131 = .ok (.aload_n 0, 1) := by decide +kernel
theorem dX11_ways_132 : decode cX11_ways 132 = .ok (.getfield 81, 3) := by decide +kernel
theorem dX11_ways_135 : decode cX11_ways 135 = .ok (.bipush 80, 2) := by decide +kernel
theorem dX11_ways_137 : decode cX11_ways 137 = .ok (.iload 6, 2) := by decide +kernel
theorem dX11_ways_139 : decode cX11_ways 139 = .ok (.imul, 1) := by decide +kernel
theorem dX11_ways_140 : decode cX11_ways 140 = .ok (.iload 7, 2) := by decide +kernel
theorem dX11_ways_142 : decode cX11_ways 142 = .ok (.iadd, 1) := by decide +kernel
theorem dX11_ways_143 : decode cX11_ways 143 = .ok (.iaload, 1) := by decide +kernel
theorem dX11_ways_144 : decode cX11_ways 144 = .ok (.istore 8, 2) := by decide +kernel
theorem dX11_ways_146 : decode cX11_ways 146 = .ok (.iload 8, 2) := by decide +kernel
theorem dX11_ways_148 : decode cX11_ways 148 = .ok (.iconst (-1), 1) := by decide +kernel
theorem dX11_ways_149 : decode cX11_ways 149 = .ok (.if_icmp .eq 36, 3) := by decide +kernel
theorem dX11_ways_152 : decode cX11_ways 152 = .ok (.aload_n 0, 1) := by decide +kernel
theorem dX11_ways_153 : decode cX11_ways 153 = .ok (.getfield 99, 3) := by decide +kernel
theorem dX11_ways_156 : decode cX11_ways 156 = .ok (.iload 8, 2) := by decide +kernel
theorem dX11_ways_158 : decode cX11_ways 158 = .ok (.baload, 1) := by decide +kernel
theorem dX11_ways_159 : decode cX11_ways 159 = .ok (.ifCond .ne 6, 3) := by decide +kernel
theorem dX11_ways_162 : decode cX11_ways 162 = .ok (.goto 23, 3) := by decide +kernel
theorem dX11_ways_165 : decode cX11_ways 165 = .ok (.aload_n 0, 1) := by decide +kernel
theorem dX11_ways_166 : decode cX11_ways 166 = .ok (.getfield 99, 3) := by decide +kernel
theorem dX11_ways_169 : decode cX11_ways 169 = .ok (.iload 6, 2) := by decide +kernel
theorem dX11_ways_171 : decode cX11_ways 171 = .ok (.iconst 1, 1) := by decide +kernel
theorem dX11_ways_172 : decode cX11_ways 172 = .ok (.bastore, 1) := by decide +kernel
theorem dX11_ways_173 : decode cX11_ways 173 = .ok (.iload 5, 2) := by decide +kernel
theorem dX11_ways_175 : decode cX11_ways 175 = .ok (.iconst 1, 1) := by decide +kernel
theorem dX11_ways_176 : decode cX11_ways 176 = .ok (.iload 7, 2) := by decide +kernel
theorem dX11_ways_178 : decode cX11_ways 178 = .ok (.bipush 8, 2) := by decide +kernel
theorem dX11_ways_180 : decode cX11_ways 180 = .ok (.irem, 1) := by decide +kernel
theorem dX11_ways_181 : decode cX11_ways 181 = .ok (.ishl, 1) := by decide +kernel
theorem dX11_ways_182 : decode cX11_ways 182 = .ok (.ior, 1) := by decide +kernel
theorem dX11_ways_183 : decode cX11_ways 183 = .ok (.istore 5, 2) := by decide +kernel
theorem dX11_ways_185 : decode cX11_ways 185 = .ok (.iinc 7 1, 3) := by decide +kernel
theorem dX11_ways_188 : decode cX11_ways 188 = .ok (.goto (-64), 3) := by decide +kernel
theorem dX11_ways_191 : decode cX11_ways 191 = .ok (.iinc 6 (-1), 3) := by decide +kernel
theorem dX11_ways_194 : decode cX11_ways 194 = .ok (.goto (-150), 3) := by decide +kernel
theorem dX11_ways_197 : decode cX11_ways 197 = .ok (.iload 4, 2) := by decide +kernel
theorem dX11_ways_199 : decode cX11_ways 199 = .ok (.ifCond .ne 5, 3) := by decide +kernel
theorem dX11_ways_202 : decode cX11_ways 202 = .ok (.lconst 0, 1) := by decide +kernel
theorem dX11_ways_203 : decode cX11_ways 203 = .ok (.lreturn, 1) := by decide +kernel
theorem dX11_ways_204 : decode cX11_ways 204 = .ok (.aload_n 0, 1) := by decide +kernel
theorem dX11_ways_205 : decode cX11_ways 205 = .ok (.iconst 0, 1) := by decide +kernel
theorem dX11_ways_206 : decode cX11_ways 206 = .ok (.putfield 129, 3) := by decide +kernel
theorem dX11_ways_209 : decode cX11_ways 209 = .ok (.aload_n 0, 1) := by decide +kernel
theorem dX11_ways_210 : decode cX11_ways 210 = .ok (.iconst 1, 1) := by decide +kernel
theorem dX11_ways_211 : decode cX11_ways 211 = .ok (.aload_n 0, 1) := by decide +kernel
theorem dX11_ways_212 : decode cX11_ways 212 = .ok (.getfield 132, 3) := by decide +kernel
theorem dX11_ways_215 : decode cX11_ways 215 = .ok (.ishl, 1) := by decide +kernel
theorem dX11_ways_216 : decode cX11_ways 216 = .ok (.iconst 1, 1) := by decide +kernel
theorem dX11_ways_217 : decode cX11_ways 217 = .ok (.isub, 1) := by decide +kernel
theorem dX11_ways_218 : decode cX11_ways 218 = .ok (.iload 5, 2) := by decide +kernel
theorem dX11_ways_220 : decode cX11_ways 220 = .ok (.iconst (-1), 1) := by decide +kernel
theorem dX11_ways_221 : decode cX11_ways 221 = .ok (.ixor, 1) := by decide +kernel
theorem dX11_ways_222 : decode cX11_ways 222 = .ok (.iand, 1) := by decide +kernel
theorem dX11_ways_223 : decode cX11_ways 223 = .ok (.i2l, 1) := by decide +kernel
theorem dX11_ways_224 : decode cX11_ways 224 = .ok (.invokevirtual 294, 3) := by decide +kernel
theorem dX11_ways_227 : decode cX11_ways 227 = .ok (.lload_n 2, 1) := by decide +kernel
theorem dX11_ways_228 : decode cX11_ways 228 = .ok (.lreturn, 1) := by decide +kernel
theorem dX11_ahead_0 : decode cX11_ahead 0 = .ok (.aload_n 0, 1) := by decide +kernel
theorem dX11_ahead_1 : decode cX11_ahead 1 = .ok (.iconst 0, 1) := by decide +kernel
theorem dX11_ahead_2 : decode cX11_ahead 2 = .ok (.putfield 126, 3) := by decide +kernel
theorem dX11_ahead_5 : decode cX11_ahead 5 = .ok (.aload_n 0, 1) := by decide +kernel
theorem dX11_ahead_6 : decode cX11_ahead 6 = .ok (.iload_n 1, 1) := by decide +kernel
theorem dX11_ahead_7 : decode cX11_ahead 7 = .ok (.invokevirtual 142, 3) := by decide +kernel
theorem dX11_ahead_10 : decode cX11_ahead 10 = .ok (.ifCond .eq 10, 3) := by decide +kernel
theorem dX11_ahead_13 : decode cX11_ahead 13 = .ok (.iload_n 2, 1) := by decide +kernel
theorem dX11_ahead_14 : decode cX11_ahead 14 = .ok (.invokestatic 355, 3) := by decide +kernel
theorem dX11_ahead_17 : decode cX11_ahead 17 = .ok (.ifCond .ne 5, 3) := by decide +kernel
theorem dX11_ahead_20 : decode cX11_ahead 20 = .ok (.iconst (-1), 1) := by decide +kernel
theorem dX11_ahead_21 : decode cX11_ahead 21 = .ok (.ireturn, 1) := by decide +kernel
theorem dX11_ahead_22 : decode cX11_ahead 22 = .ok (.aload_n 0, 1) := by decide +kernel
theorem dX11_ahead_23 : decode cX11_ahead 23 = .ok (.iload_n 2, 1) := by decide +kernel
theorem dX11_ahead_24 : decode cX11_ahead 24 = .ok (.invokevirtual 358, 3) := by decide +kernel
theorem dX11_ahead_27 : decode cX11_ahead 27 = .ok (.ifCond .ne 6, 3) := by decide +kernel
theorem dX11_ahead_30 : decode cX11_ahead 30 = .ok (.bipush (-3), 2) := by decide +kernel
theorem dX11_ahead_32 : decode cX11_ahead 32 = .ok (.ireturn, 1) := by decide +kernel
theorem dX11_ahead_33 : decode cX11_ahead 33 = .ok (.iconst (-1), 1) := by decide +kernel
theorem dX11_ahead_34 : decode cX11_ahead 34 = .ok (.istore_n 3, 1) := by decide +kernel
theorem dX11_ahead_35 : decode cX11_ahead 35 = .ok (.iconst 0, 1) := by decide +kernel
theorem dX11_ahead_36 : decode cX11_ahead 36 = .ok (.istore 4, 2) := by decide +kernel
theorem dX11_ahead_38 : decode cX11_ahead 38 = .ok (.iconst 0, 1) := by decide +kernel
theorem dX11_ahead_39 : decode cX11_ahead 39 = .ok (.istore 5, 2) := by decide +kernel
theorem dX11_ahead_41 : decode cX11_ahead 41 = .ok (.iload 5, 2) := by decide +kernel
theorem dX11_ahead_43 : decode cX11_ahead 43 = .ok (.aload_n 0, 1) := by decide +kernel
theorem dX11_ahead_44 : decode cX11_ahead 44 = .ok (.getfield 325, 3) := by decide +kernel
theorem dX11_ahead_47 : decode cX11_ahead 47 = .ok (.if_icmp .ge 74, 3) := by decide +kernel
theorem dX11_ahead_50 : decode cX11_ahead 50 = .ok (.iconst 0, 1) := by decide +kernel
theorem dX11_ahead_51 : decode cX11_ahead 51 = .ok (.istore 6, 2) := by decide +kernel
theorem dX11_ahead_53 : decode cX11_ahead 53 = .ok (.iload 6, 2) := by decide +kernel
theorem dX11_ahead_55 : decode cX11_ahead 55 = .ok (.bipush 8, 2) := by decide +kernel
theorem dX11_ahead_57 : decode cX11_ahead 57 = .ok (.if_icmp .ge 58, 3) := by decide +kernel
theorem dX11_ahead_60 : decode cX11_ahead 60 = .ok (.aload_n 0, 1) := by decide +kernel
theorem dX11_ahead_61 : decode cX11_ahead 61 = .ok (.getfield 331, 3) := by decide +kernel
theorem dX11_ahead_64 : decode cX11_ahead 64 = .ok (.iload_n 1, 1) := by decide +kernel
theorem dX11_ahead_65 : decode cX11_ahead 65 = .ok (.invokestatic 291, 3) := by decide +kernel
theorem dX11_ahead_68 : decode cX11_ahead 68 = .ok (.ifCond .eq 47, 3) := by decide +kernel
theorem dX11_ahead_71 : decode cX11_ahead 71 = .ok (.aload_n 0, 1) := by decide +kernel
theorem dX11_ahead_72 : decode cX11_ahead 72 = .ok (.getfield 81, 3) := by decide +kernel
theorem dX11_ahead_75 : decode cX11_ahead 75 = .ok (.bipush 80, 2) := by decide +kernel
theorem dX11_ahead_77 : decode cX11_ahead 77 = .ok (.iload 5, 2) := by decide +kernel
theorem dX11_ahead_79 : decode cX11_ahead 79 = .ok (.imul, 1) := by decide +kernel
theorem dX11_ahead_80 : decode cX11_ahead 80 = .ok (.bipush 8, 2) := by decide +kernel
theorem dX11_ahead_82 : decode cX11_ahead 82 = .ok (.iload_n 1, 1) := by decide +kernel
theorem dX11_ahead_83 : decode cX11_ahead 83 = .ok (.imul, 1) := by decide +kernel
theorem dX11_ahead_84 : decode cX11_ahead 84 = .ok (.iadd, 1) := by decide +kernel
theorem dX11_ahead_85 : decode cX11_ahead 85 = .ok (.iload 6, 2) := by decide +kernel
theorem dX11_ahead_87 : decode cX11_ahead 87 = .ok (.iadd, 1) := by decide +kernel
theorem dX11_ahead_88 : decode cX11_ahead 88 = .ok (.iaload, 1) := by decide +kernel
theorem dX11_ahead_89 : decode cX11_ahead 89 = .ok (.iconst (-1), 1) := by decide +kernel
theorem dX11_ahead_90 : decode cX11_ahead 90 = .ok (.if_icmp .ne 6, 3) := by decide +kernel
theorem dX11_ahead_93 : decode cX11_ahead 93 = .ok (.goto 16, 3) := by decide +kernel
theorem dX11_ahead_96 : decode cX11_ahead 96 = .ok (.iconst 1, 1) := by decide +kernel
theorem dX11_ahead_97 : decode cX11_ahead 97 = .ok (.istore 4, 2) := by decide +kernel
theorem dX11_ahead_99 : decode cX11_ahead 99 = .ok (.iload_n 3, 1) := by decide +kernel
theorem dX11_ahead_100 : decode cX11_ahead 100 = .ok (.aload_n 0, 1) := by decide +kernel
theorem dX11_ahead_101 : decode cX11_ahead 101 = .ok (.getfield 74, 3) := by decide +kernel
theorem dX11_ahead_104 : decode cX11_ahead 104 = .ok (.iload 5, 2) := by decide +kernel
theorem dX11_ahead_106 : decode cX11_ahead 106 = .ok (.iaload, 1) := by decide +kernel
theorem dX11_ahead_107 : decode cX11_ahead 107 = .ok (.iand, 1) := by decide +kernel
theorem dX11_ahead_108 : decode cX11_ahead 108 = .ok (.istore_n 3, 1) := by decide +kernel
theorem dX11_ahead_109 : decode cX11_ahead 109 = .ok (.iinc 6 1, 3) := by decide +kernel
theorem dX11_ahead_112 : decode cX11_ahead 112 = .ok (.goto (-59), 3) := by decide +kernel
theorem dX11_ahead_115 : decode cX11_ahead 115 = .ok (.iinc 5 1, 3) := by decide +kernel
theorem dX11_ahead_118 : decode cX11_ahead 118 = .ok (.goto (-77), 3) := by decide +kernel
theorem dX11_ahead_121 : decode cX11_ahead 121 = .ok (.iload 4, 2) := by decide +kernel
theorem dX11_ahead_123 : decode cX11_ahead 123 = .ok (.ifCond .eq 7, 3) := by decide +kernel
theorem dX11_ahead_126 : decode cX11_ahead 126 = .ok (.iload_n 3, 1) := by decide +kernel
theorem dX11_ahead_127 : decode cX11_ahead 127 = .ok (.goto 5, 3) := by decide +kernel
theorem dX11_ahead_130 : decode cX11_ahead 130 = .ok (.bipush (-2), 2) := by decide +kernel
theorem dX11_ahead_132 : decode cX11_ahead 132 = .ok (.ireturn, 1) := by decide +kernel
theorem dX11_canAll_0 : decode cX11_canAll 0 = .ok (.iconst 0, 1) := by decide +kernel
theorem dX11_canAll_1 : decode cX11_canAll 1 = .ok (.istore_n 2, 1) := by decide +kernel
theorem dX11_canAll_2 : decode cX11_canAll 2 = .ok (.iload_n 2, 1) := by decide +kernel
theorem dX11_canAll_3 : decode cX11_canAll 3 = .ok (.aload_n 0, 1) := by decide +kernel
theorem dX11_canAll_4 : decode cX11_canAll 4 = .ok (.getfield 325, 3) := by decide +kernel
theorem dX11_canAll_7 : decode cX11_canAll 7 = .ok (.if_icmp .ge 24, 3) := by decide +kernel
theorem dX11_canAll_10 : decode cX11_canAll 10 = .ok (.aload_n 0, 1) := by decide +kernel
theorem dX11_canAll_11 : decode cX11_canAll 11 = .ok (.getfield 99, 3) := by decide +kernel
theorem dX11_canAll_14 : decode cX11_canAll 14 = .ok (.iload_n 2, 1) := by decide +kernel
theorem dX11_canAll_15 : decode cX11_canAll 15 = .ok (.iload_n 2, 1) := by decide +kernel
theorem dX11_canAll_16 : decode cX11_canAll 16 = .ok (.ifCond .ne 7, 3) := by decide +kernel
theorem dX11_canAll_19 : decode cX11_canAll 19 = .ok (.iconst 1, 1) := by decide +kernel
theorem dX11_canAll_20 : decode cX11_canAll 20 = .ok (.goto 4, 3) := by decide +kernel
theorem dX11_canAll_23 : decode cX11_canAll 23 = .ok (.iconst 0, 1) := by decide +kernel
theorem dX11_canAll_24 : decode cX11_canAll 24 = .ok (.bastore, 1) := by decide +kernel
theorem dX11_canAll_25 : decode cX11_canAll 25 = .ok (.iinc 2 1, 3) := by decide +kernel
theorem dX11_canAll_28 : decode cX11_canAll 28 = .ok (.goto (-26), 3) := by decide +kernel
theorem dX11_canAll_31 : decode cX11_canAll 31 = .ok (.iconst 0, 1) := by decide +kernel
theorem dX11_canAll_32 : decode cX11_canAll 32 = .ok (.istore_n 2, 1) := by decide +kernel
theorem dX11_canAll_33 : decode cX11_canAll 33 = .ok (.iload_n 2, 1) := by decide +kernel
theorem dX11_canAll_34 : decode cX11_canAll 34 = .ok (.aload_n 0, 1) := by decide +kernel
theorem dX11_canAll_35 : decode cX11_canAll 35 = .ok (.getfield 325, 3) := by decide +kernel
theorem dX11_canAll_38 : decode cX11_canAll 38 = .ok (.if_icmp .ge 88, 3) := by decide +kernel
theorem dX11_canAll_41 : decode cX11_canAll 41 = .ok (.aload_n 0, 1) := by decide +kernel
theorem dX11_canAll_42 : decode cX11_canAll 42 = .ok (.getfield 99, 3) := by decide +kernel
theorem dX11_canAll_45 : decode cX11_canAll 45 = .ok (.iload_n 2, 1) := by decide +kernel
theorem dX11_canAll_46 : decode cX11_canAll 46 = .ok (.baload, 1) := by decide +kernel
theorem dX11_canAll_47 : decode cX11_canAll 47 = .ok (.ifCond .ne 6, 3) := by decide +kernel
theorem dX11_canAll_50 : decode cX11_canAll 50 = .ok (.goto 70, 3) := by decide +kernel
theorem dX11_canAll_53 : decode cX11_canAll 53 = .ok (.aload_n 0, 1) := by decide +kernel
theorem dX11_canAll_54 : decode cX11_canAll 54 = .ok (.getfield 74, 3) := by decide +kernel
theorem dX11_canAll_57 : decode cX11_canAll 57 = .ok (.iload_n 2, 1) := by decide +kernel
theorem dX11_canAll_58 : decode cX11_canAll 58 = .ok (.iaload, 1) := by decide +kernel
theorem dX11_canAll_59 : decode cX11_canAll 59 = .ok (.aload_n 0, 1) := by decide +kernel
theorem dX11_canAll_60 : decode cX11_canAll 60 = .ok (.getfield 331, 3) := by decide +kernel
theorem dX11_canAll_63 : decode cX11_canAll 63 = .ok (.if_icmp .ne 5, 3) := by decide +kernel
theorem dX11_canAll_66 : decode cX11_canAll 66 = .ok (.iconst 1, 1) := by decide +kernel
theorem dX11_canAll_67 : decode cX11_canAll 67 = .ok (.ireturn, 1) := by decide +kernel
theorem dX11_canAll_68 : decode cX11_canAll 68 = .ok (.iconst 0, 1) := by decide +kernel
theorem dX11_canAll_69 : decode cX11_canAll 69 = .ok (.istore_n 3, 1) := by decide +kernel
theorem dX11_canAll_70 : decode cX11_canAll 70 = .ok (.iload_n 3, 1) := by decide +kernel
theorem dX11_canAll_71 : decode cX11_canAll 71 = .ok (.bipush 80, 2) := by decide +kernel
theorem dX11_canAll_73 : decode cX11_canAll 73 = .ok (.if_icmp .ge 47, 3) := by decide +kernel
theorem dX11_canAll_76 : decode cX11_canAll 76 = .ok (.aload_n 0, 1) := by decide +kernel
theorem dX11_canAll_77 : decode cX11_canAll 77 = .ok (.getfield 81, 3) := by decide +kernel
theorem dX11_canAll_80 : decode cX11_canAll 80 = .ok (.bipush 80, 2) := by decide +kernel
theorem dX11_canAll_82 : decode cX11_canAll 82 = .ok (.iload_n 2, 1) := by decide +kernel
theorem dX11_canAll_83 : decode cX11_canAll 83 = .ok (.imul, 1) := by decide +kernel
theorem dX11_canAll_84 : decode cX11_canAll 84 = .ok (.iload_n 3, 1) := by decide +kernel
theorem dX11_canAll_85 : decode cX11_canAll 85 = .ok (.iadd, 1) := by decide +kernel
theorem dX11_canAll_86 : decode cX11_canAll 86 = .ok (.iaload, 1) := by decide +kernel
theorem dX11_canAll_87 : decode cX11_canAll 87 = .ok (.istore 4, 2) := by decide +kernel
theorem dX11_canAll_89 : decode cX11_canAll 89 = .ok (.iload 4, 2) := by decide +kernel
theorem dX11_canAll_91 : decode cX11_canAll 91 = .ok (.iconst (-1), 1) := by decide +kernel
theorem dX11_canAll_92 : decode cX11_canAll 92 = .ok (.if_icmp .eq 22, 3) := by decide +kernel
theorem dX11_canAll_95 : decode cX11_canAll 95 = .ok (.iload_n 1, 1) := by decide +kernel
theorem dX11_canAll_96 : decode cX11_canAll 96 = .ok (.iload_n 3, 1) := by decide +kernel
theorem dX11_canAll_97 : decode cX11_canAll 97 = .ok (.bipush 8, 2) := by decide +kernel
theorem dX11_canAll_99 : decode cX11_canAll 99 = .ok (.irem, 1) := by decide +kernel
theorem dX11_canAll_100 : decode cX11_canAll 100 = .ok (.invokestatic 291, 3) := by decide +kernel
theorem dX11_canAll_103 : decode cX11_canAll 103 = .ok (.ifCond .eq 11, 3) := by decide +kernel
theorem dX11_canAll_106 : decode cX11_canAll 106 = .ok (.aload_n 0, 1) := by decide +kernel
theorem dX11_canAll_107 : decode cX11_canAll 107 = .ok (.getfield 99, 3) := by decide +kernel
theorem dX11_canAll_110 : decode cX11_canAll 110 = .ok (.iload 4, 2) := by decide +kernel
theorem dX11_canAll_112 : decode cX11_canAll 112 = .ok (.iconst 1, 1) := by decide +kernel
theorem dX11_canAll_113 : decode cX11_canAll 113 = .ok (.bastore, 1) := by decide +kernel
theorem dX11_canAll_114 : decode cX11_canAll 114 = .ok (.iinc 3 1, 3) := by decide +kernel
theorem dX11_canAll_117 : decode cX11_canAll 117 = .ok (.goto (-47), 3) := by decide +kernel
theorem dX11_canAll_120 : decode cX11_canAll 120 = .ok (.iinc 2 1, 3) := by decide +kernel
theorem dX11_canAll_123 : decode cX11_canAll 123 = .ok (.goto (-90), 3) := by decide +kernel
theorem dX11_canAll_126 : decode cX11_canAll 126 = .ok (.iconst 0, 1) := by decide +kernel
theorem dX11_canAll_127 : decode cX11_canAll 127 = .ok (.ireturn, 1) := by decide +kernel
theorem dX11_fewest_0 : decode cX11_fewest 0 = .ok (.aload_n 0, 1) := by decide +kernel
theorem dX11_fewest_1 : decode cX11_fewest 1 = .ok (.iconst 0, 1) := by decide +kernel
theorem dX11_fewest_2 : decode cX11_fewest 2 = .ok (.putfield 126, 3) := by decide +kernel
theorem dX11_fewest_5 : decode cX11_fewest 5 = .ok (.iload_n 1, 1) := by decide +kernel
theorem dX11_fewest_6 : decode cX11_fewest 6 = .ok (.invokestatic 355, 3) := by decide +kernel
theorem dX11_fewest_9 : decode cX11_fewest 9 = .ok (.ifCond .ne 5, 3) := by decide +kernel
theorem dX11_fewest_12 : decode cX11_fewest 12 = .ok (.iconst (-1), 1) := by decide +kernel
theorem dX11_fewest_13 : decode cX11_fewest 13 = .ok (.ireturn, 1) := by decide +kernel
theorem dX11_fewest_14 : decode cX11_fewest 14 = .ok (.aload_n 0, 1) := by decide +kernel
theorem dX11_fewest_15 : decode cX11_fewest 15 = .ok (.iload_n 1, 1) := by decide +kernel
theorem dX11_fewest_16 : decode cX11_fewest 16 = .ok (.invokevirtual 358, 3) := by decide +kernel
theorem dX11_fewest_19 : decode cX11_fewest 19 = .ok (.ifCond .ne 6, 3) := by decide +kernel
theorem dX11_fewest_22 : decode cX11_fewest 22 = .ok (.bipush (-3), 2) := by decide +kernel
theorem dX11_fewest_24 : decode cX11_fewest 24 = .ok (.ireturn, 1) := by decide +kernel
theorem dX11_fewest_25 : decode cX11_fewest 25 = .ok (.iconst (-1), 1) := by decide +kernel
theorem dX11_fewest_26 : decode cX11_fewest 26 = .ok (.istore_n 2, 1) := by decide +kernel
theorem dX11_fewest_27 : decode cX11_fewest 27 = .ok (.iconst 0, 1) := by decide +kernel
theorem dX11_fewest_28 : decode cX11_fewest 28 = .ok (.istore_n 3, 1) := by decide +kernel
theorem dX11_fewest_29 : decode cX11_fewest 29 = .ok (.iload_n 3, 1) := by decide +kernel
theorem dX11_fewest_30 : decode cX11_fewest 30 = .ok (.iconst 1, 1) := by decide +kernel
theorem dX11_fewest_31 : decode cX11_fewest 31 = .ok (.aload_n 0, 1) := by decide +kernel
theorem dX11_fewest_32 : decode cX11_fewest 32 = .ok (.getfield 132, 3) := by decide +kernel
theorem dX11_fewest_35 : decode cX11_fewest 35 = .ok (.ishl, 1) := by decide +kernel
theorem dX11_fewest_36 : decode cX11_fewest 36 = .ok (.if_icmp .ge 38, 3) := by decide +kernel
theorem dX11_fewest_39 : decode cX11_fewest 39 = .ok (.iload_n 2, 1) := by decide +kernel
theorem dX11_fewest_40 : decode cX11_fewest 40 = .ok (.iconst (-1), 1) := by decide +kernel
theorem dX11_fewest_41 : decode cX11_fewest 41 = .ok (.if_icmp .eq 17, 3) := by decide +kernel
theorem dX11_fewest_44 : decode cX11_fewest 44 = .ok (.iload_n 3, 1) := by decide +kernel
theorem dX11_fewest_45 : decode cX11_fewest 45 = .ok (.invokestatic 337, 3) := by decide +kernel
theorem dX11_fewest_48 : decode cX11_fewest 48 = .ok (.iload_n 2, 1) := by decide +kernel
theorem dX11_fewest_49 : decode cX11_fewest 49 = .ok (.invokestatic 337, 3) := by decide +kernel
theorem dX11_fewest_52 : decode cX11_fewest 52 = .ok (.if_icmp .lt 6, 3) := by decide +kernel
theorem dX11_fewest_55 : decode cX11_fewest 55 = .ok (.goto 13, 3) := by decide +kernel
theorem dX11_fewest_58 : decode cX11_fewest 58 = .ok (.aload_n 0, 1) := by decide +kernel
theorem dX11_fewest_59 : decode cX11_fewest 59 = .ok (.iload_n 3, 1) := by decide +kernel
theorem dX11_fewest_60 : decode cX11_fewest 60 = .ok (.invokevirtual 371, 3) := by decide +kernel
theorem dX11_fewest_63 : decode cX11_fewest 63 = .ok (.ifCond .eq 5, 3) := by decide +kernel
theorem dX11_fewest_66 : decode cX11_fewest 66 = .ok (.iload_n 3, 1) := by decide +kernel
theorem dX11_fewest_67 : decode cX11_fewest 67 = .ok (.istore_n 2, 1) := by decide +kernel
theorem dX11_fewest_68 : decode cX11_fewest 68 = .ok (.iinc 3 1, 3) := by decide +kernel
theorem dX11_fewest_71 : decode cX11_fewest 71 = .ok (.goto (-42), 3) := by decide +kernel
theorem dX11_fewest_74 : decode cX11_fewest 74 = .ok (.iload_n 2, 1) := by decide +kernel
theorem dX11_fewest_75 : decode cX11_fewest 75 = .ok (.iconst (-1), 1) := by decide +kernel
theorem dX11_fewest_76 : decode cX11_fewest 76 = .ok (.if_icmp .ne 6, 3) := by decide +kernel
theorem dX11_fewest_79 : decode cX11_fewest 79 = .ok (.bipush (-2), 2) := by decide +kernel
theorem dX11_fewest_81 : decode cX11_fewest 81 = .ok (.ireturn, 1) := by decide +kernel
theorem dX11_fewest_82 : decode cX11_fewest 82 = .ok (.aload_n 0, 1) := by decide +kernel
theorem dX11_fewest_83 : decode cX11_fewest 83 = .ok (.iconst 0, 1) := by decide +kernel
theorem dX11_fewest_84 : decode cX11_fewest 84 = .ok (.putfield 129, 3) := by decide +kernel
theorem dX11_fewest_87 : decode cX11_fewest 87 = .ok (.aload_n 0, 1) := by decide +kernel
theorem dX11_fewest_88 : decode cX11_fewest 88 = .ok (.iload_n 2, 1) := by decide +kernel
theorem dX11_fewest_89 : decode cX11_fewest 89 = .ok (.i2l, 1) := by decide +kernel
theorem dX11_fewest_90 : decode cX11_fewest 90 = .ok (.invokevirtual 294, 3) := by decide +kernel
theorem dX11_fewest_93 : decode cX11_fewest 93 = .ok (.iload_n 2, 1) := by decide +kernel
theorem dX11_fewest_94 : decode cX11_fewest 94 = .ok (.invokestatic 337, 3) := by decide +kernel
theorem dX11_fewest_97 : decode cX11_fewest 97 = .ok (.ireturn, 1) := by decide +kernel
theorem dX11_sorts_0 : decode cX11_sorts 0 = .ok (.aload_n 0, 1) := by decide +kernel
theorem dX11_sorts_1 : decode cX11_sorts 1 = .ok (.iconst 0, 1) := by decide +kernel
theorem dX11_sorts_2 : decode cX11_sorts 2 = .ok (.putfield 126, 3) := by decide +kernel
theorem dX11_sorts_5 : decode cX11_sorts 5 = .ok (.iload_n 1, 1) := by decide +kernel
theorem dX11_sorts_6 : decode cX11_sorts 6 = .ok (.invokestatic 355, 3) := by decide +kernel
theorem dX11_sorts_9 : decode cX11_sorts 9 = .ok (.ifCond .ne 5, 3) := by decide +kernel
theorem dX11_sorts_12 : decode cX11_sorts 12 = .ok (.iconst (-1), 1) := by decide +kernel
theorem dX11_sorts_13 : decode cX11_sorts 13 = .ok (.ireturn, 1) := by decide +kernel
theorem dX11_sorts_14 : decode cX11_sorts 14 = .ok (.aload_n 0, 1) := by decide +kernel
theorem dX11_sorts_15 : decode cX11_sorts 15 = .ok (.getfield 47, 3) := by decide +kernel
theorem dX11_sorts_18 : decode cX11_sorts 18 = .ok (.iconst 0, 1) := by decide +kernel
theorem dX11_sorts_19 : decode cX11_sorts 19 = .ok (.iaload, 1) := by decide +kernel
theorem dX11_sorts_20 : decode cX11_sorts 20 = .ok (.istore_n 2, 1) := by decide +kernel
theorem dX11_sorts_21 : decode cX11_sorts 21 = .ok (.iconst 1, 1) := by decide +kernel
theorem dX11_sorts_22 : decode cX11_sorts 22 = .ok (.istore_n 3, 1) := by decide +kernel
theorem dX11_sorts_23 : decode cX11_sorts 23 = .ok (.iconst 0, 1) := by decide +kernel
theorem dX11_sorts_24 : decode cX11_sorts 24 = .ok (.istore 4, 2) := by decide +kernel
theorem dX11_sorts_26 : decode cX11_sorts 26 = .ok (.iconst 0, 1) := by decide +kernel
theorem dX11_sorts_27 : decode cX11_sorts 27 = .ok (.istore 5, 2) := by decide +kernel
theorem dX11_sorts_29 : decode cX11_sorts 29 = .ok (.iload 5, 2) := by decide +kernel
theorem dX11_sorts_31 : decode cX11_sorts 31 = .ok (.iconst 4, 1) := by decide +kernel
theorem dX11_sorts_32 : decode cX11_sorts 32 = .ok (.if_icmp .ge 59, 3) := by decide +kernel
theorem dX11_sorts_35 : decode cX11_sorts 35 = .ok (.iload_n 3, 1) := by decide +kernel
theorem dX11_sorts_36 : decode cX11_sorts 36 = .ok (.ifCond .eq 55, 3) := by decide +kernel
theorem dX11_sorts_39 : decode cX11_sorts 39 = .ok (.aload_n 0, 1) := by decide +kernel
theorem dX11_sorts_40 : decode cX11_sorts 40 = .ok (.getfield 47, 3) := by decide +kernel
theorem dX11_sorts_43 : decode cX11_sorts 43 = .ok (.iconst 0, 1) := by decide +kernel
theorem dX11_sorts_44 : decode cX11_sorts 44 = .ok (.iload 5, 2) := by decide +kernel
theorem dX11_sorts_46 : decode cX11_sorts 46 = .ok (.iastore, 1) := by decide +kernel
theorem dX11_sorts_47 : decode cX11_sorts 47 = .ok (.aload_n 0, 1) := by decide +kernel
theorem dX11_sorts_48 : decode cX11_sorts 48 = .ok (.iload_n 1, 1) := by decide +kernel
theorem dX11_sorts_49 : decode cX11_sorts 49 = .ok (.invokevirtual 358, 3) := by decide +kernel
theorem dX11_sorts_52 : decode cX11_sorts 52 = .ok (.istore_n 3, 1) := by decide +kernel
theorem dX11_sorts_53 : decode cX11_sorts 53 = .ok (.aload_n 0, 1) := by decide +kernel
theorem dX11_sorts_54 : decode cX11_sorts 54 = .ok (.getfield 111, 3) := by decide +kernel
theorem dX11_sorts_57 : decode cX11_sorts 57 = .ok (.iload 5, 2) := by decide +kernel
theorem dX11_sorts_59 : decode cX11_sorts 59 = .ok (.aload_n 0, 1) := by decide +kernel
theorem dX11_sorts_60 : decode cX11_sorts 60 = .ok (.invokevirtual 364, 3) := by decide +kernel
theorem dX11_sorts_63 : decode cX11_sorts 63 = .ok (.iastore, 1) := by decide +kernel
theorem dX11_sorts_64 : decode cX11_sorts 64 = .ok (.aload_n 0, 1) := by decide +kernel
theorem dX11_sorts_65 : decode cX11_sorts 65 = .ok (.getfield 111, 3) := by decide +kernel
theorem dX11_sorts_68 : decode cX11_sorts 68 = .ok (.iload 5, 2) := by decide +kernel
theorem dX11_sorts_70 : decode cX11_sorts 70 = .ok (.iaload, 1) := by decide +kernel
theorem dX11_sorts_71 : decode cX11_sorts 71 = .ok (.aload_n 0, 1) := by decide +kernel
theorem dX11_sorts_72 : decode cX11_sorts 72 = .ok (.getfield 111, 3) := by decide +kernel
theorem dX11_sorts_75 : decode cX11_sorts 75 = .ok (.iload 4, 2) := by decide +kernel
theorem dX11_sorts_77 : decode cX11_sorts 77 = .ok (.iaload, 1) := by decide +kernel
theorem dX11_sorts_78 : decode cX11_sorts 78 = .ok (.if_icmp .le 7, 3) := by decide +kernel
theorem dX11_sorts_81 : decode cX11_sorts 81 = .ok (.iload 5, 2) := by decide +kernel
theorem dX11_sorts_83 : decode cX11_sorts 83 = .ok (.istore 4, 2) := by decide +kernel
theorem dX11_sorts_85 : decode cX11_sorts 85 = .ok (.iinc 5 1, 3) := by decide +kernel
theorem dX11_sorts_88 : decode cX11_sorts 88 = .ok (.goto (-59), 3) := by decide +kernel
theorem dX11_sorts_91 : decode cX11_sorts 91 = .ok (.aload_n 0, 1) := by decide +kernel
theorem dX11_sorts_92 : decode cX11_sorts 92 = .ok (.getfield 47, 3) := by decide +kernel
theorem dX11_sorts_95 : decode cX11_sorts 95 = .ok (.iconst 0, 1) := by decide +kernel
theorem dX11_sorts_96 : decode cX11_sorts 96 = .ok (.iload_n 2, 1) := by decide +kernel
theorem dX11_sorts_97 : decode cX11_sorts 97 = .ok (.iastore, 1) := by decide +kernel
theorem dX11_sorts_98 : decode cX11_sorts 98 = .ok (.iload_n 3, 1) := by decide +kernel
theorem dX11_sorts_99 : decode cX11_sorts 99 = .ok (.ifCond .ne 6, 3) := by decide +kernel
theorem dX11_sorts_102 : decode cX11_sorts 102 = .ok (.bipush (-3), 2) := by decide +kernel
theorem dX11_sorts_104 : decode cX11_sorts 104 = .ok (.ireturn, 1) := by decide +kernel
theorem dX11_sorts_105 : decode cX11_sorts 105 = .ok (.aload_n 0, 1) := by decide +kernel
theorem dX11_sorts_106 : decode cX11_sorts 106 = .ok (.iconst 0, 1) := by decide +kernel
theorem dX11_sorts_107 : decode cX11_sorts 107 = .ok (.putfield 129, 3) := by decide +kernel
theorem dX11_sorts_110 : decode cX11_sorts 110 = .ok (.aload_n 0, 1) := by decide +kernel
theorem dX11_sorts_111 : decode cX11_sorts 111 = .ok (.getfield 111, 3) := by decide +kernel
theorem dX11_sorts_114 : decode cX11_sorts 114 = .ok (.astore 5, 2) := by decide +kernel
theorem dX11_sorts_116 : decode cX11_sorts 116 = .ok (.aload 5, 2) := by decide +kernel
theorem dX11_sorts_118 : decode cX11_sorts 118 = .ok (.arraylength, 1) := by decide +kernel
theorem dX11_sorts_119 : decode cX11_sorts 119 = .ok (.istore 6, 2) := by decide +kernel
theorem dX11_sorts_121 : decode cX11_sorts 121 = .ok (.iconst 0, 1) := by decide +kernel
theorem dX11_sorts_122 : decode cX11_sorts 122 = .ok (.istore 7, 2) := by decide +kernel
theorem dX11_sorts_124 : decode cX11_sorts 124 = .ok (.iload 7, 2) := by decide +kernel
theorem dX11_sorts_126 : decode cX11_sorts 126 = .ok (.iload 6, 2) := by decide +kernel
theorem dX11_sorts_128 : decode cX11_sorts 128 = .ok (.if_icmp .ge 23, 3) := by decide +kernel
theorem dX11_sorts_131 : decode cX11_sorts 131 = .ok (.aload 5, 2) := by decide +kernel
theorem dX11_sorts_133 : decode cX11_sorts 133 = .ok (.iload 7, 2) := by decide +kernel
theorem dX11_sorts_135 : decode cX11_sorts 135 = .ok (.iaload, 1) := by decide +kernel
theorem dX11_sorts_136 : decode cX11_sorts 136 = .ok (.istore 8, 2) := by decide +kernel
theorem dX11_sorts_138 : decode cX11_sorts 138 = .ok (.aload_n 0, 1) := by decide +kernel
theorem dX11_sorts_139 : decode cX11_sorts 139 = .ok (.iload 8, 2) := by decide +kernel
theorem dX11_sorts_141 : decode cX11_sorts 141 = .ok (.i2l, 1) := by decide +kernel
theorem dX11_sorts_142 : decode cX11_sorts 142 = .ok (.invokevirtual 294, 3) := by decide +kernel
theorem dX11_sorts_145 : decode cX11_sorts 145 = .ok (.iinc 7 1, 3) := by decide +kernel
theorem dX11_sorts_148 : decode cX11_sorts 148 = .ok (.goto (-24), 3) := by decide +kernel
theorem dX11_sorts_151 : decode cX11_sorts 151 = .ok (.iload 4, 2) := by decide +kernel
theorem dX11_sorts_153 : decode cX11_sorts 153 = .ok (.ireturn, 1) := by decide +kernel
theorem dX11_partsBy_0 : decode cX11_partsBy 0 = .ok (.iconst 0, 1) := by decide +kernel
theorem dX11_partsBy_1 : decode cX11_partsBy 1 = .ok (.istore_n 2, 1) := by decide +kernel
theorem dX11_partsBy_2 : decode cX11_partsBy 2 = .ok (.iconst 0, 1) := by decide +kernel
theorem dX11_partsBy_3 : decode cX11_partsBy 3 = .ok (.istore_n 3, 1) := by decide +kernel
theorem dX11_partsBy_4 : decode cX11_partsBy 4 = .ok (.iload_n 3, 1) := by decide +kernel
theorem dX11_partsBy_5 : decode cX11_partsBy 5 = .ok (.aload_n 0, 1) := by decide +kernel
theorem dX11_partsBy_6 : decode cX11_partsBy 6 = .ok (.getfield 132, 3) := by decide +kernel
theorem dX11_partsBy_9 : decode cX11_partsBy 9 = .ok (.if_icmp .ge 53, 3) := by decide +kernel
theorem dX11_partsBy_12 : decode cX11_partsBy 12 = .ok (.iload_n 2, 1) := by decide +kernel
theorem dX11_partsBy_13 : decode cX11_partsBy 13 = .ok (.iload_n 3, 1) := by decide +kernel
theorem dX11_partsBy_14 : decode cX11_partsBy 14 = .ok (.aload_n 0, 1) := by decide +kernel
theorem dX11_partsBy_15 : decode cX11_partsBy 15 = .ok (.getfield 29, 3) := by decide +kernel
theorem dX11_partsBy_18 : decode cX11_partsBy 18 = .ok (.iload_n 1, 1) := by decide +kernel
theorem dX11_partsBy_19 : decode cX11_partsBy 19 = .ok (.iaload, 1) := by decide +kernel
theorem dX11_partsBy_20 : decode cX11_partsBy 20 = .ok (.if_icmp .eq 33, 3) := by decide +kernel
theorem dX11_partsBy_23 : decode cX11_partsBy 23 = .ok (.iload_n 3, 1) := by decide +kernel
theorem dX11_partsBy_24 : decode cX11_partsBy 24 = .ok (.aload_n 0, 1) := by decide +kernel
theorem dX11_partsBy_25 : decode cX11_partsBy 25 = .ok (.getfield 32, 3) := by decide +kernel
theorem dX11_partsBy_28 : decode cX11_partsBy 28 = .ok (.iload_n 1, 1) := by decide +kernel
theorem dX11_partsBy_29 : decode cX11_partsBy 29 = .ok (.iaload, 1) := by decide +kernel
theorem dX11_partsBy_30 : decode cX11_partsBy 30 = .ok (.if_icmp .eq 23, 3) := by decide +kernel
theorem dX11_partsBy_33 : decode cX11_partsBy 33 = .ok (.aload_n 0, 1) := by decide +kernel
theorem dX11_partsBy_34 : decode cX11_partsBy 34 = .ok (.iload_n 3, 1) := by decide +kernel
theorem dX11_partsBy_35 : decode cX11_partsBy 35 = .ok (.aload_n 0, 1) := by decide +kernel
theorem dX11_partsBy_36 : decode cX11_partsBy 36 = .ok (.getfield 29, 3) := by decide +kernel
theorem dX11_partsBy_39 : decode cX11_partsBy 39 = .ok (.iload_n 1, 1) := by decide +kernel
theorem dX11_partsBy_40 : decode cX11_partsBy 40 = .ok (.iaload, 1) := by decide +kernel
theorem dX11_partsBy_41 : decode cX11_partsBy 41 = .ok (.invokevirtual 281, 3) := by decide +kernel
theorem dX11_partsBy_44 : decode cX11_partsBy 44 = .ok (.ifCond .eq 9, 3) := by decide +kernel
theorem dX11_partsBy_47 : decode cX11_partsBy 47 = .ok (.iconst 1, 1) := by decide +kernel
theorem dX11_partsBy_48 : decode cX11_partsBy 48 = .ok (.iload_n 3, 1) := by decide +kernel
theorem dX11_partsBy_49 : decode cX11_partsBy 49 = .ok (.ishl, 1) := by decide +kernel
theorem dX11_partsBy_50 : decode cX11_partsBy 50 = .ok (.goto 4, 3) := by decide +kernel
theorem dX11_partsBy_53 : decode cX11_partsBy 53 = .ok (.iconst 0, 1) := by decide +kernel
theorem dX11_partsBy_54 : decode cX11_partsBy 54 = .ok (.ior, 1) := by decide +kernel
theorem dX11_partsBy_55 : decode cX11_partsBy 55 = .ok (.istore_n 2, 1) := by decide +kernel
theorem dX11_partsBy_56 : decode cX11_partsBy 56 = .ok (.iinc 3 1, 3) := by decide +kernel
theorem dX11_partsBy_59 : decode cX11_partsBy 59 = .ok (.goto (-55), 3) := by decide +kernel
theorem dX11_partsBy_62 : decode cX11_partsBy 62 = .ok (.iload_n 2, 1) := by decide +kernel
theorem dX11_partsBy_63 : decode cX11_partsBy 63 = .ok (.ireturn, 1) := by decide +kernel
theorem dX11_countedOf_0 : decode cX11_countedOf 0 = .ok (.iconst 0, 1) := by decide +kernel
theorem dX11_countedOf_1 : decode cX11_countedOf 1 = .ok (.istore_n 2, 1) := by decide +kernel
theorem dX11_countedOf_2 : decode cX11_countedOf 2 = .ok (.iconst 0, 1) := by decide +kernel
theorem dX11_countedOf_3 : decode cX11_countedOf 3 = .ok (.istore_n 3, 1) := by decide +kernel
theorem dX11_countedOf_4 : decode cX11_countedOf 4 = .ok (.iload_n 3, 1) := by decide +kernel
theorem dX11_countedOf_5 : decode cX11_countedOf 5 = .ok (.aload_n 0, 1) := by decide +kernel
theorem dX11_countedOf_6 : decode cX11_countedOf 6 = .ok (.getfield 132, 3) := by decide +kernel
theorem dX11_countedOf_9 : decode cX11_countedOf 9 = .ok (.if_icmp .ge 29, 3) := by decide +kernel
theorem dX11_countedOf_12 : decode cX11_countedOf 12 = .ok (.iload_n 2, 1) := by decide +kernel
theorem dX11_countedOf_13 : decode cX11_countedOf 13 = .ok (.iload_n 1, 1) := by decide +kernel
theorem dX11_countedOf_14 : decode cX11_countedOf 14 = .ok (.iload_n 3, 1) := by decide +kernel
theorem dX11_countedOf_15 : decode cX11_countedOf 15 = .ok (.invokestatic 291, 3) := by decide +kernel
theorem dX11_countedOf_18 : decode cX11_countedOf 18 = .ok (.ifCond .eq 11, 3) := by decide +kernel
theorem dX11_countedOf_21 : decode cX11_countedOf 21 = .ok (.aload_n 0, 1) := by decide +kernel
theorem dX11_countedOf_22 : decode cX11_countedOf 22 = .ok (.iload_n 3, 1) := by decide +kernel
theorem dX11_countedOf_23 : decode cX11_countedOf 23 = .ok (.invokevirtual 225, 3) := by decide +kernel
theorem dX11_countedOf_26 : decode cX11_countedOf 26 = .ok (.goto 4, 3) := by decide +kernel
theorem dX11_countedOf_29 : decode cX11_countedOf 29 = .ok (.iconst 0, 1) := by decide +kernel
theorem dX11_countedOf_30 : decode cX11_countedOf 30 = .ok (.iadd, 1) := by decide +kernel
theorem dX11_countedOf_31 : decode cX11_countedOf 31 = .ok (.istore_n 2, 1) := by decide +kernel
theorem dX11_countedOf_32 : decode cX11_countedOf 32 = .ok (.iinc 3 1, 3) := by decide +kernel
theorem dX11_countedOf_35 : decode cX11_countedOf 35 = .ok (.goto (-31), 3) := by decide +kernel
theorem dX11_countedOf_38 : decode cX11_countedOf 38 = .ok (.iload_n 2, 1) := by decide +kernel
theorem dX11_countedOf_39 : decode cX11_countedOf 39 = .ok (.ireturn, 1) := by decide +kernel
theorem dX11_leftTo_0 : decode cX11_leftTo 0 = .ok (.iconst 0, 1) := by decide +kernel
theorem dX11_leftTo_1 : decode cX11_leftTo 1 = .ok (.istore_n 3, 1) := by decide +kernel
theorem dX11_leftTo_2 : decode cX11_leftTo 2 = .ok (.iconst 0, 1) := by decide +kernel
theorem dX11_leftTo_3 : decode cX11_leftTo 3 = .ok (.istore 4, 2) := by decide +kernel
theorem dX11_leftTo_5 : decode cX11_leftTo 5 = .ok (.iload 4, 2) := by decide +kernel
theorem dX11_leftTo_7 : decode cX11_leftTo 7 = .ok (.aload_n 0, 1) := by decide +kernel
theorem dX11_leftTo_8 : decode cX11_leftTo 8 = .ok (.getfield 139, 3) := by decide +kernel
theorem dX11_leftTo_11 : decode cX11_leftTo 11 = .ok (.if_icmp .ge 42, 3) := by decide +kernel
theorem dX11_leftTo_14 : decode cX11_leftTo 14 = .ok (.iload_n 3, 1) := by decide +kernel
theorem dX11_leftTo_15 : decode cX11_leftTo 15 = .ok (.iload_n 2, 1) := by decide +kernel
theorem dX11_leftTo_16 : decode cX11_leftTo 16 = .ok (.iload 4, 2) := by decide +kernel
theorem dX11_leftTo_18 : decode cX11_leftTo 18 = .ok (.invokestatic 291, 3) := by decide +kernel
theorem dX11_leftTo_21 : decode cX11_leftTo 21 = .ok (.ifCond .eq 23, 3) := by decide +kernel
theorem dX11_leftTo_24 : decode cX11_leftTo 24 = .ok (.aload_n 0, 1) := by decide +kernel
theorem dX11_leftTo_25 : decode cX11_leftTo 25 = .ok (.iload 4, 2) := by decide +kernel
theorem dX11_leftTo_27 : decode cX11_leftTo 27 = .ok (.invokevirtual 374, 3) := by decide +kernel
theorem dX11_leftTo_30 : decode cX11_leftTo 30 = .ok (.iload_n 1, 1) := by decide +kernel
theorem dX11_leftTo_31 : decode cX11_leftTo 31 = .ok (.iconst (-1), 1) := by decide +kernel
theorem dX11_leftTo_32 : decode cX11_leftTo 32 = .ok (.ixor, 1) := by decide +kernel
theorem dX11_leftTo_33 : decode cX11_leftTo 33 = .ok (.iand, 1) := by decide +kernel
theorem dX11_leftTo_34 : decode cX11_leftTo 34 = .ok (.ifCond .eq 10, 3) := by decide +kernel
theorem dX11_leftTo_37 : decode cX11_leftTo 37 = .ok (.iconst 1, 1) := by decide +kernel
theorem dX11_leftTo_38 : decode cX11_leftTo 38 = .ok (.iload 4, 2) := by decide +kernel
theorem dX11_leftTo_40 : decode cX11_leftTo 40 = .ok (.ishl, 1) := by decide +kernel
theorem dX11_leftTo_41 : decode cX11_leftTo 41 = .ok (.goto 4, 3) := by decide +kernel
theorem dX11_leftTo_44 : decode cX11_leftTo 44 = .ok (.iconst 0, 1) := by decide +kernel
theorem dX11_leftTo_45 : decode cX11_leftTo 45 = .ok (.ior, 1) := by decide +kernel
theorem dX11_leftTo_46 : decode cX11_leftTo 46 = .ok (.istore_n 3, 1) := by decide +kernel
theorem dX11_leftTo_47 : decode cX11_leftTo 47 = .ok (.iinc 4 1, 3) := by decide +kernel
theorem dX11_leftTo_50 : decode cX11_leftTo 50 = .ok (.goto (-45), 3) := by decide +kernel
theorem dX11_leftTo_53 : decode cX11_leftTo 53 = .ok (.iload_n 3, 1) := by decide +kernel
theorem dX11_leftTo_54 : decode cX11_leftTo 54 = .ok (.ireturn, 1) := by decide +kernel
theorem dX11_boundOf_0 : decode cX11_boundOf 0 = .ok (.aload_n 0, 1) := by decide +kernel
theorem dX11_boundOf_1 : decode cX11_boundOf 1 = .ok (.iload_n 1, 1) := by decide +kernel
theorem dX11_boundOf_2 : decode cX11_boundOf 2 = .ok (.invokevirtual 377, 3) := by decide +kernel
theorem dX11_boundOf_5 : decode cX11_boundOf 5 = .ok (.aload_n 0, 1) := by decide +kernel
theorem dX11_boundOf_6 : decode cX11_boundOf 6 = .ok (.aload_n 0, 1) := by decide +kernel
theorem dX11_boundOf_7 : decode cX11_boundOf 7 = .ok (.iload_n 1, 1) := by decide +kernel
theorem dX11_boundOf_8 : decode cX11_boundOf 8 = .ok (.iload_n 2, 1) := by decide +kernel
theorem dX11_boundOf_9 : decode cX11_boundOf 9 = .ok (.invokevirtual 380, 3) := by decide +kernel
theorem dX11_boundOf_12 : decode cX11_boundOf 12 = .ok (.invokevirtual 361, 3) := by decide +kernel
theorem dX11_boundOf_15 : decode cX11_boundOf 15 = .ok (.iadd, 1) := by decide +kernel
theorem dX11_boundOf_16 : decode cX11_boundOf 16 = .ok (.ireturn, 1) := by decide +kernel
theorem dX11_flowOf_0 : decode cX11_flowOf 0 = .ok (.ldc_w 383, 3) := by decide +kernel
theorem dX11_flowOf_3 : decode cX11_flowOf 3 = .ok (.istore_n 2, 1) := by decide +kernel
theorem dX11_flowOf_4 : decode cX11_flowOf 4 = .ok (.iconst 0, 1) := by decide +kernel
theorem dX11_flowOf_5 : decode cX11_flowOf 5 = .ok (.istore_n 3, 1) := by decide +kernel
theorem dX11_flowOf_6 : decode cX11_flowOf 6 = .ok (.iload_n 3, 1) := by decide +kernel
theorem dX11_flowOf_7 : decode cX11_flowOf 7 = .ok (.iconst 1, 1) := by decide +kernel
theorem dX11_flowOf_8 : decode cX11_flowOf 8 = .ok (.aload_n 0, 1) := by decide +kernel
theorem dX11_flowOf_9 : decode cX11_flowOf 9 = .ok (.getfield 132, 3) := by decide +kernel
theorem dX11_flowOf_12 : decode cX11_flowOf 12 = .ok (.ishl, 1) := by decide +kernel
theorem dX11_flowOf_13 : decode cX11_flowOf 13 = .ok (.if_icmp .ge 20, 3) := by decide +kernel
theorem dX11_flowOf_16 : decode cX11_flowOf 16 = .ok (.iload_n 2, 1) := by decide +kernel
theorem dX11_flowOf_17 : decode cX11_flowOf 17 = .ok (.aload_n 0, 1) := by decide +kernel
theorem dX11_flowOf_18 : decode cX11_flowOf 18 = .ok (.iload_n 3, 1) := by decide +kernel
theorem dX11_flowOf_19 : decode cX11_flowOf 19 = .ok (.iload_n 1, 1) := by decide +kernel
theorem dX11_flowOf_20 : decode cX11_flowOf 20 = .ok (.invokevirtual 384, 3) := by decide +kernel
theorem dX11_flowOf_23 : decode cX11_flowOf 23 = .ok (.invokestatic 267, 3) := by decide +kernel
theorem dX11_flowOf_26 : decode cX11_flowOf 26 = .ok (.istore_n 2, 1) := by decide +kernel
theorem dX11_flowOf_27 : decode cX11_flowOf 27 = .ok (.iinc 3 1, 3) := by decide +kernel
theorem dX11_flowOf_30 : decode cX11_flowOf 30 = .ok (.goto (-24), 3) := by decide +kernel
theorem dX11_flowOf_33 : decode cX11_flowOf 33 = .ok (.iload_n 2, 1) := by decide +kernel
theorem dX11_flowOf_34 : decode cX11_flowOf 34 = .ok (.ireturn, 1) := by decide +kernel
theorem dX11_flow_0 : decode cX11_flow 0 = .ok (.aload_n 0, 1) := by decide +kernel
theorem dX11_flow_1 : decode cX11_flow 1 = .ok (.iconst 0, 1) := by decide +kernel
theorem dX11_flow_2 : decode cX11_flow 2 = .ok (.putfield 126, 3) := by decide +kernel
theorem dX11_flow_5 : decode cX11_flow 5 = .ok (.iload_n 1, 1) := by decide +kernel
theorem dX11_flow_6 : decode cX11_flow 6 = .ok (.invokestatic 355, 3) := by decide +kernel
theorem dX11_flow_9 : decode cX11_flow 9 = .ok (.ifCond .ne 5, 3) := by decide +kernel
theorem dX11_flow_12 : decode cX11_flow 12 = .ok (.iconst (-1), 1) := by decide +kernel
theorem dX11_flow_13 : decode cX11_flow 13 = .ok (.ireturn, 1) := by decide +kernel
theorem dX11_flow_14 : decode cX11_flow 14 = .ok (.aload_n 0, 1) := by decide +kernel
theorem dX11_flow_15 : decode cX11_flow 15 = .ok (.iload_n 1, 1) := by decide +kernel
theorem dX11_flow_16 : decode cX11_flow 16 = .ok (.invokevirtual 328, 3) := by decide +kernel
theorem dX11_flow_19 : decode cX11_flow 19 = .ok (.istore_n 2, 1) := by decide +kernel
theorem dX11_flow_20 : decode cX11_flow 20 = .ok (.iconst 0, 1) := by decide +kernel
theorem dX11_flow_21 : decode cX11_flow 21 = .ok (.istore_n 3, 1) := by decide +kernel
theorem dX11_flow_22 : decode cX11_flow 22 = .ok (.iconst 0, 1) := by decide +kernel
theorem dX11_flow_23 : decode cX11_flow 23 = .ok (.istore 4, 2) := by decide +kernel
theorem dX11_flow_25 : decode cX11_flow 25 = .ok (.iload 4, 2) := by decide +kernel
theorem dX11_flow_27 : decode cX11_flow 27 = .ok (.aload_n 0, 1) := by decide +kernel
theorem dX11_flow_28 : decode cX11_flow 28 = .ok (.getfield 139, 3) := by decide +kernel
theorem dX11_flow_31 : decode cX11_flow 31 = .ok (.if_icmp .ge 49, 3) := by decide +kernel
theorem dX11_flow_34 : decode cX11_flow 34 = .ok (.iload_n 3, 1) := by decide +kernel
theorem dX11_flow_35 : decode cX11_flow 35 = .ok (.iload_n 2, 1) := by decide +kernel
theorem dX11_flow_36 : decode cX11_flow 36 = .ok (.iload 4, 2) := by decide +kernel
theorem dX11_flow_38 : decode cX11_flow 38 = .ok (.invokestatic 291, 3) := by decide +kernel
theorem dX11_flow_41 : decode cX11_flow 41 = .ok (.ifCond .eq 30, 3) := by decide +kernel
theorem dX11_flow_44 : decode cX11_flow 44 = .ok (.aload_n 0, 1) := by decide +kernel
theorem dX11_flow_45 : decode cX11_flow 45 = .ok (.aload_n 0, 1) := by decide +kernel
theorem dX11_flow_46 : decode cX11_flow 46 = .ok (.iload 4, 2) := by decide +kernel
theorem dX11_flow_48 : decode cX11_flow 48 = .ok (.invokevirtual 374, 3) := by decide +kernel
theorem dX11_flow_51 : decode cX11_flow 51 = .ok (.invokevirtual 377, 3) := by decide +kernel
theorem dX11_flow_54 : decode cX11_flow 54 = .ok (.aload_n 0, 1) := by decide +kernel
theorem dX11_flow_55 : decode cX11_flow 55 = .ok (.getfield 35, 3) := by decide +kernel
theorem dX11_flow_58 : decode cX11_flow 58 = .ok (.iload 4, 2) := by decide +kernel
theorem dX11_flow_60 : decode cX11_flow 60 = .ok (.iaload, 1) := by decide +kernel
theorem dX11_flow_61 : decode cX11_flow 61 = .ok (.if_icmp .ge 10, 3) := by decide +kernel
theorem dX11_flow_64 : decode cX11_flow 64 = .ok (.iconst 1, 1) := by decide +kernel
theorem dX11_flow_65 : decode cX11_flow 65 = .ok (.iload 4, 2) := by decide +kernel
theorem dX11_flow_67 : decode cX11_flow 67 = .ok (.ishl, 1) := by decide +kernel
theorem dX11_flow_68 : decode cX11_flow 68 = .ok (.goto 4, 3) := by decide +kernel
theorem dX11_flow_71 : decode cX11_flow 71 = .ok (.iconst 0, 1) := by decide +kernel
theorem dX11_flow_72 : decode cX11_flow 72 = .ok (.ior, 1) := by decide +kernel
theorem dX11_flow_73 : decode cX11_flow 73 = .ok (.istore_n 3, 1) := by decide +kernel
theorem dX11_flow_74 : decode cX11_flow 74 = .ok (.iinc 4 1, 3) := by decide +kernel
theorem dX11_flow_77 : decode cX11_flow 77 = .ok (.goto (-52), 3) := by decide +kernel
theorem dX11_flow_80 : decode cX11_flow 80 = .ok (.aload_n 0, 1) := by decide +kernel
theorem dX11_flow_81 : decode cX11_flow 81 = .ok (.iconst 0, 1) := by decide +kernel
theorem dX11_flow_82 : decode cX11_flow 82 = .ok (.putfield 129, 3) := by decide +kernel
theorem dX11_flow_85 : decode cX11_flow 85 = .ok (.aload_n 0, 1) := by decide +kernel
theorem dX11_flow_86 : decode cX11_flow 86 = .ok (.iload_n 3, 1) := by decide +kernel
theorem dX11_flow_87 : decode cX11_flow 87 = .ok (.i2l, 1) := by decide +kernel
theorem dX11_flow_88 : decode cX11_flow 88 = .ok (.invokevirtual 294, 3) := by decide +kernel
theorem dX11_flow_91 : decode cX11_flow 91 = .ok (.aload_n 0, 1) := by decide +kernel
theorem dX11_flow_92 : decode cX11_flow 92 = .ok (.iload_n 2, 1) := by decide +kernel
theorem dX11_flow_93 : decode cX11_flow 93 = .ok (.invokevirtual 387, 3) := by decide +kernel
theorem dX11_flow_96 : decode cX11_flow 96 = .ok (.ireturn, 1) := by decide +kernel
theorem dX11_proof_0 : decode cX11_proof 0 = .ok (.aload_n 0, 1) := by decide +kernel
theorem dX11_proof_1 : decode cX11_proof 1 = .ok (.iconst 0, 1) := by decide +kernel
theorem dX11_proof_2 : decode cX11_proof 2 = .ok (.putfield 126, 3) := by decide +kernel
theorem dX11_proof_5 : decode cX11_proof 5 = .ok (.iload_n 1, 1) := by decide +kernel
theorem dX11_proof_6 : decode cX11_proof 6 = .ok (.invokestatic 355, 3) := by decide +kernel
theorem dX11_proof_9 : decode cX11_proof 9 = .ok (.ifCond .ne 5, 3) := by decide +kernel
theorem dX11_proof_12 : decode cX11_proof 12 = .ok (.iconst (-1), 1) := by decide +kernel
theorem dX11_proof_13 : decode cX11_proof 13 = .ok (.ireturn, 1) := by decide +kernel
theorem dX11_proof_14 : decode cX11_proof 14 = .ok (.aload_n 0, 1) := by decide +kernel
theorem dX11_proof_15 : decode cX11_proof 15 = .ok (.iload_n 1, 1) := by decide +kernel
theorem dX11_proof_16 : decode cX11_proof 16 = .ok (.invokevirtual 328, 3) := by decide +kernel
theorem dX11_proof_19 : decode cX11_proof 19 = .ok (.istore_n 2, 1) := by decide +kernel
theorem dX11_proof_20 : decode cX11_proof 20 = .ok (.aload_n 0, 1) := by decide +kernel
theorem dX11_proof_21 : decode cX11_proof 21 = .ok (.iload_n 2, 1) := by decide +kernel
theorem dX11_proof_22 : decode cX11_proof 22 = .ok (.invokevirtual 387, 3) := by decide +kernel
theorem dX11_proof_25 : decode cX11_proof 25 = .ok (.istore_n 3, 1) := by decide +kernel
theorem dX11_proof_26 : decode cX11_proof 26 = .ok (.iconst 0, 1) := by decide +kernel
theorem dX11_proof_27 : decode cX11_proof 27 = .ok (.istore 4, 2) := by decide +kernel
theorem dX11_proof_29 : decode cX11_proof 29 = .ok (.aload_n 0, 1) := by decide +kernel
theorem dX11_proof_30 : decode cX11_proof 30 = .ok (.iload 4, 2) := by decide +kernel
theorem dX11_proof_32 : decode cX11_proof 32 = .ok (.iload_n 2, 1) := by decide +kernel
theorem dX11_proof_33 : decode cX11_proof 33 = .ok (.invokevirtual 384, 3) := by decide +kernel
theorem dX11_proof_36 : decode cX11_proof 36 = .ok (.iload_n 3, 1) := by decide +kernel
theorem dX11_proof_37 : decode cX11_proof 37 = .ok (.if_icmp .eq 9, 3) := by decide +kernel
theorem dX11_proof_40 : decode cX11_proof 40 = .ok (.iinc 4 1, 3) := by decide +kernel
theorem dX11_proof_43 : decode cX11_proof 43 = .ok (.goto (-14), 3) := by decide +kernel
theorem dX11_proof_46 : decode cX11_proof 46 = .ok (.aload_n 0, 1) := by decide +kernel
theorem dX11_proof_47 : decode cX11_proof 47 = .ok (.iconst 0, 1) := by decide +kernel
theorem dX11_proof_48 : decode cX11_proof 48 = .ok (.putfield 129, 3) := by decide +kernel
theorem dX11_proof_51 : decode cX11_proof 51 = .ok (.aload_n 0, 1) := by decide +kernel
theorem dX11_proof_52 : decode cX11_proof 52 = .ok (.aload_n 0, 1) := by decide +kernel
theorem dX11_proof_53 : decode cX11_proof 53 = .ok (.aload_n 0, 1) := by decide +kernel
theorem dX11_proof_54 : decode cX11_proof 54 = .ok (.iload 4, 2) := by decide +kernel
theorem dX11_proof_56 : decode cX11_proof 56 = .ok (.iload_n 2, 1) := by decide +kernel
theorem dX11_proof_57 : decode cX11_proof 57 = .ok (.invokevirtual 380, 3) := by decide +kernel
theorem dX11_proof_60 : decode cX11_proof 60 = .ok (.invokevirtual 361, 3) := by decide +kernel
theorem dX11_proof_63 : decode cX11_proof 63 = .ok (.i2l, 1) := by decide +kernel
theorem dX11_proof_64 : decode cX11_proof 64 = .ok (.invokevirtual 294, 3) := by decide +kernel
theorem dX11_proof_67 : decode cX11_proof 67 = .ok (.aload_n 0, 1) := by decide +kernel
theorem dX11_proof_68 : decode cX11_proof 68 = .ok (.aload_n 0, 1) := by decide +kernel
theorem dX11_proof_69 : decode cX11_proof 69 = .ok (.iload 4, 2) := by decide +kernel
theorem dX11_proof_71 : decode cX11_proof 71 = .ok (.iload_n 2, 1) := by decide +kernel
theorem dX11_proof_72 : decode cX11_proof 72 = .ok (.invokevirtual 380, 3) := by decide +kernel
theorem dX11_proof_75 : decode cX11_proof 75 = .ok (.i2l, 1) := by decide +kernel
theorem dX11_proof_76 : decode cX11_proof 76 = .ok (.invokevirtual 294, 3) := by decide +kernel
theorem dX11_proof_79 : decode cX11_proof 79 = .ok (.iload 4, 2) := by decide +kernel
theorem dX11_proof_81 : decode cX11_proof 81 = .ok (.ireturn, 1) := by decide +kernel
theorem dX11_gap_0 : decode cX11_gap 0 = .ok (.aload_n 0, 1) := by decide +kernel
theorem dX11_gap_1 : decode cX11_gap 1 = .ok (.iconst 0, 1) := by decide +kernel
theorem dX11_gap_2 : decode cX11_gap 2 = .ok (.putfield 126, 3) := by decide +kernel
theorem dX11_gap_5 : decode cX11_gap 5 = .ok (.iload_n 1, 1) := by decide +kernel
theorem dX11_gap_6 : decode cX11_gap 6 = .ok (.i2l, 1) := by decide +kernel
theorem dX11_gap_7 : decode cX11_gap 7 = .ok (.lconst 0, 1) := by decide +kernel
theorem dX11_gap_8 : decode cX11_gap 8 = .ok (.ldc2_w 263, 3) := by decide +kernel
theorem dX11_gap_11 : decode cX11_gap 11 = .ok (.invokestatic 135, 3) := by decide +kernel
theorem dX11_gap_14 : decode cX11_gap 14 = .ok (.ifCond .eq 10, 3) := by decide +kernel
theorem dX11_gap_17 : decode cX11_gap 17 = .ok (.iload_n 2, 1) := by decide +kernel
theorem dX11_gap_18 : decode cX11_gap 18 = .ok (.invokestatic 355, 3) := by decide +kernel
theorem dX11_gap_21 : decode cX11_gap 21 = .ok (.ifCond .ne 5, 3) := by decide +kernel
theorem dX11_gap_24 : decode cX11_gap 24 = .ok (.iconst (-1), 1) := by decide +kernel
theorem dX11_gap_25 : decode cX11_gap 25 = .ok (.ireturn, 1) := by decide +kernel
theorem dX11_gap_26 : decode cX11_gap 26 = .ok (.aload_n 0, 1) := by decide +kernel
theorem dX11_gap_27 : decode cX11_gap 27 = .ok (.iload_n 2, 1) := by decide +kernel
theorem dX11_gap_28 : decode cX11_gap 28 = .ok (.invokevirtual 328, 3) := by decide +kernel
theorem dX11_gap_31 : decode cX11_gap 31 = .ok (.istore_n 3, 1) := by decide +kernel
theorem dX11_gap_32 : decode cX11_gap 32 = .ok (.aload_n 0, 1) := by decide +kernel
theorem dX11_gap_33 : decode cX11_gap 33 = .ok (.iload_n 3, 1) := by decide +kernel
theorem dX11_gap_34 : decode cX11_gap 34 = .ok (.invokevirtual 387, 3) := by decide +kernel
theorem dX11_gap_37 : decode cX11_gap 37 = .ok (.istore 4, 2) := by decide +kernel
theorem dX11_gap_39 : decode cX11_gap 39 = .ok (.aload_n 0, 1) := by decide +kernel
theorem dX11_gap_40 : decode cX11_gap 40 = .ok (.getfield 47, 3) := by decide +kernel
theorem dX11_gap_43 : decode cX11_gap 43 = .ok (.iconst 0, 1) := by decide +kernel
theorem dX11_gap_44 : decode cX11_gap 44 = .ok (.iaload, 1) := by decide +kernel
theorem dX11_gap_45 : decode cX11_gap 45 = .ok (.istore 5, 2) := by decide +kernel
theorem dX11_gap_47 : decode cX11_gap 47 = .ok (.aload_n 0, 1) := by decide +kernel
theorem dX11_gap_48 : decode cX11_gap 48 = .ok (.getfield 47, 3) := by decide +kernel
theorem dX11_gap_51 : decode cX11_gap 51 = .ok (.iconst 0, 1) := by decide +kernel
theorem dX11_gap_52 : decode cX11_gap 52 = .ok (.iload_n 1, 1) := by decide +kernel
theorem dX11_gap_53 : decode cX11_gap 53 = .ok (.iastore, 1) := by decide +kernel
theorem dX11_gap_54 : decode cX11_gap 54 = .ok (.aload_n 0, 1) := by decide +kernel
theorem dX11_gap_55 : decode cX11_gap 55 = .ok (.iload_n 3, 1) := by decide +kernel
theorem dX11_gap_56 : decode cX11_gap 56 = .ok (.invokevirtual 387, 3) := by decide +kernel
theorem dX11_gap_59 : decode cX11_gap 59 = .ok (.istore 6, 2) := by decide +kernel
theorem dX11_gap_61 : decode cX11_gap 61 = .ok (.aload_n 0, 1) := by decide +kernel
theorem dX11_gap_62 : decode cX11_gap 62 = .ok (.getfield 47, 3) := by decide +kernel
theorem dX11_gap_65 : decode cX11_gap 65 = .ok (.iconst 0, 1) := by decide +kernel
theorem dX11_gap_66 : decode cX11_gap 66 = .ok (.iload 5, 2) := by decide +kernel
theorem dX11_gap_68 : decode cX11_gap 68 = .ok (.iastore, 1) := by decide +kernel
theorem dX11_gap_69 : decode cX11_gap 69 = .ok (.iload 6, 2) := by decide +kernel
theorem dX11_gap_71 : decode cX11_gap 71 = .ok (.iload 4, 2) := by decide +kernel
theorem dX11_gap_73 : decode cX11_gap 73 = .ok (.isub, 1) := by decide +kernel
theorem dX11_gap_74 : decode cX11_gap 74 = .ok (.ireturn, 1) := by decide +kernel
theorem dX11_goDays_0 : decode cX11_goDays 0 = .ok (.aload_n 0, 1) := by decide +kernel
theorem dX11_goDays_1 : decode cX11_goDays 1 = .ok (.iconst 0, 1) := by decide +kernel
theorem dX11_goDays_2 : decode cX11_goDays 2 = .ok (.putfield 390, 3) := by decide +kernel
theorem dX11_goDays_5 : decode cX11_goDays 5 = .ok (.aload_n 0, 1) := by decide +kernel
theorem dX11_goDays_6 : decode cX11_goDays 6 = .ok (.iconst 0, 1) := by decide +kernel
theorem dX11_goDays_7 : decode cX11_goDays 7 = .ok (.putfield 393, 3) := by decide +kernel
theorem dX11_goDays_10 : decode cX11_goDays 10 = .ok (.aload_n 0, 1) := by decide +kernel
theorem dX11_goDays_11 : decode cX11_goDays 11 = .ok (.iconst 0, 1) := by decide +kernel
theorem dX11_goDays_12 : decode cX11_goDays 12 = .ok (.putfield 396, 3) := by decide +kernel
theorem dX11_goDays_15 : decode cX11_goDays 15 = .ok (.aload_n 0, 1) := by decide +kernel
theorem dX11_goDays_16 : decode cX11_goDays 16 = .ok (.iconst 0, 1) := by decide +kernel
theorem dX11_goDays_17 : decode cX11_goDays 17 = .ok (.putfield 399, 3) := by decide +kernel
theorem dX11_goDays_20 : decode cX11_goDays 20 = .ok (.iconst 0, 1) := by decide +kernel
theorem dX11_goDays_21 : decode cX11_goDays 21 = .ok (.istore_n 2, 1) := by decide +kernel
theorem dX11_goDays_22 : decode cX11_goDays 22 = .ok (.iload_n 2, 1) := by decide +kernel
theorem dX11_goDays_23 : decode cX11_goDays 23 = .ok (.iload_n 1, 1) := by decide +kernel
theorem dX11_goDays_24 : decode cX11_goDays 24 = .ok (.if_icmp .ge 84, 3) := by decide +kernel
theorem dX11_goDays_27 : decode cX11_goDays 27 = .ok (.aload_n 0, 1) := by decide +kernel
theorem dX11_goDays_28 : decode cX11_goDays 28 = .ok (.invokevirtual 275, 3) := by decide +kernel
theorem dX11_goDays_31 : decode cX11_goDays 31 = .ok (.iconst 0, 1) := by decide +kernel
theorem dX11_goDays_32 : decode cX11_goDays 32 = .ok (.istore_n 3, 1) := by decide +kernel
theorem dX11_goDays_33 : decode cX11_goDays 33 = .ok (.iload_n 3, 1) := by decide +kernel
theorem dX11_goDays_34 : decode cX11_goDays 34 = .ok (.aload_n 0, 1) := by decide +kernel
theorem dX11_goDays_35 : decode cX11_goDays 35 = .ok (.getfield 402, 3) := by decide +kernel
theorem dX11_goDays_38 : decode cX11_goDays 38 = .ok (.if_icmp .gt 54, 3) := by decide +kernel
theorem dX11_goDays_41 : decode cX11_goDays 41 = .ok (.iconst 0, 1) := by decide +kernel
theorem dX11_goDays_42 : decode cX11_goDays 42 = .ok (.istore 4, 2) := by decide +kernel
theorem dX11_goDays_44 : decode cX11_goDays 44 = .ok (.iload 4, 2) := by decide +kernel
theorem dX11_goDays_46 : decode cX11_goDays 46 = .ok (.aload_n 0, 1) := by decide +kernel
theorem dX11_goDays_47 : decode cX11_goDays 47 = .ok (.getfield 139, 3) := by decide +kernel
theorem dX11_goDays_50 : decode cX11_goDays 50 = .ok (.if_icmp .ge 36, 3) := by decide +kernel
theorem dX11_goDays_53 : decode cX11_goDays 53 = .ok (.aload_n 0, 1) := by decide +kernel
theorem dX11_goDays_54 : decode cX11_goDays 54 = .ok (.getfield 41, 3) := by decide +kernel
theorem dX11_goDays_57 : decode cX11_goDays 57 = .ok (.iload 4, 2) := by decide +kernel
theorem dX11_goDays_59 : decode cX11_goDays 59 = .ok (.iaload, 1) := by decide +kernel
theorem dX11_goDays_60 : decode cX11_goDays 60 = .ok (.ifCond .ne 20, 3) := by decide +kernel
theorem dX11_goDays_63 : decode cX11_goDays 63 = .ok (.aload_n 0, 1) := by decide +kernel
theorem dX11_goDays_64 : decode cX11_goDays 64 = .ok (.getfield 38, 3) := by decide +kernel
theorem dX11_goDays_67 : decode cX11_goDays 67 = .ok (.iload 4, 2) := by decide +kernel
theorem dX11_goDays_69 : decode cX11_goDays 69 = .ok (.iaload, 1) := by decide +kernel
theorem dX11_goDays_70 : decode cX11_goDays 70 = .ok (.iload_n 3, 1) := by decide +kernel
theorem dX11_goDays_71 : decode cX11_goDays 71 = .ok (.if_icmp .ne 9, 3) := by decide +kernel
theorem dX11_goDays_74 : decode cX11_goDays 74 = .ok (.aload_n 0, 1) := by decide +kernel
theorem dX11_goDays_75 : decode cX11_goDays 75 = .ok (.iload 4, 2) := by decide +kernel
theorem dX11_goDays_77 : decode cX11_goDays 77 = .ok (.invokevirtual 405, 3) := by decide +kernel
theorem dX11_goDays_80 : decode cX11_goDays 80 = .ok (.iinc 4 1, 3) := by decide +kernel
theorem dX11_goDays_83 : decode cX11_goDays 83 = .ok (.goto (-39), 3) := by decide +kernel
theorem dX11_goDays_86 : decode cX11_goDays 86 = .ok (.iinc 3 1, 3) := by decide +kernel
theorem dX11_goDays_89 : decode cX11_goDays 89 = .ok (.goto (-56), 3) := by decide +kernel
theorem dX11_goDays_92 : decode cX11_goDays 92 = .ok (.aload_n 0, 1) := by decide +kernel
theorem dX11_goDays_93 : decode cX11_goDays 93 = .ok (.dup, 1) := by decide +kernel
theorem dX11_goDays_94 : decode cX11_goDays 94 = .ok (.getfield 402, 3) := by decide +kernel
theorem dX11_goDays_97 : decode cX11_goDays 97 = .ok (.iconst 1, 1) := by decide +kernel
theorem dX11_goDays_98 : decode cX11_goDays 98 = .ok (.iadd, 1) := by decide +kernel
theorem dX11_goDays_99 : decode cX11_goDays 99 = .ok (.putfield 402, 3) := by decide +kernel
theorem dX11_goDays_102 : decode cX11_goDays 102 = .ok (.iinc 2 1, 3) := by decide +kernel
theorem dX11_goDays_105 : decode cX11_goDays 105 = .ok (.goto (-83), 3) := by decide +kernel
theorem dX11_goDays_108 : decode cX11_goDays 108 = .ok (.return_, 1) := by decide +kernel
theorem dX11_goDebt_0 : decode cX11_goDebt 0 = .ok (.aload_n 0, 1) := by decide +kernel
theorem dX11_goDebt_1 : decode cX11_goDebt 1 = .ok (.iload_n 1, 1) := by decide +kernel
theorem dX11_goDebt_2 : decode cX11_goDebt 2 = .ok (.invokevirtual 301, 3) := by decide +kernel
theorem dX11_goDebt_5 : decode cX11_goDebt 5 = .ok (.istore_n 2, 1) := by decide +kernel
theorem dX11_goDebt_6 : decode cX11_goDebt 6 = .ok (.iload_n 2, 1) := by decide +kernel
theorem dX11_goDebt_7 : decode cX11_goDebt 7 = .ok (.ifCond .lt 46, 3) := by decide +kernel
theorem dX11_goDebt_10 : decode cX11_goDebt 10 = .ok (.aload_n 0, 1) := by decide +kernel
theorem dX11_goDebt_11 : decode cX11_goDebt 11 = .ok (.dup, 1) := by decide +kernel
theorem dX11_goDebt_12 : decode cX11_goDebt 12 = .ok (.getfield 390, 3) := by decide +kernel
theorem dX11_goDebt_15 : decode cX11_goDebt 15 = .ok (.aload_n 0, 1) := by decide +kernel
theorem dX11_goDebt_16 : decode cX11_goDebt 16 = .ok (.iload_n 2, 1) := by decide +kernel
theorem dX11_goDebt_17 : decode cX11_goDebt 17 = .ok (.iload_n 1, 1) := by decide +kernel
theorem dX11_goDebt_18 : decode cX11_goDebt 18 = .ok (.invokevirtual 304, 3) := by decide +kernel
theorem dX11_goDebt_21 : decode cX11_goDebt 21 = .ok (.iadd, 1) := by decide +kernel
theorem dX11_goDebt_22 : decode cX11_goDebt 22 = .ok (.putfield 390, 3) := by decide +kernel
theorem dX11_goDebt_25 : decode cX11_goDebt 25 = .ok (.aload_n 0, 1) := by decide +kernel
theorem dX11_goDebt_26 : decode cX11_goDebt 26 = .ok (.dup, 1) := by decide +kernel
theorem dX11_goDebt_27 : decode cX11_goDebt 27 = .ok (.getfield 393, 3) := by decide +kernel
theorem dX11_goDebt_30 : decode cX11_goDebt 30 = .ok (.aload_n 0, 1) := by decide +kernel
theorem dX11_goDebt_31 : decode cX11_goDebt 31 = .ok (.getfield 35, 3) := by decide +kernel
theorem dX11_goDebt_34 : decode cX11_goDebt 34 = .ok (.iload_n 1, 1) := by decide +kernel
theorem dX11_goDebt_35 : decode cX11_goDebt 35 = .ok (.iaload, 1) := by decide +kernel
theorem dX11_goDebt_36 : decode cX11_goDebt 36 = .ok (.iadd, 1) := by decide +kernel
theorem dX11_goDebt_37 : decode cX11_goDebt 37 = .ok (.putfield 393, 3) := by decide +kernel
theorem dX11_goDebt_40 : decode cX11_goDebt 40 = .ok (.aload_n 0, 1) := by decide +kernel
theorem dX11_goDebt_41 : decode cX11_goDebt 41 = .ok (.dup, 1) := by decide +kernel
theorem dX11_goDebt_42 : decode cX11_goDebt 42 = .ok (.getfield 396, 3) := by decide +kernel
theorem dX11_goDebt_45 : decode cX11_goDebt 45 = .ok (.iconst 1, 1) := by decide +kernel
theorem dX11_goDebt_46 : decode cX11_goDebt 46 = .ok (.iadd, 1) := by decide +kernel
theorem dX11_goDebt_47 : decode cX11_goDebt 47 = .ok (.putfield 396, 3) := by decide +kernel
theorem dX11_goDebt_50 : decode cX11_goDebt 50 = .ok (.goto 42, 3) := by decide +kernel
theorem dX11_goDebt_53 : decode cX11_goDebt 53 = .ok (.aload_n 0, 1) := by decide +kernel
theorem dX11_goDebt_54 : decode cX11_goDebt 54 = .ok (.getfield 402, 3) := by decide +kernel
theorem dX11_goDebt_57 : decode cX11_goDebt 57 = .ok (.aload_n 0, 1) := by decide +kernel
theorem dX11_goDebt_58 : decode cX11_goDebt 58 = .ok (.getfield 38, 3) := by decide +kernel
theorem dX11_goDebt_61 : decode cX11_goDebt 61 = .ok (.iload_n 1, 1) := by decide +kernel
theorem dX11_goDebt_62 : decode cX11_goDebt 62 = .ok (.iaload, 1) := by decide +kernel
theorem dX11_goDebt_63 : decode cX11_goDebt 63 = .ok (.aload_n 0, 1) := by decide +kernel
theorem dX11_goDebt_64 : decode cX11_goDebt 64 = .ok (.getfield 47, 3) := by decide +kernel
theorem dX11_goDebt_67 : decode cX11_goDebt 67 = .ok (.iconst 3, 1) := by decide +kernel
theorem dX11_goDebt_68 : decode cX11_goDebt 68 = .ok (.iaload, 1) := by decide +kernel
theorem dX11_goDebt_69 : decode cX11_goDebt 69 = .ok (.iadd, 1) := by decide +kernel
theorem dX11_goDebt_70 : decode cX11_goDebt 70 = .ok (.if_icmp .lt 22, 3) := by decide +kernel
theorem dX11_goDebt_73 : decode cX11_goDebt 73 = .ok (.aload_n 0, 1) := by decide +kernel
theorem dX11_goDebt_74 : decode cX11_goDebt 74 = .ok (.getfield 41, 3) := by decide +kernel
theorem dX11_goDebt_77 : decode cX11_goDebt 77 = .ok (.iload_n 1, 1) := by decide +kernel
theorem dX11_goDebt_78 : decode cX11_goDebt 78 = .ok (.iconst 2, 1) := by decide +kernel
theorem dX11_goDebt_79 : decode cX11_goDebt 79 = .ok (.iastore, 1) := by decide +kernel
theorem dX11_goDebt_80 : decode cX11_goDebt 80 = .ok (.aload_n 0, 1) := by decide +kernel
theorem dX11_goDebt_81 : decode cX11_goDebt 81 = .ok (.dup, 1) := by decide +kernel
theorem dX11_goDebt_82 : decode cX11_goDebt 82 = .ok (.getfield 399, 3) := by decide +kernel
theorem dX11_goDebt_85 : decode cX11_goDebt 85 = .ok (.iconst 1, 1) := by decide +kernel
theorem dX11_goDebt_86 : decode cX11_goDebt 86 = .ok (.iload_n 1, 1) := by decide +kernel
theorem dX11_goDebt_87 : decode cX11_goDebt 87 = .ok (.ishl, 1) := by decide +kernel
theorem dX11_goDebt_88 : decode cX11_goDebt 88 = .ok (.ior, 1) := by decide +kernel
theorem dX11_goDebt_89 : decode cX11_goDebt 89 = .ok (.putfield 399, 3) := by decide +kernel
theorem dX11_goDebt_92 : decode cX11_goDebt 92 = .ok (.return_, 1) := by decide +kernel
theorem dX11_days_0 : decode cX11_days 0 = .ok (.aload_n 0, 1) := by decide +kernel
theorem dX11_days_1 : decode cX11_days 1 = .ok (.iconst 0, 1) := by decide +kernel
theorem dX11_days_2 : decode cX11_days 2 = .ok (.putfield 126, 3) := by decide +kernel
theorem dX11_days_5 : decode cX11_days 5 = .ok (.iload_n 1, 1) := by decide +kernel
theorem dX11_days_6 : decode cX11_days 6 = .ok (.i2l, 1) := by decide +kernel
theorem dX11_days_7 : decode cX11_days 7 = .ok (.lconst 0, 1) := by decide +kernel
theorem dX11_days_8 : decode cX11_days 8 = .ok (.ldc2_w 408, 3) := by decide +kernel
theorem dX11_days_11 : decode cX11_days 11 = .ok (.invokestatic 135, 3) := by decide +kernel
theorem dX11_days_14 : decode cX11_days 14 = .ok (.ifCond .ne 5, 3) := by decide +kernel
theorem dX11_days_17 : decode cX11_days 17 = .ok (.iconst (-1), 1) := by decide +kernel
theorem dX11_days_18 : decode cX11_days 18 = .ok (.ireturn, 1) := by decide +kernel
theorem dX11_days_19 : decode cX11_days 19 = .ok (.aload_n 0, 1) := by decide +kernel
theorem dX11_days_20 : decode cX11_days 20 = .ok (.iload_n 1, 1) := by decide +kernel
theorem dX11_days_21 : decode cX11_days 21 = .ok (.invokevirtual 410, 3) := by decide +kernel
theorem dX11_days_24 : decode cX11_days 24 = .ok (.aload_n 0, 1) := by decide +kernel
theorem dX11_days_25 : decode cX11_days 25 = .ok (.iconst 0, 1) := by decide +kernel
theorem dX11_days_26 : decode cX11_days 26 = .ok (.putfield 198, 3) := by decide +kernel
theorem dX11_days_29 : decode cX11_days 29 = .ok (.aload_n 0, 1) := by decide +kernel
theorem dX11_days_30 : decode cX11_days 30 = .ok (.iconst 0, 1) := by decide +kernel
theorem dX11_days_31 : decode cX11_days 31 = .ok (.putfield 129, 3) := by decide +kernel
theorem dX11_days_34 : decode cX11_days 34 = .ok (.aload_n 0, 1) := by decide +kernel
theorem dX11_days_35 : decode cX11_days 35 = .ok (.aload_n 0, 1) := by decide +kernel
theorem dX11_days_36 : decode cX11_days 36 = .ok (.getfield 390, 3) := by decide +kernel
theorem dX11_days_39 : decode cX11_days 39 = .ok (.i2l, 1) := by decide +kernel
theorem dX11_days_40 : decode cX11_days 40 = .ok (.invokevirtual 294, 3) := by decide +kernel
theorem dX11_days_43 : decode cX11_days 43 = .ok (.aload_n 0, 1) := by decide +kernel
theorem dX11_days_44 : decode cX11_days 44 = .ok (.aload_n 0, 1) := by decide +kernel
theorem dX11_days_45 : decode cX11_days 45 = .ok (.getfield 399, 3) := by decide +kernel
theorem dX11_days_48 : decode cX11_days 48 = .ok (.invokestatic 337, 3) := by decide +kernel
theorem dX11_days_51 : decode cX11_days 51 = .ok (.i2l, 1) := by decide +kernel
theorem dX11_days_52 : decode cX11_days 52 = .ok (.invokevirtual 294, 3) := by decide +kernel
theorem dX11_days_55 : decode cX11_days 55 = .ok (.aload_n 0, 1) := by decide +kernel
theorem dX11_days_56 : decode cX11_days 56 = .ok (.getfield 396, 3) := by decide +kernel
theorem dX11_days_59 : decode cX11_days 59 = .ok (.ireturn, 1) := by decide +kernel
theorem dX11_lay_0 : decode cX11_lay 0 = .ok (.iload_n 2, 1) := by decide +kernel
theorem dX11_lay_1 : decode cX11_lay 1 = .ok (.istore_n 3, 1) := by decide +kernel
theorem dX11_lay_2 : decode cX11_lay 2 = .ok (.iconst 0, 1) := by decide +kernel
theorem dX11_lay_3 : decode cX11_lay 3 = .ok (.istore 4, 2) := by decide +kernel
theorem dX11_lay_5 : decode cX11_lay 5 = .ok (.iload 4, 2) := by decide +kernel
theorem dX11_lay_7 : decode cX11_lay 7 = .ok (.bipush 8, 2) := by decide +kernel
theorem dX11_lay_9 : decode cX11_lay 9 = .ok (.if_icmp .ge 34, 3) := by decide +kernel
theorem dX11_lay_12 : decode cX11_lay 12 = .ok (.aload_n 1, 1) := by decide +kernel
theorem dX11_lay_13 : decode cX11_lay 13 = .ok (.iload_n 3, 1) := by decide +kernel
theorem dX11_lay_14 : decode cX11_lay 14 = .ok (.aload_n 0, 1) := by decide +kernel
theorem dX11_lay_15 : decode cX11_lay 15 = .ok (.getfield 9, 3) := by decide +kernel
theorem dX11_lay_18 : decode cX11_lay 18 = .ok (.iload 4, 2) := by decide +kernel
theorem dX11_lay_20 : decode cX11_lay 20 = .ok (.iaload, 1) := by decide +kernel
theorem dX11_lay_21 : decode cX11_lay 21 = .ok (.iastore, 1) := by decide +kernel
theorem dX11_lay_22 : decode cX11_lay 22 = .ok (.aload_n 1, 1) := by decide +kernel
theorem dX11_lay_23 : decode cX11_lay 23 = .ok (.iload_n 3, 1) := by decide +kernel
theorem dX11_lay_24 : decode cX11_lay 24 = .ok (.iconst 1, 1) := by decide +kernel
theorem dX11_lay_25 : decode cX11_lay 25 = .ok (.iadd, 1) := by decide +kernel
theorem dX11_lay_26 : decode cX11_lay 26 = .ok (.aload_n 0, 1) := by decide +kernel
theorem dX11_lay_27 : decode cX11_lay 27 = .ok (.getfield 23, 3) := by decide +kernel
theorem dX11_lay_30 : decode cX11_lay 30 = .ok (.iload 4, 2) := by decide +kernel
theorem dX11_lay_32 : decode cX11_lay 32 = .ok (.iaload, 1) := by decide +kernel
theorem dX11_lay_33 : decode cX11_lay 33 = .ok (.iastore, 1) := by decide +kernel
theorem dX11_lay_34 : decode cX11_lay 34 = .ok (.iinc 3 2, 3) := by decide +kernel
theorem dX11_lay_37 : decode cX11_lay 37 = .ok (.iinc 4 1, 3) := by decide +kernel
theorem dX11_lay_40 : decode cX11_lay 40 = .ok (.goto (-35), 3) := by decide +kernel
theorem dX11_lay_43 : decode cX11_lay 43 = .ok (.aload_n 0, 1) := by decide +kernel
theorem dX11_lay_44 : decode cX11_lay 44 = .ok (.getfield 26, 3) := by decide +kernel
theorem dX11_lay_47 : decode cX11_lay 47 = .ok (.astore 4, 2) := by decide +kernel
theorem dX11_lay_49 : decode cX11_lay 49 = .ok (.aload 4, 2) := by decide +kernel
theorem dX11_lay_51 : decode cX11_lay 51 = .ok (.arraylength, 1) := by decide +kernel
theorem dX11_lay_52 : decode cX11_lay 52 = .ok (.istore 5, 2) := by decide +kernel
theorem dX11_lay_54 : decode cX11_lay 54 = .ok (.iconst 0, 1) := by decide +kernel
theorem dX11_lay_55 : decode cX11_lay 55 = .ok (.istore 6, 2) := by decide +kernel
theorem dX11_lay_57 : decode cX11_lay 57 = .ok (.iload 6, 2) := by decide +kernel
theorem dX11_lay_59 : decode cX11_lay 59 = .ok (.iload 5, 2) := by decide +kernel
theorem dX11_lay_61 : decode cX11_lay 61 = .ok (.if_icmp .ge 24, 3) := by decide +kernel
theorem dX11_lay_64 : decode cX11_lay 64 = .ok (.aload 4, 2) := by decide +kernel
theorem dX11_lay_66 : decode cX11_lay 66 = .ok (.iload 6, 2) := by decide +kernel
theorem dX11_lay_68 : decode cX11_lay 68 = .ok (.iaload, 1) := by decide +kernel
theorem dX11_lay_69 : decode cX11_lay 69 = .ok (.istore 7, 2) := by decide +kernel
theorem dX11_lay_71 : decode cX11_lay 71 = .ok (.aload_n 1, 1) := by decide +kernel
theorem dX11_lay_72 : decode cX11_lay 72 = .ok (.iload_n 3, 1) := by decide +kernel
theorem dX11_lay_73 : decode cX11_lay 73 = .ok (.iinc 3 1, 3) := by decide +kernel
theorem dX11_lay_76 : decode cX11_lay 76 = .ok (.iload 7, 2) := by decide +kernel
theorem dX11_lay_78 : decode cX11_lay 78 = .ok (.iastore, 1) := by decide +kernel
theorem dX11_lay_79 : decode cX11_lay 79 = .ok (.iinc 6 1, 3) := by decide +kernel
theorem dX11_lay_82 : decode cX11_lay 82 = .ok (.goto (-25), 3) := by decide +kernel
theorem dX11_lay_85 : decode cX11_lay 85 = .ok (.iconst 0, 1) := by decide +kernel
theorem dX11_lay_86 : decode cX11_lay 86 = .ok (.istore 4, 2) := by decide +kernel
theorem dX11_lay_88 : decode cX11_lay 88 = .ok (.iload 4, 2) := by decide +kernel
theorem dX11_lay_90 : decode cX11_lay 90 = .ok (.bipush 10, 2) := by decide +kernel
theorem dX11_lay_92 : decode cX11_lay 92 = .ok (.if_icmp .ge 34, 3) := by decide +kernel
theorem dX11_lay_95 : decode cX11_lay 95 = .ok (.aload_n 1, 1) := by decide +kernel
theorem dX11_lay_96 : decode cX11_lay 96 = .ok (.iload_n 3, 1) := by decide +kernel
theorem dX11_lay_97 : decode cX11_lay 97 = .ok (.aload_n 0, 1) := by decide +kernel
theorem dX11_lay_98 : decode cX11_lay 98 = .ok (.getfield 41, 3) := by decide +kernel
theorem dX11_lay_101 : decode cX11_lay 101 = .ok (.iload 4, 2) := by decide +kernel
theorem dX11_lay_103 : decode cX11_lay 103 = .ok (.iaload, 1) := by decide +kernel
theorem dX11_lay_104 : decode cX11_lay 104 = .ok (.iastore, 1) := by decide +kernel
theorem dX11_lay_105 : decode cX11_lay 105 = .ok (.aload_n 1, 1) := by decide +kernel
theorem dX11_lay_106 : decode cX11_lay 106 = .ok (.iload_n 3, 1) := by decide +kernel
theorem dX11_lay_107 : decode cX11_lay 107 = .ok (.iconst 1, 1) := by decide +kernel
theorem dX11_lay_108 : decode cX11_lay 108 = .ok (.iadd, 1) := by decide +kernel
theorem dX11_lay_109 : decode cX11_lay 109 = .ok (.aload_n 0, 1) := by decide +kernel
theorem dX11_lay_110 : decode cX11_lay 110 = .ok (.getfield 44, 3) := by decide +kernel
theorem dX11_lay_113 : decode cX11_lay 113 = .ok (.iload 4, 2) := by decide +kernel
theorem dX11_lay_115 : decode cX11_lay 115 = .ok (.iaload, 1) := by decide +kernel
theorem dX11_lay_116 : decode cX11_lay 116 = .ok (.iastore, 1) := by decide +kernel
theorem dX11_lay_117 : decode cX11_lay 117 = .ok (.iinc 3 2, 3) := by decide +kernel
theorem dX11_lay_120 : decode cX11_lay 120 = .ok (.iinc 4 1, 3) := by decide +kernel
theorem dX11_lay_123 : decode cX11_lay 123 = .ok (.goto (-35), 3) := by decide +kernel
theorem dX11_lay_126 : decode cX11_lay 126 = .ok (.aload_n 1, 1) := by decide +kernel
theorem dX11_lay_127 : decode cX11_lay 127 = .ok (.iload_n 3, 1) := by decide +kernel
theorem dX11_lay_128 : decode cX11_lay 128 = .ok (.aload_n 0, 1) := by decide +kernel
theorem dX11_lay_129 : decode cX11_lay 129 = .ok (.getfield 402, 3) := by decide +kernel
theorem dX11_lay_132 : decode cX11_lay 132 = .ok (.iastore, 1) := by decide +kernel
theorem dX11_lay_133 : decode cX11_lay 133 = .ok (.return_, 1) := by decide +kernel
theorem dX11_bring_0 : decode cX11_bring 0 = .ok (.iload_n 2, 1) := by decide +kernel
theorem dX11_bring_1 : decode cX11_bring 1 = .ok (.istore_n 3, 1) := by decide +kernel
theorem dX11_bring_2 : decode cX11_bring 2 = .ok (.iconst 0, 1) := by decide +kernel
theorem dX11_bring_3 : decode cX11_bring 3 = .ok (.istore 4, 2) := by decide +kernel
theorem dX11_bring_5 : decode cX11_bring 5 = .ok (.iload 4, 2) := by decide +kernel
theorem dX11_bring_7 : decode cX11_bring 7 = .ok (.bipush 8, 2) := by decide +kernel
theorem dX11_bring_9 : decode cX11_bring 9 = .ok (.if_icmp .ge 34, 3) := by decide +kernel
theorem dX11_bring_12 : decode cX11_bring 12 = .ok (.aload_n 0, 1) := by decide +kernel
theorem dX11_bring_13 : decode cX11_bring 13 = .ok (.getfield 9, 3) := by decide +kernel
theorem dX11_bring_16 : decode cX11_bring 16 = .ok (.iload 4, 2) := by decide +kernel
theorem dX11_bring_18 : decode cX11_bring 18 = .ok (.aload_n 1, 1) := by decide +kernel
theorem dX11_bring_19 : decode cX11_bring 19 = .ok (.iload_n 3, 1) := by decide +kernel
theorem dX11_bring_20 : decode cX11_bring 20 = .ok (.iaload, 1) := by decide +kernel
theorem dX11_bring_21 : decode cX11_bring 21 = .ok (.iastore, 1) := by decide +kernel
theorem dX11_bring_22 : decode cX11_bring 22 = .ok (.aload_n 0, 1) := by decide +kernel
theorem dX11_bring_23 : decode cX11_bring 23 = .ok (.getfield 23, 3) := by decide +kernel
theorem dX11_bring_26 : decode cX11_bring 26 = .ok (.iload 4, 2) := by decide +kernel
theorem dX11_bring_28 : decode cX11_bring 28 = .ok (.aload_n 1, 1) := by decide +kernel
theorem dX11_bring_29 : decode cX11_bring 29 = .ok (.iload_n 3, 1) := by decide +kernel
theorem dX11_bring_30 : decode cX11_bring 30 = .ok (.iconst 1, 1) := by decide +kernel
theorem dX11_bring_31 : decode cX11_bring 31 = .ok (.iadd, 1) := by decide +kernel
theorem dX11_bring_32 : decode cX11_bring 32 = .ok (.iaload, 1) := by decide +kernel
theorem dX11_bring_33 : decode cX11_bring 33 = .ok (.iastore, 1) := by decide +kernel
theorem dX11_bring_34 : decode cX11_bring 34 = .ok (.iinc 3 2, 3) := by decide +kernel
theorem dX11_bring_37 : decode cX11_bring 37 = .ok (.iinc 4 1, 3) := by decide +kernel
theorem dX11_bring_40 : decode cX11_bring 40 = .ok (.goto (-35), 3) := by decide +kernel
theorem dX11_bring_43 : decode cX11_bring 43 = .ok (.iconst 0, 1) := by decide +kernel
theorem dX11_bring_44 : decode cX11_bring 44 = .ok (.istore 4, 2) := by decide +kernel
theorem dX11_bring_46 : decode cX11_bring 46 = .ok (.iload 4, 2) := by decide +kernel
theorem dX11_bring_48 : decode cX11_bring 48 = .ok (.bipush 64, 2) := by decide +kernel
theorem dX11_bring_50 : decode cX11_bring 50 = .ok (.if_icmp .ge 22, 3) := by decide +kernel
theorem dX11_bring_53 : decode cX11_bring 53 = .ok (.aload_n 0, 1) := by decide +kernel
theorem dX11_bring_54 : decode cX11_bring 54 = .ok (.getfield 26, 3) := by decide +kernel
theorem dX11_bring_57 : decode cX11_bring 57 = .ok (.iload 4, 2) := by decide +kernel
theorem dX11_bring_59 : decode cX11_bring 59 = .ok (.aload_n 1, 1) := by decide +kernel
theorem dX11_bring_60 : decode cX11_bring 60 = .ok (.iload_n 3, 1) := by decide +kernel
theorem dX11_bring_61 : decode cX11_bring 61 = .ok (.iinc 3 1, 3) := by decide +kernel
theorem dX11_bring_64 : decode cX11_bring 64 = .ok (.iaload, 1) := by decide +kernel
theorem dX11_bring_65 : decode cX11_bring 65 = .ok (.iastore, 1) := by decide +kernel
theorem dX11_bring_66 : decode cX11_bring 66 = .ok (.iinc 4 1, 3) := by decide +kernel
theorem dX11_bring_69 : decode cX11_bring 69 = .ok (.goto (-23), 3) := by decide +kernel
theorem dX11_bring_72 : decode cX11_bring 72 = .ok (.iconst 0, 1) := by decide +kernel
theorem dX11_bring_73 : decode cX11_bring 73 = .ok (.istore 4, 2) := by decide +kernel
theorem dX11_bring_75 : decode cX11_bring 75 = .ok (.iload 4, 2) := by decide +kernel
theorem dX11_bring_77 : decode cX11_bring 77 = .ok (.bipush 10, 2) := by decide +kernel
theorem dX11_bring_79 : decode cX11_bring 79 = .ok (.if_icmp .ge 34, 3) := by decide +kernel
theorem dX11_bring_82 : decode cX11_bring 82 = .ok (.aload_n 0, 1) := by decide +kernel
theorem dX11_bring_83 : decode cX11_bring 83 = .ok (.getfield 41, 3) := by decide +kernel
theorem dX11_bring_86 : decode cX11_bring 86 = .ok (.iload 4, 2) := by decide +kernel
theorem dX11_bring_88 : decode cX11_bring 88 = .ok (.aload_n 1, 1) := by decide +kernel
theorem dX11_bring_89 : decode cX11_bring 89 = .ok (.iload_n 3, 1) := by decide +kernel
theorem dX11_bring_90 : decode cX11_bring 90 = .ok (.iaload, 1) := by decide +kernel
theorem dX11_bring_91 : decode cX11_bring 91 = .ok (.iastore, 1) := by decide +kernel
theorem dX11_bring_92 : decode cX11_bring 92 = .ok (.aload_n 0, 1) := by decide +kernel
theorem dX11_bring_93 : decode cX11_bring 93 = .ok (.getfield 44, 3) := by decide +kernel
theorem dX11_bring_96 : decode cX11_bring 96 = .ok (.iload 4, 2) := by decide +kernel
theorem dX11_bring_98 : decode cX11_bring 98 = .ok (.aload_n 1, 1) := by decide +kernel
theorem dX11_bring_99 : decode cX11_bring 99 = .ok (.iload_n 3, 1) := by decide +kernel
theorem dX11_bring_100 : decode cX11_bring 100 = .ok (.iconst 1, 1) := by decide +kernel
theorem dX11_bring_101 : decode cX11_bring 101 = .ok (.iadd, 1) := by decide +kernel
theorem dX11_bring_102 : decode cX11_bring 102 = .ok (.iaload, 1) := by decide +kernel
theorem dX11_bring_103 : decode cX11_bring 103 = .ok (.iastore, 1) := by decide +kernel
theorem dX11_bring_104 : decode cX11_bring 104 = .ok (.iinc 3 2, 3) := by decide +kernel
theorem dX11_bring_107 : decode cX11_bring 107 = .ok (.iinc 4 1, 3) := by decide +kernel
theorem dX11_bring_110 : decode cX11_bring 110 = .ok (.goto (-35), 3) := by decide +kernel
theorem dX11_bring_113 : decode cX11_bring 113 = .ok (.aload_n 0, 1) := by decide +kernel
theorem dX11_bring_114 : decode cX11_bring 114 = .ok (.aload_n 1, 1) := by decide +kernel
theorem dX11_bring_115 : decode cX11_bring 115 = .ok (.iload_n 3, 1) := by decide +kernel
theorem dX11_bring_116 : decode cX11_bring 116 = .ok (.iaload, 1) := by decide +kernel
theorem dX11_bring_117 : decode cX11_bring 117 = .ok (.putfield 402, 3) := by decide +kernel
theorem dX11_bring_120 : decode cX11_bring 120 = .ok (.return_, 1) := by decide +kernel
theorem dX11_best_0 : decode cX11_best 0 = .ok (.aload_n 0, 1) := by decide +kernel
theorem dX11_best_1 : decode cX11_best 1 = .ok (.iconst 0, 1) := by decide +kernel
theorem dX11_best_2 : decode cX11_best 2 = .ok (.putfield 126, 3) := by decide +kernel
theorem dX11_best_5 : decode cX11_best 5 = .ok (.iload_n 1, 1) := by decide +kernel
theorem dX11_best_6 : decode cX11_best 6 = .ok (.i2l, 1) := by decide +kernel
theorem dX11_best_7 : decode cX11_best 7 = .ok (.lconst 0, 1) := by decide +kernel
theorem dX11_best_8 : decode cX11_best 8 = .ok (.ldc2_w 408, 3) := by decide +kernel
theorem dX11_best_11 : decode cX11_best 11 = .ok (.invokestatic 135, 3) := by decide +kernel
theorem dX11_best_14 : decode cX11_best 14 = .ok (.ifCond .ne 5, 3) := by decide +kernel
theorem dX11_best_17 : decode cX11_best 17 = .ok (.iconst (-1), 1) := by decide +kernel
theorem dX11_best_18 : decode cX11_best 18 = .ok (.ireturn, 1) := by decide +kernel
theorem dX11_best_19 : decode cX11_best 19 = .ok (.aload_n 0, 1) := by decide +kernel
theorem dX11_best_20 : decode cX11_best 20 = .ok (.getfield 47, 3) := by decide +kernel
theorem dX11_best_23 : decode cX11_best 23 = .ok (.iconst 0, 1) := by decide +kernel
theorem dX11_best_24 : decode cX11_best 24 = .ok (.iaload, 1) := by decide +kernel
theorem dX11_best_25 : decode cX11_best 25 = .ok (.istore_n 2, 1) := by decide +kernel
theorem dX11_best_26 : decode cX11_best 26 = .ok (.iconst 0, 1) := by decide +kernel
theorem dX11_best_27 : decode cX11_best 27 = .ok (.istore_n 3, 1) := by decide +kernel
theorem dX11_best_28 : decode cX11_best 28 = .ok (.aload_n 0, 1) := by decide +kernel
theorem dX11_best_29 : decode cX11_best 29 = .ok (.aload_n 0, 1) := by decide +kernel
theorem dX11_best_30 : decode cX11_best 30 = .ok (.getfield 114, 3) := by decide +kernel
theorem dX11_best_33 : decode cX11_best 33 = .ok (.iconst 0, 1) := by decide +kernel
theorem dX11_best_34 : decode cX11_best 34 = .ok (.invokevirtual 413, 3) := by decide +kernel
theorem dX11_best_37 : decode cX11_best 37 = .ok (.iconst 0, 1) := by decide +kernel
theorem dX11_best_38 : decode cX11_best 38 = .ok (.istore 4, 2) := by decide +kernel
theorem dX11_best_40 : decode cX11_best 40 = .ok (.iload 4, 2) := by decide +kernel
theorem dX11_best_42 : decode cX11_best 42 = .ok (.iconst 4, 1) := by decide +kernel
theorem dX11_best_43 : decode cX11_best 43 = .ok (.if_icmp .ge 61, 3) := by decide +kernel
theorem dX11_best_46 : decode cX11_best 46 = .ok (.aload_n 0, 1) := by decide +kernel
theorem dX11_best_47 : decode cX11_best 47 = .ok (.getfield 47, 3) := by decide +kernel
theorem dX11_best_50 : decode cX11_best 50 = .ok (.iconst 0, 1) := by decide +kernel
theorem dX11_best_51 : decode cX11_best 51 = .ok (.iload 4, 2) := by decide +kernel
theorem dX11_best_53 : decode cX11_best 53 = .ok (.iastore, 1) := by decide +kernel
theorem dX11_best_54 : decode cX11_best 54 = .ok (.aload_n 0, 1) := by decide +kernel
theorem dX11_best_55 : decode cX11_best 55 = .ok (.iload_n 1, 1) := by decide +kernel
theorem dX11_best_56 : decode cX11_best 56 = .ok (.invokevirtual 410, 3) := by decide +kernel
theorem dX11_best_59 : decode cX11_best 59 = .ok (.aload_n 0, 1) := by decide +kernel
theorem dX11_best_60 : decode cX11_best 60 = .ok (.getfield 111, 3) := by decide +kernel
theorem dX11_best_63 : decode cX11_best 63 = .ok (.iload 4, 2) := by decide +kernel
theorem dX11_best_65 : decode cX11_best 65 = .ok (.aload_n 0, 1) := by decide +kernel
theorem dX11_best_66 : decode cX11_best 66 = .ok (.getfield 393, 3) := by decide +kernel
theorem dX11_best_69 : decode cX11_best 69 = .ok (.iastore, 1) := by decide +kernel
theorem dX11_best_70 : decode cX11_best 70 = .ok (.aload_n 0, 1) := by decide +kernel
theorem dX11_best_71 : decode cX11_best 71 = .ok (.getfield 111, 3) := by decide +kernel
theorem dX11_best_74 : decode cX11_best 74 = .ok (.iload 4, 2) := by decide +kernel
theorem dX11_best_76 : decode cX11_best 76 = .ok (.iaload, 1) := by decide +kernel
theorem dX11_best_77 : decode cX11_best 77 = .ok (.aload_n 0, 1) := by decide +kernel
theorem dX11_best_78 : decode cX11_best 78 = .ok (.getfield 111, 3) := by decide +kernel
theorem dX11_best_81 : decode cX11_best 81 = .ok (.iload_n 3, 1) := by decide +kernel
theorem dX11_best_82 : decode cX11_best 82 = .ok (.iaload, 1) := by decide +kernel
theorem dX11_best_83 : decode cX11_best 83 = .ok (.if_icmp .le 6, 3) := by decide +kernel
theorem dX11_best_86 : decode cX11_best 86 = .ok (.iload 4, 2) := by decide +kernel
theorem dX11_best_88 : decode cX11_best 88 = .ok (.istore_n 3, 1) := by decide +kernel
theorem dX11_best_89 : decode cX11_best 89 = .ok (.aload_n 0, 1) := by decide +kernel
theorem dX11_best_90 : decode cX11_best 90 = .ok (.aload_n 0, 1) := by decide +kernel
theorem dX11_best_91 : decode cX11_best 91 = .ok (.getfield 114, 3) := by decide +kernel
theorem dX11_best_94 : decode cX11_best 94 = .ok (.iconst 0, 1) := by decide +kernel
theorem dX11_best_95 : decode cX11_best 95 = .ok (.invokevirtual 417, 3) := by decide +kernel
theorem dX11_best_98 : decode cX11_best 98 = .ok (.iinc 4 1, 3) := by decide +kernel
theorem dX11_best_101 : decode cX11_best 101 = .ok (.goto (-61), 3) := by decide +kernel
theorem dX11_best_104 : decode cX11_best 104 = .ok (.aload_n 0, 1) := by decide +kernel
theorem dX11_best_105 : decode cX11_best 105 = .ok (.getfield 47, 3) := by decide +kernel
theorem dX11_best_108 : decode cX11_best 108 = .ok (.iconst 0, 1) := by decide +kernel
theorem dX11_best_109 : decode cX11_best 109 = .ok (.iload_n 2, 1) := by decide +kernel
theorem dX11_best_110 : decode cX11_best 110 = .ok (.iastore, 1) := by decide +kernel
theorem dX11_best_111 : decode cX11_best 111 = .ok (.aload_n 0, 1) := by decide +kernel
theorem dX11_best_112 : decode cX11_best 112 = .ok (.iconst 0, 1) := by decide +kernel
theorem dX11_best_113 : decode cX11_best 113 = .ok (.putfield 129, 3) := by decide +kernel
theorem dX11_best_116 : decode cX11_best 116 = .ok (.aload_n 0, 1) := by decide +kernel
theorem dX11_best_117 : decode cX11_best 117 = .ok (.getfield 111, 3) := by decide +kernel
theorem dX11_best_120 : decode cX11_best 120 = .ok (.astore 4, 2) := by decide +kernel
theorem dX11_best_122 : decode cX11_best 122 = .ok (.aload 4, 2) := by decide +kernel
theorem dX11_best_124 : decode cX11_best 124 = .ok (.arraylength, 1) := by decide +kernel
theorem dX11_best_125 : decode cX11_best 125 = .ok (.istore 5, 2) := by decide +kernel
theorem dX11_best_127 : decode cX11_best 127 = .ok (.iconst 0, 1) := by decide +kernel
theorem dX11_best_128 : decode cX11_best 128 = .ok (.istore 6, 2) := by decide +kernel
theorem dX11_best_130 : decode cX11_best 130 = .ok (.iload 6, 2) := by decide +kernel
theorem dX11_best_132 : decode cX11_best 132 = .ok (.iload 5, 2) := by decide +kernel
theorem dX11_best_134 : decode cX11_best 134 = .ok (.if_icmp .ge 23, 3) := by decide +kernel
theorem dX11_best_137 : decode cX11_best 137 = .ok (.aload 4, 2) := by decide +kernel
theorem dX11_best_139 : decode cX11_best 139 = .ok (.iload 6, 2) := by decide +kernel
theorem dX11_best_141 : decode cX11_best 141 = .ok (.iaload, 1) := by decide +kernel
theorem dX11_best_142 : decode cX11_best 142 = .ok (.istore 7, 2) := by decide +kernel
theorem dX11_best_144 : decode cX11_best 144 = .ok (.aload_n 0, 1) := by decide +kernel
theorem dX11_best_145 : decode cX11_best 145 = .ok (.iload 7, 2) := by decide +kernel
theorem dX11_best_147 : decode cX11_best 147 = .ok (.i2l, 1) := by decide +kernel
theorem dX11_best_148 : decode cX11_best 148 = .ok (.invokevirtual 294, 3) := by decide +kernel
theorem dX11_best_151 : decode cX11_best 151 = .ok (.iinc 6 1, 3) := by decide +kernel
theorem dX11_best_154 : decode cX11_best 154 = .ok (.goto (-24), 3) := by decide +kernel
theorem dX11_best_157 : decode cX11_best 157 = .ok (.iload_n 3, 1) := by decide +kernel
theorem dX11_best_158 : decode cX11_best 158 = .ok (.ireturn, 1) := by decide +kernel
theorem dX11_hasBehind_0 : decode cX11_hasBehind 0 = .ok (.aload_n 0, 1) := by decide +kernel
theorem dX11_hasBehind_1 : decode cX11_hasBehind 1 = .ok (.iload_n 2, 1) := by decide +kernel
theorem dX11_hasBehind_2 : decode cX11_hasBehind 2 = .ok (.invokevirtual 410, 3) := by decide +kernel
theorem dX11_hasBehind_5 : decode cX11_hasBehind 5 = .ok (.aload_n 0, 1) := by decide +kernel
theorem dX11_hasBehind_6 : decode cX11_hasBehind 6 = .ok (.getfield 9, 3) := by decide +kernel
theorem dX11_hasBehind_9 : decode cX11_hasBehind 9 = .ok (.iload_n 1, 1) := by decide +kernel
theorem dX11_hasBehind_10 : decode cX11_hasBehind 10 = .ok (.iaload, 1) := by decide +kernel
theorem dX11_hasBehind_11 : decode cX11_hasBehind 11 = .ok (.aload_n 0, 1) := by decide +kernel
theorem dX11_hasBehind_12 : decode cX11_hasBehind 12 = .ok (.iload_n 1, 1) := by decide +kernel
theorem dX11_hasBehind_13 : decode cX11_hasBehind 13 = .ok (.invokevirtual 235, 3) := by decide +kernel
theorem dX11_hasBehind_16 : decode cX11_hasBehind 16 = .ok (.iadd, 1) := by decide +kernel
theorem dX11_hasBehind_17 : decode cX11_hasBehind 17 = .ok (.istore_n 3, 1) := by decide +kernel
theorem dX11_hasBehind_18 : decode cX11_hasBehind 18 = .ok (.aload_n 0, 1) := by decide +kernel
theorem dX11_hasBehind_19 : decode cX11_hasBehind 19 = .ok (.aload_n 0, 1) := by decide +kernel
theorem dX11_hasBehind_20 : decode cX11_hasBehind 20 = .ok (.getfield 114, 3) := by decide +kernel
theorem dX11_hasBehind_23 : decode cX11_hasBehind 23 = .ok (.iconst 0, 1) := by decide +kernel
theorem dX11_hasBehind_24 : decode cX11_hasBehind 24 = .ok (.invokevirtual 417, 3) := by decide +kernel
theorem dX11_hasBehind_27 : decode cX11_hasBehind 27 = .ok (.iload_n 3, 1) := by decide +kernel
theorem dX11_hasBehind_28 : decode cX11_hasBehind 28 = .ok (.ireturn, 1) := by decide +kernel
theorem dX11_pays_0 : decode cX11_pays 0 = .ok (.aload_n 0, 1) := by decide +kernel
theorem dX11_pays_1 : decode cX11_pays 1 = .ok (.iconst 0, 1) := by decide +kernel
theorem dX11_pays_2 : decode cX11_pays 2 = .ok (.putfield 126, 3) := by decide +kernel
theorem dX11_pays_5 : decode cX11_pays 5 = .ok (.aload_n 0, 1) := by decide +kernel
theorem dX11_pays_6 : decode cX11_pays 6 = .ok (.iload_n 1, 1) := by decide +kernel
theorem dX11_pays_7 : decode cX11_pays 7 = .ok (.invokevirtual 244, 3) := by decide +kernel
theorem dX11_pays_10 : decode cX11_pays 10 = .ok (.ifCond .eq 31, 3) := by decide +kernel
theorem dX11_pays_13 : decode cX11_pays 13 = .ok (.iload_n 2, 1) := by decide +kernel
theorem dX11_pays_14 : decode cX11_pays 14 = .ok (.i2l, 1) := by decide +kernel
theorem dX11_pays_15 : decode cX11_pays 15 = .ok (.lconst 0, 1) := by decide +kernel
theorem dX11_pays_16 : decode cX11_pays 16 = .ok (.aload_n 0, 1) := by decide +kernel
theorem dX11_pays_17 : decode cX11_pays 17 = .ok (.getfield 9, 3) := by decide +kernel
theorem dX11_pays_20 : decode cX11_pays 20 = .ok (.iload_n 1, 1) := by decide +kernel
theorem dX11_pays_21 : decode cX11_pays 21 = .ok (.iaload, 1) := by decide +kernel
theorem dX11_pays_22 : decode cX11_pays 22 = .ok (.i2l, 1) := by decide +kernel
theorem dX11_pays_23 : decode cX11_pays 23 = .ok (.invokestatic 135, 3) := by decide +kernel
theorem dX11_pays_26 : decode cX11_pays 26 = .ok (.ifCond .eq 15, 3) := by decide +kernel
theorem dX11_pays_29 : decode cX11_pays 29 = .ok (.iload_n 3, 1) := by decide +kernel
theorem dX11_pays_30 : decode cX11_pays 30 = .ok (.i2l, 1) := by decide +kernel
theorem dX11_pays_31 : decode cX11_pays 31 = .ok (.lconst 0, 1) := by decide +kernel
theorem dX11_pays_32 : decode cX11_pays 32 = .ok (.ldc2_w 408, 3) := by decide +kernel
theorem dX11_pays_35 : decode cX11_pays 35 = .ok (.invokestatic 135, 3) := by decide +kernel
theorem dX11_pays_38 : decode cX11_pays 38 = .ok (.ifCond .ne 8, 3) := by decide +kernel
theorem dX11_pays_41 : decode cX11_pays 41 = .ok (.aload_n 0, 1) := by decide +kernel
theorem dX11_pays_42 : decode cX11_pays 42 = .ok (.invokevirtual 249, 3) := by decide +kernel
theorem dX11_pays_45 : decode cX11_pays 45 = .ok (.ireturn, 1) := by decide +kernel
theorem dX11_pays_46 : decode cX11_pays 46 = .ok (.aload_n 0, 1) := by decide +kernel
theorem dX11_pays_47 : decode cX11_pays 47 = .ok (.getfield 20, 3) := by decide +kernel
theorem dX11_pays_50 : decode cX11_pays 50 = .ok (.iload_n 1, 1) := by decide +kernel
theorem dX11_pays_51 : decode cX11_pays 51 = .ok (.iaload, 1) := by decide +kernel
theorem dX11_pays_52 : decode cX11_pays 52 = .ok (.istore 4, 2) := by decide +kernel
theorem dX11_pays_54 : decode cX11_pays 54 = .ok (.aload_n 0, 1) := by decide +kernel
theorem dX11_pays_55 : decode cX11_pays 55 = .ok (.aload_n 0, 1) := by decide +kernel
theorem dX11_pays_56 : decode cX11_pays 56 = .ok (.getfield 114, 3) := by decide +kernel
theorem dX11_pays_59 : decode cX11_pays 59 = .ok (.iconst 0, 1) := by decide +kernel
theorem dX11_pays_60 : decode cX11_pays 60 = .ok (.invokevirtual 413, 3) := by decide +kernel
theorem dX11_pays_63 : decode cX11_pays 63 = .ok (.aload_n 0, 1) := by decide +kernel
theorem dX11_pays_64 : decode cX11_pays 64 = .ok (.getfield 20, 3) := by decide +kernel
theorem dX11_pays_67 : decode cX11_pays 67 = .ok (.iload_n 1, 1) := by decide +kernel
theorem dX11_pays_68 : decode cX11_pays 68 = .ok (.iload_n 2, 1) := by decide +kernel
theorem dX11_pays_69 : decode cX11_pays 69 = .ok (.iastore, 1) := by decide +kernel
theorem dX11_pays_70 : decode cX11_pays 70 = .ok (.aload_n 0, 1) := by decide +kernel
theorem dX11_pays_71 : decode cX11_pays 71 = .ok (.iload_n 1, 1) := by decide +kernel
theorem dX11_pays_72 : decode cX11_pays 72 = .ok (.iload_n 3, 1) := by decide +kernel
theorem dX11_pays_73 : decode cX11_pays 73 = .ok (.invokevirtual 420, 3) := by decide +kernel
theorem dX11_pays_76 : decode cX11_pays 76 = .ok (.istore 5, 2) := by decide +kernel
theorem dX11_pays_78 : decode cX11_pays 78 = .ok (.aload_n 0, 1) := by decide +kernel
theorem dX11_pays_79 : decode cX11_pays 79 = .ok (.getfield 20, 3) := by decide +kernel
theorem dX11_pays_82 : decode cX11_pays 82 = .ok (.iload_n 1, 1) := by decide +kernel
theorem dX11_pays_83 : decode cX11_pays 83 = .ok (.iconst 0, 1) := by decide +kernel
theorem dX11_pays_84 : decode cX11_pays 84 = .ok (.iastore, 1) := by decide +kernel
theorem dX11_pays_85 : decode cX11_pays 85 = .ok (.aload_n 0, 1) := by decide +kernel
theorem dX11_pays_86 : decode cX11_pays 86 = .ok (.iload_n 1, 1) := by decide +kernel
theorem dX11_pays_87 : decode cX11_pays 87 = .ok (.iload_n 3, 1) := by decide +kernel
theorem dX11_pays_88 : decode cX11_pays 88 = .ok (.invokevirtual 420, 3) := by decide +kernel
theorem dX11_pays_91 : decode cX11_pays 91 = .ok (.istore 6, 2) := by decide +kernel
theorem dX11_pays_93 : decode cX11_pays 93 = .ok (.aload_n 0, 1) := by decide +kernel
theorem dX11_pays_94 : decode cX11_pays 94 = .ok (.getfield 20, 3) := by decide +kernel
theorem dX11_pays_97 : decode cX11_pays 97 = .ok (.iload_n 1, 1) := by decide +kernel
theorem dX11_pays_98 : decode cX11_pays 98 = .ok (.iload 4, 2) := by decide +kernel
theorem dX11_pays_100 : decode cX11_pays 100 = .ok (.iastore, 1) := by decide +kernel
theorem dX11_pays_101 : decode cX11_pays 101 = .ok (.iload 5, 2) := by decide +kernel
theorem dX11_pays_103 : decode cX11_pays 103 = .ok (.iload 6, 2) := by decide +kernel
theorem dX11_pays_105 : decode cX11_pays 105 = .ok (.isub, 1) := by decide +kernel
theorem dX11_pays_106 : decode cX11_pays 106 = .ok (.ireturn, 1) := by decide +kernel
theorem dX11_lapse_0 : decode cX11_lapse 0 = .ok (.aload_n 0, 1) := by decide +kernel
theorem dX11_lapse_1 : decode cX11_lapse 1 = .ok (.iconst 0, 1) := by decide +kernel
theorem dX11_lapse_2 : decode cX11_lapse 2 = .ok (.putfield 126, 3) := by decide +kernel
theorem dX11_lapse_5 : decode cX11_lapse 5 = .ok (.iload_n 1, 1) := by decide +kernel
theorem dX11_lapse_6 : decode cX11_lapse 6 = .ok (.i2l, 1) := by decide +kernel
theorem dX11_lapse_7 : decode cX11_lapse 7 = .ok (.lconst 0, 1) := by decide +kernel
theorem dX11_lapse_8 : decode cX11_lapse 8 = .ok (.ldc2_w 408, 3) := by decide +kernel
theorem dX11_lapse_11 : decode cX11_lapse 11 = .ok (.invokestatic 135, 3) := by decide +kernel
theorem dX11_lapse_14 : decode cX11_lapse 14 = .ok (.ifCond .ne 5, 3) := by decide +kernel
theorem dX11_lapse_17 : decode cX11_lapse 17 = .ok (.iconst (-1), 1) := by decide +kernel
theorem dX11_lapse_18 : decode cX11_lapse 18 = .ok (.ireturn, 1) := by decide +kernel
theorem dX11_lapse_19 : decode cX11_lapse 19 = .ok (.aload_n 0, 1) := by decide +kernel
theorem dX11_lapse_20 : decode cX11_lapse 20 = .ok (.aload_n 0, 1) := by decide +kernel
theorem dX11_lapse_21 : decode cX11_lapse 21 = .ok (.getfield 114, 3) := by decide +kernel
theorem dX11_lapse_24 : decode cX11_lapse 24 = .ok (.iconst 0, 1) := by decide +kernel
theorem dX11_lapse_25 : decode cX11_lapse 25 = .ok (.invokevirtual 413, 3) := by decide +kernel
theorem dX11_lapse_28 : decode cX11_lapse 28 = .ok (.aload_n 0, 1) := by decide +kernel
theorem dX11_lapse_29 : decode cX11_lapse 29 = .ok (.iload_n 1, 1) := by decide +kernel
theorem dX11_lapse_30 : decode cX11_lapse 30 = .ok (.invokevirtual 410, 3) := by decide +kernel
theorem dX11_lapse_33 : decode cX11_lapse 33 = .ok (.aload_n 0, 1) := by decide +kernel
theorem dX11_lapse_34 : decode cX11_lapse 34 = .ok (.getfield 399, 3) := by decide +kernel
theorem dX11_lapse_37 : decode cX11_lapse 37 = .ok (.istore_n 2, 1) := by decide +kernel
theorem dX11_lapse_38 : decode cX11_lapse 38 = .ok (.aload_n 0, 1) := by decide +kernel
theorem dX11_lapse_39 : decode cX11_lapse 39 = .ok (.aload_n 0, 1) := by decide +kernel
theorem dX11_lapse_40 : decode cX11_lapse 40 = .ok (.getfield 114, 3) := by decide +kernel
theorem dX11_lapse_43 : decode cX11_lapse 43 = .ok (.iconst 0, 1) := by decide +kernel
theorem dX11_lapse_44 : decode cX11_lapse 44 = .ok (.invokevirtual 417, 3) := by decide +kernel
theorem dX11_lapse_47 : decode cX11_lapse 47 = .ok (.aload_n 0, 1) := by decide +kernel
theorem dX11_lapse_48 : decode cX11_lapse 48 = .ok (.iconst 0, 1) := by decide +kernel
theorem dX11_lapse_49 : decode cX11_lapse 49 = .ok (.putfield 129, 3) := by decide +kernel
theorem dX11_lapse_52 : decode cX11_lapse 52 = .ok (.aload_n 0, 1) := by decide +kernel
theorem dX11_lapse_53 : decode cX11_lapse 53 = .ok (.aload_n 0, 1) := by decide +kernel
theorem dX11_lapse_54 : decode cX11_lapse 54 = .ok (.iload_n 2, 1) := by decide +kernel
theorem dX11_lapse_55 : decode cX11_lapse 55 = .ok (.invokevirtual 361, 3) := by decide +kernel
theorem dX11_lapse_58 : decode cX11_lapse 58 = .ok (.i2l, 1) := by decide +kernel
theorem dX11_lapse_59 : decode cX11_lapse 59 = .ok (.invokevirtual 294, 3) := by decide +kernel
theorem dX11_lapse_62 : decode cX11_lapse 62 = .ok (.iload_n 2, 1) := by decide +kernel
theorem dX11_lapse_63 : decode cX11_lapse 63 = .ok (.ireturn, 1) := by decide +kernel
theorem dX11_lowest_0 : decode cX11_lowest 0 = .ok (.aload_n 0, 1) := by decide +kernel
theorem dX11_lowest_1 : decode cX11_lowest 1 = .ok (.iconst 0, 1) := by decide +kernel
theorem dX11_lowest_2 : decode cX11_lowest 2 = .ok (.putfield 126, 3) := by decide +kernel
theorem dX11_lowest_5 : decode cX11_lowest 5 = .ok (.aload_n 0, 1) := by decide +kernel
theorem dX11_lowest_6 : decode cX11_lowest 6 = .ok (.getfield 132, 3) := by decide +kernel
theorem dX11_lowest_9 : decode cX11_lowest 9 = .ok (.ifCond .ne 6, 3) := by decide +kernel
theorem dX11_lowest_12 : decode cX11_lowest 12 = .ok (.bipush (-2), 2) := by decide +kernel
theorem dX11_lowest_14 : decode cX11_lowest 14 = .ok (.ireturn, 1) := by decide +kernel
theorem dX11_lowest_15 : decode cX11_lowest 15 = .ok (.iconst 0, 1) := by decide +kernel
theorem dX11_lowest_16 : decode cX11_lowest 16 = .ok (.istore_n 1, 1) := by decide +kernel
theorem dX11_lowest_17 : decode cX11_lowest 17 = .ok (.iconst 1, 1) := by decide +kernel
theorem dX11_lowest_18 : decode cX11_lowest 18 = .ok (.istore_n 2, 1) := by decide +kernel
theorem dX11_lowest_19 : decode cX11_lowest 19 = .ok (.iload_n 2, 1) := by decide +kernel
theorem dX11_lowest_20 : decode cX11_lowest 20 = .ok (.aload_n 0, 1) := by decide +kernel
theorem dX11_lowest_21 : decode cX11_lowest 21 = .ok (.getfield 132, 3) := by decide +kernel
theorem dX11_lowest_24 : decode cX11_lowest 24 = .ok (.if_icmp .ge 24, 3) := by decide +kernel
theorem dX11_lowest_27 : decode cX11_lowest 27 = .ok (.aload_n 0, 1) := by decide +kernel
theorem dX11_lowest_28 : decode cX11_lowest 28 = .ok (.iload_n 2, 1) := by decide +kernel
theorem dX11_lowest_29 : decode cX11_lowest 29 = .ok (.invokevirtual 252, 3) := by decide +kernel
theorem dX11_lowest_32 : decode cX11_lowest 32 = .ok (.aload_n 0, 1) := by decide +kernel
theorem dX11_lowest_33 : decode cX11_lowest 33 = .ok (.iload_n 1, 1) := by decide +kernel
theorem dX11_lowest_34 : decode cX11_lowest 34 = .ok (.invokevirtual 252, 3) := by decide +kernel
theorem dX11_lowest_37 : decode cX11_lowest 37 = .ok (.if_icmp .ge 5, 3) := by decide +kernel
theorem dX11_lowest_40 : decode cX11_lowest 40 = .ok (.iload_n 2, 1) := by decide +kernel
theorem dX11_lowest_41 : decode cX11_lowest 41 = .ok (.istore_n 1, 1) := by decide +kernel
theorem dX11_lowest_42 : decode cX11_lowest 42 = .ok (.iinc 2 1, 3) := by decide +kernel
theorem dX11_lowest_45 : decode cX11_lowest 45 = .ok (.goto (-26), 3) := by decide +kernel
theorem dX11_lowest_48 : decode cX11_lowest 48 = .ok (.iconst 0, 1) := by decide +kernel
theorem dX11_lowest_49 : decode cX11_lowest 49 = .ok (.istore_n 2, 1) := by decide +kernel
theorem dX11_lowest_50 : decode cX11_lowest 50 = .ok (.iconst 0, 1) := by decide +kernel
theorem dX11_lowest_51 : decode cX11_lowest 51 = .ok (.istore_n 3, 1) := by decide +kernel
theorem dX11_lowest_52 : decode cX11_lowest 52 = .ok (.iconst 0, 1) := by decide +kernel
theorem dX11_lowest_53 : decode cX11_lowest 53 = .ok (.istore 4, 2) := by decide +kernel
theorem dX11_lowest_55 : decode cX11_lowest 55 = .ok (.iload 4, 2) := by decide +kernel
theorem dX11_lowest_57 : decode cX11_lowest 57 = .ok (.aload_n 0, 1) := by decide +kernel
theorem dX11_lowest_58 : decode cX11_lowest 58 = .ok (.getfield 132, 3) := by decide +kernel
theorem dX11_lowest_61 : decode cX11_lowest 61 = .ok (.if_icmp .ge 34, 3) := by decide +kernel
theorem dX11_lowest_64 : decode cX11_lowest 64 = .ok (.iload_n 2, 1) := by decide +kernel
theorem dX11_lowest_65 : decode cX11_lowest 65 = .ok (.aload_n 0, 1) := by decide +kernel
theorem dX11_lowest_66 : decode cX11_lowest 66 = .ok (.iload 4, 2) := by decide +kernel
theorem dX11_lowest_68 : decode cX11_lowest 68 = .ok (.invokevirtual 252, 3) := by decide +kernel
theorem dX11_lowest_71 : decode cX11_lowest 71 = .ok (.aload_n 0, 1) := by decide +kernel
theorem dX11_lowest_72 : decode cX11_lowest 72 = .ok (.iload_n 1, 1) := by decide +kernel
theorem dX11_lowest_73 : decode cX11_lowest 73 = .ok (.invokevirtual 252, 3) := by decide +kernel
theorem dX11_lowest_76 : decode cX11_lowest 76 = .ok (.if_icmp .ne 10, 3) := by decide +kernel
theorem dX11_lowest_79 : decode cX11_lowest 79 = .ok (.iconst 1, 1) := by decide +kernel
theorem dX11_lowest_80 : decode cX11_lowest 80 = .ok (.iload 4, 2) := by decide +kernel
theorem dX11_lowest_82 : decode cX11_lowest 82 = .ok (.ishl, 1) := by decide +kernel
theorem dX11_lowest_83 : decode cX11_lowest 83 = .ok (.goto 4, 3) := by decide +kernel
theorem dX11_lowest_86 : decode cX11_lowest 86 = .ok (.iconst 0, 1) := by decide +kernel
theorem dX11_lowest_87 : decode cX11_lowest 87 = .ok (.ior, 1) := by decide +kernel
theorem dX11_lowest_88 : decode cX11_lowest 88 = .ok (.istore_n 2, 1) := by decide +kernel
theorem dX11_lowest_89 : decode cX11_lowest 89 = .ok (.iinc 4 1, 3) := by decide +kernel
theorem dX11_lowest_92 : decode cX11_lowest 92 = .ok (.goto (-37), 3) := by decide +kernel
theorem dX11_lowest_95 : decode cX11_lowest 95 = .ok (.iconst 0, 1) := by decide +kernel
theorem dX11_lowest_96 : decode cX11_lowest 96 = .ok (.istore 4, 2) := by decide +kernel
theorem dX11_lowest_98 : decode cX11_lowest 98 = .ok (.iload 4, 2) := by decide +kernel
theorem dX11_lowest_100 : decode cX11_lowest 100 = .ok (.aload_n 0, 1) := by decide +kernel
theorem dX11_lowest_101 : decode cX11_lowest 101 = .ok (.getfield 139, 3) := by decide +kernel
theorem dX11_lowest_104 : decode cX11_lowest 104 = .ok (.if_icmp .ge 44, 3) := by decide +kernel
theorem dX11_lowest_107 : decode cX11_lowest 107 = .ok (.iload_n 3, 1) := by decide +kernel
theorem dX11_lowest_108 : decode cX11_lowest 108 = .ok (.aload_n 0, 1) := by decide +kernel
theorem dX11_lowest_109 : decode cX11_lowest 109 = .ok (.getfield 41, 3) := by decide +kernel
theorem dX11_lowest_112 : decode cX11_lowest 112 = .ok (.iload 4, 2) := by decide +kernel
theorem dX11_lowest_114 : decode cX11_lowest 114 = .ok (.iaload, 1) := by decide +kernel
theorem dX11_lowest_115 : decode cX11_lowest 115 = .ok (.ifCond .ne 24, 3) := by decide +kernel
theorem dX11_lowest_118 : decode cX11_lowest 118 = .ok (.iload_n 2, 1) := by decide +kernel
theorem dX11_lowest_119 : decode cX11_lowest 119 = .ok (.aload_n 0, 1) := by decide +kernel
theorem dX11_lowest_120 : decode cX11_lowest 120 = .ok (.getfield 29, 3) := by decide +kernel
theorem dX11_lowest_123 : decode cX11_lowest 123 = .ok (.iload 4, 2) := by decide +kernel
theorem dX11_lowest_125 : decode cX11_lowest 125 = .ok (.iaload, 1) := by decide +kernel
theorem dX11_lowest_126 : decode cX11_lowest 126 = .ok (.invokestatic 291, 3) := by decide +kernel
theorem dX11_lowest_129 : decode cX11_lowest 129 = .ok (.ifCond .eq 10, 3) := by decide +kernel
theorem dX11_lowest_132 : decode cX11_lowest 132 = .ok (.iconst 1, 1) := by decide +kernel
theorem dX11_lowest_133 : decode cX11_lowest 133 = .ok (.iload 4, 2) := by decide +kernel
theorem dX11_lowest_135 : decode cX11_lowest 135 = .ok (.ishl, 1) := by decide +kernel
theorem dX11_lowest_136 : decode cX11_lowest 136 = .ok (.goto 4, 3) := by decide +kernel
theorem dX11_lowest_139 : decode cX11_lowest 139 = .ok (.iconst 0, 1) := by decide +kernel
theorem dX11_lowest_140 : decode cX11_lowest 140 = .ok (.ior, 1) := by decide +kernel
theorem dX11_lowest_141 : decode cX11_lowest 141 = .ok (.istore_n 3, 1) := by decide +kernel
theorem dX11_lowest_142 : decode cX11_lowest 142 = .ok (.iinc 4 1, 3) := by decide +kernel
theorem dX11_lowest_145 : decode cX11_lowest 145 = .ok (.goto (-47), 3) := by decide +kernel
theorem dX11_lowest_148 : decode cX11_lowest 148 = .ok (.aload_n 0, 1) := by decide +kernel
theorem dX11_lowest_149 : decode cX11_lowest 149 = .ok (.iconst 0, 1) := by decide +kernel
theorem dX11_lowest_150 : decode cX11_lowest 150 = .ok (.putfield 129, 3) := by decide +kernel
theorem dX11_lowest_153 : decode cX11_lowest 153 = .ok (.aload_n 0, 1) := by decide +kernel
theorem dX11_lowest_154 : decode cX11_lowest 154 = .ok (.iload_n 2, 1) := by decide +kernel
theorem dX11_lowest_155 : decode cX11_lowest 155 = .ok (.i2l, 1) := by decide +kernel
theorem dX11_lowest_156 : decode cX11_lowest 156 = .ok (.invokevirtual 294, 3) := by decide +kernel
theorem dX11_lowest_159 : decode cX11_lowest 159 = .ok (.aload_n 0, 1) := by decide +kernel
theorem dX11_lowest_160 : decode cX11_lowest 160 = .ok (.iload_n 3, 1) := by decide +kernel
theorem dX11_lowest_161 : decode cX11_lowest 161 = .ok (.i2l, 1) := by decide +kernel
theorem dX11_lowest_162 : decode cX11_lowest 162 = .ok (.invokevirtual 294, 3) := by decide +kernel
theorem dX11_lowest_165 : decode cX11_lowest 165 = .ok (.iload_n 1, 1) := by decide +kernel
theorem dX11_lowest_166 : decode cX11_lowest 166 = .ok (.ireturn, 1) := by decide +kernel
theorem dX11_common_0 : decode cX11_common 0 = .ok (.lload_n 2, 1) := by decide +kernel
theorem dX11_common_1 : decode cX11_common 1 = .ok (.lconst 0, 1) := by decide +kernel
theorem dX11_common_2 : decode cX11_common 2 = .ok (.lcmp, 1) := by decide +kernel
theorem dX11_common_3 : decode cX11_common 3 = .ok (.ifCond .ne 7, 3) := by decide +kernel
theorem dX11_common_6 : decode cX11_common 6 = .ok (.lload_n 0, 1) := by decide +kernel
theorem dX11_common_7 : decode cX11_common 7 = .ok (.goto 10, 3) := by decide +kernel
theorem dX11_common_10 : decode cX11_common 10 = .ok (.lload_n 2, 1) := by decide +kernel
theorem dX11_common_11 : decode cX11_common 11 = .ok (.lload_n 0, 1) := by decide +kernel
theorem dX11_common_12 : decode cX11_common 12 = .ok (.lload_n 2, 1) := by decide +kernel
theorem dX11_common_13 : decode cX11_common 13 = .ok (.lrem, 1) := by decide +kernel
theorem dX11_common_14 : decode cX11_common 14 = .ok (.invokestatic 423, 3) := by decide +kernel
theorem dX11_common_17 : decode cX11_common 17 = .ok (.lreturn, 1) := by decide +kernel
theorem dX11_spread_0 : decode cX11_spread 0 = .ok (.aload_n 0, 1) := by decide +kernel
theorem dX11_spread_1 : decode cX11_spread 1 = .ok (.iconst 0, 1) := by decide +kernel
theorem dX11_spread_2 : decode cX11_spread 2 = .ok (.putfield 126, 3) := by decide +kernel
theorem dX11_spread_5 : decode cX11_spread 5 = .ok (.lconst 0, 1) := by decide +kernel
theorem dX11_spread_6 : decode cX11_spread 6 = .ok (.lstore_n 1, 1) := by decide +kernel
theorem dX11_spread_7 : decode cX11_spread 7 = .ok (.lconst 0, 1) := by decide +kernel
theorem dX11_spread_8 : decode cX11_spread 8 = .ok (.lstore_n 3, 1) := by decide +kernel
theorem dX11_spread_9 : decode cX11_spread 9 = .ok (.iconst 0, 1) := by decide +kernel
theorem dX11_spread_10 : decode cX11_spread 10 = .ok (.istore 5, 2) := by decide +kernel
theorem dX11_spread_12 : decode cX11_spread 12 = .ok (.ldc_w 383, 3) := by decide +kernel
theorem dX11_spread_15 : decode cX11_spread 15 = .ok (.istore 6, 2) := by decide +kernel
theorem dX11_spread_17 : decode cX11_spread 17 = .ok (.iconst 0, 1) := by decide +kernel
theorem dX11_spread_18 : decode cX11_spread 18 = .ok (.istore 7, 2) := by decide +kernel
theorem dX11_spread_20 : decode cX11_spread 20 = .ok (.iload 7, 2) := by decide +kernel
theorem dX11_spread_22 : decode cX11_spread 22 = .ok (.aload_n 0, 1) := by decide +kernel
theorem dX11_spread_23 : decode cX11_spread 23 = .ok (.getfield 132, 3) := by decide +kernel
theorem dX11_spread_26 : decode cX11_spread 26 = .ok (.if_icmp .ge 86, 3) := by decide +kernel
theorem dX11_spread_29 : decode cX11_spread 29 = .ok (.lload_n 1, 1) := by decide +kernel
theorem dX11_spread_30 : decode cX11_spread 30 = .ok (.aload_n 0, 1) := by decide +kernel
theorem dX11_spread_31 : decode cX11_spread 31 = .ok (.getfield 9, 3) := by decide +kernel
theorem dX11_spread_34 : decode cX11_spread 34 = .ok (.iload 7, 2) := by decide +kernel
theorem dX11_spread_36 : decode cX11_spread 36 = .ok (.iaload, 1) := by decide +kernel
theorem dX11_spread_37 : decode cX11_spread 37 = .ok (.i2l, 1) := by decide +kernel
theorem dX11_spread_38 : decode cX11_spread 38 = .ok (.ladd, 1) := by decide +kernel
theorem dX11_spread_39 : decode cX11_spread 39 = .ok (.lstore_n 1, 1) := by decide +kernel
theorem dX11_spread_40 : decode cX11_spread 40 = .ok (.iload 5, 2) := by decide +kernel
theorem dX11_spread_42 : decode cX11_spread 42 = .ok (.aload_n 0, 1) := by decide +kernel
theorem dX11_spread_43 : decode cX11_spread 43 = .ok (.getfield 9, 3) := by decide +kernel
theorem dX11_spread_46 : decode cX11_spread 46 = .ok (.iload 7, 2) := by decide +kernel
theorem dX11_spread_48 : decode cX11_spread 48 = .ok (.iaload, 1) := by decide +kernel
theorem dX11_spread_49 : decode cX11_spread 49 = .ok (.invokestatic 272, 3) := by decide +kernel
theorem dX11_spread_52 : decode cX11_spread 52 = .ok (.istore 5, 2) := by decide +kernel
theorem dX11_spread_54 : decode cX11_spread 54 = .ok (.iload 6, 2) := by decide +kernel
theorem dX11_spread_56 : decode cX11_spread 56 = .ok (.aload_n 0, 1) := by decide +kernel
theorem dX11_spread_57 : decode cX11_spread 57 = .ok (.getfield 9, 3) := by decide +kernel
theorem dX11_spread_60 : decode cX11_spread 60 = .ok (.iload 7, 2) := by decide +kernel
theorem dX11_spread_62 : decode cX11_spread 62 = .ok (.iaload, 1) := by decide +kernel
theorem dX11_spread_63 : decode cX11_spread 63 = .ok (.invokestatic 267, 3) := by decide +kernel
theorem dX11_spread_66 : decode cX11_spread 66 = .ok (.istore 6, 2) := by decide +kernel
theorem dX11_spread_68 : decode cX11_spread 68 = .ok (.iconst 0, 1) := by decide +kernel
theorem dX11_spread_69 : decode cX11_spread 69 = .ok (.istore 8, 2) := by decide +kernel
theorem dX11_spread_71 : decode cX11_spread 71 = .ok (.iload 8, 2) := by decide +kernel
theorem dX11_spread_73 : decode cX11_spread 73 = .ok (.iload 7, 2) := by decide +kernel
theorem dX11_spread_75 : decode cX11_spread 75 = .ok (.if_icmp .ge 31, 3) := by decide +kernel
theorem dX11_spread_78 : decode cX11_spread 78 = .ok (.lload_n 3, 1) := by decide +kernel
theorem dX11_spread_79 : decode cX11_spread 79 = .ok (.aload_n 0, 1) := by decide +kernel
theorem dX11_spread_80 : decode cX11_spread 80 = .ok (.getfield 9, 3) := by decide +kernel
theorem dX11_spread_83 : decode cX11_spread 83 = .ok (.iload 7, 2) := by decide +kernel
theorem dX11_spread_85 : decode cX11_spread 85 = .ok (.iaload, 1) := by decide +kernel
theorem dX11_spread_86 : decode cX11_spread 86 = .ok (.aload_n 0, 1) := by decide +kernel
theorem dX11_spread_87 : decode cX11_spread 87 = .ok (.getfield 9, 3) := by decide +kernel
theorem dX11_spread_90 : decode cX11_spread 90 = .ok (.iload 8, 2) := by decide +kernel
theorem dX11_spread_92 : decode cX11_spread 92 = .ok (.iaload, 1) := by decide +kernel
theorem dX11_spread_93 : decode cX11_spread 93 = .ok (.isub, 1) := by decide +kernel
theorem dX11_spread_94 : decode cX11_spread 94 = .ok (.invokestatic 427, 3) := by decide +kernel
theorem dX11_spread_97 : decode cX11_spread 97 = .ok (.i2l, 1) := by decide +kernel
theorem dX11_spread_98 : decode cX11_spread 98 = .ok (.ladd, 1) := by decide +kernel
theorem dX11_spread_99 : decode cX11_spread 99 = .ok (.lstore_n 3, 1) := by decide +kernel
theorem dX11_spread_100 : decode cX11_spread 100 = .ok (.iinc 8 1, 3) := by decide +kernel
theorem dX11_spread_103 : decode cX11_spread 103 = .ok (.goto (-32), 3) := by decide +kernel
theorem dX11_spread_106 : decode cX11_spread 106 = .ok (.iinc 7 1, 3) := by decide +kernel
theorem dX11_spread_109 : decode cX11_spread 109 = .ok (.goto (-89), 3) := by decide +kernel
theorem dX11_spread_112 : decode cX11_spread 112 = .ok (.lload_n 1, 1) := by decide +kernel
theorem dX11_spread_113 : decode cX11_spread 113 = .ok (.lconst 0, 1) := by decide +kernel
theorem dX11_spread_114 : decode cX11_spread 114 = .ok (.lcmp, 1) := by decide +kernel
theorem dX11_spread_115 : decode cX11_spread 115 = .ok (.ifCond .ne 6, 3) := by decide +kernel
theorem dX11_spread_118 : decode cX11_spread 118 = .ok (.bipush (-2), 2) := by decide +kernel
theorem dX11_spread_120 : decode cX11_spread 120 = .ok (.ireturn, 1) := by decide +kernel
theorem dX11_spread_121 : decode cX11_spread 121 = .ok (.lload_n 3, 1) := by decide +kernel
theorem dX11_spread_122 : decode cX11_spread 122 = .ok (.aload_n 0, 1) := by decide +kernel
theorem dX11_spread_123 : decode cX11_spread 123 = .ok (.getfield 132, 3) := by decide +kernel
theorem dX11_spread_126 : decode cX11_spread 126 = .ok (.i2l, 1) := by decide +kernel
theorem dX11_spread_127 : decode cX11_spread 127 = .ok (.lload_n 1, 1) := by decide +kernel
theorem dX11_spread_128 : decode cX11_spread 128 = .ok (.lmul, 1) := by decide +kernel
theorem dX11_spread_129 : decode cX11_spread 129 = .ok (.invokestatic 423, 3) := by decide +kernel
theorem dX11_spread_132 : decode cX11_spread 132 = .ok (.lstore 7, 2) := by decide +kernel
theorem dX11_spread_134 : decode cX11_spread 134 = .ok (.aload_n 0, 1) := by decide +kernel
theorem dX11_spread_135 : decode cX11_spread 135 = .ok (.iconst 0, 1) := by decide +kernel
theorem dX11_spread_136 : decode cX11_spread 136 = .ok (.putfield 129, 3) := by decide +kernel
theorem dX11_spread_139 : decode cX11_spread 139 = .ok (.aload_n 0, 1) := by decide +kernel
theorem dX11_spread_140 : decode cX11_spread 140 = .ok (.lload_n 3, 1) := by decide +kernel
theorem dX11_spread_141 : decode cX11_spread 141 = .ok (.lload 7, 2) := by decide +kernel
theorem dX11_spread_143 : decode cX11_spread 143 = .ok (.ldiv, 1) := by decide +kernel
theorem dX11_spread_144 : decode cX11_spread 144 = .ok (.invokevirtual 294, 3) := by decide +kernel
theorem dX11_spread_147 : decode cX11_spread 147 = .ok (.aload_n 0, 1) := by decide +kernel
theorem dX11_spread_148 : decode cX11_spread 148 = .ok (.aload_n 0, 1) := by decide +kernel
theorem dX11_spread_149 : decode cX11_spread 149 = .ok (.getfield 132, 3) := by decide +kernel
theorem dX11_spread_152 : decode cX11_spread 152 = .ok (.i2l, 1) := by decide +kernel
theorem dX11_spread_153 : decode cX11_spread 153 = .ok (.lload_n 1, 1) := by decide +kernel
theorem dX11_spread_154 : decode cX11_spread 154 = .ok (.lmul, 1) := by decide +kernel
theorem dX11_spread_155 : decode cX11_spread 155 = .ok (.lload 7, 2) := by decide +kernel
theorem dX11_spread_157 : decode cX11_spread 157 = .ok (.ldiv, 1) := by decide +kernel
theorem dX11_spread_158 : decode cX11_spread 158 = .ok (.invokevirtual 294, 3) := by decide +kernel
theorem dX11_spread_161 : decode cX11_spread 161 = .ok (.aload_n 0, 1) := by decide +kernel
theorem dX11_spread_162 : decode cX11_spread 162 = .ok (.iload 5, 2) := by decide +kernel
theorem dX11_spread_164 : decode cX11_spread 164 = .ok (.i2l, 1) := by decide +kernel
theorem dX11_spread_165 : decode cX11_spread 165 = .ok (.invokevirtual 294, 3) := by decide +kernel
theorem dX11_spread_168 : decode cX11_spread 168 = .ok (.aload_n 0, 1) := by decide +kernel
theorem dX11_spread_169 : decode cX11_spread 169 = .ok (.iload 6, 2) := by decide +kernel
theorem dX11_spread_171 : decode cX11_spread 171 = .ok (.i2l, 1) := by decide +kernel
theorem dX11_spread_172 : decode cX11_spread 172 = .ok (.invokevirtual 294, 3) := by decide +kernel
theorem dX11_spread_175 : decode cX11_spread 175 = .ok (.iconst 0, 1) := by decide +kernel
theorem dX11_spread_176 : decode cX11_spread 176 = .ok (.ireturn, 1) := by decide +kernel
theorem dX11_today_0 : decode cX11_today 0 = .ok (.aload_n 0, 1) := by decide +kernel
theorem dX11_today_1 : decode cX11_today 1 = .ok (.iconst 0, 1) := by decide +kernel
theorem dX11_today_2 : decode cX11_today 2 = .ok (.putfield 126, 3) := by decide +kernel
theorem dX11_today_5 : decode cX11_today 5 = .ok (.aload_n 0, 1) := by decide +kernel
theorem dX11_today_6 : decode cX11_today 6 = .ok (.getfield 402, 3) := by decide +kernel
theorem dX11_today_9 : decode cX11_today 9 = .ok (.ireturn, 1) := by decide +kernel
theorem dX11_seed_0 : decode cX11_seed 0 = .ok (.aload_n 0, 1) := by decide +kernel
theorem dX11_seed_1 : decode cX11_seed 1 = .ok (.iconst 0, 1) := by decide +kernel
theorem dX11_seed_2 : decode cX11_seed 2 = .ok (.putfield 126, 3) := by decide +kernel
theorem dX11_seed_5 : decode cX11_seed 5 = .ok (.aload_n 0, 1) := by decide +kernel
theorem dX11_seed_6 : decode cX11_seed 6 = .ok (.getfield 50, 3) := by decide +kernel
theorem dX11_seed_9 : decode cX11_seed 9 = .ok (.istore_n 2, 1) := by decide +kernel
theorem dX11_seed_10 : decode cX11_seed 10 = .ok (.aload_n 0, 1) := by decide +kernel
theorem dX11_seed_11 : decode cX11_seed 11 = .ok (.iload_n 1, 1) := by decide +kernel
theorem dX11_seed_12 : decode cX11_seed 12 = .ok (.putfield 50, 3) := by decide +kernel
theorem dX11_seed_15 : decode cX11_seed 15 = .ok (.iload_n 2, 1) := by decide +kernel
theorem dX11_seed_16 : decode cX11_seed 16 = .ok (.ireturn, 1) := by decide +kernel
theorem dX11_keep_0 : decode cX11_keep 0 = .ok (.aload_n 0, 1) := by decide +kernel
theorem dX11_keep_1 : decode cX11_keep 1 = .ok (.iconst 0, 1) := by decide +kernel
theorem dX11_keep_2 : decode cX11_keep 2 = .ok (.putfield 126, 3) := by decide +kernel
theorem dX11_keep_5 : decode cX11_keep 5 = .ok (.iload_n 1, 1) := by decide +kernel
theorem dX11_keep_6 : decode cX11_keep 6 = .ok (.i2l, 1) := by decide +kernel
theorem dX11_keep_7 : decode cX11_keep 7 = .ok (.lconst 0, 1) := by decide +kernel
theorem dX11_keep_8 : decode cX11_keep 8 = .ok (.lconst 1, 1) := by decide +kernel
theorem dX11_keep_9 : decode cX11_keep 9 = .ok (.invokestatic 135, 3) := by decide +kernel
theorem dX11_keep_12 : decode cX11_keep 12 = .ok (.ifCond .ne 5, 3) := by decide +kernel
theorem dX11_keep_15 : decode cX11_keep 15 = .ok (.iconst 0, 1) := by decide +kernel
theorem dX11_keep_16 : decode cX11_keep 16 = .ok (.ireturn, 1) := by decide +kernel
theorem dX11_keep_17 : decode cX11_keep 17 = .ok (.aload_n 0, 1) := by decide +kernel
theorem dX11_keep_18 : decode cX11_keep 18 = .ok (.getfield 120, 3) := by decide +kernel
theorem dX11_keep_21 : decode cX11_keep 21 = .ok (.iload_n 1, 1) := by decide +kernel
theorem dX11_keep_22 : decode cX11_keep 22 = .ok (.iconst 1, 1) := by decide +kernel
theorem dX11_keep_23 : decode cX11_keep 23 = .ok (.bastore, 1) := by decide +kernel
theorem dX11_keep_24 : decode cX11_keep 24 = .ok (.aload_n 0, 1) := by decide +kernel
theorem dX11_keep_25 : decode cX11_keep 25 = .ok (.getfield 123, 3) := by decide +kernel
theorem dX11_keep_28 : decode cX11_keep 28 = .ok (.iload_n 1, 1) := by decide +kernel
theorem dX11_keep_29 : decode cX11_keep 29 = .ok (.aload_n 0, 1) := by decide +kernel
theorem dX11_keep_30 : decode cX11_keep 30 = .ok (.getfield 195, 3) := by decide +kernel
theorem dX11_keep_33 : decode cX11_keep 33 = .ok (.iastore, 1) := by decide +kernel
theorem dX11_keep_34 : decode cX11_keep 34 = .ok (.sipush 133, 3) := by decide +kernel
theorem dX11_keep_37 : decode cX11_keep 37 = .ok (.iload_n 1, 1) := by decide +kernel
theorem dX11_keep_38 : decode cX11_keep 38 = .ok (.imul, 1) := by decide +kernel
theorem dX11_keep_39 : decode cX11_keep 39 = .ok (.istore_n 2, 1) := by decide +kernel
theorem dX11_keep_40 : decode cX11_keep 40 = .ok (.aload_n 0, 1) := by decide +kernel
theorem dX11_keep_41 : decode cX11_keep 41 = .ok (.aload_n 0, 1) := by decide +kernel
theorem dX11_keep_42 : decode cX11_keep 42 = .ok (.getfield 117, 3) := by decide +kernel
theorem dX11_keep_45 : decode cX11_keep 45 = .ok (.iload_n 2, 1) := by decide +kernel
theorem dX11_keep_46 : decode cX11_keep 46 = .ok (.invokevirtual 413, 3) := by decide +kernel
theorem dX11_keep_49 : decode cX11_keep 49 = .ok (.iinc 2 101, 3) := by decide +kernel
theorem dX11_keep_52 : decode cX11_keep 52 = .ok (.iconst 0, 1) := by decide +kernel
theorem dX11_keep_53 : decode cX11_keep 53 = .ok (.istore_n 3, 1) := by decide +kernel
theorem dX11_keep_54 : decode cX11_keep 54 = .ok (.iload_n 3, 1) := by decide +kernel
theorem dX11_keep_55 : decode cX11_keep 55 = .ok (.bipush 8, 2) := by decide +kernel
theorem dX11_keep_57 : decode cX11_keep 57 = .ok (.if_icmp .ge 23, 3) := by decide +kernel
theorem dX11_keep_60 : decode cX11_keep 60 = .ok (.aload_n 0, 1) := by decide +kernel
theorem dX11_keep_61 : decode cX11_keep 61 = .ok (.getfield 117, 3) := by decide +kernel
theorem dX11_keep_64 : decode cX11_keep 64 = .ok (.iload_n 2, 1) := by decide +kernel
theorem dX11_keep_65 : decode cX11_keep 65 = .ok (.iload_n 3, 1) := by decide +kernel
theorem dX11_keep_66 : decode cX11_keep 66 = .ok (.iadd, 1) := by decide +kernel
theorem dX11_keep_67 : decode cX11_keep 67 = .ok (.aload_n 0, 1) := by decide +kernel
theorem dX11_keep_68 : decode cX11_keep 68 = .ok (.getfield 20, 3) := by decide +kernel
theorem dX11_keep_71 : decode cX11_keep 71 = .ok (.iload_n 3, 1) := by decide +kernel
theorem dX11_keep_72 : decode cX11_keep 72 = .ok (.iaload, 1) := by decide +kernel
theorem dX11_keep_73 : decode cX11_keep 73 = .ok (.iastore, 1) := by decide +kernel
theorem dX11_keep_74 : decode cX11_keep 74 = .ok (.iinc 3 1, 3) := by decide +kernel
theorem dX11_keep_77 : decode cX11_keep 77 = .ok (.goto (-23), 3) := by decide +kernel
theorem dX11_keep_80 : decode cX11_keep 80 = .ok (.iinc 2 8, 3) := by decide +kernel
theorem dX11_keep_83 : decode cX11_keep 83 = .ok (.iconst 0, 1) := by decide +kernel
theorem dX11_keep_84 : decode cX11_keep 84 = .ok (.istore_n 3, 1) := by decide +kernel
theorem dX11_keep_85 : decode cX11_keep 85 = .ok (.iload_n 3, 1) := by decide +kernel
theorem dX11_keep_86 : decode cX11_keep 86 = .ok (.bipush 18, 2) := by decide +kernel
theorem dX11_keep_88 : decode cX11_keep 88 = .ok (.if_icmp .ge 23, 3) := by decide +kernel
theorem dX11_keep_91 : decode cX11_keep 91 = .ok (.aload_n 0, 1) := by decide +kernel
theorem dX11_keep_92 : decode cX11_keep 92 = .ok (.getfield 117, 3) := by decide +kernel
theorem dX11_keep_95 : decode cX11_keep 95 = .ok (.iload_n 2, 1) := by decide +kernel
theorem dX11_keep_96 : decode cX11_keep 96 = .ok (.iload_n 3, 1) := by decide +kernel
theorem dX11_keep_97 : decode cX11_keep 97 = .ok (.iadd, 1) := by decide +kernel
theorem dX11_keep_98 : decode cX11_keep 98 = .ok (.aload_n 0, 1) := by decide +kernel
theorem dX11_keep_99 : decode cX11_keep 99 = .ok (.getfield 71, 3) := by decide +kernel
theorem dX11_keep_102 : decode cX11_keep 102 = .ok (.iload_n 3, 1) := by decide +kernel
theorem dX11_keep_103 : decode cX11_keep 103 = .ok (.iaload, 1) := by decide +kernel
theorem dX11_keep_104 : decode cX11_keep 104 = .ok (.iastore, 1) := by decide +kernel
theorem dX11_keep_105 : decode cX11_keep 105 = .ok (.iinc 3 1, 3) := by decide +kernel
theorem dX11_keep_108 : decode cX11_keep 108 = .ok (.goto (-23), 3) := by decide +kernel
theorem dX11_keep_111 : decode cX11_keep 111 = .ok (.iinc 2 18, 3) := by decide +kernel
theorem dX11_keep_114 : decode cX11_keep 114 = .ok (.aload_n 0, 1) := by decide +kernel
theorem dX11_keep_115 : decode cX11_keep 115 = .ok (.getfield 117, 3) := by decide +kernel
theorem dX11_keep_118 : decode cX11_keep 118 = .ok (.iload_n 2, 1) := by decide +kernel
theorem dX11_keep_119 : decode cX11_keep 119 = .ok (.aload_n 0, 1) := by decide +kernel
theorem dX11_keep_120 : decode cX11_keep 120 = .ok (.getfield 319, 3) := by decide +kernel
theorem dX11_keep_123 : decode cX11_keep 123 = .ok (.iastore, 1) := by decide +kernel
theorem dX11_keep_124 : decode cX11_keep 124 = .ok (.iconst 0, 1) := by decide +kernel
theorem dX11_keep_125 : decode cX11_keep 125 = .ok (.istore_n 3, 1) := by decide +kernel
theorem dX11_keep_126 : decode cX11_keep 126 = .ok (.iload_n 3, 1) := by decide +kernel
theorem dX11_keep_127 : decode cX11_keep 127 = .ok (.iconst 4, 1) := by decide +kernel
theorem dX11_keep_128 : decode cX11_keep 128 = .ok (.if_icmp .ge 25, 3) := by decide +kernel
theorem dX11_keep_131 : decode cX11_keep 131 = .ok (.aload_n 0, 1) := by decide +kernel
theorem dX11_keep_132 : decode cX11_keep 132 = .ok (.getfield 117, 3) := by decide +kernel
theorem dX11_keep_135 : decode cX11_keep 135 = .ok (.iload_n 2, 1) := by decide +kernel
theorem dX11_keep_136 : decode cX11_keep 136 = .ok (.iconst 1, 1) := by decide +kernel
theorem dX11_keep_137 : decode cX11_keep 137 = .ok (.iadd, 1) := by decide +kernel
theorem dX11_keep_138 : decode cX11_keep 138 = .ok (.iload_n 3, 1) := by decide +kernel
theorem dX11_keep_139 : decode cX11_keep 139 = .ok (.iadd, 1) := by decide +kernel
theorem dX11_keep_140 : decode cX11_keep 140 = .ok (.aload_n 0, 1) := by decide +kernel
theorem dX11_keep_141 : decode cX11_keep 141 = .ok (.getfield 47, 3) := by decide +kernel
theorem dX11_keep_144 : decode cX11_keep 144 = .ok (.iload_n 3, 1) := by decide +kernel
theorem dX11_keep_145 : decode cX11_keep 145 = .ok (.iaload, 1) := by decide +kernel
theorem dX11_keep_146 : decode cX11_keep 146 = .ok (.iastore, 1) := by decide +kernel
theorem dX11_keep_147 : decode cX11_keep 147 = .ok (.iinc 3 1, 3) := by decide +kernel
theorem dX11_keep_150 : decode cX11_keep 150 = .ok (.goto (-24), 3) := by decide +kernel
theorem dX11_keep_153 : decode cX11_keep 153 = .ok (.aload_n 0, 1) := by decide +kernel
theorem dX11_keep_154 : decode cX11_keep 154 = .ok (.getfield 117, 3) := by decide +kernel
theorem dX11_keep_157 : decode cX11_keep 157 = .ok (.iload_n 2, 1) := by decide +kernel
theorem dX11_keep_158 : decode cX11_keep 158 = .ok (.iconst 5, 1) := by decide +kernel
theorem dX11_keep_159 : decode cX11_keep 159 = .ok (.iadd, 1) := by decide +kernel
theorem dX11_keep_160 : decode cX11_keep 160 = .ok (.aload_n 0, 1) := by decide +kernel
theorem dX11_keep_161 : decode cX11_keep 161 = .ok (.getfield 50, 3) := by decide +kernel
theorem dX11_keep_164 : decode cX11_keep 164 = .ok (.iastore, 1) := by decide +kernel
theorem dX11_keep_165 : decode cX11_keep 165 = .ok (.iconst 1, 1) := by decide +kernel
theorem dX11_keep_166 : decode cX11_keep 166 = .ok (.ireturn, 1) := by decide +kernel
theorem dX11_again_0 : decode cX11_again 0 = .ok (.aload_n 0, 1) := by decide +kernel
theorem dX11_again_1 : decode cX11_again 1 = .ok (.iconst 0, 1) := by decide +kernel
theorem dX11_again_2 : decode cX11_again 2 = .ok (.putfield 126, 3) := by decide +kernel
theorem dX11_again_5 : decode cX11_again 5 = .ok (.iload_n 1, 1) := by decide +kernel
theorem dX11_again_6 : decode cX11_again 6 = .ok (.i2l, 1) := by decide +kernel
theorem dX11_again_7 : decode cX11_again 7 = .ok (.lconst 0, 1) := by decide +kernel
theorem dX11_again_8 : decode cX11_again 8 = .ok (.lconst 1, 1) := by decide +kernel
theorem dX11_again_9 : decode cX11_again 9 = .ok (.invokestatic 135, 3) := by decide +kernel
theorem dX11_again_12 : decode cX11_again 12 = .ok (.ifCond .eq 25, 3) := by decide +kernel
theorem dX11_again_15 : decode cX11_again 15 = .ok (.aload_n 0, 1) := by decide +kernel
theorem dX11_again_16 : decode cX11_again 16 = .ok (.getfield 120, 3) := by decide +kernel
theorem dX11_again_19 : decode cX11_again 19 = .ok (.iload_n 1, 1) := by decide +kernel
theorem dX11_again_20 : decode cX11_again 20 = .ok (.baload, 1) := by decide +kernel
theorem dX11_again_21 : decode cX11_again 21 = .ok (.ifCond .eq 16, 3) := by decide +kernel
theorem dX11_again_24 : decode cX11_again 24 = .ok (.aload_n 0, 1) := by decide +kernel
theorem dX11_again_25 : decode cX11_again 25 = .ok (.getfield 123, 3) := by decide +kernel
theorem dX11_again_28 : decode cX11_again 28 = .ok (.iload_n 1, 1) := by decide +kernel
theorem dX11_again_29 : decode cX11_again 29 = .ok (.iaload, 1) := by decide +kernel
theorem dX11_again_30 : decode cX11_again 30 = .ok (.aload_n 0, 1) := by decide +kernel
theorem dX11_again_31 : decode cX11_again 31 = .ok (.getfield 195, 3) := by decide +kernel
theorem dX11_again_34 : decode cX11_again 34 = .ok (.if_icmp .eq 5, 3) := by decide +kernel
theorem dX11_again_37 : decode cX11_again 37 = .ok (.iconst 0, 1) := by decide +kernel
theorem dX11_again_38 : decode cX11_again 38 = .ok (.ireturn, 1) := by decide +kernel
theorem dX11_again_39 : decode cX11_again 39 = .ok (.sipush 133, 3) := by decide +kernel
theorem dX11_again_42 : decode cX11_again 42 = .ok (.iload_n 1, 1) := by decide +kernel
theorem dX11_again_43 : decode cX11_again 43 = .ok (.imul, 1) := by decide +kernel
theorem dX11_again_44 : decode cX11_again 44 = .ok (.istore_n 2, 1) := by decide +kernel
theorem dX11_again_45 : decode cX11_again 45 = .ok (.aload_n 0, 1) := by decide +kernel
theorem dX11_again_46 : decode cX11_again 46 = .ok (.aload_n 0, 1) := by decide +kernel
theorem dX11_again_47 : decode cX11_again 47 = .ok (.getfield 117, 3) := by decide +kernel
theorem dX11_again_50 : decode cX11_again 50 = .ok (.iload_n 2, 1) := by decide +kernel
theorem dX11_again_51 : decode cX11_again 51 = .ok (.invokevirtual 417, 3) := by decide +kernel
theorem dX11_again_54 : decode cX11_again 54 = .ok (.iinc 2 101, 3) := by decide +kernel
theorem dX11_again_57 : decode cX11_again 57 = .ok (.iconst 0, 1) := by decide +kernel
theorem dX11_again_58 : decode cX11_again 58 = .ok (.istore_n 3, 1) := by decide +kernel
theorem dX11_again_59 : decode cX11_again 59 = .ok (.iload_n 3, 1) := by decide +kernel
theorem dX11_again_60 : decode cX11_again 60 = .ok (.bipush 8, 2) := by decide +kernel
theorem dX11_again_62 : decode cX11_again 62 = .ok (.if_icmp .ge 23, 3) := by decide +kernel
theorem dX11_again_65 : decode cX11_again 65 = .ok (.aload_n 0, 1) := by decide +kernel
theorem dX11_again_66 : decode cX11_again 66 = .ok (.getfield 20, 3) := by decide +kernel
theorem dX11_again_69 : decode cX11_again 69 = .ok (.iload_n 3, 1) := by decide +kernel
theorem dX11_again_70 : decode cX11_again 70 = .ok (.aload_n 0, 1) := by decide +kernel
theorem dX11_again_71 : decode cX11_again 71 = .ok (.getfield 117, 3) := by decide +kernel
theorem dX11_again_74 : decode cX11_again 74 = .ok (.iload_n 2, 1) := by decide +kernel
theorem dX11_again_75 : decode cX11_again 75 = .ok (.iload_n 3, 1) := by decide +kernel
theorem dX11_again_76 : decode cX11_again 76 = .ok (.iadd, 1) := by decide +kernel
theorem dX11_again_77 : decode cX11_again 77 = .ok (.iaload, 1) := by decide +kernel
theorem dX11_again_78 : decode cX11_again 78 = .ok (.iastore, 1) := by decide +kernel
theorem dX11_again_79 : decode cX11_again 79 = .ok (.iinc 3 1, 3) := by decide +kernel
theorem dX11_again_82 : decode cX11_again 82 = .ok (.goto (-23), 3) := by decide +kernel
theorem dX11_again_85 : decode cX11_again 85 = .ok (.iinc 2 8, 3) := by decide +kernel
theorem dX11_again_88 : decode cX11_again 88 = .ok (.iconst 0, 1) := by decide +kernel
theorem dX11_again_89 : decode cX11_again 89 = .ok (.istore_n 3, 1) := by decide +kernel
theorem dX11_again_90 : decode cX11_again 90 = .ok (.iload_n 3, 1) := by decide +kernel
theorem dX11_again_91 : decode cX11_again 91 = .ok (.bipush 18, 2) := by decide +kernel
theorem dX11_again_93 : decode cX11_again 93 = .ok (.if_icmp .ge 23, 3) := by decide +kernel
theorem dX11_again_96 : decode cX11_again 96 = .ok (.aload_n 0, 1) := by decide +kernel
theorem dX11_again_97 : decode cX11_again 97 = .ok (.getfield 71, 3) := by decide +kernel
theorem dX11_again_100 : decode cX11_again 100 = .ok (.iload_n 3, 1) := by decide +kernel
theorem dX11_again_101 : decode cX11_again 101 = .ok (.aload_n 0, 1) := by decide +kernel
theorem dX11_again_102 : decode cX11_again 102 = .ok (.getfield 117, 3) := by decide +kernel
theorem dX11_again_105 : decode cX11_again 105 = .ok (.iload_n 2, 1) := by decide +kernel
theorem dX11_again_106 : decode cX11_again 106 = .ok (.iload_n 3, 1) := by decide +kernel
theorem dX11_again_107 : decode cX11_again 107 = .ok (.iadd, 1) := by decide +kernel
theorem dX11_again_108 : decode cX11_again 108 = .ok (.iaload, 1) := by decide +kernel
theorem dX11_again_109 : decode cX11_again 109 = .ok (.iastore, 1) := by decide +kernel
theorem dX11_again_110 : decode cX11_again 110 = .ok (.iinc 3 1, 3) := by decide +kernel
theorem dX11_again_113 : decode cX11_again 113 = .ok (.goto (-23), 3) := by decide +kernel
theorem dX11_again_116 : decode cX11_again 116 = .ok (.iinc 2 18, 3) := by decide +kernel
theorem dX11_again_119 : decode cX11_again 119 = .ok (.aload_n 0, 1) := by decide +kernel
theorem dX11_again_120 : decode cX11_again 120 = .ok (.aload_n 0, 1) := by decide +kernel
theorem dX11_again_121 : decode cX11_again 121 = .ok (.getfield 117, 3) := by decide +kernel
theorem dX11_again_124 : decode cX11_again 124 = .ok (.iload_n 2, 1) := by decide +kernel
theorem dX11_again_125 : decode cX11_again 125 = .ok (.iaload, 1) := by decide +kernel
theorem dX11_again_126 : decode cX11_again 126 = .ok (.putfield 319, 3) := by decide +kernel
theorem dX11_again_129 : decode cX11_again 129 = .ok (.iconst 0, 1) := by decide +kernel
theorem dX11_again_130 : decode cX11_again 130 = .ok (.istore_n 3, 1) := by decide +kernel
theorem dX11_again_131 : decode cX11_again 131 = .ok (.iload_n 3, 1) := by decide +kernel
theorem dX11_again_132 : decode cX11_again 132 = .ok (.iconst 4, 1) := by decide +kernel
theorem dX11_again_133 : decode cX11_again 133 = .ok (.if_icmp .ge 25, 3) := by decide +kernel
theorem dX11_again_136 : decode cX11_again 136 = .ok (.aload_n 0, 1) := by decide +kernel
theorem dX11_again_137 : decode cX11_again 137 = .ok (.getfield 47, 3) := by decide +kernel
theorem dX11_again_140 : decode cX11_again 140 = .ok (.iload_n 3, 1) := by decide +kernel
theorem dX11_again_141 : decode cX11_again 141 = .ok (.aload_n 0, 1) := by decide +kernel
theorem dX11_again_142 : decode cX11_again 142 = .ok (.getfield 117, 3) := by decide +kernel
theorem dX11_again_145 : decode cX11_again 145 = .ok (.iload_n 2, 1) := by decide +kernel
theorem dX11_again_146 : decode cX11_again 146 = .ok (.iconst 1, 1) := by decide +kernel
theorem dX11_again_147 : decode cX11_again 147 = .ok (.iadd, 1) := by decide +kernel
theorem dX11_again_148 : decode cX11_again 148 = .ok (.iload_n 3, 1) := by decide +kernel
theorem dX11_again_149 : decode cX11_again 149 = .ok (.iadd, 1) := by decide +kernel
theorem dX11_again_150 : decode cX11_again 150 = .ok (.iaload, 1) := by decide +kernel
theorem dX11_again_151 : decode cX11_again 151 = .ok (.iastore, 1) := by decide +kernel
theorem dX11_again_152 : decode cX11_again 152 = .ok (.iinc 3 1, 3) := by decide +kernel
theorem dX11_again_155 : decode cX11_again 155 = .ok (.goto (-24), 3) := by decide +kernel
theorem dX11_again_158 : decode cX11_again 158 = .ok (.aload_n 0, 1) := by decide +kernel
theorem dX11_again_159 : decode cX11_again 159 = .ok (.aload_n 0, 1) := by decide +kernel
theorem dX11_again_160 : decode cX11_again 160 = .ok (.getfield 117, 3) := by decide +kernel
theorem dX11_again_163 : decode cX11_again 163 = .ok (.iload_n 2, 1) := by decide +kernel
theorem dX11_again_164 : decode cX11_again 164 = .ok (.iconst 5, 1) := by decide +kernel
theorem dX11_again_165 : decode cX11_again 165 = .ok (.iadd, 1) := by decide +kernel
theorem dX11_again_166 : decode cX11_again 166 = .ok (.iaload, 1) := by decide +kernel
theorem dX11_again_167 : decode cX11_again 167 = .ok (.putfield 50, 3) := by decide +kernel
theorem dX11_again_170 : decode cX11_again 170 = .ok (.aload_n 0, 1) := by decide +kernel
theorem dX11_again_171 : decode cX11_again 171 = .ok (.iconst 0, 1) := by decide +kernel
theorem dX11_again_172 : decode cX11_again 172 = .ok (.putfield 198, 3) := by decide +kernel
theorem dX11_again_175 : decode cX11_again 175 = .ok (.iconst 1, 1) := by decide +kernel
theorem dX11_again_176 : decode cX11_again 176 = .ok (.ireturn, 1) := by decide +kernel
theorem dX11_count_0 : decode cX11_count 0 = .ok (.aload_n 0, 1) := by decide +kernel
theorem dX11_count_1 : decode cX11_count 1 = .ok (.iconst 0, 1) := by decide +kernel
theorem dX11_count_2 : decode cX11_count 2 = .ok (.putfield 126, 3) := by decide +kernel
theorem dX11_count_5 : decode cX11_count 5 = .ok (.iconst 0, 1) := by decide +kernel
theorem dX11_count_6 : decode cX11_count 6 = .ok (.istore_n 2, 1) := by decide +kernel
theorem dX11_count_7 : decode cX11_count 7 = .ok (.iload_n 1, 1) := by decide +kernel
theorem dX11_count_8 : decode cX11_count 8 = .ok (.tableswitch 142 0 7 #[48, 53, 58, 95, 100, 105, 132, 137], 48) := by decide +kernel
theorem dX11_count_56 : decode cX11_count 56 = .ok (.aload_n 0, 1) := by decide +kernel
theorem dX11_count_57 : decode cX11_count 57 = .ok (.getfield 132, 3) := by decide +kernel
theorem dX11_count_60 : decode cX11_count 60 = .ok (.ireturn, 1) := by decide +kernel
theorem dX11_count_61 : decode cX11_count 61 = .ok (.aload_n 0, 1) := by decide +kernel
theorem dX11_count_62 : decode cX11_count 62 = .ok (.getfield 139, 3) := by decide +kernel
theorem dX11_count_65 : decode cX11_count 65 = .ok (.ireturn, 1) := by decide +kernel
theorem dX11_count_66 : decode cX11_count 66 = .ok (.iconst 0, 1) := by decide +kernel
theorem dX11_count_67 : decode cX11_count 67 = .ok (.istore_n 3, 1) := by decide +kernel
theorem dX11_count_68 : decode cX11_count 68 = .ok (.iload_n 3, 1) := by decide +kernel
theorem dX11_count_69 : decode cX11_count 69 = .ok (.aload_n 0, 1) := by decide +kernel
theorem dX11_count_70 : decode cX11_count 70 = .ok (.getfield 139, 3) := by decide +kernel
theorem dX11_count_73 : decode cX11_count 73 = .ok (.if_icmp .ge 28, 3) := by decide +kernel
theorem dX11_count_76 : decode cX11_count 76 = .ok (.iload_n 2, 1) := by decide +kernel
theorem dX11_count_77 : decode cX11_count 77 = .ok (.aload_n 0, 1) := by decide +kernel
theorem dX11_count_78 : decode cX11_count 78 = .ok (.getfield 41, 3) := by decide +kernel
theorem dX11_count_81 : decode cX11_count 81 = .ok (.iload_n 3, 1) := by decide +kernel
theorem dX11_count_82 : decode cX11_count 82 = .ok (.iaload, 1) := by decide +kernel
theorem dX11_count_83 : decode cX11_count 83 = .ok (.ifCond .ne 9, 3) := by decide +kernel
theorem dX11_count_86 : decode cX11_count 86 = .ok (.iconst 1, 1) := by decide +kernel
theorem dX11_count_87 : decode cX11_count 87 = .ok (.iload_n 3, 1) := by decide +kernel
theorem dX11_count_88 : decode cX11_count 88 = .ok (.ishl, 1) := by decide +kernel
theorem dX11_count_89 : decode cX11_count 89 = .ok (.goto 4, 3) := by decide +kernel
theorem dX11_count_92 : decode cX11_count 92 = .ok (.iconst 0, 1) := by decide +kernel
theorem dX11_count_93 : decode cX11_count 93 = .ok (.ior, 1) := by decide +kernel
theorem dX11_count_94 : decode cX11_count 94 = .ok (.istore_n 2, 1) := by decide +kernel
theorem dX11_count_95 : decode cX11_count 95 = .ok (.iinc 3 1, 3) := by decide +kernel
theorem dX11_count_98 : decode cX11_count 98 = .ok (.goto (-30), 3) := by decide +kernel
theorem dX11_count_101 : decode cX11_count 101 = .ok (.iload_n 2, 1) := by decide +kernel
theorem dX11_count_102 : decode cX11_count 102 = .ok (.ireturn, 1) := by decide +kernel
theorem dX11_count_103 : decode cX11_count 103 = .ok (.aload_n 0, 1) := by decide +kernel
theorem dX11_count_104 : decode cX11_count 104 = .ok (.getfield 198, 3) := by decide +kernel
theorem dX11_count_107 : decode cX11_count 107 = .ok (.ireturn, 1) := by decide +kernel
theorem dX11_count_108 : decode cX11_count 108 = .ok (.aload_n 0, 1) := by decide +kernel
theorem dX11_count_109 : decode cX11_count 109 = .ok (.getfield 319, 3) := by decide +kernel
theorem dX11_count_112 : decode cX11_count 112 = .ok (.ireturn, 1) := by decide +kernel
theorem dX11_count_113 : decode cX11_count 113 = .ok (.iconst 0, 1) := by decide +kernel
theorem dX11_count_114 : decode cX11_count 114 = .ok (.istore_n 3, 1) := by decide +kernel
theorem dX11_count_115 : decode cX11_count 115 = .ok (.iload_n 3, 1) := by decide +kernel
theorem dX11_count_116 : decode cX11_count 116 = .ok (.aload_n 0, 1) := by decide +kernel
theorem dX11_count_117 : decode cX11_count 117 = .ok (.getfield 132, 3) := by decide +kernel
theorem dX11_count_120 : decode cX11_count 120 = .ok (.if_icmp .ge 18, 3) := by decide +kernel
theorem dX11_count_123 : decode cX11_count 123 = .ok (.iload_n 2, 1) := by decide +kernel
theorem dX11_count_124 : decode cX11_count 124 = .ok (.aload_n 0, 1) := by decide +kernel
theorem dX11_count_125 : decode cX11_count 125 = .ok (.getfield 9, 3) := by decide +kernel
theorem dX11_count_128 : decode cX11_count 128 = .ok (.iload_n 3, 1) := by decide +kernel
theorem dX11_count_129 : decode cX11_count 129 = .ok (.iaload, 1) := by decide +kernel
theorem dX11_count_130 : decode cX11_count 130 = .ok (.iadd, 1) := by decide +kernel
theorem dX11_count_131 : decode cX11_count 131 = .ok (.istore_n 2, 1) := by decide +kernel
theorem dX11_count_132 : decode cX11_count 132 = .ok (.iinc 3 1, 3) := by decide +kernel
theorem dX11_count_135 : decode cX11_count 135 = .ok (.goto (-20), 3) := by decide +kernel
theorem dX11_count_138 : decode cX11_count 138 = .ok (.iload_n 2, 1) := by decide +kernel
theorem dX11_count_139 : decode cX11_count 139 = .ok (.ireturn, 1) := by decide +kernel
theorem dX11_count_140 : decode cX11_count 140 = .ok (.aload_n 0, 1) := by decide +kernel
theorem dX11_count_141 : decode cX11_count 141 = .ok (.getfield 129, 3) := by decide +kernel
theorem dX11_count_144 : decode cX11_count 144 = .ok (.ireturn, 1) := by decide +kernel
theorem dX11_count_145 : decode cX11_count 145 = .ok (.aload_n 0, 1) := by decide +kernel
theorem dX11_count_146 : decode cX11_count 146 = .ok (.getfield 146, 3) := by decide +kernel
theorem dX11_count_149 : decode cX11_count 149 = .ok (.ireturn, 1) := by decide +kernel
theorem dX11_count_150 : decode cX11_count 150 = .ok (.iconst (-1), 1) := by decide +kernel
theorem dX11_count_151 : decode cX11_count 151 = .ok (.ireturn, 1) := by decide +kernel
theorem dX11_row_0 : decode cX11_row 0 = .ok (.aload_n 0, 1) := by decide +kernel
theorem dX11_row_1 : decode cX11_row 1 = .ok (.iconst 0, 1) := by decide +kernel
theorem dX11_row_2 : decode cX11_row 2 = .ok (.putfield 126, 3) := by decide +kernel
theorem dX11_row_5 : decode cX11_row 5 = .ok (.iload_n 1, 1) := by decide +kernel
theorem dX11_row_6 : decode cX11_row 6 = .ok (.i2l, 1) := by decide +kernel
theorem dX11_row_7 : decode cX11_row 7 = .ok (.lconst 0, 1) := by decide +kernel
theorem dX11_row_8 : decode cX11_row 8 = .ok (.aload_n 0, 1) := by decide +kernel
theorem dX11_row_9 : decode cX11_row 9 = .ok (.getfield 129, 3) := by decide +kernel
theorem dX11_row_12 : decode cX11_row 12 = .ok (.iconst 1, 1) := by decide +kernel
theorem dX11_row_13 : decode cX11_row 13 = .ok (.isub, 1) := by decide +kernel
theorem dX11_row_14 : decode cX11_row 14 = .ok (.i2l, 1) := by decide +kernel
theorem dX11_row_15 : decode cX11_row 15 = .ok (.invokestatic 135, 3) := by decide +kernel
theorem dX11_row_18 : decode cX11_row 18 = .ok (.ifCond .eq 12, 3) := by decide +kernel
theorem dX11_row_21 : decode cX11_row 21 = .ok (.aload_n 0, 1) := by decide +kernel
theorem dX11_row_22 : decode cX11_row 22 = .ok (.getfield 58, 3) := by decide +kernel
theorem dX11_row_25 : decode cX11_row 25 = .ok (.iload_n 1, 1) := by decide +kernel
theorem dX11_row_26 : decode cX11_row 26 = .ok (.laload, 1) := by decide +kernel
theorem dX11_row_27 : decode cX11_row 27 = .ok (.goto 8, 3) := by decide +kernel
theorem dX11_row_30 : decode cX11_row 30 = .ok (.aload_n 0, 1) := by decide +kernel
theorem dX11_row_31 : decode cX11_row 31 = .ok (.invokevirtual 249, 3) := by decide +kernel
theorem dX11_row_34 : decode cX11_row 34 = .ok (.i2l, 1) := by decide +kernel
theorem dX11_row_35 : decode cX11_row 35 = .ok (.lreturn, 1) := by decide +kernel
