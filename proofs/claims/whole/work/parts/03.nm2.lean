theorem dX13_lend_8 : decode cX13_lend 8 = .ok (.iconst (-1), 1) := by decide +kernel
theorem dX13_lend_9 : decode cX13_lend 9 = .ok (.invokevirtual 69, 3) := by decide +kernel
theorem dX13_lend_12 : decode cX13_lend 12 = .ok (.ireturn, 1) := by decide +kernel
theorem dX13_lend_13 : decode cX13_lend 13 = .ok (.aload_n 0, 1) := by decide +kernel
theorem dX13_lend_14 : decode cX13_lend 14 = .ok (.iload_n 1, 1) := by decide +kernel
theorem dX13_lend_15 : decode cX13_lend 15 = .ok (.invokevirtual 120, 3) := by decide +kernel
theorem dX13_lend_18 : decode cX13_lend 18 = .ok (.ifCond .eq 12, 3) := by decide +kernel
theorem dX13_lend_21 : decode cX13_lend 21 = .ok (.aload_n 0, 1) := by decide +kernel
theorem dX13_lend_22 : decode cX13_lend 22 = .ok (.iload_n 1, 1) := by decide +kernel
theorem dX13_lend_23 : decode cX13_lend 23 = .ok (.iconst 1, 1) := by decide +kernel
theorem dX13_lend_24 : decode cX13_lend 24 = .ok (.invokevirtual 90, 3) := by decide +kernel
theorem dX13_lend_27 : decode cX13_lend 27 = .ok (.ifCond .le 10, 3) := by decide +kernel
theorem dX13_lend_30 : decode cX13_lend 30 = .ok (.aload_n 0, 1) := by decide +kernel
theorem dX13_lend_31 : decode cX13_lend 31 = .ok (.bipush (-2), 2) := by decide +kernel
theorem dX13_lend_33 : decode cX13_lend 33 = .ok (.invokevirtual 69, 3) := by decide +kernel
theorem dX13_lend_36 : decode cX13_lend 36 = .ok (.ireturn, 1) := by decide +kernel
theorem dX13_lend_37 : decode cX13_lend 37 = .ok (.aload_n 0, 1) := by decide +kernel
theorem dX13_lend_38 : decode cX13_lend 38 = .ok (.iload_n 1, 1) := by decide +kernel
theorem dX13_lend_39 : decode cX13_lend 39 = .ok (.iconst 0, 1) := by decide +kernel
theorem dX13_lend_40 : decode cX13_lend 40 = .ok (.invokevirtual 90, 3) := by decide +kernel
theorem dX13_lend_43 : decode cX13_lend 43 = .ok (.istore 4, 2) := by decide +kernel
theorem dX13_lend_45 : decode cX13_lend 45 = .ok (.iload_n 3, 1) := by decide +kernel
theorem dX13_lend_46 : decode cX13_lend 46 = .ok (.iconst 1, 1) := by decide +kernel
theorem dX13_lend_47 : decode cX13_lend 47 = .ok (.if_icmp .lt 40, 3) := by decide +kernel
theorem dX13_lend_50 : decode cX13_lend 50 = .ok (.iload_n 3, 1) := by decide +kernel
theorem dX13_lend_51 : decode cX13_lend 51 = .ok (.bipush 12, 2) := by decide +kernel
theorem dX13_lend_53 : decode cX13_lend 53 = .ok (.if_icmp .gt 34, 3) := by decide +kernel
theorem dX13_lend_56 : decode cX13_lend 56 = .ok (.iload_n 2, 1) := by decide +kernel
theorem dX13_lend_57 : decode cX13_lend 57 = .ok (.iconst 1, 1) := by decide +kernel
theorem dX13_lend_58 : decode cX13_lend 58 = .ok (.if_icmp .lt 29, 3) := by decide +kernel
theorem dX13_lend_61 : decode cX13_lend 61 = .ok (.iload_n 2, 1) := by decide +kernel
theorem dX13_lend_62 : decode cX13_lend 62 = .ok (.i2l, 1) := by decide +kernel
theorem dX13_lend_63 : decode cX13_lend 63 = .ok (.aload_n 0, 1) := by decide +kernel
theorem dX13_lend_64 : decode cX13_lend 64 = .ok (.iload_n 1, 1) := by decide +kernel
theorem dX13_lend_65 : decode cX13_lend 65 = .ok (.invokevirtual 133, 3) := by decide +kernel
theorem dX13_lend_68 : decode cX13_lend 68 = .ok (.aload_n 0, 1) := by decide +kernel
theorem dX13_lend_69 : decode cX13_lend 69 = .ok (.bipush 9, 2) := by decide +kernel
theorem dX13_lend_71 : decode cX13_lend 71 = .ok (.iload 4, 2) := by decide +kernel
theorem dX13_lend_73 : decode cX13_lend 73 = .ok (.iadd, 1) := by decide +kernel
theorem dX13_lend_74 : decode cX13_lend 74 = .ok (.invokevirtual 123, 3) := by decide +kernel
theorem dX13_lend_77 : decode cX13_lend 77 = .ok (.i2l, 1) := by decide +kernel
theorem dX13_lend_78 : decode cX13_lend 78 = .ok (.lmul, 1) := by decide +kernel
theorem dX13_lend_79 : decode cX13_lend 79 = .ok (.ldc2_w 61, 3) := by decide +kernel
theorem dX13_lend_82 : decode cX13_lend 82 = .ok (.ldiv, 1) := by decide +kernel
theorem dX13_lend_83 : decode cX13_lend 83 = .ok (.lcmp, 1) := by decide +kernel
theorem dX13_lend_84 : decode cX13_lend 84 = .ok (.ifCond .le 10, 3) := by decide +kernel
theorem dX13_lend_87 : decode cX13_lend 87 = .ok (.aload_n 0, 1) := by decide +kernel
theorem dX13_lend_88 : decode cX13_lend 88 = .ok (.bipush (-6), 2) := by decide +kernel
theorem dX13_lend_90 : decode cX13_lend 90 = .ok (.invokevirtual 69, 3) := by decide +kernel
theorem dX13_lend_93 : decode cX13_lend 93 = .ok (.ireturn, 1) := by decide +kernel
theorem dX13_lend_94 : decode cX13_lend 94 = .ok (.aload_n 0, 1) := by decide +kernel
theorem dX13_lend_95 : decode cX13_lend 95 = .ok (.getfield 10, 3) := by decide +kernel
theorem dX13_lend_98 : decode cX13_lend 98 = .ok (.getfield 24, 3) := by decide +kernel
theorem dX13_lend_101 : decode cX13_lend 101 = .ok (.iconst 1, 1) := by decide +kernel
theorem dX13_lend_102 : decode cX13_lend 102 = .ok (.iaload, 1) := by decide +kernel
theorem dX13_lend_103 : decode cX13_lend 103 = .ok (.sipush 511, 3) := by decide +kernel
theorem dX13_lend_106 : decode cX13_lend 106 = .ok (.if_icmp .ne 10, 3) := by decide +kernel
theorem dX13_lend_109 : decode cX13_lend 109 = .ok (.aload_n 0, 1) := by decide +kernel
theorem dX13_lend_110 : decode cX13_lend 110 = .ok (.bipush (-7), 2) := by decide +kernel
theorem dX13_lend_112 : decode cX13_lend 112 = .ok (.invokevirtual 69, 3) := by decide +kernel
theorem dX13_lend_115 : decode cX13_lend 115 = .ok (.ireturn, 1) := by decide +kernel
theorem dX13_lend_116 : decode cX13_lend 116 = .ok (.aload_n 0, 1) := by decide +kernel
theorem dX13_lend_117 : decode cX13_lend 117 = .ok (.getfield 10, 3) := by decide +kernel
theorem dX13_lend_120 : decode cX13_lend 120 = .ok (.getfield 24, 3) := by decide +kernel
theorem dX13_lend_123 : decode cX13_lend 123 = .ok (.iconst 1, 1) := by decide +kernel
theorem dX13_lend_124 : decode cX13_lend 124 = .ok (.dup2, 1) := by decide +kernel
theorem dX13_lend_125 : decode cX13_lend 125 = .ok (.iaload, 1) := by decide +kernel
theorem dX13_lend_126 : decode cX13_lend 126 = .ok (.iconst 1, 1) := by decide +kernel
theorem dX13_lend_127 : decode cX13_lend 127 = .ok (.iadd, 1) := by decide +kernel
theorem dX13_lend_128 : decode cX13_lend 128 = .ok (.iastore, 1) := by decide +kernel
theorem dX13_lend_129 : decode cX13_lend 129 = .ok (.aload_n 0, 1) := by decide +kernel
theorem dX13_lend_130 : decode cX13_lend 130 = .ok (.getfield 10, 3) := by decide +kernel
theorem dX13_lend_133 : decode cX13_lend 133 = .ok (.getfield 24, 3) := by decide +kernel
theorem dX13_lend_136 : decode cX13_lend 136 = .ok (.iconst 1, 1) := by decide +kernel
theorem dX13_lend_137 : decode cX13_lend 137 = .ok (.iaload, 1) := by decide +kernel
theorem dX13_lend_138 : decode cX13_lend 138 = .ok (.istore 5, 2) := by decide +kernel
theorem dX13_lend_140 : decode cX13_lend 140 = .ok (.aload_n 0, 1) := by decide +kernel
theorem dX13_lend_141 : decode cX13_lend 141 = .ok (.iload 5, 2) := by decide +kernel
theorem dX13_lend_143 : decode cX13_lend 143 = .ok (.iconst 1, 1) := by decide +kernel
theorem dX13_lend_144 : decode cX13_lend 144 = .ok (.iload_n 2, 1) := by decide +kernel
theorem dX13_lend_145 : decode cX13_lend 145 = .ok (.invokevirtual 57, 3) := by decide +kernel
theorem dX13_lend_148 : decode cX13_lend 148 = .ok (.aload_n 0, 1) := by decide +kernel
theorem dX13_lend_149 : decode cX13_lend 149 = .ok (.iload 5, 2) := by decide +kernel
theorem dX13_lend_151 : decode cX13_lend 151 = .ok (.iconst 4, 1) := by decide +kernel
theorem dX13_lend_152 : decode cX13_lend 152 = .ok (.aload_n 0, 1) := by decide +kernel
theorem dX13_lend_153 : decode cX13_lend 153 = .ok (.invokevirtual 53, 3) := by decide +kernel
theorem dX13_lend_156 : decode cX13_lend 156 = .ok (.invokevirtual 57, 3) := by decide +kernel
theorem dX13_lend_159 : decode cX13_lend 159 = .ok (.aload_n 0, 1) := by decide +kernel
theorem dX13_lend_160 : decode cX13_lend 160 = .ok (.iload 5, 2) := by decide +kernel
theorem dX13_lend_162 : decode cX13_lend 162 = .ok (.iconst 5, 1) := by decide +kernel
theorem dX13_lend_163 : decode cX13_lend 163 = .ok (.iload_n 3, 1) := by decide +kernel
theorem dX13_lend_164 : decode cX13_lend 164 = .ok (.invokevirtual 57, 3) := by decide +kernel
theorem dX13_lend_167 : decode cX13_lend 167 = .ok (.aload_n 0, 1) := by decide +kernel
theorem dX13_lend_168 : decode cX13_lend 168 = .ok (.iload 5, 2) := by decide +kernel
theorem dX13_lend_170 : decode cX13_lend 170 = .ok (.bipush 6, 2) := by decide +kernel
theorem dX13_lend_172 : decode cX13_lend 172 = .ok (.aload_n 0, 1) := by decide +kernel
theorem dX13_lend_173 : decode cX13_lend 173 = .ok (.iconst 4, 1) := by decide +kernel
theorem dX13_lend_174 : decode cX13_lend 174 = .ok (.iload 4, 2) := by decide +kernel
theorem dX13_lend_176 : decode cX13_lend 176 = .ok (.iadd, 1) := by decide +kernel
theorem dX13_lend_177 : decode cX13_lend 177 = .ok (.invokevirtual 123, 3) := by decide +kernel
theorem dX13_lend_180 : decode cX13_lend 180 = .ok (.invokevirtual 57, 3) := by decide +kernel
theorem dX13_lend_183 : decode cX13_lend 183 = .ok (.aload_n 0, 1) := by decide +kernel
theorem dX13_lend_184 : decode cX13_lend 184 = .ok (.iload 5, 2) := by decide +kernel
theorem dX13_lend_186 : decode cX13_lend 186 = .ok (.bipush 8, 2) := by decide +kernel
theorem dX13_lend_188 : decode cX13_lend 188 = .ok (.iconst (-1), 1) := by decide +kernel
theorem dX13_lend_189 : decode cX13_lend 189 = .ok (.invokevirtual 57, 3) := by decide +kernel
theorem dX13_lend_192 : decode cX13_lend 192 = .ok (.aload_n 0, 1) := by decide +kernel
theorem dX13_lend_193 : decode cX13_lend 193 = .ok (.iload 5, 2) := by decide +kernel
theorem dX13_lend_195 : decode cX13_lend 195 = .ok (.bipush 15, 2) := by decide +kernel
theorem dX13_lend_197 : decode cX13_lend 197 = .ok (.iload_n 1, 1) := by decide +kernel
theorem dX13_lend_198 : decode cX13_lend 198 = .ok (.invokevirtual 57, 3) := by decide +kernel
theorem dX13_lend_201 : decode cX13_lend 201 = .ok (.aload_n 0, 1) := by decide +kernel
theorem dX13_lend_202 : decode cX13_lend 202 = .ok (.iload 5, 2) := by decide +kernel
theorem dX13_lend_204 : decode cX13_lend 204 = .ok (.bipush 16, 2) := by decide +kernel
theorem dX13_lend_206 : decode cX13_lend 206 = .ok (.iconst (-1), 1) := by decide +kernel
theorem dX13_lend_207 : decode cX13_lend 207 = .ok (.invokevirtual 57, 3) := by decide +kernel
theorem dX13_lend_210 : decode cX13_lend 210 = .ok (.aload_n 0, 1) := by decide +kernel
theorem dX13_lend_211 : decode cX13_lend 211 = .ok (.iload 5, 2) := by decide +kernel
theorem dX13_lend_213 : decode cX13_lend 213 = .ok (.bipush 17, 2) := by decide +kernel
theorem dX13_lend_215 : decode cX13_lend 215 = .ok (.sipush 1000, 3) := by decide +kernel
theorem dX13_lend_218 : decode cX13_lend 218 = .ok (.iload 5, 2) := by decide +kernel
theorem dX13_lend_220 : decode cX13_lend 220 = .ok (.imul, 1) := by decide +kernel
theorem dX13_lend_221 : decode cX13_lend 221 = .ok (.ldc2_w 136, 3) := by decide +kernel
theorem dX13_lend_224 : decode cX13_lend 224 = .ok (.iload_n 2, 1) := by decide +kernel
theorem dX13_lend_225 : decode cX13_lend 225 = .ok (.i2l, 1) := by decide +kernel
theorem dX13_lend_226 : decode cX13_lend 226 = .ok (.lmul, 1) := by decide +kernel
theorem dX13_lend_227 : decode cX13_lend 227 = .ok (.ldc2_w 138, 3) := by decide +kernel
theorem dX13_lend_230 : decode cX13_lend 230 = .ok (.aload_n 0, 1) := by decide +kernel
theorem dX13_lend_231 : decode cX13_lend 231 = .ok (.invokevirtual 53, 3) := by decide +kernel
theorem dX13_lend_234 : decode cX13_lend 234 = .ok (.i2l, 1) := by decide +kernel
theorem dX13_lend_235 : decode cX13_lend 235 = .ok (.lmul, 1) := by decide +kernel
theorem dX13_lend_236 : decode cX13_lend 236 = .ok (.ladd, 1) := by decide +kernel
theorem dX13_lend_237 : decode cX13_lend 237 = .ok (.ldc2_w 61, 3) := by decide +kernel
theorem dX13_lend_240 : decode cX13_lend 240 = .ok (.lrem, 1) := by decide +kernel
theorem dX13_lend_241 : decode cX13_lend 241 = .ok (.l2i, 1) := by decide +kernel
theorem dX13_lend_242 : decode cX13_lend 242 = .ok (.iadd, 1) := by decide +kernel
theorem dX13_lend_243 : decode cX13_lend 243 = .ok (.invokevirtual 57, 3) := by decide +kernel
theorem dX13_lend_246 : decode cX13_lend 246 = .ok (.aload_n 0, 1) := by decide +kernel
theorem dX13_lend_247 : decode cX13_lend 247 = .ok (.iload 5, 2) := by decide +kernel
theorem dX13_lend_249 : decode cX13_lend 249 = .ok (.bipush 18, 2) := by decide +kernel
theorem dX13_lend_251 : decode cX13_lend 251 = .ok (.iconst (-1), 1) := by decide +kernel
theorem dX13_lend_252 : decode cX13_lend 252 = .ok (.invokevirtual 57, 3) := by decide +kernel
theorem dX13_lend_255 : decode cX13_lend 255 = .ok (.aload_n 0, 1) := by decide +kernel
theorem dX13_lend_256 : decode cX13_lend 256 = .ok (.iload 5, 2) := by decide +kernel
theorem dX13_lend_258 : decode cX13_lend 258 = .ok (.bipush 19, 2) := by decide +kernel
theorem dX13_lend_260 : decode cX13_lend 260 = .ok (.iload 4, 2) := by decide +kernel
theorem dX13_lend_262 : decode cX13_lend 262 = .ok (.invokevirtual 57, 3) := by decide +kernel
theorem dX13_lend_265 : decode cX13_lend 265 = .ok (.aload_n 0, 1) := by decide +kernel
theorem dX13_lend_266 : decode cX13_lend 266 = .ok (.iload 5, 2) := by decide +kernel
theorem dX13_lend_268 : decode cX13_lend 268 = .ok (.bipush 20, 2) := by decide +kernel
theorem dX13_lend_270 : decode cX13_lend 270 = .ok (.iconst (-1), 1) := by decide +kernel
theorem dX13_lend_271 : decode cX13_lend 271 = .ok (.invokevirtual 57, 3) := by decide +kernel
theorem dX13_lend_274 : decode cX13_lend 274 = .ok (.aload_n 0, 1) := by decide +kernel
theorem dX13_lend_275 : decode cX13_lend 275 = .ok (.iload_n 1, 1) := by decide +kernel
theorem dX13_lend_276 : decode cX13_lend 276 = .ok (.iconst 1, 1) := by decide +kernel
theorem dX13_lend_277 : decode cX13_lend 277 = .ok (.iload 5, 2) := by decide +kernel
theorem dX13_lend_279 : decode cX13_lend 279 = .ok (.invokevirtual 93, 3) := by decide +kernel
theorem dX13_lend_282 : decode cX13_lend 282 = .ok (.aload_n 0, 1) := by decide +kernel
theorem dX13_lend_283 : decode cX13_lend 283 = .ok (.getfield 10, 3) := by decide +kernel
theorem dX13_lend_286 : decode cX13_lend 286 = .ok (.getfield 24, 3) := by decide +kernel
theorem dX13_lend_289 : decode cX13_lend 289 = .ok (.iconst 2, 1) := by decide +kernel
theorem dX13_lend_290 : decode cX13_lend 290 = .ok (.aload_n 0, 1) := by decide +kernel
theorem dX13_lend_291 : decode cX13_lend 291 = .ok (.iload 5, 2) := by decide +kernel
theorem dX13_lend_293 : decode cX13_lend 293 = .ok (.bipush 17, 2) := by decide +kernel
theorem dX13_lend_295 : decode cX13_lend 295 = .ok (.invokevirtual 44, 3) := by decide +kernel
theorem dX13_lend_298 : decode cX13_lend 298 = .ok (.iastore, 1) := by decide +kernel
theorem dX13_lend_299 : decode cX13_lend 299 = .ok (.aload_n 0, 1) := by decide +kernel
theorem dX13_lend_300 : decode cX13_lend 300 = .ok (.getfield 10, 3) := by decide +kernel
theorem dX13_lend_303 : decode cX13_lend 303 = .ok (.getfield 140, 3) := by decide +kernel
theorem dX13_lend_306 : decode cX13_lend 306 = .ok (.iconst 0, 1) := by decide +kernel
theorem dX13_lend_307 : decode cX13_lend 307 = .ok (.dup2, 1) := by decide +kernel
theorem dX13_lend_308 : decode cX13_lend 308 = .ok (.laload, 1) := by decide +kernel
theorem dX13_lend_309 : decode cX13_lend 309 = .ok (.iload_n 2, 1) := by decide +kernel
theorem dX13_lend_310 : decode cX13_lend 310 = .ok (.i2l, 1) := by decide +kernel
theorem dX13_lend_311 : decode cX13_lend 311 = .ok (.ladd, 1) := by decide +kernel
theorem dX13_lend_312 : decode cX13_lend 312 = .ok (.lastore, 1) := by decide +kernel
theorem dX13_lend_313 : decode cX13_lend 313 = .ok (.aload_n 0, 1) := by decide +kernel
theorem dX13_lend_314 : decode cX13_lend 314 = .ok (.iload 5, 2) := by decide +kernel
theorem dX13_lend_316 : decode cX13_lend 316 = .ok (.invokevirtual 77, 3) := by decide +kernel
theorem dX13_lend_319 : decode cX13_lend 319 = .ok (.aload_n 0, 1) := by decide +kernel
theorem dX13_lend_320 : decode cX13_lend 320 = .ok (.iload 5, 2) := by decide +kernel
theorem dX13_lend_322 : decode cX13_lend 322 = .ok (.invokevirtual 69, 3) := by decide +kernel
theorem dX13_lend_325 : decode cX13_lend 325 = .ok (.ireturn, 1) := by decide +kernel
set_option maxRecDepth 20000 in
theorem ggX13_tear_X13_isTicket : GoodIn wsX13_tear wsX13_isTicket := goodIn_r _ [5, 6, 21, 22, 23, 24, 25, 26, 27, 28, 29, 30] (by decide +kernel) (by decide +kernel)
set_option maxRecDepth 20000 in
theorem gX13_tear_X13_isTicket : GoodIn wsX13_tear (wsV RX13 143 RX13 yX13_isTicket wsX13_isTicket) := goodIn_app (goodIn_of _ (by decide +kernel)) ggX13_tear_X13_isTicket
set_option maxRecDepth 20000 in
theorem ggX13_tear_X13_says : GoodIn wsX13_tear wsX13_says := goodIn_r _ [10, 11, 12, 21, 22, 23, 24, 25, 26] (by decide +kernel) (by decide +kernel)
set_option maxRecDepth 20000 in
theorem gX13_tear_X13_says : GoodIn wsX13_tear (wsV RX13 69 RX13 yX13_says wsX13_says) := goodIn_app (goodIn_of _ (by decide +kernel)) ggX13_tear_X13_says
set_option maxRecDepth 20000 in
theorem ggX13_tear_X13_of : GoodIn wsX13_tear wsX13_of := goodIn_r _ [16, 6, 21, 22, 23, 24, 25, 26, 27, 28, 29, 30] (by decide +kernel) (by decide +kernel)
set_option maxRecDepth 20000 in
theorem gX13_tear_X13_of : GoodIn wsX13_tear (wsV RX13 44 RX13 yX13_of wsX13_of) := goodIn_app (goodIn_of _ (by decide +kernel)) ggX13_tear_X13_of
set_option maxRecDepth 20000 in
theorem ggX13_tear_X13_put : GoodIn wsX13_tear wsX13_put := goodIn_r _ [20, 6, 21, 22, 23, 24, 25, 26, 27, 28, 29, 30] (by decide +kernel) (by decide +kernel)
set_option maxRecDepth 20000 in
theorem gX13_tear_X13_put : GoodIn wsX13_tear (wsV RX13 57 RX13 yX13_put wsX13_put) := goodIn_app (goodIn_of _ (by decide +kernel)) ggX13_tear_X13_put
theorem dX13_tear_0 : decode cX13_tear 0 = .ok (.aload_n 0, 1) := by decide +kernel
theorem dX13_tear_1 : decode cX13_tear 1 = .ok (.iload_n 1, 1) := by decide +kernel
theorem dX13_tear_2 : decode cX13_tear 2 = .ok (.invokevirtual 143, 3) := by decide +kernel
theorem dX13_tear_5 : decode cX13_tear 5 = .ok (.ifCond .ne 9, 3) := by decide +kernel
theorem dX13_tear_8 : decode cX13_tear 8 = .ok (.aload_n 0, 1) := by decide +kernel
theorem dX13_tear_9 : decode cX13_tear 9 = .ok (.iconst (-1), 1) := by decide +kernel
theorem dX13_tear_10 : decode cX13_tear 10 = .ok (.invokevirtual 69, 3) := by decide +kernel
theorem dX13_tear_13 : decode cX13_tear 13 = .ok (.ireturn, 1) := by decide +kernel
theorem dX13_tear_14 : decode cX13_tear 14 = .ok (.aload_n 0, 1) := by decide +kernel
theorem dX13_tear_15 : decode cX13_tear 15 = .ok (.iload_n 1, 1) := by decide +kernel
theorem dX13_tear_16 : decode cX13_tear 16 = .ok (.bipush 16, 2) := by decide +kernel
theorem dX13_tear_18 : decode cX13_tear 18 = .ok (.invokevirtual 44, 3) := by decide +kernel
theorem dX13_tear_21 : decode cX13_tear 21 = .ok (.iconst (-1), 1) := by decide +kernel
theorem dX13_tear_22 : decode cX13_tear 22 = .ok (.if_icmp .eq 10, 3) := by decide +kernel
theorem dX13_tear_25 : decode cX13_tear 25 = .ok (.aload_n 0, 1) := by decide +kernel
theorem dX13_tear_26 : decode cX13_tear 26 = .ok (.bipush (-2), 2) := by decide +kernel
theorem dX13_tear_28 : decode cX13_tear 28 = .ok (.invokevirtual 69, 3) := by decide +kernel
theorem dX13_tear_31 : decode cX13_tear 31 = .ok (.ireturn, 1) := by decide +kernel
theorem dX13_tear_32 : decode cX13_tear 32 = .ok (.iload_n 2, 1) := by decide +kernel
theorem dX13_tear_33 : decode cX13_tear 33 = .ok (.ifCond .eq 15, 3) := by decide +kernel
theorem dX13_tear_36 : decode cX13_tear 36 = .ok (.iload_n 2, 1) := by decide +kernel
theorem dX13_tear_37 : decode cX13_tear 37 = .ok (.iconst 1, 1) := by decide +kernel
theorem dX13_tear_38 : decode cX13_tear 38 = .ok (.if_icmp .eq 10, 3) := by decide +kernel
theorem dX13_tear_41 : decode cX13_tear 41 = .ok (.aload_n 0, 1) := by decide +kernel
theorem dX13_tear_42 : decode cX13_tear 42 = .ok (.bipush (-6), 2) := by decide +kernel
theorem dX13_tear_44 : decode cX13_tear 44 = .ok (.invokevirtual 69, 3) := by decide +kernel
theorem dX13_tear_47 : decode cX13_tear 47 = .ok (.ireturn, 1) := by decide +kernel
theorem dX13_tear_48 : decode cX13_tear 48 = .ok (.aload_n 0, 1) := by decide +kernel
theorem dX13_tear_49 : decode cX13_tear 49 = .ok (.iload_n 1, 1) := by decide +kernel
theorem dX13_tear_50 : decode cX13_tear 50 = .ok (.bipush 16, 2) := by decide +kernel
theorem dX13_tear_52 : decode cX13_tear 52 = .ok (.iload_n 2, 1) := by decide +kernel
theorem dX13_tear_53 : decode cX13_tear 53 = .ok (.invokevirtual 57, 3) := by decide +kernel
theorem dX13_tear_56 : decode cX13_tear 56 = .ok (.aload_n 0, 1) := by decide +kernel
theorem dX13_tear_57 : decode cX13_tear 57 = .ok (.iconst 0, 1) := by decide +kernel
theorem dX13_tear_58 : decode cX13_tear 58 = .ok (.invokevirtual 69, 3) := by decide +kernel
theorem dX13_tear_61 : decode cX13_tear 61 = .ok (.ireturn, 1) := by decide +kernel
set_option maxRecDepth 20000 in
theorem ggX13_oath_X13_isTicket : GoodIn wsX13_oath wsX13_isTicket := goodIn_r _ [5, 6, 29, 30, 31, 32, 33, 34, 35, 36, 37, 38] (by decide +kernel) (by decide +kernel)
set_option maxRecDepth 20000 in
theorem gX13_oath_X13_isTicket : GoodIn wsX13_oath (wsV RX13 143 RX13 yX13_isTicket wsX13_isTicket) := goodIn_app (goodIn_of _ (by decide +kernel)) ggX13_oath_X13_isTicket
set_option maxRecDepth 20000 in
theorem ggX13_oath_X13_says : GoodIn wsX13_oath wsX13_says := goodIn_r _ [10, 11, 12, 29, 30, 31, 32, 33, 34] (by decide +kernel) (by decide +kernel)
set_option maxRecDepth 20000 in
theorem gX13_oath_X13_says : GoodIn wsX13_oath (wsV RX13 69 RX13 yX13_says wsX13_says) := goodIn_app (goodIn_of _ (by decide +kernel)) ggX13_oath_X13_says
set_option maxRecDepth 20000 in
theorem ggX13_oath_X13_isOpen : GoodIn wsX13_oath wsX13_isOpen := goodIn_r _ [16, 17, 18, 19, 4, 20, 6, 29, 30, 31, 32, 33, 34, 35, 36, 37, 38] (by decide +kernel) (by decide +kernel)
set_option maxRecDepth 20000 in
theorem gX13_oath_X13_isOpen : GoodIn wsX13_oath (wsV RX13 48 RX13 yX13_isOpen wsX13_isOpen) := goodIn_app (goodIn_of _ (by decide +kernel)) ggX13_oath_X13_isOpen
set_option maxRecDepth 20000 in
theorem ggX13_oath_X13_today : GoodIn wsX13_oath wsX13_today := goodIn_r _ [24, 6, 29, 30, 31, 32, 33, 34, 35, 36, 37, 38] (by decide +kernel) (by decide +kernel)
set_option maxRecDepth 20000 in
theorem gX13_oath_X13_today : GoodIn wsX13_oath (wsV RX13 53 RX13 yX13_today wsX13_today) := goodIn_app (goodIn_of _ (by decide +kernel)) ggX13_oath_X13_today
set_option maxRecDepth 20000 in
theorem ggX13_oath_X13_put : GoodIn wsX13_oath wsX13_put := goodIn_r _ [28, 6, 29, 30, 31, 32, 33, 34, 35, 36, 37, 38] (by decide +kernel) (by decide +kernel)
set_option maxRecDepth 20000 in
theorem gX13_oath_X13_put : GoodIn wsX13_oath (wsV RX13 57 RX13 yX13_put wsX13_put) := goodIn_app (goodIn_of _ (by decide +kernel)) ggX13_oath_X13_put
theorem dX13_oath_0 : decode cX13_oath 0 = .ok (.aload_n 0, 1) := by decide +kernel
theorem dX13_oath_1 : decode cX13_oath 1 = .ok (.iload_n 1, 1) := by decide +kernel
theorem dX13_oath_2 : decode cX13_oath 2 = .ok (.invokevirtual 143, 3) := by decide +kernel
theorem dX13_oath_5 : decode cX13_oath 5 = .ok (.ifCond .ne 9, 3) := by decide +kernel
theorem dX13_oath_8 : decode cX13_oath 8 = .ok (.aload_n 0, 1) := by decide +kernel
theorem dX13_oath_9 : decode cX13_oath 9 = .ok (.iconst (-1), 1) := by decide +kernel
theorem dX13_oath_10 : decode cX13_oath 10 = .ok (.invokevirtual 69, 3) := by decide +kernel
theorem dX13_oath_13 : decode cX13_oath 13 = .ok (.ireturn, 1) := by decide +kernel
theorem dX13_oath_14 : decode cX13_oath 14 = .ok (.aload_n 0, 1) := by decide +kernel
theorem dX13_oath_15 : decode cX13_oath 15 = .ok (.iload_n 1, 1) := by decide +kernel
theorem dX13_oath_16 : decode cX13_oath 16 = .ok (.invokevirtual 48, 3) := by decide +kernel
theorem dX13_oath_19 : decode cX13_oath 19 = .ok (.ifCond .ne 10, 3) := by decide +kernel
theorem dX13_oath_22 : decode cX13_oath 22 = .ok (.aload_n 0, 1) := by decide +kernel
theorem dX13_oath_23 : decode cX13_oath 23 = .ok (.bipush (-2), 2) := by decide +kernel
theorem dX13_oath_25 : decode cX13_oath 25 = .ok (.invokevirtual 69, 3) := by decide +kernel
theorem dX13_oath_28 : decode cX13_oath 28 = .ok (.ireturn, 1) := by decide +kernel
theorem dX13_oath_29 : decode cX13_oath 29 = .ok (.aload_n 0, 1) := by decide +kernel
theorem dX13_oath_30 : decode cX13_oath 30 = .ok (.iload_n 1, 1) := by decide +kernel
theorem dX13_oath_31 : decode cX13_oath 31 = .ok (.bipush 18, 2) := by decide +kernel
theorem dX13_oath_33 : decode cX13_oath 33 = .ok (.aload_n 0, 1) := by decide +kernel
theorem dX13_oath_34 : decode cX13_oath 34 = .ok (.invokevirtual 53, 3) := by decide +kernel
theorem dX13_oath_37 : decode cX13_oath 37 = .ok (.invokevirtual 57, 3) := by decide +kernel
theorem dX13_oath_40 : decode cX13_oath 40 = .ok (.aload_n 0, 1) := by decide +kernel
theorem dX13_oath_41 : decode cX13_oath 41 = .ok (.iconst 0, 1) := by decide +kernel
theorem dX13_oath_42 : decode cX13_oath 42 = .ok (.invokevirtual 69, 3) := by decide +kernel
theorem dX13_oath_45 : decode cX13_oath 45 = .ok (.ireturn, 1) := by decide +kernel
set_option maxRecDepth 20000 in
theorem ggX13_pay_X13_isTicket : GoodIn wsX13_pay wsX13_isTicket := goodIn_r _ [10, 5, 49, 50, 51, 52, 53, 54, 55, 56, 57, 58] (by decide +kernel) (by decide +kernel)
set_option maxRecDepth 20000 in
theorem gX13_pay_X13_isTicket : GoodIn wsX13_pay (wsV RX13 143 RX13 yX13_isTicket wsX13_isTicket) := goodIn_app (goodIn_of _ (by decide +kernel)) ggX13_pay_X13_isTicket
set_option maxRecDepth 20000 in
theorem ggX13_pay_X13_says : GoodIn wsX13_pay wsX13_says := goodIn_r _ [14, 15, 16, 49, 50, 51, 52, 53, 54] (by decide +kernel) (by decide +kernel)
set_option maxRecDepth 20000 in
theorem gX13_pay_X13_says : GoodIn wsX13_pay (wsV RX13 69 RX13 yX13_says wsX13_says) := goodIn_app (goodIn_of _ (by decide +kernel)) ggX13_pay_X13_says
set_option maxRecDepth 20000 in
theorem ggX13_pay_X13_isFree : GoodIn wsX13_pay wsX13_isFree := goodIn_r _ [20, 21, 22, 23, 9, 24, 25, 26, 27, 28, 5, 49, 50, 51, 52, 53, 54, 55, 56, 57, 58] (by decide +kernel) (by decide +kernel)
set_option maxRecDepth 20000 in
theorem gX13_pay_X13_isFree : GoodIn wsX13_pay (wsV RX13 146 RX13 yX13_isFree wsX13_isFree) := goodIn_app (goodIn_of _ (by decide +kernel)) ggX13_pay_X13_isFree
set_option maxRecDepth 20000 in
theorem ggX13_pay_X13_isRight : GoodIn wsX13_pay wsX13_isRight := goodIn_r _ [32, 25, 26, 27, 9, 28, 5, 33, 34, 35, 36, 49, 50, 51, 52, 53, 54, 55, 56, 57, 58] (by decide +kernel) (by decide +kernel)
set_option maxRecDepth 20000 in
theorem gX13_pay_X13_isRight : GoodIn wsX13_pay (wsV RX13 149 RX13 yX13_isRight wsX13_isRight) := goodIn_app (goodIn_of _ (by decide +kernel)) ggX13_pay_X13_isRight
set_option maxRecDepth 20000 in
theorem ggX13_pay_X13_owed : GoodIn wsX13_pay wsX13_owed := goodIn_r _ [40, 25, 26, 27, 9, 28, 5, 49, 50, 51, 52, 53, 54, 55, 56, 57, 58] (by decide +kernel) (by decide +kernel)
set_option maxRecDepth 20000 in
theorem gX13_pay_X13_owed : GoodIn wsX13_pay (wsV RX13 153 RX13 yX13_owed wsX13_owed) := goodIn_app (goodIn_of _ (by decide +kernel)) ggX13_pay_X13_owed
set_option maxRecDepth 20000 in
theorem ggX13_pay_X13_of : GoodIn wsX13_pay wsX13_of := goodIn_r _ [28, 5, 49, 50, 51, 52, 53, 54, 55, 56, 57, 58] (by decide +kernel) (by decide +kernel)
set_option maxRecDepth 20000 in
theorem gX13_pay_X13_of : GoodIn wsX13_pay (wsV RX13 44 RX13 yX13_of wsX13_of) := goodIn_app (goodIn_of _ (by decide +kernel)) ggX13_pay_X13_of
set_option maxRecDepth 20000 in
theorem ggX13_pay_X13_put : GoodIn wsX13_pay wsX13_put := goodIn_r _ [44, 5, 49, 50, 51, 52, 53, 54, 55, 56, 57, 58] (by decide +kernel) (by decide +kernel)
set_option maxRecDepth 20000 in
theorem gX13_pay_X13_put : GoodIn wsX13_pay (wsV RX13 57 RX13 yX13_put wsX13_put) := goodIn_app (goodIn_of _ (by decide +kernel)) ggX13_pay_X13_put
set_option maxRecDepth 20000 in
theorem ggX13_pay_X13_shown : GoodIn wsX13_pay wsX13_shown := goodIn_r _ [48, 41, 42, 43, 9, 44, 5, 49, 50, 51, 52, 53, 54, 55, 56, 57, 58] (by decide +kernel) (by decide +kernel)
set_option maxRecDepth 20000 in
theorem gX13_pay_X13_shown : GoodIn wsX13_pay (wsV RX13 156 RX13 yX13_shown wsX13_shown) := goodIn_app (goodIn_of _ (by decide +kernel)) ggX13_pay_X13_shown
theorem dX13_pay_0 : decode cX13_pay 0 = .ok (.aload_n 0, 1) := by decide +kernel
theorem dX13_pay_1 : decode cX13_pay 1 = .ok (.iload_n 1, 1) := by decide +kernel
theorem dX13_pay_2 : decode cX13_pay 2 = .ok (.invokevirtual 143, 3) := by decide +kernel
theorem dX13_pay_5 : decode cX13_pay 5 = .ok (.ifCond .ne 9, 3) := by decide +kernel
theorem dX13_pay_8 : decode cX13_pay 8 = .ok (.aload_n 0, 1) := by decide +kernel
theorem dX13_pay_9 : decode cX13_pay 9 = .ok (.iconst (-1), 1) := by decide +kernel
theorem dX13_pay_10 : decode cX13_pay 10 = .ok (.invokevirtual 69, 3) := by decide +kernel
theorem dX13_pay_13 : decode cX13_pay 13 = .ok (.ireturn, 1) := by decide +kernel
theorem dX13_pay_14 : decode cX13_pay 14 = .ok (.aload_n 0, 1) := by decide +kernel
theorem dX13_pay_15 : decode cX13_pay 15 = .ok (.iload_n 1, 1) := by decide +kernel
theorem dX13_pay_16 : decode cX13_pay 16 = .ok (.invokevirtual 146, 3) := by decide +kernel
theorem dX13_pay_19 : decode cX13_pay 19 = .ok (.ifCond .ne 10, 3) := by decide +kernel
theorem dX13_pay_22 : decode cX13_pay 22 = .ok (.aload_n 0, 1) := by decide +kernel
theorem dX13_pay_23 : decode cX13_pay 23 = .ok (.bipush (-2), 2) := by decide +kernel
theorem dX13_pay_25 : decode cX13_pay 25 = .ok (.invokevirtual 69, 3) := by decide +kernel
theorem dX13_pay_28 : decode cX13_pay 28 = .ok (.ireturn, 1) := by decide +kernel
theorem dX13_pay_29 : decode cX13_pay 29 = .ok (.aload_n 0, 1) := by decide +kernel
theorem dX13_pay_30 : decode cX13_pay 30 = .ok (.iload_n 1, 1) := by decide +kernel
theorem dX13_pay_31 : decode cX13_pay 31 = .ok (.iload_n 2, 1) := by decide +kernel
theorem dX13_pay_32 : decode cX13_pay 32 = .ok (.invokevirtual 149, 3) := by decide +kernel
theorem dX13_pay_35 : decode cX13_pay 35 = .ok (.ifCond .ne 10, 3) := by decide +kernel
theorem dX13_pay_38 : decode cX13_pay 38 = .ok (.aload_n 0, 1) := by decide +kernel
theorem dX13_pay_39 : decode cX13_pay 39 = .ok (.bipush (-4), 2) := by decide +kernel
theorem dX13_pay_41 : decode cX13_pay 41 = .ok (.invokevirtual 69, 3) := by decide +kernel
theorem dX13_pay_44 : decode cX13_pay 44 = .ok (.ireturn, 1) := by decide +kernel
theorem dX13_pay_45 : decode cX13_pay 45 = .ok (.iload_n 3, 1) := by decide +kernel
theorem dX13_pay_46 : decode cX13_pay 46 = .ok (.iconst 1, 1) := by decide +kernel
theorem dX13_pay_47 : decode cX13_pay 47 = .ok (.if_icmp .lt 12, 3) := by decide +kernel
theorem dX13_pay_50 : decode cX13_pay 50 = .ok (.iload_n 3, 1) := by decide +kernel
theorem dX13_pay_51 : decode cX13_pay 51 = .ok (.aload_n 0, 1) := by decide +kernel
theorem dX13_pay_52 : decode cX13_pay 52 = .ok (.iload_n 1, 1) := by decide +kernel
theorem dX13_pay_53 : decode cX13_pay 53 = .ok (.invokevirtual 153, 3) := by decide +kernel
theorem dX13_pay_56 : decode cX13_pay 56 = .ok (.if_icmp .lt 10, 3) := by decide +kernel
theorem dX13_pay_59 : decode cX13_pay 59 = .ok (.aload_n 0, 1) := by decide +kernel
theorem dX13_pay_60 : decode cX13_pay 60 = .ok (.bipush (-6), 2) := by decide +kernel
theorem dX13_pay_62 : decode cX13_pay 62 = .ok (.invokevirtual 69, 3) := by decide +kernel
theorem dX13_pay_65 : decode cX13_pay 65 = .ok (.ireturn, 1) := by decide +kernel
theorem dX13_pay_66 : decode cX13_pay 66 = .ok (.iload_n 3, 1) := by decide +kernel
theorem dX13_pay_67 : decode cX13_pay 67 = .ok (.aload_n 0, 1) := by decide +kernel
theorem dX13_pay_68 : decode cX13_pay 68 = .ok (.iload_n 1, 1) := by decide +kernel
theorem dX13_pay_69 : decode cX13_pay 69 = .ok (.iconst 2, 1) := by decide +kernel
theorem dX13_pay_70 : decode cX13_pay 70 = .ok (.invokevirtual 44, 3) := by decide +kernel
theorem dX13_pay_73 : decode cX13_pay 73 = .ok (.invokestatic 128, 3) := by decide +kernel
theorem dX13_pay_76 : decode cX13_pay 76 = .ok (.istore 4, 2) := by decide +kernel
theorem dX13_pay_78 : decode cX13_pay 78 = .ok (.aload_n 0, 1) := by decide +kernel
theorem dX13_pay_79 : decode cX13_pay 79 = .ok (.iload_n 1, 1) := by decide +kernel
theorem dX13_pay_80 : decode cX13_pay 80 = .ok (.iconst 2, 1) := by decide +kernel
theorem dX13_pay_81 : decode cX13_pay 81 = .ok (.aload_n 0, 1) := by decide +kernel
theorem dX13_pay_82 : decode cX13_pay 82 = .ok (.iload_n 1, 1) := by decide +kernel
theorem dX13_pay_83 : decode cX13_pay 83 = .ok (.iconst 2, 1) := by decide +kernel
theorem dX13_pay_84 : decode cX13_pay 84 = .ok (.invokevirtual 44, 3) := by decide +kernel
theorem dX13_pay_87 : decode cX13_pay 87 = .ok (.iload 4, 2) := by decide +kernel
theorem dX13_pay_89 : decode cX13_pay 89 = .ok (.isub, 1) := by decide +kernel
theorem dX13_pay_90 : decode cX13_pay 90 = .ok (.invokevirtual 57, 3) := by decide +kernel
theorem dX13_pay_93 : decode cX13_pay 93 = .ok (.aload_n 0, 1) := by decide +kernel
theorem dX13_pay_94 : decode cX13_pay 94 = .ok (.iload_n 1, 1) := by decide +kernel
theorem dX13_pay_95 : decode cX13_pay 95 = .ok (.iconst 1, 1) := by decide +kernel
theorem dX13_pay_96 : decode cX13_pay 96 = .ok (.aload_n 0, 1) := by decide +kernel
theorem dX13_pay_97 : decode cX13_pay 97 = .ok (.iload_n 1, 1) := by decide +kernel
theorem dX13_pay_98 : decode cX13_pay 98 = .ok (.iconst 1, 1) := by decide +kernel
theorem dX13_pay_99 : decode cX13_pay 99 = .ok (.invokevirtual 44, 3) := by decide +kernel
theorem dX13_pay_102 : decode cX13_pay 102 = .ok (.iload_n 3, 1) := by decide +kernel
theorem dX13_pay_103 : decode cX13_pay 103 = .ok (.iload 4, 2) := by decide +kernel
theorem dX13_pay_105 : decode cX13_pay 105 = .ok (.isub, 1) := by decide +kernel
theorem dX13_pay_106 : decode cX13_pay 106 = .ok (.isub, 1) := by decide +kernel
theorem dX13_pay_107 : decode cX13_pay 107 = .ok (.invokevirtual 57, 3) := by decide +kernel
theorem dX13_pay_110 : decode cX13_pay 110 = .ok (.aload_n 0, 1) := by decide +kernel
theorem dX13_pay_111 : decode cX13_pay 111 = .ok (.getfield 10, 3) := by decide +kernel
theorem dX13_pay_114 : decode cX13_pay 114 = .ok (.getfield 140, 3) := by decide +kernel
theorem dX13_pay_117 : decode cX13_pay 117 = .ok (.iconst 1, 1) := by decide +kernel
theorem dX13_pay_118 : decode cX13_pay 118 = .ok (.dup2, 1) := by decide +kernel
theorem dX13_pay_119 : decode cX13_pay 119 = .ok (.laload, 1) := by decide +kernel
theorem dX13_pay_120 : decode cX13_pay 120 = .ok (.iload 4, 2) := by decide +kernel
theorem dX13_pay_122 : decode cX13_pay 122 = .ok (.i2l, 1) := by decide +kernel
theorem dX13_pay_123 : decode cX13_pay 123 = .ok (.ladd, 1) := by decide +kernel
theorem dX13_pay_124 : decode cX13_pay 124 = .ok (.lastore, 1) := by decide +kernel
theorem dX13_pay_125 : decode cX13_pay 125 = .ok (.aload_n 0, 1) := by decide +kernel
theorem dX13_pay_126 : decode cX13_pay 126 = .ok (.getfield 10, 3) := by decide +kernel
theorem dX13_pay_129 : decode cX13_pay 129 = .ok (.getfield 140, 3) := by decide +kernel
theorem dX13_pay_132 : decode cX13_pay 132 = .ok (.iconst 2, 1) := by decide +kernel
theorem dX13_pay_133 : decode cX13_pay 133 = .ok (.dup2, 1) := by decide +kernel
theorem dX13_pay_134 : decode cX13_pay 134 = .ok (.laload, 1) := by decide +kernel
theorem dX13_pay_135 : decode cX13_pay 135 = .ok (.iload_n 3, 1) := by decide +kernel
theorem dX13_pay_136 : decode cX13_pay 136 = .ok (.iload 4, 2) := by decide +kernel
theorem dX13_pay_138 : decode cX13_pay 138 = .ok (.isub, 1) := by decide +kernel
theorem dX13_pay_139 : decode cX13_pay 139 = .ok (.i2l, 1) := by decide +kernel
theorem dX13_pay_140 : decode cX13_pay 140 = .ok (.ladd, 1) := by decide +kernel
theorem dX13_pay_141 : decode cX13_pay 141 = .ok (.lastore, 1) := by decide +kernel
theorem dX13_pay_142 : decode cX13_pay 142 = .ok (.aload_n 0, 1) := by decide +kernel
theorem dX13_pay_143 : decode cX13_pay 143 = .ok (.iload_n 1, 1) := by decide +kernel
theorem dX13_pay_144 : decode cX13_pay 144 = .ok (.bipush 20, 2) := by decide +kernel
theorem dX13_pay_146 : decode cX13_pay 146 = .ok (.iconst (-1), 1) := by decide +kernel
theorem dX13_pay_147 : decode cX13_pay 147 = .ok (.invokevirtual 57, 3) := by decide +kernel
theorem dX13_pay_150 : decode cX13_pay 150 = .ok (.aload_n 0, 1) := by decide +kernel
theorem dX13_pay_151 : decode cX13_pay 151 = .ok (.iload_n 1, 1) := by decide +kernel
theorem dX13_pay_152 : decode cX13_pay 152 = .ok (.iload_n 2, 1) := by decide +kernel
theorem dX13_pay_153 : decode cX13_pay 153 = .ok (.invokevirtual 156, 3) := by decide +kernel
theorem dX13_pay_156 : decode cX13_pay 156 = .ok (.aload_n 0, 1) := by decide +kernel
theorem dX13_pay_157 : decode cX13_pay 157 = .ok (.aload_n 0, 1) := by decide +kernel
theorem dX13_pay_158 : decode cX13_pay 158 = .ok (.iload_n 1, 1) := by decide +kernel
theorem dX13_pay_159 : decode cX13_pay 159 = .ok (.invokevirtual 153, 3) := by decide +kernel
theorem dX13_pay_162 : decode cX13_pay 162 = .ok (.invokevirtual 69, 3) := by decide +kernel
theorem dX13_pay_165 : decode cX13_pay 165 = .ok (.ireturn, 1) := by decide +kernel
set_option maxRecDepth 20000 in
theorem ggX13_renew_X13_isTicket : GoodIn wsX13_renew wsX13_isTicket := goodIn_r _ [6, 1, 49, 50, 51, 52, 53, 54, 55, 56, 57, 58] (by decide +kernel) (by decide +kernel)
set_option maxRecDepth 20000 in
theorem gX13_renew_X13_isTicket : GoodIn wsX13_renew (wsV RX13 143 RX13 yX13_isTicket wsX13_isTicket) := goodIn_app (goodIn_of _ (by decide +kernel)) ggX13_renew_X13_isTicket
set_option maxRecDepth 20000 in
theorem ggX13_renew_X13_says : GoodIn wsX13_renew wsX13_says := goodIn_r _ [10, 11, 12, 49, 50, 51, 52, 53, 54] (by decide +kernel) (by decide +kernel)
set_option maxRecDepth 20000 in
theorem gX13_renew_X13_says : GoodIn wsX13_renew (wsV RX13 69 RX13 yX13_says wsX13_says) := goodIn_app (goodIn_of _ (by decide +kernel)) ggX13_renew_X13_says
set_option maxRecDepth 20000 in
theorem ggX13_renew_X13_isFree : GoodIn wsX13_renew wsX13_isFree := goodIn_r _ [16, 17, 18, 19, 5, 20, 21, 22, 23, 24, 1, 49, 50, 51, 52, 53, 54, 55, 56, 57, 58] (by decide +kernel) (by decide +kernel)
set_option maxRecDepth 20000 in
theorem gX13_renew_X13_isFree : GoodIn wsX13_renew (wsV RX13 146 RX13 yX13_isFree wsX13_isFree) := goodIn_app (goodIn_of _ (by decide +kernel)) ggX13_renew_X13_isFree
set_option maxRecDepth 20000 in
theorem ggX13_renew_X13_isClaimed : GoodIn wsX13_renew wsX13_isClaimed := goodIn_r _ [28, 21, 22, 23, 5, 24, 1, 49, 50, 51, 52, 53, 54, 55, 56, 57, 58] (by decide +kernel) (by decide +kernel)
set_option maxRecDepth 20000 in
theorem gX13_renew_X13_isClaimed : GoodIn wsX13_renew (wsV RX13 159 RX13 yX13_isClaimed wsX13_isClaimed) := goodIn_app (goodIn_of _ (by decide +kernel)) ggX13_renew_X13_isClaimed
set_option maxRecDepth 20000 in
theorem ggX13_renew_X13_isRight : GoodIn wsX13_renew wsX13_isRight := goodIn_r _ [32, 21, 22, 23, 5, 24, 1, 33, 34, 35, 36, 49, 50, 51, 52, 53, 54, 55, 56, 57, 58] (by decide +kernel) (by decide +kernel)
set_option maxRecDepth 20000 in
theorem gX13_renew_X13_isRight : GoodIn wsX13_renew (wsV RX13 149 RX13 yX13_isRight wsX13_isRight) := goodIn_app (goodIn_of _ (by decide +kernel)) ggX13_renew_X13_isRight
set_option maxRecDepth 20000 in
theorem ggX13_renew_X13_of : GoodIn wsX13_renew wsX13_of := goodIn_r _ [24, 1, 49, 50, 51, 52, 53, 54, 55, 56, 57, 58] (by decide +kernel) (by decide +kernel)
set_option maxRecDepth 20000 in
theorem gX13_renew_X13_of : GoodIn wsX13_renew (wsV RX13 44 RX13 yX13_of wsX13_of) := goodIn_app (goodIn_of _ (by decide +kernel)) ggX13_renew_X13_of
set_option maxRecDepth 20000 in
theorem ggX13_renew_X13_today : GoodIn wsX13_renew wsX13_today := goodIn_r _ [36, 1, 49, 50, 51, 52, 53, 54, 55, 56, 57, 58] (by decide +kernel) (by decide +kernel)
set_option maxRecDepth 20000 in
theorem gX13_renew_X13_today : GoodIn wsX13_renew (wsV RX13 53 RX13 yX13_today wsX13_today) := goodIn_app (goodIn_of _ (by decide +kernel)) ggX13_renew_X13_today
set_option maxRecDepth 20000 in
theorem ggX13_renew_X13_put : GoodIn wsX13_renew wsX13_put := goodIn_r _ [40, 1, 49, 50, 51, 52, 53, 54, 55, 56, 57, 58] (by decide +kernel) (by decide +kernel)
set_option maxRecDepth 20000 in
theorem gX13_renew_X13_put : GoodIn wsX13_renew (wsV RX13 57 RX13 yX13_put wsX13_put) := goodIn_app (goodIn_of _ (by decide +kernel)) ggX13_renew_X13_put
set_option maxRecDepth 20000 in
theorem ggX13_renew_X13_ruleOf : GoodIn wsX13_renew wsX13_ruleOf := goodIn_r _ [44, 1, 49, 50, 51, 52, 53, 54, 55, 56, 57, 58] (by decide +kernel) (by decide +kernel)
set_option maxRecDepth 20000 in
theorem gX13_renew_X13_ruleOf : GoodIn wsX13_renew (wsV RX13 123 RX13 yX13_ruleOf wsX13_ruleOf) := goodIn_app (goodIn_of _ (by decide +kernel)) ggX13_renew_X13_ruleOf
set_option maxRecDepth 20000 in
theorem ggX13_renew_X13_shown : GoodIn wsX13_renew wsX13_shown := goodIn_r _ [48, 37, 38, 39, 5, 40, 1, 49, 50, 51, 52, 53, 54, 55, 56, 57, 58] (by decide +kernel) (by decide +kernel)
set_option maxRecDepth 20000 in
theorem gX13_renew_X13_shown : GoodIn wsX13_renew (wsV RX13 156 RX13 yX13_shown wsX13_shown) := goodIn_app (goodIn_of _ (by decide +kernel)) ggX13_renew_X13_shown
theorem dX13_renew_0 : decode cX13_renew 0 = .ok (.aload_n 0, 1) := by decide +kernel
theorem dX13_renew_1 : decode cX13_renew 1 = .ok (.iload_n 1, 1) := by decide +kernel
theorem dX13_renew_2 : decode cX13_renew 2 = .ok (.invokevirtual 143, 3) := by decide +kernel
theorem dX13_renew_5 : decode cX13_renew 5 = .ok (.ifCond .ne 9, 3) := by decide +kernel
theorem dX13_renew_8 : decode cX13_renew 8 = .ok (.aload_n 0, 1) := by decide +kernel
theorem dX13_renew_9 : decode cX13_renew 9 = .ok (.iconst (-1), 1) := by decide +kernel
theorem dX13_renew_10 : decode cX13_renew 10 = .ok (.invokevirtual 69, 3) := by decide +kernel
theorem dX13_renew_13 : decode cX13_renew 13 = .ok (.ireturn, 1) := by decide +kernel
theorem dX13_renew_14 : decode cX13_renew 14 = .ok (.aload_n 0, 1) := by decide +kernel
theorem dX13_renew_15 : decode cX13_renew 15 = .ok (.iload_n 1, 1) := by decide +kernel
theorem dX13_renew_16 : decode cX13_renew 16 = .ok (.invokevirtual 146, 3) := by decide +kernel
theorem dX13_renew_19 : decode cX13_renew 19 = .ok (.ifCond .ne 10, 3) := by decide +kernel
theorem dX13_renew_22 : decode cX13_renew 22 = .ok (.aload_n 0, 1) := by decide +kernel
theorem dX13_renew_23 : decode cX13_renew 23 = .ok (.bipush (-2), 2) := by decide +kernel
theorem dX13_renew_25 : decode cX13_renew 25 = .ok (.invokevirtual 69, 3) := by decide +kernel
theorem dX13_renew_28 : decode cX13_renew 28 = .ok (.ireturn, 1) := by decide +kernel
theorem dX13_renew_29 : decode cX13_renew 29 = .ok (.aload_n 0, 1) := by decide +kernel
theorem dX13_renew_30 : decode cX13_renew 30 = .ok (.iload_n 1, 1) := by decide +kernel
theorem dX13_renew_31 : decode cX13_renew 31 = .ok (.invokevirtual 159, 3) := by decide +kernel
theorem dX13_renew_34 : decode cX13_renew 34 = .ok (.ifCond .eq 10, 3) := by decide +kernel
theorem dX13_renew_37 : decode cX13_renew 37 = .ok (.aload_n 0, 1) := by decide +kernel
theorem dX13_renew_38 : decode cX13_renew 38 = .ok (.bipush (-3), 2) := by decide +kernel
theorem dX13_renew_40 : decode cX13_renew 40 = .ok (.invokevirtual 69, 3) := by decide +kernel
theorem dX13_renew_43 : decode cX13_renew 43 = .ok (.ireturn, 1) := by decide +kernel
theorem dX13_renew_44 : decode cX13_renew 44 = .ok (.aload_n 0, 1) := by decide +kernel
theorem dX13_renew_45 : decode cX13_renew 45 = .ok (.iload_n 1, 1) := by decide +kernel
theorem dX13_renew_46 : decode cX13_renew 46 = .ok (.iload_n 2, 1) := by decide +kernel
theorem dX13_renew_47 : decode cX13_renew 47 = .ok (.invokevirtual 149, 3) := by decide +kernel
theorem dX13_renew_50 : decode cX13_renew 50 = .ok (.ifCond .ne 10, 3) := by decide +kernel
theorem dX13_renew_53 : decode cX13_renew 53 = .ok (.aload_n 0, 1) := by decide +kernel
theorem dX13_renew_54 : decode cX13_renew 54 = .ok (.bipush (-4), 2) := by decide +kernel
theorem dX13_renew_56 : decode cX13_renew 56 = .ok (.invokevirtual 69, 3) := by decide +kernel
theorem dX13_renew_59 : decode cX13_renew 59 = .ok (.ireturn, 1) := by decide +kernel
theorem dX13_renew_60 : decode cX13_renew 60 = .ok (.iload_n 3, 1) := by decide +kernel
theorem dX13_renew_61 : decode cX13_renew 61 = .ok (.iconst 1, 1) := by decide +kernel
theorem dX13_renew_62 : decode cX13_renew 62 = .ok (.if_icmp .lt 9, 3) := by decide +kernel
theorem dX13_renew_65 : decode cX13_renew 65 = .ok (.iload_n 3, 1) := by decide +kernel
theorem dX13_renew_66 : decode cX13_renew 66 = .ok (.bipush 12, 2) := by decide +kernel
theorem dX13_renew_68 : decode cX13_renew 68 = .ok (.if_icmp .le 10, 3) := by decide +kernel
theorem dX13_renew_71 : decode cX13_renew 71 = .ok (.aload_n 0, 1) := by decide +kernel
theorem dX13_renew_72 : decode cX13_renew 72 = .ok (.bipush (-6), 2) := by decide +kernel
theorem dX13_renew_74 : decode cX13_renew 74 = .ok (.invokevirtual 69, 3) := by decide +kernel
theorem dX13_renew_77 : decode cX13_renew 77 = .ok (.ireturn, 1) := by decide +kernel
theorem dX13_renew_78 : decode cX13_renew 78 = .ok (.aload_n 0, 1) := by decide +kernel
theorem dX13_renew_79 : decode cX13_renew 79 = .ok (.iload_n 1, 1) := by decide +kernel
theorem dX13_renew_80 : decode cX13_renew 80 = .ok (.iconst 2, 1) := by decide +kernel
theorem dX13_renew_81 : decode cX13_renew 81 = .ok (.invokevirtual 44, 3) := by decide +kernel
theorem dX13_renew_84 : decode cX13_renew 84 = .ok (.istore 4, 2) := by decide +kernel
theorem dX13_renew_86 : decode cX13_renew 86 = .ok (.aload_n 0, 1) := by decide +kernel
theorem dX13_renew_87 : decode cX13_renew 87 = .ok (.iload_n 1, 1) := by decide +kernel
theorem dX13_renew_88 : decode cX13_renew 88 = .ok (.bipush 20, 2) := by decide +kernel
theorem dX13_renew_90 : decode cX13_renew 90 = .ok (.aload_n 0, 1) := by decide +kernel
theorem dX13_renew_91 : decode cX13_renew 91 = .ok (.invokevirtual 53, 3) := by decide +kernel
theorem dX13_renew_94 : decode cX13_renew 94 = .ok (.invokevirtual 57, 3) := by decide +kernel
theorem dX13_renew_97 : decode cX13_renew 97 = .ok (.aload_n 0, 1) := by decide +kernel
theorem dX13_renew_98 : decode cX13_renew 98 = .ok (.iload_n 1, 1) := by decide +kernel
theorem dX13_renew_99 : decode cX13_renew 99 = .ok (.bipush 21, 2) := by decide +kernel
theorem dX13_renew_101 : decode cX13_renew 101 = .ok (.aload_n 0, 1) := by decide +kernel
theorem dX13_renew_102 : decode cX13_renew 102 = .ok (.iload_n 1, 1) := by decide +kernel
theorem dX13_renew_103 : decode cX13_renew 103 = .ok (.iconst 4, 1) := by decide +kernel
theorem dX13_renew_104 : decode cX13_renew 104 = .ok (.invokevirtual 44, 3) := by decide +kernel
theorem dX13_renew_107 : decode cX13_renew 107 = .ok (.invokevirtual 57, 3) := by decide +kernel
theorem dX13_renew_110 : decode cX13_renew 110 = .ok (.aload_n 0, 1) := by decide +kernel
theorem dX13_renew_111 : decode cX13_renew 111 = .ok (.iload_n 1, 1) := by decide +kernel
theorem dX13_renew_112 : decode cX13_renew 112 = .ok (.bipush 22, 2) := by decide +kernel
theorem dX13_renew_114 : decode cX13_renew 114 = .ok (.aload_n 0, 1) := by decide +kernel
theorem dX13_renew_115 : decode cX13_renew 115 = .ok (.iload_n 1, 1) := by decide +kernel
theorem dX13_renew_116 : decode cX13_renew 116 = .ok (.iconst 5, 1) := by decide +kernel
theorem dX13_renew_117 : decode cX13_renew 117 = .ok (.invokevirtual 44, 3) := by decide +kernel
theorem dX13_renew_120 : decode cX13_renew 120 = .ok (.invokevirtual 57, 3) := by decide +kernel
theorem dX13_renew_123 : decode cX13_renew 123 = .ok (.aload_n 0, 1) := by decide +kernel
theorem dX13_renew_124 : decode cX13_renew 124 = .ok (.iload_n 1, 1) := by decide +kernel
theorem dX13_renew_125 : decode cX13_renew 125 = .ok (.bipush 23, 2) := by decide +kernel
theorem dX13_renew_127 : decode cX13_renew 127 = .ok (.aload_n 0, 1) := by decide +kernel
theorem dX13_renew_128 : decode cX13_renew 128 = .ok (.iload_n 1, 1) := by decide +kernel
theorem dX13_renew_129 : decode cX13_renew 129 = .ok (.bipush 6, 2) := by decide +kernel
theorem dX13_renew_131 : decode cX13_renew 131 = .ok (.invokevirtual 44, 3) := by decide +kernel
theorem dX13_renew_134 : decode cX13_renew 134 = .ok (.invokevirtual 57, 3) := by decide +kernel
theorem dX13_renew_137 : decode cX13_renew 137 = .ok (.aload_n 0, 1) := by decide +kernel
theorem dX13_renew_138 : decode cX13_renew 138 = .ok (.iload_n 1, 1) := by decide +kernel
theorem dX13_renew_139 : decode cX13_renew 139 = .ok (.bipush 24, 2) := by decide +kernel
theorem dX13_renew_141 : decode cX13_renew 141 = .ok (.aload_n 0, 1) := by decide +kernel
theorem dX13_renew_142 : decode cX13_renew 142 = .ok (.iload_n 1, 1) := by decide +kernel
theorem dX13_renew_143 : decode cX13_renew 143 = .ok (.iconst 3, 1) := by decide +kernel
theorem dX13_renew_144 : decode cX13_renew 144 = .ok (.invokevirtual 44, 3) := by decide +kernel
theorem dX13_renew_147 : decode cX13_renew 147 = .ok (.invokevirtual 57, 3) := by decide +kernel
theorem dX13_renew_150 : decode cX13_renew 150 = .ok (.aload_n 0, 1) := by decide +kernel
theorem dX13_renew_151 : decode cX13_renew 151 = .ok (.iload_n 1, 1) := by decide +kernel
theorem dX13_renew_152 : decode cX13_renew 152 = .ok (.bipush 25, 2) := by decide +kernel
theorem dX13_renew_154 : decode cX13_renew 154 = .ok (.iload 4, 2) := by decide +kernel
theorem dX13_renew_156 : decode cX13_renew 156 = .ok (.invokevirtual 57, 3) := by decide +kernel
theorem dX13_renew_159 : decode cX13_renew 159 = .ok (.aload_n 0, 1) := by decide +kernel
theorem dX13_renew_160 : decode cX13_renew 160 = .ok (.iload_n 1, 1) := by decide +kernel
theorem dX13_renew_161 : decode cX13_renew 161 = .ok (.bipush 26, 2) := by decide +kernel
theorem dX13_renew_163 : decode cX13_renew 163 = .ok (.aload_n 0, 1) := by decide +kernel
theorem dX13_renew_164 : decode cX13_renew 164 = .ok (.iload_n 1, 1) := by decide +kernel
theorem dX13_renew_165 : decode cX13_renew 165 = .ok (.bipush 9, 2) := by decide +kernel
theorem dX13_renew_167 : decode cX13_renew 167 = .ok (.invokevirtual 44, 3) := by decide +kernel
theorem dX13_renew_170 : decode cX13_renew 170 = .ok (.invokevirtual 57, 3) := by decide +kernel
theorem dX13_renew_173 : decode cX13_renew 173 = .ok (.aload_n 0, 1) := by decide +kernel
theorem dX13_renew_174 : decode cX13_renew 174 = .ok (.iload_n 1, 1) := by decide +kernel
theorem dX13_renew_175 : decode cX13_renew 175 = .ok (.iconst 4, 1) := by decide +kernel
theorem dX13_renew_176 : decode cX13_renew 176 = .ok (.aload_n 0, 1) := by decide +kernel
theorem dX13_renew_177 : decode cX13_renew 177 = .ok (.iload_n 1, 1) := by decide +kernel
theorem dX13_renew_178 : decode cX13_renew 178 = .ok (.iconst 4, 1) := by decide +kernel
theorem dX13_renew_179 : decode cX13_renew 179 = .ok (.invokevirtual 44, 3) := by decide +kernel
theorem dX13_renew_182 : decode cX13_renew 182 = .ok (.bipush 30, 2) := by decide +kernel
theorem dX13_renew_184 : decode cX13_renew 184 = .ok (.aload_n 0, 1) := by decide +kernel
theorem dX13_renew_185 : decode cX13_renew 185 = .ok (.iload_n 1, 1) := by decide +kernel
theorem dX13_renew_186 : decode cX13_renew 186 = .ok (.iconst 3, 1) := by decide +kernel
theorem dX13_renew_187 : decode cX13_renew 187 = .ok (.invokevirtual 44, 3) := by decide +kernel
theorem dX13_renew_190 : decode cX13_renew 190 = .ok (.imul, 1) := by decide +kernel
theorem dX13_renew_191 : decode cX13_renew 191 = .ok (.iadd, 1) := by decide +kernel
theorem dX13_renew_192 : decode cX13_renew 192 = .ok (.invokevirtual 57, 3) := by decide +kernel
theorem dX13_renew_195 : decode cX13_renew 195 = .ok (.aload_n 0, 1) := by decide +kernel
theorem dX13_renew_196 : decode cX13_renew 196 = .ok (.iload_n 1, 1) := by decide +kernel
theorem dX13_renew_197 : decode cX13_renew 197 = .ok (.iconst 5, 1) := by decide +kernel
theorem dX13_renew_198 : decode cX13_renew 198 = .ok (.iload_n 3, 1) := by decide +kernel
theorem dX13_renew_199 : decode cX13_renew 199 = .ok (.invokevirtual 57, 3) := by decide +kernel
theorem dX13_renew_202 : decode cX13_renew 202 = .ok (.aload_n 0, 1) := by decide +kernel
theorem dX13_renew_203 : decode cX13_renew 203 = .ok (.iload_n 1, 1) := by decide +kernel
theorem dX13_renew_204 : decode cX13_renew 204 = .ok (.bipush 6, 2) := by decide +kernel
theorem dX13_renew_206 : decode cX13_renew 206 = .ok (.aload_n 0, 1) := by decide +kernel
theorem dX13_renew_207 : decode cX13_renew 207 = .ok (.iconst 4, 1) := by decide +kernel
theorem dX13_renew_208 : decode cX13_renew 208 = .ok (.aload_n 0, 1) := by decide +kernel
theorem dX13_renew_209 : decode cX13_renew 209 = .ok (.iload_n 1, 1) := by decide +kernel
theorem dX13_renew_210 : decode cX13_renew 210 = .ok (.bipush 19, 2) := by decide +kernel
theorem dX13_renew_212 : decode cX13_renew 212 = .ok (.invokevirtual 44, 3) := by decide +kernel
theorem dX13_renew_215 : decode cX13_renew 215 = .ok (.iadd, 1) := by decide +kernel
theorem dX13_renew_216 : decode cX13_renew 216 = .ok (.invokevirtual 123, 3) := by decide +kernel
theorem dX13_renew_219 : decode cX13_renew 219 = .ok (.invokevirtual 57, 3) := by decide +kernel
theorem dX13_renew_222 : decode cX13_renew 222 = .ok (.aload_n 0, 1) := by decide +kernel
theorem dX13_renew_223 : decode cX13_renew 223 = .ok (.iload_n 1, 1) := by decide +kernel
theorem dX13_renew_224 : decode cX13_renew 224 = .ok (.iconst 3, 1) := by decide +kernel
theorem dX13_renew_225 : decode cX13_renew 225 = .ok (.iconst 0, 1) := by decide +kernel
theorem dX13_renew_226 : decode cX13_renew 226 = .ok (.invokevirtual 57, 3) := by decide +kernel
theorem dX13_renew_229 : decode cX13_renew 229 = .ok (.aload_n 0, 1) := by decide +kernel
theorem dX13_renew_230 : decode cX13_renew 230 = .ok (.iload_n 1, 1) := by decide +kernel
theorem dX13_renew_231 : decode cX13_renew 231 = .ok (.iconst 2, 1) := by decide +kernel
theorem dX13_renew_232 : decode cX13_renew 232 = .ok (.iconst 0, 1) := by decide +kernel
theorem dX13_renew_233 : decode cX13_renew 233 = .ok (.invokevirtual 57, 3) := by decide +kernel
theorem dX13_renew_236 : decode cX13_renew 236 = .ok (.aload_n 0, 1) := by decide +kernel
theorem dX13_renew_237 : decode cX13_renew 237 = .ok (.iload_n 1, 1) := by decide +kernel
theorem dX13_renew_238 : decode cX13_renew 238 = .ok (.bipush 9, 2) := by decide +kernel
theorem dX13_renew_240 : decode cX13_renew 240 = .ok (.iconst 0, 1) := by decide +kernel
theorem dX13_renew_241 : decode cX13_renew 241 = .ok (.invokevirtual 57, 3) := by decide +kernel
theorem dX13_renew_244 : decode cX13_renew 244 = .ok (.aload_n 0, 1) := by decide +kernel
theorem dX13_renew_245 : decode cX13_renew 245 = .ok (.getfield 10, 3) := by decide +kernel
theorem dX13_renew_248 : decode cX13_renew 248 = .ok (.getfield 140, 3) := by decide +kernel
theorem dX13_renew_251 : decode cX13_renew 251 = .ok (.iconst 1, 1) := by decide +kernel
theorem dX13_renew_252 : decode cX13_renew 252 = .ok (.dup2, 1) := by decide +kernel
theorem dX13_renew_253 : decode cX13_renew 253 = .ok (.laload, 1) := by decide +kernel
theorem dX13_renew_254 : decode cX13_renew 254 = .ok (.iload 4, 2) := by decide +kernel
theorem dX13_renew_256 : decode cX13_renew 256 = .ok (.i2l, 1) := by decide +kernel
theorem dX13_renew_257 : decode cX13_renew 257 = .ok (.ladd, 1) := by decide +kernel
theorem dX13_renew_258 : decode cX13_renew 258 = .ok (.lastore, 1) := by decide +kernel
theorem dX13_renew_259 : decode cX13_renew 259 = .ok (.aload_n 0, 1) := by decide +kernel
theorem dX13_renew_260 : decode cX13_renew 260 = .ok (.iload_n 1, 1) := by decide +kernel
theorem dX13_renew_261 : decode cX13_renew 261 = .ok (.iload_n 2, 1) := by decide +kernel
theorem dX13_renew_262 : decode cX13_renew 262 = .ok (.invokevirtual 156, 3) := by decide +kernel
theorem dX13_renew_265 : decode cX13_renew 265 = .ok (.aload_n 0, 1) := by decide +kernel
theorem dX13_renew_266 : decode cX13_renew 266 = .ok (.iload 4, 2) := by decide +kernel
theorem dX13_renew_268 : decode cX13_renew 268 = .ok (.invokevirtual 69, 3) := by decide +kernel
theorem dX13_renew_271 : decode cX13_renew 271 = .ok (.ireturn, 1) := by decide +kernel
set_option maxRecDepth 20000 in
theorem ggX13_undo_X13_isTicket : GoodIn wsX13_undo wsX13_isTicket := goodIn_r _ [6, 1, 29, 30, 31, 32, 33, 34, 35, 36, 37, 38] (by decide +kernel) (by decide +kernel)
set_option maxRecDepth 20000 in
theorem gX13_undo_X13_isTicket : GoodIn wsX13_undo (wsV RX13 143 RX13 yX13_isTicket wsX13_isTicket) := goodIn_app (goodIn_of _ (by decide +kernel)) ggX13_undo_X13_isTicket
set_option maxRecDepth 20000 in
theorem ggX13_undo_X13_says : GoodIn wsX13_undo wsX13_says := goodIn_r _ [10, 11, 12, 29, 30, 31, 32, 33, 34] (by decide +kernel) (by decide +kernel)
set_option maxRecDepth 20000 in
theorem gX13_undo_X13_says : GoodIn wsX13_undo (wsV RX13 69 RX13 yX13_says wsX13_says) := goodIn_app (goodIn_of _ (by decide +kernel)) ggX13_undo_X13_says
set_option maxRecDepth 20000 in
theorem ggX13_undo_X13_isOpen : GoodIn wsX13_undo wsX13_isOpen := goodIn_r _ [16, 17, 18, 19, 5, 20, 1, 29, 30, 31, 32, 33, 34, 35, 36, 37, 38] (by decide +kernel) (by decide +kernel)
set_option maxRecDepth 20000 in
theorem gX13_undo_X13_isOpen : GoodIn wsX13_undo (wsV RX13 48 RX13 yX13_isOpen wsX13_isOpen) := goodIn_app (goodIn_of _ (by decide +kernel)) ggX13_undo_X13_isOpen
set_option maxRecDepth 20000 in
theorem ggX13_undo_X13_of : GoodIn wsX13_undo wsX13_of := goodIn_r _ [20, 1, 29, 30, 31, 32, 33, 34, 35, 36, 37, 38] (by decide +kernel) (by decide +kernel)
set_option maxRecDepth 20000 in
theorem gX13_undo_X13_of : GoodIn wsX13_undo (wsV RX13 44 RX13 yX13_of wsX13_of) := goodIn_app (goodIn_of _ (by decide +kernel)) ggX13_undo_X13_of
set_option maxRecDepth 20000 in
theorem ggX13_undo_X13_today : GoodIn wsX13_undo wsX13_today := goodIn_r _ [24, 1, 29, 30, 31, 32, 33, 34, 35, 36, 37, 38] (by decide +kernel) (by decide +kernel)
set_option maxRecDepth 20000 in
theorem gX13_undo_X13_today : GoodIn wsX13_undo (wsV RX13 53 RX13 yX13_today wsX13_today) := goodIn_app (goodIn_of _ (by decide +kernel)) ggX13_undo_X13_today
set_option maxRecDepth 20000 in
theorem ggX13_undo_X13_put : GoodIn wsX13_undo wsX13_put := goodIn_r _ [28, 1, 29, 30, 31, 32, 33, 34, 35, 36, 37, 38] (by decide +kernel) (by decide +kernel)
set_option maxRecDepth 20000 in
theorem gX13_undo_X13_put : GoodIn wsX13_undo (wsV RX13 57 RX13 yX13_put wsX13_put) := goodIn_app (goodIn_of _ (by decide +kernel)) ggX13_undo_X13_put
theorem dX13_undo_0 : decode cX13_undo 0 = .ok (.aload_n 0, 1) := by decide +kernel
theorem dX13_undo_1 : decode cX13_undo 1 = .ok (.iload_n 1, 1) := by decide +kernel
theorem dX13_undo_2 : decode cX13_undo 2 = .ok (.invokevirtual 143, 3) := by decide +kernel
theorem dX13_undo_5 : decode cX13_undo 5 = .ok (.ifCond .ne 9, 3) := by decide +kernel
theorem dX13_undo_8 : decode cX13_undo 8 = .ok (.aload_n 0, 1) := by decide +kernel
theorem dX13_undo_9 : decode cX13_undo 9 = .ok (.iconst (-1), 1) := by decide +kernel
theorem dX13_undo_10 : decode cX13_undo 10 = .ok (.invokevirtual 69, 3) := by decide +kernel
theorem dX13_undo_13 : decode cX13_undo 13 = .ok (.ireturn, 1) := by decide +kernel
theorem dX13_undo_14 : decode cX13_undo 14 = .ok (.aload_n 0, 1) := by decide +kernel
theorem dX13_undo_15 : decode cX13_undo 15 = .ok (.iload_n 1, 1) := by decide +kernel
theorem dX13_undo_16 : decode cX13_undo 16 = .ok (.invokevirtual 48, 3) := by decide +kernel
theorem dX13_undo_19 : decode cX13_undo 19 = .ok (.ifCond .eq 14, 3) := by decide +kernel
theorem dX13_undo_22 : decode cX13_undo 22 = .ok (.aload_n 0, 1) := by decide +kernel
theorem dX13_undo_23 : decode cX13_undo 23 = .ok (.iload_n 1, 1) := by decide +kernel
theorem dX13_undo_24 : decode cX13_undo 24 = .ok (.bipush 20, 2) := by decide +kernel
theorem dX13_undo_26 : decode cX13_undo 26 = .ok (.invokevirtual 44, 3) := by decide +kernel
theorem dX13_undo_29 : decode cX13_undo 29 = .ok (.iconst (-1), 1) := by decide +kernel
theorem dX13_undo_30 : decode cX13_undo 30 = .ok (.if_icmp .ne 10, 3) := by decide +kernel
theorem dX13_undo_33 : decode cX13_undo 33 = .ok (.aload_n 0, 1) := by decide +kernel
theorem dX13_undo_34 : decode cX13_undo 34 = .ok (.bipush (-2), 2) := by decide +kernel
theorem dX13_undo_36 : decode cX13_undo 36 = .ok (.invokevirtual 69, 3) := by decide +kernel
theorem dX13_undo_39 : decode cX13_undo 39 = .ok (.ireturn, 1) := by decide +kernel
theorem dX13_undo_40 : decode cX13_undo 40 = .ok (.aload_n 0, 1) := by decide +kernel
theorem dX13_undo_41 : decode cX13_undo 41 = .ok (.iload_n 1, 1) := by decide +kernel
theorem dX13_undo_42 : decode cX13_undo 42 = .ok (.bipush 20, 2) := by decide +kernel
theorem dX13_undo_44 : decode cX13_undo 44 = .ok (.invokevirtual 44, 3) := by decide +kernel
theorem dX13_undo_47 : decode cX13_undo 47 = .ok (.aload_n 0, 1) := by decide +kernel
theorem dX13_undo_48 : decode cX13_undo 48 = .ok (.invokevirtual 53, 3) := by decide +kernel
theorem dX13_undo_51 : decode cX13_undo 51 = .ok (.if_icmp .eq 10, 3) := by decide +kernel
theorem dX13_undo_54 : decode cX13_undo 54 = .ok (.aload_n 0, 1) := by decide +kernel
theorem dX13_undo_55 : decode cX13_undo 55 = .ok (.bipush (-5), 2) := by decide +kernel
theorem dX13_undo_57 : decode cX13_undo 57 = .ok (.invokevirtual 69, 3) := by decide +kernel
theorem dX13_undo_60 : decode cX13_undo 60 = .ok (.ireturn, 1) := by decide +kernel
theorem dX13_undo_61 : decode cX13_undo 61 = .ok (.aload_n 0, 1) := by decide +kernel
theorem dX13_undo_62 : decode cX13_undo 62 = .ok (.iload_n 1, 1) := by decide +kernel
theorem dX13_undo_63 : decode cX13_undo 63 = .ok (.bipush 25, 2) := by decide +kernel
theorem dX13_undo_65 : decode cX13_undo 65 = .ok (.invokevirtual 44, 3) := by decide +kernel
theorem dX13_undo_68 : decode cX13_undo 68 = .ok (.istore_n 2, 1) := by decide +kernel
theorem dX13_undo_69 : decode cX13_undo 69 = .ok (.aload_n 0, 1) := by decide +kernel
theorem dX13_undo_70 : decode cX13_undo 70 = .ok (.iload_n 1, 1) := by decide +kernel
theorem dX13_undo_71 : decode cX13_undo 71 = .ok (.iconst 4, 1) := by decide +kernel
theorem dX13_undo_72 : decode cX13_undo 72 = .ok (.aload_n 0, 1) := by decide +kernel
theorem dX13_undo_73 : decode cX13_undo 73 = .ok (.iload_n 1, 1) := by decide +kernel
theorem dX13_undo_74 : decode cX13_undo 74 = .ok (.bipush 21, 2) := by decide +kernel
theorem dX13_undo_76 : decode cX13_undo 76 = .ok (.invokevirtual 44, 3) := by decide +kernel
theorem dX13_undo_79 : decode cX13_undo 79 = .ok (.invokevirtual 57, 3) := by decide +kernel
theorem dX13_undo_82 : decode cX13_undo 82 = .ok (.aload_n 0, 1) := by decide +kernel
theorem dX13_undo_83 : decode cX13_undo 83 = .ok (.iload_n 1, 1) := by decide +kernel
theorem dX13_undo_84 : decode cX13_undo 84 = .ok (.iconst 5, 1) := by decide +kernel
theorem dX13_undo_85 : decode cX13_undo 85 = .ok (.aload_n 0, 1) := by decide +kernel
theorem dX13_undo_86 : decode cX13_undo 86 = .ok (.iload_n 1, 1) := by decide +kernel
theorem dX13_undo_87 : decode cX13_undo 87 = .ok (.bipush 22, 2) := by decide +kernel
theorem dX13_undo_89 : decode cX13_undo 89 = .ok (.invokevirtual 44, 3) := by decide +kernel
theorem dX13_undo_92 : decode cX13_undo 92 = .ok (.invokevirtual 57, 3) := by decide +kernel
theorem dX13_undo_95 : decode cX13_undo 95 = .ok (.aload_n 0, 1) := by decide +kernel
theorem dX13_undo_96 : decode cX13_undo 96 = .ok (.iload_n 1, 1) := by decide +kernel
theorem dX13_undo_97 : decode cX13_undo 97 = .ok (.bipush 6, 2) := by decide +kernel
theorem dX13_undo_99 : decode cX13_undo 99 = .ok (.aload_n 0, 1) := by decide +kernel
theorem dX13_undo_100 : decode cX13_undo 100 = .ok (.iload_n 1, 1) := by decide +kernel
theorem dX13_undo_101 : decode cX13_undo 101 = .ok (.bipush 23, 2) := by decide +kernel
theorem dX13_undo_103 : decode cX13_undo 103 = .ok (.invokevirtual 44, 3) := by decide +kernel
theorem dX13_undo_106 : decode cX13_undo 106 = .ok (.invokevirtual 57, 3) := by decide +kernel
theorem dX13_undo_109 : decode cX13_undo 109 = .ok (.aload_n 0, 1) := by decide +kernel
theorem dX13_undo_110 : decode cX13_undo 110 = .ok (.iload_n 1, 1) := by decide +kernel
theorem dX13_undo_111 : decode cX13_undo 111 = .ok (.iconst 3, 1) := by decide +kernel
theorem dX13_undo_112 : decode cX13_undo 112 = .ok (.aload_n 0, 1) := by decide +kernel
theorem dX13_undo_113 : decode cX13_undo 113 = .ok (.iload_n 1, 1) := by decide +kernel
theorem dX13_undo_114 : decode cX13_undo 114 = .ok (.bipush 24, 2) := by decide +kernel
theorem dX13_undo_116 : decode cX13_undo 116 = .ok (.invokevirtual 44, 3) := by decide +kernel
theorem dX13_undo_119 : decode cX13_undo 119 = .ok (.invokevirtual 57, 3) := by decide +kernel
theorem dX13_undo_122 : decode cX13_undo 122 = .ok (.aload_n 0, 1) := by decide +kernel
theorem dX13_undo_123 : decode cX13_undo 123 = .ok (.iload_n 1, 1) := by decide +kernel
theorem dX13_undo_124 : decode cX13_undo 124 = .ok (.iconst 2, 1) := by decide +kernel
theorem dX13_undo_125 : decode cX13_undo 125 = .ok (.iload_n 2, 1) := by decide +kernel
theorem dX13_undo_126 : decode cX13_undo 126 = .ok (.invokevirtual 57, 3) := by decide +kernel
theorem dX13_undo_129 : decode cX13_undo 129 = .ok (.aload_n 0, 1) := by decide +kernel
theorem dX13_undo_130 : decode cX13_undo 130 = .ok (.iload_n 1, 1) := by decide +kernel
theorem dX13_undo_131 : decode cX13_undo 131 = .ok (.bipush 9, 2) := by decide +kernel
theorem dX13_undo_133 : decode cX13_undo 133 = .ok (.aload_n 0, 1) := by decide +kernel
theorem dX13_undo_134 : decode cX13_undo 134 = .ok (.iload_n 1, 1) := by decide +kernel
theorem dX13_undo_135 : decode cX13_undo 135 = .ok (.bipush 26, 2) := by decide +kernel
theorem dX13_undo_137 : decode cX13_undo 137 = .ok (.invokevirtual 44, 3) := by decide +kernel
theorem dX13_undo_140 : decode cX13_undo 140 = .ok (.invokevirtual 57, 3) := by decide +kernel
theorem dX13_undo_143 : decode cX13_undo 143 = .ok (.aload_n 0, 1) := by decide +kernel
theorem dX13_undo_144 : decode cX13_undo 144 = .ok (.iload_n 1, 1) := by decide +kernel
theorem dX13_undo_145 : decode cX13_undo 145 = .ok (.bipush 20, 2) := by decide +kernel
theorem dX13_undo_147 : decode cX13_undo 147 = .ok (.iconst (-1), 1) := by decide +kernel
theorem dX13_undo_148 : decode cX13_undo 148 = .ok (.invokevirtual 57, 3) := by decide +kernel
theorem dX13_undo_151 : decode cX13_undo 151 = .ok (.aload_n 0, 1) := by decide +kernel
theorem dX13_undo_152 : decode cX13_undo 152 = .ok (.getfield 10, 3) := by decide +kernel
theorem dX13_undo_155 : decode cX13_undo 155 = .ok (.getfield 140, 3) := by decide +kernel
theorem dX13_undo_158 : decode cX13_undo 158 = .ok (.iconst 1, 1) := by decide +kernel
theorem dX13_undo_159 : decode cX13_undo 159 = .ok (.dup2, 1) := by decide +kernel
theorem dX13_undo_160 : decode cX13_undo 160 = .ok (.laload, 1) := by decide +kernel
theorem dX13_undo_161 : decode cX13_undo 161 = .ok (.iload_n 2, 1) := by decide +kernel
theorem dX13_undo_162 : decode cX13_undo 162 = .ok (.i2l, 1) := by decide +kernel
theorem dX13_undo_163 : decode cX13_undo 163 = .ok (.lsub, 1) := by decide +kernel
theorem dX13_undo_164 : decode cX13_undo 164 = .ok (.lastore, 1) := by decide +kernel
theorem dX13_undo_165 : decode cX13_undo 165 = .ok (.aload_n 0, 1) := by decide +kernel
theorem dX13_undo_166 : decode cX13_undo 166 = .ok (.iload_n 2, 1) := by decide +kernel
theorem dX13_undo_167 : decode cX13_undo 167 = .ok (.invokevirtual 69, 3) := by decide +kernel
theorem dX13_undo_170 : decode cX13_undo 170 = .ok (.ireturn, 1) := by decide +kernel
set_option maxRecDepth 20000 in
theorem ggX13_closes_X13_put : GoodIn wsX13_closes wsX13_put := goodIn_r _ [5, 6, 27, 28, 29, 30, 31, 32, 33, 34, 35, 36] (by decide +kernel) (by decide +kernel)
set_option maxRecDepth 20000 in
theorem gX13_closes_X13_put : GoodIn wsX13_closes (wsV RX13 57 RX13 yX13_put wsX13_put) := goodIn_app (goodIn_of _ (by decide +kernel)) ggX13_closes_X13_put
set_option maxRecDepth 20000 in
theorem ggX13_closes_X13_of : GoodIn wsX13_closes wsX13_of := goodIn_r _ [10, 6, 27, 28, 29, 30, 31, 32, 33, 34, 35, 36] (by decide +kernel) (by decide +kernel)
set_option maxRecDepth 20000 in
theorem gX13_closes_X13_of : GoodIn wsX13_closes (wsV RX13 44 RX13 yX13_of wsX13_of) := goodIn_app (goodIn_of _ (by decide +kernel)) ggX13_closes_X13_of
set_option maxRecDepth 20000 in
theorem ggX13_closes_X13_leaves : GoodIn wsX13_closes wsX13_leaves := goodIn_r _ [14, 15, 16, 17, 4, 18, 19, 20, 21, 22, 6, 23, 24, 25, 26, 27, 28, 29, 30, 31, 32, 33, 34, 35, 36] (by decide +kernel) (by decide +kernel)
set_option maxRecDepth 20000 in
theorem gX13_closes_X13_leaves : GoodIn wsX13_closes (wsV RX13 117 RX13 yX13_leaves wsX13_leaves) := goodIn_app (goodIn_of _ (by decide +kernel)) ggX13_closes_X13_leaves
theorem dX13_closes_0 : decode cX13_closes 0 = .ok (.aload_n 0, 1) := by decide +kernel
theorem dX13_closes_1 : decode cX13_closes 1 = .ok (.iload_n 1, 1) := by decide +kernel
theorem dX13_closes_2 : decode cX13_closes 2 = .ok (.iconst 0, 1) := by decide +kernel
theorem dX13_closes_3 : decode cX13_closes 3 = .ok (.iload_n 2, 1) := by decide +kernel
theorem dX13_closes_4 : decode cX13_closes 4 = .ok (.invokevirtual 57, 3) := by decide +kernel
theorem dX13_closes_7 : decode cX13_closes 7 = .ok (.aload_n 0, 1) := by decide +kernel
theorem dX13_closes_8 : decode cX13_closes 8 = .ok (.aload_n 0, 1) := by decide +kernel
theorem dX13_closes_9 : decode cX13_closes 9 = .ok (.iload_n 1, 1) := by decide +kernel
theorem dX13_closes_10 : decode cX13_closes 10 = .ok (.bipush 15, 2) := by decide +kernel
theorem dX13_closes_12 : decode cX13_closes 12 = .ok (.invokevirtual 44, 3) := by decide +kernel
theorem dX13_closes_15 : decode cX13_closes 15 = .ok (.invokevirtual 117, 3) := by decide +kernel
theorem dX13_closes_18 : decode cX13_closes 18 = .ok (.return_, 1) := by decide +kernel
set_option maxRecDepth 20000 in
theorem ggX13_redeem_X13_isTicket : GoodIn wsX13_redeem wsX13_isTicket := goodIn_r _ [6, 1, 65, 66, 67, 68, 69, 70, 71, 72, 73, 74] (by decide +kernel) (by decide +kernel)
set_option maxRecDepth 20000 in
theorem gX13_redeem_X13_isTicket : GoodIn wsX13_redeem (wsV RX13 143 RX13 yX13_isTicket wsX13_isTicket) := goodIn_app (goodIn_of _ (by decide +kernel)) ggX13_redeem_X13_isTicket
set_option maxRecDepth 20000 in
theorem ggX13_redeem_X13_says : GoodIn wsX13_redeem wsX13_says := goodIn_r _ [10, 11, 12, 65, 66, 67, 68, 69, 70] (by decide +kernel) (by decide +kernel)
set_option maxRecDepth 20000 in
theorem gX13_redeem_X13_says : GoodIn wsX13_redeem (wsV RX13 69 RX13 yX13_says wsX13_says) := goodIn_app (goodIn_of _ (by decide +kernel)) ggX13_redeem_X13_says
set_option maxRecDepth 20000 in
theorem ggX13_redeem_X13_isFree : GoodIn wsX13_redeem wsX13_isFree := goodIn_r _ [16, 17, 18, 19, 5, 20, 21, 22, 23, 24, 1, 65, 66, 67, 68, 69, 70, 71, 72, 73, 74] (by decide +kernel) (by decide +kernel)
set_option maxRecDepth 20000 in
theorem gX13_redeem_X13_isFree : GoodIn wsX13_redeem (wsV RX13 146 RX13 yX13_isFree wsX13_isFree) := goodIn_app (goodIn_of _ (by decide +kernel)) ggX13_redeem_X13_isFree
set_option maxRecDepth 20000 in
theorem ggX13_redeem_X13_isClaimed : GoodIn wsX13_redeem wsX13_isClaimed := goodIn_r _ [28, 21, 22, 23, 5, 24, 1, 65, 66, 67, 68, 69, 70, 71, 72, 73, 74] (by decide +kernel) (by decide +kernel)
set_option maxRecDepth 20000 in
theorem gX13_redeem_X13_isClaimed : GoodIn wsX13_redeem (wsV RX13 159 RX13 yX13_isClaimed wsX13_isClaimed) := goodIn_app (goodIn_of _ (by decide +kernel)) ggX13_redeem_X13_isClaimed
set_option maxRecDepth 20000 in
theorem ggX13_redeem_X13_isRight : GoodIn wsX13_redeem wsX13_isRight := goodIn_r _ [32, 21, 22, 23, 5, 24, 1, 33, 34, 35, 36, 65, 66, 67, 68, 69, 70, 71, 72, 73, 74] (by decide +kernel) (by decide +kernel)
set_option maxRecDepth 20000 in
theorem gX13_redeem_X13_isRight : GoodIn wsX13_redeem (wsV RX13 149 RX13 yX13_isRight wsX13_isRight) := goodIn_app (goodIn_of _ (by decide +kernel)) ggX13_redeem_X13_isRight
set_option maxRecDepth 20000 in
theorem ggX13_redeem_X13_owed : GoodIn wsX13_redeem wsX13_owed := goodIn_r _ [40, 21, 22, 23, 5, 24, 1, 65, 66, 67, 68, 69, 70, 71, 72, 73, 74] (by decide +kernel) (by decide +kernel)
set_option maxRecDepth 20000 in
theorem gX13_redeem_X13_owed : GoodIn wsX13_redeem (wsV RX13 153 RX13 yX13_owed wsX13_owed) := goodIn_app (goodIn_of _ (by decide +kernel)) ggX13_redeem_X13_owed
set_option maxRecDepth 20000 in
theorem ggX13_redeem_X13_of : GoodIn wsX13_redeem wsX13_of := goodIn_r _ [24, 1, 65, 66, 67, 68, 69, 70, 71, 72, 73, 74] (by decide +kernel) (by decide +kernel)
set_option maxRecDepth 20000 in
theorem gX13_redeem_X13_of : GoodIn wsX13_redeem (wsV RX13 44 RX13 yX13_of wsX13_of) := goodIn_app (goodIn_of _ (by decide +kernel)) ggX13_redeem_X13_of
set_option maxRecDepth 20000 in
theorem ggX13_redeem_X13_shown : GoodIn wsX13_redeem wsX13_shown := goodIn_r _ [44, 45, 46, 47, 5, 48, 1, 65, 66, 67, 68, 69, 70, 71, 72, 73, 74] (by decide +kernel) (by decide +kernel)
set_option maxRecDepth 20000 in
theorem gX13_redeem_X13_shown : GoodIn wsX13_redeem (wsV RX13 156 RX13 yX13_shown wsX13_shown) := goodIn_app (goodIn_of _ (by decide +kernel)) ggX13_redeem_X13_shown
set_option maxRecDepth 20000 in
theorem ggX13_redeem_X13_closes : GoodIn wsX13_redeem wsX13_closes := goodIn_r _ [52, 45, 46, 47, 5, 48, 1, 21, 22, 23, 24, 53, 54, 55, 56, 57, 58, 59, 60, 61, 62, 63, 64, 33, 34, 35, 36, 65, 66, 67, 68, 69, 70, 71, 72, 73, 74] (by decide +kernel) (by decide +kernel)
set_option maxRecDepth 20000 in
theorem gX13_redeem_X13_closes : GoodIn wsX13_redeem (wsV RX13 162 RX13 yX13_closes wsX13_closes) := goodIn_app (goodIn_of _ (by decide +kernel)) ggX13_redeem_X13_closes
theorem dX13_redeem_0 : decode cX13_redeem 0 = .ok (.aload_n 0, 1) := by decide +kernel
theorem dX13_redeem_1 : decode cX13_redeem 1 = .ok (.iload_n 1, 1) := by decide +kernel
theorem dX13_redeem_2 : decode cX13_redeem 2 = .ok (.invokevirtual 143, 3) := by decide +kernel
theorem dX13_redeem_5 : decode cX13_redeem 5 = .ok (.ifCond .ne 9, 3) := by decide +kernel
theorem dX13_redeem_8 : decode cX13_redeem 8 = .ok (.aload_n 0, 1) := by decide +kernel
theorem dX13_redeem_9 : decode cX13_redeem 9 = .ok (.iconst (-1), 1) := by decide +kernel
theorem dX13_redeem_10 : decode cX13_redeem 10 = .ok (.invokevirtual 69, 3) := by decide +kernel
theorem dX13_redeem_13 : decode cX13_redeem 13 = .ok (.ireturn, 1) := by decide +kernel
theorem dX13_redeem_14 : decode cX13_redeem 14 = .ok (.aload_n 0, 1) := by decide +kernel
theorem dX13_redeem_15 : decode cX13_redeem 15 = .ok (.iload_n 1, 1) := by decide +kernel
theorem dX13_redeem_16 : decode cX13_redeem 16 = .ok (.invokevirtual 146, 3) := by decide +kernel
theorem dX13_redeem_19 : decode cX13_redeem 19 = .ok (.ifCond .ne 10, 3) := by decide +kernel
theorem dX13_redeem_22 : decode cX13_redeem 22 = .ok (.aload_n 0, 1) := by decide +kernel
theorem dX13_redeem_23 : decode cX13_redeem 23 = .ok (.bipush (-2), 2) := by decide +kernel
theorem dX13_redeem_25 : decode cX13_redeem 25 = .ok (.invokevirtual 69, 3) := by decide +kernel
theorem dX13_redeem_28 : decode cX13_redeem 28 = .ok (.ireturn, 1) := by decide +kernel
theorem dX13_redeem_29 : decode cX13_redeem 29 = .ok (.aload_n 0, 1) := by decide +kernel
theorem dX13_redeem_30 : decode cX13_redeem 30 = .ok (.iload_n 1, 1) := by decide +kernel
theorem dX13_redeem_31 : decode cX13_redeem 31 = .ok (.invokevirtual 159, 3) := by decide +kernel
theorem dX13_redeem_34 : decode cX13_redeem 34 = .ok (.ifCond .eq 10, 3) := by decide +kernel
theorem dX13_redeem_37 : decode cX13_redeem 37 = .ok (.aload_n 0, 1) := by decide +kernel
theorem dX13_redeem_38 : decode cX13_redeem 38 = .ok (.bipush (-3), 2) := by decide +kernel
theorem dX13_redeem_40 : decode cX13_redeem 40 = .ok (.invokevirtual 69, 3) := by decide +kernel
theorem dX13_redeem_43 : decode cX13_redeem 43 = .ok (.ireturn, 1) := by decide +kernel
theorem dX13_redeem_44 : decode cX13_redeem 44 = .ok (.aload_n 0, 1) := by decide +kernel
theorem dX13_redeem_45 : decode cX13_redeem 45 = .ok (.iload_n 1, 1) := by decide +kernel
theorem dX13_redeem_46 : decode cX13_redeem 46 = .ok (.iload_n 2, 1) := by decide +kernel
theorem dX13_redeem_47 : decode cX13_redeem 47 = .ok (.invokevirtual 149, 3) := by decide +kernel
theorem dX13_redeem_50 : decode cX13_redeem 50 = .ok (.ifCond .ne 10, 3) := by decide +kernel
theorem dX13_redeem_53 : decode cX13_redeem 53 = .ok (.aload_n 0, 1) := by decide +kernel
theorem dX13_redeem_54 : decode cX13_redeem 54 = .ok (.bipush (-4), 2) := by decide +kernel
theorem dX13_redeem_56 : decode cX13_redeem 56 = .ok (.invokevirtual 69, 3) := by decide +kernel
theorem dX13_redeem_59 : decode cX13_redeem 59 = .ok (.ireturn, 1) := by decide +kernel
theorem dX13_redeem_60 : decode cX13_redeem 60 = .ok (.iload_n 3, 1) := by decide +kernel
theorem dX13_redeem_61 : decode cX13_redeem 61 = .ok (.aload_n 0, 1) := by decide +kernel
theorem dX13_redeem_62 : decode cX13_redeem 62 = .ok (.iload_n 1, 1) := by decide +kernel
theorem dX13_redeem_63 : decode cX13_redeem 63 = .ok (.invokevirtual 153, 3) := by decide +kernel
theorem dX13_redeem_66 : decode cX13_redeem 66 = .ok (.if_icmp .eq 10, 3) := by decide +kernel
theorem dX13_redeem_69 : decode cX13_redeem 69 = .ok (.aload_n 0, 1) := by decide +kernel
theorem dX13_redeem_70 : decode cX13_redeem 70 = .ok (.bipush (-6), 2) := by decide +kernel
theorem dX13_redeem_72 : decode cX13_redeem 72 = .ok (.invokevirtual 69, 3) := by decide +kernel
theorem dX13_redeem_75 : decode cX13_redeem 75 = .ok (.ireturn, 1) := by decide +kernel
theorem dX13_redeem_76 : decode cX13_redeem 76 = .ok (.aload_n 0, 1) := by decide +kernel
theorem dX13_redeem_77 : decode cX13_redeem 77 = .ok (.getfield 10, 3) := by decide +kernel
theorem dX13_redeem_80 : decode cX13_redeem 80 = .ok (.getfield 140, 3) := by decide +kernel
theorem dX13_redeem_83 : decode cX13_redeem 83 = .ok (.iconst 1, 1) := by decide +kernel
theorem dX13_redeem_84 : decode cX13_redeem 84 = .ok (.dup2, 1) := by decide +kernel
theorem dX13_redeem_85 : decode cX13_redeem 85 = .ok (.laload, 1) := by decide +kernel
theorem dX13_redeem_86 : decode cX13_redeem 86 = .ok (.aload_n 0, 1) := by decide +kernel
theorem dX13_redeem_87 : decode cX13_redeem 87 = .ok (.iload_n 1, 1) := by decide +kernel
theorem dX13_redeem_88 : decode cX13_redeem 88 = .ok (.iconst 2, 1) := by decide +kernel
theorem dX13_redeem_89 : decode cX13_redeem 89 = .ok (.invokevirtual 44, 3) := by decide +kernel
theorem dX13_redeem_92 : decode cX13_redeem 92 = .ok (.i2l, 1) := by decide +kernel
theorem dX13_redeem_93 : decode cX13_redeem 93 = .ok (.ladd, 1) := by decide +kernel
theorem dX13_redeem_94 : decode cX13_redeem 94 = .ok (.lastore, 1) := by decide +kernel
theorem dX13_redeem_95 : decode cX13_redeem 95 = .ok (.aload_n 0, 1) := by decide +kernel
theorem dX13_redeem_96 : decode cX13_redeem 96 = .ok (.getfield 10, 3) := by decide +kernel
theorem dX13_redeem_99 : decode cX13_redeem 99 = .ok (.getfield 140, 3) := by decide +kernel
theorem dX13_redeem_102 : decode cX13_redeem 102 = .ok (.iconst 2, 1) := by decide +kernel
theorem dX13_redeem_103 : decode cX13_redeem 103 = .ok (.dup2, 1) := by decide +kernel
theorem dX13_redeem_104 : decode cX13_redeem 104 = .ok (.laload, 1) := by decide +kernel
theorem dX13_redeem_105 : decode cX13_redeem 105 = .ok (.aload_n 0, 1) := by decide +kernel
theorem dX13_redeem_106 : decode cX13_redeem 106 = .ok (.iload_n 1, 1) := by decide +kernel
theorem dX13_redeem_107 : decode cX13_redeem 107 = .ok (.iconst 1, 1) := by decide +kernel
theorem dX13_redeem_108 : decode cX13_redeem 108 = .ok (.invokevirtual 44, 3) := by decide +kernel
theorem dX13_redeem_111 : decode cX13_redeem 111 = .ok (.i2l, 1) := by decide +kernel
theorem dX13_redeem_112 : decode cX13_redeem 112 = .ok (.ladd, 1) := by decide +kernel
theorem dX13_redeem_113 : decode cX13_redeem 113 = .ok (.lastore, 1) := by decide +kernel
theorem dX13_redeem_114 : decode cX13_redeem 114 = .ok (.aload_n 0, 1) := by decide +kernel
theorem dX13_redeem_115 : decode cX13_redeem 115 = .ok (.iload_n 1, 1) := by decide +kernel
theorem dX13_redeem_116 : decode cX13_redeem 116 = .ok (.iload_n 2, 1) := by decide +kernel
theorem dX13_redeem_117 : decode cX13_redeem 117 = .ok (.invokevirtual 156, 3) := by decide +kernel
theorem dX13_redeem_120 : decode cX13_redeem 120 = .ok (.aload_n 0, 1) := by decide +kernel
theorem dX13_redeem_121 : decode cX13_redeem 121 = .ok (.iload_n 1, 1) := by decide +kernel
theorem dX13_redeem_122 : decode cX13_redeem 122 = .ok (.iconst 1, 1) := by decide +kernel
theorem dX13_redeem_123 : decode cX13_redeem 123 = .ok (.invokevirtual 162, 3) := by decide +kernel
theorem dX13_redeem_126 : decode cX13_redeem 126 = .ok (.aload_n 0, 1) := by decide +kernel
theorem dX13_redeem_127 : decode cX13_redeem 127 = .ok (.iconst 0, 1) := by decide +kernel
theorem dX13_redeem_128 : decode cX13_redeem 128 = .ok (.invokevirtual 69, 3) := by decide +kernel
theorem dX13_redeem_131 : decode cX13_redeem 131 = .ok (.ireturn, 1) := by decide +kernel
set_option maxRecDepth 20000 in
theorem ggX13_out_X13_isTicket : GoodIn wsX13_out wsX13_isTicket := goodIn_r _ [6, 7, 75, 76, 77, 78, 79, 80, 81, 82, 83, 84] (by decide +kernel) (by decide +kernel)
set_option maxRecDepth 20000 in
theorem gX13_out_X13_isTicket : GoodIn wsX13_out (wsV RX13 143 RX13 yX13_isTicket wsX13_isTicket) := goodIn_app (goodIn_of _ (by decide +kernel)) ggX13_out_X13_isTicket
set_option maxRecDepth 20000 in
theorem ggX13_out_X13_says : GoodIn wsX13_out wsX13_says := goodIn_r _ [11, 12, 13, 75, 76, 77, 78, 79, 80] (by decide +kernel) (by decide +kernel)
set_option maxRecDepth 20000 in
theorem gX13_out_X13_says : GoodIn wsX13_out (wsV RX13 69 RX13 yX13_says wsX13_says) := goodIn_app (goodIn_of _ (by decide +kernel)) ggX13_out_X13_says
set_option maxRecDepth 20000 in
theorem ggX13_out_X13_of : GoodIn wsX13_out wsX13_of := goodIn_r _ [17, 7, 75, 76, 77, 78, 79, 80, 81, 82, 83, 84] (by decide +kernel) (by decide +kernel)
set_option maxRecDepth 20000 in
theorem gX13_out_X13_of : GoodIn wsX13_out (wsV RX13 44 RX13 yX13_of wsX13_of) := goodIn_app (goodIn_of _ (by decide +kernel)) ggX13_out_X13_of
set_option maxRecDepth 20000 in
theorem ggX13_out_X13_isFree : GoodIn wsX13_out wsX13_isFree := goodIn_r _ [21, 22, 23, 24, 5, 25, 14, 15, 16, 17, 7, 75, 76, 77, 78, 79, 80, 81, 82, 83, 84] (by decide +kernel) (by decide +kernel)
set_option maxRecDepth 20000 in
theorem gX13_out_X13_isFree : GoodIn wsX13_out (wsV RX13 146 RX13 yX13_isFree wsX13_isFree) := goodIn_app (goodIn_of _ (by decide +kernel)) ggX13_out_X13_isFree
set_option maxRecDepth 20000 in
theorem ggX13_out_X13_at : GoodIn wsX13_out wsX13_at := goodIn_r _ [29, 7, 75, 76, 77, 78, 79, 80, 81, 82, 83, 84] (by decide +kernel) (by decide +kernel)
set_option maxRecDepth 20000 in
theorem gX13_out_X13_at : GoodIn wsX13_out (wsV RX13 90 RX13 yX13_at wsX13_at) := goodIn_app (goodIn_of _ (by decide +kernel)) ggX13_out_X13_at
set_option maxRecDepth 20000 in
theorem ggX13_out_X13_isClaimed : GoodIn wsX13_out wsX13_isClaimed := goodIn_r _ [33, 14, 15, 16, 5, 17, 7, 75, 76, 77, 78, 79, 80, 81, 82, 83, 84] (by decide +kernel) (by decide +kernel)
set_option maxRecDepth 20000 in
theorem gX13_out_X13_isClaimed : GoodIn wsX13_out (wsV RX13 159 RX13 yX13_isClaimed wsX13_isClaimed) := goodIn_app (goodIn_of _ (by decide +kernel)) ggX13_out_X13_isClaimed
set_option maxRecDepth 20000 in
theorem ggX13_out_X13_isRight : GoodIn wsX13_out wsX13_isRight := goodIn_r _ [37, 14, 15, 16, 5, 17, 7, 38, 39, 40, 41, 75, 76, 77, 78, 79, 80, 81, 82, 83, 84] (by decide +kernel) (by decide +kernel)
set_option maxRecDepth 20000 in
theorem gX13_out_X13_isRight : GoodIn wsX13_out (wsV RX13 149 RX13 yX13_isRight wsX13_isRight) := goodIn_app (goodIn_of _ (by decide +kernel)) ggX13_out_X13_isRight
set_option maxRecDepth 20000 in
theorem ggX13_out_X13_worth : GoodIn wsX13_out wsX13_worth := goodIn_r _ [45, 46, 1, 47, 48, 49, 50, 26, 27, 28, 5, 29, 7, 51, 52, 53, 54, 38, 39, 40, 41, 75, 76, 77, 78, 79, 80, 81, 82, 83, 84] (by decide +kernel) (by decide +kernel)
set_option maxRecDepth 20000 in
theorem gX13_out_X13_worth : GoodIn wsX13_out (wsV RX13 133 RX13 yX13_worth wsX13_worth) := goodIn_app (goodIn_of _ (by decide +kernel)) ggX13_out_X13_worth
set_option maxRecDepth 20000 in
theorem ggX13_out_X13_items : GoodIn wsX13_out wsX13_items := goodIn_r _ [58, 26, 27, 28, 5, 29, 7, 75, 76, 77, 78, 79, 80, 81, 82, 83, 84] (by decide +kernel) (by decide +kernel)
set_option maxRecDepth 20000 in
theorem gX13_out_X13_items : GoodIn wsX13_out (wsV RX13 165 RX13 yX13_items wsX13_items) := goodIn_app (goodIn_of _ (by decide +kernel)) ggX13_out_X13_items
set_option maxRecDepth 20000 in
theorem ggX13_out_X13_owed : GoodIn wsX13_out wsX13_owed := goodIn_r _ [62, 14, 15, 16, 5, 17, 7, 75, 76, 77, 78, 79, 80, 81, 82, 83, 84] (by decide +kernel) (by decide +kernel)
set_option maxRecDepth 20000 in
theorem gX13_out_X13_owed : GoodIn wsX13_out (wsV RX13 153 RX13 yX13_owed wsX13_owed) := goodIn_app (goodIn_of _ (by decide +kernel)) ggX13_out_X13_owed
set_option maxRecDepth 20000 in
theorem ggX13_out_X13_ruleOf : GoodIn wsX13_out wsX13_ruleOf := goodIn_r _ [54, 7, 75, 76, 77, 78, 79, 80, 81, 82, 83, 84] (by decide +kernel) (by decide +kernel)
set_option maxRecDepth 20000 in
theorem gX13_out_X13_ruleOf : GoodIn wsX13_out (wsV RX13 123 RX13 yX13_ruleOf wsX13_ruleOf) := goodIn_app (goodIn_of _ (by decide +kernel)) ggX13_out_X13_ruleOf
set_option maxRecDepth 20000 in
theorem ggX13_out_X13_set : GoodIn wsX13_out wsX13_set := goodIn_r _ [66, 7, 75, 76, 77, 78, 79, 80, 81, 82, 83, 84] (by decide +kernel) (by decide +kernel)
set_option maxRecDepth 20000 in
theorem gX13_out_X13_set : GoodIn wsX13_out (wsV RX13 93 RX13 yX13_set wsX13_set) := goodIn_app (goodIn_of _ (by decide +kernel)) ggX13_out_X13_set
set_option maxRecDepth 20000 in
theorem ggX13_out_X13_put : GoodIn wsX13_out wsX13_put := goodIn_r _ [70, 7, 75, 76, 77, 78, 79, 80, 81, 82, 83, 84] (by decide +kernel) (by decide +kernel)
set_option maxRecDepth 20000 in
theorem gX13_out_X13_put : GoodIn wsX13_out (wsV RX13 57 RX13 yX13_put wsX13_put) := goodIn_app (goodIn_of _ (by decide +kernel)) ggX13_out_X13_put
set_option maxRecDepth 20000 in
theorem ggX13_out_X13_shown : GoodIn wsX13_out wsX13_shown := goodIn_r _ [74, 67, 68, 69, 5, 70, 7, 75, 76, 77, 78, 79, 80, 81, 82, 83, 84] (by decide +kernel) (by decide +kernel)
set_option maxRecDepth 20000 in
theorem gX13_out_X13_shown : GoodIn wsX13_out (wsV RX13 156 RX13 yX13_shown wsX13_shown) := goodIn_app (goodIn_of _ (by decide +kernel)) ggX13_out_X13_shown
theorem dX13_out_0 : decode cX13_out 0 = .ok (.aload_n 0, 1) := by decide +kernel
theorem dX13_out_1 : decode cX13_out 1 = .ok (.iload_n 1, 1) := by decide +kernel
theorem dX13_out_2 : decode cX13_out 2 = .ok (.invokevirtual 143, 3) := by decide +kernel
theorem dX13_out_5 : decode cX13_out 5 = .ok (.ifCond .eq 13, 3) := by decide +kernel
theorem dX13_out_8 : decode cX13_out 8 = .ok (.iload_n 3, 1) := by decide +kernel
theorem dX13_out_9 : decode cX13_out 9 = .ok (.ifCond .lt 9, 3) := by decide +kernel
theorem dX13_out_12 : decode cX13_out 12 = .ok (.iload_n 3, 1) := by decide +kernel
theorem dX13_out_13 : decode cX13_out 13 = .ok (.bipush 6, 2) := by decide +kernel
theorem dX13_out_15 : decode cX13_out 15 = .ok (.if_icmp .lt 9, 3) := by decide +kernel
theorem dX13_out_18 : decode cX13_out 18 = .ok (.aload_n 0, 1) := by decide +kernel
theorem dX13_out_19 : decode cX13_out 19 = .ok (.iconst (-1), 1) := by decide +kernel
theorem dX13_out_20 : decode cX13_out 20 = .ok (.invokevirtual 69, 3) := by decide +kernel
theorem dX13_out_23 : decode cX13_out 23 = .ok (.ireturn, 1) := by decide +kernel
theorem dX13_out_24 : decode cX13_out 24 = .ok (.aload_n 0, 1) := by decide +kernel
theorem dX13_out_25 : decode cX13_out 25 = .ok (.iload_n 1, 1) := by decide +kernel
theorem dX13_out_26 : decode cX13_out 26 = .ok (.bipush 15, 2) := by decide +kernel
theorem dX13_out_28 : decode cX13_out 28 = .ok (.invokevirtual 44, 3) := by decide +kernel
theorem dX13_out_31 : decode cX13_out 31 = .ok (.istore 4, 2) := by decide +kernel
theorem dX13_out_33 : decode cX13_out 33 = .ok (.aload_n 0, 1) := by decide +kernel
theorem dX13_out_34 : decode cX13_out 34 = .ok (.iload_n 1, 1) := by decide +kernel
theorem dX13_out_35 : decode cX13_out 35 = .ok (.invokevirtual 146, 3) := by decide +kernel
theorem dX13_out_38 : decode cX13_out 38 = .ok (.ifCond .eq 27, 3) := by decide +kernel
theorem dX13_out_41 : decode cX13_out 41 = .ok (.aload_n 0, 1) := by decide +kernel
theorem dX13_out_42 : decode cX13_out 42 = .ok (.iload_n 1, 1) := by decide +kernel
theorem dX13_out_43 : decode cX13_out 43 = .ok (.bipush 19, 2) := by decide +kernel
theorem dX13_out_45 : decode cX13_out 45 = .ok (.invokevirtual 44, 3) := by decide +kernel
theorem dX13_out_48 : decode cX13_out 48 = .ok (.iconst 2, 1) := by decide +kernel
theorem dX13_out_49 : decode cX13_out 49 = .ok (.if_icmp .ne 16, 3) := by decide +kernel
theorem dX13_out_52 : decode cX13_out 52 = .ok (.aload_n 0, 1) := by decide +kernel
theorem dX13_out_53 : decode cX13_out 53 = .ok (.iload 4, 2) := by decide +kernel
theorem dX13_out_55 : decode cX13_out 55 = .ok (.bipush 9, 2) := by decide +kernel
theorem dX13_out_57 : decode cX13_out 57 = .ok (.iload_n 3, 1) := by decide +kernel
theorem dX13_out_58 : decode cX13_out 58 = .ok (.iadd, 1) := by decide +kernel
theorem dX13_out_59 : decode cX13_out 59 = .ok (.invokevirtual 90, 3) := by decide +kernel
theorem dX13_out_62 : decode cX13_out 62 = .ok (.ifCond .ne 10, 3) := by decide +kernel
theorem dX13_out_65 : decode cX13_out 65 = .ok (.aload_n 0, 1) := by decide +kernel
theorem dX13_out_66 : decode cX13_out 66 = .ok (.bipush (-2), 2) := by decide +kernel
theorem dX13_out_68 : decode cX13_out 68 = .ok (.invokevirtual 69, 3) := by decide +kernel
theorem dX13_out_71 : decode cX13_out 71 = .ok (.ireturn, 1) := by decide +kernel
theorem dX13_out_72 : decode cX13_out 72 = .ok (.aload_n 0, 1) := by decide +kernel
theorem dX13_out_73 : decode cX13_out 73 = .ok (.iload_n 1, 1) := by decide +kernel
theorem dX13_out_74 : decode cX13_out 74 = .ok (.invokevirtual 159, 3) := by decide +kernel
theorem dX13_out_77 : decode cX13_out 77 = .ok (.ifCond .eq 10, 3) := by decide +kernel
theorem dX13_out_80 : decode cX13_out 80 = .ok (.aload_n 0, 1) := by decide +kernel
theorem dX13_out_81 : decode cX13_out 81 = .ok (.bipush (-3), 2) := by decide +kernel
theorem dX13_out_83 : decode cX13_out 83 = .ok (.invokevirtual 69, 3) := by decide +kernel
theorem dX13_out_86 : decode cX13_out 86 = .ok (.ireturn, 1) := by decide +kernel
theorem dX13_out_87 : decode cX13_out 87 = .ok (.aload_n 0, 1) := by decide +kernel
theorem dX13_out_88 : decode cX13_out 88 = .ok (.iload_n 1, 1) := by decide +kernel
theorem dX13_out_89 : decode cX13_out 89 = .ok (.iload_n 2, 1) := by decide +kernel
theorem dX13_out_90 : decode cX13_out 90 = .ok (.invokevirtual 149, 3) := by decide +kernel
theorem dX13_out_93 : decode cX13_out 93 = .ok (.ifCond .ne 10, 3) := by decide +kernel
theorem dX13_out_96 : decode cX13_out 96 = .ok (.aload_n 0, 1) := by decide +kernel
theorem dX13_out_97 : decode cX13_out 97 = .ok (.bipush (-4), 2) := by decide +kernel
theorem dX13_out_99 : decode cX13_out 99 = .ok (.invokevirtual 69, 3) := by decide +kernel
theorem dX13_out_102 : decode cX13_out 102 = .ok (.ireturn, 1) := by decide +kernel
theorem dX13_out_103 : decode cX13_out 103 = .ok (.aload_n 0, 1) := by decide +kernel
theorem dX13_out_104 : decode cX13_out 104 = .ok (.iload 4, 2) := by decide +kernel
theorem dX13_out_106 : decode cX13_out 106 = .ok (.invokevirtual 133, 3) := by decide +kernel
theorem dX13_out_109 : decode cX13_out 109 = .ok (.aload_n 0, 1) := by decide +kernel
theorem dX13_out_110 : decode cX13_out 110 = .ok (.iload 4, 2) := by decide +kernel
theorem dX13_out_112 : decode cX13_out 112 = .ok (.bipush 9, 2) := by decide +kernel
theorem dX13_out_114 : decode cX13_out 114 = .ok (.iload_n 3, 1) := by decide +kernel
theorem dX13_out_115 : decode cX13_out 115 = .ok (.iadd, 1) := by decide +kernel
theorem dX13_out_116 : decode cX13_out 116 = .ok (.invokevirtual 90, 3) := by decide +kernel
theorem dX13_out_119 : decode cX13_out 119 = .ok (.i2l, 1) := by decide +kernel
theorem dX13_out_120 : decode cX13_out 120 = .ok (.lsub, 1) := by decide +kernel
theorem dX13_out_121 : decode cX13_out 121 = .ok (.lstore 5, 2) := by decide +kernel
theorem dX13_out_123 : decode cX13_out 123 = .ok (.aload_n 0, 1) := by decide +kernel
theorem dX13_out_124 : decode cX13_out 124 = .ok (.iload 4, 2) := by decide +kernel
theorem dX13_out_126 : decode cX13_out 126 = .ok (.invokevirtual 165, 3) := by decide +kernel
theorem dX13_out_129 : decode cX13_out 129 = .ok (.iconst 1, 1) := by decide +kernel
theorem dX13_out_130 : decode cX13_out 130 = .ok (.if_icmp .eq 27, 3) := by decide +kernel
theorem dX13_out_133 : decode cX13_out 133 = .ok (.aload_n 0, 1) := by decide +kernel
theorem dX13_out_134 : decode cX13_out 134 = .ok (.iload_n 1, 1) := by decide +kernel
theorem dX13_out_135 : decode cX13_out 135 = .ok (.invokevirtual 153, 3) := by decide +kernel
theorem dX13_out_138 : decode cX13_out 138 = .ok (.i2l, 1) := by decide +kernel
theorem dX13_out_139 : decode cX13_out 139 = .ok (.lload 5, 2) := by decide +kernel
theorem dX13_out_141 : decode cX13_out 141 = .ok (.aload_n 0, 1) := by decide +kernel
theorem dX13_out_142 : decode cX13_out 142 = .ok (.bipush 11, 2) := by decide +kernel
theorem dX13_out_144 : decode cX13_out 144 = .ok (.invokevirtual 123, 3) := by decide +kernel
theorem dX13_out_147 : decode cX13_out 147 = .ok (.i2l, 1) := by decide +kernel
theorem dX13_out_148 : decode cX13_out 148 = .ok (.lmul, 1) := by decide +kernel
theorem dX13_out_149 : decode cX13_out 149 = .ok (.ldc2_w 61, 3) := by decide +kernel
theorem dX13_out_152 : decode cX13_out 152 = .ok (.ldiv, 1) := by decide +kernel
theorem dX13_out_153 : decode cX13_out 153 = .ok (.lcmp, 1) := by decide +kernel
theorem dX13_out_154 : decode cX13_out 154 = .ok (.ifCond .le 10, 3) := by decide +kernel
theorem dX13_out_157 : decode cX13_out 157 = .ok (.aload_n 0, 1) := by decide +kernel
theorem dX13_out_158 : decode cX13_out 158 = .ok (.bipush (-6), 2) := by decide +kernel
theorem dX13_out_160 : decode cX13_out 160 = .ok (.invokevirtual 69, 3) := by decide +kernel
theorem dX13_out_163 : decode cX13_out 163 = .ok (.ireturn, 1) := by decide +kernel
theorem dX13_out_164 : decode cX13_out 164 = .ok (.aload_n 0, 1) := by decide +kernel
theorem dX13_out_165 : decode cX13_out 165 = .ok (.iload 4, 2) := by decide +kernel
theorem dX13_out_167 : decode cX13_out 167 = .ok (.bipush 9, 2) := by decide +kernel
theorem dX13_out_169 : decode cX13_out 169 = .ok (.iload_n 3, 1) := by decide +kernel
theorem dX13_out_170 : decode cX13_out 170 = .ok (.iadd, 1) := by decide +kernel
theorem dX13_out_171 : decode cX13_out 171 = .ok (.iconst 0, 1) := by decide +kernel
theorem dX13_out_172 : decode cX13_out 172 = .ok (.invokevirtual 93, 3) := by decide +kernel
theorem dX13_out_175 : decode cX13_out 175 = .ok (.aload_n 0, 1) := by decide +kernel
theorem dX13_out_176 : decode cX13_out 176 = .ok (.iload_n 1, 1) := by decide +kernel
theorem dX13_out_177 : decode cX13_out 177 = .ok (.bipush 20, 2) := by decide +kernel
theorem dX13_out_179 : decode cX13_out 179 = .ok (.iconst (-1), 1) := by decide +kernel
theorem dX13_out_180 : decode cX13_out 180 = .ok (.invokevirtual 57, 3) := by decide +kernel
theorem dX13_out_183 : decode cX13_out 183 = .ok (.aload_n 0, 1) := by decide +kernel
theorem dX13_out_184 : decode cX13_out 184 = .ok (.iload_n 1, 1) := by decide +kernel
theorem dX13_out_185 : decode cX13_out 185 = .ok (.iload_n 2, 1) := by decide +kernel
theorem dX13_out_186 : decode cX13_out 186 = .ok (.invokevirtual 156, 3) := by decide +kernel
theorem dX13_out_189 : decode cX13_out 189 = .ok (.aload_n 0, 1) := by decide +kernel
theorem dX13_out_190 : decode cX13_out 190 = .ok (.lload 5, 2) := by decide +kernel
theorem dX13_out_192 : decode cX13_out 192 = .ok (.l2i, 1) := by decide +kernel
theorem dX13_out_193 : decode cX13_out 193 = .ok (.invokevirtual 69, 3) := by decide +kernel
theorem dX13_out_196 : decode cX13_out 196 = .ok (.ireturn, 1) := by decide +kernel
set_option maxRecDepth 20000 in
theorem ggX13_forfeit_X13_isTicket : GoodIn wsX13_forfeit wsX13_isTicket := goodIn_r _ [5, 6, 61, 62, 63, 64, 65, 66, 67, 68, 69, 70] (by decide +kernel) (by decide +kernel)
set_option maxRecDepth 20000 in
theorem gX13_forfeit_X13_isTicket : GoodIn wsX13_forfeit (wsV RX13 143 RX13 yX13_isTicket wsX13_isTicket) := goodIn_app (goodIn_of _ (by decide +kernel)) ggX13_forfeit_X13_isTicket
set_option maxRecDepth 20000 in
theorem ggX13_forfeit_X13_says : GoodIn wsX13_forfeit wsX13_says := goodIn_r _ [10, 11, 12, 61, 62, 63, 64, 65, 66] (by decide +kernel) (by decide +kernel)
set_option maxRecDepth 20000 in
theorem gX13_forfeit_X13_says : GoodIn wsX13_forfeit (wsV RX13 69 RX13 yX13_says wsX13_says) := goodIn_app (goodIn_of _ (by decide +kernel)) ggX13_forfeit_X13_says
set_option maxRecDepth 20000 in
theorem ggX13_forfeit_X13_isFree : GoodIn wsX13_forfeit wsX13_isFree := goodIn_r _ [16, 17, 18, 19, 4, 20, 21, 22, 23, 24, 6, 61, 62, 63, 64, 65, 66, 67, 68, 69, 70] (by decide +kernel) (by decide +kernel)
set_option maxRecDepth 20000 in
theorem gX13_forfeit_X13_isFree : GoodIn wsX13_forfeit (wsV RX13 146 RX13 yX13_isFree wsX13_isFree) := goodIn_app (goodIn_of _ (by decide +kernel)) ggX13_forfeit_X13_isFree
set_option maxRecDepth 20000 in
theorem ggX13_forfeit_X13_isClaimed : GoodIn wsX13_forfeit wsX13_isClaimed := goodIn_r _ [28, 21, 22, 23, 4, 24, 6, 61, 62, 63, 64, 65, 66, 67, 68, 69, 70] (by decide +kernel) (by decide +kernel)
set_option maxRecDepth 20000 in
theorem gX13_forfeit_X13_isClaimed : GoodIn wsX13_forfeit (wsV RX13 159 RX13 yX13_isClaimed wsX13_isClaimed) := goodIn_app (goodIn_of _ (by decide +kernel)) ggX13_forfeit_X13_isClaimed
set_option maxRecDepth 20000 in
theorem ggX13_forfeit_X13_today : GoodIn wsX13_forfeit wsX13_today := goodIn_r _ [32, 6, 61, 62, 63, 64, 65, 66, 67, 68, 69, 70] (by decide +kernel) (by decide +kernel)
set_option maxRecDepth 20000 in
theorem gX13_forfeit_X13_today : GoodIn wsX13_forfeit (wsV RX13 53 RX13 yX13_today wsX13_today) := goodIn_app (goodIn_of _ (by decide +kernel)) ggX13_forfeit_X13_today
set_option maxRecDepth 20000 in
theorem ggX13_forfeit_X13_firstDay : GoodIn wsX13_forfeit wsX13_firstDay := goodIn_r _ [36, 37, 38, 39, 4, 40, 21, 22, 23, 24, 6, 41, 42, 43, 44, 45, 46, 47, 48, 49, 50, 51, 52, 25, 26, 27, 28, 29, 30, 31, 32, 61, 62, 63, 64, 65, 66, 67, 68, 69, 70] (by decide +kernel) (by decide +kernel)
set_option maxRecDepth 20000 in
theorem gX13_forfeit_X13_firstDay : GoodIn wsX13_forfeit (wsV RX13 177 RX13 yX13_firstDay wsX13_firstDay) := goodIn_app (goodIn_of _ (by decide +kernel)) ggX13_forfeit_X13_firstDay
set_option maxRecDepth 20000 in
theorem ggX13_forfeit_X13_put : GoodIn wsX13_forfeit wsX13_put := goodIn_r _ [56, 6, 61, 62, 63, 64, 65, 66, 67, 68, 69, 70] (by decide +kernel) (by decide +kernel)
set_option maxRecDepth 20000 in
theorem gX13_forfeit_X13_put : GoodIn wsX13_forfeit (wsV RX13 57 RX13 yX13_put wsX13_put) := goodIn_app (goodIn_of _ (by decide +kernel)) ggX13_forfeit_X13_put
set_option maxRecDepth 20000 in
theorem ggX13_forfeit_X13_owed : GoodIn wsX13_forfeit wsX13_owed := goodIn_r _ [60, 21, 22, 23, 4, 24, 6, 61, 62, 63, 64, 65, 66, 67, 68, 69, 70] (by decide +kernel) (by decide +kernel)
set_option maxRecDepth 20000 in
theorem gX13_forfeit_X13_owed : GoodIn wsX13_forfeit (wsV RX13 153 RX13 yX13_owed wsX13_owed) := goodIn_app (goodIn_of _ (by decide +kernel)) ggX13_forfeit_X13_owed
theorem dX13_forfeit_0 : decode cX13_forfeit 0 = .ok (.aload_n 0, 1) := by decide +kernel
theorem dX13_forfeit_1 : decode cX13_forfeit 1 = .ok (.iload_n 1, 1) := by decide +kernel
theorem dX13_forfeit_2 : decode cX13_forfeit 2 = .ok (.invokevirtual 143, 3) := by decide +kernel
theorem dX13_forfeit_5 : decode cX13_forfeit 5 = .ok (.ifCond .ne 9, 3) := by decide +kernel
theorem dX13_forfeit_8 : decode cX13_forfeit 8 = .ok (.aload_n 0, 1) := by decide +kernel
theorem dX13_forfeit_9 : decode cX13_forfeit 9 = .ok (.iconst (-1), 1) := by decide +kernel
theorem dX13_forfeit_10 : decode cX13_forfeit 10 = .ok (.invokevirtual 69, 3) := by decide +kernel
theorem dX13_forfeit_13 : decode cX13_forfeit 13 = .ok (.ireturn, 1) := by decide +kernel
theorem dX13_forfeit_14 : decode cX13_forfeit 14 = .ok (.aload_n 0, 1) := by decide +kernel
theorem dX13_forfeit_15 : decode cX13_forfeit 15 = .ok (.iload_n 1, 1) := by decide +kernel
theorem dX13_forfeit_16 : decode cX13_forfeit 16 = .ok (.invokevirtual 146, 3) := by decide +kernel
theorem dX13_forfeit_19 : decode cX13_forfeit 19 = .ok (.ifCond .ne 10, 3) := by decide +kernel
theorem dX13_forfeit_22 : decode cX13_forfeit 22 = .ok (.aload_n 0, 1) := by decide +kernel
theorem dX13_forfeit_23 : decode cX13_forfeit 23 = .ok (.bipush (-2), 2) := by decide +kernel
theorem dX13_forfeit_25 : decode cX13_forfeit 25 = .ok (.invokevirtual 69, 3) := by decide +kernel
theorem dX13_forfeit_28 : decode cX13_forfeit 28 = .ok (.ireturn, 1) := by decide +kernel
theorem dX13_forfeit_29 : decode cX13_forfeit 29 = .ok (.aload_n 0, 1) := by decide +kernel
theorem dX13_forfeit_30 : decode cX13_forfeit 30 = .ok (.iload_n 1, 1) := by decide +kernel
theorem dX13_forfeit_31 : decode cX13_forfeit 31 = .ok (.invokevirtual 159, 3) := by decide +kernel
theorem dX13_forfeit_34 : decode cX13_forfeit 34 = .ok (.ifCond .eq 10, 3) := by decide +kernel
theorem dX13_forfeit_37 : decode cX13_forfeit 37 = .ok (.aload_n 0, 1) := by decide +kernel
theorem dX13_forfeit_38 : decode cX13_forfeit 38 = .ok (.bipush (-3), 2) := by decide +kernel
theorem dX13_forfeit_40 : decode cX13_forfeit 40 = .ok (.invokevirtual 69, 3) := by decide +kernel
theorem dX13_forfeit_43 : decode cX13_forfeit 43 = .ok (.ireturn, 1) := by decide +kernel
theorem dX13_forfeit_44 : decode cX13_forfeit 44 = .ok (.aload_n 0, 1) := by decide +kernel
theorem dX13_forfeit_45 : decode cX13_forfeit 45 = .ok (.invokevirtual 53, 3) := by decide +kernel
theorem dX13_forfeit_48 : decode cX13_forfeit 48 = .ok (.aload_n 0, 1) := by decide +kernel
theorem dX13_forfeit_49 : decode cX13_forfeit 49 = .ok (.iload_n 1, 1) := by decide +kernel
theorem dX13_forfeit_50 : decode cX13_forfeit 50 = .ok (.invokevirtual 177, 3) := by decide +kernel
theorem dX13_forfeit_53 : decode cX13_forfeit 53 = .ok (.if_icmp .ge 10, 3) := by decide +kernel
theorem dX13_forfeit_56 : decode cX13_forfeit 56 = .ok (.aload_n 0, 1) := by decide +kernel
theorem dX13_forfeit_57 : decode cX13_forfeit 57 = .ok (.bipush (-5), 2) := by decide +kernel
theorem dX13_forfeit_59 : decode cX13_forfeit 59 = .ok (.invokevirtual 69, 3) := by decide +kernel
theorem dX13_forfeit_62 : decode cX13_forfeit 62 = .ok (.ireturn, 1) := by decide +kernel
theorem dX13_forfeit_63 : decode cX13_forfeit 63 = .ok (.aload_n 0, 1) := by decide +kernel
theorem dX13_forfeit_64 : decode cX13_forfeit 64 = .ok (.iload_n 1, 1) := by decide +kernel
theorem dX13_forfeit_65 : decode cX13_forfeit 65 = .ok (.bipush 7, 2) := by decide +kernel
theorem dX13_forfeit_67 : decode cX13_forfeit 67 = .ok (.iconst 1, 1) := by decide +kernel
theorem dX13_forfeit_68 : decode cX13_forfeit 68 = .ok (.invokevirtual 57, 3) := by decide +kernel
theorem dX13_forfeit_71 : decode cX13_forfeit 71 = .ok (.aload_n 0, 1) := by decide +kernel
theorem dX13_forfeit_72 : decode cX13_forfeit 72 = .ok (.aload_n 0, 1) := by decide +kernel
theorem dX13_forfeit_73 : decode cX13_forfeit 73 = .ok (.iload_n 1, 1) := by decide +kernel
theorem dX13_forfeit_74 : decode cX13_forfeit 74 = .ok (.invokevirtual 153, 3) := by decide +kernel
theorem dX13_forfeit_77 : decode cX13_forfeit 77 = .ok (.invokevirtual 69, 3) := by decide +kernel
theorem dX13_forfeit_80 : decode cX13_forfeit 80 = .ok (.ireturn, 1) := by decide +kernel
set_option maxRecDepth 20000 in
theorem ggX13_bid_X13_isTicket : GoodIn wsX13_bid wsX13_isTicket := goodIn_r _ [10, 11, 34, 35, 36, 37, 38, 39, 40, 41, 42, 43] (by decide +kernel) (by decide +kernel)
set_option maxRecDepth 20000 in
theorem gX13_bid_X13_isTicket : GoodIn wsX13_bid (wsV RX13 143 RX13 yX13_isTicket wsX13_isTicket) := goodIn_app (goodIn_of _ (by decide +kernel)) ggX13_bid_X13_isTicket
set_option maxRecDepth 20000 in
theorem ggX13_bid_X13_says : GoodIn wsX13_bid wsX13_says := goodIn_r _ [15, 16, 17, 34, 35, 36, 37, 38, 39] (by decide +kernel) (by decide +kernel)
