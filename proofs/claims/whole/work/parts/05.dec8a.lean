set_option maxRecDepth 20000 in
theorem ggX8_init_X8_clears : GoodIn wsX8_init wsX8_clears := goodIn_r _ [33, 11, 34, 27, 28, 16, 17, 54, 55, 56, 57, 58, 59, 60, 61, 62, 63, 64, 65, 66, 67, 68, 69, 70, 71, 72, 73, 74, 75, 76, 77, 78, 79, 80, 81, 82, 83, 84, 85, 86, 87, 88, 89] (by decide +kernel) (by decide +kernel)
set_option maxRecDepth 20000 in
theorem gX8_init_X8_clears : GoodIn wsX8_init (wsV RX8 74 RX8 yX8_clears wsX8_clears) := goodIn_app (goodIn_of _ (by decide +kernel)) ggX8_init_X8_clears
set_option maxRecDepth 20000 in
theorem ggX8_init_X8_sits : GoodIn wsX8_init wsX8_sits := goodIn_r _ [38, 12, 11, 54, 55, 56, 57, 58, 59, 60, 61, 62, 63, 64, 65, 66, 67, 68, 69, 70, 71, 72, 73, 74, 75, 76, 77, 78, 79, 80, 81, 82, 83, 84, 85, 86, 87, 88, 89] (by decide +kernel) (by decide +kernel)
set_option maxRecDepth 20000 in
theorem gX8_init_X8_sits : GoodIn wsX8_init (wsV RX8 77 RX8 yX8_sits wsX8_sits) := goodIn_app (goodIn_of _ (by decide +kernel)) ggX8_init_X8_sits
set_option maxRecDepth 20000 in
theorem ggX8_init_X8_lives : GoodIn wsX8_init wsX8_lives := goodIn_r _ [42, 13, 34, 14, 17, 54, 55, 56, 57, 58, 59, 60, 61, 62, 63, 64, 65, 66, 67, 68, 69, 70, 71, 72, 73, 74, 75, 76, 77, 78, 79, 80, 81, 82, 83, 84, 85, 86, 87, 88, 89] (by decide +kernel) (by decide +kernel)
set_option maxRecDepth 20000 in
theorem gX8_init_X8_lives : GoodIn wsX8_init (wsV RX8 81 RX8 yX8_lives wsX8_lives) := goodIn_app (goodIn_of _ (by decide +kernel)) ggX8_init_X8_lives
set_option maxRecDepth 20000 in
theorem ggX8_init_X8_settles : GoodIn wsX8_init wsX8_settles := goodIn_r _ [46, 5, 11, 34, 47, 27, 48, 28, 49, 6, 12, 7, 13, 8, 14, 9, 15, 10, 16, 50, 51, 52, 32, 53, 17, 54, 55, 56, 57, 58, 59, 60, 61, 62, 63, 64, 65, 66, 67, 68, 69, 70, 71, 72, 73, 74, 75, 76, 77, 78, 79, 80, 81, 82, 83, 84, 85, 86, 87, 88, 89] (by decide +kernel) (by decide +kernel)
set_option maxRecDepth 20000 in
theorem gX8_init_X8_settles : GoodIn wsX8_init (wsV RX8 92 RX8 yX8_settles wsX8_settles) := goodIn_app (goodIn_of _ (by decide +kernel)) ggX8_init_X8_settles
theorem dX8_init_0 : decode cX8_init 0 = .ok (.aload_n 0, 1) := by decide +kernel
theorem dX8_init_1 : decode cX8_init 1 = .ok (.invokespecial 1, 3) := by decide +kernel
theorem dX8_init_4 : decode cX8_init 4 = .ok (.aload_n 0, 1) := by decide +kernel
theorem dX8_init_5 : decode cX8_init 5 = .ok (.iconst 2, 1) := by decide +kernel
theorem dX8_init_6 : decode cX8_init 6 = .ok (.newarray .int, 2) := by decide +kernel
theorem dX8_init_8 : decode cX8_init 8 = .ok (.putfield 7, 3) := by decide +kernel
theorem dX8_init_11 : decode cX8_init 11 = .ok (.aload_n 0, 1) := by decide +kernel
theorem dX8_init_12 : decode cX8_init 12 = .ok (.bipush 12, 2) := by decide +kernel
theorem dX8_init_14 : decode cX8_init 14 = .ok (.newarray .int, 2) := by decide +kernel
theorem dX8_init_16 : decode cX8_init 16 = .ok (.putfield 13, 3) := by decide +kernel
theorem dX8_init_19 : decode cX8_init 19 = .ok (.aload_n 0, 1) := by decide +kernel
theorem dX8_init_20 : decode cX8_init 20 = .ok (.bipush 7, 2) := by decide +kernel
theorem dX8_init_22 : decode cX8_init 22 = .ok (.newarray .int, 2) := by decide +kernel
theorem dX8_init_24 : decode cX8_init 24 = .ok (.putfield 16, 3) := by decide +kernel
theorem dX8_init_27 : decode cX8_init 27 = .ok (.aload_n 0, 1) := by decide +kernel
theorem dX8_init_28 : decode cX8_init 28 = .ok (.bipush 7, 2) := by decide +kernel
theorem dX8_init_30 : decode cX8_init 30 = .ok (.newarray .int, 2) := by decide +kernel
theorem dX8_init_32 : decode cX8_init 32 = .ok (.putfield 19, 3) := by decide +kernel
theorem dX8_init_35 : decode cX8_init 35 = .ok (.aload_n 0, 1) := by decide +kernel
theorem dX8_init_36 : decode cX8_init 36 = .ok (.iconst 4, 1) := by decide +kernel
theorem dX8_init_37 : decode cX8_init 37 = .ok (.newarray .int, 2) := by decide +kernel
theorem dX8_init_39 : decode cX8_init 39 = .ok (.putfield 22, 3) := by decide +kernel
theorem dX8_init_42 : decode cX8_init 42 = .ok (.aload_n 0, 1) := by decide +kernel
theorem dX8_init_43 : decode cX8_init 43 = .ok (.bipush 8, 2) := by decide +kernel
theorem dX8_init_45 : decode cX8_init 45 = .ok (.newarray .int, 2) := by decide +kernel
theorem dX8_init_47 : decode cX8_init 47 = .ok (.putfield 25, 3) := by decide +kernel
theorem dX8_init_50 : decode cX8_init 50 = .ok (.aload_n 0, 1) := by decide +kernel
theorem dX8_init_51 : decode cX8_init 51 = .ok (.iconst 2, 1) := by decide +kernel
theorem dX8_init_52 : decode cX8_init 52 = .ok (.newarray .int, 2) := by decide +kernel
theorem dX8_init_54 : decode cX8_init 54 = .ok (.putfield 28, 3) := by decide +kernel
theorem dX8_init_57 : decode cX8_init 57 = .ok (.aload_n 0, 1) := by decide +kernel
theorem dX8_init_58 : decode cX8_init 58 = .ok (.bipush 12, 2) := by decide +kernel
theorem dX8_init_60 : decode cX8_init 60 = .ok (.newarray .int, 2) := by decide +kernel
theorem dX8_init_62 : decode cX8_init 62 = .ok (.putfield 31, 3) := by decide +kernel
theorem dX8_init_65 : decode cX8_init 65 = .ok (.aload_n 0, 1) := by decide +kernel
theorem dX8_init_66 : decode cX8_init 66 = .ok (.bipush 7, 2) := by decide +kernel
theorem dX8_init_68 : decode cX8_init 68 = .ok (.newarray .int, 2) := by decide +kernel
theorem dX8_init_70 : decode cX8_init 70 = .ok (.putfield 34, 3) := by decide +kernel
theorem dX8_init_73 : decode cX8_init 73 = .ok (.aload_n 0, 1) := by decide +kernel
theorem dX8_init_74 : decode cX8_init 74 = .ok (.bipush 7, 2) := by decide +kernel
theorem dX8_init_76 : decode cX8_init 76 = .ok (.newarray .int, 2) := by decide +kernel
theorem dX8_init_78 : decode cX8_init 78 = .ok (.putfield 37, 3) := by decide +kernel
theorem dX8_init_81 : decode cX8_init 81 = .ok (.aload_n 0, 1) := by decide +kernel
theorem dX8_init_82 : decode cX8_init 82 = .ok (.iconst 4, 1) := by decide +kernel
theorem dX8_init_83 : decode cX8_init 83 = .ok (.newarray .int, 2) := by decide +kernel
theorem dX8_init_85 : decode cX8_init 85 = .ok (.putfield 40, 3) := by decide +kernel
theorem dX8_init_88 : decode cX8_init 88 = .ok (.aload_n 0, 1) := by decide +kernel
theorem dX8_init_89 : decode cX8_init 89 = .ok (.bipush 8, 2) := by decide +kernel
theorem dX8_init_91 : decode cX8_init 91 = .ok (.newarray .int, 2) := by decide +kernel
theorem dX8_init_93 : decode cX8_init 93 = .ok (.putfield 43, 3) := by decide +kernel
theorem dX8_init_96 : decode cX8_init 96 = .ok (.aload_n 0, 1) := by decide +kernel
theorem dX8_init_97 : decode cX8_init 97 = .ok (.sipush 312, 3) := by decide +kernel
theorem dX8_init_100 : decode cX8_init 100 = .ok (.newarray .int, 2) := by decide +kernel
theorem dX8_init_102 : decode cX8_init 102 = .ok (.putfield 46, 3) := by decide +kernel
theorem dX8_init_105 : decode cX8_init 105 = .ok (.aload_n 0, 1) := by decide +kernel
theorem dX8_init_106 : decode cX8_init 106 = .ok (.sipush 200, 3) := by decide +kernel
theorem dX8_init_109 : decode cX8_init 109 = .ok (.newarray .byte, 2) := by decide +kernel
theorem dX8_init_111 : decode cX8_init 111 = .ok (.putfield 49, 3) := by decide +kernel
theorem dX8_init_114 : decode cX8_init 114 = .ok (.aload_n 0, 1) := by decide +kernel
theorem dX8_init_115 : decode cX8_init 115 = .ok (.bipush 6, 2) := by decide +kernel
theorem dX8_init_117 : decode cX8_init 117 = .ok (.newarray .int, 2) := by decide +kernel
theorem dX8_init_119 : decode cX8_init 119 = .ok (.putfield 53, 3) := by decide +kernel
theorem dX8_init_122 : decode cX8_init 122 = .ok (.aload_n 0, 1) := by decide +kernel
theorem dX8_init_123 : decode cX8_init 123 = .ok (.bipush 6, 2) := by decide +kernel
theorem dX8_init_125 : decode cX8_init 125 = .ok (.newarray .int, 2) := by decide +kernel
theorem dX8_init_127 : decode cX8_init 127 = .ok (.putfield 56, 3) := by decide +kernel
theorem dX8_init_130 : decode cX8_init 130 = .ok (.aload_n 0, 1) := by decide +kernel
theorem dX8_init_131 : decode cX8_init 131 = .ok (.bipush 6, 2) := by decide +kernel
theorem dX8_init_133 : decode cX8_init 133 = .ok (.newarray .int, 2) := by decide +kernel
theorem dX8_init_135 : decode cX8_init 135 = .ok (.putfield 59, 3) := by decide +kernel
theorem dX8_init_138 : decode cX8_init 138 = .ok (.aload_n 0, 1) := by decide +kernel
theorem dX8_init_139 : decode cX8_init 139 = .ok (.sipush 6561, 3) := by decide +kernel
theorem dX8_init_142 : decode cX8_init 142 = .ok (.newarray .int, 2) := by decide +kernel
theorem dX8_init_144 : decode cX8_init 144 = .ok (.putfield 62, 3) := by decide +kernel
theorem dX8_init_147 : decode cX8_init 147 = .ok (.aload_n 0, 1) := by decide +kernel
theorem dX8_init_148 : decode cX8_init 148 = .ok (.sipush 6561, 3) := by decide +kernel
theorem dX8_init_151 : decode cX8_init 151 = .ok (.newarray .int, 2) := by decide +kernel
theorem dX8_init_153 : decode cX8_init 153 = .ok (.putfield 65, 3) := by decide +kernel
theorem dX8_init_156 : decode cX8_init 156 = .ok (.aload_n 0, 1) := by decide +kernel
theorem dX8_init_157 : decode cX8_init 157 = .ok (.sipush 6561, 3) := by decide +kernel
theorem dX8_init_160 : decode cX8_init 160 = .ok (.newarray .int, 2) := by decide +kernel
theorem dX8_init_162 : decode cX8_init 162 = .ok (.putfield 68, 3) := by decide +kernel
theorem dX8_init_165 : decode cX8_init 165 = .ok (.aload_n 0, 1) := by decide +kernel
theorem dX8_init_166 : decode cX8_init 166 = .ok (.sipush 6561, 3) := by decide +kernel
theorem dX8_init_169 : decode cX8_init 169 = .ok (.newarray .int, 2) := by decide +kernel
theorem dX8_init_171 : decode cX8_init 171 = .ok (.putfield 71, 3) := by decide +kernel
theorem dX8_init_174 : decode cX8_init 174 = .ok (.aload_n 0, 1) := by decide +kernel
theorem dX8_init_175 : decode cX8_init 175 = .ok (.invokevirtual 74, 3) := by decide +kernel
theorem dX8_init_178 : decode cX8_init 178 = .ok (.aload_n 0, 1) := by decide +kernel
theorem dX8_init_179 : decode cX8_init 179 = .ok (.iconst 0, 1) := by decide +kernel
theorem dX8_init_180 : decode cX8_init 180 = .ok (.iconst 3, 1) := by decide +kernel
theorem dX8_init_181 : decode cX8_init 181 = .ok (.invokevirtual 77, 3) := by decide +kernel
theorem dX8_init_184 : decode cX8_init 184 = .ok (.aload_n 0, 1) := by decide +kernel
theorem dX8_init_185 : decode cX8_init 185 = .ok (.iconst 0, 1) := by decide +kernel
theorem dX8_init_186 : decode cX8_init 186 = .ok (.bipush 12, 2) := by decide +kernel
theorem dX8_init_188 : decode cX8_init 188 = .ok (.invokevirtual 77, 3) := by decide +kernel
theorem dX8_init_191 : decode cX8_init 191 = .ok (.aload_n 0, 1) := by decide +kernel
theorem dX8_init_192 : decode cX8_init 192 = .ok (.iconst 0, 1) := by decide +kernel
theorem dX8_init_193 : decode cX8_init 193 = .ok (.bipush 20, 2) := by decide +kernel
theorem dX8_init_195 : decode cX8_init 195 = .ok (.invokevirtual 77, 3) := by decide +kernel
theorem dX8_init_198 : decode cX8_init 198 = .ok (.aload_n 0, 1) := by decide +kernel
theorem dX8_init_199 : decode cX8_init 199 = .ok (.iconst 0, 1) := by decide +kernel
theorem dX8_init_200 : decode cX8_init 200 = .ok (.bipush 33, 2) := by decide +kernel
theorem dX8_init_202 : decode cX8_init 202 = .ok (.invokevirtual 77, 3) := by decide +kernel
theorem dX8_init_205 : decode cX8_init 205 = .ok (.aload_n 0, 1) := by decide +kernel
theorem dX8_init_206 : decode cX8_init 206 = .ok (.iconst 0, 1) := by decide +kernel
theorem dX8_init_207 : decode cX8_init 207 = .ok (.bipush 47, 2) := by decide +kernel
theorem dX8_init_209 : decode cX8_init 209 = .ok (.invokevirtual 77, 3) := by decide +kernel
theorem dX8_init_212 : decode cX8_init 212 = .ok (.aload_n 0, 1) := by decide +kernel
theorem dX8_init_213 : decode cX8_init 213 = .ok (.iconst 1, 1) := by decide +kernel
theorem dX8_init_214 : decode cX8_init 214 = .ok (.iconst 0, 1) := by decide +kernel
theorem dX8_init_215 : decode cX8_init 215 = .ok (.invokevirtual 77, 3) := by decide +kernel
theorem dX8_init_218 : decode cX8_init 218 = .ok (.aload_n 0, 1) := by decide +kernel
theorem dX8_init_219 : decode cX8_init 219 = .ok (.iconst 1, 1) := by decide +kernel
theorem dX8_init_220 : decode cX8_init 220 = .ok (.bipush 9, 2) := by decide +kernel
theorem dX8_init_222 : decode cX8_init 222 = .ok (.invokevirtual 77, 3) := by decide +kernel
theorem dX8_init_225 : decode cX8_init 225 = .ok (.aload_n 0, 1) := by decide +kernel
theorem dX8_init_226 : decode cX8_init 226 = .ok (.iconst 1, 1) := by decide +kernel
theorem dX8_init_227 : decode cX8_init 227 = .ok (.bipush 21, 2) := by decide +kernel
theorem dX8_init_229 : decode cX8_init 229 = .ok (.invokevirtual 77, 3) := by decide +kernel
theorem dX8_init_232 : decode cX8_init 232 = .ok (.aload_n 0, 1) := by decide +kernel
theorem dX8_init_233 : decode cX8_init 233 = .ok (.iconst 1, 1) := by decide +kernel
theorem dX8_init_234 : decode cX8_init 234 = .ok (.bipush 40, 2) := by decide +kernel
theorem dX8_init_236 : decode cX8_init 236 = .ok (.invokevirtual 77, 3) := by decide +kernel
theorem dX8_init_239 : decode cX8_init 239 = .ok (.aload_n 0, 1) := by decide +kernel
theorem dX8_init_240 : decode cX8_init 240 = .ok (.iconst 1, 1) := by decide +kernel
theorem dX8_init_241 : decode cX8_init 241 = .ok (.bipush 55, 2) := by decide +kernel
theorem dX8_init_243 : decode cX8_init 243 = .ok (.invokevirtual 77, 3) := by decide +kernel
theorem dX8_init_246 : decode cX8_init 246 = .ok (.aload_n 0, 1) := by decide +kernel
theorem dX8_init_247 : decode cX8_init 247 = .ok (.iconst 0, 1) := by decide +kernel
theorem dX8_init_248 : decode cX8_init 248 = .ok (.iconst 5, 1) := by decide +kernel
theorem dX8_init_249 : decode cX8_init 249 = .ok (.bipush 10, 2) := by decide +kernel
theorem dX8_init_251 : decode cX8_init 251 = .ok (.invokevirtual 81, 3) := by decide +kernel
theorem dX8_init_254 : decode cX8_init 254 = .ok (.aload_n 0, 1) := by decide +kernel
theorem dX8_init_255 : decode cX8_init 255 = .ok (.iconst 1, 1) := by decide +kernel
theorem dX8_init_256 : decode cX8_init 256 = .ok (.bipush 11, 2) := by decide +kernel
theorem dX8_init_258 : decode cX8_init 258 = .ok (.iconst 4, 1) := by decide +kernel
theorem dX8_init_259 : decode cX8_init 259 = .ok (.invokevirtual 81, 3) := by decide +kernel
theorem dX8_init_262 : decode cX8_init 262 = .ok (.aload_n 0, 1) := by decide +kernel
theorem dX8_init_263 : decode cX8_init 263 = .ok (.iconst 2, 1) := by decide +kernel
theorem dX8_init_264 : decode cX8_init 264 = .ok (.bipush 18, 2) := by decide +kernel
theorem dX8_init_266 : decode cX8_init 266 = .ok (.bipush 7, 2) := by decide +kernel
theorem dX8_init_268 : decode cX8_init 268 = .ok (.invokevirtual 81, 3) := by decide +kernel
theorem dX8_init_271 : decode cX8_init 271 = .ok (.aload_n 0, 1) := by decide +kernel
theorem dX8_init_272 : decode cX8_init 272 = .ok (.iconst 3, 1) := by decide +kernel
theorem dX8_init_273 : decode cX8_init 273 = .ok (.bipush 30, 2) := by decide +kernel
theorem dX8_init_275 : decode cX8_init 275 = .ok (.bipush 12, 2) := by decide +kernel
theorem dX8_init_277 : decode cX8_init 277 = .ok (.invokevirtual 81, 3) := by decide +kernel
theorem dX8_init_280 : decode cX8_init 280 = .ok (.aload_n 0, 1) := by decide +kernel
theorem dX8_init_281 : decode cX8_init 281 = .ok (.iconst 0, 1) := by decide +kernel
theorem dX8_init_282 : decode cX8_init 282 = .ok (.bipush 41, 2) := by decide +kernel
theorem dX8_init_284 : decode cX8_init 284 = .ok (.iconst 3, 1) := by decide +kernel
theorem dX8_init_285 : decode cX8_init 285 = .ok (.invokevirtual 81, 3) := by decide +kernel
theorem dX8_init_288 : decode cX8_init 288 = .ok (.aload_n 0, 1) := by decide +kernel
theorem dX8_init_289 : decode cX8_init 289 = .ok (.getfield 40, 3) := by decide +kernel
theorem dX8_init_292 : decode cX8_init 292 = .ok (.iconst 0, 1) := by decide +kernel
theorem dX8_init_293 : decode cX8_init 293 = .ok (.iconst 1, 1) := by decide +kernel
theorem dX8_init_294 : decode cX8_init 294 = .ok (.iastore, 1) := by decide +kernel
theorem dX8_init_295 : decode cX8_init 295 = .ok (.aload_n 0, 1) := by decide +kernel
theorem dX8_init_296 : decode cX8_init 296 = .ok (.getfield 40, 3) := by decide +kernel
theorem dX8_init_299 : decode cX8_init 299 = .ok (.iconst 1, 1) := by decide +kernel
theorem dX8_init_300 : decode cX8_init 300 = .ok (.bipush 7, 2) := by decide +kernel
theorem dX8_init_302 : decode cX8_init 302 = .ok (.iastore, 1) := by decide +kernel
theorem dX8_init_303 : decode cX8_init 303 = .ok (.aload_n 0, 1) := by decide +kernel
theorem dX8_init_304 : decode cX8_init 304 = .ok (.iconst 2, 1) := by decide +kernel
theorem dX8_init_305 : decode cX8_init 305 = .ok (.putfield 85, 3) := by decide +kernel
theorem dX8_init_308 : decode cX8_init 308 = .ok (.aload_n 0, 1) := by decide +kernel
theorem dX8_init_309 : decode cX8_init 309 = .ok (.getfield 43, 3) := by decide +kernel
theorem dX8_init_312 : decode cX8_init 312 = .ok (.iconst 2, 1) := by decide +kernel
theorem dX8_init_313 : decode cX8_init 313 = .ok (.iconst 1, 1) := by decide +kernel
theorem dX8_init_314 : decode cX8_init 314 = .ok (.iastore, 1) := by decide +kernel
theorem dX8_init_315 : decode cX8_init 315 = .ok (.aload_n 0, 1) := by decide +kernel
theorem dX8_init_316 : decode cX8_init 316 = .ok (.getfield 43, 3) := by decide +kernel
theorem dX8_init_319 : decode cX8_init 319 = .ok (.iconst 3, 1) := by decide +kernel
theorem dX8_init_320 : decode cX8_init 320 = .ok (.iconst 2, 1) := by decide +kernel
theorem dX8_init_321 : decode cX8_init 321 = .ok (.iastore, 1) := by decide +kernel
theorem dX8_init_322 : decode cX8_init 322 = .ok (.aload_n 0, 1) := by decide +kernel
theorem dX8_init_323 : decode cX8_init 323 = .ok (.iconst 4, 1) := by decide +kernel
theorem dX8_init_324 : decode cX8_init 324 = .ok (.putfield 89, 3) := by decide +kernel
theorem dX8_init_327 : decode cX8_init 327 = .ok (.aload_n 0, 1) := by decide +kernel
theorem dX8_init_328 : decode cX8_init 328 = .ok (.invokevirtual 92, 3) := by decide +kernel
theorem dX8_init_331 : decode cX8_init 331 = .ok (.return_, 1) := by decide +kernel
theorem dX8_in_0 : decode cX8_in 0 = .ok (.lload_n 0, 1) := by decide +kernel
theorem dX8_in_1 : decode cX8_in 1 = .ok (.lload_n 2, 1) := by decide +kernel
theorem dX8_in_2 : decode cX8_in 2 = .ok (.lcmp, 1) := by decide +kernel
theorem dX8_in_3 : decode cX8_in 3 = .ok (.ifCond .lt 14, 3) := by decide +kernel
theorem dX8_in_6 : decode cX8_in 6 = .ok (.lload_n 0, 1) := by decide +kernel
theorem dX8_in_7 : decode cX8_in 7 = .ok (.lload 4, 2) := by decide +kernel
theorem dX8_in_9 : decode cX8_in 9 = .ok (.lcmp, 1) := by decide +kernel
theorem dX8_in_10 : decode cX8_in 10 = .ok (.ifCond .gt 7, 3) := by decide +kernel
theorem dX8_in_13 : decode cX8_in 13 = .ok (.iconst 1, 1) := by decide +kernel
theorem dX8_in_14 : decode cX8_in 14 = .ok (.goto 4, 3) := by decide +kernel
theorem dX8_in_17 : decode cX8_in 17 = .ok (.iconst 0, 1) := by decide +kernel
theorem dX8_in_18 : decode cX8_in 18 = .ok (.ireturn, 1) := by decide +kernel
theorem dX8_has_0 : decode cX8_has 0 = .ok (.iload_n 0, 1) := by decide +kernel
theorem dX8_has_1 : decode cX8_has 1 = .ok (.iload_n 1, 1) := by decide +kernel
theorem dX8_has_2 : decode cX8_has 2 = .ok (.ishr, 1) := by decide +kernel
theorem dX8_has_3 : decode cX8_has 3 = .ok (.iconst 1, 1) := by decide +kernel
theorem dX8_has_4 : decode cX8_has 4 = .ok (.iand, 1) := by decide +kernel
theorem dX8_has_5 : decode cX8_has 5 = .ok (.iconst 1, 1) := by decide +kernel
theorem dX8_has_6 : decode cX8_has 6 = .ok (.if_icmp .ne 7, 3) := by decide +kernel
theorem dX8_has_9 : decode cX8_has 9 = .ok (.iconst 1, 1) := by decide +kernel
theorem dX8_has_10 : decode cX8_has 10 = .ok (.goto 4, 3) := by decide +kernel
theorem dX8_has_13 : decode cX8_has 13 = .ok (.iconst 0, 1) := by decide +kernel
theorem dX8_has_14 : decode cX8_has 14 = .ok (.ireturn, 1) := by decide +kernel
theorem dX8_bits_0 : decode cX8_bits 0 = .ok (.iconst 0, 1) := by decide +kernel
theorem dX8_bits_1 : decode cX8_bits 1 = .ok (.istore_n 1, 1) := by decide +kernel
theorem dX8_bits_2 : decode cX8_bits 2 = .ok (.iconst 0, 1) := by decide +kernel
theorem dX8_bits_3 : decode cX8_bits 3 = .ok (.istore_n 2, 1) := by decide +kernel
theorem dX8_bits_4 : decode cX8_bits 4 = .ok (.iload_n 2, 1) := by decide +kernel
theorem dX8_bits_5 : decode cX8_bits 5 = .ok (.bipush 12, 2) := by decide +kernel
theorem dX8_bits_7 : decode cX8_bits 7 = .ok (.if_icmp .ge 17, 3) := by decide +kernel
theorem dX8_bits_10 : decode cX8_bits 10 = .ok (.iload_n 1, 1) := by decide +kernel
theorem dX8_bits_11 : decode cX8_bits 11 = .ok (.iload_n 0, 1) := by decide +kernel
theorem dX8_bits_12 : decode cX8_bits 12 = .ok (.iload_n 2, 1) := by decide +kernel
theorem dX8_bits_13 : decode cX8_bits 13 = .ok (.ishr, 1) := by decide +kernel
theorem dX8_bits_14 : decode cX8_bits 14 = .ok (.iconst 1, 1) := by decide +kernel
theorem dX8_bits_15 : decode cX8_bits 15 = .ok (.iand, 1) := by decide +kernel
theorem dX8_bits_16 : decode cX8_bits 16 = .ok (.iadd, 1) := by decide +kernel
theorem dX8_bits_17 : decode cX8_bits 17 = .ok (.istore_n 1, 1) := by decide +kernel
theorem dX8_bits_18 : decode cX8_bits 18 = .ok (.iinc 2 1, 3) := by decide +kernel
theorem dX8_bits_21 : decode cX8_bits 21 = .ok (.goto (-17), 3) := by decide +kernel
theorem dX8_bits_24 : decode cX8_bits 24 = .ok (.iload_n 1, 1) := by decide +kernel
theorem dX8_bits_25 : decode cX8_bits 25 = .ok (.ireturn, 1) := by decide +kernel
theorem dX8_smaller_0 : decode cX8_smaller 0 = .ok (.iload_n 0, 1) := by decide +kernel
theorem dX8_smaller_1 : decode cX8_smaller 1 = .ok (.iload_n 1, 1) := by decide +kernel
theorem dX8_smaller_2 : decode cX8_smaller 2 = .ok (.if_icmp .ge 7, 3) := by decide +kernel
theorem dX8_smaller_5 : decode cX8_smaller 5 = .ok (.iload_n 0, 1) := by decide +kernel
theorem dX8_smaller_6 : decode cX8_smaller 6 = .ok (.goto 4, 3) := by decide +kernel
theorem dX8_smaller_9 : decode cX8_smaller 9 = .ok (.iload_n 1, 1) := by decide +kernel
theorem dX8_smaller_10 : decode cX8_smaller 10 = .ok (.ireturn, 1) := by decide +kernel
theorem dX8_larger_0 : decode cX8_larger 0 = .ok (.iload_n 0, 1) := by decide +kernel
theorem dX8_larger_1 : decode cX8_larger 1 = .ok (.iload_n 1, 1) := by decide +kernel
theorem dX8_larger_2 : decode cX8_larger 2 = .ok (.if_icmp .ge 7, 3) := by decide +kernel
theorem dX8_larger_5 : decode cX8_larger 5 = .ok (.iload_n 1, 1) := by decide +kernel
theorem dX8_larger_6 : decode cX8_larger 6 = .ok (.goto 4, 3) := by decide +kernel
theorem dX8_larger_9 : decode cX8_larger 9 = .ok (.iload_n 0, 1) := by decide +kernel
theorem dX8_larger_10 : decode cX8_larger 10 = .ok (.ireturn, 1) := by decide +kernel
theorem dX8_clears_0 : decode cX8_clears 0 = .ok (.aload_n 0, 1) := by decide +kernel
theorem dX8_clears_1 : decode cX8_clears 1 = .ok (.getfield 28, 3) := by decide +kernel
theorem dX8_clears_4 : decode cX8_clears 4 = .ok (.iconst 0, 1) := by decide +kernel
theorem dX8_clears_5 : decode cX8_clears 5 = .ok (.iconst 0, 1) := by decide +kernel
theorem dX8_clears_6 : decode cX8_clears 6 = .ok (.iastore, 1) := by decide +kernel
theorem dX8_clears_7 : decode cX8_clears 7 = .ok (.aload_n 0, 1) := by decide +kernel
theorem dX8_clears_8 : decode cX8_clears 8 = .ok (.getfield 28, 3) := by decide +kernel
theorem dX8_clears_11 : decode cX8_clears 11 = .ok (.iconst 1, 1) := by decide +kernel
theorem dX8_clears_12 : decode cX8_clears 12 = .ok (.iconst 0, 1) := by decide +kernel
theorem dX8_clears_13 : decode cX8_clears 13 = .ok (.iastore, 1) := by decide +kernel
theorem dX8_clears_14 : decode cX8_clears 14 = .ok (.aload_n 0, 1) := by decide +kernel
theorem dX8_clears_15 : decode cX8_clears 15 = .ok (.iconst 0, 1) := by decide +kernel
theorem dX8_clears_16 : decode cX8_clears 16 = .ok (.putfield 95, 3) := by decide +kernel
theorem dX8_clears_19 : decode cX8_clears 19 = .ok (.aload_n 0, 1) := by decide +kernel
theorem dX8_clears_20 : decode cX8_clears 20 = .ok (.iconst 0, 1) := by decide +kernel
theorem dX8_clears_21 : decode cX8_clears 21 = .ok (.putfield 85, 3) := by decide +kernel
theorem dX8_clears_24 : decode cX8_clears 24 = .ok (.aload_n 0, 1) := by decide +kernel
theorem dX8_clears_25 : decode cX8_clears 25 = .ok (.iconst 0, 1) := by decide +kernel
theorem dX8_clears_26 : decode cX8_clears 26 = .ok (.putfield 89, 3) := by decide +kernel
theorem dX8_clears_29 : decode cX8_clears 29 = .ok (.iconst 0, 1) := by decide +kernel
theorem dX8_clears_30 : decode cX8_clears 30 = .ok (.istore_n 1, 1) := by decide +kernel
theorem dX8_clears_31 : decode cX8_clears 31 = .ok (.iload_n 1, 1) := by decide +kernel
theorem dX8_clears_32 : decode cX8_clears 32 = .ok (.bipush 8, 2) := by decide +kernel
theorem dX8_clears_34 : decode cX8_clears 34 = .ok (.if_icmp .ge 16, 3) := by decide +kernel
theorem dX8_clears_37 : decode cX8_clears 37 = .ok (.aload_n 0, 1) := by decide +kernel
theorem dX8_clears_38 : decode cX8_clears 38 = .ok (.getfield 43, 3) := by decide +kernel
theorem dX8_clears_41 : decode cX8_clears 41 = .ok (.iload_n 1, 1) := by decide +kernel
theorem dX8_clears_42 : decode cX8_clears 42 = .ok (.iconst 0, 1) := by decide +kernel
theorem dX8_clears_43 : decode cX8_clears 43 = .ok (.iastore, 1) := by decide +kernel
theorem dX8_clears_44 : decode cX8_clears 44 = .ok (.iinc 1 1, 3) := by decide +kernel
theorem dX8_clears_47 : decode cX8_clears 47 = .ok (.goto (-16), 3) := by decide +kernel
theorem dX8_clears_50 : decode cX8_clears 50 = .ok (.iconst 0, 1) := by decide +kernel
theorem dX8_clears_51 : decode cX8_clears 51 = .ok (.istore_n 1, 1) := by decide +kernel
theorem dX8_clears_52 : decode cX8_clears 52 = .ok (.iload_n 1, 1) := by decide +kernel
theorem dX8_clears_53 : decode cX8_clears 53 = .ok (.bipush 26, 2) := by decide +kernel
theorem dX8_clears_55 : decode cX8_clears 55 = .ok (.if_icmp .ge 20, 3) := by decide +kernel
theorem dX8_clears_58 : decode cX8_clears 58 = .ok (.aload_n 0, 1) := by decide +kernel
theorem dX8_clears_59 : decode cX8_clears 59 = .ok (.getfield 46, 3) := by decide +kernel
theorem dX8_clears_62 : decode cX8_clears 62 = .ok (.sipush 286, 3) := by decide +kernel
theorem dX8_clears_65 : decode cX8_clears 65 = .ok (.iload_n 1, 1) := by decide +kernel
theorem dX8_clears_66 : decode cX8_clears 66 = .ok (.iadd, 1) := by decide +kernel
theorem dX8_clears_67 : decode cX8_clears 67 = .ok (.iconst 0, 1) := by decide +kernel
theorem dX8_clears_68 : decode cX8_clears 68 = .ok (.iastore, 1) := by decide +kernel
theorem dX8_clears_69 : decode cX8_clears 69 = .ok (.iinc 1 1, 3) := by decide +kernel
theorem dX8_clears_72 : decode cX8_clears 72 = .ok (.goto (-20), 3) := by decide +kernel
theorem dX8_clears_75 : decode cX8_clears 75 = .ok (.return_, 1) := by decide +kernel
theorem dX8_sits_0 : decode cX8_sits 0 = .ok (.aload_n 0, 1) := by decide +kernel
theorem dX8_sits_1 : decode cX8_sits 1 = .ok (.getfield 31, 3) := by decide +kernel
theorem dX8_sits_4 : decode cX8_sits 4 = .ok (.bipush 6, 2) := by decide +kernel
theorem dX8_sits_6 : decode cX8_sits 6 = .ok (.iload_n 1, 1) := by decide +kernel
theorem dX8_sits_7 : decode cX8_sits 7 = .ok (.imul, 1) := by decide +kernel
theorem dX8_sits_8 : decode cX8_sits 8 = .ok (.aload_n 0, 1) := by decide +kernel
theorem dX8_sits_9 : decode cX8_sits 9 = .ok (.getfield 28, 3) := by decide +kernel
theorem dX8_sits_12 : decode cX8_sits 12 = .ok (.iload_n 1, 1) := by decide +kernel
theorem dX8_sits_13 : decode cX8_sits 13 = .ok (.iaload, 1) := by decide +kernel
theorem dX8_sits_14 : decode cX8_sits 14 = .ok (.iadd, 1) := by decide +kernel
theorem dX8_sits_15 : decode cX8_sits 15 = .ok (.iload_n 2, 1) := by decide +kernel
theorem dX8_sits_16 : decode cX8_sits 16 = .ok (.iastore, 1) := by decide +kernel
theorem dX8_sits_17 : decode cX8_sits 17 = .ok (.aload_n 0, 1) := by decide +kernel
theorem dX8_sits_18 : decode cX8_sits 18 = .ok (.getfield 28, 3) := by decide +kernel
theorem dX8_sits_21 : decode cX8_sits 21 = .ok (.iload_n 1, 1) := by decide +kernel
theorem dX8_sits_22 : decode cX8_sits 22 = .ok (.dup2, 1) := by decide +kernel
theorem dX8_sits_23 : decode cX8_sits 23 = .ok (.iaload, 1) := by decide +kernel
theorem dX8_sits_24 : decode cX8_sits 24 = .ok (.iconst 1, 1) := by decide +kernel
theorem dX8_sits_25 : decode cX8_sits 25 = .ok (.iadd, 1) := by decide +kernel
theorem dX8_sits_26 : decode cX8_sits 26 = .ok (.iastore, 1) := by decide +kernel
theorem dX8_sits_27 : decode cX8_sits 27 = .ok (.return_, 1) := by decide +kernel
theorem dX8_lives_0 : decode cX8_lives 0 = .ok (.aload_n 0, 1) := by decide +kernel
theorem dX8_lives_1 : decode cX8_lives 1 = .ok (.getfield 34, 3) := by decide +kernel
theorem dX8_lives_4 : decode cX8_lives 4 = .ok (.aload_n 0, 1) := by decide +kernel
theorem dX8_lives_5 : decode cX8_lives 5 = .ok (.getfield 95, 3) := by decide +kernel
theorem dX8_lives_8 : decode cX8_lives 8 = .ok (.iload_n 1, 1) := by decide +kernel
theorem dX8_lives_9 : decode cX8_lives 9 = .ok (.iastore, 1) := by decide +kernel
theorem dX8_lives_10 : decode cX8_lives 10 = .ok (.aload_n 0, 1) := by decide +kernel
theorem dX8_lives_11 : decode cX8_lives 11 = .ok (.getfield 37, 3) := by decide +kernel
theorem dX8_lives_14 : decode cX8_lives 14 = .ok (.aload_n 0, 1) := by decide +kernel
theorem dX8_lives_15 : decode cX8_lives 15 = .ok (.getfield 95, 3) := by decide +kernel
theorem dX8_lives_18 : decode cX8_lives 18 = .ok (.iload_n 2, 1) := by decide +kernel
theorem dX8_lives_19 : decode cX8_lives 19 = .ok (.iastore, 1) := by decide +kernel
theorem dX8_lives_20 : decode cX8_lives 20 = .ok (.aload_n 0, 1) := by decide +kernel
theorem dX8_lives_21 : decode cX8_lives 21 = .ok (.getfield 46, 3) := by decide +kernel
theorem dX8_lives_24 : decode cX8_lives 24 = .ok (.sipush 290, 3) := by decide +kernel
theorem dX8_lives_27 : decode cX8_lives 27 = .ok (.aload_n 0, 1) := by decide +kernel
theorem dX8_lives_28 : decode cX8_lives 28 = .ok (.getfield 95, 3) := by decide +kernel
theorem dX8_lives_31 : decode cX8_lives 31 = .ok (.iadd, 1) := by decide +kernel
theorem dX8_lives_32 : decode cX8_lives 32 = .ok (.iload_n 3, 1) := by decide +kernel
theorem dX8_lives_33 : decode cX8_lives 33 = .ok (.iastore, 1) := by decide +kernel
theorem dX8_lives_34 : decode cX8_lives 34 = .ok (.aload_n 0, 1) := by decide +kernel
theorem dX8_lives_35 : decode cX8_lives 35 = .ok (.dup, 1) := by decide +kernel
theorem dX8_lives_36 : decode cX8_lives 36 = .ok (.getfield 95, 3) := by decide +kernel
theorem dX8_lives_39 : decode cX8_lives 39 = .ok (.iconst 1, 1) := by decide +kernel
theorem dX8_lives_40 : decode cX8_lives 40 = .ok (.iadd, 1) := by decide +kernel
theorem dX8_lives_41 : decode cX8_lives 41 = .ok (.putfield 95, 3) := by decide +kernel
theorem dX8_lives_44 : decode cX8_lives 44 = .ok (.return_, 1) := by decide +kernel
set_option maxRecDepth 20000 in
theorem ggX8_settles_X8_copies : GoodIn wsX8_settles wsX8_copies := goodIn_r _ [23, 24, 25, 26, 27, 28, 29, 30, 31, 32, 33, 34, 35, 36, 37, 38, 39, 40, 41, 42, 43, 44, 45, 46, 47, 48, 49, 50, 51, 52, 53, 54, 55, 56, 57, 58, 59, 60] (by decide +kernel) (by decide +kernel)
set_option maxRecDepth 20000 in
theorem gX8_settles_X8_copies : GoodIn wsX8_settles (wsV RX8 107 RX8 yX8_copies wsX8_copies) := goodIn_app (goodIn_of _ (by decide +kernel)) ggX8_settles_X8_copies
theorem dX8_settles_0 : decode cX8_settles 0 = .ok (.aload_n 0, 1) := by decide +kernel
theorem dX8_settles_1 : decode cX8_settles 1 = .ok (.getfield 7, 3) := by decide +kernel
theorem dX8_settles_4 : decode cX8_settles 4 = .ok (.iconst 0, 1) := by decide +kernel
theorem dX8_settles_5 : decode cX8_settles 5 = .ok (.aload_n 0, 1) := by decide +kernel
theorem dX8_settles_6 : decode cX8_settles 6 = .ok (.getfield 28, 3) := by decide +kernel
theorem dX8_settles_9 : decode cX8_settles 9 = .ok (.iconst 0, 1) := by decide +kernel
theorem dX8_settles_10 : decode cX8_settles 10 = .ok (.iaload, 1) := by decide +kernel
theorem dX8_settles_11 : decode cX8_settles 11 = .ok (.iastore, 1) := by decide +kernel
theorem dX8_settles_12 : decode cX8_settles 12 = .ok (.aload_n 0, 1) := by decide +kernel
theorem dX8_settles_13 : decode cX8_settles 13 = .ok (.getfield 7, 3) := by decide +kernel
theorem dX8_settles_16 : decode cX8_settles 16 = .ok (.iconst 1, 1) := by decide +kernel
theorem dX8_settles_17 : decode cX8_settles 17 = .ok (.aload_n 0, 1) := by decide +kernel
theorem dX8_settles_18 : decode cX8_settles 18 = .ok (.getfield 28, 3) := by decide +kernel
theorem dX8_settles_21 : decode cX8_settles 21 = .ok (.iconst 1, 1) := by decide +kernel
theorem dX8_settles_22 : decode cX8_settles 22 = .ok (.iaload, 1) := by decide +kernel
theorem dX8_settles_23 : decode cX8_settles 23 = .ok (.iastore, 1) := by decide +kernel
theorem dX8_settles_24 : decode cX8_settles 24 = .ok (.aload_n 0, 1) := by decide +kernel
theorem dX8_settles_25 : decode cX8_settles 25 = .ok (.aload_n 0, 1) := by decide +kernel
theorem dX8_settles_26 : decode cX8_settles 26 = .ok (.getfield 95, 3) := by decide +kernel
theorem dX8_settles_29 : decode cX8_settles 29 = .ok (.putfield 98, 3) := by decide +kernel
theorem dX8_settles_32 : decode cX8_settles 32 = .ok (.aload_n 0, 1) := by decide +kernel
theorem dX8_settles_33 : decode cX8_settles 33 = .ok (.aload_n 0, 1) := by decide +kernel
theorem dX8_settles_34 : decode cX8_settles 34 = .ok (.getfield 85, 3) := by decide +kernel
theorem dX8_settles_37 : decode cX8_settles 37 = .ok (.putfield 101, 3) := by decide +kernel
theorem dX8_settles_40 : decode cX8_settles 40 = .ok (.aload_n 0, 1) := by decide +kernel
theorem dX8_settles_41 : decode cX8_settles 41 = .ok (.aload_n 0, 1) := by decide +kernel
theorem dX8_settles_42 : decode cX8_settles 42 = .ok (.getfield 89, 3) := by decide +kernel
theorem dX8_settles_45 : decode cX8_settles 45 = .ok (.putfield 104, 3) := by decide +kernel
theorem dX8_settles_48 : decode cX8_settles 48 = .ok (.iconst 0, 1) := by decide +kernel
theorem dX8_settles_49 : decode cX8_settles 49 = .ok (.istore_n 1, 1) := by decide +kernel
theorem dX8_settles_50 : decode cX8_settles 50 = .ok (.iload_n 1, 1) := by decide +kernel
theorem dX8_settles_51 : decode cX8_settles 51 = .ok (.bipush 12, 2) := by decide +kernel
theorem dX8_settles_53 : decode cX8_settles 53 = .ok (.if_icmp .ge 21, 3) := by decide +kernel
theorem dX8_settles_56 : decode cX8_settles 56 = .ok (.aload_n 0, 1) := by decide +kernel
theorem dX8_settles_57 : decode cX8_settles 57 = .ok (.getfield 13, 3) := by decide +kernel
theorem dX8_settles_60 : decode cX8_settles 60 = .ok (.iload_n 1, 1) := by decide +kernel
theorem dX8_settles_61 : decode cX8_settles 61 = .ok (.aload_n 0, 1) := by decide +kernel
theorem dX8_settles_62 : decode cX8_settles 62 = .ok (.getfield 31, 3) := by decide +kernel
theorem dX8_settles_65 : decode cX8_settles 65 = .ok (.iload_n 1, 1) := by decide +kernel
theorem dX8_settles_66 : decode cX8_settles 66 = .ok (.iaload, 1) := by decide +kernel
theorem dX8_settles_67 : decode cX8_settles 67 = .ok (.iastore, 1) := by decide +kernel
theorem dX8_settles_68 : decode cX8_settles 68 = .ok (.iinc 1 1, 3) := by decide +kernel
theorem dX8_settles_71 : decode cX8_settles 71 = .ok (.goto (-21), 3) := by decide +kernel
theorem dX8_settles_74 : decode cX8_settles 74 = .ok (.iconst 0, 1) := by decide +kernel
theorem dX8_settles_75 : decode cX8_settles 75 = .ok (.istore_n 1, 1) := by decide +kernel
theorem dX8_settles_76 : decode cX8_settles 76 = .ok (.iload_n 1, 1) := by decide +kernel
theorem dX8_settles_77 : decode cX8_settles 77 = .ok (.bipush 7, 2) := by decide +kernel
theorem dX8_settles_79 : decode cX8_settles 79 = .ok (.if_icmp .ge 33, 3) := by decide +kernel
theorem dX8_settles_82 : decode cX8_settles 82 = .ok (.aload_n 0, 1) := by decide +kernel
theorem dX8_settles_83 : decode cX8_settles 83 = .ok (.getfield 16, 3) := by decide +kernel
theorem dX8_settles_86 : decode cX8_settles 86 = .ok (.iload_n 1, 1) := by decide +kernel
theorem dX8_settles_87 : decode cX8_settles 87 = .ok (.aload_n 0, 1) := by decide +kernel
theorem dX8_settles_88 : decode cX8_settles 88 = .ok (.getfield 34, 3) := by decide +kernel
theorem dX8_settles_91 : decode cX8_settles 91 = .ok (.iload_n 1, 1) := by decide +kernel
theorem dX8_settles_92 : decode cX8_settles 92 = .ok (.iaload, 1) := by decide +kernel
theorem dX8_settles_93 : decode cX8_settles 93 = .ok (.iastore, 1) := by decide +kernel
theorem dX8_settles_94 : decode cX8_settles 94 = .ok (.aload_n 0, 1) := by decide +kernel
theorem dX8_settles_95 : decode cX8_settles 95 = .ok (.getfield 19, 3) := by decide +kernel
theorem dX8_settles_98 : decode cX8_settles 98 = .ok (.iload_n 1, 1) := by decide +kernel
theorem dX8_settles_99 : decode cX8_settles 99 = .ok (.aload_n 0, 1) := by decide +kernel
theorem dX8_settles_100 : decode cX8_settles 100 = .ok (.getfield 37, 3) := by decide +kernel
theorem dX8_settles_103 : decode cX8_settles 103 = .ok (.iload_n 1, 1) := by decide +kernel
theorem dX8_settles_104 : decode cX8_settles 104 = .ok (.iaload, 1) := by decide +kernel
theorem dX8_settles_105 : decode cX8_settles 105 = .ok (.iastore, 1) := by decide +kernel
theorem dX8_settles_106 : decode cX8_settles 106 = .ok (.iinc 1 1, 3) := by decide +kernel
theorem dX8_settles_109 : decode cX8_settles 109 = .ok (.goto (-33), 3) := by decide +kernel
theorem dX8_settles_112 : decode cX8_settles 112 = .ok (.iconst 0, 1) := by decide +kernel
theorem dX8_settles_113 : decode cX8_settles 113 = .ok (.istore_n 1, 1) := by decide +kernel
theorem dX8_settles_114 : decode cX8_settles 114 = .ok (.iload_n 1, 1) := by decide +kernel
theorem dX8_settles_115 : decode cX8_settles 115 = .ok (.iconst 4, 1) := by decide +kernel
theorem dX8_settles_116 : decode cX8_settles 116 = .ok (.if_icmp .ge 21, 3) := by decide +kernel
theorem dX8_settles_119 : decode cX8_settles 119 = .ok (.aload_n 0, 1) := by decide +kernel
theorem dX8_settles_120 : decode cX8_settles 120 = .ok (.getfield 22, 3) := by decide +kernel
theorem dX8_settles_123 : decode cX8_settles 123 = .ok (.iload_n 1, 1) := by decide +kernel
theorem dX8_settles_124 : decode cX8_settles 124 = .ok (.aload_n 0, 1) := by decide +kernel
theorem dX8_settles_125 : decode cX8_settles 125 = .ok (.getfield 40, 3) := by decide +kernel
theorem dX8_settles_128 : decode cX8_settles 128 = .ok (.iload_n 1, 1) := by decide +kernel
theorem dX8_settles_129 : decode cX8_settles 129 = .ok (.iaload, 1) := by decide +kernel
theorem dX8_settles_130 : decode cX8_settles 130 = .ok (.iastore, 1) := by decide +kernel
theorem dX8_settles_131 : decode cX8_settles 131 = .ok (.iinc 1 1, 3) := by decide +kernel
theorem dX8_settles_134 : decode cX8_settles 134 = .ok (.goto (-20), 3) := by decide +kernel
theorem dX8_settles_137 : decode cX8_settles 137 = .ok (.iconst 0, 1) := by decide +kernel
theorem dX8_settles_138 : decode cX8_settles 138 = .ok (.istore_n 1, 1) := by decide +kernel
theorem dX8_settles_139 : decode cX8_settles 139 = .ok (.iload_n 1, 1) := by decide +kernel
theorem dX8_settles_140 : decode cX8_settles 140 = .ok (.bipush 8, 2) := by decide +kernel
theorem dX8_settles_142 : decode cX8_settles 142 = .ok (.if_icmp .ge 21, 3) := by decide +kernel
theorem dX8_settles_145 : decode cX8_settles 145 = .ok (.aload_n 0, 1) := by decide +kernel
theorem dX8_settles_146 : decode cX8_settles 146 = .ok (.getfield 25, 3) := by decide +kernel
theorem dX8_settles_149 : decode cX8_settles 149 = .ok (.iload_n 1, 1) := by decide +kernel
theorem dX8_settles_150 : decode cX8_settles 150 = .ok (.aload_n 0, 1) := by decide +kernel
theorem dX8_settles_151 : decode cX8_settles 151 = .ok (.getfield 43, 3) := by decide +kernel
theorem dX8_settles_154 : decode cX8_settles 154 = .ok (.iload_n 1, 1) := by decide +kernel
theorem dX8_settles_155 : decode cX8_settles 155 = .ok (.iaload, 1) := by decide +kernel
theorem dX8_settles_156 : decode cX8_settles 156 = .ok (.iastore, 1) := by decide +kernel
theorem dX8_settles_157 : decode cX8_settles 157 = .ok (.iinc 1 1, 3) := by decide +kernel
theorem dX8_settles_160 : decode cX8_settles 160 = .ok (.goto (-21), 3) := by decide +kernel
theorem dX8_settles_163 : decode cX8_settles 163 = .ok (.aload_n 0, 1) := by decide +kernel
theorem dX8_settles_164 : decode cX8_settles 164 = .ok (.sipush 286, 3) := by decide +kernel
theorem dX8_settles_167 : decode cX8_settles 167 = .ok (.iconst 0, 1) := by decide +kernel
theorem dX8_settles_168 : decode cX8_settles 168 = .ok (.invokevirtual 107, 3) := by decide +kernel
theorem dX8_settles_171 : decode cX8_settles 171 = .ok (.return_, 1) := by decide +kernel
theorem dX8_copies_0 : decode cX8_copies 0 = .ok (.iconst 0, 1) := by decide +kernel
theorem dX8_copies_1 : decode cX8_copies 1 = .ok (.istore_n 3, 1) := by decide +kernel
theorem dX8_copies_2 : decode cX8_copies 2 = .ok (.iload_n 3, 1) := by decide +kernel
theorem dX8_copies_3 : decode cX8_copies 3 = .ok (.bipush 26, 2) := by decide +kernel
theorem dX8_copies_5 : decode cX8_copies 5 = .ok (.if_icmp .ge 25, 3) := by decide +kernel
theorem dX8_copies_8 : decode cX8_copies 8 = .ok (.aload_n 0, 1) := by decide +kernel
theorem dX8_copies_9 : decode cX8_copies 9 = .ok (.getfield 46, 3) := by decide +kernel
theorem dX8_copies_12 : decode cX8_copies 12 = .ok (.iload_n 2, 1) := by decide +kernel
theorem dX8_copies_13 : decode cX8_copies 13 = .ok (.iload_n 3, 1) := by decide +kernel
theorem dX8_copies_14 : decode cX8_copies 14 = .ok (.iadd, 1) := by decide +kernel
theorem dX8_copies_15 : decode cX8_copies 15 = .ok (.aload_n 0, 1) := by decide +kernel
theorem dX8_copies_16 : decode cX8_copies 16 = .ok (.getfield 46, 3) := by decide +kernel
theorem dX8_copies_19 : decode cX8_copies 19 = .ok (.iload_n 1, 1) := by decide +kernel
theorem dX8_copies_20 : decode cX8_copies 20 = .ok (.iload_n 3, 1) := by decide +kernel
theorem dX8_copies_21 : decode cX8_copies 21 = .ok (.iadd, 1) := by decide +kernel
theorem dX8_copies_22 : decode cX8_copies 22 = .ok (.iaload, 1) := by decide +kernel
theorem dX8_copies_23 : decode cX8_copies 23 = .ok (.iastore, 1) := by decide +kernel
theorem dX8_copies_24 : decode cX8_copies 24 = .ok (.iinc 3 1, 3) := by decide +kernel
theorem dX8_copies_27 : decode cX8_copies 27 = .ok (.goto (-25), 3) := by decide +kernel
theorem dX8_copies_30 : decode cX8_copies 30 = .ok (.return_, 1) := by decide +kernel
set_option maxRecDepth 20000 in
theorem ggX8_isOne_X8_in : GoodIn wsX8_isOne wsX8_in := goodIn_r _ [5] (by decide +kernel) (by decide +kernel)
set_option maxRecDepth 20000 in
theorem gX8_isOne_X8_in : GoodIn wsX8_isOne (va_wsS RX8 110 yX8_in wsX8_in) := goodIn_app (goodIn_of _ (by decide +kernel)) ggX8_isOne_X8_in
theorem dX8_isOne_0 : decode cX8_isOne 0 = .ok (.iload_n 1, 1) := by decide +kernel
theorem dX8_isOne_1 : decode cX8_isOne 1 = .ok (.i2l, 1) := by decide +kernel
theorem dX8_isOne_2 : decode cX8_isOne 2 = .ok (.lconst 0, 1) := by decide +kernel
theorem dX8_isOne_3 : decode cX8_isOne 3 = .ok (.lconst 1, 1) := by decide +kernel
theorem dX8_isOne_4 : decode cX8_isOne 4 = .ok (.invokestatic 110, 3) := by decide +kernel
theorem dX8_isOne_7 : decode cX8_isOne 7 = .ok (.ifCond .eq 25, 3) := by decide +kernel
theorem dX8_isOne_10 : decode cX8_isOne 10 = .ok (.iload_n 2, 1) := by decide +kernel
theorem dX8_isOne_11 : decode cX8_isOne 11 = .ok (.i2l, 1) := by decide +kernel
theorem dX8_isOne_12 : decode cX8_isOne 12 = .ok (.lconst 0, 1) := by decide +kernel
theorem dX8_isOne_13 : decode cX8_isOne 13 = .ok (.aload_n 0, 1) := by decide +kernel
theorem dX8_isOne_14 : decode cX8_isOne 14 = .ok (.getfield 7, 3) := by decide +kernel
theorem dX8_isOne_17 : decode cX8_isOne 17 = .ok (.iload_n 1, 1) := by decide +kernel
theorem dX8_isOne_18 : decode cX8_isOne 18 = .ok (.iaload, 1) := by decide +kernel
theorem dX8_isOne_19 : decode cX8_isOne 19 = .ok (.iconst 1, 1) := by decide +kernel
theorem dX8_isOne_20 : decode cX8_isOne 20 = .ok (.isub, 1) := by decide +kernel
theorem dX8_isOne_21 : decode cX8_isOne 21 = .ok (.i2l, 1) := by decide +kernel
theorem dX8_isOne_22 : decode cX8_isOne 22 = .ok (.invokestatic 110, 3) := by decide +kernel
theorem dX8_isOne_25 : decode cX8_isOne 25 = .ok (.ifCond .eq 7, 3) := by decide +kernel
theorem dX8_isOne_28 : decode cX8_isOne 28 = .ok (.iconst 1, 1) := by decide +kernel
theorem dX8_isOne_29 : decode cX8_isOne 29 = .ok (.goto 4, 3) := by decide +kernel
theorem dX8_isOne_32 : decode cX8_isOne 32 = .ok (.iconst 0, 1) := by decide +kernel
theorem dX8_isOne_33 : decode cX8_isOne 33 = .ok (.ireturn, 1) := by decide +kernel
set_option maxRecDepth 20000 in
theorem ggX8_isStrip_X8_in : GoodIn wsX8_isStrip wsX8_in := goodIn_r _ [5] (by decide +kernel) (by decide +kernel)
set_option maxRecDepth 20000 in
theorem gX8_isStrip_X8_in : GoodIn wsX8_isStrip (va_wsS RX8 110 yX8_in wsX8_in) := goodIn_app (goodIn_of _ (by decide +kernel)) ggX8_isStrip_X8_in
theorem dX8_isStrip_0 : decode cX8_isStrip 0 = .ok (.iload_n 1, 1) := by decide +kernel
theorem dX8_isStrip_1 : decode cX8_isStrip 1 = .ok (.i2l, 1) := by decide +kernel
theorem dX8_isStrip_2 : decode cX8_isStrip 2 = .ok (.lconst 0, 1) := by decide +kernel
theorem dX8_isStrip_3 : decode cX8_isStrip 3 = .ok (.aload_n 0, 1) := by decide +kernel
theorem dX8_isStrip_4 : decode cX8_isStrip 4 = .ok (.getfield 98, 3) := by decide +kernel
theorem dX8_isStrip_7 : decode cX8_isStrip 7 = .ok (.iconst 1, 1) := by decide +kernel
theorem dX8_isStrip_8 : decode cX8_isStrip 8 = .ok (.isub, 1) := by decide +kernel
theorem dX8_isStrip_9 : decode cX8_isStrip 9 = .ok (.i2l, 1) := by decide +kernel
theorem dX8_isStrip_10 : decode cX8_isStrip 10 = .ok (.invokestatic 110, 3) := by decide +kernel
theorem dX8_isStrip_13 : decode cX8_isStrip 13 = .ok (.ireturn, 1) := by decide +kernel
set_option maxRecDepth 20000 in
theorem ggX8_isPush_X8_in : GoodIn wsX8_isPush wsX8_in := goodIn_r _ [5] (by decide +kernel) (by decide +kernel)
set_option maxRecDepth 20000 in
theorem gX8_isPush_X8_in : GoodIn wsX8_isPush (va_wsS RX8 110 yX8_in wsX8_in) := goodIn_app (goodIn_of _ (by decide +kernel)) ggX8_isPush_X8_in
theorem dX8_isPush_0 : decode cX8_isPush 0 = .ok (.iload_n 1, 1) := by decide +kernel
theorem dX8_isPush_1 : decode cX8_isPush 1 = .ok (.i2l, 1) := by decide +kernel
theorem dX8_isPush_2 : decode cX8_isPush 2 = .ok (.lconst 0, 1) := by decide +kernel
theorem dX8_isPush_3 : decode cX8_isPush 3 = .ok (.aload_n 0, 1) := by decide +kernel
theorem dX8_isPush_4 : decode cX8_isPush 4 = .ok (.getfield 101, 3) := by decide +kernel
theorem dX8_isPush_7 : decode cX8_isPush 7 = .ok (.iconst 1, 1) := by decide +kernel
theorem dX8_isPush_8 : decode cX8_isPush 8 = .ok (.isub, 1) := by decide +kernel
theorem dX8_isPush_9 : decode cX8_isPush 9 = .ok (.i2l, 1) := by decide +kernel
theorem dX8_isPush_10 : decode cX8_isPush 10 = .ok (.invokestatic 110, 3) := by decide +kernel
theorem dX8_isPush_13 : decode cX8_isPush 13 = .ok (.ifCond .eq 17, 3) := by decide +kernel
theorem dX8_isPush_16 : decode cX8_isPush 16 = .ok (.iload_n 2, 1) := by decide +kernel
theorem dX8_isPush_17 : decode cX8_isPush 17 = .ok (.i2l, 1) := by decide +kernel
theorem dX8_isPush_18 : decode cX8_isPush 18 = .ok (.lconst 0, 1) := by decide +kernel
theorem dX8_isPush_19 : decode cX8_isPush 19 = .ok (.lconst 1, 1) := by decide +kernel
theorem dX8_isPush_20 : decode cX8_isPush 20 = .ok (.invokestatic 110, 3) := by decide +kernel
theorem dX8_isPush_23 : decode cX8_isPush 23 = .ok (.ifCond .eq 7, 3) := by decide +kernel
theorem dX8_isPush_26 : decode cX8_isPush 26 = .ok (.iconst 1, 1) := by decide +kernel
theorem dX8_isPush_27 : decode cX8_isPush 27 = .ok (.goto 4, 3) := by decide +kernel
theorem dX8_isPush_30 : decode cX8_isPush 30 = .ok (.iconst 0, 1) := by decide +kernel
theorem dX8_isPush_31 : decode cX8_isPush 31 = .ok (.ireturn, 1) := by decide +kernel
set_option maxRecDepth 20000 in
theorem ggX8_write_X8_in : GoodIn wsX8_write wsX8_in := goodIn_r _ [8] (by decide +kernel) (by decide +kernel)
set_option maxRecDepth 20000 in
theorem gX8_write_X8_in : GoodIn wsX8_write (va_wsS RX8 110 yX8_in wsX8_in) := goodIn_app (goodIn_of _ (by decide +kernel)) ggX8_write_X8_in
theorem dX8_write_0 : decode cX8_write 0 = .ok (.iload_n 1, 1) := by decide +kernel
theorem dX8_write_1 : decode cX8_write 1 = .ok (.i2l, 1) := by decide +kernel
theorem dX8_write_2 : decode cX8_write 2 = .ok (.ldc2_w 114, 3) := by decide +kernel
theorem dX8_write_5 : decode cX8_write 5 = .ok (.ldc2_w 116, 3) := by decide +kernel
theorem dX8_write_8 : decode cX8_write 8 = .ok (.invokestatic 110, 3) := by decide +kernel
theorem dX8_write_11 : decode cX8_write 11 = .ok (.ifCond .ne 5, 3) := by decide +kernel
theorem dX8_write_14 : decode cX8_write 14 = .ok (.iconst (-1), 1) := by decide +kernel
theorem dX8_write_15 : decode cX8_write 15 = .ok (.ireturn, 1) := by decide +kernel
theorem dX8_write_16 : decode cX8_write 16 = .ok (.aload_n 0, 1) := by decide +kernel
theorem dX8_write_17 : decode cX8_write 17 = .ok (.getfield 118, 3) := by decide +kernel
theorem dX8_write_20 : decode cX8_write 20 = .ok (.sipush 200, 3) := by decide +kernel
theorem dX8_write_23 : decode cX8_write 23 = .ok (.if_icmp .ne 6, 3) := by decide +kernel
theorem dX8_write_26 : decode cX8_write 26 = .ok (.bipush (-3), 2) := by decide +kernel
theorem dX8_write_28 : decode cX8_write 28 = .ok (.ireturn, 1) := by decide +kernel
theorem dX8_write_29 : decode cX8_write 29 = .ok (.aload_n 0, 1) := by decide +kernel
theorem dX8_write_30 : decode cX8_write 30 = .ok (.getfield 49, 3) := by decide +kernel
theorem dX8_write_33 : decode cX8_write 33 = .ok (.aload_n 0, 1) := by decide +kernel
theorem dX8_write_34 : decode cX8_write 34 = .ok (.getfield 118, 3) := by decide +kernel
theorem dX8_write_37 : decode cX8_write 37 = .ok (.iload_n 1, 1) := by decide +kernel
theorem dX8_write_38 : decode cX8_write 38 = .ok (.i2b, 1) := by decide +kernel
theorem dX8_write_39 : decode cX8_write 39 = .ok (.bastore, 1) := by decide +kernel
theorem dX8_write_40 : decode cX8_write 40 = .ok (.aload_n 0, 1) := by decide +kernel
theorem dX8_write_41 : decode cX8_write 41 = .ok (.dup, 1) := by decide +kernel
theorem dX8_write_42 : decode cX8_write 42 = .ok (.getfield 118, 3) := by decide +kernel
theorem dX8_write_45 : decode cX8_write 45 = .ok (.iconst 1, 1) := by decide +kernel
theorem dX8_write_46 : decode cX8_write 46 = .ok (.iadd, 1) := by decide +kernel
theorem dX8_write_47 : decode cX8_write 47 = .ok (.putfield 118, 3) := by decide +kernel
theorem dX8_write_50 : decode cX8_write 50 = .ok (.aload_n 0, 1) := by decide +kernel
theorem dX8_write_51 : decode cX8_write 51 = .ok (.getfield 118, 3) := by decide +kernel
theorem dX8_write_54 : decode cX8_write 54 = .ok (.ireturn, 1) := by decide +kernel
theorem dX8_wipe_0 : decode cX8_wipe 0 = .ok (.aload_n 0, 1) := by decide +kernel
theorem dX8_wipe_1 : decode cX8_wipe 1 = .ok (.getfield 118, 3) := by decide +kernel
theorem dX8_wipe_4 : decode cX8_wipe 4 = .ok (.istore_n 1, 1) := by decide +kernel
theorem dX8_wipe_5 : decode cX8_wipe 5 = .ok (.aload_n 0, 1) := by decide +kernel
theorem dX8_wipe_6 : decode cX8_wipe 6 = .ok (.iconst 0, 1) := by decide +kernel
theorem dX8_wipe_7 : decode cX8_wipe 7 = .ok (.putfield 118, 3) := by decide +kernel
theorem dX8_wipe_10 : decode cX8_wipe 10 = .ok (.iload_n 1, 1) := by decide +kernel
theorem dX8_wipe_11 : decode cX8_wipe 11 = .ok (.ireturn, 1) := by decide +kernel
theorem dX8_next_0 : decode cX8_next 0 = .ok (.aload_n 0, 1) := by decide +kernel
theorem dX8_next_1 : decode cX8_next 1 = .ok (.getfield 121, 3) := by decide +kernel
theorem dX8_next_4 : decode cX8_next 4 = .ok (.aload_n 0, 1) := by decide +kernel
theorem dX8_next_5 : decode cX8_next 5 = .ok (.getfield 118, 3) := by decide +kernel
theorem dX8_next_8 : decode cX8_next 8 = .ok (.if_icmp .ge 15, 3) := by decide +kernel
theorem dX8_next_11 : decode cX8_next 11 = .ok (.aload_n 0, 1) := by decide +kernel
theorem dX8_next_12 : decode cX8_next 12 = .ok (.getfield 49, 3) := by decide +kernel
theorem dX8_next_15 : decode cX8_next 15 = .ok (.aload_n 0, 1) := by decide +kernel
theorem dX8_next_16 : decode cX8_next 16 = .ok (.getfield 121, 3) := by decide +kernel
theorem dX8_next_19 : decode cX8_next 19 = .ok (.baload, 1) := by decide +kernel
theorem dX8_next_20 : decode cX8_next 20 = .ok (.goto 4, 3) := by decide +kernel
theorem dX8_next_23 : decode cX8_next 23 = .ok (.iconst (-1), 1) := by decide +kernel
theorem dX8_next_24 : decode cX8_next 24 = .ok (.ireturn, 1) := by decide +kernel
set_option maxRecDepth 20000 in
theorem ggX8_number_X8_next : GoodIn wsX8_number wsX8_next := goodIn_r _ [9, 3, 10, 11, 15, 16, 17, 18, 19, 20, 21, 22, 23, 24, 25, 26, 27, 28, 29, 30, 31, 32, 33, 34, 35, 36, 37, 38, 39, 40, 41, 42, 43, 44, 45, 46, 47, 48, 49, 50] (by decide +kernel) (by decide +kernel)
set_option maxRecDepth 20000 in
theorem gX8_number_X8_next : GoodIn wsX8_number (wsV RX8 124 RX8 yX8_next wsX8_next) := goodIn_app (goodIn_of _ (by decide +kernel)) ggX8_number_X8_next
set_option maxRecDepth 20000 in
theorem ggX8_number_X8_in : GoodIn wsX8_number wsX8_in := goodIn_r _ [14] (by decide +kernel) (by decide +kernel)
set_option maxRecDepth 20000 in
theorem gX8_number_X8_in : GoodIn wsX8_number (va_wsS RX8 110 yX8_in wsX8_in) := goodIn_app (goodIn_of _ (by decide +kernel)) ggX8_number_X8_in
theorem dX8_number_0 : decode cX8_number 0 = .ok (.iconst 0, 1) := by decide +kernel
theorem dX8_number_1 : decode cX8_number 1 = .ok (.istore_n 3, 1) := by decide +kernel
theorem dX8_number_2 : decode cX8_number 2 = .ok (.iconst 0, 1) := by decide +kernel
theorem dX8_number_3 : decode cX8_number 3 = .ok (.istore 4, 2) := by decide +kernel
theorem dX8_number_5 : decode cX8_number 5 = .ok (.aload_n 0, 1) := by decide +kernel
theorem dX8_number_6 : decode cX8_number 6 = .ok (.invokevirtual 124, 3) := by decide +kernel
theorem dX8_number_9 : decode cX8_number 9 = .ok (.i2l, 1) := by decide +kernel
theorem dX8_number_10 : decode cX8_number 10 = .ok (.ldc2_w 128, 3) := by decide +kernel
theorem dX8_number_13 : decode cX8_number 13 = .ok (.ldc2_w 130, 3) := by decide +kernel
theorem dX8_number_16 : decode cX8_number 16 = .ok (.invokestatic 110, 3) := by decide +kernel
theorem dX8_number_19 : decode cX8_number 19 = .ok (.ifCond .eq 38, 3) := by decide +kernel
theorem dX8_number_22 : decode cX8_number 22 = .ok (.iload 4, 2) := by decide +kernel
theorem dX8_number_24 : decode cX8_number 24 = .ok (.iconst 3, 1) := by decide +kernel
theorem dX8_number_25 : decode cX8_number 25 = .ok (.if_icmp .ge 32, 3) := by decide +kernel
theorem dX8_number_28 : decode cX8_number 28 = .ok (.bipush 10, 2) := by decide +kernel
theorem dX8_number_30 : decode cX8_number 30 = .ok (.iload_n 3, 1) := by decide +kernel
theorem dX8_number_31 : decode cX8_number 31 = .ok (.imul, 1) := by decide +kernel
theorem dX8_number_32 : decode cX8_number 32 = .ok (.aload_n 0, 1) := by decide +kernel
theorem dX8_number_33 : decode cX8_number 33 = .ok (.invokevirtual 124, 3) := by decide +kernel
theorem dX8_number_36 : decode cX8_number 36 = .ok (.iadd, 1) := by decide +kernel
theorem dX8_number_37 : decode cX8_number 37 = .ok (.bipush 48, 2) := by decide +kernel
theorem dX8_number_39 : decode cX8_number 39 = .ok (.isub, 1) := by decide +kernel
theorem dX8_number_40 : decode cX8_number 40 = .ok (.istore_n 3, 1) := by decide +kernel
theorem dX8_number_41 : decode cX8_number 41 = .ok (.iinc 4 1, 3) := by decide +kernel
theorem dX8_number_44 : decode cX8_number 44 = .ok (.aload_n 0, 1) := by decide +kernel
theorem dX8_number_45 : decode cX8_number 45 = .ok (.dup, 1) := by decide +kernel
theorem dX8_number_46 : decode cX8_number 46 = .ok (.getfield 121, 3) := by decide +kernel
theorem dX8_number_49 : decode cX8_number 49 = .ok (.iconst 1, 1) := by decide +kernel
theorem dX8_number_50 : decode cX8_number 50 = .ok (.iadd, 1) := by decide +kernel
theorem dX8_number_51 : decode cX8_number 51 = .ok (.putfield 121, 3) := by decide +kernel
theorem dX8_number_54 : decode cX8_number 54 = .ok (.goto (-49), 3) := by decide +kernel
theorem dX8_number_57 : decode cX8_number 57 = .ok (.aload_n 0, 1) := by decide +kernel
theorem dX8_number_58 : decode cX8_number 58 = .ok (.aload_n 0, 1) := by decide +kernel
theorem dX8_number_59 : decode cX8_number 59 = .ok (.getfield 132, 3) := by decide +kernel
theorem dX8_number_62 : decode cX8_number 62 = .ok (.ifCond .ne 26, 3) := by decide +kernel
theorem dX8_number_65 : decode cX8_number 65 = .ok (.iload 4, 2) := by decide +kernel
theorem dX8_number_67 : decode cX8_number 67 = .ok (.ifCond .eq 21, 3) := by decide +kernel
theorem dX8_number_70 : decode cX8_number 70 = .ok (.iload 4, 2) := by decide +kernel
theorem dX8_number_72 : decode cX8_number 72 = .ok (.iconst 2, 1) := by decide +kernel
theorem dX8_number_73 : decode cX8_number 73 = .ok (.if_icmp .gt 15, 3) := by decide +kernel
theorem dX8_number_76 : decode cX8_number 76 = .ok (.iload_n 3, 1) := by decide +kernel
theorem dX8_number_77 : decode cX8_number 77 = .ok (.i2l, 1) := by decide +kernel
theorem dX8_number_78 : decode cX8_number 78 = .ok (.iload_n 1, 1) := by decide +kernel
theorem dX8_number_79 : decode cX8_number 79 = .ok (.i2l, 1) := by decide +kernel
theorem dX8_number_80 : decode cX8_number 80 = .ok (.iload_n 2, 1) := by decide +kernel
theorem dX8_number_81 : decode cX8_number 81 = .ok (.i2l, 1) := by decide +kernel
theorem dX8_number_82 : decode cX8_number 82 = .ok (.invokestatic 110, 3) := by decide +kernel
theorem dX8_number_85 : decode cX8_number 85 = .ok (.ifCond .ne 7, 3) := by decide +kernel
theorem dX8_number_88 : decode cX8_number 88 = .ok (.iconst 1, 1) := by decide +kernel
theorem dX8_number_89 : decode cX8_number 89 = .ok (.goto 4, 3) := by decide +kernel
theorem dX8_number_92 : decode cX8_number 92 = .ok (.iconst 0, 1) := by decide +kernel
theorem dX8_number_93 : decode cX8_number 93 = .ok (.putfield 132, 3) := by decide +kernel
theorem dX8_number_96 : decode cX8_number 96 = .ok (.aload_n 0, 1) := by decide +kernel
theorem dX8_number_97 : decode cX8_number 97 = .ok (.getfield 132, 3) := by decide +kernel
theorem dX8_number_100 : decode cX8_number 100 = .ok (.ifCond .eq 7, 3) := by decide +kernel
theorem dX8_number_103 : decode cX8_number 103 = .ok (.iconst 0, 1) := by decide +kernel
theorem dX8_number_104 : decode cX8_number 104 = .ok (.goto 4, 3) := by decide +kernel
theorem dX8_number_107 : decode cX8_number 107 = .ok (.iload_n 3, 1) := by decide +kernel
theorem dX8_number_108 : decode cX8_number 108 = .ok (.ireturn, 1) := by decide +kernel
set_option maxRecDepth 20000 in
theorem ggX8_more_X8_next : GoodIn wsX8_more wsX8_next := goodIn_r _ [7, 2, 8, 9, 19, 20, 21, 22, 23, 24, 25, 26, 27, 28, 29, 30, 31, 32, 33, 34, 35, 36, 37, 38, 39, 40, 41, 42, 43, 44, 45, 46, 47, 48, 49, 50, 51, 52, 53, 54] (by decide +kernel) (by decide +kernel)
set_option maxRecDepth 20000 in
theorem gX8_more_X8_next : GoodIn wsX8_more (wsV RX8 124 RX8 yX8_next wsX8_next) := goodIn_app (goodIn_of _ (by decide +kernel)) ggX8_more_X8_next
set_option maxRecDepth 20000 in
theorem ggX8_more_X8_number : GoodIn wsX8_more wsX8_number := goodIn_r _ [13, 14, 15, 2, 1, 3, 4, 5, 6, 7, 8, 9, 16, 17, 18, 19, 20, 21, 22, 23, 24, 25, 26, 27, 28, 29, 30, 31, 32, 33, 34, 35, 36, 37, 38, 39, 40, 41, 42, 43, 44, 45, 46, 47, 48, 49, 50, 51, 52, 53, 54] (by decide +kernel) (by decide +kernel)
set_option maxRecDepth 20000 in
theorem gX8_more_X8_number : GoodIn wsX8_more (wsV RX8 136 RX8 yX8_number wsX8_number) := goodIn_app (goodIn_of _ (by decide +kernel)) ggX8_more_X8_number
theorem dX8_more_0 : decode cX8_more 0 = .ok (.aload_n 0, 1) := by decide +kernel
theorem dX8_more_1 : decode cX8_more 1 = .ok (.aload_n 0, 1) := by decide +kernel
theorem dX8_more_2 : decode cX8_more 2 = .ok (.getfield 132, 3) := by decide +kernel
theorem dX8_more_5 : decode cX8_more 5 = .ok (.ifCond .ne 12, 3) := by decide +kernel
theorem dX8_more_8 : decode cX8_more 8 = .ok (.aload_n 0, 1) := by decide +kernel
theorem dX8_more_9 : decode cX8_more 9 = .ok (.invokevirtual 124, 3) := by decide +kernel
theorem dX8_more_12 : decode cX8_more 12 = .ok (.bipush 44, 2) := by decide +kernel
theorem dX8_more_14 : decode cX8_more 14 = .ok (.if_icmp .eq 7, 3) := by decide +kernel
theorem dX8_more_17 : decode cX8_more 17 = .ok (.iconst 1, 1) := by decide +kernel
theorem dX8_more_18 : decode cX8_more 18 = .ok (.goto 4, 3) := by decide +kernel
theorem dX8_more_21 : decode cX8_more 21 = .ok (.iconst 0, 1) := by decide +kernel
theorem dX8_more_22 : decode cX8_more 22 = .ok (.putfield 132, 3) := by decide +kernel
theorem dX8_more_25 : decode cX8_more 25 = .ok (.aload_n 0, 1) := by decide +kernel
theorem dX8_more_26 : decode cX8_more 26 = .ok (.dup, 1) := by decide +kernel
theorem dX8_more_27 : decode cX8_more 27 = .ok (.getfield 121, 3) := by decide +kernel
theorem dX8_more_30 : decode cX8_more 30 = .ok (.iconst 1, 1) := by decide +kernel
theorem dX8_more_31 : decode cX8_more 31 = .ok (.iadd, 1) := by decide +kernel
theorem dX8_more_32 : decode cX8_more 32 = .ok (.putfield 121, 3) := by decide +kernel
theorem dX8_more_35 : decode cX8_more 35 = .ok (.aload_n 0, 1) := by decide +kernel
theorem dX8_more_36 : decode cX8_more 36 = .ok (.getfield 132, 3) := by decide +kernel
theorem dX8_more_39 : decode cX8_more 39 = .ok (.ifCond .eq 7, 3) := by decide +kernel
theorem dX8_more_42 : decode cX8_more 42 = .ok (.iconst 0, 1) := by decide +kernel
theorem dX8_more_43 : decode cX8_more 43 = .ok (.goto 9, 3) := by decide +kernel
theorem dX8_more_46 : decode cX8_more 46 = .ok (.aload_n 0, 1) := by decide +kernel
theorem dX8_more_47 : decode cX8_more 47 = .ok (.iload_n 1, 1) := by decide +kernel
theorem dX8_more_48 : decode cX8_more 48 = .ok (.iload_n 2, 1) := by decide +kernel
theorem dX8_more_49 : decode cX8_more 49 = .ok (.invokevirtual 136, 3) := by decide +kernel
theorem dX8_more_52 : decode cX8_more 52 = .ok (.ireturn, 1) := by decide +kernel
set_option maxRecDepth 20000 in
theorem ggX8_stripItem_X8_number : GoodIn wsX8_stripItem wsX8_number := goodIn_r _ [7, 8, 9, 10, 2, 11, 12, 13, 6, 14, 15, 16, 17, 18, 19, 31, 32, 33, 34, 35, 36, 37, 38, 39, 40, 41, 42, 43, 44, 45, 46, 47, 48, 49, 50, 51, 52, 53, 54, 55, 56, 57, 58, 59, 60, 61, 62, 63, 64, 65, 66] (by decide +kernel) (by decide +kernel)
set_option maxRecDepth 20000 in
theorem gX8_stripItem_X8_number : GoodIn wsX8_stripItem (wsV RX8 136 RX8 yX8_number wsX8_number) := goodIn_app (goodIn_of _ (by decide +kernel)) ggX8_stripItem_X8_number
set_option maxRecDepth 20000 in
theorem ggX8_stripItem_X8_more : GoodIn wsX8_stripItem wsX8_more := goodIn_r _ [23, 2, 10, 11, 12, 13, 6, 14, 15, 16, 3, 4, 5, 7, 8, 9, 17, 18, 19, 31, 32, 33, 34, 35, 36, 37, 38, 39, 40, 41, 42, 43, 44, 45, 46, 47, 48, 49, 50, 51, 52, 53, 54, 55, 56, 57, 58, 59, 60, 61, 62, 63, 64, 65, 66] (by decide +kernel) (by decide +kernel)
set_option maxRecDepth 20000 in
theorem gX8_stripItem_X8_more : GoodIn wsX8_stripItem (wsV RX8 140 RX8 yX8_more wsX8_more) := goodIn_app (goodIn_of _ (by decide +kernel)) ggX8_stripItem_X8_more
set_option maxRecDepth 20000 in
theorem ggX8_stripItem_X8_lives : GoodIn wsX8_stripItem wsX8_lives := goodIn_r _ [27, 28, 1, 29, 30, 31, 32, 33, 34, 35, 36, 37, 38, 39, 40, 41, 42, 43, 44, 45, 46, 47, 48, 49, 50, 51, 52, 53, 54, 55, 56, 57, 58, 59, 60, 61, 62, 63, 64, 65, 66] (by decide +kernel) (by decide +kernel)
set_option maxRecDepth 20000 in
theorem gX8_stripItem_X8_lives : GoodIn wsX8_stripItem (wsV RX8 81 RX8 yX8_lives wsX8_lives) := goodIn_app (goodIn_of _ (by decide +kernel)) ggX8_stripItem_X8_lives
theorem dX8_stripItem_0 : decode cX8_stripItem 0 = .ok (.aload_n 0, 1) := by decide +kernel
theorem dX8_stripItem_1 : decode cX8_stripItem 1 = .ok (.aload_n 0, 1) := by decide +kernel
theorem dX8_stripItem_2 : decode cX8_stripItem 2 = .ok (.getfield 95, 3) := by decide +kernel
theorem dX8_stripItem_5 : decode cX8_stripItem 5 = .ok (.bipush 7, 2) := by decide +kernel
theorem dX8_stripItem_7 : decode cX8_stripItem 7 = .ok (.if_icmp .ne 7, 3) := by decide +kernel
theorem dX8_stripItem_10 : decode cX8_stripItem 10 = .ok (.iconst 1, 1) := by decide +kernel
theorem dX8_stripItem_11 : decode cX8_stripItem 11 = .ok (.goto 4, 3) := by decide +kernel
theorem dX8_stripItem_14 : decode cX8_stripItem 14 = .ok (.iconst 0, 1) := by decide +kernel
theorem dX8_stripItem_15 : decode cX8_stripItem 15 = .ok (.putfield 132, 3) := by decide +kernel
theorem dX8_stripItem_18 : decode cX8_stripItem 18 = .ok (.aload_n 0, 1) := by decide +kernel
theorem dX8_stripItem_19 : decode cX8_stripItem 19 = .ok (.getfield 132, 3) := by decide +kernel
theorem dX8_stripItem_22 : decode cX8_stripItem 22 = .ok (.ifCond .eq 7, 3) := by decide +kernel
theorem dX8_stripItem_25 : decode cX8_stripItem 25 = .ok (.iconst 0, 1) := by decide +kernel
theorem dX8_stripItem_26 : decode cX8_stripItem 26 = .ok (.goto 9, 3) := by decide +kernel
theorem dX8_stripItem_29 : decode cX8_stripItem 29 = .ok (.aload_n 0, 1) := by decide +kernel
theorem dX8_stripItem_30 : decode cX8_stripItem 30 = .ok (.iconst 0, 1) := by decide +kernel
theorem dX8_stripItem_31 : decode cX8_stripItem 31 = .ok (.iconst 3, 1) := by decide +kernel
theorem dX8_stripItem_32 : decode cX8_stripItem 32 = .ok (.invokevirtual 136, 3) := by decide +kernel
theorem dX8_stripItem_35 : decode cX8_stripItem 35 = .ok (.istore_n 1, 1) := by decide +kernel
theorem dX8_stripItem_36 : decode cX8_stripItem 36 = .ok (.aload_n 0, 1) := by decide +kernel
theorem dX8_stripItem_37 : decode cX8_stripItem 37 = .ok (.iconst 0, 1) := by decide +kernel
theorem dX8_stripItem_38 : decode cX8_stripItem 38 = .ok (.bipush 60, 2) := by decide +kernel
theorem dX8_stripItem_40 : decode cX8_stripItem 40 = .ok (.invokevirtual 140, 3) := by decide +kernel
theorem dX8_stripItem_43 : decode cX8_stripItem 43 = .ok (.istore_n 2, 1) := by decide +kernel
theorem dX8_stripItem_44 : decode cX8_stripItem 44 = .ok (.aload_n 0, 1) := by decide +kernel
theorem dX8_stripItem_45 : decode cX8_stripItem 45 = .ok (.iconst 0, 1) := by decide +kernel
theorem dX8_stripItem_46 : decode cX8_stripItem 46 = .ok (.bipush 99, 2) := by decide +kernel
theorem dX8_stripItem_48 : decode cX8_stripItem 48 = .ok (.invokevirtual 140, 3) := by decide +kernel
theorem dX8_stripItem_51 : decode cX8_stripItem 51 = .ok (.istore_n 3, 1) := by decide +kernel
theorem dX8_stripItem_52 : decode cX8_stripItem 52 = .ok (.aload_n 0, 1) := by decide +kernel
theorem dX8_stripItem_53 : decode cX8_stripItem 53 = .ok (.getfield 132, 3) := by decide +kernel
theorem dX8_stripItem_56 : decode cX8_stripItem 56 = .ok (.ifCond .ne 10, 3) := by decide +kernel
theorem dX8_stripItem_59 : decode cX8_stripItem 59 = .ok (.aload_n 0, 1) := by decide +kernel
theorem dX8_stripItem_60 : decode cX8_stripItem 60 = .ok (.iload_n 1, 1) := by decide +kernel
theorem dX8_stripItem_61 : decode cX8_stripItem 61 = .ok (.iload_n 2, 1) := by decide +kernel
theorem dX8_stripItem_62 : decode cX8_stripItem 62 = .ok (.iload_n 3, 1) := by decide +kernel
theorem dX8_stripItem_63 : decode cX8_stripItem 63 = .ok (.invokevirtual 81, 3) := by decide +kernel
theorem dX8_stripItem_66 : decode cX8_stripItem 66 = .ok (.return_, 1) := by decide +kernel
set_option maxRecDepth 20000 in
theorem ggX8_landItem_X8_number : GoodIn wsX8_landItem wsX8_number := goodIn_r _ [7, 8, 9, 10, 2, 11, 12, 13, 6, 14, 15, 16, 17, 18, 19, 25, 26, 27, 28, 29, 30, 31, 32, 33, 34, 35, 36, 37, 38, 39, 40, 41, 42, 43, 44, 45, 46, 47, 48, 49, 50, 51, 52, 53, 54, 55, 56, 57, 58, 59, 60] (by decide +kernel) (by decide +kernel)
set_option maxRecDepth 20000 in
theorem gX8_landItem_X8_number : GoodIn wsX8_landItem (wsV RX8 136 RX8 yX8_number wsX8_number) := goodIn_app (goodIn_of _ (by decide +kernel)) ggX8_landItem_X8_number
set_option maxRecDepth 20000 in
theorem ggX8_landItem_X8_sits : GoodIn wsX8_landItem wsX8_sits := goodIn_r _ [23, 24, 1, 25, 26, 27, 28, 29, 30, 31, 32, 33, 34, 35, 36, 37, 38, 39, 40, 41, 42, 43, 44, 45, 46, 47, 48, 49, 50, 51, 52, 53, 54, 55, 56, 57, 58, 59, 60] (by decide +kernel) (by decide +kernel)
set_option maxRecDepth 20000 in
theorem gX8_landItem_X8_sits : GoodIn wsX8_landItem (wsV RX8 77 RX8 yX8_sits wsX8_sits) := goodIn_app (goodIn_of _ (by decide +kernel)) ggX8_landItem_X8_sits
theorem dX8_landItem_0 : decode cX8_landItem 0 = .ok (.aload_n 0, 1) := by decide +kernel
theorem dX8_landItem_1 : decode cX8_landItem 1 = .ok (.aload_n 0, 1) := by decide +kernel
theorem dX8_landItem_2 : decode cX8_landItem 2 = .ok (.getfield 28, 3) := by decide +kernel
theorem dX8_landItem_5 : decode cX8_landItem 5 = .ok (.iload_n 1, 1) := by decide +kernel
theorem dX8_landItem_6 : decode cX8_landItem 6 = .ok (.iaload, 1) := by decide +kernel
theorem dX8_landItem_7 : decode cX8_landItem 7 = .ok (.bipush 6, 2) := by decide +kernel
theorem dX8_landItem_9 : decode cX8_landItem 9 = .ok (.if_icmp .ne 7, 3) := by decide +kernel
theorem dX8_landItem_12 : decode cX8_landItem 12 = .ok (.iconst 1, 1) := by decide +kernel
theorem dX8_landItem_13 : decode cX8_landItem 13 = .ok (.goto 4, 3) := by decide +kernel
theorem dX8_landItem_16 : decode cX8_landItem 16 = .ok (.iconst 0, 1) := by decide +kernel
theorem dX8_landItem_17 : decode cX8_landItem 17 = .ok (.putfield 132, 3) := by decide +kernel
theorem dX8_landItem_20 : decode cX8_landItem 20 = .ok (.aload_n 0, 1) := by decide +kernel
theorem dX8_landItem_21 : decode cX8_landItem 21 = .ok (.getfield 132, 3) := by decide +kernel
theorem dX8_landItem_24 : decode cX8_landItem 24 = .ok (.ifCond .eq 7, 3) := by decide +kernel
theorem dX8_landItem_27 : decode cX8_landItem 27 = .ok (.iconst 0, 1) := by decide +kernel
theorem dX8_landItem_28 : decode cX8_landItem 28 = .ok (.goto 10, 3) := by decide +kernel
theorem dX8_landItem_31 : decode cX8_landItem 31 = .ok (.aload_n 0, 1) := by decide +kernel
theorem dX8_landItem_32 : decode cX8_landItem 32 = .ok (.iconst 0, 1) := by decide +kernel
theorem dX8_landItem_33 : decode cX8_landItem 33 = .ok (.bipush 60, 2) := by decide +kernel
theorem dX8_landItem_35 : decode cX8_landItem 35 = .ok (.invokevirtual 136, 3) := by decide +kernel
theorem dX8_landItem_38 : decode cX8_landItem 38 = .ok (.istore_n 2, 1) := by decide +kernel
theorem dX8_landItem_39 : decode cX8_landItem 39 = .ok (.aload_n 0, 1) := by decide +kernel
theorem dX8_landItem_40 : decode cX8_landItem 40 = .ok (.getfield 132, 3) := by decide +kernel
theorem dX8_landItem_43 : decode cX8_landItem 43 = .ok (.ifCond .ne 9, 3) := by decide +kernel
theorem dX8_landItem_46 : decode cX8_landItem 46 = .ok (.aload_n 0, 1) := by decide +kernel
theorem dX8_landItem_47 : decode cX8_landItem 47 = .ok (.iload_n 1, 1) := by decide +kernel
theorem dX8_landItem_48 : decode cX8_landItem 48 = .ok (.iload_n 2, 1) := by decide +kernel
theorem dX8_landItem_49 : decode cX8_landItem 49 = .ok (.invokevirtual 77, 3) := by decide +kernel
theorem dX8_landItem_52 : decode cX8_landItem 52 = .ok (.return_, 1) := by decide +kernel
set_option maxRecDepth 20000 in
theorem ggX8_item_X8_landItem : GoodIn wsX8_item wsX8_landItem := goodIn_r _ [10, 11, 2, 12, 13, 14, 9, 15, 16, 17, 18, 19, 20, 21, 22, 23, 24, 25, 26, 27, 28, 29, 30, 31, 32, 49, 50, 51, 52, 53, 54, 55, 56, 57, 58, 59, 60, 61, 62, 63, 64, 65, 66, 67, 68, 69, 70, 71, 72, 73, 74, 75, 76, 77, 78, 79, 80, 81, 82, 83, 84] (by decide +kernel) (by decide +kernel)
set_option maxRecDepth 20000 in
theorem gX8_item_X8_landItem : GoodIn wsX8_item (wsV RX8 143 RX8 yX8_landItem wsX8_landItem) := goodIn_app (goodIn_of _ (by decide +kernel)) ggX8_item_X8_landItem
set_option maxRecDepth 20000 in
theorem ggX8_item_X8_stripItem : GoodIn wsX8_item wsX8_stripItem := goodIn_r _ [36, 37, 2, 12, 13, 14, 9, 15, 16, 17, 18, 19, 20, 21, 22, 23, 24, 25, 26, 27, 38, 39, 40, 41, 42, 43, 44, 45, 46, 47, 48, 49, 50, 51, 52, 53, 54, 55, 56, 57, 58, 59, 60, 61, 62, 63, 64, 65, 66, 67, 68, 69, 70, 71, 72, 73, 74, 75, 76, 77, 78, 79, 80, 81, 82, 83, 84] (by decide +kernel) (by decide +kernel)
set_option maxRecDepth 20000 in
theorem gX8_item_X8_stripItem : GoodIn wsX8_item (wsV RX8 147 RX8 yX8_stripItem wsX8_stripItem) := goodIn_app (goodIn_of _ (by decide +kernel)) ggX8_item_X8_stripItem
set_option maxRecDepth 20000 in
theorem ggX8_item_X8_number : GoodIn wsX8_item wsX8_number := goodIn_r _ [15, 16, 17, 18, 2, 19, 20, 21, 9, 22, 23, 24, 25, 26, 27, 49, 50, 51, 52, 53, 54, 55, 56, 57, 58, 59, 60, 61, 62, 63, 64, 65, 66, 67, 68, 69, 70, 71, 72, 73, 74, 75, 76, 77, 78, 79, 80, 81, 82, 83, 84] (by decide +kernel) (by decide +kernel)
set_option maxRecDepth 20000 in
theorem gX8_item_X8_number : GoodIn wsX8_item (wsV RX8 136 RX8 yX8_number wsX8_number) := goodIn_app (goodIn_of _ (by decide +kernel)) ggX8_item_X8_number
theorem dX8_item_0 : decode cX8_item 0 = .ok (.iload_n 1, 1) := by decide +kernel
theorem dX8_item_1 : decode cX8_item 1 = .ok (.bipush 117, 2) := by decide +kernel
theorem dX8_item_3 : decode cX8_item 3 = .ok (.if_icmp .ne 11, 3) := by decide +kernel
theorem dX8_item_6 : decode cX8_item 6 = .ok (.aload_n 0, 1) := by decide +kernel
theorem dX8_item_7 : decode cX8_item 7 = .ok (.iconst 0, 1) := by decide +kernel
theorem dX8_item_8 : decode cX8_item 8 = .ok (.invokevirtual 143, 3) := by decide +kernel
theorem dX8_item_11 : decode cX8_item 11 = .ok (.goto 209, 3) := by decide +kernel
theorem dX8_item_14 : decode cX8_item 14 = .ok (.iload_n 1, 1) := by decide +kernel
theorem dX8_item_15 : decode cX8_item 15 = .ok (.bipush 108, 2) := by decide +kernel
theorem dX8_item_17 : decode cX8_item 17 = .ok (.if_icmp .ne 11, 3) := by decide +kernel
theorem dX8_item_20 : decode cX8_item 20 = .ok (.aload_n 0, 1) := by decide +kernel
theorem dX8_item_21 : decode cX8_item 21 = .ok (.iconst 1, 1) := by decide +kernel
theorem dX8_item_22 : decode cX8_item 22 = .ok (.invokevirtual 143, 3) := by decide +kernel
theorem dX8_item_25 : decode cX8_item 25 = .ok (.goto 195, 3) := by decide +kernel
theorem dX8_item_28 : decode cX8_item 28 = .ok (.iload_n 1, 1) := by decide +kernel
theorem dX8_item_29 : decode cX8_item 29 = .ok (.bipush 115, 2) := by decide +kernel
theorem dX8_item_31 : decode cX8_item 31 = .ok (.if_icmp .ne 10, 3) := by decide +kernel
theorem dX8_item_34 : decode cX8_item 34 = .ok (.aload_n 0, 1) := by decide +kernel
theorem dX8_item_35 : decode cX8_item 35 = .ok (.invokevirtual 147, 3) := by decide +kernel
theorem dX8_item_38 : decode cX8_item 38 = .ok (.goto 182, 3) := by decide +kernel
theorem dX8_item_41 : decode cX8_item 41 = .ok (.iload_n 1, 1) := by decide +kernel
theorem dX8_item_42 : decode cX8_item 42 = .ok (.bipush 112, 2) := by decide +kernel
theorem dX8_item_44 : decode cX8_item 44 = .ok (.if_icmp .ne 84, 3) := by decide +kernel
theorem dX8_item_47 : decode cX8_item 47 = .ok (.aload_n 0, 1) := by decide +kernel
theorem dX8_item_48 : decode cX8_item 48 = .ok (.aload_n 0, 1) := by decide +kernel
theorem dX8_item_49 : decode cX8_item 49 = .ok (.getfield 85, 3) := by decide +kernel
theorem dX8_item_52 : decode cX8_item 52 = .ok (.iconst 4, 1) := by decide +kernel
theorem dX8_item_53 : decode cX8_item 53 = .ok (.if_icmp .ne 7, 3) := by decide +kernel
theorem dX8_item_56 : decode cX8_item 56 = .ok (.iconst 1, 1) := by decide +kernel
theorem dX8_item_57 : decode cX8_item 57 = .ok (.goto 4, 3) := by decide +kernel
theorem dX8_item_60 : decode cX8_item 60 = .ok (.iconst 0, 1) := by decide +kernel
theorem dX8_item_61 : decode cX8_item 61 = .ok (.putfield 132, 3) := by decide +kernel
theorem dX8_item_64 : decode cX8_item 64 = .ok (.aload_n 0, 1) := by decide +kernel
theorem dX8_item_65 : decode cX8_item 65 = .ok (.getfield 132, 3) := by decide +kernel
theorem dX8_item_68 : decode cX8_item 68 = .ok (.ifCond .eq 7, 3) := by decide +kernel
theorem dX8_item_71 : decode cX8_item 71 = .ok (.iconst 0, 1) := by decide +kernel
theorem dX8_item_72 : decode cX8_item 72 = .ok (.goto 10, 3) := by decide +kernel
theorem dX8_item_75 : decode cX8_item 75 = .ok (.aload_n 0, 1) := by decide +kernel
theorem dX8_item_76 : decode cX8_item 76 = .ok (.iconst 1, 1) := by decide +kernel
theorem dX8_item_77 : decode cX8_item 77 = .ok (.bipush 20, 2) := by decide +kernel
theorem dX8_item_79 : decode cX8_item 79 = .ok (.invokevirtual 136, 3) := by decide +kernel
theorem dX8_item_82 : decode cX8_item 82 = .ok (.istore_n 2, 1) := by decide +kernel
theorem dX8_item_83 : decode cX8_item 83 = .ok (.aload_n 0, 1) := by decide +kernel
theorem dX8_item_84 : decode cX8_item 84 = .ok (.getfield 40, 3) := by decide +kernel
theorem dX8_item_87 : decode cX8_item 87 = .ok (.aload_n 0, 1) := by decide +kernel
theorem dX8_item_88 : decode cX8_item 88 = .ok (.getfield 132, 3) := by decide +kernel
theorem dX8_item_91 : decode cX8_item 91 = .ok (.ifCond .eq 7, 3) := by decide +kernel
theorem dX8_item_94 : decode cX8_item 94 = .ok (.iconst 0, 1) := by decide +kernel
theorem dX8_item_95 : decode cX8_item 95 = .ok (.goto 7, 3) := by decide +kernel
theorem dX8_item_98 : decode cX8_item 98 = .ok (.aload_n 0, 1) := by decide +kernel
theorem dX8_item_99 : decode cX8_item 99 = .ok (.getfield 85, 3) := by decide +kernel
theorem dX8_item_102 : decode cX8_item 102 = .ok (.iload_n 2, 1) := by decide +kernel
theorem dX8_item_103 : decode cX8_item 103 = .ok (.iastore, 1) := by decide +kernel
theorem dX8_item_104 : decode cX8_item 104 = .ok (.aload_n 0, 1) := by decide +kernel
theorem dX8_item_105 : decode cX8_item 105 = .ok (.dup, 1) := by decide +kernel
theorem dX8_item_106 : decode cX8_item 106 = .ok (.getfield 85, 3) := by decide +kernel
theorem dX8_item_109 : decode cX8_item 109 = .ok (.aload_n 0, 1) := by decide +kernel
theorem dX8_item_110 : decode cX8_item 110 = .ok (.getfield 132, 3) := by decide +kernel
theorem dX8_item_113 : decode cX8_item 113 = .ok (.ifCond .eq 7, 3) := by decide +kernel
theorem dX8_item_116 : decode cX8_item 116 = .ok (.iconst 0, 1) := by decide +kernel
theorem dX8_item_117 : decode cX8_item 117 = .ok (.goto 4, 3) := by decide +kernel
theorem dX8_item_120 : decode cX8_item 120 = .ok (.iconst 1, 1) := by decide +kernel
theorem dX8_item_121 : decode cX8_item 121 = .ok (.iadd, 1) := by decide +kernel
theorem dX8_item_122 : decode cX8_item 122 = .ok (.putfield 85, 3) := by decide +kernel
theorem dX8_item_125 : decode cX8_item 125 = .ok (.goto 95, 3) := by decide +kernel
theorem dX8_item_128 : decode cX8_item 128 = .ok (.iload_n 1, 1) := by decide +kernel
theorem dX8_item_129 : decode cX8_item 129 = .ok (.bipush 100, 2) := by decide +kernel
theorem dX8_item_131 : decode cX8_item 131 = .ok (.if_icmp .ne 84, 3) := by decide +kernel
theorem dX8_item_134 : decode cX8_item 134 = .ok (.aload_n 0, 1) := by decide +kernel
theorem dX8_item_135 : decode cX8_item 135 = .ok (.aload_n 0, 1) := by decide +kernel
theorem dX8_item_136 : decode cX8_item 136 = .ok (.getfield 89, 3) := by decide +kernel
theorem dX8_item_139 : decode cX8_item 139 = .ok (.bipush 8, 2) := by decide +kernel
theorem dX8_item_141 : decode cX8_item 141 = .ok (.if_icmp .ne 7, 3) := by decide +kernel
theorem dX8_item_144 : decode cX8_item 144 = .ok (.iconst 1, 1) := by decide +kernel
theorem dX8_item_145 : decode cX8_item 145 = .ok (.goto 4, 3) := by decide +kernel
theorem dX8_item_148 : decode cX8_item 148 = .ok (.iconst 0, 1) := by decide +kernel
theorem dX8_item_149 : decode cX8_item 149 = .ok (.putfield 132, 3) := by decide +kernel
theorem dX8_item_152 : decode cX8_item 152 = .ok (.aload_n 0, 1) := by decide +kernel
theorem dX8_item_153 : decode cX8_item 153 = .ok (.getfield 132, 3) := by decide +kernel
theorem dX8_item_156 : decode cX8_item 156 = .ok (.ifCond .eq 7, 3) := by decide +kernel
theorem dX8_item_159 : decode cX8_item 159 = .ok (.iconst 0, 1) := by decide +kernel
theorem dX8_item_160 : decode cX8_item 160 = .ok (.goto 9, 3) := by decide +kernel
theorem dX8_item_163 : decode cX8_item 163 = .ok (.aload_n 0, 1) := by decide +kernel
theorem dX8_item_164 : decode cX8_item 164 = .ok (.iconst 0, 1) := by decide +kernel
theorem dX8_item_165 : decode cX8_item 165 = .ok (.iconst 3, 1) := by decide +kernel
theorem dX8_item_166 : decode cX8_item 166 = .ok (.invokevirtual 136, 3) := by decide +kernel
theorem dX8_item_169 : decode cX8_item 169 = .ok (.istore_n 2, 1) := by decide +kernel
theorem dX8_item_170 : decode cX8_item 170 = .ok (.aload_n 0, 1) := by decide +kernel
theorem dX8_item_171 : decode cX8_item 171 = .ok (.getfield 43, 3) := by decide +kernel
theorem dX8_item_174 : decode cX8_item 174 = .ok (.aload_n 0, 1) := by decide +kernel
theorem dX8_item_175 : decode cX8_item 175 = .ok (.getfield 132, 3) := by decide +kernel
theorem dX8_item_178 : decode cX8_item 178 = .ok (.ifCond .eq 7, 3) := by decide +kernel
theorem dX8_item_181 : decode cX8_item 181 = .ok (.iconst 0, 1) := by decide +kernel
theorem dX8_item_182 : decode cX8_item 182 = .ok (.goto 7, 3) := by decide +kernel
theorem dX8_item_185 : decode cX8_item 185 = .ok (.aload_n 0, 1) := by decide +kernel
theorem dX8_item_186 : decode cX8_item 186 = .ok (.getfield 89, 3) := by decide +kernel
theorem dX8_item_189 : decode cX8_item 189 = .ok (.iload_n 2, 1) := by decide +kernel
theorem dX8_item_190 : decode cX8_item 190 = .ok (.iastore, 1) := by decide +kernel
theorem dX8_item_191 : decode cX8_item 191 = .ok (.aload_n 0, 1) := by decide +kernel
theorem dX8_item_192 : decode cX8_item 192 = .ok (.dup, 1) := by decide +kernel
theorem dX8_item_193 : decode cX8_item 193 = .ok (.getfield 89, 3) := by decide +kernel
theorem dX8_item_196 : decode cX8_item 196 = .ok (.aload_n 0, 1) := by decide +kernel
theorem dX8_item_197 : decode cX8_item 197 = .ok (.getfield 132, 3) := by decide +kernel
theorem dX8_item_200 : decode cX8_item 200 = .ok (.ifCond .eq 7, 3) := by decide +kernel
theorem dX8_item_203 : decode cX8_item 203 = .ok (.iconst 0, 1) := by decide +kernel
theorem dX8_item_204 : decode cX8_item 204 = .ok (.goto 4, 3) := by decide +kernel
theorem dX8_item_207 : decode cX8_item 207 = .ok (.iconst 1, 1) := by decide +kernel
theorem dX8_item_208 : decode cX8_item 208 = .ok (.iadd, 1) := by decide +kernel
theorem dX8_item_209 : decode cX8_item 209 = .ok (.putfield 89, 3) := by decide +kernel
theorem dX8_item_212 : decode cX8_item 212 = .ok (.goto 8, 3) := by decide +kernel
theorem dX8_item_215 : decode cX8_item 215 = .ok (.aload_n 0, 1) := by decide +kernel
theorem dX8_item_216 : decode cX8_item 216 = .ok (.iconst 1, 1) := by decide +kernel
theorem dX8_item_217 : decode cX8_item 217 = .ok (.putfield 132, 3) := by decide +kernel
theorem dX8_item_220 : decode cX8_item 220 = .ok (.return_, 1) := by decide +kernel
set_option maxRecDepth 20000 in
theorem ggX8_reads_X8_clears : GoodIn wsX8_reads wsX8_clears := goodIn_r _ [9, 10, 11, 12, 13, 14, 15, 58, 59, 60, 61, 62, 63, 64, 65, 66, 67, 68, 69, 70, 71, 72, 73, 74, 75, 76, 77, 78, 79, 80, 81, 82, 83, 84, 85, 86, 87, 88, 89, 90, 91, 92, 93] (by decide +kernel) (by decide +kernel)
set_option maxRecDepth 20000 in
theorem gX8_reads_X8_clears : GoodIn wsX8_reads (wsV RX8 74 RX8 yX8_clears wsX8_clears) := goodIn_app (goodIn_of _ (by decide +kernel)) ggX8_reads_X8_clears
set_option maxRecDepth 20000 in
theorem ggX8_reads_X8_next : GoodIn wsX8_reads wsX8_next := goodIn_r _ [19, 1, 3, 20, 58, 59, 60, 61, 62, 63, 64, 65, 66, 67, 68, 69, 70, 71, 72, 73, 74, 75, 76, 77, 78, 79, 80, 81, 82, 83, 84, 85, 86, 87, 88, 89, 90, 91, 92, 93] (by decide +kernel) (by decide +kernel)
set_option maxRecDepth 20000 in
theorem gX8_reads_X8_next : GoodIn wsX8_reads (wsV RX8 124 RX8 yX8_next wsX8_next) := goodIn_app (goodIn_of _ (by decide +kernel)) ggX8_reads_X8_next
set_option maxRecDepth 20000 in
theorem ggX8_reads_X8_item : GoodIn wsX8_reads wsX8_item := goodIn_r _ [24, 12, 2, 25, 13, 14, 26, 27, 28, 8, 29, 10, 30, 31, 32, 33, 34, 35, 1, 16, 17, 18, 19, 3, 20, 36, 37, 38, 39, 40, 41, 42, 43, 44, 45, 46, 47, 11, 48, 49, 50, 51, 52, 53, 54, 55, 56, 57, 15, 58, 59, 60, 61, 62, 63, 64, 65, 66, 67, 68, 69, 70, 71, 72, 73, 74, 75, 76, 77, 78, 79, 80, 81, 82, 83, 84, 85, 86, 87, 88, 89, 90, 91, 92, 93] (by decide +kernel) (by decide +kernel)
set_option maxRecDepth 20000 in
theorem gX8_reads_X8_item : GoodIn wsX8_reads (wsV RX8 153 RX8 yX8_item wsX8_item) := goodIn_app (goodIn_of _ (by decide +kernel)) ggX8_reads_X8_item
theorem dX8_reads_0 : decode cX8_reads 0 = .ok (.aload_n 0, 1) := by decide +kernel
theorem dX8_reads_1 : decode cX8_reads 1 = .ok (.invokevirtual 74, 3) := by decide +kernel
theorem dX8_reads_4 : decode cX8_reads 4 = .ok (.aload_n 0, 1) := by decide +kernel
theorem dX8_reads_5 : decode cX8_reads 5 = .ok (.iconst 0, 1) := by decide +kernel
theorem dX8_reads_6 : decode cX8_reads 6 = .ok (.putfield 121, 3) := by decide +kernel
theorem dX8_reads_9 : decode cX8_reads 9 = .ok (.aload_n 0, 1) := by decide +kernel
theorem dX8_reads_10 : decode cX8_reads 10 = .ok (.iconst 0, 1) := by decide +kernel
theorem dX8_reads_11 : decode cX8_reads 11 = .ok (.putfield 132, 3) := by decide +kernel
theorem dX8_reads_14 : decode cX8_reads 14 = .ok (.aload_n 0, 1) := by decide +kernel
theorem dX8_reads_15 : decode cX8_reads 15 = .ok (.getfield 121, 3) := by decide +kernel
theorem dX8_reads_18 : decode cX8_reads 18 = .ok (.aload_n 0, 1) := by decide +kernel
theorem dX8_reads_19 : decode cX8_reads 19 = .ok (.getfield 118, 3) := by decide +kernel
theorem dX8_reads_22 : decode cX8_reads 22 = .ok (.if_icmp .ge 76, 3) := by decide +kernel
theorem dX8_reads_25 : decode cX8_reads 25 = .ok (.aload_n 0, 1) := by decide +kernel
theorem dX8_reads_26 : decode cX8_reads 26 = .ok (.getfield 132, 3) := by decide +kernel
theorem dX8_reads_29 : decode cX8_reads 29 = .ok (.ifCond .ne 69, 3) := by decide +kernel
theorem dX8_reads_32 : decode cX8_reads 32 = .ok (.aload_n 0, 1) := by decide +kernel
theorem dX8_reads_33 : decode cX8_reads 33 = .ok (.aload_n 0, 1) := by decide +kernel
theorem dX8_reads_34 : decode cX8_reads 34 = .ok (.getfield 121, 3) := by decide +kernel
theorem dX8_reads_37 : decode cX8_reads 37 = .ok (.putfield 150, 3) := by decide +kernel
theorem dX8_reads_40 : decode cX8_reads 40 = .ok (.aload_n 0, 1) := by decide +kernel
theorem dX8_reads_41 : decode cX8_reads 41 = .ok (.invokevirtual 124, 3) := by decide +kernel
theorem dX8_reads_44 : decode cX8_reads 44 = .ok (.istore_n 1, 1) := by decide +kernel
theorem dX8_reads_45 : decode cX8_reads 45 = .ok (.aload_n 0, 1) := by decide +kernel
theorem dX8_reads_46 : decode cX8_reads 46 = .ok (.dup, 1) := by decide +kernel
theorem dX8_reads_47 : decode cX8_reads 47 = .ok (.getfield 121, 3) := by decide +kernel
theorem dX8_reads_50 : decode cX8_reads 50 = .ok (.iconst 1, 1) := by decide +kernel
theorem dX8_reads_51 : decode cX8_reads 51 = .ok (.iadd, 1) := by decide +kernel
theorem dX8_reads_52 : decode cX8_reads 52 = .ok (.putfield 121, 3) := by decide +kernel
theorem dX8_reads_55 : decode cX8_reads 55 = .ok (.aload_n 0, 1) := by decide +kernel
theorem dX8_reads_56 : decode cX8_reads 56 = .ok (.iload_n 1, 1) := by decide +kernel
theorem dX8_reads_57 : decode cX8_reads 57 = .ok (.invokevirtual 153, 3) := by decide +kernel
theorem dX8_reads_60 : decode cX8_reads 60 = .ok (.aload_n 0, 1) := by decide +kernel
theorem dX8_reads_61 : decode cX8_reads 61 = .ok (.aload_n 0, 1) := by decide +kernel
theorem dX8_reads_62 : decode cX8_reads 62 = .ok (.getfield 132, 3) := by decide +kernel
theorem dX8_reads_65 : decode cX8_reads 65 = .ok (.ifCond .ne 12, 3) := by decide +kernel
theorem dX8_reads_68 : decode cX8_reads 68 = .ok (.aload_n 0, 1) := by decide +kernel
theorem dX8_reads_69 : decode cX8_reads 69 = .ok (.invokevirtual 124, 3) := by decide +kernel
theorem dX8_reads_72 : decode cX8_reads 72 = .ok (.bipush 59, 2) := by decide +kernel
theorem dX8_reads_74 : decode cX8_reads 74 = .ok (.if_icmp .eq 7, 3) := by decide +kernel
theorem dX8_reads_77 : decode cX8_reads 77 = .ok (.iconst 1, 1) := by decide +kernel
theorem dX8_reads_78 : decode cX8_reads 78 = .ok (.goto 4, 3) := by decide +kernel
theorem dX8_reads_81 : decode cX8_reads 81 = .ok (.iconst 0, 1) := by decide +kernel
theorem dX8_reads_82 : decode cX8_reads 82 = .ok (.putfield 132, 3) := by decide +kernel
theorem dX8_reads_85 : decode cX8_reads 85 = .ok (.aload_n 0, 1) := by decide +kernel
theorem dX8_reads_86 : decode cX8_reads 86 = .ok (.dup, 1) := by decide +kernel
theorem dX8_reads_87 : decode cX8_reads 87 = .ok (.getfield 121, 3) := by decide +kernel
theorem dX8_reads_90 : decode cX8_reads 90 = .ok (.iconst 1, 1) := by decide +kernel
theorem dX8_reads_91 : decode cX8_reads 91 = .ok (.iadd, 1) := by decide +kernel
theorem dX8_reads_92 : decode cX8_reads 92 = .ok (.putfield 121, 3) := by decide +kernel
theorem dX8_reads_95 : decode cX8_reads 95 = .ok (.goto (-81), 3) := by decide +kernel
theorem dX8_reads_98 : decode cX8_reads 98 = .ok (.aload_n 0, 1) := by decide +kernel
theorem dX8_reads_99 : decode cX8_reads 99 = .ok (.getfield 132, 3) := by decide +kernel
theorem dX8_reads_102 : decode cX8_reads 102 = .ok (.ifCond .ne 7, 3) := by decide +kernel
theorem dX8_reads_105 : decode cX8_reads 105 = .ok (.iconst 1, 1) := by decide +kernel
theorem dX8_reads_106 : decode cX8_reads 106 = .ok (.goto 4, 3) := by decide +kernel
theorem dX8_reads_109 : decode cX8_reads 109 = .ok (.iconst 0, 1) := by decide +kernel
theorem dX8_reads_110 : decode cX8_reads 110 = .ok (.ireturn, 1) := by decide +kernel
set_option maxRecDepth 20000 in
theorem ggX8_fault_X8_reads : GoodIn wsX8_fault wsX8_reads := goodIn_r _ [6, 7, 8, 9, 1, 10, 11, 12, 5, 13, 14, 15, 16, 17, 18, 19, 20, 21, 22, 23, 24, 25, 26, 27, 28, 29, 30, 31, 32, 33, 34, 35, 36, 37, 38, 39, 40, 41, 42, 43, 44, 45, 46, 47, 48, 49, 50, 51, 52, 53, 54, 55, 56, 57, 58, 59, 60, 61, 62, 63, 64, 65, 66, 67, 68, 69, 70, 71, 72, 73, 74, 75, 76, 77, 78, 79, 80, 81, 82, 83, 84, 85, 86, 87, 88, 89, 90, 91, 92, 93, 94, 95, 96, 97] (by decide +kernel) (by decide +kernel)
set_option maxRecDepth 20000 in
theorem gX8_fault_X8_reads : GoodIn wsX8_fault (wsV RX8 156 RX8 yX8_reads wsX8_reads) := goodIn_app (goodIn_of _ (by decide +kernel)) ggX8_fault_X8_reads
theorem dX8_fault_0 : decode cX8_fault 0 = .ok (.aload_n 0, 1) := by decide +kernel
theorem dX8_fault_1 : decode cX8_fault 1 = .ok (.invokevirtual 156, 3) := by decide +kernel
theorem dX8_fault_4 : decode cX8_fault 4 = .ok (.ifCond .eq 8, 3) := by decide +kernel
theorem dX8_fault_7 : decode cX8_fault 7 = .ok (.bipush (-4), 2) := by decide +kernel
theorem dX8_fault_9 : decode cX8_fault 9 = .ok (.goto 7, 3) := by decide +kernel
theorem dX8_fault_12 : decode cX8_fault 12 = .ok (.aload_n 0, 1) := by decide +kernel
theorem dX8_fault_13 : decode cX8_fault 13 = .ok (.getfield 150, 3) := by decide +kernel
theorem dX8_fault_16 : decode cX8_fault 16 = .ok (.ireturn, 1) := by decide +kernel
set_option maxRecDepth 20000 in
theorem ggX8_lay_X8_reads : GoodIn wsX8_lay wsX8_reads := goodIn_r _ [11, 12, 13, 14, 15, 16, 17, 18, 10, 19, 20, 1, 2, 21, 22, 23, 24, 25, 26, 27, 28, 29, 30, 31, 32, 33, 34, 35, 36, 37, 38, 39, 40, 41, 42, 43, 44, 45, 46, 47, 48, 49, 50, 51, 52, 53, 54, 55, 56, 57, 58, 59, 60, 61, 62, 63, 64, 65, 82, 83, 84, 85, 86, 87, 88, 89, 90, 91, 92, 93, 94, 95, 96, 97, 98, 99, 100, 101, 102, 103, 104, 105, 106, 107, 108, 109, 110, 111, 112, 113, 114, 115, 116, 117] (by decide +kernel) (by decide +kernel)
set_option maxRecDepth 20000 in
theorem gX8_lay_X8_reads : GoodIn wsX8_lay (wsV RX8 156 RX8 yX8_reads wsX8_reads) := goodIn_app (goodIn_of _ (by decide +kernel)) ggX8_lay_X8_reads
set_option maxRecDepth 20000 in
theorem ggX8_lay_X8_settles : GoodIn wsX8_lay wsX8_settles := goodIn_r _ [69, 70, 20, 1, 6, 2, 71, 21, 72, 73, 51, 74, 64, 75, 65, 76, 33, 77, 22, 78, 79, 80, 10, 81, 23, 82, 83, 84, 85, 86, 87, 88, 89, 90, 91, 92, 93, 94, 95, 96, 97, 98, 99, 100, 101, 102, 103, 104, 105, 106, 107, 108, 109, 110, 111, 112, 113, 114, 115, 116, 117] (by decide +kernel) (by decide +kernel)
set_option maxRecDepth 20000 in
theorem gX8_lay_X8_settles : GoodIn wsX8_lay (wsV RX8 92 RX8 yX8_settles wsX8_settles) := goodIn_app (goodIn_of _ (by decide +kernel)) ggX8_lay_X8_settles
theorem dX8_lay_0 : decode cX8_lay 0 = .ok (.aload_n 0, 1) := by decide +kernel
theorem dX8_lay_1 : decode cX8_lay 1 = .ok (.invokevirtual 156, 3) := by decide +kernel
theorem dX8_lay_4 : decode cX8_lay 4 = .ok (.ifCond .eq 17, 3) := by decide +kernel
theorem dX8_lay_7 : decode cX8_lay 7 = .ok (.aload_n 0, 1) := by decide +kernel
theorem dX8_lay_8 : decode cX8_lay 8 = .ok (.getfield 95, 3) := by decide +kernel
theorem dX8_lay_11 : decode cX8_lay 11 = .ok (.ifCond .eq 10, 3) := by decide +kernel
theorem dX8_lay_14 : decode cX8_lay 14 = .ok (.aload_n 0, 1) := by decide +kernel
theorem dX8_lay_15 : decode cX8_lay 15 = .ok (.getfield 85, 3) := by decide +kernel
theorem dX8_lay_18 : decode cX8_lay 18 = .ok (.ifCond .ne 6, 3) := by decide +kernel
theorem dX8_lay_21 : decode cX8_lay 21 = .ok (.bipush (-2), 2) := by decide +kernel
theorem dX8_lay_23 : decode cX8_lay 23 = .ok (.ireturn, 1) := by decide +kernel
theorem dX8_lay_24 : decode cX8_lay 24 = .ok (.aload_n 0, 1) := by decide +kernel
theorem dX8_lay_25 : decode cX8_lay 25 = .ok (.invokevirtual 92, 3) := by decide +kernel
theorem dX8_lay_28 : decode cX8_lay 28 = .ok (.aload_n 0, 1) := by decide +kernel
theorem dX8_lay_29 : decode cX8_lay 29 = .ok (.iconst 0, 1) := by decide +kernel
theorem dX8_lay_30 : decode cX8_lay 30 = .ok (.putfield 160, 3) := by decide +kernel
theorem dX8_lay_33 : decode cX8_lay 33 = .ok (.aload_n 0, 1) := by decide +kernel
theorem dX8_lay_34 : decode cX8_lay 34 = .ok (.iconst 0, 1) := by decide +kernel
theorem dX8_lay_35 : decode cX8_lay 35 = .ok (.putfield 163, 3) := by decide +kernel
theorem dX8_lay_38 : decode cX8_lay 38 = .ok (.aload_n 0, 1) := by decide +kernel
theorem dX8_lay_39 : decode cX8_lay 39 = .ok (.iconst 0, 1) := by decide +kernel
theorem dX8_lay_40 : decode cX8_lay 40 = .ok (.putfield 166, 3) := by decide +kernel
theorem dX8_lay_43 : decode cX8_lay 43 = .ok (.aload_n 0, 1) := by decide +kernel
theorem dX8_lay_44 : decode cX8_lay 44 = .ok (.getfield 98, 3) := by decide +kernel
theorem dX8_lay_47 : decode cX8_lay 47 = .ok (.ireturn, 1) := by decide +kernel
theorem dX8_dampOf_0 : decode cX8_dampOf 0 = .ok (.aload_n 0, 1) := by decide +kernel
theorem dX8_dampOf_1 : decode cX8_dampOf 1 = .ok (.getfield 104, 3) := by decide +kernel
theorem dX8_dampOf_4 : decode cX8_dampOf 4 = .ok (.ifCond .ne 7, 3) := by decide +kernel
theorem dX8_dampOf_7 : decode cX8_dampOf 7 = .ok (.iconst 0, 1) := by decide +kernel
theorem dX8_dampOf_8 : decode cX8_dampOf 8 = .ok (.goto 14, 3) := by decide +kernel
theorem dX8_dampOf_11 : decode cX8_dampOf 11 = .ok (.aload_n 0, 1) := by decide +kernel
theorem dX8_dampOf_12 : decode cX8_dampOf 12 = .ok (.getfield 25, 3) := by decide +kernel
theorem dX8_dampOf_15 : decode cX8_dampOf 15 = .ok (.iload_n 1, 1) := by decide +kernel
theorem dX8_dampOf_16 : decode cX8_dampOf 16 = .ok (.aload_n 0, 1) := by decide +kernel
theorem dX8_dampOf_17 : decode cX8_dampOf 17 = .ok (.getfield 104, 3) := by decide +kernel
theorem dX8_dampOf_20 : decode cX8_dampOf 20 = .ok (.irem, 1) := by decide +kernel
theorem dX8_dampOf_21 : decode cX8_dampOf 21 = .ok (.iaload, 1) := by decide +kernel
theorem dX8_dampOf_22 : decode cX8_dampOf 22 = .ok (.ireturn, 1) := by decide +kernel
theorem dX8_placeBy_0 : decode cX8_placeBy 0 = .ok (.aload_n 0, 1) := by decide +kernel
theorem dX8_placeBy_1 : decode cX8_placeBy 1 = .ok (.getfield 19, 3) := by decide +kernel
theorem dX8_placeBy_4 : decode cX8_placeBy 4 = .ok (.iload_n 1, 1) := by decide +kernel
theorem dX8_placeBy_5 : decode cX8_placeBy 5 = .ok (.iaload, 1) := by decide +kernel
theorem dX8_placeBy_6 : decode cX8_placeBy 6 = .ok (.aload_n 0, 1) := by decide +kernel
theorem dX8_placeBy_7 : decode cX8_placeBy 7 = .ok (.getfield 19, 3) := by decide +kernel
theorem dX8_placeBy_10 : decode cX8_placeBy 10 = .ok (.iload_n 1, 1) := by decide +kernel
theorem dX8_placeBy_11 : decode cX8_placeBy 11 = .ok (.iaload, 1) := by decide +kernel
theorem dX8_placeBy_12 : decode cX8_placeBy 12 = .ok (.iload 4, 2) := by decide +kernel
theorem dX8_placeBy_14 : decode cX8_placeBy 14 = .ok (.imul, 1) := by decide +kernel
theorem dX8_placeBy_15 : decode cX8_placeBy 15 = .ok (.bipush 10, 2) := by decide +kernel
theorem dX8_placeBy_17 : decode cX8_placeBy 17 = .ok (.idiv, 1) := by decide +kernel
theorem dX8_placeBy_18 : decode cX8_placeBy 18 = .ok (.iadd, 1) := by decide +kernel
theorem dX8_placeBy_19 : decode cX8_placeBy 19 = .ok (.aload_n 0, 1) := by decide +kernel
theorem dX8_placeBy_20 : decode cX8_placeBy 20 = .ok (.getfield 16, 3) := by decide +kernel
theorem dX8_placeBy_23 : decode cX8_placeBy 23 = .ok (.iload_n 1, 1) := by decide +kernel
theorem dX8_placeBy_24 : decode cX8_placeBy 24 = .ok (.iaload, 1) := by decide +kernel
theorem dX8_placeBy_25 : decode cX8_placeBy 25 = .ok (.iconst 3, 1) := by decide +kernel
theorem dX8_placeBy_26 : decode cX8_placeBy 26 = .ok (.if_icmp .ne 7, 3) := by decide +kernel
theorem dX8_placeBy_29 : decode cX8_placeBy 29 = .ok (.iload_n 3, 1) := by decide +kernel
theorem dX8_placeBy_30 : decode cX8_placeBy 30 = .ok (.goto 4, 3) := by decide +kernel
theorem dX8_placeBy_33 : decode cX8_placeBy 33 = .ok (.iload_n 2, 1) := by decide +kernel
theorem dX8_placeBy_34 : decode cX8_placeBy 34 = .ok (.iadd, 1) := by decide +kernel
theorem dX8_placeBy_35 : decode cX8_placeBy 35 = .ok (.ireturn, 1) := by decide +kernel
theorem dX8_isAgainst_0 : decode cX8_isAgainst 0 = .ok (.iload_n 1, 1) := by decide +kernel
theorem dX8_isAgainst_1 : decode cX8_isAgainst 1 = .ok (.ifCond .eq 28, 3) := by decide +kernel
theorem dX8_isAgainst_4 : decode cX8_isAgainst 4 = .ok (.iload_n 0, 1) := by decide +kernel
theorem dX8_isAgainst_5 : decode cX8_isAgainst 5 = .ok (.iconst 1, 1) := by decide +kernel
theorem dX8_isAgainst_6 : decode cX8_isAgainst 6 = .ok (.if_icmp .ne 13, 3) := by decide +kernel
theorem dX8_isAgainst_9 : decode cX8_isAgainst 9 = .ok (.iload_n 1, 1) := by decide +kernel
theorem dX8_isAgainst_10 : decode cX8_isAgainst 10 = .ok (.iconst 1, 1) := by decide +kernel
theorem dX8_isAgainst_11 : decode cX8_isAgainst 11 = .ok (.if_icmp .eq 18, 3) := by decide +kernel
theorem dX8_isAgainst_14 : decode cX8_isAgainst 14 = .ok (.iload_n 1, 1) := by decide +kernel
theorem dX8_isAgainst_15 : decode cX8_isAgainst 15 = .ok (.iconst (-1), 1) := by decide +kernel
theorem dX8_isAgainst_16 : decode cX8_isAgainst 16 = .ok (.if_icmp .eq 13, 3) := by decide +kernel
theorem dX8_isAgainst_19 : decode cX8_isAgainst 19 = .ok (.iload_n 0, 1) := by decide +kernel
theorem dX8_isAgainst_20 : decode cX8_isAgainst 20 = .ok (.iconst 2, 1) := by decide +kernel
theorem dX8_isAgainst_21 : decode cX8_isAgainst 21 = .ok (.if_icmp .ne 12, 3) := by decide +kernel
theorem dX8_isAgainst_24 : decode cX8_isAgainst 24 = .ok (.iload_n 1, 1) := by decide +kernel
theorem dX8_isAgainst_25 : decode cX8_isAgainst 25 = .ok (.iconst 2, 1) := by decide +kernel
theorem dX8_isAgainst_26 : decode cX8_isAgainst 26 = .ok (.if_icmp .ne 7, 3) := by decide +kernel
theorem dX8_isAgainst_29 : decode cX8_isAgainst 29 = .ok (.iconst 1, 1) := by decide +kernel
theorem dX8_isAgainst_30 : decode cX8_isAgainst 30 = .ok (.goto 4, 3) := by decide +kernel
theorem dX8_isAgainst_33 : decode cX8_isAgainst 33 = .ok (.iconst 0, 1) := by decide +kernel
theorem dX8_isAgainst_34 : decode cX8_isAgainst 34 = .ok (.ireturn, 1) := by decide +kernel
set_option maxRecDepth 20000 in
theorem ggX8_meets_X8_placeBy : GoodIn wsX8_meets wsX8_placeBy := goodIn_r _ [7, 8, 1, 12, 13, 14, 15, 16, 17, 18, 19, 20, 21, 22, 23, 24, 25, 26, 27, 28, 29, 30, 31, 32, 33, 34, 35, 36, 37, 38, 39, 40, 41, 42, 43, 44, 45, 46, 47] (by decide +kernel) (by decide +kernel)
set_option maxRecDepth 20000 in
theorem gX8_meets_X8_placeBy : GoodIn wsX8_meets (wsV RX8 169 RX8 yX8_placeBy wsX8_placeBy) := goodIn_app (goodIn_of _ (by decide +kernel)) ggX8_meets_X8_placeBy
set_option maxRecDepth 20000 in
theorem ggX8_meets_X8_isAgainst : GoodIn wsX8_meets wsX8_isAgainst := goodIn_r _ [11] (by decide +kernel) (by decide +kernel)
set_option maxRecDepth 20000 in
theorem gX8_meets_X8_isAgainst : GoodIn wsX8_meets (va_wsS RX8 173 yX8_isAgainst wsX8_isAgainst) := goodIn_app (goodIn_of _ (by decide +kernel)) ggX8_meets_X8_isAgainst
theorem dX8_meets_0 : decode cX8_meets 0 = .ok (.aload_n 0, 1) := by decide +kernel
theorem dX8_meets_1 : decode cX8_meets 1 = .ok (.getfield 16, 3) := by decide +kernel
theorem dX8_meets_4 : decode cX8_meets 4 = .ok (.iload_n 1, 1) := by decide +kernel
theorem dX8_meets_5 : decode cX8_meets 5 = .ok (.iaload, 1) := by decide +kernel
theorem dX8_meets_6 : decode cX8_meets 6 = .ok (.aload_n 0, 1) := by decide +kernel
theorem dX8_meets_7 : decode cX8_meets 7 = .ok (.iload_n 1, 1) := by decide +kernel
theorem dX8_meets_8 : decode cX8_meets 8 = .ok (.iload 4, 2) := by decide +kernel
theorem dX8_meets_10 : decode cX8_meets 10 = .ok (.iload 5, 2) := by decide +kernel
theorem dX8_meets_12 : decode cX8_meets 12 = .ok (.iload 6, 2) := by decide +kernel
theorem dX8_meets_14 : decode cX8_meets 14 = .ok (.invokevirtual 169, 3) := by decide +kernel
theorem dX8_meets_17 : decode cX8_meets 17 = .ok (.aload_n 0, 1) := by decide +kernel
theorem dX8_meets_18 : decode cX8_meets 18 = .ok (.getfield 13, 3) := by decide +kernel
theorem dX8_meets_21 : decode cX8_meets 21 = .ok (.bipush 6, 2) := by decide +kernel
theorem dX8_meets_23 : decode cX8_meets 23 = .ok (.iload_n 2, 1) := by decide +kernel
theorem dX8_meets_24 : decode cX8_meets 24 = .ok (.imul, 1) := by decide +kernel
theorem dX8_meets_25 : decode cX8_meets 25 = .ok (.iload_n 3, 1) := by decide +kernel
theorem dX8_meets_26 : decode cX8_meets 26 = .ok (.iadd, 1) := by decide +kernel
theorem dX8_meets_27 : decode cX8_meets 27 = .ok (.iaload, 1) := by decide +kernel
theorem dX8_meets_28 : decode cX8_meets 28 = .ok (.isub, 1) := by decide +kernel
theorem dX8_meets_29 : decode cX8_meets 29 = .ok (.invokestatic 173, 3) := by decide +kernel
theorem dX8_meets_32 : decode cX8_meets 32 = .ok (.ireturn, 1) := by decide +kernel
set_option maxRecDepth 20000 in
theorem ggX8_againstBy_X8_meets : GoodIn wsX8_againstBy wsX8_meets := goodIn_r _ [6, 7, 8, 9, 10, 11, 5, 12, 13, 14, 15, 16, 17, 18, 19, 20, 21, 22, 23, 24, 25, 26, 27, 28, 29, 30, 31, 32, 33, 34, 35, 36, 37, 38, 39, 40, 41, 42, 43, 44, 45, 46, 47, 48, 49, 50, 51, 52] (by decide +kernel) (by decide +kernel)
set_option maxRecDepth 20000 in
theorem gX8_againstBy_X8_meets : GoodIn wsX8_againstBy (wsV RX8 177 RX8 yX8_meets wsX8_meets) := goodIn_app (goodIn_of _ (by decide +kernel)) ggX8_againstBy_X8_meets
theorem dX8_againstBy_0 : decode cX8_againstBy 0 = .ok (.iconst 0, 1) := by decide +kernel
theorem dX8_againstBy_1 : decode cX8_againstBy 1 = .ok (.istore 5, 2) := by decide +kernel
theorem dX8_againstBy_3 : decode cX8_againstBy 3 = .ok (.iconst 0, 1) := by decide +kernel
theorem dX8_againstBy_4 : decode cX8_againstBy 4 = .ok (.istore 6, 2) := by decide +kernel
theorem dX8_againstBy_6 : decode cX8_againstBy 6 = .ok (.iload 6, 2) := by decide +kernel
theorem dX8_againstBy_8 : decode cX8_againstBy 8 = .ok (.bipush 12, 2) := by decide +kernel
theorem dX8_againstBy_10 : decode cX8_againstBy 10 = .ok (.if_icmp .ge 62, 3) := by decide +kernel
theorem dX8_againstBy_13 : decode cX8_againstBy 13 = .ok (.iload 5, 2) := by decide +kernel
theorem dX8_againstBy_15 : decode cX8_againstBy 15 = .ok (.iload 6, 2) := by decide +kernel
theorem dX8_againstBy_17 : decode cX8_againstBy 17 = .ok (.bipush 6, 2) := by decide +kernel
theorem dX8_againstBy_19 : decode cX8_againstBy 19 = .ok (.irem, 1) := by decide +kernel
theorem dX8_againstBy_20 : decode cX8_againstBy 20 = .ok (.aload_n 0, 1) := by decide +kernel
theorem dX8_againstBy_21 : decode cX8_againstBy 21 = .ok (.getfield 7, 3) := by decide +kernel
theorem dX8_againstBy_24 : decode cX8_againstBy 24 = .ok (.iload 6, 2) := by decide +kernel
theorem dX8_againstBy_26 : decode cX8_againstBy 26 = .ok (.bipush 6, 2) := by decide +kernel
theorem dX8_againstBy_28 : decode cX8_againstBy 28 = .ok (.idiv, 1) := by decide +kernel
theorem dX8_againstBy_29 : decode cX8_againstBy 29 = .ok (.iaload, 1) := by decide +kernel
theorem dX8_againstBy_30 : decode cX8_againstBy 30 = .ok (.if_icmp .ge 32, 3) := by decide +kernel
theorem dX8_againstBy_33 : decode cX8_againstBy 33 = .ok (.aload_n 0, 1) := by decide +kernel
theorem dX8_againstBy_34 : decode cX8_againstBy 34 = .ok (.iload_n 1, 1) := by decide +kernel
theorem dX8_againstBy_35 : decode cX8_againstBy 35 = .ok (.iload 6, 2) := by decide +kernel
theorem dX8_againstBy_37 : decode cX8_againstBy 37 = .ok (.bipush 6, 2) := by decide +kernel
theorem dX8_againstBy_39 : decode cX8_againstBy 39 = .ok (.idiv, 1) := by decide +kernel
theorem dX8_againstBy_40 : decode cX8_againstBy 40 = .ok (.iload 6, 2) := by decide +kernel
theorem dX8_againstBy_42 : decode cX8_againstBy 42 = .ok (.bipush 6, 2) := by decide +kernel
theorem dX8_againstBy_44 : decode cX8_againstBy 44 = .ok (.irem, 1) := by decide +kernel
theorem dX8_againstBy_45 : decode cX8_againstBy 45 = .ok (.iload_n 2, 1) := by decide +kernel
theorem dX8_againstBy_46 : decode cX8_againstBy 46 = .ok (.iload_n 3, 1) := by decide +kernel
theorem dX8_againstBy_47 : decode cX8_againstBy 47 = .ok (.iload 4, 2) := by decide +kernel
theorem dX8_againstBy_49 : decode cX8_againstBy 49 = .ok (.invokevirtual 177, 3) := by decide +kernel
theorem dX8_againstBy_52 : decode cX8_againstBy 52 = .ok (.ifCond .eq 10, 3) := by decide +kernel
theorem dX8_againstBy_55 : decode cX8_againstBy 55 = .ok (.iconst 1, 1) := by decide +kernel
theorem dX8_againstBy_56 : decode cX8_againstBy 56 = .ok (.iload 6, 2) := by decide +kernel
theorem dX8_againstBy_58 : decode cX8_againstBy 58 = .ok (.ishl, 1) := by decide +kernel
theorem dX8_againstBy_59 : decode cX8_againstBy 59 = .ok (.goto 4, 3) := by decide +kernel
theorem dX8_againstBy_62 : decode cX8_againstBy 62 = .ok (.iconst 0, 1) := by decide +kernel
theorem dX8_againstBy_63 : decode cX8_againstBy 63 = .ok (.ior, 1) := by decide +kernel
theorem dX8_againstBy_64 : decode cX8_againstBy 64 = .ok (.istore 5, 2) := by decide +kernel
theorem dX8_againstBy_66 : decode cX8_againstBy 66 = .ok (.iinc 6 1, 3) := by decide +kernel
theorem dX8_againstBy_69 : decode cX8_againstBy 69 = .ok (.goto (-63), 3) := by decide +kernel
theorem dX8_againstBy_72 : decode cX8_againstBy 72 = .ok (.iload 5, 2) := by decide +kernel
theorem dX8_againstBy_74 : decode cX8_againstBy 74 = .ok (.ireturn, 1) := by decide +kernel
set_option maxRecDepth 20000 in
theorem ggX8_againstIn_X8_dampOf : GoodIn wsX8_againstIn wsX8_dampOf := goodIn_r _ [6, 7, 8, 28, 29, 30, 31, 32, 33, 34, 35, 36, 37, 38, 39, 40, 41, 42, 43, 44, 45, 46, 47, 48, 49, 50, 51, 52, 53, 54, 55, 56, 57, 58, 59, 60, 61, 62, 63] (by decide +kernel) (by decide +kernel)
set_option maxRecDepth 20000 in
theorem gX8_againstIn_X8_dampOf : GoodIn wsX8_againstIn (wsV RX8 181 RX8 yX8_dampOf wsX8_dampOf) := goodIn_app (goodIn_of _ (by decide +kernel)) ggX8_againstIn_X8_dampOf
set_option maxRecDepth 20000 in
theorem ggX8_againstIn_X8_againstBy : GoodIn wsX8_againstIn wsX8_againstBy := goodIn_r _ [12, 13, 14, 15, 16, 5, 17, 18, 19, 20, 21, 22, 23, 24, 25, 26, 27, 28, 29, 30, 31, 32, 33, 34, 35, 36, 37, 38, 39, 40, 41, 42, 43, 44, 45, 46, 47, 48, 49, 50, 51, 52, 53, 54, 55, 56, 57, 58, 59, 60, 61, 62, 63] (by decide +kernel) (by decide +kernel)
set_option maxRecDepth 20000 in
theorem gX8_againstIn_X8_againstBy : GoodIn wsX8_againstIn (wsV RX8 185 RX8 yX8_againstBy wsX8_againstBy) := goodIn_app (goodIn_of _ (by decide +kernel)) ggX8_againstIn_X8_againstBy
theorem dX8_againstIn_0 : decode cX8_againstIn 0 = .ok (.aload_n 0, 1) := by decide +kernel
theorem dX8_againstIn_1 : decode cX8_againstIn 1 = .ok (.iload_n 2, 1) := by decide +kernel
theorem dX8_againstIn_2 : decode cX8_againstIn 2 = .ok (.aload_n 0, 1) := by decide +kernel
theorem dX8_againstIn_3 : decode cX8_againstIn 3 = .ok (.getfield 46, 3) := by decide +kernel
theorem dX8_againstIn_6 : decode cX8_againstIn 6 = .ok (.iload_n 1, 1) := by decide +kernel
theorem dX8_againstIn_7 : decode cX8_againstIn 7 = .ok (.iaload, 1) := by decide +kernel
theorem dX8_againstIn_8 : decode cX8_againstIn 8 = .ok (.aload_n 0, 1) := by decide +kernel
theorem dX8_againstIn_9 : decode cX8_againstIn 9 = .ok (.getfield 46, 3) := by decide +kernel
theorem dX8_againstIn_12 : decode cX8_againstIn 12 = .ok (.iload_n 1, 1) := by decide +kernel
theorem dX8_againstIn_13 : decode cX8_againstIn 13 = .ok (.iconst 1, 1) := by decide +kernel
theorem dX8_againstIn_14 : decode cX8_againstIn 14 = .ok (.iadd, 1) := by decide +kernel
theorem dX8_againstIn_15 : decode cX8_againstIn 15 = .ok (.iaload, 1) := by decide +kernel
theorem dX8_againstIn_16 : decode cX8_againstIn 16 = .ok (.aload_n 0, 1) := by decide +kernel
theorem dX8_againstIn_17 : decode cX8_againstIn 17 = .ok (.aload_n 0, 1) := by decide +kernel
theorem dX8_againstIn_18 : decode cX8_againstIn 18 = .ok (.getfield 46, 3) := by decide +kernel
theorem dX8_againstIn_21 : decode cX8_againstIn 21 = .ok (.iload_n 1, 1) := by decide +kernel
theorem dX8_againstIn_22 : decode cX8_againstIn 22 = .ok (.iconst 3, 1) := by decide +kernel
theorem dX8_againstIn_23 : decode cX8_againstIn 23 = .ok (.iadd, 1) := by decide +kernel
theorem dX8_againstIn_24 : decode cX8_againstIn 24 = .ok (.iaload, 1) := by decide +kernel
theorem dX8_againstIn_25 : decode cX8_againstIn 25 = .ok (.invokevirtual 181, 3) := by decide +kernel
theorem dX8_againstIn_28 : decode cX8_againstIn 28 = .ok (.invokevirtual 185, 3) := by decide +kernel
theorem dX8_againstIn_31 : decode cX8_againstIn 31 = .ok (.ireturn, 1) := by decide +kernel
set_option maxRecDepth 20000 in
theorem ggX8_place_X8_dampOf : GoodIn wsX8_place wsX8_dampOf := goodIn_r _ [6, 7, 8, 15, 16, 17, 18, 19, 20, 21, 22, 23, 24, 25, 26, 27, 28, 29, 30, 31, 32, 33, 34, 35, 36, 37, 38, 39, 40, 41, 42, 43, 44, 45, 46, 47, 48, 49, 50] (by decide +kernel) (by decide +kernel)
set_option maxRecDepth 20000 in
theorem gX8_place_X8_dampOf : GoodIn wsX8_place (wsV RX8 181 RX8 yX8_dampOf wsX8_dampOf) := goodIn_app (goodIn_of _ (by decide +kernel)) ggX8_place_X8_dampOf
set_option maxRecDepth 20000 in
theorem ggX8_place_X8_placeBy : GoodIn wsX8_place wsX8_placeBy := goodIn_r _ [12, 13, 14, 15, 16, 17, 18, 19, 20, 21, 22, 23, 24, 25, 26, 27, 28, 29, 30, 31, 32, 33, 34, 35, 36, 37, 38, 39, 40, 41, 42, 43, 44, 45, 46, 47, 48, 49, 50] (by decide +kernel) (by decide +kernel)
set_option maxRecDepth 20000 in
theorem gX8_place_X8_placeBy : GoodIn wsX8_place (wsV RX8 169 RX8 yX8_placeBy wsX8_placeBy) := goodIn_app (goodIn_of _ (by decide +kernel)) ggX8_place_X8_placeBy
theorem dX8_place_0 : decode cX8_place 0 = .ok (.aload_n 0, 1) := by decide +kernel
theorem dX8_place_1 : decode cX8_place 1 = .ok (.iload_n 2, 1) := by decide +kernel
theorem dX8_place_2 : decode cX8_place 2 = .ok (.aload_n 0, 1) := by decide +kernel
theorem dX8_place_3 : decode cX8_place 3 = .ok (.getfield 46, 3) := by decide +kernel
theorem dX8_place_6 : decode cX8_place 6 = .ok (.iload_n 1, 1) := by decide +kernel
theorem dX8_place_7 : decode cX8_place 7 = .ok (.iaload, 1) := by decide +kernel
theorem dX8_place_8 : decode cX8_place 8 = .ok (.aload_n 0, 1) := by decide +kernel
theorem dX8_place_9 : decode cX8_place 9 = .ok (.getfield 46, 3) := by decide +kernel
theorem dX8_place_12 : decode cX8_place 12 = .ok (.iload_n 1, 1) := by decide +kernel
theorem dX8_place_13 : decode cX8_place 13 = .ok (.iconst 1, 1) := by decide +kernel
theorem dX8_place_14 : decode cX8_place 14 = .ok (.iadd, 1) := by decide +kernel
theorem dX8_place_15 : decode cX8_place 15 = .ok (.iaload, 1) := by decide +kernel
theorem dX8_place_16 : decode cX8_place 16 = .ok (.aload_n 0, 1) := by decide +kernel
theorem dX8_place_17 : decode cX8_place 17 = .ok (.aload_n 0, 1) := by decide +kernel
theorem dX8_place_18 : decode cX8_place 18 = .ok (.getfield 46, 3) := by decide +kernel
theorem dX8_place_21 : decode cX8_place 21 = .ok (.iload_n 1, 1) := by decide +kernel
theorem dX8_place_22 : decode cX8_place 22 = .ok (.iconst 3, 1) := by decide +kernel
theorem dX8_place_23 : decode cX8_place 23 = .ok (.iadd, 1) := by decide +kernel
theorem dX8_place_24 : decode cX8_place 24 = .ok (.iaload, 1) := by decide +kernel
theorem dX8_place_25 : decode cX8_place 25 = .ok (.invokevirtual 181, 3) := by decide +kernel
theorem dX8_place_28 : decode cX8_place 28 = .ok (.invokevirtual 169, 3) := by decide +kernel
theorem dX8_place_31 : decode cX8_place 31 = .ok (.ireturn, 1) := by decide +kernel
set_option maxRecDepth 20000 in
theorem ggX8_land_X8_isOne : GoodIn wsX8_land wsX8_isOne := goodIn_r _ [8, 9, 10, 11, 7, 12, 13, 14, 15, 16, 17, 18, 19, 20, 21, 22, 23, 24, 25, 26, 27, 28, 29, 30, 31, 32, 33, 34, 35, 36, 37, 38, 39, 40, 41, 42, 43, 44, 45, 46, 47, 48] (by decide +kernel) (by decide +kernel)
set_option maxRecDepth 20000 in
theorem gX8_land_X8_isOne : GoodIn wsX8_land (wsV RX8 188 RX8 yX8_isOne wsX8_isOne) := goodIn_app (goodIn_of _ (by decide +kernel)) ggX8_land_X8_isOne
set_option maxRecDepth 20000 in
theorem ggX8_land_X8_in : GoodIn wsX8_land wsX8_in := goodIn_r _ [12] (by decide +kernel) (by decide +kernel)
set_option maxRecDepth 20000 in
theorem gX8_land_X8_in : GoodIn wsX8_land (va_wsS RX8 110 yX8_in wsX8_in) := goodIn_app (goodIn_of _ (by decide +kernel)) ggX8_land_X8_in
theorem dX8_land_0 : decode cX8_land 0 = .ok (.aload_n 0, 1) := by decide +kernel
theorem dX8_land_1 : decode cX8_land 1 = .ok (.iload_n 1, 1) := by decide +kernel
theorem dX8_land_2 : decode cX8_land 2 = .ok (.iload_n 2, 1) := by decide +kernel
theorem dX8_land_3 : decode cX8_land 3 = .ok (.invokevirtual 188, 3) := by decide +kernel
theorem dX8_land_6 : decode cX8_land 6 = .ok (.ifCond .eq 15, 3) := by decide +kernel
theorem dX8_land_9 : decode cX8_land 9 = .ok (.iload_n 3, 1) := by decide +kernel
theorem dX8_land_10 : decode cX8_land 10 = .ok (.i2l, 1) := by decide +kernel
theorem dX8_land_11 : decode cX8_land 11 = .ok (.lconst 0, 1) := by decide +kernel
theorem dX8_land_12 : decode cX8_land 12 = .ok (.ldc2_w 191, 3) := by decide +kernel
theorem dX8_land_15 : decode cX8_land 15 = .ok (.invokestatic 110, 3) := by decide +kernel
theorem dX8_land_18 : decode cX8_land 18 = .ok (.ifCond .ne 5, 3) := by decide +kernel
theorem dX8_land_21 : decode cX8_land 21 = .ok (.iconst (-1), 1) := by decide +kernel
theorem dX8_land_22 : decode cX8_land 22 = .ok (.ireturn, 1) := by decide +kernel
theorem dX8_land_23 : decode cX8_land 23 = .ok (.iload_n 3, 1) := by decide +kernel
theorem dX8_land_24 : decode cX8_land 24 = .ok (.ifCond .ne 17, 3) := by decide +kernel
theorem dX8_land_27 : decode cX8_land 27 = .ok (.aload_n 0, 1) := by decide +kernel
theorem dX8_land_28 : decode cX8_land 28 = .ok (.getfield 13, 3) := by decide +kernel
theorem dX8_land_31 : decode cX8_land 31 = .ok (.bipush 6, 2) := by decide +kernel
theorem dX8_land_33 : decode cX8_land 33 = .ok (.iload_n 1, 1) := by decide +kernel
theorem dX8_land_34 : decode cX8_land 34 = .ok (.imul, 1) := by decide +kernel
theorem dX8_land_35 : decode cX8_land 35 = .ok (.iload_n 2, 1) := by decide +kernel
theorem dX8_land_36 : decode cX8_land 36 = .ok (.iadd, 1) := by decide +kernel
theorem dX8_land_37 : decode cX8_land 37 = .ok (.iaload, 1) := by decide +kernel
theorem dX8_land_38 : decode cX8_land 38 = .ok (.goto 38, 3) := by decide +kernel
theorem dX8_land_41 : decode cX8_land 41 = .ok (.iload_n 3, 1) := by decide +kernel
theorem dX8_land_42 : decode cX8_land 42 = .ok (.iconst 1, 1) := by decide +kernel
theorem dX8_land_43 : decode cX8_land 43 = .ok (.if_icmp .ne 20, 3) := by decide +kernel
theorem dX8_land_46 : decode cX8_land 46 = .ok (.aload_n 0, 1) := by decide +kernel
theorem dX8_land_47 : decode cX8_land 47 = .ok (.getfield 46, 3) := by decide +kernel
theorem dX8_land_50 : decode cX8_land 50 = .ok (.bipush 11, 2) := by decide +kernel
theorem dX8_land_52 : decode cX8_land 52 = .ok (.bipush 6, 2) := by decide +kernel
theorem dX8_land_54 : decode cX8_land 54 = .ok (.iload_n 1, 1) := by decide +kernel
theorem dX8_land_55 : decode cX8_land 55 = .ok (.imul, 1) := by decide +kernel
theorem dX8_land_56 : decode cX8_land 56 = .ok (.iadd, 1) := by decide +kernel
theorem dX8_land_57 : decode cX8_land 57 = .ok (.iload_n 2, 1) := by decide +kernel
theorem dX8_land_58 : decode cX8_land 58 = .ok (.iadd, 1) := by decide +kernel
theorem dX8_land_59 : decode cX8_land 59 = .ok (.iaload, 1) := by decide +kernel
theorem dX8_land_60 : decode cX8_land 60 = .ok (.goto 16, 3) := by decide +kernel
theorem dX8_land_63 : decode cX8_land 63 = .ok (.aload_n 0, 1) := by decide +kernel
theorem dX8_land_64 : decode cX8_land 64 = .ok (.getfield 46, 3) := by decide +kernel
theorem dX8_land_67 : decode cX8_land 67 = .ok (.bipush 24, 2) := by decide +kernel
theorem dX8_land_69 : decode cX8_land 69 = .ok (.iload_n 1, 1) := by decide +kernel
theorem dX8_land_70 : decode cX8_land 70 = .ok (.iadd, 1) := by decide +kernel
theorem dX8_land_71 : decode cX8_land 71 = .ok (.iaload, 1) := by decide +kernel
theorem dX8_land_72 : decode cX8_land 72 = .ok (.iload_n 2, 1) := by decide +kernel
theorem dX8_land_73 : decode cX8_land 73 = .ok (.ishr, 1) := by decide +kernel
theorem dX8_land_74 : decode cX8_land 74 = .ok (.iconst 1, 1) := by decide +kernel
theorem dX8_land_75 : decode cX8_land 75 = .ok (.iand, 1) := by decide +kernel
theorem dX8_land_76 : decode cX8_land 76 = .ok (.ireturn, 1) := by decide +kernel
set_option maxRecDepth 20000 in
theorem ggX8_strip_X8_isStrip : GoodIn wsX8_strip wsX8_isStrip := goodIn_r _ [9, 10, 11, 12, 8, 13, 28, 29, 30, 31, 32, 33, 34, 35, 36, 37, 38, 39, 40, 41, 42, 43, 44, 45, 46, 47, 48, 49, 50, 51, 52, 53, 54, 55, 56, 57, 58, 59, 60, 61, 62, 63] (by decide +kernel) (by decide +kernel)
set_option maxRecDepth 20000 in
theorem gX8_strip_X8_isStrip : GoodIn wsX8_strip (wsV RX8 193 RX8 yX8_isStrip wsX8_isStrip) := goodIn_app (goodIn_of _ (by decide +kernel)) ggX8_strip_X8_isStrip
set_option maxRecDepth 20000 in
theorem ggX8_strip_X8_in : GoodIn wsX8_strip wsX8_in := goodIn_r _ [13] (by decide +kernel) (by decide +kernel)
set_option maxRecDepth 20000 in
theorem gX8_strip_X8_in : GoodIn wsX8_strip (va_wsS RX8 110 yX8_in wsX8_in) := goodIn_app (goodIn_of _ (by decide +kernel)) ggX8_strip_X8_in
set_option maxRecDepth 20000 in
theorem ggX8_strip_X8_place : GoodIn wsX8_strip wsX8_place := goodIn_r _ [17, 4, 18, 19, 20, 8, 21, 22, 23, 24, 25, 26, 27, 3, 2, 28, 29, 30, 31, 32, 33, 34, 35, 36, 37, 38, 39, 40, 41, 42, 43, 44, 45, 46, 47, 48, 49, 50, 51, 52, 53, 54, 55, 56, 57, 58, 59, 60, 61, 62, 63] (by decide +kernel) (by decide +kernel)
set_option maxRecDepth 20000 in
theorem gX8_strip_X8_place : GoodIn wsX8_strip (wsV RX8 199 RX8 yX8_place wsX8_place) := goodIn_app (goodIn_of _ (by decide +kernel)) ggX8_strip_X8_place
theorem dX8_strip_0 : decode cX8_strip 0 = .ok (.aload_n 0, 1) := by decide +kernel
theorem dX8_strip_1 : decode cX8_strip 1 = .ok (.iload_n 1, 1) := by decide +kernel
theorem dX8_strip_2 : decode cX8_strip 2 = .ok (.invokevirtual 193, 3) := by decide +kernel
theorem dX8_strip_5 : decode cX8_strip 5 = .ok (.ifCond .eq 15, 3) := by decide +kernel
theorem dX8_strip_8 : decode cX8_strip 8 = .ok (.iload_n 2, 1) := by decide +kernel
theorem dX8_strip_9 : decode cX8_strip 9 = .ok (.i2l, 1) := by decide +kernel
theorem dX8_strip_10 : decode cX8_strip 10 = .ok (.lconst 0, 1) := by decide +kernel
theorem dX8_strip_11 : decode cX8_strip 11 = .ok (.ldc2_w 197, 3) := by decide +kernel
theorem dX8_strip_14 : decode cX8_strip 14 = .ok (.invokestatic 110, 3) := by decide +kernel
theorem dX8_strip_17 : decode cX8_strip 17 = .ok (.ifCond .ne 5, 3) := by decide +kernel
theorem dX8_strip_20 : decode cX8_strip 20 = .ok (.iconst (-1), 1) := by decide +kernel
theorem dX8_strip_21 : decode cX8_strip 21 = .ok (.ireturn, 1) := by decide +kernel
theorem dX8_strip_22 : decode cX8_strip 22 = .ok (.iload_n 2, 1) := by decide +kernel
theorem dX8_strip_23 : decode cX8_strip 23 = .ok (.ifCond .ne 12, 3) := by decide +kernel
theorem dX8_strip_26 : decode cX8_strip 26 = .ok (.aload_n 0, 1) := by decide +kernel
theorem dX8_strip_27 : decode cX8_strip 27 = .ok (.getfield 16, 3) := by decide +kernel
theorem dX8_strip_30 : decode cX8_strip 30 = .ok (.iload_n 1, 1) := by decide +kernel
theorem dX8_strip_31 : decode cX8_strip 31 = .ok (.iaload, 1) := by decide +kernel
theorem dX8_strip_32 : decode cX8_strip 32 = .ok (.goto 61, 3) := by decide +kernel
theorem dX8_strip_35 : decode cX8_strip 35 = .ok (.iload_n 2, 1) := by decide +kernel
theorem dX8_strip_36 : decode cX8_strip 36 = .ok (.iconst 1, 1) := by decide +kernel
theorem dX8_strip_37 : decode cX8_strip 37 = .ok (.if_icmp .ne 12, 3) := by decide +kernel
theorem dX8_strip_40 : decode cX8_strip 40 = .ok (.aload_n 0, 1) := by decide +kernel
theorem dX8_strip_41 : decode cX8_strip 41 = .ok (.getfield 19, 3) := by decide +kernel
theorem dX8_strip_44 : decode cX8_strip 44 = .ok (.iload_n 1, 1) := by decide +kernel
theorem dX8_strip_45 : decode cX8_strip 45 = .ok (.iaload, 1) := by decide +kernel
theorem dX8_strip_46 : decode cX8_strip 46 = .ok (.goto 47, 3) := by decide +kernel
theorem dX8_strip_49 : decode cX8_strip 49 = .ok (.iload_n 2, 1) := by decide +kernel
theorem dX8_strip_50 : decode cX8_strip 50 = .ok (.iconst 2, 1) := by decide +kernel
theorem dX8_strip_51 : decode cX8_strip 51 = .ok (.if_icmp .ne 14, 3) := by decide +kernel
theorem dX8_strip_54 : decode cX8_strip 54 = .ok (.aload_n 0, 1) := by decide +kernel
theorem dX8_strip_55 : decode cX8_strip 55 = .ok (.getfield 46, 3) := by decide +kernel
theorem dX8_strip_58 : decode cX8_strip 58 = .ok (.iconst 4, 1) := by decide +kernel
theorem dX8_strip_59 : decode cX8_strip 59 = .ok (.iload_n 1, 1) := by decide +kernel
theorem dX8_strip_60 : decode cX8_strip 60 = .ok (.iadd, 1) := by decide +kernel
theorem dX8_strip_61 : decode cX8_strip 61 = .ok (.iaload, 1) := by decide +kernel
theorem dX8_strip_62 : decode cX8_strip 62 = .ok (.goto 31, 3) := by decide +kernel
theorem dX8_strip_65 : decode cX8_strip 65 = .ok (.iload_n 2, 1) := by decide +kernel
theorem dX8_strip_66 : decode cX8_strip 66 = .ok (.iconst 3, 1) := by decide +kernel
theorem dX8_strip_67 : decode cX8_strip 67 = .ok (.if_icmp .ne 15, 3) := by decide +kernel
theorem dX8_strip_70 : decode cX8_strip 70 = .ok (.aload_n 0, 1) := by decide +kernel
theorem dX8_strip_71 : decode cX8_strip 71 = .ok (.iconst 0, 1) := by decide +kernel
theorem dX8_strip_72 : decode cX8_strip 72 = .ok (.iload_n 1, 1) := by decide +kernel
theorem dX8_strip_73 : decode cX8_strip 73 = .ok (.invokevirtual 199, 3) := by decide +kernel
theorem dX8_strip_76 : decode cX8_strip 76 = .ok (.bipush 100, 2) := by decide +kernel
theorem dX8_strip_78 : decode cX8_strip 78 = .ok (.iadd, 1) := by decide +kernel
theorem dX8_strip_79 : decode cX8_strip 79 = .ok (.goto 14, 3) := by decide +kernel
theorem dX8_strip_82 : decode cX8_strip 82 = .ok (.aload_n 0, 1) := by decide +kernel
theorem dX8_strip_83 : decode cX8_strip 83 = .ok (.getfield 46, 3) := by decide +kernel
theorem dX8_strip_86 : decode cX8_strip 86 = .ok (.bipush 23, 2) := by decide +kernel
theorem dX8_strip_88 : decode cX8_strip 88 = .ok (.iaload, 1) := by decide +kernel
theorem dX8_strip_89 : decode cX8_strip 89 = .ok (.iload_n 1, 1) := by decide +kernel
theorem dX8_strip_90 : decode cX8_strip 90 = .ok (.ishr, 1) := by decide +kernel
theorem dX8_strip_91 : decode cX8_strip 91 = .ok (.iconst 1, 1) := by decide +kernel
theorem dX8_strip_92 : decode cX8_strip 92 = .ok (.iand, 1) := by decide +kernel
theorem dX8_strip_93 : decode cX8_strip 93 = .ok (.ireturn, 1) := by decide +kernel
set_option maxRecDepth 20000 in
theorem ggX8_inches_X8_in : GoodIn wsX8_inches wsX8_in := goodIn_r _ [6] (by decide +kernel) (by decide +kernel)
set_option maxRecDepth 20000 in
theorem gX8_inches_X8_in : GoodIn wsX8_inches (va_wsS RX8 110 yX8_in wsX8_in) := goodIn_app (goodIn_of _ (by decide +kernel)) ggX8_inches_X8_in
theorem dX8_inches_0 : decode cX8_inches 0 = .ok (.iload_n 1, 1) := by decide +kernel
theorem dX8_inches_1 : decode cX8_inches 1 = .ok (.i2l, 1) := by decide +kernel
theorem dX8_inches_2 : decode cX8_inches 2 = .ok (.lconst 0, 1) := by decide +kernel
theorem dX8_inches_3 : decode cX8_inches 3 = .ok (.aload_n 0, 1) := by decide +kernel
theorem dX8_inches_4 : decode cX8_inches 4 = .ok (.getfield 101, 3) := by decide +kernel
theorem dX8_inches_7 : decode cX8_inches 7 = .ok (.iconst 1, 1) := by decide +kernel
theorem dX8_inches_8 : decode cX8_inches 8 = .ok (.isub, 1) := by decide +kernel
theorem dX8_inches_9 : decode cX8_inches 9 = .ok (.i2l, 1) := by decide +kernel
theorem dX8_inches_10 : decode cX8_inches 10 = .ok (.invokestatic 110, 3) := by decide +kernel
theorem dX8_inches_13 : decode cX8_inches 13 = .ok (.ifCond .eq 12, 3) := by decide +kernel
theorem dX8_inches_16 : decode cX8_inches 16 = .ok (.aload_n 0, 1) := by decide +kernel
theorem dX8_inches_17 : decode cX8_inches 17 = .ok (.getfield 22, 3) := by decide +kernel
theorem dX8_inches_20 : decode cX8_inches 20 = .ok (.iload_n 1, 1) := by decide +kernel
theorem dX8_inches_21 : decode cX8_inches 21 = .ok (.iaload, 1) := by decide +kernel
theorem dX8_inches_22 : decode cX8_inches 22 = .ok (.goto 4, 3) := by decide +kernel
theorem dX8_inches_25 : decode cX8_inches 25 = .ok (.iconst (-1), 1) := by decide +kernel
theorem dX8_inches_26 : decode cX8_inches 26 = .ok (.ireturn, 1) := by decide +kernel
set_option maxRecDepth 20000 in
theorem ggX8_damp_X8_in : GoodIn wsX8_damp wsX8_in := goodIn_r _ [6] (by decide +kernel) (by decide +kernel)
set_option maxRecDepth 20000 in
theorem gX8_damp_X8_in : GoodIn wsX8_damp (va_wsS RX8 110 yX8_in wsX8_in) := goodIn_app (goodIn_of _ (by decide +kernel)) ggX8_damp_X8_in
set_option maxRecDepth 20000 in
theorem ggX8_damp_X8_dampOf : GoodIn wsX8_damp wsX8_dampOf := goodIn_r _ [10, 11, 12, 13, 14, 15, 16, 17, 18, 19, 20, 21, 22, 23, 24, 25, 26, 27, 28, 29, 30, 31, 32, 33, 34, 35, 36, 37, 38, 39, 40, 41, 42, 43, 44, 45, 46, 47, 48] (by decide +kernel) (by decide +kernel)
set_option maxRecDepth 20000 in
theorem gX8_damp_X8_dampOf : GoodIn wsX8_damp (wsV RX8 181 RX8 yX8_dampOf wsX8_dampOf) := goodIn_app (goodIn_of _ (by decide +kernel)) ggX8_damp_X8_dampOf
theorem dX8_damp_0 : decode cX8_damp 0 = .ok (.iload_n 1, 1) := by decide +kernel
theorem dX8_damp_1 : decode cX8_damp 1 = .ok (.i2l, 1) := by decide +kernel
theorem dX8_damp_2 : decode cX8_damp 2 = .ok (.lconst 0, 1) := by decide +kernel
theorem dX8_damp_3 : decode cX8_damp 3 = .ok (.ldc2_w 202, 3) := by decide +kernel
theorem dX8_damp_6 : decode cX8_damp 6 = .ok (.invokestatic 110, 3) := by decide +kernel
theorem dX8_damp_9 : decode cX8_damp 9 = .ok (.ifCond .eq 18, 3) := by decide +kernel
theorem dX8_damp_12 : decode cX8_damp 12 = .ok (.aload_n 0, 1) := by decide +kernel
theorem dX8_damp_13 : decode cX8_damp 13 = .ok (.aload_n 0, 1) := by decide +kernel
theorem dX8_damp_14 : decode cX8_damp 14 = .ok (.getfield 46, 3) := by decide +kernel
theorem dX8_damp_17 : decode cX8_damp 17 = .ok (.iconst 3, 1) := by decide +kernel
theorem dX8_damp_18 : decode cX8_damp 18 = .ok (.iaload, 1) := by decide +kernel
theorem dX8_damp_19 : decode cX8_damp 19 = .ok (.iload_n 1, 1) := by decide +kernel
theorem dX8_damp_20 : decode cX8_damp 20 = .ok (.iadd, 1) := by decide +kernel
theorem dX8_damp_21 : decode cX8_damp 21 = .ok (.invokevirtual 181, 3) := by decide +kernel
theorem dX8_damp_24 : decode cX8_damp 24 = .ok (.goto 4, 3) := by decide +kernel
theorem dX8_damp_27 : decode cX8_damp 27 = .ok (.iconst (-1), 1) := by decide +kernel
theorem dX8_damp_28 : decode cX8_damp 28 = .ok (.ireturn, 1) := by decide +kernel
set_option maxRecDepth 20000 in
theorem ggX8_against_X8_isStrip : GoodIn wsX8_against wsX8_isStrip := goodIn_r _ [5, 6, 7, 8, 4, 9, 40, 41, 42, 43, 44, 45, 46, 47, 48, 49, 50, 51, 52, 53, 54, 55, 56, 57, 58, 59, 60, 61, 62, 63, 64, 65, 66, 67, 68, 69, 70, 71, 72, 73, 74, 75] (by decide +kernel) (by decide +kernel)
set_option maxRecDepth 20000 in
theorem gX8_against_X8_isStrip : GoodIn wsX8_against (wsV RX8 193 RX8 yX8_isStrip wsX8_isStrip) := goodIn_app (goodIn_of _ (by decide +kernel)) ggX8_against_X8_isStrip
set_option maxRecDepth 20000 in
theorem ggX8_against_X8_againstIn : GoodIn wsX8_against wsX8_againstIn := goodIn_r _ [13, 14, 15, 16, 17, 4, 18, 19, 20, 21, 22, 23, 24, 25, 26, 27, 28, 29, 30, 31, 32, 33, 34, 35, 36, 37, 38, 39, 40, 41, 42, 43, 44, 45, 46, 47, 48, 49, 50, 51, 52, 53, 54, 55, 56, 57, 58, 59, 60, 61, 62, 63, 64, 65, 66, 67, 68, 69, 70, 71, 72, 73, 74, 75] (by decide +kernel) (by decide +kernel)
set_option maxRecDepth 20000 in
theorem gX8_against_X8_againstIn : GoodIn wsX8_against (wsV RX8 204 RX8 yX8_againstIn wsX8_againstIn) := goodIn_app (goodIn_of _ (by decide +kernel)) ggX8_against_X8_againstIn
theorem dX8_against_0 : decode cX8_against 0 = .ok (.aload_n 0, 1) := by decide +kernel
theorem dX8_against_1 : decode cX8_against 1 = .ok (.iload_n 1, 1) := by decide +kernel
theorem dX8_against_2 : decode cX8_against 2 = .ok (.invokevirtual 193, 3) := by decide +kernel
theorem dX8_against_5 : decode cX8_against 5 = .ok (.ifCond .eq 12, 3) := by decide +kernel
theorem dX8_against_8 : decode cX8_against 8 = .ok (.aload_n 0, 1) := by decide +kernel
theorem dX8_against_9 : decode cX8_against 9 = .ok (.iconst 0, 1) := by decide +kernel
theorem dX8_against_10 : decode cX8_against 10 = .ok (.iload_n 1, 1) := by decide +kernel
theorem dX8_against_11 : decode cX8_against 11 = .ok (.invokevirtual 204, 3) := by decide +kernel
theorem dX8_against_14 : decode cX8_against 14 = .ok (.goto 4, 3) := by decide +kernel
theorem dX8_against_17 : decode cX8_against 17 = .ok (.iconst (-1), 1) := by decide +kernel
theorem dX8_against_18 : decode cX8_against 18 = .ok (.ireturn, 1) := by decide +kernel
set_option maxRecDepth 20000 in
theorem ggX8_known_X8_copies : GoodIn wsX8_known wsX8_copies := goodIn_r _ [7, 2, 8, 9, 10, 11, 12, 13, 14, 15, 16, 17, 18, 19, 20, 21, 22, 23, 24, 25, 26, 27, 28, 29, 30, 31, 32, 33, 34, 35, 36, 37, 38, 39, 40, 41, 42, 43] (by decide +kernel) (by decide +kernel)
set_option maxRecDepth 20000 in
theorem gX8_known_X8_copies : GoodIn wsX8_known (wsV RX8 107 RX8 yX8_copies wsX8_copies) := goodIn_app (goodIn_of _ (by decide +kernel)) ggX8_known_X8_copies
theorem dX8_known_0 : decode cX8_known 0 = .ok (.aload_n 0, 1) := by decide +kernel
theorem dX8_known_1 : decode cX8_known 1 = .ok (.getfield 160, 3) := by decide +kernel
theorem dX8_known_4 : decode cX8_known 4 = .ok (.bipush 8, 2) := by decide +kernel
theorem dX8_known_6 : decode cX8_known 6 = .ok (.if_icmp .ne 40, 3) := by decide +kernel
theorem dX8_known_9 : decode cX8_known 9 = .ok (.bipush 26, 2) := by decide +kernel
theorem dX8_known_11 : decode cX8_known 11 = .ok (.istore_n 1, 1) := by decide +kernel
theorem dX8_known_12 : decode cX8_known 12 = .ok (.iload_n 1, 1) := by decide +kernel
theorem dX8_known_13 : decode cX8_known 13 = .ok (.sipush 208, 3) := by decide +kernel
theorem dX8_known_16 : decode cX8_known 16 = .ok (.if_icmp .ge 24, 3) := by decide +kernel
theorem dX8_known_19 : decode cX8_known 19 = .ok (.aload_n 0, 1) := by decide +kernel
theorem dX8_known_20 : decode cX8_known 20 = .ok (.getfield 46, 3) := by decide +kernel
theorem dX8_known_23 : decode cX8_known 23 = .ok (.iload_n 1, 1) := by decide +kernel
theorem dX8_known_24 : decode cX8_known 24 = .ok (.aload_n 0, 1) := by decide +kernel
theorem dX8_known_25 : decode cX8_known 25 = .ok (.getfield 46, 3) := by decide +kernel
theorem dX8_known_28 : decode cX8_known 28 = .ok (.iload_n 1, 1) := by decide +kernel
theorem dX8_known_29 : decode cX8_known 29 = .ok (.bipush 26, 2) := by decide +kernel
theorem dX8_known_31 : decode cX8_known 31 = .ok (.iadd, 1) := by decide +kernel
theorem dX8_known_32 : decode cX8_known 32 = .ok (.iaload, 1) := by decide +kernel
theorem dX8_known_33 : decode cX8_known 33 = .ok (.iastore, 1) := by decide +kernel
theorem dX8_known_34 : decode cX8_known 34 = .ok (.iinc 1 1, 3) := by decide +kernel
theorem dX8_known_37 : decode cX8_known 37 = .ok (.goto (-25), 3) := by decide +kernel
theorem dX8_known_40 : decode cX8_known 40 = .ok (.aload_n 0, 1) := by decide +kernel
theorem dX8_known_41 : decode cX8_known 41 = .ok (.bipush 7, 2) := by decide +kernel
theorem dX8_known_43 : decode cX8_known 43 = .ok (.putfield 160, 3) := by decide +kernel
theorem dX8_known_46 : decode cX8_known 46 = .ok (.aload_n 0, 1) := by decide +kernel
theorem dX8_known_47 : decode cX8_known 47 = .ok (.dup, 1) := by decide +kernel
theorem dX8_known_48 : decode cX8_known 48 = .ok (.getfield 160, 3) := by decide +kernel
theorem dX8_known_51 : decode cX8_known 51 = .ok (.iconst 1, 1) := by decide +kernel
theorem dX8_known_52 : decode cX8_known 52 = .ok (.iadd, 1) := by decide +kernel
theorem dX8_known_53 : decode cX8_known 53 = .ok (.putfield 160, 3) := by decide +kernel
theorem dX8_known_56 : decode cX8_known 56 = .ok (.aload_n 0, 1) := by decide +kernel
theorem dX8_known_57 : decode cX8_known 57 = .ok (.iconst 0, 1) := by decide +kernel
theorem dX8_known_58 : decode cX8_known 58 = .ok (.aload_n 0, 1) := by decide +kernel
theorem dX8_known_59 : decode cX8_known 59 = .ok (.getfield 160, 3) := by decide +kernel
theorem dX8_known_62 : decode cX8_known 62 = .ok (.bipush 26, 2) := by decide +kernel
theorem dX8_known_64 : decode cX8_known 64 = .ok (.imul, 1) := by decide +kernel
theorem dX8_known_65 : decode cX8_known 65 = .ok (.invokevirtual 107, 3) := by decide +kernel
theorem dX8_known_68 : decode cX8_known 68 = .ok (.return_, 1) := by decide +kernel
set_option maxRecDepth 20000 in
theorem ggX8_pushed_X8_smaller : GoodIn wsX8_pushed wsX8_smaller := goodIn_r _ [4] (by decide +kernel) (by decide +kernel)
set_option maxRecDepth 20000 in
theorem gX8_pushed_X8_smaller : GoodIn wsX8_pushed (va_wsS RX8 207 yX8_smaller wsX8_smaller) := goodIn_app (goodIn_of _ (by decide +kernel)) ggX8_pushed_X8_smaller
set_option maxRecDepth 20000 in
theorem ggX8_pushed_X8_larger : GoodIn wsX8_pushed wsX8_larger := goodIn_r _ [7] (by decide +kernel) (by decide +kernel)
set_option maxRecDepth 20000 in
theorem gX8_pushed_X8_larger : GoodIn wsX8_pushed (va_wsS RX8 210 yX8_larger wsX8_larger) := goodIn_app (goodIn_of _ (by decide +kernel)) ggX8_pushed_X8_larger
theorem dX8_pushed_0 : decode cX8_pushed 0 = .ok (.iload_n 2, 1) := by decide +kernel
theorem dX8_pushed_1 : decode cX8_pushed 1 = .ok (.ifCond .ne 14, 3) := by decide +kernel
theorem dX8_pushed_4 : decode cX8_pushed 4 = .ok (.bipush 40, 2) := by decide +kernel
theorem dX8_pushed_6 : decode cX8_pushed 6 = .ok (.iload_n 0, 1) := by decide +kernel
theorem dX8_pushed_7 : decode cX8_pushed 7 = .ok (.iload_n 1, 1) := by decide +kernel
theorem dX8_pushed_8 : decode cX8_pushed 8 = .ok (.iadd, 1) := by decide +kernel
theorem dX8_pushed_9 : decode cX8_pushed 9 = .ok (.invokestatic 207, 3) := by decide +kernel
theorem dX8_pushed_12 : decode cX8_pushed 12 = .ok (.goto 11, 3) := by decide +kernel
theorem dX8_pushed_15 : decode cX8_pushed 15 = .ok (.bipush (-40), 2) := by decide +kernel
theorem dX8_pushed_17 : decode cX8_pushed 17 = .ok (.iload_n 0, 1) := by decide +kernel
theorem dX8_pushed_18 : decode cX8_pushed 18 = .ok (.iload_n 1, 1) := by decide +kernel
theorem dX8_pushed_19 : decode cX8_pushed 19 = .ok (.isub, 1) := by decide +kernel
theorem dX8_pushed_20 : decode cX8_pushed 20 = .ok (.invokestatic 210, 3) := by decide +kernel
theorem dX8_pushed_23 : decode cX8_pushed 23 = .ok (.ireturn, 1) := by decide +kernel
set_option maxRecDepth 20000 in
theorem ggX8_gives_X8_larger : GoodIn wsX8_gives wsX8_larger := goodIn_r _ [6] (by decide +kernel) (by decide +kernel)
set_option maxRecDepth 20000 in
theorem gX8_gives_X8_larger : GoodIn wsX8_gives (va_wsS RX8 210 yX8_larger wsX8_larger) := goodIn_app (goodIn_of _ (by decide +kernel)) ggX8_gives_X8_larger
set_option maxRecDepth 20000 in
theorem ggX8_gives_X8_pushed : GoodIn wsX8_gives wsX8_pushed := goodIn_r _ [9, 10, 11, 5, 12, 3, 4, 6] (by decide +kernel) (by decide +kernel)
set_option maxRecDepth 20000 in
theorem gX8_gives_X8_pushed : GoodIn wsX8_gives (va_wsS RX8 213 yX8_pushed wsX8_pushed) := goodIn_app (goodIn_of _ (by decide +kernel)) ggX8_gives_X8_pushed
theorem dX8_gives_0 : decode cX8_gives 0 = .ok (.iconst 0, 1) := by decide +kernel
theorem dX8_gives_1 : decode cX8_gives 1 = .ok (.aload_n 0, 1) := by decide +kernel
theorem dX8_gives_2 : decode cX8_gives 2 = .ok (.getfield 22, 3) := by decide +kernel
theorem dX8_gives_5 : decode cX8_gives 5 = .ok (.iload_n 2, 1) := by decide +kernel
theorem dX8_gives_6 : decode cX8_gives 6 = .ok (.iaload, 1) := by decide +kernel
theorem dX8_gives_7 : decode cX8_gives 7 = .ok (.aload_n 0, 1) := by decide +kernel
theorem dX8_gives_8 : decode cX8_gives 8 = .ok (.getfield 46, 3) := by decide +kernel
theorem dX8_gives_11 : decode cX8_gives 11 = .ok (.iload_n 1, 1) := by decide +kernel
theorem dX8_gives_12 : decode cX8_gives 12 = .ok (.iconst 2, 1) := by decide +kernel
theorem dX8_gives_13 : decode cX8_gives 13 = .ok (.iadd, 1) := by decide +kernel
theorem dX8_gives_14 : decode cX8_gives 14 = .ok (.iaload, 1) := by decide +kernel
theorem dX8_gives_15 : decode cX8_gives 15 = .ok (.isub, 1) := by decide +kernel
theorem dX8_gives_16 : decode cX8_gives 16 = .ok (.invokestatic 210, 3) := by decide +kernel
theorem dX8_gives_19 : decode cX8_gives 19 = .ok (.istore 4, 2) := by decide +kernel
theorem dX8_gives_21 : decode cX8_gives 21 = .ok (.aload_n 0, 1) := by decide +kernel
theorem dX8_gives_22 : decode cX8_gives 22 = .ok (.getfield 46, 3) := by decide +kernel
theorem dX8_gives_25 : decode cX8_gives 25 = .ok (.iload_n 1, 1) := by decide +kernel
theorem dX8_gives_26 : decode cX8_gives 26 = .ok (.iconst 1, 1) := by decide +kernel
theorem dX8_gives_27 : decode cX8_gives 27 = .ok (.iadd, 1) := by decide +kernel
theorem dX8_gives_28 : decode cX8_gives 28 = .ok (.aload_n 0, 1) := by decide +kernel
theorem dX8_gives_29 : decode cX8_gives 29 = .ok (.getfield 46, 3) := by decide +kernel
theorem dX8_gives_32 : decode cX8_gives 32 = .ok (.iload_n 1, 1) := by decide +kernel
theorem dX8_gives_33 : decode cX8_gives 33 = .ok (.iaload, 1) := by decide +kernel
theorem dX8_gives_34 : decode cX8_gives 34 = .ok (.iastore, 1) := by decide +kernel
theorem dX8_gives_35 : decode cX8_gives 35 = .ok (.aload_n 0, 1) := by decide +kernel
theorem dX8_gives_36 : decode cX8_gives 36 = .ok (.getfield 46, 3) := by decide +kernel
theorem dX8_gives_39 : decode cX8_gives 39 = .ok (.iload_n 1, 1) := by decide +kernel
theorem dX8_gives_40 : decode cX8_gives 40 = .ok (.aload_n 0, 1) := by decide +kernel
theorem dX8_gives_41 : decode cX8_gives 41 = .ok (.getfield 46, 3) := by decide +kernel
theorem dX8_gives_44 : decode cX8_gives 44 = .ok (.iload_n 1, 1) := by decide +kernel
theorem dX8_gives_45 : decode cX8_gives 45 = .ok (.iaload, 1) := by decide +kernel
theorem dX8_gives_46 : decode cX8_gives 46 = .ok (.iload 4, 2) := by decide +kernel
theorem dX8_gives_48 : decode cX8_gives 48 = .ok (.iload_n 3, 1) := by decide +kernel
theorem dX8_gives_49 : decode cX8_gives 49 = .ok (.invokestatic 213, 3) := by decide +kernel
theorem dX8_gives_52 : decode cX8_gives 52 = .ok (.iastore, 1) := by decide +kernel
theorem dX8_gives_53 : decode cX8_gives 53 = .ok (.aload_n 0, 1) := by decide +kernel
theorem dX8_gives_54 : decode cX8_gives 54 = .ok (.getfield 46, 3) := by decide +kernel
theorem dX8_gives_57 : decode cX8_gives 57 = .ok (.iload_n 1, 1) := by decide +kernel
theorem dX8_gives_58 : decode cX8_gives 58 = .ok (.iconst 2, 1) := by decide +kernel
theorem dX8_gives_59 : decode cX8_gives 59 = .ok (.iadd, 1) := by decide +kernel
theorem dX8_gives_60 : decode cX8_gives 60 = .ok (.iconst 0, 1) := by decide +kernel
theorem dX8_gives_61 : decode cX8_gives 61 = .ok (.aload_n 0, 1) := by decide +kernel
theorem dX8_gives_62 : decode cX8_gives 62 = .ok (.getfield 46, 3) := by decide +kernel
theorem dX8_gives_65 : decode cX8_gives 65 = .ok (.iload_n 1, 1) := by decide +kernel
theorem dX8_gives_66 : decode cX8_gives 66 = .ok (.iconst 2, 1) := by decide +kernel
theorem dX8_gives_67 : decode cX8_gives 67 = .ok (.iadd, 1) := by decide +kernel
theorem dX8_gives_68 : decode cX8_gives 68 = .ok (.iaload, 1) := by decide +kernel
theorem dX8_gives_69 : decode cX8_gives 69 = .ok (.iconst 1, 1) := by decide +kernel
theorem dX8_gives_70 : decode cX8_gives 70 = .ok (.isub, 1) := by decide +kernel
theorem dX8_gives_71 : decode cX8_gives 71 = .ok (.invokestatic 210, 3) := by decide +kernel
theorem dX8_gives_74 : decode cX8_gives 74 = .ok (.iastore, 1) := by decide +kernel
theorem dX8_gives_75 : decode cX8_gives 75 = .ok (.return_, 1) := by decide +kernel
set_option maxRecDepth 20000 in
theorem ggX8_push_X8_isPush : GoodIn wsX8_push wsX8_isPush := goodIn_r _ [6, 7, 8, 9, 5, 10, 34, 35, 36, 37, 38, 39, 40, 41, 42, 43, 44, 45, 46, 47, 48, 49, 50, 51, 52, 53, 54, 55, 56, 57, 58, 59, 60, 61, 62, 63, 64, 65, 66, 67, 68, 69] (by decide +kernel) (by decide +kernel)
set_option maxRecDepth 20000 in
theorem gX8_push_X8_isPush : GoodIn wsX8_push (wsV RX8 217 RX8 yX8_isPush wsX8_isPush) := goodIn_app (goodIn_of _ (by decide +kernel)) ggX8_push_X8_isPush
set_option maxRecDepth 20000 in
theorem ggX8_push_X8_known : GoodIn wsX8_push wsX8_known := goodIn_r _ [14, 15, 1, 16, 17, 18, 5, 19, 34, 35, 36, 37, 38, 39, 40, 41, 42, 43, 44, 45, 46, 47, 48, 49, 50, 51, 52, 53, 54, 55, 56, 57, 58, 59, 60, 61, 62, 63, 64, 65, 66, 67, 68, 69] (by decide +kernel) (by decide +kernel)
set_option maxRecDepth 20000 in
theorem gX8_push_X8_known : GoodIn wsX8_push (wsV RX8 220 RX8 yX8_known wsX8_known) := goodIn_app (goodIn_of _ (by decide +kernel)) ggX8_push_X8_known
set_option maxRecDepth 20000 in
theorem ggX8_push_X8_gives : GoodIn wsX8_push wsX8_gives := goodIn_r _ [23, 24, 1, 25, 26, 5, 27, 28, 29, 30, 31, 32, 33, 34, 35, 36, 37, 38, 39, 40, 41, 42, 43, 44, 45, 46, 47, 48, 49, 50, 51, 52, 53, 54, 55, 56, 57, 58, 59, 60, 61, 62, 63, 64, 65, 66, 67, 68, 69] (by decide +kernel) (by decide +kernel)
set_option maxRecDepth 20000 in
theorem gX8_push_X8_gives : GoodIn wsX8_push (wsV RX8 223 RX8 yX8_gives wsX8_gives) := goodIn_app (goodIn_of _ (by decide +kernel)) ggX8_push_X8_gives
theorem dX8_push_0 : decode cX8_push 0 = .ok (.aload_n 0, 1) := by decide +kernel
theorem dX8_push_1 : decode cX8_push 1 = .ok (.iload_n 1, 1) := by decide +kernel
theorem dX8_push_2 : decode cX8_push 2 = .ok (.iload_n 2, 1) := by decide +kernel
theorem dX8_push_3 : decode cX8_push 3 = .ok (.invokevirtual 217, 3) := by decide +kernel
theorem dX8_push_6 : decode cX8_push 6 = .ok (.ifCond .ne 5, 3) := by decide +kernel
theorem dX8_push_9 : decode cX8_push 9 = .ok (.iconst (-1), 1) := by decide +kernel
theorem dX8_push_10 : decode cX8_push 10 = .ok (.ireturn, 1) := by decide +kernel
theorem dX8_push_11 : decode cX8_push 11 = .ok (.aload_n 0, 1) := by decide +kernel
theorem dX8_push_12 : decode cX8_push 12 = .ok (.invokevirtual 220, 3) := by decide +kernel
theorem dX8_push_15 : decode cX8_push 15 = .ok (.aload_n 0, 1) := by decide +kernel
theorem dX8_push_16 : decode cX8_push 16 = .ok (.iconst 0, 1) := by decide +kernel
theorem dX8_push_17 : decode cX8_push 17 = .ok (.iload_n 1, 1) := by decide +kernel
theorem dX8_push_18 : decode cX8_push 18 = .ok (.iload_n 2, 1) := by decide +kernel
theorem dX8_push_19 : decode cX8_push 19 = .ok (.invokevirtual 223, 3) := by decide +kernel
theorem dX8_push_22 : decode cX8_push 22 = .ok (.aload_n 0, 1) := by decide +kernel
theorem dX8_push_23 : decode cX8_push 23 = .ok (.getfield 46, 3) := by decide +kernel
theorem dX8_push_26 : decode cX8_push 26 = .ok (.iconst 0, 1) := by decide +kernel
theorem dX8_push_27 : decode cX8_push 27 = .ok (.iaload, 1) := by decide +kernel
theorem dX8_push_28 : decode cX8_push 28 = .ok (.bipush 40, 2) := by decide +kernel
theorem dX8_push_30 : decode cX8_push 30 = .ok (.iadd, 1) := by decide +kernel
theorem dX8_push_31 : decode cX8_push 31 = .ok (.ireturn, 1) := by decide +kernel
set_option maxRecDepth 20000 in
theorem ggX8_chalk_X8_in : GoodIn wsX8_chalk wsX8_in := goodIn_r _ [6] (by decide +kernel) (by decide +kernel)
set_option maxRecDepth 20000 in
theorem gX8_chalk_X8_in : GoodIn wsX8_chalk (va_wsS RX8 110 yX8_in wsX8_in) := goodIn_app (goodIn_of _ (by decide +kernel)) ggX8_chalk_X8_in
set_option maxRecDepth 20000 in
theorem ggX8_chalk_X8_known : GoodIn wsX8_chalk wsX8_known := goodIn_r _ [10, 11, 2, 12, 13, 14, 5, 15, 16, 17, 18, 19, 20, 21, 22, 23, 24, 25, 26, 27, 28, 29, 30, 31, 32, 33, 34, 35, 36, 37, 38, 39, 40, 41, 42, 43, 44, 45, 46, 47, 48, 49, 50, 51] (by decide +kernel) (by decide +kernel)
set_option maxRecDepth 20000 in
theorem gX8_chalk_X8_known : GoodIn wsX8_chalk (wsV RX8 220 RX8 yX8_known wsX8_known) := goodIn_app (goodIn_of _ (by decide +kernel)) ggX8_chalk_X8_known
theorem dX8_chalk_0 : decode cX8_chalk 0 = .ok (.iload_n 1, 1) := by decide +kernel
theorem dX8_chalk_1 : decode cX8_chalk 1 = .ok (.i2l, 1) := by decide +kernel
theorem dX8_chalk_2 : decode cX8_chalk 2 = .ok (.lconst 0, 1) := by decide +kernel
theorem dX8_chalk_3 : decode cX8_chalk 3 = .ok (.ldc2_w 226, 3) := by decide +kernel
theorem dX8_chalk_6 : decode cX8_chalk 6 = .ok (.invokestatic 110, 3) := by decide +kernel
theorem dX8_chalk_9 : decode cX8_chalk 9 = .ok (.ifCond .ne 5, 3) := by decide +kernel
theorem dX8_chalk_12 : decode cX8_chalk 12 = .ok (.iconst (-1), 1) := by decide +kernel
theorem dX8_chalk_13 : decode cX8_chalk 13 = .ok (.ireturn, 1) := by decide +kernel
theorem dX8_chalk_14 : decode cX8_chalk 14 = .ok (.aload_n 0, 1) := by decide +kernel
theorem dX8_chalk_15 : decode cX8_chalk 15 = .ok (.invokevirtual 220, 3) := by decide +kernel
theorem dX8_chalk_18 : decode cX8_chalk 18 = .ok (.aload_n 0, 1) := by decide +kernel
theorem dX8_chalk_19 : decode cX8_chalk 19 = .ok (.getfield 46, 3) := by decide +kernel
theorem dX8_chalk_22 : decode cX8_chalk 22 = .ok (.iconst 2, 1) := by decide +kernel
theorem dX8_chalk_23 : decode cX8_chalk 23 = .ok (.iaload, 1) := by decide +kernel
theorem dX8_chalk_24 : decode cX8_chalk 24 = .ok (.istore_n 2, 1) := by decide +kernel
theorem dX8_chalk_25 : decode cX8_chalk 25 = .ok (.aload_n 0, 1) := by decide +kernel
theorem dX8_chalk_26 : decode cX8_chalk 26 = .ok (.getfield 46, 3) := by decide +kernel
theorem dX8_chalk_29 : decode cX8_chalk 29 = .ok (.iconst 2, 1) := by decide +kernel
theorem dX8_chalk_30 : decode cX8_chalk 30 = .ok (.iload_n 1, 1) := by decide +kernel
theorem dX8_chalk_31 : decode cX8_chalk 31 = .ok (.iastore, 1) := by decide +kernel
theorem dX8_chalk_32 : decode cX8_chalk 32 = .ok (.iload_n 2, 1) := by decide +kernel
theorem dX8_chalk_33 : decode cX8_chalk 33 = .ok (.ireturn, 1) := by decide +kernel
set_option maxRecDepth 20000 in
theorem ggX8_trades_X8_againstIn : GoodIn wsX8_trades wsX8_againstIn := goodIn_r _ [7, 2, 8, 9, 10, 6, 11, 12, 13, 14, 15, 16, 17, 18, 19, 20, 21, 22, 23, 24, 25, 26, 27, 28, 29, 30, 31, 32, 39, 40, 41, 42, 43, 44, 45, 46, 47, 48, 49, 50, 51, 52, 53, 54, 55, 56, 57, 58, 59, 60, 61, 62, 63, 64, 65, 66, 67, 68, 69, 70, 71, 72, 73, 74] (by decide +kernel) (by decide +kernel)
set_option maxRecDepth 20000 in
theorem gX8_trades_X8_againstIn : GoodIn wsX8_trades (wsV RX8 204 RX8 yX8_againstIn wsX8_againstIn) := goodIn_app (goodIn_of _ (by decide +kernel)) ggX8_trades_X8_againstIn
set_option maxRecDepth 20000 in
theorem ggX8_trades_X8_has : GoodIn wsX8_trades wsX8_has := goodIn_r _ [35] (by decide +kernel) (by decide +kernel)
set_option maxRecDepth 20000 in
theorem gX8_trades_X8_has : GoodIn wsX8_trades (va_wsS RX8 228 yX8_has wsX8_has) := goodIn_app (goodIn_of _ (by decide +kernel)) ggX8_trades_X8_has
set_option maxRecDepth 20000 in
theorem ggX8_trades_X8_smaller : GoodIn wsX8_trades wsX8_smaller := goodIn_r _ [38] (by decide +kernel) (by decide +kernel)
set_option maxRecDepth 20000 in
theorem gX8_trades_X8_smaller : GoodIn wsX8_trades (va_wsS RX8 207 yX8_smaller wsX8_smaller) := goodIn_app (goodIn_of _ (by decide +kernel)) ggX8_trades_X8_smaller
theorem dX8_trades_0 : decode cX8_trades 0 = .ok (.iconst 0, 1) := by decide +kernel
theorem dX8_trades_1 : decode cX8_trades 1 = .ok (.istore_n 2, 1) := by decide +kernel
theorem dX8_trades_2 : decode cX8_trades 2 = .ok (.iload_n 2, 1) := by decide +kernel
theorem dX8_trades_3 : decode cX8_trades 3 = .ok (.aload_n 0, 1) := by decide +kernel
theorem dX8_trades_4 : decode cX8_trades 4 = .ok (.getfield 98, 3) := by decide +kernel
theorem dX8_trades_7 : decode cX8_trades 7 = .ok (.if_icmp .ge 150, 3) := by decide +kernel
theorem dX8_trades_10 : decode cX8_trades 10 = .ok (.aload_n 0, 1) := by decide +kernel
theorem dX8_trades_11 : decode cX8_trades 11 = .ok (.iload_n 1, 1) := by decide +kernel
theorem dX8_trades_12 : decode cX8_trades 12 = .ok (.iload_n 2, 1) := by decide +kernel
theorem dX8_trades_13 : decode cX8_trades 13 = .ok (.invokevirtual 204, 3) := by decide +kernel
theorem dX8_trades_16 : decode cX8_trades 16 = .ok (.istore_n 3, 1) := by decide +kernel
theorem dX8_trades_17 : decode cX8_trades 17 = .ok (.iconst 0, 1) := by decide +kernel
theorem dX8_trades_18 : decode cX8_trades 18 = .ok (.istore 4, 2) := by decide +kernel
theorem dX8_trades_20 : decode cX8_trades 20 = .ok (.iload 4, 2) := by decide +kernel
theorem dX8_trades_22 : decode cX8_trades 22 = .ok (.bipush 12, 2) := by decide +kernel
theorem dX8_trades_24 : decode cX8_trades 24 = .ok (.if_icmp .ge 61, 3) := by decide +kernel
theorem dX8_trades_27 : decode cX8_trades 27 = .ok (.iload_n 3, 1) := by decide +kernel
theorem dX8_trades_28 : decode cX8_trades 28 = .ok (.iload 4, 2) := by decide +kernel
theorem dX8_trades_30 : decode cX8_trades 30 = .ok (.invokestatic 228, 3) := by decide +kernel
theorem dX8_trades_33 : decode cX8_trades 33 = .ok (.ifCond .eq 46, 3) := by decide +kernel
theorem dX8_trades_36 : decode cX8_trades 36 = .ok (.aload_n 0, 1) := by decide +kernel
theorem dX8_trades_37 : decode cX8_trades 37 = .ok (.getfield 46, 3) := by decide +kernel
theorem dX8_trades_40 : decode cX8_trades 40 = .ok (.iload_n 1, 1) := by decide +kernel
theorem dX8_trades_41 : decode cX8_trades 41 = .ok (.iconst 4, 1) := by decide +kernel
theorem dX8_trades_42 : decode cX8_trades 42 = .ok (.iadd, 1) := by decide +kernel
theorem dX8_trades_43 : decode cX8_trades 43 = .ok (.iload_n 2, 1) := by decide +kernel
theorem dX8_trades_44 : decode cX8_trades 44 = .ok (.iadd, 1) := by decide +kernel
theorem dX8_trades_45 : decode cX8_trades 45 = .ok (.iaload, 1) := by decide +kernel
theorem dX8_trades_46 : decode cX8_trades 46 = .ok (.ifCond .le 33, 3) := by decide +kernel
theorem dX8_trades_49 : decode cX8_trades 49 = .ok (.aload_n 0, 1) := by decide +kernel
theorem dX8_trades_50 : decode cX8_trades 50 = .ok (.getfield 46, 3) := by decide +kernel
theorem dX8_trades_53 : decode cX8_trades 53 = .ok (.iload_n 1, 1) := by decide +kernel
theorem dX8_trades_54 : decode cX8_trades 54 = .ok (.iconst 4, 1) := by decide +kernel
theorem dX8_trades_55 : decode cX8_trades 55 = .ok (.iadd, 1) := by decide +kernel
theorem dX8_trades_56 : decode cX8_trades 56 = .ok (.iload_n 2, 1) := by decide +kernel
theorem dX8_trades_57 : decode cX8_trades 57 = .ok (.iadd, 1) := by decide +kernel
theorem dX8_trades_58 : decode cX8_trades 58 = .ok (.dup2, 1) := by decide +kernel
theorem dX8_trades_59 : decode cX8_trades 59 = .ok (.iaload, 1) := by decide +kernel
theorem dX8_trades_60 : decode cX8_trades 60 = .ok (.iconst 1, 1) := by decide +kernel
theorem dX8_trades_61 : decode cX8_trades 61 = .ok (.isub, 1) := by decide +kernel
theorem dX8_trades_62 : decode cX8_trades 62 = .ok (.iastore, 1) := by decide +kernel
theorem dX8_trades_63 : decode cX8_trades 63 = .ok (.aload_n 0, 1) := by decide +kernel
theorem dX8_trades_64 : decode cX8_trades 64 = .ok (.getfield 46, 3) := by decide +kernel
theorem dX8_trades_67 : decode cX8_trades 67 = .ok (.iload_n 1, 1) := by decide +kernel
theorem dX8_trades_68 : decode cX8_trades 68 = .ok (.bipush 11, 2) := by decide +kernel
theorem dX8_trades_70 : decode cX8_trades 70 = .ok (.iadd, 1) := by decide +kernel
theorem dX8_trades_71 : decode cX8_trades 71 = .ok (.iload 4, 2) := by decide +kernel
theorem dX8_trades_73 : decode cX8_trades 73 = .ok (.iadd, 1) := by decide +kernel
theorem dX8_trades_74 : decode cX8_trades 74 = .ok (.dup2, 1) := by decide +kernel
theorem dX8_trades_75 : decode cX8_trades 75 = .ok (.iaload, 1) := by decide +kernel
theorem dX8_trades_76 : decode cX8_trades 76 = .ok (.iconst 1, 1) := by decide +kernel
theorem dX8_trades_77 : decode cX8_trades 77 = .ok (.iadd, 1) := by decide +kernel
theorem dX8_trades_78 : decode cX8_trades 78 = .ok (.iastore, 1) := by decide +kernel
theorem dX8_trades_79 : decode cX8_trades 79 = .ok (.iinc 4 1, 3) := by decide +kernel
theorem dX8_trades_82 : decode cX8_trades 82 = .ok (.goto (-62), 3) := by decide +kernel
theorem dX8_trades_85 : decode cX8_trades 85 = .ok (.iload_n 3, 1) := by decide +kernel
theorem dX8_trades_86 : decode cX8_trades 86 = .ok (.bipush 64, 2) := by decide +kernel
theorem dX8_trades_88 : decode cX8_trades 88 = .ok (.irem, 1) := by decide +kernel
theorem dX8_trades_89 : decode cX8_trades 89 = .ok (.ifCond .le 14, 3) := by decide +kernel
theorem dX8_trades_92 : decode cX8_trades 92 = .ok (.iload_n 3, 1) := by decide +kernel
theorem dX8_trades_93 : decode cX8_trades 93 = .ok (.bipush 64, 2) := by decide +kernel
theorem dX8_trades_95 : decode cX8_trades 95 = .ok (.idiv, 1) := by decide +kernel
theorem dX8_trades_96 : decode cX8_trades 96 = .ok (.ifCond .le 7, 3) := by decide +kernel
theorem dX8_trades_99 : decode cX8_trades 99 = .ok (.iconst 1, 1) := by decide +kernel
theorem dX8_trades_100 : decode cX8_trades 100 = .ok (.goto 4, 3) := by decide +kernel
theorem dX8_trades_103 : decode cX8_trades 103 = .ok (.iconst 0, 1) := by decide +kernel
theorem dX8_trades_104 : decode cX8_trades 104 = .ok (.istore 4, 2) := by decide +kernel
theorem dX8_trades_106 : decode cX8_trades 106 = .ok (.aload_n 0, 1) := by decide +kernel
theorem dX8_trades_107 : decode cX8_trades 107 = .ok (.getfield 46, 3) := by decide +kernel
theorem dX8_trades_110 : decode cX8_trades 110 = .ok (.iload_n 1, 1) := by decide +kernel
theorem dX8_trades_111 : decode cX8_trades 111 = .ok (.iconst 4, 1) := by decide +kernel
theorem dX8_trades_112 : decode cX8_trades 112 = .ok (.iadd, 1) := by decide +kernel
theorem dX8_trades_113 : decode cX8_trades 113 = .ok (.iload_n 2, 1) := by decide +kernel
theorem dX8_trades_114 : decode cX8_trades 114 = .ok (.iadd, 1) := by decide +kernel
theorem dX8_trades_115 : decode cX8_trades 115 = .ok (.iload 4, 2) := by decide +kernel
theorem dX8_trades_117 : decode cX8_trades 117 = .ok (.ifCond .eq 23, 3) := by decide +kernel
theorem dX8_trades_120 : decode cX8_trades 120 = .ok (.bipush 99, 2) := by decide +kernel
theorem dX8_trades_122 : decode cX8_trades 122 = .ok (.aload_n 0, 1) := by decide +kernel
theorem dX8_trades_123 : decode cX8_trades 123 = .ok (.getfield 46, 3) := by decide +kernel
theorem dX8_trades_126 : decode cX8_trades 126 = .ok (.iload_n 1, 1) := by decide +kernel
theorem dX8_trades_127 : decode cX8_trades 127 = .ok (.iconst 4, 1) := by decide +kernel
theorem dX8_trades_128 : decode cX8_trades 128 = .ok (.iadd, 1) := by decide +kernel
theorem dX8_trades_129 : decode cX8_trades 129 = .ok (.iload_n 2, 1) := by decide +kernel
theorem dX8_trades_130 : decode cX8_trades 130 = .ok (.iadd, 1) := by decide +kernel
theorem dX8_trades_131 : decode cX8_trades 131 = .ok (.iaload, 1) := by decide +kernel
theorem dX8_trades_132 : decode cX8_trades 132 = .ok (.iconst 3, 1) := by decide +kernel
theorem dX8_trades_133 : decode cX8_trades 133 = .ok (.iadd, 1) := by decide +kernel
theorem dX8_trades_134 : decode cX8_trades 134 = .ok (.invokestatic 207, 3) := by decide +kernel
theorem dX8_trades_137 : decode cX8_trades 137 = .ok (.goto 13, 3) := by decide +kernel
theorem dX8_trades_140 : decode cX8_trades 140 = .ok (.aload_n 0, 1) := by decide +kernel
theorem dX8_trades_141 : decode cX8_trades 141 = .ok (.getfield 46, 3) := by decide +kernel
theorem dX8_trades_144 : decode cX8_trades 144 = .ok (.iload_n 1, 1) := by decide +kernel
theorem dX8_trades_145 : decode cX8_trades 145 = .ok (.iconst 4, 1) := by decide +kernel
theorem dX8_trades_146 : decode cX8_trades 146 = .ok (.iadd, 1) := by decide +kernel
theorem dX8_trades_147 : decode cX8_trades 147 = .ok (.iload_n 2, 1) := by decide +kernel
theorem dX8_trades_148 : decode cX8_trades 148 = .ok (.iadd, 1) := by decide +kernel
theorem dX8_trades_149 : decode cX8_trades 149 = .ok (.iaload, 1) := by decide +kernel
theorem dX8_trades_150 : decode cX8_trades 150 = .ok (.iastore, 1) := by decide +kernel
theorem dX8_trades_151 : decode cX8_trades 151 = .ok (.iinc 2 1, 3) := by decide +kernel
theorem dX8_trades_154 : decode cX8_trades 154 = .ok (.goto (-152), 3) := by decide +kernel
theorem dX8_trades_157 : decode cX8_trades 157 = .ok (.aload_n 0, 1) := by decide +kernel
theorem dX8_trades_158 : decode cX8_trades 158 = .ok (.getfield 46, 3) := by decide +kernel
theorem dX8_trades_161 : decode cX8_trades 161 = .ok (.iload_n 1, 1) := by decide +kernel
theorem dX8_trades_162 : decode cX8_trades 162 = .ok (.iconst 3, 1) := by decide +kernel
theorem dX8_trades_163 : decode cX8_trades 163 = .ok (.iadd, 1) := by decide +kernel
theorem dX8_trades_164 : decode cX8_trades 164 = .ok (.dup2, 1) := by decide +kernel
theorem dX8_trades_165 : decode cX8_trades 165 = .ok (.iaload, 1) := by decide +kernel
theorem dX8_trades_166 : decode cX8_trades 166 = .ok (.iconst 1, 1) := by decide +kernel
theorem dX8_trades_167 : decode cX8_trades 167 = .ok (.iadd, 1) := by decide +kernel
theorem dX8_trades_168 : decode cX8_trades 168 = .ok (.iastore, 1) := by decide +kernel
theorem dX8_trades_169 : decode cX8_trades 169 = .ok (.return_, 1) := by decide +kernel
set_option maxRecDepth 20000 in
theorem ggX8_pass_X8_in : GoodIn wsX8_pass wsX8_in := goodIn_r _ [6] (by decide +kernel) (by decide +kernel)
set_option maxRecDepth 20000 in
theorem gX8_pass_X8_in : GoodIn wsX8_pass (va_wsS RX8 110 yX8_in wsX8_in) := goodIn_app (goodIn_of _ (by decide +kernel)) ggX8_pass_X8_in
set_option maxRecDepth 20000 in
theorem ggX8_pass_X8_known : GoodIn wsX8_pass wsX8_known := goodIn_r _ [10, 11, 2, 12, 13, 14, 5, 15, 56, 57, 58, 59, 60, 61, 62, 63, 64, 65, 66, 67, 68, 69, 70, 71, 72, 73, 74, 75, 76, 77, 78, 79, 80, 81, 82, 83, 84, 85, 86, 87, 88, 89, 90, 91] (by decide +kernel) (by decide +kernel)
set_option maxRecDepth 20000 in
theorem gX8_pass_X8_known : GoodIn wsX8_pass (wsV RX8 220 RX8 yX8_known wsX8_known) := goodIn_app (goodIn_of _ (by decide +kernel)) ggX8_pass_X8_known
set_option maxRecDepth 20000 in
theorem ggX8_pass_X8_trades : GoodIn wsX8_pass wsX8_trades := goodIn_r _ [19, 20, 2, 21, 22, 23, 5, 24, 25, 26, 27, 28, 29, 30, 31, 32, 33, 34, 35, 36, 37, 38, 39, 40, 41, 42, 43, 44, 45, 46, 47, 48, 49, 50, 51, 52, 53, 54, 55, 56, 57, 58, 59, 60, 61, 62, 63, 64, 65, 66, 67, 68, 69, 70, 71, 72, 73, 74, 75, 76, 77, 78, 79, 80, 81, 82, 83, 84, 85, 86, 87, 88, 89, 90, 91] (by decide +kernel) (by decide +kernel)
set_option maxRecDepth 20000 in
theorem gX8_pass_X8_trades : GoodIn wsX8_pass (wsV RX8 233 RX8 yX8_trades wsX8_trades) := goodIn_app (goodIn_of _ (by decide +kernel)) ggX8_pass_X8_trades
theorem dX8_pass_0 : decode cX8_pass 0 = .ok (.iload_n 1, 1) := by decide +kernel
theorem dX8_pass_1 : decode cX8_pass 1 = .ok (.i2l, 1) := by decide +kernel
theorem dX8_pass_2 : decode cX8_pass 2 = .ok (.lconst 1, 1) := by decide +kernel
theorem dX8_pass_3 : decode cX8_pass 3 = .ok (.ldc2_w 231, 3) := by decide +kernel
theorem dX8_pass_6 : decode cX8_pass 6 = .ok (.invokestatic 110, 3) := by decide +kernel
theorem dX8_pass_9 : decode cX8_pass 9 = .ok (.ifCond .ne 5, 3) := by decide +kernel
theorem dX8_pass_12 : decode cX8_pass 12 = .ok (.iconst (-1), 1) := by decide +kernel
theorem dX8_pass_13 : decode cX8_pass 13 = .ok (.ireturn, 1) := by decide +kernel
theorem dX8_pass_14 : decode cX8_pass 14 = .ok (.aload_n 0, 1) := by decide +kernel
theorem dX8_pass_15 : decode cX8_pass 15 = .ok (.getfield 46, 3) := by decide +kernel
theorem dX8_pass_18 : decode cX8_pass 18 = .ok (.iconst 3, 1) := by decide +kernel
theorem dX8_pass_19 : decode cX8_pass 19 = .ok (.iaload, 1) := by decide +kernel
theorem dX8_pass_20 : decode cX8_pass 20 = .ok (.iload_n 1, 1) := by decide +kernel
theorem dX8_pass_21 : decode cX8_pass 21 = .ok (.iadd, 1) := by decide +kernel
theorem dX8_pass_22 : decode cX8_pass 22 = .ok (.sipush 999, 3) := by decide +kernel
theorem dX8_pass_25 : decode cX8_pass 25 = .ok (.if_icmp .le 6, 3) := by decide +kernel
theorem dX8_pass_28 : decode cX8_pass 28 = .ok (.bipush (-2), 2) := by decide +kernel
theorem dX8_pass_30 : decode cX8_pass 30 = .ok (.ireturn, 1) := by decide +kernel
theorem dX8_pass_31 : decode cX8_pass 31 = .ok (.aload_n 0, 1) := by decide +kernel
theorem dX8_pass_32 : decode cX8_pass 32 = .ok (.invokevirtual 220, 3) := by decide +kernel
