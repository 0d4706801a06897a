/-! DECODE ROWS -/
theorem d_M_init_108 : decode (mi_code n_M_init) 108 = .ok (.putfield 47, 3) := by decide +kernel
theorem d_M_init_111 : decode (mi_code n_M_init) 111 = .ok (.aload_n 0, 1) := by decide +kernel
theorem d_M_init_112 : decode (mi_code n_M_init) 112 = .ok (.sipush 3072, 3) := by decide +kernel
theorem d_M_init_115 : decode (mi_code n_M_init) 115 = .ok (.newarray .int, 2) := by decide +kernel
theorem d_M_init_117 : decode (mi_code n_M_init) 117 = .ok (.putfield 50, 3) := by decide +kernel
theorem d_M_init_120 : decode (mi_code n_M_init) 120 = .ok (.aload_n 0, 1) := by decide +kernel
theorem d_M_init_121 : decode (mi_code n_M_init) 121 = .ok (.sipush 3072, 3) := by decide +kernel
theorem d_M_init_124 : decode (mi_code n_M_init) 124 = .ok (.newarray .int, 2) := by decide +kernel
theorem d_M_init_126 : decode (mi_code n_M_init) 126 = .ok (.putfield 53, 3) := by decide +kernel
theorem d_M_init_129 : decode (mi_code n_M_init) 129 = .ok (.aload_n 0, 1) := by decide +kernel
theorem d_M_init_130 : decode (mi_code n_M_init) 130 = .ok (.sipush 192, 3) := by decide +kernel
theorem d_M_init_133 : decode (mi_code n_M_init) 133 = .ok (.newarray .int, 2) := by decide +kernel
theorem d_M_init_135 : decode (mi_code n_M_init) 135 = .ok (.putfield 56, 3) := by decide +kernel
theorem d_M_init_138 : decode (mi_code n_M_init) 138 = .ok (.aload_n 0, 1) := by decide +kernel
theorem d_M_init_139 : decode (mi_code n_M_init) 139 = .ok (.sipush 192, 3) := by decide +kernel
theorem d_M_init_142 : decode (mi_code n_M_init) 142 = .ok (.newarray .boolean, 2) := by decide +kernel
theorem d_M_init_144 : decode (mi_code n_M_init) 144 = .ok (.putfield 59, 3) := by decide +kernel
theorem d_M_init_147 : decode (mi_code n_M_init) 147 = .ok (.aload_n 0, 1) := by decide +kernel
theorem d_M_init_148 : decode (mi_code n_M_init) 148 = .ok (.bipush 32, 2) := by decide +kernel
theorem d_M_init_150 : decode (mi_code n_M_init) 150 = .ok (.newarray .int, 2) := by decide +kernel
theorem d_M_init_152 : decode (mi_code n_M_init) 152 = .ok (.putfield 62, 3) := by decide +kernel
theorem d_M_init_155 : decode (mi_code n_M_init) 155 = .ok (.aload_n 0, 1) := by decide +kernel
theorem d_M_init_156 : decode (mi_code n_M_init) 156 = .ok (.bipush 6, 2) := by decide +kernel
theorem d_M_init_158 : decode (mi_code n_M_init) 158 = .ok (.newarray .int, 2) := by decide +kernel
theorem d_M_init_160 : decode (mi_code n_M_init) 160 = .ok (.putfield 65, 3) := by decide +kernel
theorem d_M_init_163 : decode (mi_code n_M_init) 163 = .ok (.aload_n 0, 1) := by decide +kernel
theorem d_M_init_164 : decode (mi_code n_M_init) 164 = .ok (.bipush 6, 2) := by decide +kernel
theorem d_M_init_166 : decode (mi_code n_M_init) 166 = .ok (.newarray .int, 2) := by decide +kernel
theorem d_M_init_168 : decode (mi_code n_M_init) 168 = .ok (.putfield 68, 3) := by decide +kernel
theorem d_M_init_171 : decode (mi_code n_M_init) 171 = .ok (.aload_n 0, 1) := by decide +kernel
theorem d_M_init_172 : decode (mi_code n_M_init) 172 = .ok (.sipush 576, 3) := by decide +kernel
theorem d_M_init_175 : decode (mi_code n_M_init) 175 = .ok (.newarray .int, 2) := by decide +kernel
theorem d_M_init_177 : decode (mi_code n_M_init) 177 = .ok (.putfield 71, 3) := by decide +kernel
theorem d_M_init_180 : decode (mi_code n_M_init) 180 = .ok (.aload_n 0, 1) := by decide +kernel
theorem d_M_init_181 : decode (mi_code n_M_init) 181 = .ok (.sipush 144, 3) := by decide +kernel
theorem d_M_init_184 : decode (mi_code n_M_init) 184 = .ok (.newarray .int, 2) := by decide +kernel
theorem d_M_init_186 : decode (mi_code n_M_init) 186 = .ok (.putfield 74, 3) := by decide +kernel
theorem d_M_init_189 : decode (mi_code n_M_init) 189 = .ok (.aload_n 0, 1) := by decide +kernel
theorem d_M_init_190 : decode (mi_code n_M_init) 190 = .ok (.bipush 24, 2) := by decide +kernel
theorem d_M_init_192 : decode (mi_code n_M_init) 192 = .ok (.newarray .boolean, 2) := by decide +kernel
theorem d_M_init_194 : decode (mi_code n_M_init) 194 = .ok (.putfield 77, 3) := by decide +kernel
theorem d_M_init_197 : decode (mi_code n_M_init) 197 = .ok (.aload_n 0, 1) := by decide +kernel
theorem d_M_init_198 : decode (mi_code n_M_init) 198 = .ok (.bipush 30, 2) := by decide +kernel
theorem d_M_init_200 : decode (mi_code n_M_init) 200 = .ok (.newarray .int, 2) := by decide +kernel
theorem d_M_init_202 : decode (mi_code n_M_init) 202 = .ok (.putfield 80, 3) := by decide +kernel
theorem d_M_init_205 : decode (mi_code n_M_init) 205 = .ok (.aload_n 0, 1) := by decide +kernel
theorem d_M_init_206 : decode (mi_code n_M_init) 206 = .ok (.bipush 30, 2) := by decide +kernel
theorem d_M_init_208 : decode (mi_code n_M_init) 208 = .ok (.newarray .int, 2) := by decide +kernel
theorem d_M_init_210 : decode (mi_code n_M_init) 210 = .ok (.putfield 83, 3) := by decide +kernel
theorem d_M_init_213 : decode (mi_code n_M_init) 213 = .ok (.aload_n 0, 1) := by decide +kernel
theorem d_M_init_214 : decode (mi_code n_M_init) 214 = .ok (.bipush 8, 2) := by decide +kernel
theorem d_M_init_216 : decode (mi_code n_M_init) 216 = .ok (.newarray .int, 2) := by decide +kernel
theorem d_M_init_218 : decode (mi_code n_M_init) 218 = .ok (.putfield 86, 3) := by decide +kernel
theorem d_M_init_221 : decode (mi_code n_M_init) 221 = .ok (.aload_n 0, 1) := by decide +kernel
theorem d_M_init_222 : decode (mi_code n_M_init) 222 = .ok (.bipush 6, 2) := by decide +kernel
theorem d_M_init_224 : decode (mi_code n_M_init) 224 = .ok (.newarray .int, 2) := by decide +kernel
theorem d_M_init_226 : decode (mi_code n_M_init) 226 = .ok (.putfield 89, 3) := by decide +kernel
theorem d_M_init_229 : decode (mi_code n_M_init) 229 = .ok (.aload_n 0, 1) := by decide +kernel
theorem d_M_init_230 : decode (mi_code n_M_init) 230 = .ok (.bipush 6, 2) := by decide +kernel
theorem d_M_init_232 : decode (mi_code n_M_init) 232 = .ok (.newarray .int, 2) := by decide +kernel
theorem d_M_init_234 : decode (mi_code n_M_init) 234 = .ok (.putfield 92, 3) := by decide +kernel
theorem d_M_init_237 : decode (mi_code n_M_init) 237 = .ok (.aload_n 0, 1) := by decide +kernel
theorem d_M_init_238 : decode (mi_code n_M_init) 238 = .ok (.bipush 36, 2) := by decide +kernel
theorem d_M_init_240 : decode (mi_code n_M_init) 240 = .ok (.newarray .int, 2) := by decide +kernel
theorem d_M_init_242 : decode (mi_code n_M_init) 242 = .ok (.putfield 95, 3) := by decide +kernel
theorem d_M_init_245 : decode (mi_code n_M_init) 245 = .ok (.aload_n 0, 1) := by decide +kernel
theorem d_M_init_246 : decode (mi_code n_M_init) 246 = .ok (.bipush 36, 2) := by decide +kernel
theorem d_M_init_248 : decode (mi_code n_M_init) 248 = .ok (.newarray .int, 2) := by decide +kernel
theorem d_M_init_250 : decode (mi_code n_M_init) 250 = .ok (.putfield 98, 3) := by decide +kernel
theorem d_M_init_253 : decode (mi_code n_M_init) 253 = .ok (.aload_n 0, 1) := by decide +kernel
theorem d_M_init_254 : decode (mi_code n_M_init) 254 = .ok (.bipush 36, 2) := by decide +kernel
theorem d_M_init_256 : decode (mi_code n_M_init) 256 = .ok (.newarray .int, 2) := by decide +kernel
theorem d_M_init_258 : decode (mi_code n_M_init) 258 = .ok (.putfield 101, 3) := by decide +kernel
theorem d_M_init_261 : decode (mi_code n_M_init) 261 = .ok (.aload_n 0, 1) := by decide +kernel
theorem d_M_init_262 : decode (mi_code n_M_init) 262 = .ok (.sipush 144, 3) := by decide +kernel
theorem d_M_init_265 : decode (mi_code n_M_init) 265 = .ok (.newarray .boolean, 2) := by decide +kernel
theorem d_M_init_267 : decode (mi_code n_M_init) 267 = .ok (.putfield 104, 3) := by decide +kernel
theorem d_M_init_270 : decode (mi_code n_M_init) 270 = .ok (.aload_n 0, 1) := by decide +kernel
theorem d_M_init_271 : decode (mi_code n_M_init) 271 = .ok (.sipush 27648, 3) := by decide +kernel
theorem d_M_init_274 : decode (mi_code n_M_init) 274 = .ok (.newarray .int, 2) := by decide +kernel
theorem d_M_init_276 : decode (mi_code n_M_init) 276 = .ok (.putfield 107, 3) := by decide +kernel
theorem d_M_init_279 : decode (mi_code n_M_init) 279 = .ok (.aload_n 0, 1) := by decide +kernel
theorem d_M_init_280 : decode (mi_code n_M_init) 280 = .ok (.iconst 4, 1) := by decide +kernel
theorem d_M_init_281 : decode (mi_code n_M_init) 281 = .ok (.newarray .int, 2) := by decide +kernel
theorem d_M_init_283 : decode (mi_code n_M_init) 283 = .ok (.putfield 110, 3) := by decide +kernel
theorem d_M_init_286 : decode (mi_code n_M_init) 286 = .ok (.aload_n 0, 1) := by decide +kernel
theorem d_M_init_287 : decode (mi_code n_M_init) 287 = .ok (.iconst 4, 1) := by decide +kernel
theorem d_M_init_288 : decode (mi_code n_M_init) 288 = .ok (.newarray .int, 2) := by decide +kernel
theorem d_M_init_290 : decode (mi_code n_M_init) 290 = .ok (.putfield 113, 3) := by decide +kernel
theorem d_M_init_293 : decode (mi_code n_M_init) 293 = .ok (.aload_n 0, 1) := by decide +kernel
theorem d_M_init_294 : decode (mi_code n_M_init) 294 = .ok (.bipush 10, 2) := by decide +kernel
theorem d_M_init_296 : decode (mi_code n_M_init) 296 = .ok (.newarray .int, 2) := by decide +kernel
theorem d_M_init_298 : decode (mi_code n_M_init) 298 = .ok (.putfield 116, 3) := by decide +kernel
theorem d_M_init_301 : decode (mi_code n_M_init) 301 = .ok (.iconst 0, 1) := by decide +kernel
theorem d_M_init_302 : decode (mi_code n_M_init) 302 = .ok (.istore_n 1, 1) := by decide +kernel
theorem d_M_init_303 : decode (mi_code n_M_init) 303 = .ok (.iload_n 1, 1) := by decide +kernel
theorem d_M_init_304 : decode (mi_code n_M_init) 304 = .ok (.bipush 32, 2) := by decide +kernel
theorem d_M_init_306 : decode (mi_code n_M_init) 306 = .ok (.if_icmp .ge 21, 3) := by decide +kernel
theorem d_M_init_309 : decode (mi_code n_M_init) 309 = .ok (.aload_n 0, 1) := by decide +kernel
theorem d_M_init_310 : decode (mi_code n_M_init) 310 = .ok (.getfield 62, 3) := by decide +kernel
theorem d_M_init_313 : decode (mi_code n_M_init) 313 = .ok (.iload_n 1, 1) := by decide +kernel
theorem d_M_init_314 : decode (mi_code n_M_init) 314 = .ok (.iload_n 1, 1) := by decide +kernel
theorem d_M_init_315 : decode (mi_code n_M_init) 315 = .ok (.bipush 8, 2) := by decide +kernel
theorem d_M_init_317 : decode (mi_code n_M_init) 317 = .ok (.irem, 1) := by decide +kernel
theorem d_M_init_318 : decode (mi_code n_M_init) 318 = .ok (.iconst 1, 1) := by decide +kernel
theorem d_M_init_319 : decode (mi_code n_M_init) 319 = .ok (.iadd, 1) := by decide +kernel
theorem d_M_init_320 : decode (mi_code n_M_init) 320 = .ok (.iastore, 1) := by decide +kernel
theorem d_M_init_321 : decode (mi_code n_M_init) 321 = .ok (.iinc 1 1, 3) := by decide +kernel
theorem d_M_init_324 : decode (mi_code n_M_init) 324 = .ok (.goto (-21), 3) := by decide +kernel
theorem d_M_init_327 : decode (mi_code n_M_init) 327 = .ok (.iconst 0, 1) := by decide +kernel
theorem d_M_init_328 : decode (mi_code n_M_init) 328 = .ok (.istore_n 1, 1) := by decide +kernel
theorem d_M_init_329 : decode (mi_code n_M_init) 329 = .ok (.iload_n 1, 1) := by decide +kernel
theorem d_M_init_330 : decode (mi_code n_M_init) 330 = .ok (.bipush 8, 2) := by decide +kernel
theorem d_M_init_332 : decode (mi_code n_M_init) 332 = .ok (.if_icmp .ge 16, 3) := by decide +kernel
theorem d_M_init_335 : decode (mi_code n_M_init) 335 = .ok (.aload_n 0, 1) := by decide +kernel
theorem d_M_init_336 : decode (mi_code n_M_init) 336 = .ok (.getfield 86, 3) := by decide +kernel
theorem d_M_init_339 : decode (mi_code n_M_init) 339 = .ok (.iload_n 1, 1) := by decide +kernel
theorem d_M_init_340 : decode (mi_code n_M_init) 340 = .ok (.iconst (-1), 1) := by decide +kernel
theorem d_M_init_341 : decode (mi_code n_M_init) 341 = .ok (.iastore, 1) := by decide +kernel
theorem d_M_init_342 : decode (mi_code n_M_init) 342 = .ok (.iinc 1 1, 3) := by decide +kernel
theorem d_M_init_345 : decode (mi_code n_M_init) 345 = .ok (.goto (-16), 3) := by decide +kernel
theorem d_M_init_348 : decode (mi_code n_M_init) 348 = .ok (.return_, 1) := by decide +kernel
theorem d_M_isDrawing_0 : decode (mi_code n_M_isDrawing) 0 = .ok (.iload_n 1, 1) := by decide +kernel
theorem d_M_isDrawing_1 : decode (mi_code n_M_isDrawing) 1 = .ok (.iconst 0, 1) := by decide +kernel
theorem d_M_isDrawing_2 : decode (mi_code n_M_isDrawing) 2 = .ok (.aload_n 0, 1) := by decide +kernel
theorem d_M_isDrawing_3 : decode (mi_code n_M_isDrawing) 3 = .ok (.getfield 123, 3) := by decide +kernel
theorem d_M_isDrawing_6 : decode (mi_code n_M_isDrawing) 6 = .ok (.iconst 1, 1) := by decide +kernel
theorem d_M_isDrawing_7 : decode (mi_code n_M_isDrawing) 7 = .ok (.isub, 1) := by decide +kernel
theorem d_M_isDrawing_8 : decode (mi_code n_M_isDrawing) 8 = .ok (.invokestatic 126, 3) := by decide +kernel
theorem d_M_isDrawing_11 : decode (mi_code n_M_isDrawing) 11 = .ok (.ireturn, 1) := by decide +kernel
theorem d_M_isFrame_0 : decode (mi_code n_M_isFrame) 0 = .ok (.aload_n 0, 1) := by decide +kernel
theorem d_M_isFrame_1 : decode (mi_code n_M_isFrame) 1 = .ok (.iload_n 1, 1) := by decide +kernel
theorem d_M_isFrame_2 : decode (mi_code n_M_isFrame) 2 = .ok (.invokevirtual 196, 3) := by decide +kernel
theorem d_M_isFrame_5 : decode (mi_code n_M_isFrame) 5 = .ok (.ifCond .eq 23, 3) := by decide +kernel
theorem d_M_isFrame_8 : decode (mi_code n_M_isFrame) 8 = .ok (.iload_n 2, 1) := by decide +kernel
theorem d_M_isFrame_9 : decode (mi_code n_M_isFrame) 9 = .ok (.iconst 0, 1) := by decide +kernel
theorem d_M_isFrame_10 : decode (mi_code n_M_isFrame) 10 = .ok (.aload_n 0, 1) := by decide +kernel
theorem d_M_isFrame_11 : decode (mi_code n_M_isFrame) 11 = .ok (.getfield 65, 3) := by decide +kernel
theorem d_M_isFrame_14 : decode (mi_code n_M_isFrame) 14 = .ok (.iload_n 1, 1) := by decide +kernel
theorem d_M_isFrame_15 : decode (mi_code n_M_isFrame) 15 = .ok (.iaload, 1) := by decide +kernel
theorem d_M_isFrame_16 : decode (mi_code n_M_isFrame) 16 = .ok (.iconst 1, 1) := by decide +kernel
theorem d_M_isFrame_17 : decode (mi_code n_M_isFrame) 17 = .ok (.isub, 1) := by decide +kernel
theorem d_M_isFrame_18 : decode (mi_code n_M_isFrame) 18 = .ok (.invokestatic 126, 3) := by decide +kernel
theorem d_M_isFrame_21 : decode (mi_code n_M_isFrame) 21 = .ok (.ifCond .eq 7, 3) := by decide +kernel
theorem d_M_isFrame_24 : decode (mi_code n_M_isFrame) 24 = .ok (.iconst 1, 1) := by decide +kernel
theorem d_M_isFrame_25 : decode (mi_code n_M_isFrame) 25 = .ok (.goto 4, 3) := by decide +kernel
theorem d_M_isFrame_28 : decode (mi_code n_M_isFrame) 28 = .ok (.iconst 0, 1) := by decide +kernel
theorem d_M_isFrame_29 : decode (mi_code n_M_isFrame) 29 = .ok (.ireturn, 1) := by decide +kernel
theorem d_M_isLevel_0 : decode (mi_code n_M_isLevel) 0 = .ok (.aload_n 0, 1) := by decide +kernel
theorem d_M_isLevel_1 : decode (mi_code n_M_isLevel) 1 = .ok (.iload_n 1, 1) := by decide +kernel
theorem d_M_isLevel_2 : decode (mi_code n_M_isLevel) 2 = .ok (.invokevirtual 196, 3) := by decide +kernel
theorem d_M_isLevel_5 : decode (mi_code n_M_isLevel) 5 = .ok (.ifCond .eq 16, 3) := by decide +kernel
theorem d_M_isLevel_8 : decode (mi_code n_M_isLevel) 8 = .ok (.iload_n 2, 1) := by decide +kernel
theorem d_M_isLevel_9 : decode (mi_code n_M_isLevel) 9 = .ok (.iconst 0, 1) := by decide +kernel
theorem d_M_isLevel_10 : decode (mi_code n_M_isLevel) 10 = .ok (.iconst 3, 1) := by decide +kernel
theorem d_M_isLevel_11 : decode (mi_code n_M_isLevel) 11 = .ok (.invokestatic 126, 3) := by decide +kernel
theorem d_M_isLevel_14 : decode (mi_code n_M_isLevel) 14 = .ok (.ifCond .eq 7, 3) := by decide +kernel
theorem d_M_isLevel_17 : decode (mi_code n_M_isLevel) 17 = .ok (.iconst 1, 1) := by decide +kernel
theorem d_M_isLevel_18 : decode (mi_code n_M_isLevel) 18 = .ok (.goto 4, 3) := by decide +kernel
theorem d_M_isLevel_21 : decode (mi_code n_M_isLevel) 21 = .ok (.iconst 0, 1) := by decide +kernel
theorem d_M_isLevel_22 : decode (mi_code n_M_isLevel) 22 = .ok (.ireturn, 1) := by decide +kernel
theorem d_M_isLine_0 : decode (mi_code n_M_isLine) 0 = .ok (.iload_n 2, 1) := by decide +kernel
theorem d_M_isLine_1 : decode (mi_code n_M_isLine) 1 = .ok (.iload_n 3, 1) := by decide +kernel
theorem d_M_isLine_2 : decode (mi_code n_M_isLine) 2 = .ok (.invokestatic 149, 3) := by decide +kernel
theorem d_M_isLine_5 : decode (mi_code n_M_isLine) 5 = .ok (.ifCond .eq 28, 3) := by decide +kernel
theorem d_M_isLine_8 : decode (mi_code n_M_isLine) 8 = .ok (.aload_n 0, 1) := by decide +kernel
theorem d_M_isLine_9 : decode (mi_code n_M_isLine) 9 = .ok (.getfield 53, 3) := by decide +kernel
theorem d_M_isLine_12 : decode (mi_code n_M_isLine) 12 = .ok (.sipush 192, 3) := by decide +kernel
theorem d_M_isLine_15 : decode (mi_code n_M_isLine) 15 = .ok (.iload_n 1, 1) := by decide +kernel
theorem d_M_isLine_16 : decode (mi_code n_M_isLine) 16 = .ok (.imul, 1) := by decide +kernel
theorem d_M_isLine_17 : decode (mi_code n_M_isLine) 17 = .ok (.bipush 16, 2) := by decide +kernel
theorem d_M_isLine_19 : decode (mi_code n_M_isLine) 19 = .ok (.iload_n 3, 1) := by decide +kernel
theorem d_M_isLine_20 : decode (mi_code n_M_isLine) 20 = .ok (.imul, 1) := by decide +kernel
theorem d_M_isLine_21 : decode (mi_code n_M_isLine) 21 = .ok (.iadd, 1) := by decide +kernel
theorem d_M_isLine_22 : decode (mi_code n_M_isLine) 22 = .ok (.iload_n 2, 1) := by decide +kernel
theorem d_M_isLine_23 : decode (mi_code n_M_isLine) 23 = .ok (.iadd, 1) := by decide +kernel
theorem d_M_isLine_24 : decode (mi_code n_M_isLine) 24 = .ok (.iaload, 1) := by decide +kernel
theorem d_M_isLine_25 : decode (mi_code n_M_isLine) 25 = .ok (.iconst 1, 1) := by decide +kernel
theorem d_M_isLine_26 : decode (mi_code n_M_isLine) 26 = .ok (.if_icmp .ne 7, 3) := by decide +kernel
theorem d_M_isLine_29 : decode (mi_code n_M_isLine) 29 = .ok (.iconst 1, 1) := by decide +kernel
theorem d_M_isLine_30 : decode (mi_code n_M_isLine) 30 = .ok (.goto 4, 3) := by decide +kernel
theorem d_M_isLine_33 : decode (mi_code n_M_isLine) 33 = .ok (.iconst 0, 1) := by decide +kernel
theorem d_M_isLine_34 : decode (mi_code n_M_isLine) 34 = .ok (.ireturn, 1) := by decide +kernel
theorem d_M_isOn_0 : decode (mi_code n_M_isOn) 0 = .ok (.iconst 1, 1) := by decide +kernel
theorem d_M_isOn_1 : decode (mi_code n_M_isOn) 1 = .ok (.iload_n 2, 1) := by decide +kernel
theorem d_M_isOn_2 : decode (mi_code n_M_isOn) 2 = .ok (.ishl, 1) := by decide +kernel
theorem d_M_isOn_3 : decode (mi_code n_M_isOn) 3 = .ok (.istore_n 3, 1) := by decide +kernel
theorem d_M_isOn_4 : decode (mi_code n_M_isOn) 4 = .ok (.iload_n 2, 1) := by decide +kernel
theorem d_M_isOn_5 : decode (mi_code n_M_isOn) 5 = .ok (.iconst 1, 1) := by decide +kernel
theorem d_M_isOn_6 : decode (mi_code n_M_isOn) 6 = .ok (.iadd, 1) := by decide +kernel
theorem d_M_isOn_7 : decode (mi_code n_M_isOn) 7 = .ok (.istore 4, 2) := by decide +kernel
theorem d_M_isOn_9 : decode (mi_code n_M_isOn) 9 = .ok (.iload 4, 2) := by decide +kernel
theorem d_M_isOn_11 : decode (mi_code n_M_isOn) 11 = .ok (.iload_n 1, 1) := by decide +kernel
theorem d_M_isOn_12 : decode (mi_code n_M_isOn) 12 = .ok (.if_icmp .gt 73, 3) := by decide +kernel
theorem d_M_isOn_15 : decode (mi_code n_M_isOn) 15 = .ok (.aload_n 0, 1) := by decide +kernel
theorem d_M_isOn_16 : decode (mi_code n_M_isOn) 16 = .ok (.getfield 7, 3) := by decide +kernel
theorem d_M_isOn_19 : decode (mi_code n_M_isOn) 19 = .ok (.iload 4, 2) := by decide +kernel
theorem d_M_isOn_21 : decode (mi_code n_M_isOn) 21 = .ok (.iaload, 1) := by decide +kernel
theorem d_M_isOn_22 : decode (mi_code n_M_isOn) 22 = .ok (.iconst (-1), 1) := by decide +kernel
theorem d_M_isOn_23 : decode (mi_code n_M_isOn) 23 = .ok (.if_icmp .eq 37, 3) := by decide +kernel
theorem d_M_isOn_26 : decode (mi_code n_M_isOn) 26 = .ok (.iload_n 3, 1) := by decide +kernel
theorem d_M_isOn_27 : decode (mi_code n_M_isOn) 27 = .ok (.aload_n 0, 1) := by decide +kernel
theorem d_M_isOn_28 : decode (mi_code n_M_isOn) 28 = .ok (.getfield 7, 3) := by decide +kernel
theorem d_M_isOn_31 : decode (mi_code n_M_isOn) 31 = .ok (.iload 4, 2) := by decide +kernel
theorem d_M_isOn_33 : decode (mi_code n_M_isOn) 33 = .ok (.iaload, 1) := by decide +kernel
theorem d_M_isOn_34 : decode (mi_code n_M_isOn) 34 = .ok (.ishr, 1) := by decide +kernel
theorem d_M_isOn_35 : decode (mi_code n_M_isOn) 35 = .ok (.iconst 1, 1) := by decide +kernel
theorem d_M_isOn_36 : decode (mi_code n_M_isOn) 36 = .ok (.iand, 1) := by decide +kernel
theorem d_M_isOn_37 : decode (mi_code n_M_isOn) 37 = .ok (.iconst 1, 1) := by decide +kernel
theorem d_M_isOn_38 : decode (mi_code n_M_isOn) 38 = .ok (.if_icmp .eq 18, 3) := by decide +kernel
theorem d_M_isOn_41 : decode (mi_code n_M_isOn) 41 = .ok (.iload_n 3, 1) := by decide +kernel
theorem d_M_isOn_42 : decode (mi_code n_M_isOn) 42 = .ok (.aload_n 0, 1) := by decide +kernel
theorem d_M_isOn_43 : decode (mi_code n_M_isOn) 43 = .ok (.getfield 13, 3) := by decide +kernel
theorem d_M_isOn_46 : decode (mi_code n_M_isOn) 46 = .ok (.iload 4, 2) := by decide +kernel
theorem d_M_isOn_48 : decode (mi_code n_M_isOn) 48 = .ok (.iaload, 1) := by decide +kernel
theorem d_M_isOn_49 : decode (mi_code n_M_isOn) 49 = .ok (.ishr, 1) := by decide +kernel
theorem d_M_isOn_50 : decode (mi_code n_M_isOn) 50 = .ok (.iconst 1, 1) := by decide +kernel
theorem d_M_isOn_51 : decode (mi_code n_M_isOn) 51 = .ok (.iand, 1) := by decide +kernel
theorem d_M_isOn_52 : decode (mi_code n_M_isOn) 52 = .ok (.iconst 1, 1) := by decide +kernel
theorem d_M_isOn_53 : decode (mi_code n_M_isOn) 53 = .ok (.if_icmp .ne 7, 3) := by decide +kernel
theorem d_M_isOn_56 : decode (mi_code n_M_isOn) 56 = .ok (.iconst 1, 1) := by decide +kernel
theorem d_M_isOn_57 : decode (mi_code n_M_isOn) 57 = .ok (.goto 4, 3) := by decide +kernel
theorem d_M_isOn_60 : decode (mi_code n_M_isOn) 60 = .ok (.iconst 0, 1) := by decide +kernel
theorem d_M_isOn_61 : decode (mi_code n_M_isOn) 61 = .ok (.istore 5, 2) := by decide +kernel
theorem d_M_isOn_63 : decode (mi_code n_M_isOn) 63 = .ok (.iload_n 3, 1) := by decide +kernel
theorem d_M_isOn_64 : decode (mi_code n_M_isOn) 64 = .ok (.iload 5, 2) := by decide +kernel
theorem d_M_isOn_66 : decode (mi_code n_M_isOn) 66 = .ok (.ifCond .eq 10, 3) := by decide +kernel
theorem d_M_isOn_69 : decode (mi_code n_M_isOn) 69 = .ok (.iconst 1, 1) := by decide +kernel
theorem d_M_isOn_70 : decode (mi_code n_M_isOn) 70 = .ok (.iload 4, 2) := by decide +kernel
theorem d_M_isOn_72 : decode (mi_code n_M_isOn) 72 = .ok (.ishl, 1) := by decide +kernel
theorem d_M_isOn_73 : decode (mi_code n_M_isOn) 73 = .ok (.goto 4, 3) := by decide +kernel
theorem d_M_isOn_76 : decode (mi_code n_M_isOn) 76 = .ok (.iconst 0, 1) := by decide +kernel
theorem d_M_isOn_77 : decode (mi_code n_M_isOn) 77 = .ok (.ior, 1) := by decide +kernel
theorem d_M_isOn_78 : decode (mi_code n_M_isOn) 78 = .ok (.istore_n 3, 1) := by decide +kernel
theorem d_M_isOn_79 : decode (mi_code n_M_isOn) 79 = .ok (.iinc 4 1, 3) := by decide +kernel
theorem d_M_isOn_82 : decode (mi_code n_M_isOn) 82 = .ok (.goto (-73), 3) := by decide +kernel
theorem d_M_isOn_85 : decode (mi_code n_M_isOn) 85 = .ok (.iload_n 3, 1) := by decide +kernel
theorem d_M_isOn_86 : decode (mi_code n_M_isOn) 86 = .ok (.iload_n 1, 1) := by decide +kernel
theorem d_M_isOn_87 : decode (mi_code n_M_isOn) 87 = .ok (.ishr, 1) := by decide +kernel
theorem d_M_isOn_88 : decode (mi_code n_M_isOn) 88 = .ok (.iconst 1, 1) := by decide +kernel
theorem d_M_isOn_89 : decode (mi_code n_M_isOn) 89 = .ok (.iand, 1) := by decide +kernel
theorem d_M_isOn_90 : decode (mi_code n_M_isOn) 90 = .ok (.iconst 1, 1) := by decide +kernel
theorem d_M_isOn_91 : decode (mi_code n_M_isOn) 91 = .ok (.if_icmp .ne 7, 3) := by decide +kernel
theorem d_M_isOn_94 : decode (mi_code n_M_isOn) 94 = .ok (.iconst 1, 1) := by decide +kernel
theorem d_M_isOn_95 : decode (mi_code n_M_isOn) 95 = .ok (.goto 4, 3) := by decide +kernel
theorem d_M_isOn_98 : decode (mi_code n_M_isOn) 98 = .ok (.iconst 0, 1) := by decide +kernel
theorem d_M_isOn_99 : decode (mi_code n_M_isOn) 99 = .ok (.ireturn, 1) := by decide +kernel
theorem d_M_isOpen_0 : decode (mi_code n_M_isOpen) 0 = .ok (.aload_n 0, 1) := by decide +kernel
theorem d_M_isOpen_1 : decode (mi_code n_M_isOpen) 1 = .ok (.iload_n 1, 1) := by decide +kernel
theorem d_M_isOpen_2 : decode (mi_code n_M_isOpen) 2 = .ok (.invokevirtual 130, 3) := by decide +kernel
theorem d_M_isOpen_5 : decode (mi_code n_M_isOpen) 5 = .ok (.ifCond .eq 26, 3) := by decide +kernel
theorem d_M_isOpen_8 : decode (mi_code n_M_isOpen) 8 = .ok (.aload_n 0, 1) := by decide +kernel
theorem d_M_isOpen_9 : decode (mi_code n_M_isOpen) 9 = .ok (.getfield 7, 3) := by decide +kernel
theorem d_M_isOpen_12 : decode (mi_code n_M_isOpen) 12 = .ok (.iload_n 1, 1) := by decide +kernel
theorem d_M_isOpen_13 : decode (mi_code n_M_isOpen) 13 = .ok (.iaload, 1) := by decide +kernel
theorem d_M_isOpen_14 : decode (mi_code n_M_isOpen) 14 = .ok (.iconst (-1), 1) := by decide +kernel
theorem d_M_isOpen_15 : decode (mi_code n_M_isOpen) 15 = .ok (.if_icmp .ne 16, 3) := by decide +kernel
theorem d_M_isOpen_18 : decode (mi_code n_M_isOpen) 18 = .ok (.aload_n 0, 1) := by decide +kernel
theorem d_M_isOpen_19 : decode (mi_code n_M_isOpen) 19 = .ok (.getfield 22, 3) := by decide +kernel
theorem d_M_isOpen_22 : decode (mi_code n_M_isOpen) 22 = .ok (.iload_n 1, 1) := by decide +kernel
theorem d_M_isOpen_23 : decode (mi_code n_M_isOpen) 23 = .ok (.baload, 1) := by decide +kernel
theorem d_M_isOpen_24 : decode (mi_code n_M_isOpen) 24 = .ok (.ifCond .ne 7, 3) := by decide +kernel
theorem d_M_isOpen_27 : decode (mi_code n_M_isOpen) 27 = .ok (.iconst 1, 1) := by decide +kernel
theorem d_M_isOpen_28 : decode (mi_code n_M_isOpen) 28 = .ok (.goto 4, 3) := by decide +kernel
theorem d_M_isOpen_31 : decode (mi_code n_M_isOpen) 31 = .ok (.iconst 0, 1) := by decide +kernel
theorem d_M_isOpen_32 : decode (mi_code n_M_isOpen) 32 = .ok (.ireturn, 1) := by decide +kernel
theorem d_M_isPoint_0 : decode (mi_code n_M_isPoint) 0 = .ok (.iload_n 0, 1) := by decide +kernel
theorem d_M_isPoint_1 : decode (mi_code n_M_isPoint) 1 = .ok (.iconst 0, 1) := by decide +kernel
theorem d_M_isPoint_2 : decode (mi_code n_M_isPoint) 2 = .ok (.bipush 15, 2) := by decide +kernel
theorem d_M_isPoint_4 : decode (mi_code n_M_isPoint) 4 = .ok (.invokestatic 126, 3) := by decide +kernel
theorem d_M_isPoint_7 : decode (mi_code n_M_isPoint) 7 = .ok (.ifCond .eq 17, 3) := by decide +kernel
theorem d_M_isPoint_10 : decode (mi_code n_M_isPoint) 10 = .ok (.iload_n 1, 1) := by decide +kernel
theorem d_M_isPoint_11 : decode (mi_code n_M_isPoint) 11 = .ok (.iconst 0, 1) := by decide +kernel
theorem d_M_isPoint_12 : decode (mi_code n_M_isPoint) 12 = .ok (.bipush 11, 2) := by decide +kernel
theorem d_M_isPoint_14 : decode (mi_code n_M_isPoint) 14 = .ok (.invokestatic 126, 3) := by decide +kernel
theorem d_M_isPoint_17 : decode (mi_code n_M_isPoint) 17 = .ok (.ifCond .eq 7, 3) := by decide +kernel
theorem d_M_isPoint_20 : decode (mi_code n_M_isPoint) 20 = .ok (.iconst 1, 1) := by decide +kernel
theorem d_M_isPoint_21 : decode (mi_code n_M_isPoint) 21 = .ok (.goto 4, 3) := by decide +kernel
theorem d_M_isPoint_24 : decode (mi_code n_M_isPoint) 24 = .ok (.iconst 0, 1) := by decide +kernel
theorem d_M_isPoint_25 : decode (mi_code n_M_isPoint) 25 = .ok (.ireturn, 1) := by decide +kernel
theorem d_M_isScene_0 : decode (mi_code n_M_isScene) 0 = .ok (.iload_n 1, 1) := by decide +kernel
theorem d_M_isScene_1 : decode (mi_code n_M_isScene) 1 = .ok (.iconst 0, 1) := by decide +kernel
theorem d_M_isScene_2 : decode (mi_code n_M_isScene) 2 = .ok (.aload_n 0, 1) := by decide +kernel
theorem d_M_isScene_3 : decode (mi_code n_M_isScene) 3 = .ok (.getfield 193, 3) := by decide +kernel
theorem d_M_isScene_6 : decode (mi_code n_M_isScene) 6 = .ok (.iconst 1, 1) := by decide +kernel
theorem d_M_isScene_7 : decode (mi_code n_M_isScene) 7 = .ok (.isub, 1) := by decide +kernel
theorem d_M_isScene_8 : decode (mi_code n_M_isScene) 8 = .ok (.invokestatic 126, 3) := by decide +kernel
theorem d_M_isScene_11 : decode (mi_code n_M_isScene) 11 = .ok (.ireturn, 1) := by decide +kernel
theorem d_M_isStale_0 : decode (mi_code n_M_isStale) 0 = .ok (.aload_n 0, 1) := by decide +kernel
theorem d_M_isStale_1 : decode (mi_code n_M_isStale) 1 = .ok (.getfield 104, 3) := by decide +kernel
theorem d_M_isStale_4 : decode (mi_code n_M_isStale) 4 = .ok (.bipush 24, 2) := by decide +kernel
theorem d_M_isStale_6 : decode (mi_code n_M_isStale) 6 = .ok (.iload_n 1, 1) := by decide +kernel
theorem d_M_isStale_7 : decode (mi_code n_M_isStale) 7 = .ok (.imul, 1) := by decide +kernel
theorem d_M_isStale_8 : decode (mi_code n_M_isStale) 8 = .ok (.iload_n 2, 1) := by decide +kernel
theorem d_M_isStale_9 : decode (mi_code n_M_isStale) 9 = .ok (.iadd, 1) := by decide +kernel
theorem d_M_isStale_10 : decode (mi_code n_M_isStale) 10 = .ok (.baload, 1) := by decide +kernel
theorem d_M_isStale_11 : decode (mi_code n_M_isStale) 11 = .ok (.ifCond .ne 7, 3) := by decide +kernel
theorem d_M_isStale_14 : decode (mi_code n_M_isStale) 14 = .ok (.iconst 1, 1) := by decide +kernel
theorem d_M_isStale_15 : decode (mi_code n_M_isStale) 15 = .ok (.goto 4, 3) := by decide +kernel
theorem d_M_isStale_18 : decode (mi_code n_M_isStale) 18 = .ok (.iconst 0, 1) := by decide +kernel
theorem d_M_isStale_19 : decode (mi_code n_M_isStale) 19 = .ok (.istore_n 3, 1) := by decide +kernel
theorem d_M_isStale_20 : decode (mi_code n_M_isStale) 20 = .ok (.iconst 0, 1) := by decide +kernel
theorem d_M_isStale_21 : decode (mi_code n_M_isStale) 21 = .ok (.istore 4, 2) := by decide +kernel
theorem d_M_isStale_23 : decode (mi_code n_M_isStale) 23 = .ok (.iload 4, 2) := by decide +kernel
theorem d_M_isStale_25 : decode (mi_code n_M_isStale) 25 = .ok (.sipush 192, 3) := by decide +kernel
theorem d_M_isStale_28 : decode (mi_code n_M_isStale) 28 = .ok (.if_icmp .ge 56, 3) := by decide +kernel
theorem d_M_isStale_31 : decode (mi_code n_M_isStale) 31 = .ok (.iload_n 3, 1) := by decide +kernel
theorem d_M_isStale_32 : decode (mi_code n_M_isStale) 32 = .ok (.ifCond .ne 52, 3) := by decide +kernel
theorem d_M_isStale_35 : decode (mi_code n_M_isStale) 35 = .ok (.aload_n 0, 1) := by decide +kernel
theorem d_M_isStale_36 : decode (mi_code n_M_isStale) 36 = .ok (.getfield 107, 3) := by decide +kernel
theorem d_M_isStale_39 : decode (mi_code n_M_isStale) 39 = .ok (.sipush 192, 3) := by decide +kernel
theorem d_M_isStale_42 : decode (mi_code n_M_isStale) 42 = .ok (.bipush 24, 2) := by decide +kernel
theorem d_M_isStale_44 : decode (mi_code n_M_isStale) 44 = .ok (.iload_n 1, 1) := by decide +kernel
theorem d_M_isStale_45 : decode (mi_code n_M_isStale) 45 = .ok (.imul, 1) := by decide +kernel
theorem d_M_isStale_46 : decode (mi_code n_M_isStale) 46 = .ok (.iload_n 2, 1) := by decide +kernel
theorem d_M_isStale_47 : decode (mi_code n_M_isStale) 47 = .ok (.iadd, 1) := by decide +kernel
theorem d_M_isStale_48 : decode (mi_code n_M_isStale) 48 = .ok (.imul, 1) := by decide +kernel
theorem d_M_isStale_49 : decode (mi_code n_M_isStale) 49 = .ok (.iload 4, 2) := by decide +kernel
theorem d_M_isStale_51 : decode (mi_code n_M_isStale) 51 = .ok (.iadd, 1) := by decide +kernel
theorem d_M_isStale_52 : decode (mi_code n_M_isStale) 52 = .ok (.iaload, 1) := by decide +kernel
theorem d_M_isStale_53 : decode (mi_code n_M_isStale) 53 = .ok (.aload_n 0, 1) := by decide +kernel
theorem d_M_isStale_54 : decode (mi_code n_M_isStale) 54 = .ok (.iload_n 1, 1) := by decide +kernel
theorem d_M_isStale_55 : decode (mi_code n_M_isStale) 55 = .ok (.iload_n 2, 1) := by decide +kernel
theorem d_M_isStale_56 : decode (mi_code n_M_isStale) 56 = .ok (.iload 4, 2) := by decide +kernel
theorem d_M_isStale_58 : decode (mi_code n_M_isStale) 58 = .ok (.bipush 16, 2) := by decide +kernel
theorem d_M_isStale_60 : decode (mi_code n_M_isStale) 60 = .ok (.irem, 1) := by decide +kernel
theorem d_M_isStale_61 : decode (mi_code n_M_isStale) 61 = .ok (.iload 4, 2) := by decide +kernel
theorem d_M_isStale_63 : decode (mi_code n_M_isStale) 63 = .ok (.bipush 16, 2) := by decide +kernel
theorem d_M_isStale_65 : decode (mi_code n_M_isStale) 65 = .ok (.idiv, 1) := by decide +kernel
theorem d_M_isStale_66 : decode (mi_code n_M_isStale) 66 = .ok (.invokevirtual 226, 3) := by decide +kernel
theorem d_M_isStale_69 : decode (mi_code n_M_isStale) 69 = .ok (.if_icmp .eq 7, 3) := by decide +kernel
theorem d_M_isStale_72 : decode (mi_code n_M_isStale) 72 = .ok (.iconst 1, 1) := by decide +kernel
theorem d_M_isStale_73 : decode (mi_code n_M_isStale) 73 = .ok (.goto 4, 3) := by decide +kernel
theorem d_M_isStale_76 : decode (mi_code n_M_isStale) 76 = .ok (.iconst 0, 1) := by decide +kernel
theorem d_M_isStale_77 : decode (mi_code n_M_isStale) 77 = .ok (.istore_n 3, 1) := by decide +kernel
theorem d_M_isStale_78 : decode (mi_code n_M_isStale) 78 = .ok (.iinc 4 1, 3) := by decide +kernel
theorem d_M_isStale_81 : decode (mi_code n_M_isStale) 81 = .ok (.goto (-58), 3) := by decide +kernel
theorem d_M_isStale_84 : decode (mi_code n_M_isStale) 84 = .ok (.iload_n 3, 1) := by decide +kernel
theorem d_M_isStale_85 : decode (mi_code n_M_isStale) 85 = .ok (.ireturn, 1) := by decide +kernel
theorem d_M_key_0 : decode (mi_code n_M_key) 0 = .ok (.aload_n 0, 1) := by decide +kernel
theorem d_M_key_1 : decode (mi_code n_M_key) 1 = .ok (.aload_n 0, 1) := by decide +kernel
theorem d_M_key_2 : decode (mi_code n_M_key) 2 = .ok (.getfield 123, 3) := by decide +kernel
theorem d_M_key_5 : decode (mi_code n_M_key) 5 = .ok (.bipush 16, 2) := by decide +kernel
theorem d_M_key_7 : decode (mi_code n_M_key) 7 = .ok (.if_icmp .ge 7, 3) := by decide +kernel
theorem d_M_key_10 : decode (mi_code n_M_key) 10 = .ok (.iconst 1, 1) := by decide +kernel
theorem d_M_key_11 : decode (mi_code n_M_key) 11 = .ok (.goto 4, 3) := by decide +kernel
theorem d_M_key_14 : decode (mi_code n_M_key) 14 = .ok (.iconst 0, 1) := by decide +kernel
theorem d_M_key_15 : decode (mi_code n_M_key) 15 = .ok (.invokevirtual 138, 3) := by decide +kernel
theorem d_M_key_18 : decode (mi_code n_M_key) 18 = .ok (.ifCond .eq 14, 3) := by decide +kernel
theorem d_M_key_21 : decode (mi_code n_M_key) 21 = .ok (.aload_n 0, 1) := by decide +kernel
theorem d_M_key_22 : decode (mi_code n_M_key) 22 = .ok (.iconst (-1), 1) := by decide +kernel
theorem d_M_key_23 : decode (mi_code n_M_key) 23 = .ok (.iconst (-1), 1) := by decide +kernel
theorem d_M_key_24 : decode (mi_code n_M_key) 24 = .ok (.iconst 0, 1) := by decide +kernel
theorem d_M_key_25 : decode (mi_code n_M_key) 25 = .ok (.iconst 1, 1) := by decide +kernel
theorem d_M_key_26 : decode (mi_code n_M_key) 26 = .ok (.invokevirtual 142, 3) := by decide +kernel
theorem d_M_key_29 : decode (mi_code n_M_key) 29 = .ok (.goto 4, 3) := by decide +kernel
theorem d_M_key_32 : decode (mi_code n_M_key) 32 = .ok (.iconst 0, 1) := by decide +kernel
theorem d_M_key_33 : decode (mi_code n_M_key) 33 = .ok (.ireturn, 1) := by decide +kernel
theorem d_M_lays_0 : decode (mi_code n_M_lays) 0 = .ok (.iconst 0, 1) := by decide +kernel
theorem d_M_lays_1 : decode (mi_code n_M_lays) 1 = .ok (.istore_n 1, 1) := by decide +kernel
theorem d_M_lays_2 : decode (mi_code n_M_lays) 2 = .ok (.iload_n 1, 1) := by decide +kernel
theorem d_M_lays_3 : decode (mi_code n_M_lays) 3 = .ok (.aload_n 0, 1) := by decide +kernel
theorem d_M_lays_4 : decode (mi_code n_M_lays) 4 = .ok (.getfield 123, 3) := by decide +kernel
theorem d_M_lays_7 : decode (mi_code n_M_lays) 7 = .ok (.if_icmp .ge 36, 3) := by decide +kernel
theorem d_M_lays_10 : decode (mi_code n_M_lays) 10 = .ok (.aload_n 0, 1) := by decide +kernel
theorem d_M_lays_11 : decode (mi_code n_M_lays) 11 = .ok (.getfield 134, 3) := by decide +kernel
theorem d_M_lays_14 : decode (mi_code n_M_lays) 14 = .ok (.ifCond .eq 29, 3) := by decide +kernel
theorem d_M_lays_17 : decode (mi_code n_M_lays) 17 = .ok (.aload_n 0, 1) := by decide +kernel
theorem d_M_lays_18 : decode (mi_code n_M_lays) 18 = .ok (.getfield 7, 3) := by decide +kernel
theorem d_M_lays_21 : decode (mi_code n_M_lays) 21 = .ok (.iload_n 1, 1) := by decide +kernel
theorem d_M_lays_22 : decode (mi_code n_M_lays) 22 = .ok (.iaload, 1) := by decide +kernel
theorem d_M_lays_23 : decode (mi_code n_M_lays) 23 = .ok (.iconst (-1), 1) := by decide +kernel
theorem d_M_lays_24 : decode (mi_code n_M_lays) 24 = .ok (.if_icmp .eq 8, 3) := by decide +kernel
theorem d_M_lays_27 : decode (mi_code n_M_lays) 27 = .ok (.aload_n 0, 1) := by decide +kernel
theorem d_M_lays_28 : decode (mi_code n_M_lays) 28 = .ok (.iload_n 1, 1) := by decide +kernel
theorem d_M_lays_29 : decode (mi_code n_M_lays) 29 = .ok (.invokevirtual 186, 3) := by decide +kernel
theorem d_M_lays_32 : decode (mi_code n_M_lays) 32 = .ok (.aload_n 0, 1) := by decide +kernel
theorem d_M_lays_33 : decode (mi_code n_M_lays) 33 = .ok (.iload_n 1, 1) := by decide +kernel
theorem d_M_lays_34 : decode (mi_code n_M_lays) 34 = .ok (.invokevirtual 190, 3) := by decide +kernel
theorem d_M_lays_37 : decode (mi_code n_M_lays) 37 = .ok (.iinc 1 1, 3) := by decide +kernel
theorem d_M_lays_40 : decode (mi_code n_M_lays) 40 = .ok (.goto (-38), 3) := by decide +kernel
theorem d_M_lays_43 : decode (mi_code n_M_lays) 43 = .ok (.aload_n 0, 1) := by decide +kernel
theorem d_M_lays_44 : decode (mi_code n_M_lays) 44 = .ok (.iconst 0, 1) := by decide +kernel
theorem d_M_lays_45 : decode (mi_code n_M_lays) 45 = .ok (.putfield 134, 3) := by decide +kernel
theorem d_M_lays_48 : decode (mi_code n_M_lays) 48 = .ok (.return_, 1) := by decide +kernel
theorem d_M_makes_0 : decode (mi_code n_M_makes) 0 = .ok (.aload_n 0, 1) := by decide +kernel
theorem d_M_makes_1 : decode (mi_code n_M_makes) 1 = .ok (.getfield 7, 3) := by decide +kernel
theorem d_M_makes_4 : decode (mi_code n_M_makes) 4 = .ok (.aload_n 0, 1) := by decide +kernel
theorem d_M_makes_5 : decode (mi_code n_M_makes) 5 = .ok (.getfield 123, 3) := by decide +kernel
theorem d_M_makes_8 : decode (mi_code n_M_makes) 8 = .ok (.iload_n 1, 1) := by decide +kernel
theorem d_M_makes_9 : decode (mi_code n_M_makes) 9 = .ok (.iastore, 1) := by decide +kernel
theorem d_M_makes_10 : decode (mi_code n_M_makes) 10 = .ok (.aload_n 0, 1) := by decide +kernel
theorem d_M_makes_11 : decode (mi_code n_M_makes) 11 = .ok (.getfield 13, 3) := by decide +kernel
theorem d_M_makes_14 : decode (mi_code n_M_makes) 14 = .ok (.aload_n 0, 1) := by decide +kernel
theorem d_M_makes_15 : decode (mi_code n_M_makes) 15 = .ok (.getfield 123, 3) := by decide +kernel
theorem d_M_makes_18 : decode (mi_code n_M_makes) 18 = .ok (.iload_n 2, 1) := by decide +kernel
theorem d_M_makes_19 : decode (mi_code n_M_makes) 19 = .ok (.iastore, 1) := by decide +kernel
theorem d_M_makes_20 : decode (mi_code n_M_makes) 20 = .ok (.aload_n 0, 1) := by decide +kernel
theorem d_M_makes_21 : decode (mi_code n_M_makes) 21 = .ok (.getfield 16, 3) := by decide +kernel
theorem d_M_makes_24 : decode (mi_code n_M_makes) 24 = .ok (.aload_n 0, 1) := by decide +kernel
theorem d_M_makes_25 : decode (mi_code n_M_makes) 25 = .ok (.getfield 123, 3) := by decide +kernel
theorem d_M_makes_28 : decode (mi_code n_M_makes) 28 = .ok (.iload_n 3, 1) := by decide +kernel
theorem d_M_makes_29 : decode (mi_code n_M_makes) 29 = .ok (.iastore, 1) := by decide +kernel
theorem d_M_makes_30 : decode (mi_code n_M_makes) 30 = .ok (.aload_n 0, 1) := by decide +kernel
theorem d_M_makes_31 : decode (mi_code n_M_makes) 31 = .ok (.getfield 19, 3) := by decide +kernel
theorem d_M_makes_34 : decode (mi_code n_M_makes) 34 = .ok (.aload_n 0, 1) := by decide +kernel
theorem d_M_makes_35 : decode (mi_code n_M_makes) 35 = .ok (.getfield 123, 3) := by decide +kernel
theorem d_M_makes_38 : decode (mi_code n_M_makes) 38 = .ok (.iload 4, 2) := by decide +kernel
theorem d_M_makes_40 : decode (mi_code n_M_makes) 40 = .ok (.iastore, 1) := by decide +kernel
theorem d_M_makes_41 : decode (mi_code n_M_makes) 41 = .ok (.aload_n 0, 1) := by decide +kernel
theorem d_M_makes_42 : decode (mi_code n_M_makes) 42 = .ok (.iconst 1, 1) := by decide +kernel
theorem d_M_makes_43 : decode (mi_code n_M_makes) 43 = .ok (.putfield 134, 3) := by decide +kernel
theorem d_M_makes_46 : decode (mi_code n_M_makes) 46 = .ok (.aload_n 0, 1) := by decide +kernel
theorem d_M_makes_47 : decode (mi_code n_M_makes) 47 = .ok (.dup, 1) := by decide +kernel
theorem d_M_makes_48 : decode (mi_code n_M_makes) 48 = .ok (.getfield 123, 3) := by decide +kernel
theorem d_M_makes_51 : decode (mi_code n_M_makes) 51 = .ok (.iconst 1, 1) := by decide +kernel
theorem d_M_makes_52 : decode (mi_code n_M_makes) 52 = .ok (.iadd, 1) := by decide +kernel
theorem d_M_makes_53 : decode (mi_code n_M_makes) 53 = .ok (.putfield 123, 3) := by decide +kernel
theorem d_M_makes_56 : decode (mi_code n_M_makes) 56 = .ok (.aload_n 0, 1) := by decide +kernel
theorem d_M_makes_57 : decode (mi_code n_M_makes) 57 = .ok (.getfield 123, 3) := by decide +kernel
theorem d_M_makes_60 : decode (mi_code n_M_makes) 60 = .ok (.iconst 1, 1) := by decide +kernel
theorem d_M_makes_61 : decode (mi_code n_M_makes) 61 = .ok (.isub, 1) := by decide +kernel
theorem d_M_makes_62 : decode (mi_code n_M_makes) 62 = .ok (.ireturn, 1) := by decide +kernel
theorem d_M_mouth_0 : decode (mi_code n_M_mouth) 0 = .ok (.aload_n 0, 1) := by decide +kernel
theorem d_M_mouth_1 : decode (mi_code n_M_mouth) 1 = .ok (.iload_n 1, 1) := by decide +kernel
theorem d_M_mouth_2 : decode (mi_code n_M_mouth) 2 = .ok (.iconst 0, 1) := by decide +kernel
theorem d_M_mouth_3 : decode (mi_code n_M_mouth) 3 = .ok (.bipush 7, 2) := by decide +kernel
theorem d_M_mouth_5 : decode (mi_code n_M_mouth) 5 = .ok (.invokestatic 126, 3) := by decide +kernel
theorem d_M_mouth_8 : decode (mi_code n_M_mouth) 8 = .ok (.ifCond .eq 20, 3) := by decide +kernel
theorem d_M_mouth_11 : decode (mi_code n_M_mouth) 11 = .ok (.iload_n 2, 1) := by decide +kernel
theorem d_M_mouth_12 : decode (mi_code n_M_mouth) 12 = .ok (.iconst (-1), 1) := by decide +kernel
theorem d_M_mouth_13 : decode (mi_code n_M_mouth) 13 = .ok (.if_icmp .eq 11, 3) := by decide +kernel
theorem d_M_mouth_16 : decode (mi_code n_M_mouth) 16 = .ok (.aload_n 0, 1) := by decide +kernel
theorem d_M_mouth_17 : decode (mi_code n_M_mouth) 17 = .ok (.iload_n 2, 1) := by decide +kernel
theorem d_M_mouth_18 : decode (mi_code n_M_mouth) 18 = .ok (.invokevirtual 130, 3) := by decide +kernel
theorem d_M_mouth_21 : decode (mi_code n_M_mouth) 21 = .ok (.ifCond .eq 7, 3) := by decide +kernel
theorem d_M_mouth_24 : decode (mi_code n_M_mouth) 24 = .ok (.iconst 1, 1) := by decide +kernel
theorem d_M_mouth_25 : decode (mi_code n_M_mouth) 25 = .ok (.goto 4, 3) := by decide +kernel
theorem d_M_mouth_28 : decode (mi_code n_M_mouth) 28 = .ok (.iconst 0, 1) := by decide +kernel
theorem d_M_mouth_29 : decode (mi_code n_M_mouth) 29 = .ok (.invokevirtual 138, 3) := by decide +kernel
theorem d_M_mouth_32 : decode (mi_code n_M_mouth) 32 = .ok (.ifCond .ne 5, 3) := by decide +kernel
theorem d_M_mouth_35 : decode (mi_code n_M_mouth) 35 = .ok (.iconst 0, 1) := by decide +kernel
theorem d_M_mouth_36 : decode (mi_code n_M_mouth) 36 = .ok (.ireturn, 1) := by decide +kernel
theorem d_M_mouth_37 : decode (mi_code n_M_mouth) 37 = .ok (.aload_n 0, 1) := by decide +kernel
theorem d_M_mouth_38 : decode (mi_code n_M_mouth) 38 = .ok (.getfield 86, 3) := by decide +kernel
theorem d_M_mouth_41 : decode (mi_code n_M_mouth) 41 = .ok (.iload_n 1, 1) := by decide +kernel
theorem d_M_mouth_42 : decode (mi_code n_M_mouth) 42 = .ok (.iaload, 1) := by decide +kernel
theorem d_M_mouth_43 : decode (mi_code n_M_mouth) 43 = .ok (.istore_n 3, 1) := by decide +kernel
theorem d_M_mouth_44 : decode (mi_code n_M_mouth) 44 = .ok (.aload_n 0, 1) := by decide +kernel
theorem d_M_mouth_45 : decode (mi_code n_M_mouth) 45 = .ok (.getfield 86, 3) := by decide +kernel
theorem d_M_mouth_48 : decode (mi_code n_M_mouth) 48 = .ok (.iload_n 1, 1) := by decide +kernel
theorem d_M_mouth_49 : decode (mi_code n_M_mouth) 49 = .ok (.iload_n 2, 1) := by decide +kernel
theorem d_M_mouth_50 : decode (mi_code n_M_mouth) 50 = .ok (.iastore, 1) := by decide +kernel
theorem d_M_mouth_51 : decode (mi_code n_M_mouth) 51 = .ok (.iload_n 3, 1) := by decide +kernel
theorem d_M_mouth_52 : decode (mi_code n_M_mouth) 52 = .ok (.ireturn, 1) := by decide +kernel
theorem d_M_move_0 : decode (mi_code n_M_move) 0 = .ok (.iload_n 1, 1) := by decide +kernel
theorem d_M_move_1 : decode (mi_code n_M_move) 1 = .ok (.iconst 0, 1) := by decide +kernel
theorem d_M_move_2 : decode (mi_code n_M_move) 2 = .ok (.aload_n 0, 1) := by decide +kernel
theorem d_M_move_3 : decode (mi_code n_M_move) 3 = .ok (.getfield 208, 3) := by decide +kernel
theorem d_M_move_6 : decode (mi_code n_M_move) 6 = .ok (.iconst 1, 1) := by decide +kernel
theorem d_M_move_7 : decode (mi_code n_M_move) 7 = .ok (.isub, 1) := by decide +kernel
theorem d_M_move_8 : decode (mi_code n_M_move) 8 = .ok (.invokestatic 126, 3) := by decide +kernel
theorem d_M_move_11 : decode (mi_code n_M_move) 11 = .ok (.istore 5, 2) := by decide +kernel
theorem d_M_move_13 : decode (mi_code n_M_move) 13 = .ok (.iconst (-1), 1) := by decide +kernel
theorem d_M_move_14 : decode (mi_code n_M_move) 14 = .ok (.istore 6, 2) := by decide +kernel
theorem d_M_move_16 : decode (mi_code n_M_move) 16 = .ok (.iconst 0, 1) := by decide +kernel
theorem d_M_move_17 : decode (mi_code n_M_move) 17 = .ok (.istore 7, 2) := by decide +kernel
theorem d_M_move_19 : decode (mi_code n_M_move) 19 = .ok (.iload 5, 2) := by decide +kernel
theorem d_M_move_21 : decode (mi_code n_M_move) 21 = .ok (.ifCond .eq 45, 3) := by decide +kernel
theorem d_M_move_24 : decode (mi_code n_M_move) 24 = .ok (.iload 7, 2) := by decide +kernel
theorem d_M_move_26 : decode (mi_code n_M_move) 26 = .ok (.aload_n 0, 1) := by decide +kernel
theorem d_M_move_27 : decode (mi_code n_M_move) 27 = .ok (.getfield 92, 3) := by decide +kernel
theorem d_M_move_30 : decode (mi_code n_M_move) 30 = .ok (.iload_n 1, 1) := by decide +kernel
theorem d_M_move_31 : decode (mi_code n_M_move) 31 = .ok (.iaload, 1) := by decide +kernel
theorem d_M_move_32 : decode (mi_code n_M_move) 32 = .ok (.if_icmp .ge 34, 3) := by decide +kernel
theorem d_M_move_35 : decode (mi_code n_M_move) 35 = .ok (.aload_n 0, 1) := by decide +kernel
theorem d_M_move_36 : decode (mi_code n_M_move) 36 = .ok (.getfield 95, 3) := by decide +kernel
theorem d_M_move_39 : decode (mi_code n_M_move) 39 = .ok (.bipush 6, 2) := by decide +kernel
theorem d_M_move_41 : decode (mi_code n_M_move) 41 = .ok (.iload_n 1, 1) := by decide +kernel
theorem d_M_move_42 : decode (mi_code n_M_move) 42 = .ok (.imul, 1) := by decide +kernel
theorem d_M_move_43 : decode (mi_code n_M_move) 43 = .ok (.iload 7, 2) := by decide +kernel
theorem d_M_move_45 : decode (mi_code n_M_move) 45 = .ok (.iadd, 1) := by decide +kernel
theorem d_M_move_46 : decode (mi_code n_M_move) 46 = .ok (.iaload, 1) := by decide +kernel
theorem d_M_move_47 : decode (mi_code n_M_move) 47 = .ok (.iload_n 2, 1) := by decide +kernel
theorem d_M_move_48 : decode (mi_code n_M_move) 48 = .ok (.if_icmp .ne 8, 3) := by decide +kernel
theorem d_M_move_51 : decode (mi_code n_M_move) 51 = .ok (.iload 7, 2) := by decide +kernel
theorem d_M_move_53 : decode (mi_code n_M_move) 53 = .ok (.goto 5, 3) := by decide +kernel
theorem d_M_move_56 : decode (mi_code n_M_move) 56 = .ok (.iload 6, 2) := by decide +kernel
theorem d_M_move_58 : decode (mi_code n_M_move) 58 = .ok (.istore 6, 2) := by decide +kernel
theorem d_M_move_60 : decode (mi_code n_M_move) 60 = .ok (.iinc 7 1, 3) := by decide +kernel
theorem d_M_move_63 : decode (mi_code n_M_move) 63 = .ok (.goto (-44), 3) := by decide +kernel
theorem d_M_move_66 : decode (mi_code n_M_move) 66 = .ok (.aload_n 0, 1) := by decide +kernel
theorem d_M_move_67 : decode (mi_code n_M_move) 67 = .ok (.iload 5, 2) := by decide +kernel
theorem d_M_move_69 : decode (mi_code n_M_move) 69 = .ok (.iload_n 2, 1) := by decide +kernel
theorem d_M_move_70 : decode (mi_code n_M_move) 70 = .ok (.iconst 0, 1) := by decide +kernel
theorem d_M_move_71 : decode (mi_code n_M_move) 71 = .ok (.bipush 23, 2) := by decide +kernel
theorem d_M_move_73 : decode (mi_code n_M_move) 73 = .ok (.invokestatic 126, 3) := by decide +kernel
theorem d_M_move_76 : decode (mi_code n_M_move) 76 = .ok (.ifCond .eq 30, 3) := by decide +kernel
theorem d_M_move_79 : decode (mi_code n_M_move) 79 = .ok (.iload_n 3, 1) := by decide +kernel
theorem d_M_move_80 : decode (mi_code n_M_move) 80 = .ok (.bipush (-20), 2) := by decide +kernel
theorem d_M_move_82 : decode (mi_code n_M_move) 82 = .ok (.bipush 20, 2) := by decide +kernel
theorem d_M_move_84 : decode (mi_code n_M_move) 84 = .ok (.invokestatic 126, 3) := by decide +kernel
theorem d_M_move_87 : decode (mi_code n_M_move) 87 = .ok (.ifCond .eq 19, 3) := by decide +kernel
theorem d_M_move_90 : decode (mi_code n_M_move) 90 = .ok (.iload 4, 2) := by decide +kernel
theorem d_M_move_92 : decode (mi_code n_M_move) 92 = .ok (.bipush (-20), 2) := by decide +kernel
theorem d_M_move_94 : decode (mi_code n_M_move) 94 = .ok (.bipush 20, 2) := by decide +kernel
theorem d_M_move_96 : decode (mi_code n_M_move) 96 = .ok (.invokestatic 126, 3) := by decide +kernel
theorem d_M_move_99 : decode (mi_code n_M_move) 99 = .ok (.ifCond .eq 7, 3) := by decide +kernel
theorem d_M_move_102 : decode (mi_code n_M_move) 102 = .ok (.iconst 1, 1) := by decide +kernel
theorem d_M_move_103 : decode (mi_code n_M_move) 103 = .ok (.goto 4, 3) := by decide +kernel
theorem d_M_move_106 : decode (mi_code n_M_move) 106 = .ok (.iconst 0, 1) := by decide +kernel
theorem d_M_move_107 : decode (mi_code n_M_move) 107 = .ok (.iload 5, 2) := by decide +kernel
theorem d_M_move_109 : decode (mi_code n_M_move) 109 = .ok (.ifCond .eq 24, 3) := by decide +kernel
theorem d_M_move_112 : decode (mi_code n_M_move) 112 = .ok (.iload 6, 2) := by decide +kernel
theorem d_M_move_114 : decode (mi_code n_M_move) 114 = .ok (.iconst (-1), 1) := by decide +kernel
theorem d_M_move_115 : decode (mi_code n_M_move) 115 = .ok (.if_icmp .ne 14, 3) := by decide +kernel
theorem d_M_move_118 : decode (mi_code n_M_move) 118 = .ok (.aload_n 0, 1) := by decide +kernel
theorem d_M_move_119 : decode (mi_code n_M_move) 119 = .ok (.getfield 92, 3) := by decide +kernel
theorem d_M_move_122 : decode (mi_code n_M_move) 122 = .ok (.iload_n 1, 1) := by decide +kernel
theorem d_M_move_123 : decode (mi_code n_M_move) 123 = .ok (.iaload, 1) := by decide +kernel
theorem d_M_move_124 : decode (mi_code n_M_move) 124 = .ok (.bipush 6, 2) := by decide +kernel
theorem d_M_move_126 : decode (mi_code n_M_move) 126 = .ok (.if_icmp .ge 7, 3) := by decide +kernel
theorem d_M_move_129 : decode (mi_code n_M_move) 129 = .ok (.iconst 1, 1) := by decide +kernel
theorem d_M_move_130 : decode (mi_code n_M_move) 130 = .ok (.goto 4, 3) := by decide +kernel
theorem d_M_move_133 : decode (mi_code n_M_move) 133 = .ok (.iconst 0, 1) := by decide +kernel
theorem d_M_move_134 : decode (mi_code n_M_move) 134 = .ok (.invokevirtual 146, 3) := by decide +kernel
theorem d_M_move_137 : decode (mi_code n_M_move) 137 = .ok (.ifCond .ne 5, 3) := by decide +kernel
theorem d_M_move_140 : decode (mi_code n_M_move) 140 = .ok (.iconst 0, 1) := by decide +kernel
theorem d_M_move_141 : decode (mi_code n_M_move) 141 = .ok (.ireturn, 1) := by decide +kernel
theorem d_M_move_142 : decode (mi_code n_M_move) 142 = .ok (.iload 6, 2) := by decide +kernel
theorem d_M_move_144 : decode (mi_code n_M_move) 144 = .ok (.iconst (-1), 1) := by decide +kernel
theorem d_M_move_145 : decode (mi_code n_M_move) 145 = .ok (.if_icmp .ne 21, 3) := by decide +kernel
theorem d_M_move_148 : decode (mi_code n_M_move) 148 = .ok (.aload_n 0, 1) := by decide +kernel
theorem d_M_move_149 : decode (mi_code n_M_move) 149 = .ok (.getfield 92, 3) := by decide +kernel
theorem d_M_move_152 : decode (mi_code n_M_move) 152 = .ok (.iload_n 1, 1) := by decide +kernel
theorem d_M_move_153 : decode (mi_code n_M_move) 153 = .ok (.iaload, 1) := by decide +kernel
theorem d_M_move_154 : decode (mi_code n_M_move) 154 = .ok (.istore 6, 2) := by decide +kernel
theorem d_M_move_156 : decode (mi_code n_M_move) 156 = .ok (.aload_n 0, 1) := by decide +kernel
theorem d_M_move_157 : decode (mi_code n_M_move) 157 = .ok (.getfield 92, 3) := by decide +kernel
theorem d_M_move_160 : decode (mi_code n_M_move) 160 = .ok (.iload_n 1, 1) := by decide +kernel
theorem d_M_move_161 : decode (mi_code n_M_move) 161 = .ok (.dup2, 1) := by decide +kernel
theorem d_M_move_162 : decode (mi_code n_M_move) 162 = .ok (.iaload, 1) := by decide +kernel
theorem d_M_move_163 : decode (mi_code n_M_move) 163 = .ok (.iconst 1, 1) := by decide +kernel
theorem d_M_move_164 : decode (mi_code n_M_move) 164 = .ok (.iadd, 1) := by decide +kernel
theorem d_M_move_165 : decode (mi_code n_M_move) 165 = .ok (.iastore, 1) := by decide +kernel
theorem d_M_move_166 : decode (mi_code n_M_move) 166 = .ok (.aload_n 0, 1) := by decide +kernel
theorem d_M_move_167 : decode (mi_code n_M_move) 167 = .ok (.getfield 95, 3) := by decide +kernel
theorem d_M_move_170 : decode (mi_code n_M_move) 170 = .ok (.bipush 6, 2) := by decide +kernel
theorem d_M_move_172 : decode (mi_code n_M_move) 172 = .ok (.iload_n 1, 1) := by decide +kernel
theorem d_M_move_173 : decode (mi_code n_M_move) 173 = .ok (.imul, 1) := by decide +kernel
theorem d_M_move_174 : decode (mi_code n_M_move) 174 = .ok (.iload 6, 2) := by decide +kernel
theorem d_M_move_176 : decode (mi_code n_M_move) 176 = .ok (.iadd, 1) := by decide +kernel
theorem d_M_move_177 : decode (mi_code n_M_move) 177 = .ok (.iload_n 2, 1) := by decide +kernel
theorem d_M_move_178 : decode (mi_code n_M_move) 178 = .ok (.iastore, 1) := by decide +kernel
theorem d_M_move_179 : decode (mi_code n_M_move) 179 = .ok (.aload_n 0, 1) := by decide +kernel
theorem d_M_move_180 : decode (mi_code n_M_move) 180 = .ok (.getfield 98, 3) := by decide +kernel
theorem d_M_move_183 : decode (mi_code n_M_move) 183 = .ok (.bipush 6, 2) := by decide +kernel
theorem d_M_move_185 : decode (mi_code n_M_move) 185 = .ok (.iload_n 1, 1) := by decide +kernel
theorem d_M_move_186 : decode (mi_code n_M_move) 186 = .ok (.imul, 1) := by decide +kernel
theorem d_M_move_187 : decode (mi_code n_M_move) 187 = .ok (.iload 6, 2) := by decide +kernel
theorem d_M_move_189 : decode (mi_code n_M_move) 189 = .ok (.iadd, 1) := by decide +kernel
theorem d_M_move_190 : decode (mi_code n_M_move) 190 = .ok (.iload_n 3, 1) := by decide +kernel
theorem d_M_move_191 : decode (mi_code n_M_move) 191 = .ok (.iastore, 1) := by decide +kernel
theorem d_M_move_192 : decode (mi_code n_M_move) 192 = .ok (.aload_n 0, 1) := by decide +kernel
theorem d_M_move_193 : decode (mi_code n_M_move) 193 = .ok (.getfield 101, 3) := by decide +kernel
theorem d_M_move_196 : decode (mi_code n_M_move) 196 = .ok (.bipush 6, 2) := by decide +kernel
theorem d_M_move_198 : decode (mi_code n_M_move) 198 = .ok (.iload_n 1, 1) := by decide +kernel
theorem d_M_move_199 : decode (mi_code n_M_move) 199 = .ok (.imul, 1) := by decide +kernel
theorem d_M_move_200 : decode (mi_code n_M_move) 200 = .ok (.iload 6, 2) := by decide +kernel
theorem d_M_move_202 : decode (mi_code n_M_move) 202 = .ok (.iadd, 1) := by decide +kernel
theorem d_M_move_203 : decode (mi_code n_M_move) 203 = .ok (.iload 4, 2) := by decide +kernel
theorem d_M_move_205 : decode (mi_code n_M_move) 205 = .ok (.iastore, 1) := by decide +kernel
theorem d_M_move_206 : decode (mi_code n_M_move) 206 = .ok (.aload_n 0, 1) := by decide +kernel
theorem d_M_move_207 : decode (mi_code n_M_move) 207 = .ok (.getfield 92, 3) := by decide +kernel
theorem d_M_move_210 : decode (mi_code n_M_move) 210 = .ok (.iload_n 1, 1) := by decide +kernel
theorem d_M_move_211 : decode (mi_code n_M_move) 211 = .ok (.iaload, 1) := by decide +kernel
theorem d_M_move_212 : decode (mi_code n_M_move) 212 = .ok (.ireturn, 1) := by decide +kernel
theorem d_M_moved_0 : decode (mi_code n_M_moved) 0 = .ok (.aload_n 0, 1) := by decide +kernel
theorem d_M_moved_1 : decode (mi_code n_M_moved) 1 = .ok (.aload_n 0, 1) := by decide +kernel
theorem d_M_moved_2 : decode (mi_code n_M_moved) 2 = .ok (.iload_n 1, 1) := by decide +kernel
theorem d_M_moved_3 : decode (mi_code n_M_moved) 3 = .ok (.iload_n 2, 1) := by decide +kernel
theorem d_M_moved_4 : decode (mi_code n_M_moved) 4 = .ok (.invokevirtual 199, 3) := by decide +kernel
theorem d_M_moved_7 : decode (mi_code n_M_moved) 7 = .ok (.ifCond .eq 16, 3) := by decide +kernel
theorem d_M_moved_10 : decode (mi_code n_M_moved) 10 = .ok (.aload_n 0, 1) := by decide +kernel
theorem d_M_moved_11 : decode (mi_code n_M_moved) 11 = .ok (.iload_n 1, 1) := by decide +kernel
theorem d_M_moved_12 : decode (mi_code n_M_moved) 12 = .ok (.iload_n 3, 1) := by decide +kernel
theorem d_M_moved_13 : decode (mi_code n_M_moved) 13 = .ok (.invokevirtual 202, 3) := by decide +kernel
theorem d_M_moved_16 : decode (mi_code n_M_moved) 16 = .ok (.ifCond .eq 7, 3) := by decide +kernel
theorem d_M_moved_19 : decode (mi_code n_M_moved) 19 = .ok (.iconst 1, 1) := by decide +kernel
theorem d_M_moved_20 : decode (mi_code n_M_moved) 20 = .ok (.goto 4, 3) := by decide +kernel
theorem d_M_moved_23 : decode (mi_code n_M_moved) 23 = .ok (.iconst 0, 1) := by decide +kernel
theorem d_M_moved_24 : decode (mi_code n_M_moved) 24 = .ok (.invokevirtual 138, 3) := by decide +kernel
theorem d_M_moved_27 : decode (mi_code n_M_moved) 27 = .ok (.ifCond .eq 15, 3) := by decide +kernel
theorem d_M_moved_30 : decode (mi_code n_M_moved) 30 = .ok (.aload_n 0, 1) := by decide +kernel
theorem d_M_moved_31 : decode (mi_code n_M_moved) 31 = .ok (.iload_n 1, 1) := by decide +kernel
theorem d_M_moved_32 : decode (mi_code n_M_moved) 32 = .ok (.iload_n 2, 1) := by decide +kernel
theorem d_M_moved_33 : decode (mi_code n_M_moved) 33 = .ok (.iload_n 3, 1) := by decide +kernel
theorem d_M_moved_34 : decode (mi_code n_M_moved) 34 = .ok (.iload 4, 2) := by decide +kernel
theorem d_M_moved_36 : decode (mi_code n_M_moved) 36 = .ok (.invokevirtual 222, 3) := by decide +kernel
theorem d_M_moved_39 : decode (mi_code n_M_moved) 39 = .ok (.goto 4, 3) := by decide +kernel
theorem d_M_moved_42 : decode (mi_code n_M_moved) 42 = .ok (.iconst 0, 1) := by decide +kernel
theorem d_M_moved_43 : decode (mi_code n_M_moved) 43 = .ok (.ireturn, 1) := by decide +kernel
theorem d_M_movedBy_0 : decode (mi_code n_M_movedBy) 0 = .ok (.aload_n 0, 1) := by decide +kernel
theorem d_M_movedBy_1 : decode (mi_code n_M_movedBy) 1 = .ok (.getfield 80, 3) := by decide +kernel
theorem d_M_movedBy_4 : decode (mi_code n_M_movedBy) 4 = .ok (.iconst 5, 1) := by decide +kernel
theorem d_M_movedBy_5 : decode (mi_code n_M_movedBy) 5 = .ok (.iload_n 1, 1) := by decide +kernel
theorem d_M_movedBy_6 : decode (mi_code n_M_movedBy) 6 = .ok (.imul, 1) := by decide +kernel
theorem d_M_movedBy_7 : decode (mi_code n_M_movedBy) 7 = .ok (.iload_n 2, 1) := by decide +kernel
theorem d_M_movedBy_8 : decode (mi_code n_M_movedBy) 8 = .ok (.iadd, 1) := by decide +kernel
theorem d_M_movedBy_9 : decode (mi_code n_M_movedBy) 9 = .ok (.iaload, 1) := by decide +kernel
theorem d_M_movedBy_10 : decode (mi_code n_M_movedBy) 10 = .ok (.iconst (-1), 1) := by decide +kernel
theorem d_M_movedBy_11 : decode (mi_code n_M_movedBy) 11 = .ok (.if_icmp .ne 7, 3) := by decide +kernel
theorem d_M_movedBy_14 : decode (mi_code n_M_movedBy) 14 = .ok (.iconst 0, 1) := by decide +kernel
theorem d_M_movedBy_15 : decode (mi_code n_M_movedBy) 15 = .ok (.goto 20, 3) := by decide +kernel
theorem d_M_movedBy_18 : decode (mi_code n_M_movedBy) 18 = .ok (.aload_n 0, 1) := by decide +kernel
theorem d_M_movedBy_19 : decode (mi_code n_M_movedBy) 19 = .ok (.aload_n 0, 1) := by decide +kernel
theorem d_M_movedBy_20 : decode (mi_code n_M_movedBy) 20 = .ok (.getfield 80, 3) := by decide +kernel
theorem d_M_movedBy_23 : decode (mi_code n_M_movedBy) 23 = .ok (.iconst 5, 1) := by decide +kernel
theorem d_M_movedBy_24 : decode (mi_code n_M_movedBy) 24 = .ok (.iload_n 1, 1) := by decide +kernel
theorem d_M_movedBy_25 : decode (mi_code n_M_movedBy) 25 = .ok (.imul, 1) := by decide +kernel
theorem d_M_movedBy_26 : decode (mi_code n_M_movedBy) 26 = .ok (.iload_n 2, 1) := by decide +kernel
theorem d_M_movedBy_27 : decode (mi_code n_M_movedBy) 27 = .ok (.iadd, 1) := by decide +kernel
theorem d_M_movedBy_28 : decode (mi_code n_M_movedBy) 28 = .ok (.iaload, 1) := by decide +kernel
theorem d_M_movedBy_29 : decode (mi_code n_M_movedBy) 29 = .ok (.iload_n 3, 1) := by decide +kernel
theorem d_M_movedBy_30 : decode (mi_code n_M_movedBy) 30 = .ok (.iload 4, 2) := by decide +kernel
theorem d_M_movedBy_32 : decode (mi_code n_M_movedBy) 32 = .ok (.invokevirtual 215, 3) := by decide +kernel
theorem d_M_movedBy_35 : decode (mi_code n_M_movedBy) 35 = .ok (.istore 5, 2) := by decide +kernel
theorem d_M_movedBy_37 : decode (mi_code n_M_movedBy) 37 = .ok (.aload_n 0, 1) := by decide +kernel
theorem d_M_movedBy_38 : decode (mi_code n_M_movedBy) 38 = .ok (.getfield 80, 3) := by decide +kernel
theorem d_M_movedBy_41 : decode (mi_code n_M_movedBy) 41 = .ok (.iconst 5, 1) := by decide +kernel
theorem d_M_movedBy_42 : decode (mi_code n_M_movedBy) 42 = .ok (.iload_n 1, 1) := by decide +kernel
theorem d_M_movedBy_43 : decode (mi_code n_M_movedBy) 43 = .ok (.imul, 1) := by decide +kernel
theorem d_M_movedBy_44 : decode (mi_code n_M_movedBy) 44 = .ok (.iconst 4, 1) := by decide +kernel
theorem d_M_movedBy_45 : decode (mi_code n_M_movedBy) 45 = .ok (.iadd, 1) := by decide +kernel
theorem d_M_movedBy_46 : decode (mi_code n_M_movedBy) 46 = .ok (.iaload, 1) := by decide +kernel
theorem d_M_movedBy_47 : decode (mi_code n_M_movedBy) 47 = .ok (.iconst (-1), 1) := by decide +kernel
theorem d_M_movedBy_48 : decode (mi_code n_M_movedBy) 48 = .ok (.if_icmp .ne 7, 3) := by decide +kernel
theorem d_M_movedBy_51 : decode (mi_code n_M_movedBy) 51 = .ok (.iconst 0, 1) := by decide +kernel
theorem d_M_movedBy_52 : decode (mi_code n_M_movedBy) 52 = .ok (.goto 20, 3) := by decide +kernel
theorem d_M_movedBy_55 : decode (mi_code n_M_movedBy) 55 = .ok (.aload_n 0, 1) := by decide +kernel
theorem d_M_movedBy_56 : decode (mi_code n_M_movedBy) 56 = .ok (.aload_n 0, 1) := by decide +kernel
theorem d_M_movedBy_57 : decode (mi_code n_M_movedBy) 57 = .ok (.getfield 80, 3) := by decide +kernel
theorem d_M_movedBy_60 : decode (mi_code n_M_movedBy) 60 = .ok (.iconst 5, 1) := by decide +kernel
theorem d_M_movedBy_61 : decode (mi_code n_M_movedBy) 61 = .ok (.iload_n 1, 1) := by decide +kernel
theorem d_M_movedBy_62 : decode (mi_code n_M_movedBy) 62 = .ok (.imul, 1) := by decide +kernel
theorem d_M_movedBy_63 : decode (mi_code n_M_movedBy) 63 = .ok (.iconst 4, 1) := by decide +kernel
theorem d_M_movedBy_64 : decode (mi_code n_M_movedBy) 64 = .ok (.iadd, 1) := by decide +kernel
theorem d_M_movedBy_65 : decode (mi_code n_M_movedBy) 65 = .ok (.iaload, 1) := by decide +kernel
theorem d_M_movedBy_66 : decode (mi_code n_M_movedBy) 66 = .ok (.iload_n 3, 1) := by decide +kernel
theorem d_M_movedBy_67 : decode (mi_code n_M_movedBy) 67 = .ok (.iload 4, 2) := by decide +kernel
theorem d_M_movedBy_69 : decode (mi_code n_M_movedBy) 69 = .ok (.invokevirtual 215, 3) := by decide +kernel
theorem d_M_movedBy_72 : decode (mi_code n_M_movedBy) 72 = .ok (.istore 6, 2) := by decide +kernel
theorem d_M_movedBy_74 : decode (mi_code n_M_movedBy) 74 = .ok (.iload 5, 2) := by decide +kernel
theorem d_M_movedBy_76 : decode (mi_code n_M_movedBy) 76 = .ok (.iload 6, 2) := by decide +kernel
theorem d_M_movedBy_78 : decode (mi_code n_M_movedBy) 78 = .ok (.aload_n 0, 1) := by decide +kernel
theorem d_M_movedBy_79 : decode (mi_code n_M_movedBy) 79 = .ok (.getfield 83, 3) := by decide +kernel
theorem d_M_movedBy_82 : decode (mi_code n_M_movedBy) 82 = .ok (.iconst 5, 1) := by decide +kernel
theorem d_M_movedBy_83 : decode (mi_code n_M_movedBy) 83 = .ok (.iload_n 1, 1) := by decide +kernel
theorem d_M_movedBy_84 : decode (mi_code n_M_movedBy) 84 = .ok (.imul, 1) := by decide +kernel
theorem d_M_movedBy_85 : decode (mi_code n_M_movedBy) 85 = .ok (.iload_n 2, 1) := by decide +kernel
theorem d_M_movedBy_86 : decode (mi_code n_M_movedBy) 86 = .ok (.iadd, 1) := by decide +kernel
theorem d_M_movedBy_87 : decode (mi_code n_M_movedBy) 87 = .ok (.iaload, 1) := by decide +kernel
theorem d_M_movedBy_88 : decode (mi_code n_M_movedBy) 88 = .ok (.idiv, 1) := by decide +kernel
theorem d_M_movedBy_89 : decode (mi_code n_M_movedBy) 89 = .ok (.isub, 1) := by decide +kernel
theorem d_M_movedBy_90 : decode (mi_code n_M_movedBy) 90 = .ok (.ireturn, 1) := by decide +kernel
theorem d_M_of_0 : decode (mi_code n_M_of) 0 = .ok (.aload_n 0, 1) := by decide +kernel
theorem d_M_of_1 : decode (mi_code n_M_of) 1 = .ok (.aload_n 0, 1) := by decide +kernel
theorem d_M_of_2 : decode (mi_code n_M_of) 2 = .ok (.iload_n 1, 1) := by decide +kernel
theorem d_M_of_3 : decode (mi_code n_M_of) 3 = .ok (.invokevirtual 130, 3) := by decide +kernel
theorem d_M_of_6 : decode (mi_code n_M_of) 6 = .ok (.iload_n 2, 1) := by decide +kernel
theorem d_M_of_7 : decode (mi_code n_M_of) 7 = .ok (.iconst 0, 1) := by decide +kernel
theorem d_M_of_8 : decode (mi_code n_M_of) 8 = .ok (.iconst 5, 1) := by decide +kernel
theorem d_M_of_9 : decode (mi_code n_M_of) 9 = .ok (.invokestatic 126, 3) := by decide +kernel
theorem d_M_of_12 : decode (mi_code n_M_of) 12 = .ok (.invokevirtual 166, 3) := by decide +kernel
theorem d_M_of_15 : decode (mi_code n_M_of) 15 = .ok (.ifCond .ne 5, 3) := by decide +kernel
theorem d_M_of_18 : decode (mi_code n_M_of) 18 = .ok (.iconst 0, 1) := by decide +kernel
theorem d_M_of_19 : decode (mi_code n_M_of) 19 = .ok (.ireturn, 1) := by decide +kernel
theorem d_M_of_20 : decode (mi_code n_M_of) 20 = .ok (.aload_n 0, 1) := by decide +kernel
theorem d_M_of_21 : decode (mi_code n_M_of) 21 = .ok (.invokevirtual 229, 3) := by decide +kernel
theorem d_M_of_24 : decode (mi_code n_M_of) 24 = .ok (.iconst 0, 1) := by decide +kernel
theorem d_M_of_25 : decode (mi_code n_M_of) 25 = .ok (.istore_n 3, 1) := by decide +kernel
theorem d_M_of_26 : decode (mi_code n_M_of) 26 = .ok (.sipush 192, 3) := by decide +kernel
theorem d_M_of_29 : decode (mi_code n_M_of) 29 = .ok (.iload_n 1, 1) := by decide +kernel
theorem d_M_of_30 : decode (mi_code n_M_of) 30 = .ok (.imul, 1) := by decide +kernel
theorem d_M_of_31 : decode (mi_code n_M_of) 31 = .ok (.istore 4, 2) := by decide +kernel
theorem d_M_of_33 : decode (mi_code n_M_of) 33 = .ok (.iload 4, 2) := by decide +kernel
theorem d_M_of_35 : decode (mi_code n_M_of) 35 = .ok (.sipush 192, 3) := by decide +kernel
theorem d_M_of_38 : decode (mi_code n_M_of) 38 = .ok (.iload_n 1, 1) := by decide +kernel
theorem d_M_of_39 : decode (mi_code n_M_of) 39 = .ok (.imul, 1) := by decide +kernel
theorem d_M_of_40 : decode (mi_code n_M_of) 40 = .ok (.sipush 192, 3) := by decide +kernel
theorem d_M_of_43 : decode (mi_code n_M_of) 43 = .ok (.iadd, 1) := by decide +kernel
theorem d_M_of_44 : decode (mi_code n_M_of) 44 = .ok (.if_icmp .ge 65, 3) := by decide +kernel
theorem d_M_of_47 : decode (mi_code n_M_of) 47 = .ok (.iload_n 3, 1) := by decide +kernel
theorem d_M_of_48 : decode (mi_code n_M_of) 48 = .ok (.iload_n 2, 1) := by decide +kernel
theorem d_M_of_49 : decode (mi_code n_M_of) 49 = .ok (.iconst 3, 1) := by decide +kernel
theorem d_M_of_50 : decode (mi_code n_M_of) 50 = .ok (.if_icmp .ne 14, 3) := by decide +kernel
theorem d_M_of_53 : decode (mi_code n_M_of) 53 = .ok (.aload_n 0, 1) := by decide +kernel
theorem d_M_of_54 : decode (mi_code n_M_of) 54 = .ok (.getfield 50, 3) := by decide +kernel
theorem d_M_of_57 : decode (mi_code n_M_of) 57 = .ok (.iload 4, 2) := by decide +kernel
theorem d_M_of_59 : decode (mi_code n_M_of) 59 = .ok (.iaload, 1) := by decide +kernel
theorem d_M_of_60 : decode (mi_code n_M_of) 60 = .ok (.iconst (-1), 1) := by decide +kernel
theorem d_M_of_61 : decode (mi_code n_M_of) 61 = .ok (.if_icmp .ne 35, 3) := by decide +kernel
theorem d_M_of_64 : decode (mi_code n_M_of) 64 = .ok (.iload_n 2, 1) := by decide +kernel
theorem d_M_of_65 : decode (mi_code n_M_of) 65 = .ok (.iconst 4, 1) := by decide +kernel
theorem d_M_of_66 : decode (mi_code n_M_of) 66 = .ok (.if_icmp .ne 14, 3) := by decide +kernel
theorem d_M_of_69 : decode (mi_code n_M_of) 69 = .ok (.aload_n 0, 1) := by decide +kernel
theorem d_M_of_70 : decode (mi_code n_M_of) 70 = .ok (.getfield 53, 3) := by decide +kernel
theorem d_M_of_73 : decode (mi_code n_M_of) 73 = .ok (.iload 4, 2) := by decide +kernel
theorem d_M_of_75 : decode (mi_code n_M_of) 75 = .ok (.iaload, 1) := by decide +kernel
theorem d_M_of_76 : decode (mi_code n_M_of) 76 = .ok (.iconst 1, 1) := by decide +kernel
theorem d_M_of_77 : decode (mi_code n_M_of) 77 = .ok (.if_icmp .eq 19, 3) := by decide +kernel
theorem d_M_of_80 : decode (mi_code n_M_of) 80 = .ok (.iload_n 2, 1) := by decide +kernel
theorem d_M_of_81 : decode (mi_code n_M_of) 81 = .ok (.iconst 5, 1) := by decide +kernel
theorem d_M_of_82 : decode (mi_code n_M_of) 82 = .ok (.if_icmp .ne 18, 3) := by decide +kernel
theorem d_M_of_85 : decode (mi_code n_M_of) 85 = .ok (.aload_n 0, 1) := by decide +kernel
theorem d_M_of_86 : decode (mi_code n_M_of) 86 = .ok (.getfield 53, 3) := by decide +kernel
theorem d_M_of_89 : decode (mi_code n_M_of) 89 = .ok (.iload 4, 2) := by decide +kernel
theorem d_M_of_91 : decode (mi_code n_M_of) 91 = .ok (.iaload, 1) := by decide +kernel
theorem d_M_of_92 : decode (mi_code n_M_of) 92 = .ok (.iconst 2, 1) := by decide +kernel
theorem d_M_of_93 : decode (mi_code n_M_of) 93 = .ok (.if_icmp .ne 7, 3) := by decide +kernel
theorem d_M_of_96 : decode (mi_code n_M_of) 96 = .ok (.iconst 1, 1) := by decide +kernel
theorem d_M_of_97 : decode (mi_code n_M_of) 97 = .ok (.goto 4, 3) := by decide +kernel
theorem d_M_of_100 : decode (mi_code n_M_of) 100 = .ok (.iconst 0, 1) := by decide +kernel
theorem d_M_of_101 : decode (mi_code n_M_of) 101 = .ok (.iadd, 1) := by decide +kernel
theorem d_M_of_102 : decode (mi_code n_M_of) 102 = .ok (.istore_n 3, 1) := by decide +kernel
theorem d_M_of_103 : decode (mi_code n_M_of) 103 = .ok (.iinc 4 1, 3) := by decide +kernel
theorem d_M_of_106 : decode (mi_code n_M_of) 106 = .ok (.goto (-73), 3) := by decide +kernel
theorem d_M_of_109 : decode (mi_code n_M_of) 109 = .ok (.iload_n 2, 1) := by decide +kernel
theorem d_M_of_110 : decode (mi_code n_M_of) 110 = .ok (.ifCond .ne 12, 3) := by decide +kernel
theorem d_M_of_113 : decode (mi_code n_M_of) 113 = .ok (.aload_n 0, 1) := by decide +kernel
theorem d_M_of_114 : decode (mi_code n_M_of) 114 = .ok (.getfield 26, 3) := by decide +kernel
theorem d_M_of_117 : decode (mi_code n_M_of) 117 = .ok (.iload_n 1, 1) := by decide +kernel
theorem d_M_of_118 : decode (mi_code n_M_of) 118 = .ok (.iaload, 1) := by decide +kernel
theorem d_M_of_119 : decode (mi_code n_M_of) 119 = .ok (.goto 40, 3) := by decide +kernel
theorem d_M_of_122 : decode (mi_code n_M_of) 122 = .ok (.iload_n 2, 1) := by decide +kernel
theorem d_M_of_123 : decode (mi_code n_M_of) 123 = .ok (.iconst 1, 1) := by decide +kernel
theorem d_M_of_124 : decode (mi_code n_M_of) 124 = .ok (.if_icmp .ne 12, 3) := by decide +kernel
theorem d_M_of_127 : decode (mi_code n_M_of) 127 = .ok (.aload_n 0, 1) := by decide +kernel
theorem d_M_of_128 : decode (mi_code n_M_of) 128 = .ok (.getfield 38, 3) := by decide +kernel
theorem d_M_of_131 : decode (mi_code n_M_of) 131 = .ok (.iload_n 1, 1) := by decide +kernel
theorem d_M_of_132 : decode (mi_code n_M_of) 132 = .ok (.iaload, 1) := by decide +kernel
theorem d_M_of_133 : decode (mi_code n_M_of) 133 = .ok (.goto 26, 3) := by decide +kernel
theorem d_M_of_136 : decode (mi_code n_M_of) 136 = .ok (.iload_n 2, 1) := by decide +kernel
theorem d_M_of_137 : decode (mi_code n_M_of) 137 = .ok (.iconst 2, 1) := by decide +kernel
theorem d_M_of_138 : decode (mi_code n_M_of) 138 = .ok (.if_icmp .ne 20, 3) := by decide +kernel
theorem d_M_of_141 : decode (mi_code n_M_of) 141 = .ok (.aload_n 0, 1) := by decide +kernel
theorem d_M_of_142 : decode (mi_code n_M_of) 142 = .ok (.getfield 22, 3) := by decide +kernel
theorem d_M_of_145 : decode (mi_code n_M_of) 145 = .ok (.iload_n 1, 1) := by decide +kernel
theorem d_M_of_146 : decode (mi_code n_M_of) 146 = .ok (.baload, 1) := by decide +kernel
theorem d_M_of_147 : decode (mi_code n_M_of) 147 = .ok (.ifCond .eq 7, 3) := by decide +kernel
theorem d_M_of_150 : decode (mi_code n_M_of) 150 = .ok (.iconst 1, 1) := by decide +kernel
theorem d_M_of_151 : decode (mi_code n_M_of) 151 = .ok (.goto 8, 3) := by decide +kernel
theorem d_M_of_154 : decode (mi_code n_M_of) 154 = .ok (.iconst 0, 1) := by decide +kernel
theorem d_M_of_155 : decode (mi_code n_M_of) 155 = .ok (.goto 4, 3) := by decide +kernel
theorem d_M_of_158 : decode (mi_code n_M_of) 158 = .ok (.iload_n 3, 1) := by decide +kernel
theorem d_M_of_159 : decode (mi_code n_M_of) 159 = .ok (.ireturn, 1) := by decide +kernel
theorem d_M_ownOf_0 : decode (mi_code n_M_ownOf) 0 = .ok (.iconst (-1), 1) := by decide +kernel
theorem d_M_ownOf_1 : decode (mi_code n_M_ownOf) 1 = .ok (.istore 4, 2) := by decide +kernel
theorem d_M_ownOf_3 : decode (mi_code n_M_ownOf) 3 = .ok (.iconst (-1), 1) := by decide +kernel
theorem d_M_ownOf_4 : decode (mi_code n_M_ownOf) 4 = .ok (.istore 5, 2) := by decide +kernel
theorem d_M_ownOf_6 : decode (mi_code n_M_ownOf) 6 = .ok (.bipush 6, 2) := by decide +kernel
theorem d_M_ownOf_8 : decode (mi_code n_M_ownOf) 8 = .ok (.iload_n 1, 1) := by decide +kernel
theorem d_M_ownOf_9 : decode (mi_code n_M_ownOf) 9 = .ok (.imul, 1) := by decide +kernel
theorem d_M_ownOf_10 : decode (mi_code n_M_ownOf) 10 = .ok (.istore 6, 2) := by decide +kernel
theorem d_M_ownOf_12 : decode (mi_code n_M_ownOf) 12 = .ok (.iload 6, 2) := by decide +kernel
theorem d_M_ownOf_14 : decode (mi_code n_M_ownOf) 14 = .ok (.bipush 6, 2) := by decide +kernel
theorem d_M_ownOf_16 : decode (mi_code n_M_ownOf) 16 = .ok (.iload_n 1, 1) := by decide +kernel
theorem d_M_ownOf_17 : decode (mi_code n_M_ownOf) 17 = .ok (.imul, 1) := by decide +kernel
theorem d_M_ownOf_18 : decode (mi_code n_M_ownOf) 18 = .ok (.aload_n 0, 1) := by decide +kernel
theorem d_M_ownOf_19 : decode (mi_code n_M_ownOf) 19 = .ok (.getfield 92, 3) := by decide +kernel
theorem d_M_ownOf_22 : decode (mi_code n_M_ownOf) 22 = .ok (.iload_n 1, 1) := by decide +kernel
theorem d_M_ownOf_23 : decode (mi_code n_M_ownOf) 23 = .ok (.iaload, 1) := by decide +kernel
theorem d_M_ownOf_24 : decode (mi_code n_M_ownOf) 24 = .ok (.iadd, 1) := by decide +kernel
theorem d_M_ownOf_25 : decode (mi_code n_M_ownOf) 25 = .ok (.if_icmp .ge 95, 3) := by decide +kernel
theorem d_M_ownOf_28 : decode (mi_code n_M_ownOf) 28 = .ok (.aload_n 0, 1) := by decide +kernel
theorem d_M_ownOf_29 : decode (mi_code n_M_ownOf) 29 = .ok (.getfield 95, 3) := by decide +kernel
theorem d_M_ownOf_32 : decode (mi_code n_M_ownOf) 32 = .ok (.iload 6, 2) := by decide +kernel
theorem d_M_ownOf_34 : decode (mi_code n_M_ownOf) 34 = .ok (.iaload, 1) := by decide +kernel
theorem d_M_ownOf_35 : decode (mi_code n_M_ownOf) 35 = .ok (.iload_n 2, 1) := by decide +kernel
theorem d_M_ownOf_36 : decode (mi_code n_M_ownOf) 36 = .ok (.if_icmp .gt 31, 3) := by decide +kernel
theorem d_M_ownOf_39 : decode (mi_code n_M_ownOf) 39 = .ok (.iload 4, 2) := by decide +kernel
theorem d_M_ownOf_41 : decode (mi_code n_M_ownOf) 41 = .ok (.iconst (-1), 1) := by decide +kernel
theorem d_M_ownOf_42 : decode (mi_code n_M_ownOf) 42 = .ok (.if_icmp .eq 20, 3) := by decide +kernel
theorem d_M_ownOf_45 : decode (mi_code n_M_ownOf) 45 = .ok (.aload_n 0, 1) := by decide +kernel
theorem d_M_ownOf_46 : decode (mi_code n_M_ownOf) 46 = .ok (.getfield 95, 3) := by decide +kernel
theorem d_M_ownOf_49 : decode (mi_code n_M_ownOf) 49 = .ok (.iload 6, 2) := by decide +kernel
theorem d_M_ownOf_51 : decode (mi_code n_M_ownOf) 51 = .ok (.iaload, 1) := by decide +kernel
theorem d_M_ownOf_52 : decode (mi_code n_M_ownOf) 52 = .ok (.aload_n 0, 1) := by decide +kernel
theorem d_M_ownOf_53 : decode (mi_code n_M_ownOf) 53 = .ok (.getfield 95, 3) := by decide +kernel
theorem d_M_ownOf_56 : decode (mi_code n_M_ownOf) 56 = .ok (.iload 4, 2) := by decide +kernel
theorem d_M_ownOf_58 : decode (mi_code n_M_ownOf) 58 = .ok (.iaload, 1) := by decide +kernel
theorem d_M_ownOf_59 : decode (mi_code n_M_ownOf) 59 = .ok (.if_icmp .le 8, 3) := by decide +kernel
theorem d_M_ownOf_62 : decode (mi_code n_M_ownOf) 62 = .ok (.iload 6, 2) := by decide +kernel
theorem d_M_ownOf_64 : decode (mi_code n_M_ownOf) 64 = .ok (.goto 5, 3) := by decide +kernel
theorem d_M_ownOf_67 : decode (mi_code n_M_ownOf) 67 = .ok (.iload 4, 2) := by decide +kernel
theorem d_M_ownOf_69 : decode (mi_code n_M_ownOf) 69 = .ok (.istore 4, 2) := by decide +kernel
theorem d_M_ownOf_71 : decode (mi_code n_M_ownOf) 71 = .ok (.aload_n 0, 1) := by decide +kernel
theorem d_M_ownOf_72 : decode (mi_code n_M_ownOf) 72 = .ok (.getfield 95, 3) := by decide +kernel
theorem d_M_ownOf_75 : decode (mi_code n_M_ownOf) 75 = .ok (.iload 6, 2) := by decide +kernel
theorem d_M_ownOf_77 : decode (mi_code n_M_ownOf) 77 = .ok (.iaload, 1) := by decide +kernel
theorem d_M_ownOf_78 : decode (mi_code n_M_ownOf) 78 = .ok (.iload_n 2, 1) := by decide +kernel
theorem d_M_ownOf_79 : decode (mi_code n_M_ownOf) 79 = .ok (.if_icmp .lt 31, 3) := by decide +kernel
theorem d_M_ownOf_82 : decode (mi_code n_M_ownOf) 82 = .ok (.iload 5, 2) := by decide +kernel
theorem d_M_ownOf_84 : decode (mi_code n_M_ownOf) 84 = .ok (.iconst (-1), 1) := by decide +kernel
theorem d_M_ownOf_85 : decode (mi_code n_M_ownOf) 85 = .ok (.if_icmp .eq 20, 3) := by decide +kernel
theorem d_M_ownOf_88 : decode (mi_code n_M_ownOf) 88 = .ok (.aload_n 0, 1) := by decide +kernel
theorem d_M_ownOf_89 : decode (mi_code n_M_ownOf) 89 = .ok (.getfield 95, 3) := by decide +kernel
theorem d_M_ownOf_92 : decode (mi_code n_M_ownOf) 92 = .ok (.iload 6, 2) := by decide +kernel
theorem d_M_ownOf_94 : decode (mi_code n_M_ownOf) 94 = .ok (.iaload, 1) := by decide +kernel
theorem d_M_ownOf_95 : decode (mi_code n_M_ownOf) 95 = .ok (.aload_n 0, 1) := by decide +kernel
theorem d_M_ownOf_96 : decode (mi_code n_M_ownOf) 96 = .ok (.getfield 95, 3) := by decide +kernel
theorem d_M_ownOf_99 : decode (mi_code n_M_ownOf) 99 = .ok (.iload 5, 2) := by decide +kernel
theorem d_M_ownOf_101 : decode (mi_code n_M_ownOf) 101 = .ok (.iaload, 1) := by decide +kernel
theorem d_M_ownOf_102 : decode (mi_code n_M_ownOf) 102 = .ok (.if_icmp .ge 8, 3) := by decide +kernel
theorem d_M_ownOf_105 : decode (mi_code n_M_ownOf) 105 = .ok (.iload 6, 2) := by decide +kernel
theorem d_M_ownOf_107 : decode (mi_code n_M_ownOf) 107 = .ok (.goto 5, 3) := by decide +kernel
theorem d_M_ownOf_110 : decode (mi_code n_M_ownOf) 110 = .ok (.iload 5, 2) := by decide +kernel
theorem d_M_ownOf_112 : decode (mi_code n_M_ownOf) 112 = .ok (.istore 5, 2) := by decide +kernel
theorem d_M_ownOf_114 : decode (mi_code n_M_ownOf) 114 = .ok (.iinc 6 1, 3) := by decide +kernel
theorem d_M_ownOf_117 : decode (mi_code n_M_ownOf) 117 = .ok (.goto (-105), 3) := by decide +kernel
theorem d_M_ownOf_120 : decode (mi_code n_M_ownOf) 120 = .ok (.iload 4, 2) := by decide +kernel
theorem d_M_ownOf_122 : decode (mi_code n_M_ownOf) 122 = .ok (.iconst (-1), 1) := by decide +kernel
theorem d_M_ownOf_123 : decode (mi_code n_M_ownOf) 123 = .ok (.if_icmp .ne 11, 3) := by decide +kernel
theorem d_M_ownOf_126 : decode (mi_code n_M_ownOf) 126 = .ok (.iload 5, 2) := by decide +kernel
theorem d_M_ownOf_128 : decode (mi_code n_M_ownOf) 128 = .ok (.iconst (-1), 1) := by decide +kernel
theorem d_M_ownOf_129 : decode (mi_code n_M_ownOf) 129 = .ok (.if_icmp .ne 5, 3) := by decide +kernel
theorem d_M_ownOf_132 : decode (mi_code n_M_ownOf) 132 = .ok (.iconst 0, 1) := by decide +kernel
theorem d_M_ownOf_133 : decode (mi_code n_M_ownOf) 133 = .ok (.ireturn, 1) := by decide +kernel
theorem d_M_ownOf_134 : decode (mi_code n_M_ownOf) 134 = .ok (.iload 4, 2) := by decide +kernel
theorem d_M_ownOf_136 : decode (mi_code n_M_ownOf) 136 = .ok (.iconst (-1), 1) := by decide +kernel
theorem d_M_ownOf_137 : decode (mi_code n_M_ownOf) 137 = .ok (.if_icmp .ne 8, 3) := by decide +kernel
theorem d_M_ownOf_140 : decode (mi_code n_M_ownOf) 140 = .ok (.iload 5, 2) := by decide +kernel
theorem d_M_ownOf_142 : decode (mi_code n_M_ownOf) 142 = .ok (.goto 5, 3) := by decide +kernel
theorem d_M_ownOf_145 : decode (mi_code n_M_ownOf) 145 = .ok (.iload 4, 2) := by decide +kernel
theorem d_M_ownOf_147 : decode (mi_code n_M_ownOf) 147 = .ok (.istore 6, 2) := by decide +kernel
theorem d_M_ownOf_149 : decode (mi_code n_M_ownOf) 149 = .ok (.iload 5, 2) := by decide +kernel
theorem d_M_ownOf_151 : decode (mi_code n_M_ownOf) 151 = .ok (.iconst (-1), 1) := by decide +kernel
theorem d_M_ownOf_152 : decode (mi_code n_M_ownOf) 152 = .ok (.if_icmp .ne 8, 3) := by decide +kernel
theorem d_M_ownOf_155 : decode (mi_code n_M_ownOf) 155 = .ok (.iload 4, 2) := by decide +kernel
theorem d_M_ownOf_157 : decode (mi_code n_M_ownOf) 157 = .ok (.goto 5, 3) := by decide +kernel
theorem d_M_ownOf_160 : decode (mi_code n_M_ownOf) 160 = .ok (.iload 5, 2) := by decide +kernel
theorem d_M_ownOf_162 : decode (mi_code n_M_ownOf) 162 = .ok (.istore 7, 2) := by decide +kernel
theorem d_M_ownOf_164 : decode (mi_code n_M_ownOf) 164 = .ok (.iload_n 3, 1) := by decide +kernel
theorem d_M_ownOf_165 : decode (mi_code n_M_ownOf) 165 = .ok (.ifCond .eq 13, 3) := by decide +kernel
theorem d_M_ownOf_168 : decode (mi_code n_M_ownOf) 168 = .ok (.aload_n 0, 1) := by decide +kernel
theorem d_M_ownOf_169 : decode (mi_code n_M_ownOf) 169 = .ok (.getfield 98, 3) := by decide +kernel
theorem d_M_ownOf_172 : decode (mi_code n_M_ownOf) 172 = .ok (.iload 6, 2) := by decide +kernel
theorem d_M_ownOf_174 : decode (mi_code n_M_ownOf) 174 = .ok (.iaload, 1) := by decide +kernel
theorem d_M_ownOf_175 : decode (mi_code n_M_ownOf) 175 = .ok (.goto 10, 3) := by decide +kernel
theorem d_M_ownOf_178 : decode (mi_code n_M_ownOf) 178 = .ok (.aload_n 0, 1) := by decide +kernel
theorem d_M_ownOf_179 : decode (mi_code n_M_ownOf) 179 = .ok (.getfield 101, 3) := by decide +kernel
theorem d_M_ownOf_182 : decode (mi_code n_M_ownOf) 182 = .ok (.iload 6, 2) := by decide +kernel
theorem d_M_ownOf_184 : decode (mi_code n_M_ownOf) 184 = .ok (.iaload, 1) := by decide +kernel
theorem d_M_ownOf_185 : decode (mi_code n_M_ownOf) 185 = .ok (.istore 8, 2) := by decide +kernel
theorem d_M_ownOf_187 : decode (mi_code n_M_ownOf) 187 = .ok (.iload_n 3, 1) := by decide +kernel
theorem d_M_ownOf_188 : decode (mi_code n_M_ownOf) 188 = .ok (.ifCond .eq 13, 3) := by decide +kernel
theorem d_M_ownOf_191 : decode (mi_code n_M_ownOf) 191 = .ok (.aload_n 0, 1) := by decide +kernel
theorem d_M_ownOf_192 : decode (mi_code n_M_ownOf) 192 = .ok (.getfield 98, 3) := by decide +kernel
theorem d_M_ownOf_195 : decode (mi_code n_M_ownOf) 195 = .ok (.iload 7, 2) := by decide +kernel
theorem d_M_ownOf_197 : decode (mi_code n_M_ownOf) 197 = .ok (.iaload, 1) := by decide +kernel
theorem d_M_ownOf_198 : decode (mi_code n_M_ownOf) 198 = .ok (.goto 10, 3) := by decide +kernel
theorem d_M_ownOf_201 : decode (mi_code n_M_ownOf) 201 = .ok (.aload_n 0, 1) := by decide +kernel
theorem d_M_ownOf_202 : decode (mi_code n_M_ownOf) 202 = .ok (.getfield 101, 3) := by decide +kernel
theorem d_M_ownOf_205 : decode (mi_code n_M_ownOf) 205 = .ok (.iload 7, 2) := by decide +kernel
theorem d_M_ownOf_207 : decode (mi_code n_M_ownOf) 207 = .ok (.iaload, 1) := by decide +kernel
theorem d_M_ownOf_208 : decode (mi_code n_M_ownOf) 208 = .ok (.iload 8, 2) := by decide +kernel
theorem d_M_ownOf_210 : decode (mi_code n_M_ownOf) 210 = .ok (.isub, 1) := by decide +kernel
theorem d_M_ownOf_211 : decode (mi_code n_M_ownOf) 211 = .ok (.istore 9, 2) := by decide +kernel
theorem d_M_ownOf_213 : decode (mi_code n_M_ownOf) 213 = .ok (.aload_n 0, 1) := by decide +kernel
theorem d_M_ownOf_214 : decode (mi_code n_M_ownOf) 214 = .ok (.getfield 95, 3) := by decide +kernel
theorem d_M_ownOf_217 : decode (mi_code n_M_ownOf) 217 = .ok (.iload 7, 2) := by decide +kernel
theorem d_M_ownOf_219 : decode (mi_code n_M_ownOf) 219 = .ok (.iaload, 1) := by decide +kernel
theorem d_M_ownOf_220 : decode (mi_code n_M_ownOf) 220 = .ok (.aload_n 0, 1) := by decide +kernel
theorem d_M_ownOf_221 : decode (mi_code n_M_ownOf) 221 = .ok (.getfield 95, 3) := by decide +kernel
theorem d_M_ownOf_224 : decode (mi_code n_M_ownOf) 224 = .ok (.iload 6, 2) := by decide +kernel
theorem d_M_ownOf_226 : decode (mi_code n_M_ownOf) 226 = .ok (.iaload, 1) := by decide +kernel
theorem d_M_ownOf_227 : decode (mi_code n_M_ownOf) 227 = .ok (.isub, 1) := by decide +kernel
theorem d_M_ownOf_228 : decode (mi_code n_M_ownOf) 228 = .ok (.istore 10, 2) := by decide +kernel
theorem d_M_ownOf_230 : decode (mi_code n_M_ownOf) 230 = .ok (.iload 10, 2) := by decide +kernel
theorem d_M_ownOf_232 : decode (mi_code n_M_ownOf) 232 = .ok (.ifCond .ne 8, 3) := by decide +kernel
theorem d_M_ownOf_235 : decode (mi_code n_M_ownOf) 235 = .ok (.iload 8, 2) := by decide +kernel
theorem d_M_ownOf_237 : decode (mi_code n_M_ownOf) 237 = .ok (.goto 21, 3) := by decide +kernel
theorem d_M_ownOf_240 : decode (mi_code n_M_ownOf) 240 = .ok (.iload 8, 2) := by decide +kernel
theorem d_M_ownOf_242 : decode (mi_code n_M_ownOf) 242 = .ok (.iload_n 2, 1) := by decide +kernel
theorem d_M_ownOf_243 : decode (mi_code n_M_ownOf) 243 = .ok (.aload_n 0, 1) := by decide +kernel
theorem d_M_ownOf_244 : decode (mi_code n_M_ownOf) 244 = .ok (.getfield 95, 3) := by decide +kernel
theorem d_M_ownOf_247 : decode (mi_code n_M_ownOf) 247 = .ok (.iload 6, 2) := by decide +kernel
theorem d_M_ownOf_249 : decode (mi_code n_M_ownOf) 249 = .ok (.iaload, 1) := by decide +kernel
theorem d_M_ownOf_250 : decode (mi_code n_M_ownOf) 250 = .ok (.isub, 1) := by decide +kernel
theorem d_M_ownOf_251 : decode (mi_code n_M_ownOf) 251 = .ok (.iload 9, 2) := by decide +kernel
theorem d_M_ownOf_253 : decode (mi_code n_M_ownOf) 253 = .ok (.imul, 1) := by decide +kernel
theorem d_M_ownOf_254 : decode (mi_code n_M_ownOf) 254 = .ok (.iload 10, 2) := by decide +kernel
theorem d_M_ownOf_256 : decode (mi_code n_M_ownOf) 256 = .ok (.idiv, 1) := by decide +kernel
theorem d_M_ownOf_257 : decode (mi_code n_M_ownOf) 257 = .ok (.iadd, 1) := by decide +kernel
theorem d_M_ownOf_258 : decode (mi_code n_M_ownOf) 258 = .ok (.ireturn, 1) := by decide +kernel
theorem d_M_paint_0 : decode (mi_code n_M_paint) 0 = .ok (.aload_n 0, 1) := by decide +kernel
theorem d_M_paint_1 : decode (mi_code n_M_paint) 1 = .ok (.aload_n 0, 1) := by decide +kernel
theorem d_M_paint_2 : decode (mi_code n_M_paint) 2 = .ok (.iload_n 1, 1) := by decide +kernel
theorem d_M_paint_3 : decode (mi_code n_M_paint) 3 = .ok (.invokevirtual 130, 3) := by decide +kernel
theorem d_M_paint_6 : decode (mi_code n_M_paint) 6 = .ok (.ifCond .eq 17, 3) := by decide +kernel
theorem d_M_paint_9 : decode (mi_code n_M_paint) 9 = .ok (.iload_n 2, 1) := by decide +kernel
theorem d_M_paint_10 : decode (mi_code n_M_paint) 10 = .ok (.iconst 0, 1) := by decide +kernel
theorem d_M_paint_11 : decode (mi_code n_M_paint) 11 = .ok (.bipush 7, 2) := by decide +kernel
theorem d_M_paint_13 : decode (mi_code n_M_paint) 13 = .ok (.invokestatic 126, 3) := by decide +kernel
theorem d_M_paint_16 : decode (mi_code n_M_paint) 16 = .ok (.ifCond .eq 7, 3) := by decide +kernel
theorem d_M_paint_19 : decode (mi_code n_M_paint) 19 = .ok (.iconst 1, 1) := by decide +kernel
theorem d_M_paint_20 : decode (mi_code n_M_paint) 20 = .ok (.goto 4, 3) := by decide +kernel
theorem d_M_paint_23 : decode (mi_code n_M_paint) 23 = .ok (.iconst 0, 1) := by decide +kernel
theorem d_M_paint_24 : decode (mi_code n_M_paint) 24 = .ok (.aload_n 0, 1) := by decide +kernel
theorem d_M_paint_25 : decode (mi_code n_M_paint) 25 = .ok (.iload_n 1, 1) := by decide +kernel
theorem d_M_paint_26 : decode (mi_code n_M_paint) 26 = .ok (.invokevirtual 153, 3) := by decide +kernel
theorem d_M_paint_29 : decode (mi_code n_M_paint) 29 = .ok (.ifCond .eq 18, 3) := by decide +kernel
theorem d_M_paint_32 : decode (mi_code n_M_paint) 32 = .ok (.aload_n 0, 1) := by decide +kernel
theorem d_M_paint_33 : decode (mi_code n_M_paint) 33 = .ok (.getfield 38, 3) := by decide +kernel
theorem d_M_paint_36 : decode (mi_code n_M_paint) 36 = .ok (.iload_n 1, 1) := by decide +kernel
theorem d_M_paint_37 : decode (mi_code n_M_paint) 37 = .ok (.iaload, 1) := by decide +kernel
theorem d_M_paint_38 : decode (mi_code n_M_paint) 38 = .ok (.bipush 6, 2) := by decide +kernel
theorem d_M_paint_40 : decode (mi_code n_M_paint) 40 = .ok (.if_icmp .ge 7, 3) := by decide +kernel
theorem d_M_paint_43 : decode (mi_code n_M_paint) 43 = .ok (.iconst 1, 1) := by decide +kernel
theorem d_M_paint_44 : decode (mi_code n_M_paint) 44 = .ok (.goto 4, 3) := by decide +kernel
theorem d_M_paint_47 : decode (mi_code n_M_paint) 47 = .ok (.iconst 0, 1) := by decide +kernel
theorem d_M_paint_48 : decode (mi_code n_M_paint) 48 = .ok (.invokevirtual 166, 3) := by decide +kernel
theorem d_M_paint_51 : decode (mi_code n_M_paint) 51 = .ok (.ifCond .ne 5, 3) := by decide +kernel
theorem d_M_paint_54 : decode (mi_code n_M_paint) 54 = .ok (.iconst 0, 1) := by decide +kernel
theorem d_M_paint_55 : decode (mi_code n_M_paint) 55 = .ok (.ireturn, 1) := by decide +kernel
theorem d_M_paint_56 : decode (mi_code n_M_paint) 56 = .ok (.aload_n 0, 1) := by decide +kernel
theorem d_M_paint_57 : decode (mi_code n_M_paint) 57 = .ok (.getfield 41, 3) := by decide +kernel
theorem d_M_paint_60 : decode (mi_code n_M_paint) 60 = .ok (.bipush 6, 2) := by decide +kernel
theorem d_M_paint_62 : decode (mi_code n_M_paint) 62 = .ok (.iload_n 1, 1) := by decide +kernel
theorem d_M_paint_63 : decode (mi_code n_M_paint) 63 = .ok (.imul, 1) := by decide +kernel
theorem d_M_paint_64 : decode (mi_code n_M_paint) 64 = .ok (.aload_n 0, 1) := by decide +kernel
theorem d_M_paint_65 : decode (mi_code n_M_paint) 65 = .ok (.getfield 38, 3) := by decide +kernel
theorem d_M_paint_68 : decode (mi_code n_M_paint) 68 = .ok (.iload_n 1, 1) := by decide +kernel
theorem d_M_paint_69 : decode (mi_code n_M_paint) 69 = .ok (.iaload, 1) := by decide +kernel
theorem d_M_paint_70 : decode (mi_code n_M_paint) 70 = .ok (.iadd, 1) := by decide +kernel
theorem d_M_paint_71 : decode (mi_code n_M_paint) 71 = .ok (.bipush 16, 2) := by decide +kernel
theorem d_M_paint_73 : decode (mi_code n_M_paint) 73 = .ok (.aload_n 0, 1) := by decide +kernel
theorem d_M_paint_74 : decode (mi_code n_M_paint) 74 = .ok (.getfield 163, 3) := by decide +kernel
theorem d_M_paint_77 : decode (mi_code n_M_paint) 77 = .ok (.imul, 1) := by decide +kernel
theorem d_M_paint_78 : decode (mi_code n_M_paint) 78 = .ok (.aload_n 0, 1) := by decide +kernel
theorem d_M_paint_79 : decode (mi_code n_M_paint) 79 = .ok (.getfield 160, 3) := by decide +kernel
theorem d_M_paint_82 : decode (mi_code n_M_paint) 82 = .ok (.iadd, 1) := by decide +kernel
theorem d_M_paint_83 : decode (mi_code n_M_paint) 83 = .ok (.iastore, 1) := by decide +kernel
theorem d_M_paint_84 : decode (mi_code n_M_paint) 84 = .ok (.aload_n 0, 1) := by decide +kernel
theorem d_M_paint_85 : decode (mi_code n_M_paint) 85 = .ok (.getfield 44, 3) := by decide +kernel
theorem d_M_paint_88 : decode (mi_code n_M_paint) 88 = .ok (.bipush 6, 2) := by decide +kernel
theorem d_M_paint_90 : decode (mi_code n_M_paint) 90 = .ok (.iload_n 1, 1) := by decide +kernel
theorem d_M_paint_91 : decode (mi_code n_M_paint) 91 = .ok (.imul, 1) := by decide +kernel
theorem d_M_paint_92 : decode (mi_code n_M_paint) 92 = .ok (.aload_n 0, 1) := by decide +kernel
theorem d_M_paint_93 : decode (mi_code n_M_paint) 93 = .ok (.getfield 38, 3) := by decide +kernel
theorem d_M_paint_96 : decode (mi_code n_M_paint) 96 = .ok (.iload_n 1, 1) := by decide +kernel
theorem d_M_paint_97 : decode (mi_code n_M_paint) 97 = .ok (.iaload, 1) := by decide +kernel
theorem d_M_paint_98 : decode (mi_code n_M_paint) 98 = .ok (.iadd, 1) := by decide +kernel
theorem d_M_paint_99 : decode (mi_code n_M_paint) 99 = .ok (.iload_n 2, 1) := by decide +kernel
theorem d_M_paint_100 : decode (mi_code n_M_paint) 100 = .ok (.iastore, 1) := by decide +kernel
theorem d_M_paint_101 : decode (mi_code n_M_paint) 101 = .ok (.aload_n 0, 1) := by decide +kernel
theorem d_M_paint_102 : decode (mi_code n_M_paint) 102 = .ok (.getfield 38, 3) := by decide +kernel
theorem d_M_paint_105 : decode (mi_code n_M_paint) 105 = .ok (.iload_n 1, 1) := by decide +kernel
theorem d_M_paint_106 : decode (mi_code n_M_paint) 106 = .ok (.dup2, 1) := by decide +kernel
theorem d_M_paint_107 : decode (mi_code n_M_paint) 107 = .ok (.iaload, 1) := by decide +kernel
theorem d_M_paint_108 : decode (mi_code n_M_paint) 108 = .ok (.iconst 1, 1) := by decide +kernel
theorem d_M_paint_109 : decode (mi_code n_M_paint) 109 = .ok (.iadd, 1) := by decide +kernel
theorem d_M_paint_110 : decode (mi_code n_M_paint) 110 = .ok (.iastore, 1) := by decide +kernel
theorem d_M_paint_111 : decode (mi_code n_M_paint) 111 = .ok (.aload_n 0, 1) := by decide +kernel
theorem d_M_paint_112 : decode (mi_code n_M_paint) 112 = .ok (.iconst 1, 1) := by decide +kernel
theorem d_M_paint_113 : decode (mi_code n_M_paint) 113 = .ok (.putfield 134, 3) := by decide +kernel
theorem d_M_paint_116 : decode (mi_code n_M_paint) 116 = .ok (.aload_n 0, 1) := by decide +kernel
theorem d_M_paint_117 : decode (mi_code n_M_paint) 117 = .ok (.getfield 38, 3) := by decide +kernel
theorem d_M_paint_120 : decode (mi_code n_M_paint) 120 = .ok (.iload_n 1, 1) := by decide +kernel
theorem d_M_paint_121 : decode (mi_code n_M_paint) 121 = .ok (.iaload, 1) := by decide +kernel
theorem d_M_paint_122 : decode (mi_code n_M_paint) 122 = .ok (.ireturn, 1) := by decide +kernel
theorem d_M_peg_0 : decode (mi_code n_M_peg) 0 = .ok (.aload_n 0, 1) := by decide +kernel
theorem d_M_peg_1 : decode (mi_code n_M_peg) 1 = .ok (.iload_n 1, 1) := by decide +kernel
theorem d_M_peg_2 : decode (mi_code n_M_peg) 2 = .ok (.iconst (-1), 1) := by decide +kernel
theorem d_M_peg_3 : decode (mi_code n_M_peg) 3 = .ok (.if_icmp .eq 17, 3) := by decide +kernel
theorem d_M_peg_6 : decode (mi_code n_M_peg) 6 = .ok (.iload_n 1, 1) := by decide +kernel
theorem d_M_peg_7 : decode (mi_code n_M_peg) 7 = .ok (.iconst 0, 1) := by decide +kernel
theorem d_M_peg_8 : decode (mi_code n_M_peg) 8 = .ok (.aload_n 0, 1) := by decide +kernel
theorem d_M_peg_9 : decode (mi_code n_M_peg) 9 = .ok (.getfield 208, 3) := by decide +kernel
theorem d_M_peg_12 : decode (mi_code n_M_peg) 12 = .ok (.iconst 1, 1) := by decide +kernel
theorem d_M_peg_13 : decode (mi_code n_M_peg) 13 = .ok (.isub, 1) := by decide +kernel
theorem d_M_peg_14 : decode (mi_code n_M_peg) 14 = .ok (.invokestatic 126, 3) := by decide +kernel
theorem d_M_peg_17 : decode (mi_code n_M_peg) 17 = .ok (.ifCond .eq 7, 3) := by decide +kernel
theorem d_M_peg_20 : decode (mi_code n_M_peg) 20 = .ok (.iconst 1, 1) := by decide +kernel
theorem d_M_peg_21 : decode (mi_code n_M_peg) 21 = .ok (.goto 4, 3) := by decide +kernel
theorem d_M_peg_24 : decode (mi_code n_M_peg) 24 = .ok (.iconst 0, 1) := by decide +kernel
theorem d_M_peg_25 : decode (mi_code n_M_peg) 25 = .ok (.aload_n 0, 1) := by decide +kernel
theorem d_M_peg_26 : decode (mi_code n_M_peg) 26 = .ok (.getfield 208, 3) := by decide +kernel
theorem d_M_peg_29 : decode (mi_code n_M_peg) 29 = .ok (.bipush 6, 2) := by decide +kernel
theorem d_M_peg_31 : decode (mi_code n_M_peg) 31 = .ok (.if_icmp .ge 7, 3) := by decide +kernel
theorem d_M_peg_34 : decode (mi_code n_M_peg) 34 = .ok (.iconst 1, 1) := by decide +kernel
theorem d_M_peg_35 : decode (mi_code n_M_peg) 35 = .ok (.goto 4, 3) := by decide +kernel
theorem d_M_peg_38 : decode (mi_code n_M_peg) 38 = .ok (.iconst 0, 1) := by decide +kernel
theorem d_M_peg_39 : decode (mi_code n_M_peg) 39 = .ok (.invokevirtual 166, 3) := by decide +kernel
theorem d_M_peg_42 : decode (mi_code n_M_peg) 42 = .ok (.ifCond .ne 5, 3) := by decide +kernel
theorem d_M_peg_45 : decode (mi_code n_M_peg) 45 = .ok (.iconst 0, 1) := by decide +kernel
theorem d_M_peg_46 : decode (mi_code n_M_peg) 46 = .ok (.ireturn, 1) := by decide +kernel
theorem d_M_peg_47 : decode (mi_code n_M_peg) 47 = .ok (.aload_n 0, 1) := by decide +kernel
theorem d_M_peg_48 : decode (mi_code n_M_peg) 48 = .ok (.getfield 89, 3) := by decide +kernel
theorem d_M_peg_51 : decode (mi_code n_M_peg) 51 = .ok (.aload_n 0, 1) := by decide +kernel
theorem d_M_peg_52 : decode (mi_code n_M_peg) 52 = .ok (.getfield 208, 3) := by decide +kernel
theorem d_M_peg_55 : decode (mi_code n_M_peg) 55 = .ok (.iload_n 1, 1) := by decide +kernel
theorem d_M_peg_56 : decode (mi_code n_M_peg) 56 = .ok (.iastore, 1) := by decide +kernel
theorem d_M_peg_57 : decode (mi_code n_M_peg) 57 = .ok (.aload_n 0, 1) := by decide +kernel
theorem d_M_peg_58 : decode (mi_code n_M_peg) 58 = .ok (.dup, 1) := by decide +kernel
theorem d_M_peg_59 : decode (mi_code n_M_peg) 59 = .ok (.getfield 208, 3) := by decide +kernel
theorem d_M_peg_62 : decode (mi_code n_M_peg) 62 = .ok (.iconst 1, 1) := by decide +kernel
theorem d_M_peg_63 : decode (mi_code n_M_peg) 63 = .ok (.iadd, 1) := by decide +kernel
theorem d_M_peg_64 : decode (mi_code n_M_peg) 64 = .ok (.putfield 208, 3) := by decide +kernel
theorem d_M_peg_67 : decode (mi_code n_M_peg) 67 = .ok (.aload_n 0, 1) := by decide +kernel
theorem d_M_peg_68 : decode (mi_code n_M_peg) 68 = .ok (.getfield 208, 3) := by decide +kernel
theorem d_M_peg_71 : decode (mi_code n_M_peg) 71 = .ok (.iconst 1, 1) := by decide +kernel
theorem d_M_peg_72 : decode (mi_code n_M_peg) 72 = .ok (.isub, 1) := by decide +kernel
theorem d_M_peg_73 : decode (mi_code n_M_peg) 73 = .ok (.ireturn, 1) := by decide +kernel
theorem d_M_pen_0 : decode (mi_code n_M_pen) 0 = .ok (.aload_n 0, 1) := by decide +kernel
theorem d_M_pen_1 : decode (mi_code n_M_pen) 1 = .ok (.iload_n 1, 1) := by decide +kernel
theorem d_M_pen_2 : decode (mi_code n_M_pen) 2 = .ok (.iload_n 2, 1) := by decide +kernel
theorem d_M_pen_3 : decode (mi_code n_M_pen) 3 = .ok (.invokestatic 149, 3) := by decide +kernel
theorem d_M_pen_6 : decode (mi_code n_M_pen) 6 = .ok (.invokevirtual 138, 3) := by decide +kernel
theorem d_M_pen_9 : decode (mi_code n_M_pen) 9 = .ok (.ifCond .eq 13, 3) := by decide +kernel
theorem d_M_pen_12 : decode (mi_code n_M_pen) 12 = .ok (.aload_n 0, 1) := by decide +kernel
theorem d_M_pen_13 : decode (mi_code n_M_pen) 13 = .ok (.iload_n 1, 1) := by decide +kernel
theorem d_M_pen_14 : decode (mi_code n_M_pen) 14 = .ok (.putfield 160, 3) := by decide +kernel
theorem d_M_pen_17 : decode (mi_code n_M_pen) 17 = .ok (.aload_n 0, 1) := by decide +kernel
theorem d_M_pen_18 : decode (mi_code n_M_pen) 18 = .ok (.iload_n 2, 1) := by decide +kernel
theorem d_M_pen_19 : decode (mi_code n_M_pen) 19 = .ok (.putfield 163, 3) := by decide +kernel
theorem d_M_pen_22 : decode (mi_code n_M_pen) 22 = .ok (.return_, 1) := by decide +kernel
theorem d_M_placeOf_0 : decode (mi_code n_M_placeOf) 0 = .ok (.iconst 0, 1) := by decide +kernel
theorem d_M_placeOf_1 : decode (mi_code n_M_placeOf) 1 = .ok (.istore 4, 2) := by decide +kernel
theorem d_M_placeOf_3 : decode (mi_code n_M_placeOf) 3 = .ok (.iload_n 1, 1) := by decide +kernel
theorem d_M_placeOf_4 : decode (mi_code n_M_placeOf) 4 = .ok (.istore 5, 2) := by decide +kernel
theorem d_M_placeOf_6 : decode (mi_code n_M_placeOf) 6 = .ok (.iload 5, 2) := by decide +kernel
theorem d_M_placeOf_8 : decode (mi_code n_M_placeOf) 8 = .ok (.iconst (-1), 1) := by decide +kernel
theorem d_M_placeOf_9 : decode (mi_code n_M_placeOf) 9 = .ok (.if_icmp .eq 28, 3) := by decide +kernel
theorem d_M_placeOf_12 : decode (mi_code n_M_placeOf) 12 = .ok (.iload 4, 2) := by decide +kernel
theorem d_M_placeOf_14 : decode (mi_code n_M_placeOf) 14 = .ok (.aload_n 0, 1) := by decide +kernel
theorem d_M_placeOf_15 : decode (mi_code n_M_placeOf) 15 = .ok (.iload 5, 2) := by decide +kernel
theorem d_M_placeOf_17 : decode (mi_code n_M_placeOf) 17 = .ok (.iload_n 2, 1) := by decide +kernel
theorem d_M_placeOf_18 : decode (mi_code n_M_placeOf) 18 = .ok (.iload_n 3, 1) := by decide +kernel
theorem d_M_placeOf_19 : decode (mi_code n_M_placeOf) 19 = .ok (.invokevirtual 211, 3) := by decide +kernel
theorem d_M_placeOf_22 : decode (mi_code n_M_placeOf) 22 = .ok (.iadd, 1) := by decide +kernel
theorem d_M_placeOf_23 : decode (mi_code n_M_placeOf) 23 = .ok (.istore 4, 2) := by decide +kernel
theorem d_M_placeOf_25 : decode (mi_code n_M_placeOf) 25 = .ok (.aload_n 0, 1) := by decide +kernel
theorem d_M_placeOf_26 : decode (mi_code n_M_placeOf) 26 = .ok (.getfield 89, 3) := by decide +kernel
theorem d_M_placeOf_29 : decode (mi_code n_M_placeOf) 29 = .ok (.iload 5, 2) := by decide +kernel
theorem d_M_placeOf_31 : decode (mi_code n_M_placeOf) 31 = .ok (.iaload, 1) := by decide +kernel
theorem d_M_placeOf_32 : decode (mi_code n_M_placeOf) 32 = .ok (.istore 5, 2) := by decide +kernel
theorem d_M_placeOf_34 : decode (mi_code n_M_placeOf) 34 = .ok (.goto (-28), 3) := by decide +kernel
theorem d_M_placeOf_37 : decode (mi_code n_M_placeOf) 37 = .ok (.iload 4, 2) := by decide +kernel
theorem d_M_placeOf_39 : decode (mi_code n_M_placeOf) 39 = .ok (.ireturn, 1) := by decide +kernel
theorem d_M_point_0 : decode (mi_code n_M_point) 0 = .ok (.aload_n 0, 1) := by decide +kernel
theorem d_M_point_1 : decode (mi_code n_M_point) 1 = .ok (.aload_n 0, 1) := by decide +kernel
theorem d_M_point_2 : decode (mi_code n_M_point) 2 = .ok (.iload_n 1, 1) := by decide +kernel
theorem d_M_point_3 : decode (mi_code n_M_point) 3 = .ok (.invokevirtual 130, 3) := by decide +kernel
theorem d_M_point_6 : decode (mi_code n_M_point) 6 = .ok (.ifCond .eq 15, 3) := by decide +kernel
theorem d_M_point_9 : decode (mi_code n_M_point) 9 = .ok (.iload_n 2, 1) := by decide +kernel
theorem d_M_point_10 : decode (mi_code n_M_point) 10 = .ok (.iload_n 3, 1) := by decide +kernel
theorem d_M_point_11 : decode (mi_code n_M_point) 11 = .ok (.invokestatic 149, 3) := by decide +kernel
theorem d_M_point_14 : decode (mi_code n_M_point) 14 = .ok (.ifCond .eq 7, 3) := by decide +kernel
theorem d_M_point_17 : decode (mi_code n_M_point) 17 = .ok (.iconst 1, 1) := by decide +kernel
theorem d_M_point_18 : decode (mi_code n_M_point) 18 = .ok (.goto 4, 3) := by decide +kernel
theorem d_M_point_21 : decode (mi_code n_M_point) 21 = .ok (.iconst 0, 1) := by decide +kernel
theorem d_M_point_22 : decode (mi_code n_M_point) 22 = .ok (.invokevirtual 138, 3) := by decide +kernel
theorem d_M_point_25 : decode (mi_code n_M_point) 25 = .ok (.ifCond .ne 5, 3) := by decide +kernel
theorem d_M_point_28 : decode (mi_code n_M_point) 28 = .ok (.iconst 0, 1) := by decide +kernel
theorem d_M_point_29 : decode (mi_code n_M_point) 29 = .ok (.ireturn, 1) := by decide +kernel
theorem d_M_point_30 : decode (mi_code n_M_point) 30 = .ok (.aload_n 0, 1) := by decide +kernel
theorem d_M_point_31 : decode (mi_code n_M_point) 31 = .ok (.invokevirtual 229, 3) := by decide +kernel
theorem d_M_point_34 : decode (mi_code n_M_point) 34 = .ok (.aload_n 0, 1) := by decide +kernel
theorem d_M_point_35 : decode (mi_code n_M_point) 35 = .ok (.getfield 50, 3) := by decide +kernel
theorem d_M_point_38 : decode (mi_code n_M_point) 38 = .ok (.sipush 192, 3) := by decide +kernel
theorem d_M_point_41 : decode (mi_code n_M_point) 41 = .ok (.iload_n 1, 1) := by decide +kernel
theorem d_M_point_42 : decode (mi_code n_M_point) 42 = .ok (.imul, 1) := by decide +kernel
theorem d_M_point_43 : decode (mi_code n_M_point) 43 = .ok (.bipush 16, 2) := by decide +kernel
theorem d_M_point_45 : decode (mi_code n_M_point) 45 = .ok (.iload_n 3, 1) := by decide +kernel
theorem d_M_point_46 : decode (mi_code n_M_point) 46 = .ok (.imul, 1) := by decide +kernel
theorem d_M_point_47 : decode (mi_code n_M_point) 47 = .ok (.iadd, 1) := by decide +kernel
theorem d_M_point_48 : decode (mi_code n_M_point) 48 = .ok (.iload_n 2, 1) := by decide +kernel
theorem d_M_point_49 : decode (mi_code n_M_point) 49 = .ok (.iadd, 1) := by decide +kernel
theorem d_M_point_50 : decode (mi_code n_M_point) 50 = .ok (.iaload, 1) := by decide +kernel
theorem d_M_point_51 : decode (mi_code n_M_point) 51 = .ok (.ireturn, 1) := by decide +kernel
theorem d_M_scene_0 : decode (mi_code n_M_scene) 0 = .ok (.aload_n 0, 1) := by decide +kernel
theorem d_M_scene_1 : decode (mi_code n_M_scene) 1 = .ok (.iload_n 2, 1) := by decide +kernel
theorem d_M_scene_2 : decode (mi_code n_M_scene) 2 = .ok (.iconst 0, 1) := by decide +kernel
theorem d_M_scene_3 : decode (mi_code n_M_scene) 3 = .ok (.iconst 3, 1) := by decide +kernel
theorem d_M_scene_4 : decode (mi_code n_M_scene) 4 = .ok (.invokestatic 126, 3) := by decide +kernel
theorem d_M_scene_7 : decode (mi_code n_M_scene) 7 = .ok (.iload_n 1, 1) := by decide +kernel
theorem d_M_scene_8 : decode (mi_code n_M_scene) 8 = .ok (.iconst 1, 1) := by decide +kernel
theorem d_M_scene_9 : decode (mi_code n_M_scene) 9 = .ok (.bipush 24, 2) := by decide +kernel
theorem d_M_scene_11 : decode (mi_code n_M_scene) 11 = .ok (.invokestatic 126, 3) := by decide +kernel
theorem d_M_scene_14 : decode (mi_code n_M_scene) 14 = .ok (.aload_n 0, 1) := by decide +kernel
theorem d_M_scene_15 : decode (mi_code n_M_scene) 15 = .ok (.getfield 193, 3) := by decide +kernel
theorem d_M_scene_18 : decode (mi_code n_M_scene) 18 = .ok (.bipush 6, 2) := by decide +kernel
theorem d_M_scene_20 : decode (mi_code n_M_scene) 20 = .ok (.if_icmp .ge 7, 3) := by decide +kernel
theorem d_M_scene_23 : decode (mi_code n_M_scene) 23 = .ok (.iconst 1, 1) := by decide +kernel
theorem d_M_scene_24 : decode (mi_code n_M_scene) 24 = .ok (.goto 4, 3) := by decide +kernel
theorem d_M_scene_27 : decode (mi_code n_M_scene) 27 = .ok (.iconst 0, 1) := by decide +kernel
theorem d_M_scene_28 : decode (mi_code n_M_scene) 28 = .ok (.invokevirtual 146, 3) := by decide +kernel
theorem d_M_scene_31 : decode (mi_code n_M_scene) 31 = .ok (.ifCond .ne 5, 3) := by decide +kernel
theorem d_M_scene_34 : decode (mi_code n_M_scene) 34 = .ok (.iconst 0, 1) := by decide +kernel
theorem d_M_scene_35 : decode (mi_code n_M_scene) 35 = .ok (.ireturn, 1) := by decide +kernel
theorem d_M_scene_36 : decode (mi_code n_M_scene) 36 = .ok (.aload_n 0, 1) := by decide +kernel
theorem d_M_scene_37 : decode (mi_code n_M_scene) 37 = .ok (.getfield 65, 3) := by decide +kernel
theorem d_M_scene_40 : decode (mi_code n_M_scene) 40 = .ok (.aload_n 0, 1) := by decide +kernel
theorem d_M_scene_41 : decode (mi_code n_M_scene) 41 = .ok (.getfield 193, 3) := by decide +kernel
theorem d_M_scene_44 : decode (mi_code n_M_scene) 44 = .ok (.iload_n 1, 1) := by decide +kernel
theorem d_M_scene_45 : decode (mi_code n_M_scene) 45 = .ok (.iastore, 1) := by decide +kernel
theorem d_M_scene_46 : decode (mi_code n_M_scene) 46 = .ok (.aload_n 0, 1) := by decide +kernel
theorem d_M_scene_47 : decode (mi_code n_M_scene) 47 = .ok (.getfield 68, 3) := by decide +kernel
theorem d_M_scene_50 : decode (mi_code n_M_scene) 50 = .ok (.aload_n 0, 1) := by decide +kernel
theorem d_M_scene_51 : decode (mi_code n_M_scene) 51 = .ok (.getfield 193, 3) := by decide +kernel
theorem d_M_scene_54 : decode (mi_code n_M_scene) 54 = .ok (.iload_n 2, 1) := by decide +kernel
theorem d_M_scene_55 : decode (mi_code n_M_scene) 55 = .ok (.iastore, 1) := by decide +kernel
theorem d_M_scene_56 : decode (mi_code n_M_scene) 56 = .ok (.iconst 0, 1) := by decide +kernel
theorem d_M_scene_57 : decode (mi_code n_M_scene) 57 = .ok (.istore_n 3, 1) := by decide +kernel
theorem d_M_scene_58 : decode (mi_code n_M_scene) 58 = .ok (.iload_n 3, 1) := by decide +kernel
theorem d_M_scene_59 : decode (mi_code n_M_scene) 59 = .ok (.bipush 96, 2) := by decide +kernel
theorem d_M_scene_61 : decode (mi_code n_M_scene) 61 = .ok (.if_icmp .ge 25, 3) := by decide +kernel
theorem d_M_scene_64 : decode (mi_code n_M_scene) 64 = .ok (.aload_n 0, 1) := by decide +kernel
theorem d_M_scene_65 : decode (mi_code n_M_scene) 65 = .ok (.getfield 71, 3) := by decide +kernel
theorem d_M_scene_68 : decode (mi_code n_M_scene) 68 = .ok (.bipush 96, 2) := by decide +kernel
theorem d_M_scene_70 : decode (mi_code n_M_scene) 70 = .ok (.aload_n 0, 1) := by decide +kernel
theorem d_M_scene_71 : decode (mi_code n_M_scene) 71 = .ok (.getfield 193, 3) := by decide +kernel
theorem d_M_scene_74 : decode (mi_code n_M_scene) 74 = .ok (.imul, 1) := by decide +kernel
theorem d_M_scene_75 : decode (mi_code n_M_scene) 75 = .ok (.iload_n 3, 1) := by decide +kernel
theorem d_M_scene_76 : decode (mi_code n_M_scene) 76 = .ok (.iadd, 1) := by decide +kernel
theorem d_M_scene_77 : decode (mi_code n_M_scene) 77 = .ok (.bipush (-2), 2) := by decide +kernel
theorem d_M_scene_79 : decode (mi_code n_M_scene) 79 = .ok (.iastore, 1) := by decide +kernel
theorem d_M_scene_80 : decode (mi_code n_M_scene) 80 = .ok (.iinc 3 1, 3) := by decide +kernel
theorem d_M_scene_83 : decode (mi_code n_M_scene) 83 = .ok (.goto (-25), 3) := by decide +kernel
theorem d_M_scene_86 : decode (mi_code n_M_scene) 86 = .ok (.iconst 0, 1) := by decide +kernel
theorem d_M_scene_87 : decode (mi_code n_M_scene) 87 = .ok (.istore_n 3, 1) := by decide +kernel
theorem d_M_scene_88 : decode (mi_code n_M_scene) 88 = .ok (.iload_n 3, 1) := by decide +kernel
theorem d_M_scene_89 : decode (mi_code n_M_scene) 89 = .ok (.bipush 24, 2) := by decide +kernel
theorem d_M_scene_91 : decode (mi_code n_M_scene) 91 = .ok (.if_icmp .ge 25, 3) := by decide +kernel
theorem d_M_scene_94 : decode (mi_code n_M_scene) 94 = .ok (.aload_n 0, 1) := by decide +kernel
theorem d_M_scene_95 : decode (mi_code n_M_scene) 95 = .ok (.getfield 74, 3) := by decide +kernel
theorem d_M_scene_98 : decode (mi_code n_M_scene) 98 = .ok (.bipush 24, 2) := by decide +kernel
theorem d_M_scene_100 : decode (mi_code n_M_scene) 100 = .ok (.aload_n 0, 1) := by decide +kernel
theorem d_M_scene_101 : decode (mi_code n_M_scene) 101 = .ok (.getfield 193, 3) := by decide +kernel
theorem d_M_scene_104 : decode (mi_code n_M_scene) 104 = .ok (.imul, 1) := by decide +kernel
theorem d_M_scene_105 : decode (mi_code n_M_scene) 105 = .ok (.iload_n 3, 1) := by decide +kernel
theorem d_M_scene_106 : decode (mi_code n_M_scene) 106 = .ok (.iadd, 1) := by decide +kernel
theorem d_M_scene_107 : decode (mi_code n_M_scene) 107 = .ok (.bipush (-2), 2) := by decide +kernel
theorem d_M_scene_109 : decode (mi_code n_M_scene) 109 = .ok (.iastore, 1) := by decide +kernel
theorem d_M_scene_110 : decode (mi_code n_M_scene) 110 = .ok (.iinc 3 1, 3) := by decide +kernel
theorem d_M_scene_113 : decode (mi_code n_M_scene) 113 = .ok (.goto (-25), 3) := by decide +kernel
theorem d_M_scene_116 : decode (mi_code n_M_scene) 116 = .ok (.iconst 0, 1) := by decide +kernel
theorem d_M_scene_117 : decode (mi_code n_M_scene) 117 = .ok (.istore_n 3, 1) := by decide +kernel
theorem d_M_scene_118 : decode (mi_code n_M_scene) 118 = .ok (.iload_n 3, 1) := by decide +kernel
theorem d_M_scene_119 : decode (mi_code n_M_scene) 119 = .ok (.iconst 5, 1) := by decide +kernel
theorem d_M_scene_120 : decode (mi_code n_M_scene) 120 = .ok (.if_icmp .ge 37, 3) := by decide +kernel
theorem d_M_scene_123 : decode (mi_code n_M_scene) 123 = .ok (.aload_n 0, 1) := by decide +kernel
theorem d_M_scene_124 : decode (mi_code n_M_scene) 124 = .ok (.getfield 80, 3) := by decide +kernel
theorem d_M_scene_127 : decode (mi_code n_M_scene) 127 = .ok (.iconst 5, 1) := by decide +kernel
theorem d_M_scene_128 : decode (mi_code n_M_scene) 128 = .ok (.aload_n 0, 1) := by decide +kernel
theorem d_M_scene_129 : decode (mi_code n_M_scene) 129 = .ok (.getfield 193, 3) := by decide +kernel
theorem d_M_scene_132 : decode (mi_code n_M_scene) 132 = .ok (.imul, 1) := by decide +kernel
theorem d_M_scene_133 : decode (mi_code n_M_scene) 133 = .ok (.iload_n 3, 1) := by decide +kernel
theorem d_M_scene_134 : decode (mi_code n_M_scene) 134 = .ok (.iadd, 1) := by decide +kernel
theorem d_M_scene_135 : decode (mi_code n_M_scene) 135 = .ok (.iconst (-1), 1) := by decide +kernel
theorem d_M_scene_136 : decode (mi_code n_M_scene) 136 = .ok (.iastore, 1) := by decide +kernel
theorem d_M_scene_137 : decode (mi_code n_M_scene) 137 = .ok (.aload_n 0, 1) := by decide +kernel
theorem d_M_scene_138 : decode (mi_code n_M_scene) 138 = .ok (.getfield 83, 3) := by decide +kernel
theorem d_M_scene_141 : decode (mi_code n_M_scene) 141 = .ok (.iconst 5, 1) := by decide +kernel
theorem d_M_scene_142 : decode (mi_code n_M_scene) 142 = .ok (.aload_n 0, 1) := by decide +kernel
theorem d_M_scene_143 : decode (mi_code n_M_scene) 143 = .ok (.getfield 193, 3) := by decide +kernel
theorem d_M_scene_146 : decode (mi_code n_M_scene) 146 = .ok (.imul, 1) := by decide +kernel
theorem d_M_scene_147 : decode (mi_code n_M_scene) 147 = .ok (.iload_n 3, 1) := by decide +kernel
theorem d_M_scene_148 : decode (mi_code n_M_scene) 148 = .ok (.iadd, 1) := by decide +kernel
theorem d_M_scene_149 : decode (mi_code n_M_scene) 149 = .ok (.iconst 1, 1) := by decide +kernel
theorem d_M_scene_150 : decode (mi_code n_M_scene) 150 = .ok (.iastore, 1) := by decide +kernel
theorem d_M_scene_151 : decode (mi_code n_M_scene) 151 = .ok (.iinc 3 1, 3) := by decide +kernel
theorem d_M_scene_154 : decode (mi_code n_M_scene) 154 = .ok (.goto (-36), 3) := by decide +kernel
theorem d_M_scene_157 : decode (mi_code n_M_scene) 157 = .ok (.aload_n 0, 1) := by decide +kernel
theorem d_M_scene_158 : decode (mi_code n_M_scene) 158 = .ok (.dup, 1) := by decide +kernel
theorem d_M_scene_159 : decode (mi_code n_M_scene) 159 = .ok (.getfield 193, 3) := by decide +kernel
theorem d_M_scene_162 : decode (mi_code n_M_scene) 162 = .ok (.iconst 1, 1) := by decide +kernel
theorem d_M_scene_163 : decode (mi_code n_M_scene) 163 = .ok (.iadd, 1) := by decide +kernel
theorem d_M_scene_164 : decode (mi_code n_M_scene) 164 = .ok (.putfield 193, 3) := by decide +kernel
theorem d_M_scene_167 : decode (mi_code n_M_scene) 167 = .ok (.aload_n 0, 1) := by decide +kernel
theorem d_M_scene_168 : decode (mi_code n_M_scene) 168 = .ok (.getfield 193, 3) := by decide +kernel
theorem d_M_scene_171 : decode (mi_code n_M_scene) 171 = .ok (.iconst 1, 1) := by decide +kernel
theorem d_M_scene_172 : decode (mi_code n_M_scene) 172 = .ok (.isub, 1) := by decide +kernel
theorem d_M_scene_173 : decode (mi_code n_M_scene) 173 = .ok (.ireturn, 1) := by decide +kernel
theorem d_M_seen_0 : decode (mi_code n_M_seen) 0 = .ok (.aload_n 0, 1) := by decide +kernel
theorem d_M_seen_1 : decode (mi_code n_M_seen) 1 = .ok (.aload_n 0, 1) := by decide +kernel
theorem d_M_seen_2 : decode (mi_code n_M_seen) 2 = .ok (.iload_n 1, 1) := by decide +kernel
theorem d_M_seen_3 : decode (mi_code n_M_seen) 3 = .ok (.iload_n 2, 1) := by decide +kernel
theorem d_M_seen_4 : decode (mi_code n_M_seen) 4 = .ok (.invokevirtual 202, 3) := by decide +kernel
theorem d_M_seen_7 : decode (mi_code n_M_seen) 7 = .ok (.ifCond .eq 16, 3) := by decide +kernel
theorem d_M_seen_10 : decode (mi_code n_M_seen) 10 = .ok (.iload_n 3, 1) := by decide +kernel
theorem d_M_seen_11 : decode (mi_code n_M_seen) 11 = .ok (.iload 4, 2) := by decide +kernel
theorem d_M_seen_13 : decode (mi_code n_M_seen) 13 = .ok (.invokestatic 149, 3) := by decide +kernel
theorem d_M_seen_16 : decode (mi_code n_M_seen) 16 = .ok (.ifCond .eq 7, 3) := by decide +kernel
theorem d_M_seen_19 : decode (mi_code n_M_seen) 19 = .ok (.iconst 1, 1) := by decide +kernel
theorem d_M_seen_20 : decode (mi_code n_M_seen) 20 = .ok (.goto 4, 3) := by decide +kernel
theorem d_M_seen_23 : decode (mi_code n_M_seen) 23 = .ok (.iconst 0, 1) := by decide +kernel
theorem d_M_seen_24 : decode (mi_code n_M_seen) 24 = .ok (.invokevirtual 138, 3) := by decide +kernel
theorem d_M_seen_27 : decode (mi_code n_M_seen) 27 = .ok (.ifCond .ne 5, 3) := by decide +kernel
theorem d_M_seen_30 : decode (mi_code n_M_seen) 30 = .ok (.iconst 0, 1) := by decide +kernel
theorem d_M_seen_31 : decode (mi_code n_M_seen) 31 = .ok (.ireturn, 1) := by decide +kernel
theorem d_M_seen_32 : decode (mi_code n_M_seen) 32 = .ok (.aload_n 0, 1) := by decide +kernel
theorem d_M_seen_33 : decode (mi_code n_M_seen) 33 = .ok (.invokevirtual 229, 3) := by decide +kernel
theorem d_M_seen_36 : decode (mi_code n_M_seen) 36 = .ok (.aload_n 0, 1) := by decide +kernel
theorem d_M_seen_37 : decode (mi_code n_M_seen) 37 = .ok (.iload_n 1, 1) := by decide +kernel
theorem d_M_seen_38 : decode (mi_code n_M_seen) 38 = .ok (.iload_n 2, 1) := by decide +kernel
theorem d_M_seen_39 : decode (mi_code n_M_seen) 39 = .ok (.iload_n 3, 1) := by decide +kernel
theorem d_M_seen_40 : decode (mi_code n_M_seen) 40 = .ok (.iload 4, 2) := by decide +kernel
theorem d_M_seen_42 : decode (mi_code n_M_seen) 42 = .ok (.invokevirtual 226, 3) := by decide +kernel
theorem d_M_seen_45 : decode (mi_code n_M_seen) 45 = .ok (.ireturn, 1) := by decide +kernel
theorem d_M_seenAnew_0 : decode (mi_code n_M_seenAnew) 0 = .ok (.aload_n 0, 1) := by decide +kernel
theorem d_M_seenAnew_1 : decode (mi_code n_M_seenAnew) 1 = .ok (.aload_n 0, 1) := by decide +kernel
theorem d_M_seenAnew_2 : decode (mi_code n_M_seenAnew) 2 = .ok (.iload_n 1, 1) := by decide +kernel
theorem d_M_seenAnew_3 : decode (mi_code n_M_seenAnew) 3 = .ok (.iload_n 2, 1) := by decide +kernel
theorem d_M_seenAnew_4 : decode (mi_code n_M_seenAnew) 4 = .ok (.invokevirtual 202, 3) := by decide +kernel
theorem d_M_seenAnew_7 : decode (mi_code n_M_seenAnew) 7 = .ok (.ifCond .eq 16, 3) := by decide +kernel
theorem d_M_seenAnew_10 : decode (mi_code n_M_seenAnew) 10 = .ok (.iload_n 3, 1) := by decide +kernel
theorem d_M_seenAnew_11 : decode (mi_code n_M_seenAnew) 11 = .ok (.iload 4, 2) := by decide +kernel
theorem d_M_seenAnew_13 : decode (mi_code n_M_seenAnew) 13 = .ok (.invokestatic 149, 3) := by decide +kernel
theorem d_M_seenAnew_16 : decode (mi_code n_M_seenAnew) 16 = .ok (.ifCond .eq 7, 3) := by decide +kernel
theorem d_M_seenAnew_19 : decode (mi_code n_M_seenAnew) 19 = .ok (.iconst 1, 1) := by decide +kernel
theorem d_M_seenAnew_20 : decode (mi_code n_M_seenAnew) 20 = .ok (.goto 4, 3) := by decide +kernel
theorem d_M_seenAnew_23 : decode (mi_code n_M_seenAnew) 23 = .ok (.iconst 0, 1) := by decide +kernel
theorem d_M_seenAnew_24 : decode (mi_code n_M_seenAnew) 24 = .ok (.invokevirtual 138, 3) := by decide +kernel
theorem d_M_seenAnew_27 : decode (mi_code n_M_seenAnew) 27 = .ok (.ifCond .ne 5, 3) := by decide +kernel
theorem d_M_seenAnew_30 : decode (mi_code n_M_seenAnew) 30 = .ok (.iconst 0, 1) := by decide +kernel
theorem d_M_seenAnew_31 : decode (mi_code n_M_seenAnew) 31 = .ok (.ireturn, 1) := by decide +kernel
theorem d_M_seenAnew_32 : decode (mi_code n_M_seenAnew) 32 = .ok (.aload_n 0, 1) := by decide +kernel
theorem d_M_seenAnew_33 : decode (mi_code n_M_seenAnew) 33 = .ok (.iconst 1, 1) := by decide +kernel
theorem d_M_seenAnew_34 : decode (mi_code n_M_seenAnew) 34 = .ok (.putfield 134, 3) := by decide +kernel
theorem d_M_seenAnew_37 : decode (mi_code n_M_seenAnew) 37 = .ok (.aload_n 0, 1) := by decide +kernel
theorem d_M_seenAnew_38 : decode (mi_code n_M_seenAnew) 38 = .ok (.invokevirtual 229, 3) := by decide +kernel
theorem d_M_seenAnew_41 : decode (mi_code n_M_seenAnew) 41 = .ok (.aload_n 0, 1) := by decide +kernel
theorem d_M_seenAnew_42 : decode (mi_code n_M_seenAnew) 42 = .ok (.iload_n 1, 1) := by decide +kernel
theorem d_M_seenAnew_43 : decode (mi_code n_M_seenAnew) 43 = .ok (.iload_n 2, 1) := by decide +kernel
theorem d_M_seenAnew_44 : decode (mi_code n_M_seenAnew) 44 = .ok (.iload_n 3, 1) := by decide +kernel
theorem d_M_seenAnew_45 : decode (mi_code n_M_seenAnew) 45 = .ok (.iload 4, 2) := by decide +kernel
theorem d_M_seenAnew_47 : decode (mi_code n_M_seenAnew) 47 = .ok (.invokevirtual 226, 3) := by decide +kernel
theorem d_M_seenAnew_50 : decode (mi_code n_M_seenAnew) 50 = .ok (.ireturn, 1) := by decide +kernel
theorem d_M_seenAt_0 : decode (mi_code n_M_seenAt) 0 = .ok (.iconst 3, 1) := by decide +kernel
theorem d_M_seenAt_1 : decode (mi_code n_M_seenAt) 1 = .ok (.istore 5, 2) := by decide +kernel
theorem d_M_seenAt_3 : decode (mi_code n_M_seenAt) 3 = .ok (.iload 5, 2) := by decide +kernel
theorem d_M_seenAt_5 : decode (mi_code n_M_seenAt) 5 = .ok (.ifCond .lt 122, 3) := by decide +kernel
theorem d_M_seenAt_8 : decode (mi_code n_M_seenAt) 8 = .ok (.aload_n 0, 1) := by decide +kernel
theorem d_M_seenAt_9 : decode (mi_code n_M_seenAt) 9 = .ok (.iload_n 1, 1) := by decide +kernel
theorem d_M_seenAt_10 : decode (mi_code n_M_seenAt) 10 = .ok (.iload 5, 2) := by decide +kernel
theorem d_M_seenAt_12 : decode (mi_code n_M_seenAt) 12 = .ok (.iload_n 2, 1) := by decide +kernel
theorem d_M_seenAt_13 : decode (mi_code n_M_seenAt) 13 = .ok (.invokevirtual 218, 3) := by decide +kernel
theorem d_M_seenAt_16 : decode (mi_code n_M_seenAt) 16 = .ok (.istore 6, 2) := by decide +kernel
theorem d_M_seenAt_18 : decode (mi_code n_M_seenAt) 18 = .ok (.iload_n 3, 1) := by decide +kernel
theorem d_M_seenAt_19 : decode (mi_code n_M_seenAt) 19 = .ok (.aload_n 0, 1) := by decide +kernel
theorem d_M_seenAt_20 : decode (mi_code n_M_seenAt) 20 = .ok (.iload_n 1, 1) := by decide +kernel
theorem d_M_seenAt_21 : decode (mi_code n_M_seenAt) 21 = .ok (.iload 5, 2) := by decide +kernel
theorem d_M_seenAt_23 : decode (mi_code n_M_seenAt) 23 = .ok (.iload_n 2, 1) := by decide +kernel
theorem d_M_seenAt_24 : decode (mi_code n_M_seenAt) 24 = .ok (.iconst 1, 1) := by decide +kernel
theorem d_M_seenAt_25 : decode (mi_code n_M_seenAt) 25 = .ok (.invokevirtual 222, 3) := by decide +kernel
theorem d_M_seenAt_28 : decode (mi_code n_M_seenAt) 28 = .ok (.isub, 1) := by decide +kernel
theorem d_M_seenAt_29 : decode (mi_code n_M_seenAt) 29 = .ok (.istore 7, 2) := by decide +kernel
theorem d_M_seenAt_31 : decode (mi_code n_M_seenAt) 31 = .ok (.iload 4, 2) := by decide +kernel
theorem d_M_seenAt_33 : decode (mi_code n_M_seenAt) 33 = .ok (.aload_n 0, 1) := by decide +kernel
theorem d_M_seenAt_34 : decode (mi_code n_M_seenAt) 34 = .ok (.iload_n 1, 1) := by decide +kernel
theorem d_M_seenAt_35 : decode (mi_code n_M_seenAt) 35 = .ok (.iload 5, 2) := by decide +kernel
theorem d_M_seenAt_37 : decode (mi_code n_M_seenAt) 37 = .ok (.iload_n 2, 1) := by decide +kernel
theorem d_M_seenAt_38 : decode (mi_code n_M_seenAt) 38 = .ok (.iconst 0, 1) := by decide +kernel
theorem d_M_seenAt_39 : decode (mi_code n_M_seenAt) 39 = .ok (.invokevirtual 222, 3) := by decide +kernel
theorem d_M_seenAt_42 : decode (mi_code n_M_seenAt) 42 = .ok (.isub, 1) := by decide +kernel
theorem d_M_seenAt_43 : decode (mi_code n_M_seenAt) 43 = .ok (.istore 8, 2) := by decide +kernel
theorem d_M_seenAt_45 : decode (mi_code n_M_seenAt) 45 = .ok (.iload 6, 2) := by decide +kernel
theorem d_M_seenAt_47 : decode (mi_code n_M_seenAt) 47 = .ok (.iconst (-1), 1) := by decide +kernel
theorem d_M_seenAt_48 : decode (mi_code n_M_seenAt) 48 = .ok (.if_icmp .eq 73, 3) := by decide +kernel
theorem d_M_seenAt_51 : decode (mi_code n_M_seenAt) 51 = .ok (.iload 7, 2) := by decide +kernel
theorem d_M_seenAt_53 : decode (mi_code n_M_seenAt) 53 = .ok (.iload 8, 2) := by decide +kernel
theorem d_M_seenAt_55 : decode (mi_code n_M_seenAt) 55 = .ok (.invokestatic 149, 3) := by decide +kernel
theorem d_M_seenAt_58 : decode (mi_code n_M_seenAt) 58 = .ok (.ifCond .eq 63, 3) := by decide +kernel
theorem d_M_seenAt_61 : decode (mi_code n_M_seenAt) 61 = .ok (.aload_n 0, 1) := by decide +kernel
theorem d_M_seenAt_62 : decode (mi_code n_M_seenAt) 62 = .ok (.getfield 50, 3) := by decide +kernel
theorem d_M_seenAt_65 : decode (mi_code n_M_seenAt) 65 = .ok (.sipush 192, 3) := by decide +kernel
theorem d_M_seenAt_68 : decode (mi_code n_M_seenAt) 68 = .ok (.iload 6, 2) := by decide +kernel
theorem d_M_seenAt_70 : decode (mi_code n_M_seenAt) 70 = .ok (.imul, 1) := by decide +kernel
theorem d_M_seenAt_71 : decode (mi_code n_M_seenAt) 71 = .ok (.bipush 16, 2) := by decide +kernel
theorem d_M_seenAt_73 : decode (mi_code n_M_seenAt) 73 = .ok (.iload 8, 2) := by decide +kernel
theorem d_M_seenAt_75 : decode (mi_code n_M_seenAt) 75 = .ok (.imul, 1) := by decide +kernel
theorem d_M_seenAt_76 : decode (mi_code n_M_seenAt) 76 = .ok (.iadd, 1) := by decide +kernel
theorem d_M_seenAt_77 : decode (mi_code n_M_seenAt) 77 = .ok (.iload 7, 2) := by decide +kernel
theorem d_M_seenAt_79 : decode (mi_code n_M_seenAt) 79 = .ok (.iadd, 1) := by decide +kernel
theorem d_M_seenAt_80 : decode (mi_code n_M_seenAt) 80 = .ok (.iaload, 1) := by decide +kernel
theorem d_M_seenAt_81 : decode (mi_code n_M_seenAt) 81 = .ok (.iconst (-1), 1) := by decide +kernel
theorem d_M_seenAt_82 : decode (mi_code n_M_seenAt) 82 = .ok (.if_icmp .eq 39, 3) := by decide +kernel
theorem d_M_seenAt_85 : decode (mi_code n_M_seenAt) 85 = .ok (.aload_n 0, 1) := by decide +kernel
theorem d_M_seenAt_86 : decode (mi_code n_M_seenAt) 86 = .ok (.getfield 62, 3) := by decide +kernel
theorem d_M_seenAt_89 : decode (mi_code n_M_seenAt) 89 = .ok (.bipush 8, 2) := by decide +kernel
theorem d_M_seenAt_91 : decode (mi_code n_M_seenAt) 91 = .ok (.aload_n 0, 1) := by decide +kernel
theorem d_M_seenAt_92 : decode (mi_code n_M_seenAt) 92 = .ok (.getfield 68, 3) := by decide +kernel
theorem d_M_seenAt_95 : decode (mi_code n_M_seenAt) 95 = .ok (.iload_n 1, 1) := by decide +kernel
theorem d_M_seenAt_96 : decode (mi_code n_M_seenAt) 96 = .ok (.iaload, 1) := by decide +kernel
theorem d_M_seenAt_97 : decode (mi_code n_M_seenAt) 97 = .ok (.imul, 1) := by decide +kernel
theorem d_M_seenAt_98 : decode (mi_code n_M_seenAt) 98 = .ok (.aload_n 0, 1) := by decide +kernel
theorem d_M_seenAt_99 : decode (mi_code n_M_seenAt) 99 = .ok (.getfield 50, 3) := by decide +kernel
theorem d_M_seenAt_102 : decode (mi_code n_M_seenAt) 102 = .ok (.sipush 192, 3) := by decide +kernel
theorem d_M_seenAt_105 : decode (mi_code n_M_seenAt) 105 = .ok (.iload 6, 2) := by decide +kernel
theorem d_M_seenAt_107 : decode (mi_code n_M_seenAt) 107 = .ok (.imul, 1) := by decide +kernel
theorem d_M_seenAt_108 : decode (mi_code n_M_seenAt) 108 = .ok (.bipush 16, 2) := by decide +kernel
theorem d_M_seenAt_110 : decode (mi_code n_M_seenAt) 110 = .ok (.iload 8, 2) := by decide +kernel
theorem d_M_seenAt_112 : decode (mi_code n_M_seenAt) 112 = .ok (.imul, 1) := by decide +kernel
theorem d_M_seenAt_113 : decode (mi_code n_M_seenAt) 113 = .ok (.iadd, 1) := by decide +kernel
theorem d_M_seenAt_114 : decode (mi_code n_M_seenAt) 114 = .ok (.iload 7, 2) := by decide +kernel
theorem d_M_seenAt_116 : decode (mi_code n_M_seenAt) 116 = .ok (.iadd, 1) := by decide +kernel
theorem d_M_seenAt_117 : decode (mi_code n_M_seenAt) 117 = .ok (.iaload, 1) := by decide +kernel
theorem d_M_seenAt_118 : decode (mi_code n_M_seenAt) 118 = .ok (.iadd, 1) := by decide +kernel
theorem d_M_seenAt_119 : decode (mi_code n_M_seenAt) 119 = .ok (.iaload, 1) := by decide +kernel
theorem d_M_seenAt_120 : decode (mi_code n_M_seenAt) 120 = .ok (.ireturn, 1) := by decide +kernel
theorem d_M_seenAt_121 : decode (mi_code n_M_seenAt) 121 = .ok (.iinc 5 (-1), 3) := by decide +kernel
theorem d_M_seenAt_124 : decode (mi_code n_M_seenAt) 124 = .ok (.goto (-121), 3) := by decide +kernel
theorem d_M_seenAt_127 : decode (mi_code n_M_seenAt) 127 = .ok (.iconst 0, 1) := by decide +kernel
theorem d_M_seenAt_128 : decode (mi_code n_M_seenAt) 128 = .ok (.ireturn, 1) := by decide +kernel
theorem d_M_shoot_0 : decode (mi_code n_M_shoot) 0 = .ok (.aload_n 0, 1) := by decide +kernel
theorem d_M_shoot_1 : decode (mi_code n_M_shoot) 1 = .ok (.aload_n 0, 1) := by decide +kernel
theorem d_M_shoot_2 : decode (mi_code n_M_shoot) 2 = .ok (.iload_n 1, 1) := by decide +kernel
theorem d_M_shoot_3 : decode (mi_code n_M_shoot) 3 = .ok (.invokevirtual 196, 3) := by decide +kernel
theorem d_M_shoot_6 : decode (mi_code n_M_shoot) 6 = .ok (.invokevirtual 138, 3) := by decide +kernel
theorem d_M_shoot_9 : decode (mi_code n_M_shoot) 9 = .ok (.ifCond .ne 5, 3) := by decide +kernel
theorem d_M_shoot_12 : decode (mi_code n_M_shoot) 12 = .ok (.iconst 0, 1) := by decide +kernel
theorem d_M_shoot_13 : decode (mi_code n_M_shoot) 13 = .ok (.ireturn, 1) := by decide +kernel
theorem d_M_shoot_14 : decode (mi_code n_M_shoot) 14 = .ok (.aload_n 0, 1) := by decide +kernel
theorem d_M_shoot_15 : decode (mi_code n_M_shoot) 15 = .ok (.invokevirtual 229, 3) := by decide +kernel
theorem d_M_shoot_18 : decode (mi_code n_M_shoot) 18 = .ok (.iconst 0, 1) := by decide +kernel
theorem d_M_shoot_19 : decode (mi_code n_M_shoot) 19 = .ok (.istore_n 2, 1) := by decide +kernel
theorem d_M_shoot_20 : decode (mi_code n_M_shoot) 20 = .ok (.iconst 0, 1) := by decide +kernel
theorem d_M_shoot_21 : decode (mi_code n_M_shoot) 21 = .ok (.istore_n 3, 1) := by decide +kernel
theorem d_M_shoot_22 : decode (mi_code n_M_shoot) 22 = .ok (.iload_n 3, 1) := by decide +kernel
theorem d_M_shoot_23 : decode (mi_code n_M_shoot) 23 = .ok (.aload_n 0, 1) := by decide +kernel
theorem d_M_shoot_24 : decode (mi_code n_M_shoot) 24 = .ok (.getfield 65, 3) := by decide +kernel
theorem d_M_shoot_27 : decode (mi_code n_M_shoot) 27 = .ok (.iload_n 1, 1) := by decide +kernel
theorem d_M_shoot_28 : decode (mi_code n_M_shoot) 28 = .ok (.iaload, 1) := by decide +kernel
theorem d_M_shoot_29 : decode (mi_code n_M_shoot) 29 = .ok (.if_icmp .ge 84, 3) := by decide +kernel
theorem d_M_shoot_32 : decode (mi_code n_M_shoot) 32 = .ok (.aload_n 0, 1) := by decide +kernel
theorem d_M_shoot_33 : decode (mi_code n_M_shoot) 33 = .ok (.iload_n 1, 1) := by decide +kernel
theorem d_M_shoot_34 : decode (mi_code n_M_shoot) 34 = .ok (.iload_n 3, 1) := by decide +kernel
theorem d_M_shoot_35 : decode (mi_code n_M_shoot) 35 = .ok (.invokevirtual 232, 3) := by decide +kernel
theorem d_M_shoot_38 : decode (mi_code n_M_shoot) 38 = .ok (.ifCond .eq 69, 3) := by decide +kernel
theorem d_M_shoot_41 : decode (mi_code n_M_shoot) 41 = .ok (.iinc 2 1, 3) := by decide +kernel
theorem d_M_shoot_44 : decode (mi_code n_M_shoot) 44 = .ok (.aload_n 0, 1) := by decide +kernel
theorem d_M_shoot_45 : decode (mi_code n_M_shoot) 45 = .ok (.getfield 104, 3) := by decide +kernel
theorem d_M_shoot_48 : decode (mi_code n_M_shoot) 48 = .ok (.bipush 24, 2) := by decide +kernel
theorem d_M_shoot_50 : decode (mi_code n_M_shoot) 50 = .ok (.iload_n 1, 1) := by decide +kernel
theorem d_M_shoot_51 : decode (mi_code n_M_shoot) 51 = .ok (.imul, 1) := by decide +kernel
theorem d_M_shoot_52 : decode (mi_code n_M_shoot) 52 = .ok (.iload_n 3, 1) := by decide +kernel
theorem d_M_shoot_53 : decode (mi_code n_M_shoot) 53 = .ok (.iadd, 1) := by decide +kernel
theorem d_M_shoot_54 : decode (mi_code n_M_shoot) 54 = .ok (.iconst 1, 1) := by decide +kernel
theorem d_M_shoot_55 : decode (mi_code n_M_shoot) 55 = .ok (.bastore, 1) := by decide +kernel
theorem d_M_shoot_56 : decode (mi_code n_M_shoot) 56 = .ok (.iconst 0, 1) := by decide +kernel
theorem d_M_shoot_57 : decode (mi_code n_M_shoot) 57 = .ok (.istore 4, 2) := by decide +kernel
theorem d_M_shoot_59 : decode (mi_code n_M_shoot) 59 = .ok (.iload 4, 2) := by decide +kernel
theorem d_M_shoot_61 : decode (mi_code n_M_shoot) 61 = .ok (.sipush 192, 3) := by decide +kernel
theorem d_M_shoot_64 : decode (mi_code n_M_shoot) 64 = .ok (.if_icmp .ge 43, 3) := by decide +kernel
theorem d_M_shoot_67 : decode (mi_code n_M_shoot) 67 = .ok (.aload_n 0, 1) := by decide +kernel
theorem d_M_shoot_68 : decode (mi_code n_M_shoot) 68 = .ok (.getfield 107, 3) := by decide +kernel
theorem d_M_shoot_71 : decode (mi_code n_M_shoot) 71 = .ok (.sipush 192, 3) := by decide +kernel
theorem d_M_shoot_74 : decode (mi_code n_M_shoot) 74 = .ok (.bipush 24, 2) := by decide +kernel
theorem d_M_shoot_76 : decode (mi_code n_M_shoot) 76 = .ok (.iload_n 1, 1) := by decide +kernel
theorem d_M_shoot_77 : decode (mi_code n_M_shoot) 77 = .ok (.imul, 1) := by decide +kernel
theorem d_M_shoot_78 : decode (mi_code n_M_shoot) 78 = .ok (.iload_n 3, 1) := by decide +kernel
theorem d_M_shoot_79 : decode (mi_code n_M_shoot) 79 = .ok (.iadd, 1) := by decide +kernel
theorem d_M_shoot_80 : decode (mi_code n_M_shoot) 80 = .ok (.imul, 1) := by decide +kernel
theorem d_M_shoot_81 : decode (mi_code n_M_shoot) 81 = .ok (.iload 4, 2) := by decide +kernel
theorem d_M_shoot_83 : decode (mi_code n_M_shoot) 83 = .ok (.iadd, 1) := by decide +kernel
theorem d_M_shoot_84 : decode (mi_code n_M_shoot) 84 = .ok (.aload_n 0, 1) := by decide +kernel
theorem d_M_shoot_85 : decode (mi_code n_M_shoot) 85 = .ok (.iload_n 1, 1) := by decide +kernel
theorem d_M_shoot_86 : decode (mi_code n_M_shoot) 86 = .ok (.iload_n 3, 1) := by decide +kernel
theorem d_M_shoot_87 : decode (mi_code n_M_shoot) 87 = .ok (.iload 4, 2) := by decide +kernel
theorem d_M_shoot_89 : decode (mi_code n_M_shoot) 89 = .ok (.bipush 16, 2) := by decide +kernel
theorem d_M_shoot_91 : decode (mi_code n_M_shoot) 91 = .ok (.irem, 1) := by decide +kernel
theorem d_M_shoot_92 : decode (mi_code n_M_shoot) 92 = .ok (.iload 4, 2) := by decide +kernel
theorem d_M_shoot_94 : decode (mi_code n_M_shoot) 94 = .ok (.bipush 16, 2) := by decide +kernel
theorem d_M_shoot_96 : decode (mi_code n_M_shoot) 96 = .ok (.idiv, 1) := by decide +kernel
theorem d_M_shoot_97 : decode (mi_code n_M_shoot) 97 = .ok (.invokevirtual 226, 3) := by decide +kernel
theorem d_M_shoot_100 : decode (mi_code n_M_shoot) 100 = .ok (.iastore, 1) := by decide +kernel
theorem d_M_shoot_101 : decode (mi_code n_M_shoot) 101 = .ok (.iinc 4 1, 3) := by decide +kernel
theorem d_M_shoot_104 : decode (mi_code n_M_shoot) 104 = .ok (.goto (-45), 3) := by decide +kernel
theorem d_M_shoot_107 : decode (mi_code n_M_shoot) 107 = .ok (.iinc 3 1, 3) := by decide +kernel
theorem d_M_shoot_110 : decode (mi_code n_M_shoot) 110 = .ok (.goto (-88), 3) := by decide +kernel
theorem d_M_shoot_113 : decode (mi_code n_M_shoot) 113 = .ok (.iload_n 2, 1) := by decide +kernel
theorem d_M_shoot_114 : decode (mi_code n_M_shoot) 114 = .ok (.ireturn, 1) := by decide +kernel
theorem d_M_shot_0 : decode (mi_code n_M_shot) 0 = .ok (.aload_n 0, 1) := by decide +kernel
theorem d_M_shot_1 : decode (mi_code n_M_shot) 1 = .ok (.aload_n 0, 1) := by decide +kernel
theorem d_M_shot_2 : decode (mi_code n_M_shot) 2 = .ok (.iload_n 1, 1) := by decide +kernel
theorem d_M_shot_3 : decode (mi_code n_M_shot) 3 = .ok (.iload_n 2, 1) := by decide +kernel
theorem d_M_shot_4 : decode (mi_code n_M_shot) 4 = .ok (.invokevirtual 202, 3) := by decide +kernel
theorem d_M_shot_7 : decode (mi_code n_M_shot) 7 = .ok (.ifCond .eq 16, 3) := by decide +kernel
theorem d_M_shot_10 : decode (mi_code n_M_shot) 10 = .ok (.iload_n 3, 1) := by decide +kernel
theorem d_M_shot_11 : decode (mi_code n_M_shot) 11 = .ok (.iload 4, 2) := by decide +kernel
theorem d_M_shot_13 : decode (mi_code n_M_shot) 13 = .ok (.invokestatic 149, 3) := by decide +kernel
theorem d_M_shot_16 : decode (mi_code n_M_shot) 16 = .ok (.ifCond .eq 7, 3) := by decide +kernel
theorem d_M_shot_19 : decode (mi_code n_M_shot) 19 = .ok (.iconst 1, 1) := by decide +kernel
theorem d_M_shot_20 : decode (mi_code n_M_shot) 20 = .ok (.goto 4, 3) := by decide +kernel
theorem d_M_shot_23 : decode (mi_code n_M_shot) 23 = .ok (.iconst 0, 1) := by decide +kernel
theorem d_M_shot_24 : decode (mi_code n_M_shot) 24 = .ok (.invokevirtual 138, 3) := by decide +kernel
theorem d_M_shot_27 : decode (mi_code n_M_shot) 27 = .ok (.ifCond .ne 5, 3) := by decide +kernel
theorem d_M_shot_30 : decode (mi_code n_M_shot) 30 = .ok (.iconst 0, 1) := by decide +kernel
theorem d_M_shot_31 : decode (mi_code n_M_shot) 31 = .ok (.ireturn, 1) := by decide +kernel
theorem d_M_shot_32 : decode (mi_code n_M_shot) 32 = .ok (.aload_n 0, 1) := by decide +kernel
theorem d_M_shot_33 : decode (mi_code n_M_shot) 33 = .ok (.getfield 104, 3) := by decide +kernel
theorem d_M_shot_36 : decode (mi_code n_M_shot) 36 = .ok (.bipush 24, 2) := by decide +kernel
theorem d_M_shot_38 : decode (mi_code n_M_shot) 38 = .ok (.iload_n 1, 1) := by decide +kernel
theorem d_M_shot_39 : decode (mi_code n_M_shot) 39 = .ok (.imul, 1) := by decide +kernel
theorem d_M_shot_40 : decode (mi_code n_M_shot) 40 = .ok (.iload_n 2, 1) := by decide +kernel
theorem d_M_shot_41 : decode (mi_code n_M_shot) 41 = .ok (.iadd, 1) := by decide +kernel
theorem d_M_shot_42 : decode (mi_code n_M_shot) 42 = .ok (.baload, 1) := by decide +kernel
theorem d_M_shot_43 : decode (mi_code n_M_shot) 43 = .ok (.ifCond .eq 29, 3) := by decide +kernel
theorem d_M_shot_46 : decode (mi_code n_M_shot) 46 = .ok (.aload_n 0, 1) := by decide +kernel
theorem d_M_shot_47 : decode (mi_code n_M_shot) 47 = .ok (.getfield 107, 3) := by decide +kernel
theorem d_M_shot_50 : decode (mi_code n_M_shot) 50 = .ok (.sipush 192, 3) := by decide +kernel
theorem d_M_shot_53 : decode (mi_code n_M_shot) 53 = .ok (.bipush 24, 2) := by decide +kernel
theorem d_M_shot_55 : decode (mi_code n_M_shot) 55 = .ok (.iload_n 1, 1) := by decide +kernel
theorem d_M_shot_56 : decode (mi_code n_M_shot) 56 = .ok (.imul, 1) := by decide +kernel
theorem d_M_shot_57 : decode (mi_code n_M_shot) 57 = .ok (.iload_n 2, 1) := by decide +kernel
theorem d_M_shot_58 : decode (mi_code n_M_shot) 58 = .ok (.iadd, 1) := by decide +kernel
theorem d_M_shot_59 : decode (mi_code n_M_shot) 59 = .ok (.imul, 1) := by decide +kernel
theorem d_M_shot_60 : decode (mi_code n_M_shot) 60 = .ok (.bipush 16, 2) := by decide +kernel
theorem d_M_shot_62 : decode (mi_code n_M_shot) 62 = .ok (.iload 4, 2) := by decide +kernel
theorem d_M_shot_64 : decode (mi_code n_M_shot) 64 = .ok (.imul, 1) := by decide +kernel
theorem d_M_shot_65 : decode (mi_code n_M_shot) 65 = .ok (.iadd, 1) := by decide +kernel
theorem d_M_shot_66 : decode (mi_code n_M_shot) 66 = .ok (.iload_n 3, 1) := by decide +kernel
theorem d_M_shot_67 : decode (mi_code n_M_shot) 67 = .ok (.iadd, 1) := by decide +kernel
theorem d_M_shot_68 : decode (mi_code n_M_shot) 68 = .ok (.iaload, 1) := by decide +kernel
theorem d_M_shot_69 : decode (mi_code n_M_shot) 69 = .ok (.goto 4, 3) := by decide +kernel
theorem d_M_shot_72 : decode (mi_code n_M_shot) 72 = .ok (.iconst (-1), 1) := by decide +kernel
theorem d_M_shot_73 : decode (mi_code n_M_shot) 73 = .ok (.ireturn, 1) := by decide +kernel
theorem d_M_size_0 : decode (mi_code n_M_size) 0 = .ok (.iload_n 0, 1) := by decide +kernel
theorem d_M_size_1 : decode (mi_code n_M_size) 1 = .ok (.ifCond .ge 8, 3) := by decide +kernel
theorem d_M_size_4 : decode (mi_code n_M_size) 4 = .ok (.iload_n 0, 1) := by decide +kernel
theorem d_M_size_5 : decode (mi_code n_M_size) 5 = .ok (.ineg, 1) := by decide +kernel
theorem d_M_size_6 : decode (mi_code n_M_size) 6 = .ok (.goto 4, 3) := by decide +kernel
theorem d_M_size_9 : decode (mi_code n_M_size) 9 = .ok (.iload_n 0, 1) := by decide +kernel
theorem d_M_size_10 : decode (mi_code n_M_size) 10 = .ok (.ireturn, 1) := by decide +kernel
theorem d_M_soundAt_0 : decode (mi_code n_M_soundAt) 0 = .ok (.iload_n 2, 1) := by decide +kernel
theorem d_M_soundAt_1 : decode (mi_code n_M_soundAt) 1 = .ok (.istore_n 3, 1) := by decide +kernel
theorem d_M_soundAt_2 : decode (mi_code n_M_soundAt) 2 = .ok (.iload_n 3, 1) := by decide +kernel
theorem d_M_soundAt_3 : decode (mi_code n_M_soundAt) 3 = .ok (.ifCond .lt 37, 3) := by decide +kernel
theorem d_M_soundAt_6 : decode (mi_code n_M_soundAt) 6 = .ok (.aload_n 0, 1) := by decide +kernel
theorem d_M_soundAt_7 : decode (mi_code n_M_soundAt) 7 = .ok (.getfield 74, 3) := by decide +kernel
theorem d_M_soundAt_10 : decode (mi_code n_M_soundAt) 10 = .ok (.bipush 24, 2) := by decide +kernel
theorem d_M_soundAt_12 : decode (mi_code n_M_soundAt) 12 = .ok (.iload_n 1, 1) := by decide +kernel
theorem d_M_soundAt_13 : decode (mi_code n_M_soundAt) 13 = .ok (.imul, 1) := by decide +kernel
theorem d_M_soundAt_14 : decode (mi_code n_M_soundAt) 14 = .ok (.iload_n 3, 1) := by decide +kernel
theorem d_M_soundAt_15 : decode (mi_code n_M_soundAt) 15 = .ok (.iadd, 1) := by decide +kernel
theorem d_M_soundAt_16 : decode (mi_code n_M_soundAt) 16 = .ok (.iaload, 1) := by decide +kernel
theorem d_M_soundAt_17 : decode (mi_code n_M_soundAt) 17 = .ok (.bipush (-2), 2) := by decide +kernel
theorem d_M_soundAt_19 : decode (mi_code n_M_soundAt) 19 = .ok (.if_icmp .eq 15, 3) := by decide +kernel
theorem d_M_soundAt_22 : decode (mi_code n_M_soundAt) 22 = .ok (.aload_n 0, 1) := by decide +kernel
theorem d_M_soundAt_23 : decode (mi_code n_M_soundAt) 23 = .ok (.getfield 74, 3) := by decide +kernel
theorem d_M_soundAt_26 : decode (mi_code n_M_soundAt) 26 = .ok (.bipush 24, 2) := by decide +kernel
theorem d_M_soundAt_28 : decode (mi_code n_M_soundAt) 28 = .ok (.iload_n 1, 1) := by decide +kernel
theorem d_M_soundAt_29 : decode (mi_code n_M_soundAt) 29 = .ok (.imul, 1) := by decide +kernel
theorem d_M_soundAt_30 : decode (mi_code n_M_soundAt) 30 = .ok (.iload_n 3, 1) := by decide +kernel
theorem d_M_soundAt_31 : decode (mi_code n_M_soundAt) 31 = .ok (.iadd, 1) := by decide +kernel
theorem d_M_soundAt_32 : decode (mi_code n_M_soundAt) 32 = .ok (.iaload, 1) := by decide +kernel
theorem d_M_soundAt_33 : decode (mi_code n_M_soundAt) 33 = .ok (.ireturn, 1) := by decide +kernel
theorem d_M_soundAt_34 : decode (mi_code n_M_soundAt) 34 = .ok (.iinc 3 (-1), 3) := by decide +kernel
theorem d_M_soundAt_37 : decode (mi_code n_M_soundAt) 37 = .ok (.goto (-35), 3) := by decide +kernel
theorem d_M_soundAt_40 : decode (mi_code n_M_soundAt) 40 = .ok (.iconst (-1), 1) := by decide +kernel
theorem d_M_soundAt_41 : decode (mi_code n_M_soundAt) 41 = .ok (.ireturn, 1) := by decide +kernel
theorem d_M_speaks_0 : decode (mi_code n_M_speaks) 0 = .ok (.aload_n 0, 1) := by decide +kernel
theorem d_M_speaks_1 : decode (mi_code n_M_speaks) 1 = .ok (.aload_n 0, 1) := by decide +kernel
theorem d_M_speaks_2 : decode (mi_code n_M_speaks) 2 = .ok (.iload_n 1, 1) := by decide +kernel
theorem d_M_speaks_3 : decode (mi_code n_M_speaks) 3 = .ok (.iload_n 2, 1) := by decide +kernel
theorem d_M_speaks_4 : decode (mi_code n_M_speaks) 4 = .ok (.invokevirtual 199, 3) := by decide +kernel
theorem d_M_speaks_7 : decode (mi_code n_M_speaks) 7 = .ok (.invokevirtual 138, 3) := by decide +kernel
theorem d_M_speaks_10 : decode (mi_code n_M_speaks) 10 = .ok (.ifCond .ne 5, 3) := by decide +kernel
theorem d_M_speaks_13 : decode (mi_code n_M_speaks) 13 = .ok (.iconst 0, 1) := by decide +kernel
theorem d_M_speaks_14 : decode (mi_code n_M_speaks) 14 = .ok (.ireturn, 1) := by decide +kernel
theorem d_M_speaks_15 : decode (mi_code n_M_speaks) 15 = .ok (.aload_n 0, 1) := by decide +kernel
theorem d_M_speaks_16 : decode (mi_code n_M_speaks) 16 = .ok (.getfield 77, 3) := by decide +kernel
theorem d_M_speaks_19 : decode (mi_code n_M_speaks) 19 = .ok (.iconst 4, 1) := by decide +kernel
theorem d_M_speaks_20 : decode (mi_code n_M_speaks) 20 = .ok (.iload_n 1, 1) := by decide +kernel
theorem d_M_speaks_21 : decode (mi_code n_M_speaks) 21 = .ok (.imul, 1) := by decide +kernel
theorem d_M_speaks_22 : decode (mi_code n_M_speaks) 22 = .ok (.iload_n 2, 1) := by decide +kernel
theorem d_M_speaks_23 : decode (mi_code n_M_speaks) 23 = .ok (.iadd, 1) := by decide +kernel
theorem d_M_speaks_24 : decode (mi_code n_M_speaks) 24 = .ok (.aload_n 0, 1) := by decide +kernel
theorem d_M_speaks_25 : decode (mi_code n_M_speaks) 25 = .ok (.getfield 77, 3) := by decide +kernel
theorem d_M_speaks_28 : decode (mi_code n_M_speaks) 28 = .ok (.iconst 4, 1) := by decide +kernel
theorem d_M_speaks_29 : decode (mi_code n_M_speaks) 29 = .ok (.iload_n 1, 1) := by decide +kernel
theorem d_M_speaks_30 : decode (mi_code n_M_speaks) 30 = .ok (.imul, 1) := by decide +kernel
theorem d_M_speaks_31 : decode (mi_code n_M_speaks) 31 = .ok (.iload_n 2, 1) := by decide +kernel
theorem d_M_speaks_32 : decode (mi_code n_M_speaks) 32 = .ok (.iadd, 1) := by decide +kernel
theorem d_M_speaks_33 : decode (mi_code n_M_speaks) 33 = .ok (.baload, 1) := by decide +kernel
theorem d_M_speaks_34 : decode (mi_code n_M_speaks) 34 = .ok (.ifCond .ne 7, 3) := by decide +kernel
theorem d_M_speaks_37 : decode (mi_code n_M_speaks) 37 = .ok (.iconst 1, 1) := by decide +kernel
theorem d_M_speaks_38 : decode (mi_code n_M_speaks) 38 = .ok (.goto 4, 3) := by decide +kernel
theorem d_M_speaks_41 : decode (mi_code n_M_speaks) 41 = .ok (.iconst 0, 1) := by decide +kernel
theorem d_M_speaks_42 : decode (mi_code n_M_speaks) 42 = .ok (.bastore, 1) := by decide +kernel
theorem d_M_speaks_43 : decode (mi_code n_M_speaks) 43 = .ok (.aload_n 0, 1) := by decide +kernel
theorem d_M_speaks_44 : decode (mi_code n_M_speaks) 44 = .ok (.getfield 77, 3) := by decide +kernel
theorem d_M_speaks_47 : decode (mi_code n_M_speaks) 47 = .ok (.iconst 4, 1) := by decide +kernel
theorem d_M_speaks_48 : decode (mi_code n_M_speaks) 48 = .ok (.iload_n 1, 1) := by decide +kernel
theorem d_M_speaks_49 : decode (mi_code n_M_speaks) 49 = .ok (.imul, 1) := by decide +kernel
theorem d_M_speaks_50 : decode (mi_code n_M_speaks) 50 = .ok (.iload_n 2, 1) := by decide +kernel
theorem d_M_speaks_51 : decode (mi_code n_M_speaks) 51 = .ok (.iadd, 1) := by decide +kernel
theorem d_M_speaks_52 : decode (mi_code n_M_speaks) 52 = .ok (.baload, 1) := by decide +kernel
theorem d_M_speaks_53 : decode (mi_code n_M_speaks) 53 = .ok (.ireturn, 1) := by decide +kernel
theorem d_M_splice_0 : decode (mi_code n_M_splice) 0 = .ok (.aload_n 0, 1) := by decide +kernel
theorem d_M_splice_1 : decode (mi_code n_M_splice) 1 = .ok (.aload_n 0, 1) := by decide +kernel
theorem d_M_splice_2 : decode (mi_code n_M_splice) 2 = .ok (.iload_n 1, 1) := by decide +kernel
theorem d_M_splice_3 : decode (mi_code n_M_splice) 3 = .ok (.invokevirtual 196, 3) := by decide +kernel
theorem d_M_splice_6 : decode (mi_code n_M_splice) 6 = .ok (.aload_n 0, 1) := by decide +kernel
theorem d_M_splice_7 : decode (mi_code n_M_splice) 7 = .ok (.getfield 244, 3) := by decide +kernel
theorem d_M_splice_10 : decode (mi_code n_M_splice) 10 = .ok (.bipush 10, 2) := by decide +kernel
theorem d_M_splice_12 : decode (mi_code n_M_splice) 12 = .ok (.if_icmp .ge 7, 3) := by decide +kernel
theorem d_M_splice_15 : decode (mi_code n_M_splice) 15 = .ok (.iconst 1, 1) := by decide +kernel
theorem d_M_splice_16 : decode (mi_code n_M_splice) 16 = .ok (.goto 4, 3) := by decide +kernel
theorem d_M_splice_19 : decode (mi_code n_M_splice) 19 = .ok (.iconst 0, 1) := by decide +kernel
theorem d_M_splice_20 : decode (mi_code n_M_splice) 20 = .ok (.invokevirtual 166, 3) := by decide +kernel
theorem d_M_splice_23 : decode (mi_code n_M_splice) 23 = .ok (.ifCond .ne 5, 3) := by decide +kernel
theorem d_M_splice_26 : decode (mi_code n_M_splice) 26 = .ok (.iconst 0, 1) := by decide +kernel
theorem d_M_splice_27 : decode (mi_code n_M_splice) 27 = .ok (.ireturn, 1) := by decide +kernel
theorem d_M_splice_28 : decode (mi_code n_M_splice) 28 = .ok (.aload_n 0, 1) := by decide +kernel
theorem d_M_splice_29 : decode (mi_code n_M_splice) 29 = .ok (.getfield 116, 3) := by decide +kernel
theorem d_M_splice_32 : decode (mi_code n_M_splice) 32 = .ok (.aload_n 0, 1) := by decide +kernel
theorem d_M_splice_33 : decode (mi_code n_M_splice) 33 = .ok (.getfield 244, 3) := by decide +kernel
theorem d_M_splice_36 : decode (mi_code n_M_splice) 36 = .ok (.iload_n 1, 1) := by decide +kernel
theorem d_M_splice_37 : decode (mi_code n_M_splice) 37 = .ok (.iastore, 1) := by decide +kernel
theorem d_M_splice_38 : decode (mi_code n_M_splice) 38 = .ok (.aload_n 0, 1) := by decide +kernel
theorem d_M_splice_39 : decode (mi_code n_M_splice) 39 = .ok (.dup, 1) := by decide +kernel
theorem d_M_splice_40 : decode (mi_code n_M_splice) 40 = .ok (.getfield 244, 3) := by decide +kernel
theorem d_M_splice_43 : decode (mi_code n_M_splice) 43 = .ok (.iconst 1, 1) := by decide +kernel
theorem d_M_splice_44 : decode (mi_code n_M_splice) 44 = .ok (.iadd, 1) := by decide +kernel
theorem d_M_splice_45 : decode (mi_code n_M_splice) 45 = .ok (.putfield 244, 3) := by decide +kernel
theorem d_M_splice_48 : decode (mi_code n_M_splice) 48 = .ok (.aload_n 0, 1) := by decide +kernel
theorem d_M_splice_49 : decode (mi_code n_M_splice) 49 = .ok (.invokevirtual 247, 3) := by decide +kernel
theorem d_M_splice_52 : decode (mi_code n_M_splice) 52 = .ok (.ireturn, 1) := by decide +kernel
theorem d_M_stale_0 : decode (mi_code n_M_stale) 0 = .ok (.aload_n 0, 1) := by decide +kernel
theorem d_M_stale_1 : decode (mi_code n_M_stale) 1 = .ok (.aload_n 0, 1) := by decide +kernel
theorem d_M_stale_2 : decode (mi_code n_M_stale) 2 = .ok (.iload_n 1, 1) := by decide +kernel
theorem d_M_stale_3 : decode (mi_code n_M_stale) 3 = .ok (.invokevirtual 196, 3) := by decide +kernel
theorem d_M_stale_6 : decode (mi_code n_M_stale) 6 = .ok (.invokevirtual 138, 3) := by decide +kernel
theorem d_M_stale_9 : decode (mi_code n_M_stale) 9 = .ok (.ifCond .ne 5, 3) := by decide +kernel
theorem d_M_stale_12 : decode (mi_code n_M_stale) 12 = .ok (.iconst 0, 1) := by decide +kernel
theorem d_M_stale_13 : decode (mi_code n_M_stale) 13 = .ok (.ireturn, 1) := by decide +kernel
theorem d_M_stale_14 : decode (mi_code n_M_stale) 14 = .ok (.aload_n 0, 1) := by decide +kernel
theorem d_M_stale_15 : decode (mi_code n_M_stale) 15 = .ok (.invokevirtual 229, 3) := by decide +kernel
theorem d_M_stale_18 : decode (mi_code n_M_stale) 18 = .ok (.iconst 0, 1) := by decide +kernel
theorem d_M_stale_19 : decode (mi_code n_M_stale) 19 = .ok (.istore_n 2, 1) := by decide +kernel
theorem d_M_stale_20 : decode (mi_code n_M_stale) 20 = .ok (.iconst 0, 1) := by decide +kernel
theorem d_M_stale_21 : decode (mi_code n_M_stale) 21 = .ok (.istore_n 3, 1) := by decide +kernel
theorem d_M_stale_22 : decode (mi_code n_M_stale) 22 = .ok (.iload_n 3, 1) := by decide +kernel
theorem d_M_stale_23 : decode (mi_code n_M_stale) 23 = .ok (.aload_n 0, 1) := by decide +kernel
theorem d_M_stale_24 : decode (mi_code n_M_stale) 24 = .ok (.getfield 65, 3) := by decide +kernel
theorem d_M_stale_27 : decode (mi_code n_M_stale) 27 = .ok (.iload_n 1, 1) := by decide +kernel
theorem d_M_stale_28 : decode (mi_code n_M_stale) 28 = .ok (.iaload, 1) := by decide +kernel
theorem d_M_stale_29 : decode (mi_code n_M_stale) 29 = .ok (.if_icmp .ge 26, 3) := by decide +kernel
theorem d_M_stale_32 : decode (mi_code n_M_stale) 32 = .ok (.iload_n 2, 1) := by decide +kernel
theorem d_M_stale_33 : decode (mi_code n_M_stale) 33 = .ok (.aload_n 0, 1) := by decide +kernel
theorem d_M_stale_34 : decode (mi_code n_M_stale) 34 = .ok (.iload_n 1, 1) := by decide +kernel
theorem d_M_stale_35 : decode (mi_code n_M_stale) 35 = .ok (.iload_n 3, 1) := by decide +kernel
theorem d_M_stale_36 : decode (mi_code n_M_stale) 36 = .ok (.invokevirtual 232, 3) := by decide +kernel
theorem d_M_stale_39 : decode (mi_code n_M_stale) 39 = .ok (.ifCond .eq 7, 3) := by decide +kernel
theorem d_M_stale_42 : decode (mi_code n_M_stale) 42 = .ok (.iconst 1, 1) := by decide +kernel
theorem d_M_stale_43 : decode (mi_code n_M_stale) 43 = .ok (.goto 4, 3) := by decide +kernel
theorem d_M_stale_46 : decode (mi_code n_M_stale) 46 = .ok (.iconst 0, 1) := by decide +kernel
theorem d_M_stale_47 : decode (mi_code n_M_stale) 47 = .ok (.iadd, 1) := by decide +kernel
theorem d_M_stale_48 : decode (mi_code n_M_stale) 48 = .ok (.istore_n 2, 1) := by decide +kernel
theorem d_M_stale_49 : decode (mi_code n_M_stale) 49 = .ok (.iinc 3 1, 3) := by decide +kernel
theorem d_M_stale_52 : decode (mi_code n_M_stale) 52 = .ok (.goto (-30), 3) := by decide +kernel
theorem d_M_stale_55 : decode (mi_code n_M_stale) 55 = .ok (.iload_n 2, 1) := by decide +kernel
theorem d_M_stale_56 : decode (mi_code n_M_stale) 56 = .ok (.ireturn, 1) := by decide +kernel
theorem d_M_steps_0 : decode (mi_code n_M_steps) 0 = .ok (.bipush 16, 2) := by decide +kernel
theorem d_M_steps_2 : decode (mi_code n_M_steps) 2 = .ok (.iload_n 3, 1) := by decide +kernel
theorem d_M_steps_3 : decode (mi_code n_M_steps) 3 = .ok (.imul, 1) := by decide +kernel
theorem d_M_steps_4 : decode (mi_code n_M_steps) 4 = .ok (.iload_n 2, 1) := by decide +kernel
theorem d_M_steps_5 : decode (mi_code n_M_steps) 5 = .ok (.iadd, 1) := by decide +kernel
theorem d_M_steps_6 : decode (mi_code n_M_steps) 6 = .ok (.istore 4, 2) := by decide +kernel
theorem d_M_steps_8 : decode (mi_code n_M_steps) 8 = .ok (.iload_n 2, 1) := by decide +kernel
theorem d_M_steps_9 : decode (mi_code n_M_steps) 9 = .ok (.iload_n 3, 1) := by decide +kernel
theorem d_M_steps_10 : decode (mi_code n_M_steps) 10 = .ok (.invokestatic 149, 3) := by decide +kernel
theorem d_M_steps_13 : decode (mi_code n_M_steps) 13 = .ok (.ifCond .eq 58, 3) := by decide +kernel
theorem d_M_steps_16 : decode (mi_code n_M_steps) 16 = .ok (.aload_n 0, 1) := by decide +kernel
theorem d_M_steps_17 : decode (mi_code n_M_steps) 17 = .ok (.getfield 53, 3) := by decide +kernel
theorem d_M_steps_20 : decode (mi_code n_M_steps) 20 = .ok (.sipush 192, 3) := by decide +kernel
theorem d_M_steps_23 : decode (mi_code n_M_steps) 23 = .ok (.iload_n 1, 1) := by decide +kernel
theorem d_M_steps_24 : decode (mi_code n_M_steps) 24 = .ok (.imul, 1) := by decide +kernel
theorem d_M_steps_25 : decode (mi_code n_M_steps) 25 = .ok (.iload 4, 2) := by decide +kernel
theorem d_M_steps_27 : decode (mi_code n_M_steps) 27 = .ok (.iadd, 1) := by decide +kernel
theorem d_M_steps_28 : decode (mi_code n_M_steps) 28 = .ok (.iaload, 1) := by decide +kernel
theorem d_M_steps_29 : decode (mi_code n_M_steps) 29 = .ok (.ifCond .ne 42, 3) := by decide +kernel
theorem d_M_steps_32 : decode (mi_code n_M_steps) 32 = .ok (.aload_n 0, 1) := by decide +kernel
theorem d_M_steps_33 : decode (mi_code n_M_steps) 33 = .ok (.getfield 59, 3) := by decide +kernel
theorem d_M_steps_36 : decode (mi_code n_M_steps) 36 = .ok (.iload 4, 2) := by decide +kernel
theorem d_M_steps_38 : decode (mi_code n_M_steps) 38 = .ok (.baload, 1) := by decide +kernel
theorem d_M_steps_39 : decode (mi_code n_M_steps) 39 = .ok (.ifCond .ne 32, 3) := by decide +kernel
theorem d_M_steps_42 : decode (mi_code n_M_steps) 42 = .ok (.aload_n 0, 1) := by decide +kernel
theorem d_M_steps_43 : decode (mi_code n_M_steps) 43 = .ok (.getfield 59, 3) := by decide +kernel
theorem d_M_steps_46 : decode (mi_code n_M_steps) 46 = .ok (.iload 4, 2) := by decide +kernel
theorem d_M_steps_48 : decode (mi_code n_M_steps) 48 = .ok (.iconst 1, 1) := by decide +kernel
theorem d_M_steps_49 : decode (mi_code n_M_steps) 49 = .ok (.bastore, 1) := by decide +kernel
theorem d_M_steps_50 : decode (mi_code n_M_steps) 50 = .ok (.aload_n 0, 1) := by decide +kernel
theorem d_M_steps_51 : decode (mi_code n_M_steps) 51 = .ok (.getfield 56, 3) := by decide +kernel
theorem d_M_steps_54 : decode (mi_code n_M_steps) 54 = .ok (.aload_n 0, 1) := by decide +kernel
theorem d_M_steps_55 : decode (mi_code n_M_steps) 55 = .ok (.getfield 180, 3) := by decide +kernel
theorem d_M_steps_58 : decode (mi_code n_M_steps) 58 = .ok (.iload 4, 2) := by decide +kernel
theorem d_M_steps_60 : decode (mi_code n_M_steps) 60 = .ok (.iastore, 1) := by decide +kernel
theorem d_M_steps_61 : decode (mi_code n_M_steps) 61 = .ok (.aload_n 0, 1) := by decide +kernel
theorem d_M_steps_62 : decode (mi_code n_M_steps) 62 = .ok (.dup, 1) := by decide +kernel
theorem d_M_steps_63 : decode (mi_code n_M_steps) 63 = .ok (.getfield 180, 3) := by decide +kernel
theorem d_M_steps_66 : decode (mi_code n_M_steps) 66 = .ok (.iconst 1, 1) := by decide +kernel
theorem d_M_steps_67 : decode (mi_code n_M_steps) 67 = .ok (.iadd, 1) := by decide +kernel
theorem d_M_steps_68 : decode (mi_code n_M_steps) 68 = .ok (.putfield 180, 3) := by decide +kernel
theorem d_M_steps_71 : decode (mi_code n_M_steps) 71 = .ok (.return_, 1) := by decide +kernel
theorem d_M_stroke_0 : decode (mi_code n_M_stroke) 0 = .ok (.aload_n 0, 1) := by decide +kernel
theorem d_M_stroke_1 : decode (mi_code n_M_stroke) 1 = .ok (.aload_n 0, 1) := by decide +kernel
theorem d_M_stroke_2 : decode (mi_code n_M_stroke) 2 = .ok (.iload_n 1, 1) := by decide +kernel
theorem d_M_stroke_3 : decode (mi_code n_M_stroke) 3 = .ok (.invokevirtual 130, 3) := by decide +kernel
theorem d_M_stroke_6 : decode (mi_code n_M_stroke) 6 = .ok (.ifCond .eq 27, 3) := by decide +kernel
theorem d_M_stroke_9 : decode (mi_code n_M_stroke) 9 = .ok (.iload_n 3, 1) := by decide +kernel
theorem d_M_stroke_10 : decode (mi_code n_M_stroke) 10 = .ok (.iload 4, 2) := by decide +kernel
theorem d_M_stroke_12 : decode (mi_code n_M_stroke) 12 = .ok (.invokestatic 149, 3) := by decide +kernel
theorem d_M_stroke_15 : decode (mi_code n_M_stroke) 15 = .ok (.ifCond .eq 18, 3) := by decide +kernel
theorem d_M_stroke_18 : decode (mi_code n_M_stroke) 18 = .ok (.iload 5, 2) := by decide +kernel
theorem d_M_stroke_20 : decode (mi_code n_M_stroke) 20 = .ok (.iconst 0, 1) := by decide +kernel
theorem d_M_stroke_21 : decode (mi_code n_M_stroke) 21 = .ok (.bipush 7, 2) := by decide +kernel
theorem d_M_stroke_23 : decode (mi_code n_M_stroke) 23 = .ok (.invokestatic 126, 3) := by decide +kernel
theorem d_M_stroke_26 : decode (mi_code n_M_stroke) 26 = .ok (.ifCond .eq 7, 3) := by decide +kernel
theorem d_M_stroke_29 : decode (mi_code n_M_stroke) 29 = .ok (.iconst 1, 1) := by decide +kernel
theorem d_M_stroke_30 : decode (mi_code n_M_stroke) 30 = .ok (.goto 4, 3) := by decide +kernel
theorem d_M_stroke_33 : decode (mi_code n_M_stroke) 33 = .ok (.iconst 0, 1) := by decide +kernel
theorem d_M_stroke_34 : decode (mi_code n_M_stroke) 34 = .ok (.iload_n 2, 1) := by decide +kernel
theorem d_M_stroke_35 : decode (mi_code n_M_stroke) 35 = .ok (.iconst 0, 1) := by decide +kernel
theorem d_M_stroke_36 : decode (mi_code n_M_stroke) 36 = .ok (.bipush 7, 2) := by decide +kernel
theorem d_M_stroke_38 : decode (mi_code n_M_stroke) 38 = .ok (.invokestatic 126, 3) := by decide +kernel
theorem d_M_stroke_41 : decode (mi_code n_M_stroke) 41 = .ok (.aload_n 0, 1) := by decide +kernel
theorem d_M_stroke_42 : decode (mi_code n_M_stroke) 42 = .ok (.iload_n 1, 1) := by decide +kernel
theorem d_M_stroke_43 : decode (mi_code n_M_stroke) 43 = .ok (.invokevirtual 153, 3) := by decide +kernel
theorem d_M_stroke_46 : decode (mi_code n_M_stroke) 46 = .ok (.invokevirtual 146, 3) := by decide +kernel
theorem d_M_stroke_49 : decode (mi_code n_M_stroke) 49 = .ok (.ifCond .ne 5, 3) := by decide +kernel
theorem d_M_stroke_52 : decode (mi_code n_M_stroke) 52 = .ok (.iconst 0, 1) := by decide +kernel
theorem d_M_stroke_53 : decode (mi_code n_M_stroke) 53 = .ok (.ireturn, 1) := by decide +kernel
theorem d_M_stroke_54 : decode (mi_code n_M_stroke) 54 = .ok (.aload_n 0, 1) := by decide +kernel
theorem d_M_stroke_55 : decode (mi_code n_M_stroke) 55 = .ok (.iload_n 1, 1) := by decide +kernel
theorem d_M_stroke_56 : decode (mi_code n_M_stroke) 56 = .ok (.iload_n 2, 1) := by decide +kernel
theorem d_M_stroke_57 : decode (mi_code n_M_stroke) 57 = .ok (.invokevirtual 156, 3) := by decide +kernel
theorem d_M_stroke_60 : decode (mi_code n_M_stroke) 60 = .ok (.istore 6, 2) := by decide +kernel
theorem d_M_stroke_62 : decode (mi_code n_M_stroke) 62 = .ok (.iload 6, 2) := by decide +kernel
theorem d_M_stroke_64 : decode (mi_code n_M_stroke) 64 = .ok (.iconst (-1), 1) := by decide +kernel
theorem d_M_stroke_65 : decode (mi_code n_M_stroke) 65 = .ok (.if_icmp .ne 26, 3) := by decide +kernel
theorem d_M_stroke_68 : decode (mi_code n_M_stroke) 68 = .ok (.bipush 8, 2) := by decide +kernel
theorem d_M_stroke_70 : decode (mi_code n_M_stroke) 70 = .ok (.iload_n 1, 1) := by decide +kernel
theorem d_M_stroke_71 : decode (mi_code n_M_stroke) 71 = .ok (.imul, 1) := by decide +kernel
theorem d_M_stroke_72 : decode (mi_code n_M_stroke) 72 = .ok (.aload_n 0, 1) := by decide +kernel
theorem d_M_stroke_73 : decode (mi_code n_M_stroke) 73 = .ok (.getfield 26, 3) := by decide +kernel
theorem d_M_stroke_76 : decode (mi_code n_M_stroke) 76 = .ok (.iload_n 1, 1) := by decide +kernel
theorem d_M_stroke_77 : decode (mi_code n_M_stroke) 77 = .ok (.iaload, 1) := by decide +kernel
theorem d_M_stroke_78 : decode (mi_code n_M_stroke) 78 = .ok (.iadd, 1) := by decide +kernel
theorem d_M_stroke_79 : decode (mi_code n_M_stroke) 79 = .ok (.istore 6, 2) := by decide +kernel
theorem d_M_stroke_81 : decode (mi_code n_M_stroke) 81 = .ok (.aload_n 0, 1) := by decide +kernel
theorem d_M_stroke_82 : decode (mi_code n_M_stroke) 82 = .ok (.getfield 26, 3) := by decide +kernel
theorem d_M_stroke_85 : decode (mi_code n_M_stroke) 85 = .ok (.iload_n 1, 1) := by decide +kernel
theorem d_M_stroke_86 : decode (mi_code n_M_stroke) 86 = .ok (.dup2, 1) := by decide +kernel
theorem d_M_stroke_87 : decode (mi_code n_M_stroke) 87 = .ok (.iaload, 1) := by decide +kernel
theorem d_M_stroke_88 : decode (mi_code n_M_stroke) 88 = .ok (.iconst 1, 1) := by decide +kernel
theorem d_M_stroke_89 : decode (mi_code n_M_stroke) 89 = .ok (.iadd, 1) := by decide +kernel
theorem d_M_stroke_90 : decode (mi_code n_M_stroke) 90 = .ok (.iastore, 1) := by decide +kernel
theorem d_M_stroke_91 : decode (mi_code n_M_stroke) 91 = .ok (.aload_n 0, 1) := by decide +kernel
theorem d_M_stroke_92 : decode (mi_code n_M_stroke) 92 = .ok (.getfield 29, 3) := by decide +kernel
theorem d_M_stroke_95 : decode (mi_code n_M_stroke) 95 = .ok (.iload 6, 2) := by decide +kernel
theorem d_M_stroke_97 : decode (mi_code n_M_stroke) 97 = .ok (.iload_n 2, 1) := by decide +kernel
theorem d_M_stroke_98 : decode (mi_code n_M_stroke) 98 = .ok (.iastore, 1) := by decide +kernel
theorem d_M_stroke_99 : decode (mi_code n_M_stroke) 99 = .ok (.aload_n 0, 1) := by decide +kernel
theorem d_M_stroke_100 : decode (mi_code n_M_stroke) 100 = .ok (.getfield 32, 3) := by decide +kernel
theorem d_M_stroke_103 : decode (mi_code n_M_stroke) 103 = .ok (.iload 6, 2) := by decide +kernel
theorem d_M_stroke_105 : decode (mi_code n_M_stroke) 105 = .ok (.iload 5, 2) := by decide +kernel
theorem d_M_stroke_107 : decode (mi_code n_M_stroke) 107 = .ok (.iastore, 1) := by decide +kernel
theorem d_M_stroke_108 : decode (mi_code n_M_stroke) 108 = .ok (.aload_n 0, 1) := by decide +kernel
theorem d_M_stroke_109 : decode (mi_code n_M_stroke) 109 = .ok (.getfield 35, 3) := by decide +kernel
theorem d_M_stroke_112 : decode (mi_code n_M_stroke) 112 = .ok (.iconst 4, 1) := by decide +kernel
theorem d_M_stroke_113 : decode (mi_code n_M_stroke) 113 = .ok (.iload 6, 2) := by decide +kernel
theorem d_M_stroke_115 : decode (mi_code n_M_stroke) 115 = .ok (.imul, 1) := by decide +kernel
theorem d_M_stroke_116 : decode (mi_code n_M_stroke) 116 = .ok (.aload_n 0, 1) := by decide +kernel
theorem d_M_stroke_117 : decode (mi_code n_M_stroke) 117 = .ok (.getfield 160, 3) := by decide +kernel
theorem d_M_stroke_120 : decode (mi_code n_M_stroke) 120 = .ok (.iastore, 1) := by decide +kernel
theorem d_M_stroke_121 : decode (mi_code n_M_stroke) 121 = .ok (.aload_n 0, 1) := by decide +kernel
theorem d_M_stroke_122 : decode (mi_code n_M_stroke) 122 = .ok (.getfield 35, 3) := by decide +kernel
theorem d_M_stroke_125 : decode (mi_code n_M_stroke) 125 = .ok (.iconst 4, 1) := by decide +kernel
theorem d_M_stroke_126 : decode (mi_code n_M_stroke) 126 = .ok (.iload 6, 2) := by decide +kernel
theorem d_M_stroke_128 : decode (mi_code n_M_stroke) 128 = .ok (.imul, 1) := by decide +kernel
theorem d_M_stroke_129 : decode (mi_code n_M_stroke) 129 = .ok (.iconst 1, 1) := by decide +kernel
theorem d_M_stroke_130 : decode (mi_code n_M_stroke) 130 = .ok (.iadd, 1) := by decide +kernel
theorem d_M_stroke_131 : decode (mi_code n_M_stroke) 131 = .ok (.aload_n 0, 1) := by decide +kernel
theorem d_M_stroke_132 : decode (mi_code n_M_stroke) 132 = .ok (.getfield 163, 3) := by decide +kernel
theorem d_M_stroke_135 : decode (mi_code n_M_stroke) 135 = .ok (.iastore, 1) := by decide +kernel
theorem d_M_stroke_136 : decode (mi_code n_M_stroke) 136 = .ok (.aload_n 0, 1) := by decide +kernel
theorem d_M_stroke_137 : decode (mi_code n_M_stroke) 137 = .ok (.getfield 35, 3) := by decide +kernel
theorem d_M_stroke_140 : decode (mi_code n_M_stroke) 140 = .ok (.iconst 4, 1) := by decide +kernel
theorem d_M_stroke_141 : decode (mi_code n_M_stroke) 141 = .ok (.iload 6, 2) := by decide +kernel
theorem d_M_stroke_143 : decode (mi_code n_M_stroke) 143 = .ok (.imul, 1) := by decide +kernel
theorem d_M_stroke_144 : decode (mi_code n_M_stroke) 144 = .ok (.iconst 2, 1) := by decide +kernel
theorem d_M_stroke_145 : decode (mi_code n_M_stroke) 145 = .ok (.iadd, 1) := by decide +kernel
theorem d_M_stroke_146 : decode (mi_code n_M_stroke) 146 = .ok (.iload_n 3, 1) := by decide +kernel
theorem d_M_stroke_147 : decode (mi_code n_M_stroke) 147 = .ok (.iastore, 1) := by decide +kernel
theorem d_M_stroke_148 : decode (mi_code n_M_stroke) 148 = .ok (.aload_n 0, 1) := by decide +kernel
theorem d_M_stroke_149 : decode (mi_code n_M_stroke) 149 = .ok (.getfield 35, 3) := by decide +kernel
theorem d_M_stroke_152 : decode (mi_code n_M_stroke) 152 = .ok (.iconst 4, 1) := by decide +kernel
theorem d_M_stroke_153 : decode (mi_code n_M_stroke) 153 = .ok (.iload 6, 2) := by decide +kernel
theorem d_M_stroke_155 : decode (mi_code n_M_stroke) 155 = .ok (.imul, 1) := by decide +kernel
theorem d_M_stroke_156 : decode (mi_code n_M_stroke) 156 = .ok (.iconst 3, 1) := by decide +kernel
theorem d_M_stroke_157 : decode (mi_code n_M_stroke) 157 = .ok (.iadd, 1) := by decide +kernel
theorem d_M_stroke_158 : decode (mi_code n_M_stroke) 158 = .ok (.iload 4, 2) := by decide +kernel
theorem d_M_stroke_160 : decode (mi_code n_M_stroke) 160 = .ok (.iastore, 1) := by decide +kernel
theorem d_M_stroke_161 : decode (mi_code n_M_stroke) 161 = .ok (.aload_n 0, 1) := by decide +kernel
theorem d_M_stroke_162 : decode (mi_code n_M_stroke) 162 = .ok (.iload_n 3, 1) := by decide +kernel
theorem d_M_stroke_163 : decode (mi_code n_M_stroke) 163 = .ok (.putfield 160, 3) := by decide +kernel
theorem d_M_stroke_166 : decode (mi_code n_M_stroke) 166 = .ok (.aload_n 0, 1) := by decide +kernel
theorem d_M_stroke_167 : decode (mi_code n_M_stroke) 167 = .ok (.iload 4, 2) := by decide +kernel
theorem d_M_stroke_169 : decode (mi_code n_M_stroke) 169 = .ok (.putfield 163, 3) := by decide +kernel
theorem d_M_stroke_172 : decode (mi_code n_M_stroke) 172 = .ok (.aload_n 0, 1) := by decide +kernel
theorem d_M_stroke_173 : decode (mi_code n_M_stroke) 173 = .ok (.iconst 1, 1) := by decide +kernel
theorem d_M_stroke_174 : decode (mi_code n_M_stroke) 174 = .ok (.putfield 134, 3) := by decide +kernel
theorem d_M_stroke_177 : decode (mi_code n_M_stroke) 177 = .ok (.aload_n 0, 1) := by decide +kernel
theorem d_M_stroke_178 : decode (mi_code n_M_stroke) 178 = .ok (.getfield 26, 3) := by decide +kernel
theorem d_M_stroke_181 : decode (mi_code n_M_stroke) 181 = .ok (.iload_n 1, 1) := by decide +kernel
theorem d_M_stroke_182 : decode (mi_code n_M_stroke) 182 = .ok (.iaload, 1) := by decide +kernel
theorem d_M_stroke_183 : decode (mi_code n_M_stroke) 183 = .ok (.ireturn, 1) := by decide +kernel
theorem d_M_strokeOf_0 : decode (mi_code n_M_strokeOf) 0 = .ok (.bipush 8, 2) := by decide +kernel
theorem d_M_strokeOf_2 : decode (mi_code n_M_strokeOf) 2 = .ok (.iload_n 1, 1) := by decide +kernel
theorem d_M_strokeOf_3 : decode (mi_code n_M_strokeOf) 3 = .ok (.imul, 1) := by decide +kernel
theorem d_M_strokeOf_4 : decode (mi_code n_M_strokeOf) 4 = .ok (.istore_n 3, 1) := by decide +kernel
theorem d_M_strokeOf_5 : decode (mi_code n_M_strokeOf) 5 = .ok (.iload_n 3, 1) := by decide +kernel
theorem d_M_strokeOf_6 : decode (mi_code n_M_strokeOf) 6 = .ok (.bipush 8, 2) := by decide +kernel
theorem d_M_strokeOf_8 : decode (mi_code n_M_strokeOf) 8 = .ok (.iload_n 1, 1) := by decide +kernel
theorem d_M_strokeOf_9 : decode (mi_code n_M_strokeOf) 9 = .ok (.imul, 1) := by decide +kernel
theorem d_M_strokeOf_10 : decode (mi_code n_M_strokeOf) 10 = .ok (.aload_n 0, 1) := by decide +kernel
theorem d_M_strokeOf_11 : decode (mi_code n_M_strokeOf) 11 = .ok (.getfield 26, 3) := by decide +kernel
theorem d_M_strokeOf_14 : decode (mi_code n_M_strokeOf) 14 = .ok (.iload_n 1, 1) := by decide +kernel
theorem d_M_strokeOf_15 : decode (mi_code n_M_strokeOf) 15 = .ok (.iaload, 1) := by decide +kernel
theorem d_M_strokeOf_16 : decode (mi_code n_M_strokeOf) 16 = .ok (.iadd, 1) := by decide +kernel
theorem d_M_strokeOf_17 : decode (mi_code n_M_strokeOf) 17 = .ok (.if_icmp .ge 21, 3) := by decide +kernel
theorem d_M_strokeOf_20 : decode (mi_code n_M_strokeOf) 20 = .ok (.aload_n 0, 1) := by decide +kernel
theorem d_M_strokeOf_21 : decode (mi_code n_M_strokeOf) 21 = .ok (.getfield 29, 3) := by decide +kernel
theorem d_M_strokeOf_24 : decode (mi_code n_M_strokeOf) 24 = .ok (.iload_n 3, 1) := by decide +kernel
theorem d_M_strokeOf_25 : decode (mi_code n_M_strokeOf) 25 = .ok (.iaload, 1) := by decide +kernel
theorem d_M_strokeOf_26 : decode (mi_code n_M_strokeOf) 26 = .ok (.iload_n 2, 1) := by decide +kernel
theorem d_M_strokeOf_27 : decode (mi_code n_M_strokeOf) 27 = .ok (.if_icmp .ne 5, 3) := by decide +kernel
theorem d_M_strokeOf_30 : decode (mi_code n_M_strokeOf) 30 = .ok (.iload_n 3, 1) := by decide +kernel
theorem d_M_strokeOf_31 : decode (mi_code n_M_strokeOf) 31 = .ok (.ireturn, 1) := by decide +kernel
theorem d_M_strokeOf_32 : decode (mi_code n_M_strokeOf) 32 = .ok (.iinc 3 1, 3) := by decide +kernel
theorem d_M_strokeOf_35 : decode (mi_code n_M_strokeOf) 35 = .ok (.goto (-30), 3) := by decide +kernel
theorem d_M_strokeOf_38 : decode (mi_code n_M_strokeOf) 38 = .ok (.iconst (-1), 1) := by decide +kernel
theorem d_M_strokeOf_39 : decode (mi_code n_M_strokeOf) 39 = .ok (.ireturn, 1) := by decide +kernel
theorem d_M_thrown_0 : decode (mi_code n_M_thrown) 0 = .ok (.aload_n 0, 1) := by decide +kernel
theorem d_M_thrown_1 : decode (mi_code n_M_thrown) 1 = .ok (.getfield 119, 3) := by decide +kernel
theorem d_M_thrown_4 : decode (mi_code n_M_thrown) 4 = .ok (.ireturn, 1) := by decide +kernel
theorem d_M_voice_0 : decode (mi_code n_M_voice) 0 = .ok (.aload_n 0, 1) := by decide +kernel
theorem d_M_voice_1 : decode (mi_code n_M_voice) 1 = .ok (.aload_n 0, 1) := by decide +kernel
theorem d_M_voice_2 : decode (mi_code n_M_voice) 2 = .ok (.iload_n 1, 1) := by decide +kernel
theorem d_M_voice_3 : decode (mi_code n_M_voice) 3 = .ok (.iload_n 2, 1) := by decide +kernel
theorem d_M_voice_4 : decode (mi_code n_M_voice) 4 = .ok (.invokevirtual 202, 3) := by decide +kernel
theorem d_M_voice_7 : decode (mi_code n_M_voice) 7 = .ok (.ifCond .eq 17, 3) := by decide +kernel
theorem d_M_voice_10 : decode (mi_code n_M_voice) 10 = .ok (.iload_n 3, 1) := by decide +kernel
theorem d_M_voice_11 : decode (mi_code n_M_voice) 11 = .ok (.iconst (-1), 1) := by decide +kernel
theorem d_M_voice_12 : decode (mi_code n_M_voice) 12 = .ok (.bipush 7, 2) := by decide +kernel
theorem d_M_voice_14 : decode (mi_code n_M_voice) 14 = .ok (.invokestatic 126, 3) := by decide +kernel
theorem d_M_voice_17 : decode (mi_code n_M_voice) 17 = .ok (.ifCond .eq 7, 3) := by decide +kernel
theorem d_M_voice_20 : decode (mi_code n_M_voice) 20 = .ok (.iconst 1, 1) := by decide +kernel
theorem d_M_voice_21 : decode (mi_code n_M_voice) 21 = .ok (.goto 4, 3) := by decide +kernel
theorem d_M_voice_24 : decode (mi_code n_M_voice) 24 = .ok (.iconst 0, 1) := by decide +kernel
theorem d_M_voice_25 : decode (mi_code n_M_voice) 25 = .ok (.invokevirtual 138, 3) := by decide +kernel
theorem d_M_voice_28 : decode (mi_code n_M_voice) 28 = .ok (.ifCond .ne 5, 3) := by decide +kernel
theorem d_M_voice_31 : decode (mi_code n_M_voice) 31 = .ok (.iconst 0, 1) := by decide +kernel
theorem d_M_voice_32 : decode (mi_code n_M_voice) 32 = .ok (.ireturn, 1) := by decide +kernel
theorem d_M_voice_33 : decode (mi_code n_M_voice) 33 = .ok (.aload_n 0, 1) := by decide +kernel
theorem d_M_voice_34 : decode (mi_code n_M_voice) 34 = .ok (.iload_n 1, 1) := by decide +kernel
theorem d_M_voice_35 : decode (mi_code n_M_voice) 35 = .ok (.iload_n 2, 1) := by decide +kernel
theorem d_M_voice_36 : decode (mi_code n_M_voice) 36 = .ok (.invokevirtual 205, 3) := by decide +kernel
theorem d_M_voice_39 : decode (mi_code n_M_voice) 39 = .ok (.istore 4, 2) := by decide +kernel
theorem d_M_voice_41 : decode (mi_code n_M_voice) 41 = .ok (.aload_n 0, 1) := by decide +kernel
theorem d_M_voice_42 : decode (mi_code n_M_voice) 42 = .ok (.getfield 74, 3) := by decide +kernel
theorem d_M_voice_45 : decode (mi_code n_M_voice) 45 = .ok (.bipush 24, 2) := by decide +kernel
theorem d_M_voice_47 : decode (mi_code n_M_voice) 47 = .ok (.iload_n 1, 1) := by decide +kernel
theorem d_M_voice_48 : decode (mi_code n_M_voice) 48 = .ok (.imul, 1) := by decide +kernel
theorem d_M_voice_49 : decode (mi_code n_M_voice) 49 = .ok (.iload_n 2, 1) := by decide +kernel
theorem d_M_voice_50 : decode (mi_code n_M_voice) 50 = .ok (.iadd, 1) := by decide +kernel
theorem d_M_voice_51 : decode (mi_code n_M_voice) 51 = .ok (.iload_n 3, 1) := by decide +kernel
theorem d_M_voice_52 : decode (mi_code n_M_voice) 52 = .ok (.iastore, 1) := by decide +kernel
theorem d_M_voice_53 : decode (mi_code n_M_voice) 53 = .ok (.iload 4, 2) := by decide +kernel
theorem d_M_voice_55 : decode (mi_code n_M_voice) 55 = .ok (.ireturn, 1) := by decide +kernel
theorem d_P_firstToldFrom_0 : decode (mi_code n_P_firstToldFrom) 0 = .ok (.iload_n 1, 1) := by decide +kernel
theorem d_P_firstToldFrom_1 : decode (mi_code n_P_firstToldFrom) 1 = .ok (.istore_n 2, 1) := by decide +kernel
theorem d_P_firstToldFrom_2 : decode (mi_code n_P_firstToldFrom) 2 = .ok (.iload_n 2, 1) := by decide +kernel
theorem d_P_firstToldFrom_3 : decode (mi_code n_P_firstToldFrom) 3 = .ok (.bipush 24, 2) := by decide +kernel
theorem d_P_firstToldFrom_5 : decode (mi_code n_P_firstToldFrom) 5 = .ok (.if_icmp .ge 20, 3) := by decide +kernel
theorem d_P_firstToldFrom_8 : decode (mi_code n_P_firstToldFrom) 8 = .ok (.aload_n 0, 1) := by decide +kernel
theorem d_P_firstToldFrom_9 : decode (mi_code n_P_firstToldFrom) 9 = .ok (.getfield 15, 3) := by decide +kernel
theorem d_P_firstToldFrom_12 : decode (mi_code n_P_firstToldFrom) 12 = .ok (.iload_n 2, 1) := by decide +kernel
theorem d_P_firstToldFrom_13 : decode (mi_code n_P_firstToldFrom) 13 = .ok (.baload, 1) := by decide +kernel
theorem d_P_firstToldFrom_14 : decode (mi_code n_P_firstToldFrom) 14 = .ok (.ifCond .eq 5, 3) := by decide +kernel
theorem d_P_firstToldFrom_17 : decode (mi_code n_P_firstToldFrom) 17 = .ok (.iload_n 2, 1) := by decide +kernel
theorem d_P_firstToldFrom_18 : decode (mi_code n_P_firstToldFrom) 18 = .ok (.ireturn, 1) := by decide +kernel
theorem d_P_firstToldFrom_19 : decode (mi_code n_P_firstToldFrom) 19 = .ok (.iinc 2 1, 3) := by decide +kernel
theorem d_P_firstToldFrom_22 : decode (mi_code n_P_firstToldFrom) 22 = .ok (.goto (-20), 3) := by decide +kernel
theorem d_P_firstToldFrom_25 : decode (mi_code n_P_firstToldFrom) 25 = .ok (.iconst (-1), 1) := by decide +kernel
theorem d_P_firstToldFrom_26 : decode (mi_code n_P_firstToldFrom) 26 = .ok (.ireturn, 1) := by decide +kernel
theorem d_P_init_0 : decode (mi_code n_P_init) 0 = .ok (.aload_n 0, 1) := by decide +kernel
theorem d_P_init_1 : decode (mi_code n_P_init) 1 = .ok (.invokespecial 3, 3) := by decide +kernel
theorem d_P_init_4 : decode (mi_code n_P_init) 4 = .ok (.aload_n 0, 1) := by decide +kernel
theorem d_P_init_5 : decode (mi_code n_P_init) 5 = .ok (.aload_n 1, 1) := by decide +kernel
theorem d_P_init_6 : decode (mi_code n_P_init) 6 = .ok (.putfield 9, 3) := by decide +kernel
theorem d_P_init_9 : decode (mi_code n_P_init) 9 = .ok (.aload_n 0, 1) := by decide +kernel
theorem d_P_init_10 : decode (mi_code n_P_init) 10 = .ok (.bipush 24, 2) := by decide +kernel
theorem d_P_init_12 : decode (mi_code n_P_init) 12 = .ok (.newarray .boolean, 2) := by decide +kernel
theorem d_P_init_14 : decode (mi_code n_P_init) 14 = .ok (.putfield 15, 3) := by decide +kernel
theorem d_P_init_17 : decode (mi_code n_P_init) 17 = .ok (.aload_n 0, 1) := by decide +kernel
theorem d_P_init_18 : decode (mi_code n_P_init) 18 = .ok (.bipush 24, 2) := by decide +kernel
theorem d_P_init_20 : decode (mi_code n_P_init) 20 = .ok (.newarray .int, 2) := by decide +kernel
theorem d_P_init_22 : decode (mi_code n_P_init) 22 = .ok (.putfield 19, 3) := by decide +kernel
theorem d_P_init_25 : decode (mi_code n_P_init) 25 = .ok (.aload_n 0, 1) := by decide +kernel
theorem d_P_init_26 : decode (mi_code n_P_init) 26 = .ok (.bipush 24, 2) := by decide +kernel
theorem d_P_init_28 : decode (mi_code n_P_init) 28 = .ok (.newarray .int, 2) := by decide +kernel
theorem d_P_init_30 : decode (mi_code n_P_init) 30 = .ok (.putfield 23, 3) := by decide +kernel
theorem d_P_init_33 : decode (mi_code n_P_init) 33 = .ok (.return_, 1) := by decide +kernel
theorem d_P_lastToldUpTo_0 : decode (mi_code n_P_lastToldUpTo) 0 = .ok (.iload_n 1, 1) := by decide +kernel
theorem d_P_lastToldUpTo_1 : decode (mi_code n_P_lastToldUpTo) 1 = .ok (.istore_n 2, 1) := by decide +kernel
theorem d_P_lastToldUpTo_2 : decode (mi_code n_P_lastToldUpTo) 2 = .ok (.iload_n 2, 1) := by decide +kernel
theorem d_P_lastToldUpTo_3 : decode (mi_code n_P_lastToldUpTo) 3 = .ok (.ifCond .lt 20, 3) := by decide +kernel
theorem d_P_lastToldUpTo_6 : decode (mi_code n_P_lastToldUpTo) 6 = .ok (.aload_n 0, 1) := by decide +kernel
theorem d_P_lastToldUpTo_7 : decode (mi_code n_P_lastToldUpTo) 7 = .ok (.getfield 15, 3) := by decide +kernel
theorem d_P_lastToldUpTo_10 : decode (mi_code n_P_lastToldUpTo) 10 = .ok (.iload_n 2, 1) := by decide +kernel
theorem d_P_lastToldUpTo_11 : decode (mi_code n_P_lastToldUpTo) 11 = .ok (.baload, 1) := by decide +kernel
theorem d_P_lastToldUpTo_12 : decode (mi_code n_P_lastToldUpTo) 12 = .ok (.ifCond .eq 5, 3) := by decide +kernel
theorem d_P_lastToldUpTo_15 : decode (mi_code n_P_lastToldUpTo) 15 = .ok (.iload_n 2, 1) := by decide +kernel
theorem d_P_lastToldUpTo_16 : decode (mi_code n_P_lastToldUpTo) 16 = .ok (.ireturn, 1) := by decide +kernel
theorem d_P_lastToldUpTo_17 : decode (mi_code n_P_lastToldUpTo) 17 = .ok (.iinc 2 (-1), 3) := by decide +kernel
theorem d_P_lastToldUpTo_20 : decode (mi_code n_P_lastToldUpTo) 20 = .ok (.goto (-18), 3) := by decide +kernel
theorem d_P_lastToldUpTo_23 : decode (mi_code n_P_lastToldUpTo) 23 = .ok (.iconst (-1), 1) := by decide +kernel
theorem d_P_lastToldUpTo_24 : decode (mi_code n_P_lastToldUpTo) 24 = .ok (.ireturn, 1) := by decide +kernel
theorem d_P_ownPlaceAt_0 : decode (mi_code n_P_ownPlaceAt) 0 = .ok (.aload_n 0, 1) := by decide +kernel
theorem d_P_ownPlaceAt_1 : decode (mi_code n_P_ownPlaceAt) 1 = .ok (.iload_n 1, 1) := by decide +kernel
theorem d_P_ownPlaceAt_2 : decode (mi_code n_P_ownPlaceAt) 2 = .ok (.invokevirtual 34, 3) := by decide +kernel
theorem d_P_ownPlaceAt_5 : decode (mi_code n_P_ownPlaceAt) 5 = .ok (.istore_n 3, 1) := by decide +kernel
theorem d_P_ownPlaceAt_6 : decode (mi_code n_P_ownPlaceAt) 6 = .ok (.aload_n 0, 1) := by decide +kernel
theorem d_P_ownPlaceAt_7 : decode (mi_code n_P_ownPlaceAt) 7 = .ok (.iload_n 1, 1) := by decide +kernel
theorem d_P_ownPlaceAt_8 : decode (mi_code n_P_ownPlaceAt) 8 = .ok (.invokevirtual 38, 3) := by decide +kernel
theorem d_P_ownPlaceAt_11 : decode (mi_code n_P_ownPlaceAt) 11 = .ok (.istore 4, 2) := by decide +kernel
theorem d_P_ownPlaceAt_13 : decode (mi_code n_P_ownPlaceAt) 13 = .ok (.iload_n 3, 1) := by decide +kernel
theorem d_P_ownPlaceAt_14 : decode (mi_code n_P_ownPlaceAt) 14 = .ok (.iconst (-1), 1) := by decide +kernel
theorem d_P_ownPlaceAt_15 : decode (mi_code n_P_ownPlaceAt) 15 = .ok (.if_icmp .ne 11, 3) := by decide +kernel
theorem d_P_ownPlaceAt_18 : decode (mi_code n_P_ownPlaceAt) 18 = .ok (.iload 4, 2) := by decide +kernel
theorem d_P_ownPlaceAt_20 : decode (mi_code n_P_ownPlaceAt) 20 = .ok (.iconst (-1), 1) := by decide +kernel
theorem d_P_ownPlaceAt_21 : decode (mi_code n_P_ownPlaceAt) 21 = .ok (.if_icmp .ne 5, 3) := by decide +kernel
theorem d_P_ownPlaceAt_24 : decode (mi_code n_P_ownPlaceAt) 24 = .ok (.iconst 0, 1) := by decide +kernel
theorem d_P_ownPlaceAt_25 : decode (mi_code n_P_ownPlaceAt) 25 = .ok (.ireturn, 1) := by decide +kernel
theorem d_P_ownPlaceAt_26 : decode (mi_code n_P_ownPlaceAt) 26 = .ok (.iload_n 3, 1) := by decide +kernel
theorem d_P_ownPlaceAt_27 : decode (mi_code n_P_ownPlaceAt) 27 = .ok (.iconst (-1), 1) := by decide +kernel
theorem d_P_ownPlaceAt_28 : decode (mi_code n_P_ownPlaceAt) 28 = .ok (.if_icmp .ne 8, 3) := by decide +kernel
theorem d_P_ownPlaceAt_31 : decode (mi_code n_P_ownPlaceAt) 31 = .ok (.aload_n 2, 1) := by decide +kernel
theorem d_P_ownPlaceAt_32 : decode (mi_code n_P_ownPlaceAt) 32 = .ok (.iload 4, 2) := by decide +kernel
theorem d_P_ownPlaceAt_34 : decode (mi_code n_P_ownPlaceAt) 34 = .ok (.iaload, 1) := by decide +kernel
theorem d_P_ownPlaceAt_35 : decode (mi_code n_P_ownPlaceAt) 35 = .ok (.ireturn, 1) := by decide +kernel
theorem d_P_ownPlaceAt_36 : decode (mi_code n_P_ownPlaceAt) 36 = .ok (.iload 4, 2) := by decide +kernel
theorem d_P_ownPlaceAt_38 : decode (mi_code n_P_ownPlaceAt) 38 = .ok (.iconst (-1), 1) := by decide +kernel
theorem d_P_ownPlaceAt_39 : decode (mi_code n_P_ownPlaceAt) 39 = .ok (.if_icmp .ne 7, 3) := by decide +kernel
theorem d_P_ownPlaceAt_42 : decode (mi_code n_P_ownPlaceAt) 42 = .ok (.aload_n 2, 1) := by decide +kernel
theorem d_P_ownPlaceAt_43 : decode (mi_code n_P_ownPlaceAt) 43 = .ok (.iload_n 3, 1) := by decide +kernel
theorem d_P_ownPlaceAt_44 : decode (mi_code n_P_ownPlaceAt) 44 = .ok (.iaload, 1) := by decide +kernel
theorem d_P_ownPlaceAt_45 : decode (mi_code n_P_ownPlaceAt) 45 = .ok (.ireturn, 1) := by decide +kernel
theorem d_P_ownPlaceAt_46 : decode (mi_code n_P_ownPlaceAt) 46 = .ok (.aload_n 2, 1) := by decide +kernel
theorem d_P_ownPlaceAt_47 : decode (mi_code n_P_ownPlaceAt) 47 = .ok (.iload_n 3, 1) := by decide +kernel
theorem d_P_ownPlaceAt_48 : decode (mi_code n_P_ownPlaceAt) 48 = .ok (.iaload, 1) := by decide +kernel
theorem d_P_ownPlaceAt_49 : decode (mi_code n_P_ownPlaceAt) 49 = .ok (.aload_n 2, 1) := by decide +kernel
theorem d_P_ownPlaceAt_50 : decode (mi_code n_P_ownPlaceAt) 50 = .ok (.iload 4, 2) := by decide +kernel
theorem d_P_ownPlaceAt_52 : decode (mi_code n_P_ownPlaceAt) 52 = .ok (.iaload, 1) := by decide +kernel
theorem d_P_ownPlaceAt_53 : decode (mi_code n_P_ownPlaceAt) 53 = .ok (.iload_n 1, 1) := by decide +kernel
theorem d_P_ownPlaceAt_54 : decode (mi_code n_P_ownPlaceAt) 54 = .ok (.iload_n 3, 1) := by decide +kernel
theorem d_P_ownPlaceAt_55 : decode (mi_code n_P_ownPlaceAt) 55 = .ok (.isub, 1) := by decide +kernel
theorem d_P_ownPlaceAt_56 : decode (mi_code n_P_ownPlaceAt) 56 = .ok (.iload 4, 2) := by decide +kernel
theorem d_P_ownPlaceAt_58 : decode (mi_code n_P_ownPlaceAt) 58 = .ok (.iload_n 3, 1) := by decide +kernel
theorem d_P_ownPlaceAt_59 : decode (mi_code n_P_ownPlaceAt) 59 = .ok (.isub, 1) := by decide +kernel
theorem d_P_ownPlaceAt_60 : decode (mi_code n_P_ownPlaceAt) 60 = .ok (.invokestatic 41, 3) := by decide +kernel
theorem d_P_ownPlaceAt_63 : decode (mi_code n_P_ownPlaceAt) 63 = .ok (.ireturn, 1) := by decide +kernel
theorem d_P_placeAt_0 : decode (mi_code n_P_placeAt) 0 = .ok (.iconst 0, 1) := by decide +kernel
theorem d_P_placeAt_1 : decode (mi_code n_P_placeAt) 1 = .ok (.istore_n 3, 1) := by decide +kernel
theorem d_P_placeAt_2 : decode (mi_code n_P_placeAt) 2 = .ok (.aload_n 0, 1) := by decide +kernel
theorem d_P_placeAt_3 : decode (mi_code n_P_placeAt) 3 = .ok (.astore 4, 2) := by decide +kernel
theorem d_P_placeAt_5 : decode (mi_code n_P_placeAt) 5 = .ok (.aload 4, 2) := by decide +kernel
theorem d_P_placeAt_7 : decode (mi_code n_P_placeAt) 7 = .ok (.ifnull 39, 3) := by decide +kernel
theorem d_P_placeAt_10 : decode (mi_code n_P_placeAt) 10 = .ok (.iload_n 3, 1) := by decide +kernel
theorem d_P_placeAt_11 : decode (mi_code n_P_placeAt) 11 = .ok (.aload 4, 2) := by decide +kernel
theorem d_P_placeAt_13 : decode (mi_code n_P_placeAt) 13 = .ok (.iload_n 1, 1) := by decide +kernel
theorem d_P_placeAt_14 : decode (mi_code n_P_placeAt) 14 = .ok (.iload_n 2, 1) := by decide +kernel
theorem d_P_placeAt_15 : decode (mi_code n_P_placeAt) 15 = .ok (.ifCond .eq 11, 3) := by decide +kernel
theorem d_P_placeAt_18 : decode (mi_code n_P_placeAt) 18 = .ok (.aload 4, 2) := by decide +kernel
theorem d_P_placeAt_20 : decode (mi_code n_P_placeAt) 20 = .ok (.getfield 19, 3) := by decide +kernel
theorem d_P_placeAt_23 : decode (mi_code n_P_placeAt) 23 = .ok (.goto 8, 3) := by decide +kernel
theorem d_P_placeAt_26 : decode (mi_code n_P_placeAt) 26 = .ok (.aload 4, 2) := by decide +kernel
theorem d_P_placeAt_28 : decode (mi_code n_P_placeAt) 28 = .ok (.getfield 23, 3) := by decide +kernel
theorem d_P_placeAt_31 : decode (mi_code n_P_placeAt) 31 = .ok (.invokevirtual 30, 3) := by decide +kernel
theorem d_P_placeAt_34 : decode (mi_code n_P_placeAt) 34 = .ok (.iadd, 1) := by decide +kernel
theorem d_P_placeAt_35 : decode (mi_code n_P_placeAt) 35 = .ok (.istore_n 3, 1) := by decide +kernel
theorem d_P_placeAt_36 : decode (mi_code n_P_placeAt) 36 = .ok (.aload 4, 2) := by decide +kernel
theorem d_P_placeAt_38 : decode (mi_code n_P_placeAt) 38 = .ok (.getfield 9, 3) := by decide +kernel
theorem d_P_placeAt_41 : decode (mi_code n_P_placeAt) 41 = .ok (.astore 4, 2) := by decide +kernel
theorem d_P_placeAt_43 : decode (mi_code n_P_placeAt) 43 = .ok (.goto (-38), 3) := by decide +kernel
theorem d_P_placeAt_46 : decode (mi_code n_P_placeAt) 46 = .ok (.iload_n 3, 1) := by decide +kernel
theorem d_P_placeAt_47 : decode (mi_code n_P_placeAt) 47 = .ok (.ireturn, 1) := by decide +kernel
theorem d_P_tell_0 : decode (mi_code n_P_tell) 0 = .ok (.aload_n 0, 1) := by decide +kernel
theorem d_P_tell_1 : decode (mi_code n_P_tell) 1 = .ok (.getfield 15, 3) := by decide +kernel
theorem d_P_tell_4 : decode (mi_code n_P_tell) 4 = .ok (.iload_n 1, 1) := by decide +kernel
theorem d_P_tell_5 : decode (mi_code n_P_tell) 5 = .ok (.baload, 1) := by decide +kernel
theorem d_P_tell_6 : decode (mi_code n_P_tell) 6 = .ok (.ifCond .ne 20, 3) := by decide +kernel
theorem d_P_tell_9 : decode (mi_code n_P_tell) 9 = .ok (.aload_n 0, 1) := by decide +kernel
theorem d_P_tell_10 : decode (mi_code n_P_tell) 10 = .ok (.getfield 15, 3) := by decide +kernel
theorem d_P_tell_13 : decode (mi_code n_P_tell) 13 = .ok (.iload_n 1, 1) := by decide +kernel
theorem d_P_tell_14 : decode (mi_code n_P_tell) 14 = .ok (.iconst 1, 1) := by decide +kernel
theorem d_P_tell_15 : decode (mi_code n_P_tell) 15 = .ok (.bastore, 1) := by decide +kernel
theorem d_P_tell_16 : decode (mi_code n_P_tell) 16 = .ok (.aload_n 0, 1) := by decide +kernel
theorem d_P_tell_17 : decode (mi_code n_P_tell) 17 = .ok (.dup, 1) := by decide +kernel
theorem d_P_tell_18 : decode (mi_code n_P_tell) 18 = .ok (.getfield 26, 3) := by decide +kernel
theorem d_P_tell_21 : decode (mi_code n_P_tell) 21 = .ok (.iconst 1, 1) := by decide +kernel
theorem d_P_tell_22 : decode (mi_code n_P_tell) 22 = .ok (.iadd, 1) := by decide +kernel
theorem d_P_tell_23 : decode (mi_code n_P_tell) 23 = .ok (.putfield 26, 3) := by decide +kernel
theorem d_P_tell_26 : decode (mi_code n_P_tell) 26 = .ok (.aload_n 0, 1) := by decide +kernel
theorem d_P_tell_27 : decode (mi_code n_P_tell) 27 = .ok (.getfield 19, 3) := by decide +kernel
theorem d_P_tell_30 : decode (mi_code n_P_tell) 30 = .ok (.iload_n 1, 1) := by decide +kernel
theorem d_P_tell_31 : decode (mi_code n_P_tell) 31 = .ok (.iload_n 2, 1) := by decide +kernel
theorem d_P_tell_32 : decode (mi_code n_P_tell) 32 = .ok (.iastore, 1) := by decide +kernel
theorem d_P_tell_33 : decode (mi_code n_P_tell) 33 = .ok (.aload_n 0, 1) := by decide +kernel
theorem d_P_tell_34 : decode (mi_code n_P_tell) 34 = .ok (.getfield 23, 3) := by decide +kernel
theorem d_P_tell_37 : decode (mi_code n_P_tell) 37 = .ok (.iload_n 1, 1) := by decide +kernel
theorem d_P_tell_38 : decode (mi_code n_P_tell) 38 = .ok (.iload_n 3, 1) := by decide +kernel
theorem d_P_tell_39 : decode (mi_code n_P_tell) 39 = .ok (.iastore, 1) := by decide +kernel
theorem d_P_tell_40 : decode (mi_code n_P_tell) 40 = .ok (.return_, 1) := by decide +kernel
theorem d_S_drawingOnSheet_0 : decode (mi_code n_S_drawingOnSheet) 0 = .ok (.iload_n 2, 1) := by decide +kernel
theorem d_S_drawingOnSheet_1 : decode (mi_code n_S_drawingOnSheet) 1 = .ok (.istore_n 3, 1) := by decide +kernel
theorem d_S_drawingOnSheet_2 : decode (mi_code n_S_drawingOnSheet) 2 = .ok (.iload_n 3, 1) := by decide +kernel
theorem d_S_drawingOnSheet_3 : decode (mi_code n_S_drawingOnSheet) 3 = .ok (.ifCond .lt 55, 3) := by decide +kernel
theorem d_S_drawingOnSheet_6 : decode (mi_code n_S_drawingOnSheet) 6 = .ok (.aload_n 0, 1) := by decide +kernel
theorem d_S_drawingOnSheet_7 : decode (mi_code n_S_drawingOnSheet) 7 = .ok (.getfield 18, 3) := by decide +kernel
theorem d_S_drawingOnSheet_10 : decode (mi_code n_S_drawingOnSheet) 10 = .ok (.iload_n 1, 1) := by decide +kernel
theorem d_S_drawingOnSheet_11 : decode (mi_code n_S_drawingOnSheet) 11 = .ok (.aload_n 0, 1) := by decide +kernel
theorem d_S_drawingOnSheet_12 : decode (mi_code n_S_drawingOnSheet) 12 = .ok (.getfield 9, 3) := by decide +kernel
theorem d_S_drawingOnSheet_15 : decode (mi_code n_S_drawingOnSheet) 15 = .ok (.imul, 1) := by decide +kernel
theorem d_S_drawingOnSheet_16 : decode (mi_code n_S_drawingOnSheet) 16 = .ok (.iload_n 3, 1) := by decide +kernel
theorem d_S_drawingOnSheet_17 : decode (mi_code n_S_drawingOnSheet) 17 = .ok (.iadd, 1) := by decide +kernel
theorem d_S_drawingOnSheet_18 : decode (mi_code n_S_drawingOnSheet) 18 = .ok (.iaload, 1) := by decide +kernel
theorem d_S_drawingOnSheet_19 : decode (mi_code n_S_drawingOnSheet) 19 = .ok (.istore 4, 2) := by decide +kernel
theorem d_S_drawingOnSheet_21 : decode (mi_code n_S_drawingOnSheet) 21 = .ok (.iload 4, 2) := by decide +kernel
theorem d_S_drawingOnSheet_23 : decode (mi_code n_S_drawingOnSheet) 23 = .ok (.bipush (-2), 2) := by decide +kernel
theorem d_S_drawingOnSheet_25 : decode (mi_code n_S_drawingOnSheet) 25 = .ok (.if_icmp .ne 9, 3) := by decide +kernel
theorem d_S_drawingOnSheet_28 : decode (mi_code n_S_drawingOnSheet) 28 = .ok (.iinc 3 (-1), 3) := by decide +kernel
theorem d_S_drawingOnSheet_31 : decode (mi_code n_S_drawingOnSheet) 31 = .ok (.goto 24, 3) := by decide +kernel
theorem d_S_drawingOnSheet_34 : decode (mi_code n_S_drawingOnSheet) 34 = .ok (.iload 4, 2) := by decide +kernel
theorem d_S_drawingOnSheet_36 : decode (mi_code n_S_drawingOnSheet) 36 = .ok (.bipush 99, 2) := by decide +kernel
theorem d_S_drawingOnSheet_38 : decode (mi_code n_S_drawingOnSheet) 38 = .ok (.if_icmp .le 14, 3) := by decide +kernel
theorem d_S_drawingOnSheet_41 : decode (mi_code n_S_drawingOnSheet) 41 = .ok (.iload_n 3, 1) := by decide +kernel
theorem d_S_drawingOnSheet_42 : decode (mi_code n_S_drawingOnSheet) 42 = .ok (.iload 4, 2) := by decide +kernel
theorem d_S_drawingOnSheet_44 : decode (mi_code n_S_drawingOnSheet) 44 = .ok (.bipush 99, 2) := by decide +kernel
theorem d_S_drawingOnSheet_46 : decode (mi_code n_S_drawingOnSheet) 46 = .ok (.isub, 1) := by decide +kernel
theorem d_S_drawingOnSheet_47 : decode (mi_code n_S_drawingOnSheet) 47 = .ok (.isub, 1) := by decide +kernel
theorem d_S_drawingOnSheet_48 : decode (mi_code n_S_drawingOnSheet) 48 = .ok (.istore_n 3, 1) := by decide +kernel
theorem d_S_drawingOnSheet_49 : decode (mi_code n_S_drawingOnSheet) 49 = .ok (.goto 6, 3) := by decide +kernel
theorem d_S_drawingOnSheet_52 : decode (mi_code n_S_drawingOnSheet) 52 = .ok (.iload 4, 2) := by decide +kernel
theorem d_S_drawingOnSheet_54 : decode (mi_code n_S_drawingOnSheet) 54 = .ok (.ireturn, 1) := by decide +kernel
theorem d_S_drawingOnSheet_55 : decode (mi_code n_S_drawingOnSheet) 55 = .ok (.goto (-53), 3) := by decide +kernel
theorem d_S_drawingOnSheet_58 : decode (mi_code n_S_drawingOnSheet) 58 = .ok (.iconst (-1), 1) := by decide +kernel
theorem d_S_drawingOnSheet_59 : decode (mi_code n_S_drawingOnSheet) 59 = .ok (.ireturn, 1) := by decide +kernel
theorem d_S_init_0 : decode (mi_code n_S_init) 0 = .ok (.aload_n 0, 1) := by decide +kernel
theorem d_S_init_1 : decode (mi_code n_S_init) 1 = .ok (.invokespecial 3, 3) := by decide +kernel
theorem d_S_init_4 : decode (mi_code n_S_init) 4 = .ok (.aload_n 0, 1) := by decide +kernel
theorem d_S_init_5 : decode (mi_code n_S_init) 5 = .ok (.iload_n 1, 1) := by decide +kernel
theorem d_S_init_6 : decode (mi_code n_S_init) 6 = .ok (.putfield 9, 3) := by decide +kernel
theorem d_S_init_9 : decode (mi_code n_S_init) 9 = .ok (.aload_n 0, 1) := by decide +kernel
theorem d_S_init_10 : decode (mi_code n_S_init) 10 = .ok (.iload_n 2, 1) := by decide +kernel
theorem d_S_init_11 : decode (mi_code n_S_init) 11 = .ok (.putfield 15, 3) := by decide +kernel
theorem d_S_init_14 : decode (mi_code n_S_init) 14 = .ok (.aload_n 0, 1) := by decide +kernel
theorem d_S_init_15 : decode (mi_code n_S_init) 15 = .ok (.iconst 4, 1) := by decide +kernel
theorem d_S_init_16 : decode (mi_code n_S_init) 16 = .ok (.iload_n 1, 1) := by decide +kernel
theorem d_S_init_17 : decode (mi_code n_S_init) 17 = .ok (.imul, 1) := by decide +kernel
theorem d_S_init_18 : decode (mi_code n_S_init) 18 = .ok (.newarray .int, 2) := by decide +kernel
theorem d_S_init_20 : decode (mi_code n_S_init) 20 = .ok (.putfield 18, 3) := by decide +kernel
theorem d_S_init_23 : decode (mi_code n_S_init) 23 = .ok (.aload_n 0, 1) := by decide +kernel
theorem d_S_init_24 : decode (mi_code n_S_init) 24 = .ok (.getfield 18, 3) := by decide +kernel
theorem d_S_init_27 : decode (mi_code n_S_init) 27 = .ok (.bipush (-2), 2) := by decide +kernel
theorem d_S_init_29 : decode (mi_code n_S_init) 29 = .ok (.invokestatic 22, 3) := by decide +kernel
theorem d_S_init_32 : decode (mi_code n_S_init) 32 = .ok (.aload_n 0, 1) := by decide +kernel
theorem d_S_init_33 : decode (mi_code n_S_init) 33 = .ok (.iload_n 1, 1) := by decide +kernel
theorem d_S_init_34 : decode (mi_code n_S_init) 34 = .ok (.newarray .int, 2) := by decide +kernel
theorem d_S_init_36 : decode (mi_code n_S_init) 36 = .ok (.putfield 28, 3) := by decide +kernel
theorem d_S_init_39 : decode (mi_code n_S_init) 39 = .ok (.aload_n 0, 1) := by decide +kernel
theorem d_S_init_40 : decode (mi_code n_S_init) 40 = .ok (.getfield 28, 3) := by decide +kernel
theorem d_S_init_43 : decode (mi_code n_S_init) 43 = .ok (.bipush (-3), 2) := by decide +kernel
theorem d_S_init_45 : decode (mi_code n_S_init) 45 = .ok (.invokestatic 22, 3) := by decide +kernel
theorem d_S_init_48 : decode (mi_code n_S_init) 48 = .ok (.aload_n 0, 1) := by decide +kernel
theorem d_S_init_49 : decode (mi_code n_S_init) 49 = .ok (.iconst 4, 1) := by decide +kernel
theorem d_S_init_50 : decode (mi_code n_S_init) 50 = .ok (.newarray .boolean, 2) := by decide +kernel
theorem d_S_init_52 : decode (mi_code n_S_init) 52 = .ok (.putfield 31, 3) := by decide +kernel
theorem d_S_init_55 : decode (mi_code n_S_init) 55 = .ok (.aload_n 0, 1) := by decide +kernel
theorem d_S_init_56 : decode (mi_code n_S_init) 56 = .ok (.iconst 4, 1) := by decide +kernel
theorem d_S_init_57 : decode (mi_code n_S_init) 57 = .ok (.anewarray 35, 3) := by decide +kernel
theorem d_S_init_60 : decode (mi_code n_S_init) 60 = .ok (.putfield 37, 3) := by decide +kernel
theorem d_S_init_63 : decode (mi_code n_S_init) 63 = .ok (.aload_n 0, 1) := by decide +kernel
theorem d_S_init_64 : decode (mi_code n_S_init) 64 = .ok (.iconst 4, 1) := by decide +kernel
theorem d_S_init_65 : decode (mi_code n_S_init) 65 = .ok (.newarray .int, 2) := by decide +kernel
theorem d_S_init_67 : decode (mi_code n_S_init) 67 = .ok (.putfield 41, 3) := by decide +kernel
theorem d_S_init_70 : decode (mi_code n_S_init) 70 = .ok (.aload_n 0, 1) := by decide +kernel
theorem d_S_init_71 : decode (mi_code n_S_init) 71 = .ok (.getfield 41, 3) := by decide +kernel
theorem d_S_init_74 : decode (mi_code n_S_init) 74 = .ok (.iconst 1, 1) := by decide +kernel
theorem d_S_init_75 : decode (mi_code n_S_init) 75 = .ok (.invokestatic 22, 3) := by decide +kernel
theorem d_S_init_78 : decode (mi_code n_S_init) 78 = .ok (.aload_n 0, 1) := by decide +kernel
theorem d_S_init_79 : decode (mi_code n_S_init) 79 = .ok (.iload_n 1, 1) := by decide +kernel
theorem d_S_init_80 : decode (mi_code n_S_init) 80 = .ok (.sipush 192, 3) := by decide +kernel
theorem d_S_init_83 : decode (mi_code n_S_init) 83 = .ok (.imul, 1) := by decide +kernel
theorem d_S_init_84 : decode (mi_code n_S_init) 84 = .ok (.newarray .int, 2) := by decide +kernel
theorem d_S_init_86 : decode (mi_code n_S_init) 86 = .ok (.putfield 44, 3) := by decide +kernel
theorem d_S_init_89 : decode (mi_code n_S_init) 89 = .ok (.aload_n 0, 1) := by decide +kernel
theorem d_S_init_90 : decode (mi_code n_S_init) 90 = .ok (.getfield 44, 3) := by decide +kernel
theorem d_S_init_93 : decode (mi_code n_S_init) 93 = .ok (.iconst (-1), 1) := by decide +kernel
theorem d_S_init_94 : decode (mi_code n_S_init) 94 = .ok (.invokestatic 22, 3) := by decide +kernel
theorem d_S_init_97 : decode (mi_code n_S_init) 97 = .ok (.return_, 1) := by decide +kernel
theorem d_S_isAsShot_0 : decode (mi_code n_S_isAsShot) 0 = .ok (.iconst 0, 1) := by decide +kernel
theorem d_S_isAsShot_1 : decode (mi_code n_S_isAsShot) 1 = .ok (.istore_n 3, 1) := by decide +kernel
theorem d_S_isAsShot_2 : decode (mi_code n_S_isAsShot) 2 = .ok (.iload_n 3, 1) := by decide +kernel
theorem d_S_isAsShot_3 : decode (mi_code n_S_isAsShot) 3 = .ok (.sipush 192, 3) := by decide +kernel
theorem d_S_isAsShot_6 : decode (mi_code n_S_isAsShot) 6 = .ok (.if_icmp .ge 29, 3) := by decide +kernel
theorem d_S_isAsShot_9 : decode (mi_code n_S_isAsShot) 9 = .ok (.aload_n 0, 1) := by decide +kernel
theorem d_S_isAsShot_10 : decode (mi_code n_S_isAsShot) 10 = .ok (.getfield 44, 3) := by decide +kernel
theorem d_S_isAsShot_13 : decode (mi_code n_S_isAsShot) 13 = .ok (.iload_n 1, 1) := by decide +kernel
theorem d_S_isAsShot_14 : decode (mi_code n_S_isAsShot) 14 = .ok (.sipush 192, 3) := by decide +kernel
theorem d_S_isAsShot_17 : decode (mi_code n_S_isAsShot) 17 = .ok (.imul, 1) := by decide +kernel
theorem d_S_isAsShot_18 : decode (mi_code n_S_isAsShot) 18 = .ok (.iload_n 3, 1) := by decide +kernel
theorem d_S_isAsShot_19 : decode (mi_code n_S_isAsShot) 19 = .ok (.iadd, 1) := by decide +kernel
theorem d_S_isAsShot_20 : decode (mi_code n_S_isAsShot) 20 = .ok (.iaload, 1) := by decide +kernel
theorem d_S_isAsShot_21 : decode (mi_code n_S_isAsShot) 21 = .ok (.aload_n 2, 1) := by decide +kernel
theorem d_S_isAsShot_22 : decode (mi_code n_S_isAsShot) 22 = .ok (.iload_n 3, 1) := by decide +kernel
theorem d_S_isAsShot_23 : decode (mi_code n_S_isAsShot) 23 = .ok (.iaload, 1) := by decide +kernel
theorem d_S_isAsShot_24 : decode (mi_code n_S_isAsShot) 24 = .ok (.if_icmp .eq 5, 3) := by decide +kernel
theorem d_S_isAsShot_27 : decode (mi_code n_S_isAsShot) 27 = .ok (.iconst 0, 1) := by decide +kernel
theorem d_S_isAsShot_28 : decode (mi_code n_S_isAsShot) 28 = .ok (.ireturn, 1) := by decide +kernel
theorem d_S_isAsShot_29 : decode (mi_code n_S_isAsShot) 29 = .ok (.iinc 3 1, 3) := by decide +kernel
theorem d_S_isAsShot_32 : decode (mi_code n_S_isAsShot) 32 = .ok (.goto (-30), 3) := by decide +kernel
theorem d_S_isAsShot_35 : decode (mi_code n_S_isAsShot) 35 = .ok (.iconst 1, 1) := by decide +kernel
theorem d_S_isAsShot_36 : decode (mi_code n_S_isAsShot) 36 = .ok (.ireturn, 1) := by decide +kernel
theorem d_S_keep_0 : decode (mi_code n_S_keep) 0 = .ok (.aload_n 2, 1) := by decide +kernel
theorem d_S_keep_1 : decode (mi_code n_S_keep) 1 = .ok (.iconst 0, 1) := by decide +kernel
theorem d_S_keep_2 : decode (mi_code n_S_keep) 2 = .ok (.aload_n 0, 1) := by decide +kernel
theorem d_S_keep_3 : decode (mi_code n_S_keep) 3 = .ok (.getfield 44, 3) := by decide +kernel
theorem d_S_keep_6 : decode (mi_code n_S_keep) 6 = .ok (.iload_n 1, 1) := by decide +kernel
theorem d_S_keep_7 : decode (mi_code n_S_keep) 7 = .ok (.sipush 192, 3) := by decide +kernel
theorem d_S_keep_10 : decode (mi_code n_S_keep) 10 = .ok (.imul, 1) := by decide +kernel
theorem d_S_keep_11 : decode (mi_code n_S_keep) 11 = .ok (.sipush 192, 3) := by decide +kernel
theorem d_S_keep_14 : decode (mi_code n_S_keep) 14 = .ok (.invokestatic 61, 3) := by decide +kernel
theorem d_S_keep_17 : decode (mi_code n_S_keep) 17 = .ok (.return_, 1) := by decide +kernel
theorem d_S_shiftOf_0 : decode (mi_code n_S_shiftOf) 0 = .ok (.aload_n 0, 1) := by decide +kernel
theorem d_S_shiftOf_1 : decode (mi_code n_S_shiftOf) 1 = .ok (.getfield 37, 3) := by decide +kernel
theorem d_S_shiftOf_4 : decode (mi_code n_S_shiftOf) 4 = .ok (.iload_n 1, 1) := by decide +kernel
theorem d_S_shiftOf_5 : decode (mi_code n_S_shiftOf) 5 = .ok (.aaload, 1) := by decide +kernel
theorem d_S_shiftOf_6 : decode (mi_code n_S_shiftOf) 6 = .ok (.ifnonnull 7, 3) := by decide +kernel
theorem d_S_shiftOf_9 : decode (mi_code n_S_shiftOf) 9 = .ok (.iconst 0, 1) := by decide +kernel
theorem d_S_shiftOf_10 : decode (mi_code n_S_shiftOf) 10 = .ok (.goto 14, 3) := by decide +kernel
theorem d_S_shiftOf_13 : decode (mi_code n_S_shiftOf) 13 = .ok (.aload_n 0, 1) := by decide +kernel
theorem d_S_shiftOf_14 : decode (mi_code n_S_shiftOf) 14 = .ok (.getfield 37, 3) := by decide +kernel
theorem d_S_shiftOf_17 : decode (mi_code n_S_shiftOf) 17 = .ok (.iload_n 1, 1) := by decide +kernel
theorem d_S_shiftOf_18 : decode (mi_code n_S_shiftOf) 18 = .ok (.aaload, 1) := by decide +kernel
theorem d_S_shiftOf_19 : decode (mi_code n_S_shiftOf) 19 = .ok (.iload_n 2, 1) := by decide +kernel
theorem d_S_shiftOf_20 : decode (mi_code n_S_shiftOf) 20 = .ok (.iload_n 3, 1) := by decide +kernel
theorem d_S_shiftOf_21 : decode (mi_code n_S_shiftOf) 21 = .ok (.invokevirtual 47, 3) := by decide +kernel
theorem d_S_shiftOf_24 : decode (mi_code n_S_shiftOf) 24 = .ok (.istore 4, 2) := by decide +kernel
theorem d_S_shiftOf_26 : decode (mi_code n_S_shiftOf) 26 = .ok (.aload_n 0, 1) := by decide +kernel
theorem d_S_shiftOf_27 : decode (mi_code n_S_shiftOf) 27 = .ok (.getfield 51, 3) := by decide +kernel
theorem d_S_shiftOf_30 : decode (mi_code n_S_shiftOf) 30 = .ok (.ifnonnull 7, 3) := by decide +kernel
theorem d_S_shiftOf_33 : decode (mi_code n_S_shiftOf) 33 = .ok (.iconst 0, 1) := by decide +kernel
theorem d_S_shiftOf_34 : decode (mi_code n_S_shiftOf) 34 = .ok (.goto 12, 3) := by decide +kernel
theorem d_S_shiftOf_37 : decode (mi_code n_S_shiftOf) 37 = .ok (.aload_n 0, 1) := by decide +kernel
theorem d_S_shiftOf_38 : decode (mi_code n_S_shiftOf) 38 = .ok (.getfield 51, 3) := by decide +kernel
theorem d_S_shiftOf_41 : decode (mi_code n_S_shiftOf) 41 = .ok (.iload_n 2, 1) := by decide +kernel
theorem d_S_shiftOf_42 : decode (mi_code n_S_shiftOf) 42 = .ok (.iload_n 3, 1) := by decide +kernel
theorem d_S_shiftOf_43 : decode (mi_code n_S_shiftOf) 43 = .ok (.invokevirtual 47, 3) := by decide +kernel
theorem d_S_shiftOf_46 : decode (mi_code n_S_shiftOf) 46 = .ok (.istore 5, 2) := by decide +kernel
theorem d_S_shiftOf_48 : decode (mi_code n_S_shiftOf) 48 = .ok (.iload 4, 2) := by decide +kernel
theorem d_S_shiftOf_50 : decode (mi_code n_S_shiftOf) 50 = .ok (.iload 5, 2) := by decide +kernel
theorem d_S_shiftOf_52 : decode (mi_code n_S_shiftOf) 52 = .ok (.iconst 1, 1) := by decide +kernel
theorem d_S_shiftOf_53 : decode (mi_code n_S_shiftOf) 53 = .ok (.aload_n 0, 1) := by decide +kernel
theorem d_S_shiftOf_54 : decode (mi_code n_S_shiftOf) 54 = .ok (.getfield 41, 3) := by decide +kernel
theorem d_S_shiftOf_57 : decode (mi_code n_S_shiftOf) 57 = .ok (.iload_n 1, 1) := by decide +kernel
theorem d_S_shiftOf_58 : decode (mi_code n_S_shiftOf) 58 = .ok (.iaload, 1) := by decide +kernel
theorem d_S_shiftOf_59 : decode (mi_code n_S_shiftOf) 59 = .ok (.invokestatic 55, 3) := by decide +kernel
theorem d_S_shiftOf_62 : decode (mi_code n_S_shiftOf) 62 = .ok (.idiv, 1) := by decide +kernel
theorem d_S_shiftOf_63 : decode (mi_code n_S_shiftOf) 63 = .ok (.isub, 1) := by decide +kernel
theorem d_S_shiftOf_64 : decode (mi_code n_S_shiftOf) 64 = .ok (.ireturn, 1) := by decide +kernel
theorem d_S_soundAt_0 : decode (mi_code n_S_soundAt) 0 = .ok (.iload_n 1, 1) := by decide +kernel
theorem d_S_soundAt_1 : decode (mi_code n_S_soundAt) 1 = .ok (.istore_n 2, 1) := by decide +kernel
theorem d_S_soundAt_2 : decode (mi_code n_S_soundAt) 2 = .ok (.iload_n 2, 1) := by decide +kernel
theorem d_S_soundAt_3 : decode (mi_code n_S_soundAt) 3 = .ok (.ifCond .lt 27, 3) := by decide +kernel
theorem d_S_soundAt_6 : decode (mi_code n_S_soundAt) 6 = .ok (.aload_n 0, 1) := by decide +kernel
theorem d_S_soundAt_7 : decode (mi_code n_S_soundAt) 7 = .ok (.getfield 28, 3) := by decide +kernel
theorem d_S_soundAt_10 : decode (mi_code n_S_soundAt) 10 = .ok (.iload_n 2, 1) := by decide +kernel
theorem d_S_soundAt_11 : decode (mi_code n_S_soundAt) 11 = .ok (.iaload, 1) := by decide +kernel
theorem d_S_soundAt_12 : decode (mi_code n_S_soundAt) 12 = .ok (.bipush (-3), 2) := by decide +kernel
theorem d_S_soundAt_14 : decode (mi_code n_S_soundAt) 14 = .ok (.if_icmp .eq 10, 3) := by decide +kernel
theorem d_S_soundAt_17 : decode (mi_code n_S_soundAt) 17 = .ok (.aload_n 0, 1) := by decide +kernel
theorem d_S_soundAt_18 : decode (mi_code n_S_soundAt) 18 = .ok (.getfield 28, 3) := by decide +kernel
theorem d_S_soundAt_21 : decode (mi_code n_S_soundAt) 21 = .ok (.iload_n 2, 1) := by decide +kernel
theorem d_S_soundAt_22 : decode (mi_code n_S_soundAt) 22 = .ok (.iaload, 1) := by decide +kernel
theorem d_S_soundAt_23 : decode (mi_code n_S_soundAt) 23 = .ok (.ireturn, 1) := by decide +kernel
theorem d_S_soundAt_24 : decode (mi_code n_S_soundAt) 24 = .ok (.iinc 2 (-1), 3) := by decide +kernel
theorem d_S_soundAt_27 : decode (mi_code n_S_soundAt) 27 = .ok (.goto (-25), 3) := by decide +kernel
theorem d_S_soundAt_30 : decode (mi_code n_S_soundAt) 30 = .ok (.iconst (-1), 1) := by decide +kernel
theorem d_S_soundAt_31 : decode (mi_code n_S_soundAt) 31 = .ok (.ireturn, 1) := by decide +kernel
