theorem dL_counters_54 : decode cL_counters 54 = .ok (.invokevirtual 41, 3) := by decide +kernel
theorem dL_counters_57 : decode cL_counters 57 = .ok (.goto 26, 3) := by decide +kernel
theorem dL_counters_60 : decode cL_counters 60 = .ok (.aload_n 0, 1) := by decide +kernel
theorem dL_counters_61 : decode cL_counters 61 = .ok (.iload 6, 2) := by decide +kernel
theorem dL_counters_63 : decode cL_counters 63 = .ok (.iconst 3, 1) := by decide +kernel
theorem dL_counters_64 : decode cL_counters 64 = .ok (.invokevirtual 41, 3) := by decide +kernel
theorem dL_counters_67 : decode cL_counters 67 = .ok (.iload_n 2, 1) := by decide +kernel
theorem dL_counters_68 : decode cL_counters 68 = .ok (.if_icmp .ne 14, 3) := by decide +kernel
theorem dL_counters_71 : decode cL_counters 71 = .ok (.aload_n 0, 1) := by decide +kernel
theorem dL_counters_72 : decode cL_counters 72 = .ok (.iload 6, 2) := by decide +kernel
theorem dL_counters_74 : decode cL_counters 74 = .ok (.iconst 2, 1) := by decide +kernel
theorem dL_counters_75 : decode cL_counters 75 = .ok (.invokevirtual 41, 3) := by decide +kernel
theorem dL_counters_78 : decode cL_counters 78 = .ok (.ineg, 1) := by decide +kernel
theorem dL_counters_79 : decode cL_counters 79 = .ok (.goto 4, 3) := by decide +kernel
theorem dL_counters_82 : decode cL_counters 82 = .ok (.iconst 0, 1) := by decide +kernel
theorem dL_counters_83 : decode cL_counters 83 = .ok (.istore 7, 2) := by decide +kernel
theorem dL_counters_85 : decode cL_counters 85 = .ok (.iload_n 3, 1) := by decide +kernel
theorem dL_counters_86 : decode cL_counters 86 = .ok (.iload 7, 2) := by decide +kernel
theorem dL_counters_88 : decode cL_counters 88 = .ok (.ifCond .ge 8, 3) := by decide +kernel
theorem dL_counters_91 : decode cL_counters 91 = .ok (.iload 7, 2) := by decide +kernel
theorem dL_counters_93 : decode cL_counters 93 = .ok (.goto 4, 3) := by decide +kernel
theorem dL_counters_96 : decode cL_counters 96 = .ok (.iconst 0, 1) := by decide +kernel
theorem dL_counters_97 : decode cL_counters 97 = .ok (.iadd, 1) := by decide +kernel
theorem dL_counters_98 : decode cL_counters 98 = .ok (.istore_n 3, 1) := by decide +kernel
theorem dL_counters_99 : decode cL_counters 99 = .ok (.iload 4, 2) := by decide +kernel
theorem dL_counters_101 : decode cL_counters 101 = .ok (.iload 7, 2) := by decide +kernel
theorem dL_counters_103 : decode cL_counters 103 = .ok (.ifCond .le 8, 3) := by decide +kernel
theorem dL_counters_106 : decode cL_counters 106 = .ok (.iload 7, 2) := by decide +kernel
theorem dL_counters_108 : decode cL_counters 108 = .ok (.goto 4, 3) := by decide +kernel
theorem dL_counters_111 : decode cL_counters 111 = .ok (.iconst 0, 1) := by decide +kernel
theorem dL_counters_112 : decode cL_counters 112 = .ok (.iadd, 1) := by decide +kernel
theorem dL_counters_113 : decode cL_counters 113 = .ok (.istore 4, 2) := by decide +kernel
theorem dL_counters_115 : decode cL_counters 115 = .ok (.iload 5, 2) := by decide +kernel
theorem dL_counters_117 : decode cL_counters 117 = .ok (.iload 7, 2) := by decide +kernel
theorem dL_counters_119 : decode cL_counters 119 = .ok (.ifCond .ne 7, 3) := by decide +kernel
theorem dL_counters_122 : decode cL_counters 122 = .ok (.iconst 0, 1) := by decide +kernel
theorem dL_counters_123 : decode cL_counters 123 = .ok (.goto 4, 3) := by decide +kernel
theorem dL_counters_126 : decode cL_counters 126 = .ok (.iconst 1, 1) := by decide +kernel
theorem dL_counters_127 : decode cL_counters 127 = .ok (.iadd, 1) := by decide +kernel
theorem dL_counters_128 : decode cL_counters 128 = .ok (.istore 5, 2) := by decide +kernel
theorem dL_counters_130 : decode cL_counters 130 = .ok (.iinc 6 1, 3) := by decide +kernel
theorem dL_counters_133 : decode cL_counters 133 = .ok (.goto (-104), 3) := by decide +kernel
theorem dL_counters_136 : decode cL_counters 136 = .ok (.aload_n 0, 1) := by decide +kernel
theorem dL_counters_137 : decode cL_counters 137 = .ok (.iload_n 2, 1) := by decide +kernel
theorem dL_counters_138 : decode cL_counters 138 = .ok (.iconst 3, 1) := by decide +kernel
theorem dL_counters_139 : decode cL_counters 139 = .ok (.invokevirtual 34, 3) := by decide +kernel
theorem dL_counters_142 : decode cL_counters 142 = .ok (.iload_n 3, 1) := by decide +kernel
theorem dL_counters_143 : decode cL_counters 143 = .ok (.if_icmp .ne 66, 3) := by decide +kernel
theorem dL_counters_146 : decode cL_counters 146 = .ok (.aload_n 0, 1) := by decide +kernel
theorem dL_counters_147 : decode cL_counters 147 = .ok (.iload_n 2, 1) := by decide +kernel
theorem dL_counters_148 : decode cL_counters 148 = .ok (.iconst 4, 1) := by decide +kernel
theorem dL_counters_149 : decode cL_counters 149 = .ok (.invokevirtual 34, 3) := by decide +kernel
theorem dL_counters_152 : decode cL_counters 152 = .ok (.iload 4, 2) := by decide +kernel
theorem dL_counters_154 : decode cL_counters 154 = .ok (.if_icmp .ne 55, 3) := by decide +kernel
theorem dL_counters_157 : decode cL_counters 157 = .ok (.aload_n 0, 1) := by decide +kernel
theorem dL_counters_158 : decode cL_counters 158 = .ok (.iload_n 2, 1) := by decide +kernel
theorem dL_counters_159 : decode cL_counters 159 = .ok (.iconst 5, 1) := by decide +kernel
theorem dL_counters_160 : decode cL_counters 160 = .ok (.invokevirtual 34, 3) := by decide +kernel
theorem dL_counters_163 : decode cL_counters 163 = .ok (.iload 5, 2) := by decide +kernel
theorem dL_counters_165 : decode cL_counters 165 = .ok (.if_icmp .ne 44, 3) := by decide +kernel
theorem dL_counters_168 : decode cL_counters 168 = .ok (.aload_n 0, 1) := by decide +kernel
theorem dL_counters_169 : decode cL_counters 169 = .ok (.iload_n 2, 1) := by decide +kernel
theorem dL_counters_170 : decode cL_counters 170 = .ok (.bipush 7, 2) := by decide +kernel
theorem dL_counters_172 : decode cL_counters 172 = .ok (.invokevirtual 34, 3) := by decide +kernel
theorem dL_counters_175 : decode cL_counters 175 = .ok (.iload_n 3, 1) := by decide +kernel
theorem dL_counters_176 : decode cL_counters 176 = .ok (.aload_n 0, 1) := by decide +kernel
theorem dL_counters_177 : decode cL_counters 177 = .ok (.iload_n 2, 1) := by decide +kernel
theorem dL_counters_178 : decode cL_counters 178 = .ok (.iconst 1, 1) := by decide +kernel
theorem dL_counters_179 : decode cL_counters 179 = .ok (.invokevirtual 34, 3) := by decide +kernel
theorem dL_counters_182 : decode cL_counters 182 = .ok (.isub, 1) := by decide +kernel
theorem dL_counters_183 : decode cL_counters 183 = .ok (.if_icmp .ne 26, 3) := by decide +kernel
theorem dL_counters_186 : decode cL_counters 186 = .ok (.aload_n 0, 1) := by decide +kernel
theorem dL_counters_187 : decode cL_counters 187 = .ok (.iload_n 2, 1) := by decide +kernel
theorem dL_counters_188 : decode cL_counters 188 = .ok (.bipush 8, 2) := by decide +kernel
theorem dL_counters_190 : decode cL_counters 190 = .ok (.invokevirtual 34, 3) := by decide +kernel
theorem dL_counters_193 : decode cL_counters 193 = .ok (.aload_n 0, 1) := by decide +kernel
theorem dL_counters_194 : decode cL_counters 194 = .ok (.iload_n 2, 1) := by decide +kernel
theorem dL_counters_195 : decode cL_counters 195 = .ok (.iconst 2, 1) := by decide +kernel
theorem dL_counters_196 : decode cL_counters 196 = .ok (.invokevirtual 34, 3) := by decide +kernel
theorem dL_counters_199 : decode cL_counters 199 = .ok (.iload 4, 2) := by decide +kernel
theorem dL_counters_201 : decode cL_counters 201 = .ok (.isub, 1) := by decide +kernel
theorem dL_counters_202 : decode cL_counters 202 = .ok (.if_icmp .ne 7, 3) := by decide +kernel
theorem dL_counters_205 : decode cL_counters 205 = .ok (.iconst 1, 1) := by decide +kernel
theorem dL_counters_206 : decode cL_counters 206 = .ok (.goto 4, 3) := by decide +kernel
theorem dL_counters_209 : decode cL_counters 209 = .ok (.iconst 0, 1) := by decide +kernel
theorem dL_counters_210 : decode cL_counters 210 = .ok (.istore_n 1, 1) := by decide +kernel
theorem dL_counters_211 : decode cL_counters 211 = .ok (.iload_n 1, 1) := by decide +kernel
theorem dL_counters_212 : decode cL_counters 212 = .ok (.ifCond .eq 84, 3) := by decide +kernel
theorem dL_counters_215 : decode cL_counters 215 = .ok (.aload_n 0, 1) := by decide +kernel
theorem dL_counters_216 : decode cL_counters 216 = .ok (.iload_n 2, 1) := by decide +kernel
theorem dL_counters_217 : decode cL_counters 217 = .ok (.bipush 7, 2) := by decide +kernel
theorem dL_counters_219 : decode cL_counters 219 = .ok (.invokevirtual 34, 3) := by decide +kernel
theorem dL_counters_222 : decode cL_counters 222 = .ok (.ifCond .lt 74, 3) := by decide +kernel
theorem dL_counters_225 : decode cL_counters 225 = .ok (.aload_n 0, 1) := by decide +kernel
theorem dL_counters_226 : decode cL_counters 226 = .ok (.iload_n 2, 1) := by decide +kernel
theorem dL_counters_227 : decode cL_counters 227 = .ok (.bipush 8, 2) := by decide +kernel
theorem dL_counters_229 : decode cL_counters 229 = .ok (.invokevirtual 34, 3) := by decide +kernel
theorem dL_counters_232 : decode cL_counters 232 = .ok (.ifCond .lt 64, 3) := by decide +kernel
theorem dL_counters_235 : decode cL_counters 235 = .ok (.aload_n 0, 1) := by decide +kernel
theorem dL_counters_236 : decode cL_counters 236 = .ok (.iload_n 2, 1) := by decide +kernel
theorem dL_counters_237 : decode cL_counters 237 = .ok (.bipush 9, 2) := by decide +kernel
theorem dL_counters_239 : decode cL_counters 239 = .ok (.invokevirtual 34, 3) := by decide +kernel
theorem dL_counters_242 : decode cL_counters 242 = .ok (.iconst 1, 1) := by decide +kernel
theorem dL_counters_243 : decode cL_counters 243 = .ok (.if_icmp .lt 53, 3) := by decide +kernel
theorem dL_counters_246 : decode cL_counters 246 = .ok (.aload_n 0, 1) := by decide +kernel
theorem dL_counters_247 : decode cL_counters 247 = .ok (.iload_n 2, 1) := by decide +kernel
theorem dL_counters_248 : decode cL_counters 248 = .ok (.bipush 9, 2) := by decide +kernel
theorem dL_counters_250 : decode cL_counters 250 = .ok (.invokevirtual 34, 3) := by decide +kernel
theorem dL_counters_253 : decode cL_counters 253 = .ok (.iconst 1, 1) := by decide +kernel
theorem dL_counters_254 : decode cL_counters 254 = .ok (.iload 5, 2) := by decide +kernel
theorem dL_counters_256 : decode cL_counters 256 = .ok (.ishl, 1) := by decide +kernel
theorem dL_counters_257 : decode cL_counters 257 = .ok (.if_icmp .gt 39, 3) := by decide +kernel
theorem dL_counters_260 : decode cL_counters 260 = .ok (.aload_n 0, 1) := by decide +kernel
theorem dL_counters_261 : decode cL_counters 261 = .ok (.iload_n 2, 1) := by decide +kernel
theorem dL_counters_262 : decode cL_counters 262 = .ok (.bipush 9, 2) := by decide +kernel
theorem dL_counters_264 : decode cL_counters 264 = .ok (.invokevirtual 34, 3) := by decide +kernel
theorem dL_counters_267 : decode cL_counters 267 = .ok (.iload 4, 2) := by decide +kernel
theorem dL_counters_269 : decode cL_counters 269 = .ok (.iload_n 3, 1) := by decide +kernel
theorem dL_counters_270 : decode cL_counters 270 = .ok (.isub, 1) := by decide +kernel
theorem dL_counters_271 : decode cL_counters 271 = .ok (.iconst 1, 1) := by decide +kernel
theorem dL_counters_272 : decode cL_counters 272 = .ok (.iadd, 1) := by decide +kernel
theorem dL_counters_273 : decode cL_counters 273 = .ok (.if_icmp .gt 23, 3) := by decide +kernel
theorem dL_counters_276 : decode cL_counters 276 = .ok (.iload 5, 2) := by decide +kernel
theorem dL_counters_278 : decode cL_counters 278 = .ok (.ifCond .eq 14, 3) := by decide +kernel
theorem dL_counters_281 : decode cL_counters 281 = .ok (.aload_n 0, 1) := by decide +kernel
theorem dL_counters_282 : decode cL_counters 282 = .ok (.iload_n 2, 1) := by decide +kernel
theorem dL_counters_283 : decode cL_counters 283 = .ok (.bipush 9, 2) := by decide +kernel
theorem dL_counters_285 : decode cL_counters 285 = .ok (.invokevirtual 34, 3) := by decide +kernel
theorem dL_counters_288 : decode cL_counters 288 = .ok (.iconst 1, 1) := by decide +kernel
theorem dL_counters_289 : decode cL_counters 289 = .ok (.if_icmp .le 7, 3) := by decide +kernel
theorem dL_counters_292 : decode cL_counters 292 = .ok (.iconst 1, 1) := by decide +kernel
theorem dL_counters_293 : decode cL_counters 293 = .ok (.goto 4, 3) := by decide +kernel
theorem dL_counters_296 : decode cL_counters 296 = .ok (.iconst 0, 1) := by decide +kernel
theorem dL_counters_297 : decode cL_counters 297 = .ok (.istore_n 1, 1) := by decide +kernel
theorem dL_counters_298 : decode cL_counters 298 = .ok (.iload_n 1, 1) := by decide +kernel
theorem dL_counters_299 : decode cL_counters 299 = .ok (.ifCond .eq 68, 3) := by decide +kernel
theorem dL_counters_302 : decode cL_counters 302 = .ok (.aload_n 0, 1) := by decide +kernel
theorem dL_counters_303 : decode cL_counters 303 = .ok (.iload_n 2, 1) := by decide +kernel
theorem dL_counters_304 : decode cL_counters 304 = .ok (.iload_n 3, 1) := by decide +kernel
theorem dL_counters_305 : decode cL_counters 305 = .ok (.invokevirtual 44, 3) := by decide +kernel
theorem dL_counters_308 : decode cL_counters 308 = .ok (.ifCond .lt 59, 3) := by decide +kernel
theorem dL_counters_311 : decode cL_counters 311 = .ok (.aload_n 0, 1) := by decide +kernel
theorem dL_counters_312 : decode cL_counters 312 = .ok (.iload_n 2, 1) := by decide +kernel
theorem dL_counters_313 : decode cL_counters 313 = .ok (.iload 4, 2) := by decide +kernel
theorem dL_counters_315 : decode cL_counters 315 = .ok (.invokevirtual 44, 3) := by decide +kernel
theorem dL_counters_318 : decode cL_counters 318 = .ok (.ifCond .lt 49, 3) := by decide +kernel
theorem dL_counters_321 : decode cL_counters 321 = .ok (.aload_n 0, 1) := by decide +kernel
theorem dL_counters_322 : decode cL_counters 322 = .ok (.iload_n 2, 1) := by decide +kernel
theorem dL_counters_323 : decode cL_counters 323 = .ok (.iload_n 3, 1) := by decide +kernel
theorem dL_counters_324 : decode cL_counters 324 = .ok (.invokevirtual 44, 3) := by decide +kernel
theorem dL_counters_327 : decode cL_counters 327 = .ok (.aload_n 0, 1) := by decide +kernel
theorem dL_counters_328 : decode cL_counters 328 = .ok (.iload_n 2, 1) := by decide +kernel
theorem dL_counters_329 : decode cL_counters 329 = .ok (.iload 4, 2) := by decide +kernel
theorem dL_counters_331 : decode cL_counters 331 = .ok (.invokevirtual 44, 3) := by decide +kernel
theorem dL_counters_334 : decode cL_counters 334 = .ok (.iadd, 1) := by decide +kernel
theorem dL_counters_335 : decode cL_counters 335 = .ok (.iload 5, 2) := by decide +kernel
theorem dL_counters_337 : decode cL_counters 337 = .ok (.if_icmp .gt 30, 3) := by decide +kernel
theorem dL_counters_340 : decode cL_counters 340 = .ok (.aload_n 0, 1) := by decide +kernel
theorem dL_counters_341 : decode cL_counters 341 = .ok (.iload_n 2, 1) := by decide +kernel
theorem dL_counters_342 : decode cL_counters 342 = .ok (.bipush 6, 2) := by decide +kernel
theorem dL_counters_344 : decode cL_counters 344 = .ok (.invokevirtual 34, 3) := by decide +kernel
theorem dL_counters_347 : decode cL_counters 347 = .ok (.iload_n 3, 1) := by decide +kernel
theorem dL_counters_348 : decode cL_counters 348 = .ok (.iload 4, 2) := by decide +kernel
theorem dL_counters_350 : decode cL_counters 350 = .ok (.iadd, 1) := by decide +kernel
theorem dL_counters_351 : decode cL_counters 351 = .ok (.iconst 2, 1) := by decide +kernel
theorem dL_counters_352 : decode cL_counters 352 = .ok (.aload_n 0, 1) := by decide +kernel
theorem dL_counters_353 : decode cL_counters 353 = .ok (.iload_n 2, 1) := by decide +kernel
theorem dL_counters_354 : decode cL_counters 354 = .ok (.iconst 0, 1) := by decide +kernel
theorem dL_counters_355 : decode cL_counters 355 = .ok (.invokevirtual 34, 3) := by decide +kernel
theorem dL_counters_358 : decode cL_counters 358 = .ok (.imul, 1) := by decide +kernel
theorem dL_counters_359 : decode cL_counters 359 = .ok (.isub, 1) := by decide +kernel
theorem dL_counters_360 : decode cL_counters 360 = .ok (.if_icmp .ne 7, 3) := by decide +kernel
theorem dL_counters_363 : decode cL_counters 363 = .ok (.iconst 1, 1) := by decide +kernel
theorem dL_counters_364 : decode cL_counters 364 = .ok (.goto 4, 3) := by decide +kernel
theorem dL_counters_367 : decode cL_counters 367 = .ok (.iconst 0, 1) := by decide +kernel
theorem dL_counters_368 : decode cL_counters 368 = .ok (.istore_n 1, 1) := by decide +kernel
theorem dL_counters_369 : decode cL_counters 369 = .ok (.iinc 2 1, 3) := by decide +kernel
theorem dL_counters_372 : decode cL_counters 372 = .ok (.goto (-368), 3) := by decide +kernel
theorem dL_counters_375 : decode cL_counters 375 = .ok (.iload_n 1, 1) := by decide +kernel
theorem dL_counters_376 : decode cL_counters 376 = .ok (.ifCond .eq 25, 3) := by decide +kernel
theorem dL_counters_379 : decode cL_counters 379 = .ok (.aload_n 0, 1) := by decide +kernel
theorem dL_counters_380 : decode cL_counters 380 = .ok (.invokevirtual 47, 3) := by decide +kernel
theorem dL_counters_383 : decode cL_counters 383 = .ok (.dconst 0, 1) := by decide +kernel
theorem dL_counters_384 : decode cL_counters 384 = .ok (.dcmp .l, 1) := by decide +kernel
theorem dL_counters_385 : decode cL_counters 385 = .ok (.ifCond .lt 16, 3) := by decide +kernel
theorem dL_counters_388 : decode cL_counters 388 = .ok (.aload_n 0, 1) := by decide +kernel
theorem dL_counters_389 : decode cL_counters 389 = .ok (.invokevirtual 47, 3) := by decide +kernel
theorem dL_counters_392 : decode cL_counters 392 = .ok (.dconst 1, 1) := by decide +kernel
theorem dL_counters_393 : decode cL_counters 393 = .ok (.dcmp .g, 1) := by decide +kernel
theorem dL_counters_394 : decode cL_counters 394 = .ok (.ifCond .gt 7, 3) := by decide +kernel
theorem dL_counters_397 : decode cL_counters 397 = .ok (.iconst 1, 1) := by decide +kernel
theorem dL_counters_398 : decode cL_counters 398 = .ok (.goto 4, 3) := by decide +kernel
theorem dL_counters_401 : decode cL_counters 401 = .ok (.iconst 0, 1) := by decide +kernel
theorem dL_counters_402 : decode cL_counters 402 = .ok (.ireturn, 1) := by decide +kernel
set_option maxRecDepth 20000 in
theorem ggL_promises_X4_count : GoodIn wsL_promises wsX4_count := goodIn_ca (goodIn_r _ [5, 6, 7, 8, 9, 10, 11, 12, 13, 14, 15, 16, 17, 4, 18, 19, 20, 21, 22, 23, 24, 25, 26, 27, 28, 29, 30, 31, 32, 33, 34, 35, 68, 69, 70, 71, 72, 73, 74, 75, 76, 77, 78, 79, 80, 81, 82, 83, 84, 85, 86, 87, 88, 89, 90] (by decide +kernel) (by decide +kernel)) (goodIn_sub (fun _ h => List.mem_cons_of_mem _ (List.mem_append_left _ (List.mem_append_right _ h))) (by decide +kernel))
set_option maxRecDepth 20000 in
theorem gL_promises_X4_count : GoodIn wsL_promises (wsV RL 37 RX4 yX4_count wsX4_count) := goodIn_app (goodIn_of _ (by decide +kernel)) ggL_promises_X4_count
set_option maxRecDepth 20000 in
theorem ggL_promises_X4_promiseOf : GoodIn wsL_promises wsX4_promiseOf := goodIn_ca (goodIn_ca (goodIn_r _ [39, 6, 8, 40, 41, 42, 43, 44, 7, 45, 46, 4, 47, 48, 49, 16, 17, 18, 19, 20, 68, 69, 70, 71, 72, 73, 74, 75, 76, 77, 78, 79, 80, 81, 82, 83, 84, 85, 86, 87, 88] (by decide +kernel) (by decide +kernel)) (goodIn_sub (fun _ h => List.mem_cons_of_mem _ (List.mem_append_right _ h)) (by decide +kernel))) (goodIn_sub (fun _ h => List.mem_cons_of_mem _ (List.mem_append_left _ (List.mem_append_right _ h))) (by decide +kernel))
set_option maxRecDepth 20000 in
theorem gL_promises_X4_promiseOf : GoodIn wsL_promises (wsV RL 41 RX4 yX4_promiseOf wsX4_promiseOf) := goodIn_app (goodIn_of _ (by decide +kernel)) ggL_promises_X4_promiseOf
set_option maxRecDepth 20000 in
theorem ggL_promises_X4_owner : GoodIn wsL_promises wsX4_owner := goodIn_ca (goodIn_ca (goodIn_r _ [53, 6, 10, 11, 12, 45, 46, 4, 47, 48, 49, 16, 17, 18, 19, 20, 54, 55, 56, 24, 57, 26, 58, 59, 60, 61, 62, 63, 64, 65, 66, 67, 68, 69, 70, 71, 72, 73, 74, 75, 76, 77, 78, 79, 80, 81, 82, 83, 84, 85, 86, 87, 88] (by decide +kernel) (by decide +kernel)) (goodIn_sub (fun _ h => List.mem_cons_of_mem _ (List.mem_append_right _ h)) (by decide +kernel))) (goodIn_sub (fun _ h => List.mem_cons_of_mem _ (List.mem_append_left _ (List.mem_append_right _ h))) (by decide +kernel))
set_option maxRecDepth 20000 in
theorem gL_promises_X4_owner : GoodIn wsL_promises (wsV RL 51 RX4 yX4_owner wsX4_owner) := goodIn_app (goodIn_of _ (by decide +kernel)) ggL_promises_X4_owner
theorem dL_promises_0 : decode cL_promises 0 = .ok (.aload_n 0, 1) := by decide +kernel
theorem dL_promises_1 : decode cL_promises 1 = .ok (.iconst 1, 1) := by decide +kernel
theorem dL_promises_2 : decode cL_promises 2 = .ok (.invokevirtual 37, 3) := by decide +kernel
theorem dL_promises_5 : decode cL_promises 5 = .ok (.istore_n 1, 1) := by decide +kernel
theorem dL_promises_6 : decode cL_promises 6 = .ok (.iconst 0, 1) := by decide +kernel
theorem dL_promises_7 : decode cL_promises 7 = .ok (.istore_n 2, 1) := by decide +kernel
theorem dL_promises_8 : decode cL_promises 8 = .ok (.iconst (-1), 1) := by decide +kernel
theorem dL_promises_9 : decode cL_promises 9 = .ok (.istore_n 3, 1) := by decide +kernel
theorem dL_promises_10 : decode cL_promises 10 = .ok (.iload_n 1, 1) := by decide +kernel
theorem dL_promises_11 : decode cL_promises 11 = .ok (.bipush 16, 2) := by decide +kernel
theorem dL_promises_13 : decode cL_promises 13 = .ok (.if_icmp .gt 35, 3) := by decide +kernel
theorem dL_promises_16 : decode cL_promises 16 = .ok (.aload_n 0, 1) := by decide +kernel
theorem dL_promises_17 : decode cL_promises 17 = .ok (.iconst 3, 1) := by decide +kernel
theorem dL_promises_18 : decode cL_promises 18 = .ok (.invokevirtual 37, 3) := by decide +kernel
theorem dL_promises_21 : decode cL_promises 21 = .ok (.iload_n 1, 1) := by decide +kernel
theorem dL_promises_22 : decode cL_promises 22 = .ok (.aload_n 0, 1) := by decide +kernel
theorem dL_promises_23 : decode cL_promises 23 = .ok (.iconst 4, 1) := by decide +kernel
theorem dL_promises_24 : decode cL_promises 24 = .ok (.invokevirtual 37, 3) := by decide +kernel
theorem dL_promises_27 : decode cL_promises 27 = .ok (.iadd, 1) := by decide +kernel
theorem dL_promises_28 : decode cL_promises 28 = .ok (.aload_n 0, 1) := by decide +kernel
theorem dL_promises_29 : decode cL_promises 29 = .ok (.iconst 5, 1) := by decide +kernel
theorem dL_promises_30 : decode cL_promises 30 = .ok (.invokevirtual 37, 3) := by decide +kernel
theorem dL_promises_33 : decode cL_promises 33 = .ok (.iadd, 1) := by decide +kernel
theorem dL_promises_34 : decode cL_promises 34 = .ok (.aload_n 0, 1) := by decide +kernel
theorem dL_promises_35 : decode cL_promises 35 = .ok (.bipush 6, 2) := by decide +kernel
theorem dL_promises_37 : decode cL_promises 37 = .ok (.invokevirtual 37, 3) := by decide +kernel
theorem dL_promises_40 : decode cL_promises 40 = .ok (.iadd, 1) := by decide +kernel
theorem dL_promises_41 : decode cL_promises 41 = .ok (.if_icmp .ne 7, 3) := by decide +kernel
theorem dL_promises_44 : decode cL_promises 44 = .ok (.iconst 1, 1) := by decide +kernel
theorem dL_promises_45 : decode cL_promises 45 = .ok (.goto 4, 3) := by decide +kernel
theorem dL_promises_48 : decode cL_promises 48 = .ok (.iconst 0, 1) := by decide +kernel
theorem dL_promises_49 : decode cL_promises 49 = .ok (.istore 4, 2) := by decide +kernel
theorem dL_promises_51 : decode cL_promises 51 = .ok (.iconst 0, 1) := by decide +kernel
theorem dL_promises_52 : decode cL_promises 52 = .ok (.istore 5, 2) := by decide +kernel
theorem dL_promises_54 : decode cL_promises 54 = .ok (.iload 5, 2) := by decide +kernel
theorem dL_promises_56 : decode cL_promises 56 = .ok (.iload_n 1, 1) := by decide +kernel
theorem dL_promises_57 : decode cL_promises 57 = .ok (.if_icmp .ge 143, 3) := by decide +kernel
theorem dL_promises_60 : decode cL_promises 60 = .ok (.iload 4, 2) := by decide +kernel
theorem dL_promises_62 : decode cL_promises 62 = .ok (.ifCond .eq 138, 3) := by decide +kernel
theorem dL_promises_65 : decode cL_promises 65 = .ok (.aload_n 0, 1) := by decide +kernel
theorem dL_promises_66 : decode cL_promises 66 = .ok (.iload 5, 2) := by decide +kernel
theorem dL_promises_68 : decode cL_promises 68 = .ok (.iconst 4, 1) := by decide +kernel
theorem dL_promises_69 : decode cL_promises 69 = .ok (.invokevirtual 41, 3) := by decide +kernel
theorem dL_promises_72 : decode cL_promises 72 = .ok (.istore 6, 2) := by decide +kernel
theorem dL_promises_74 : decode cL_promises 74 = .ok (.iload 6, 2) := by decide +kernel
theorem dL_promises_76 : decode cL_promises 76 = .ok (.aload_n 0, 1) := by decide +kernel
theorem dL_promises_77 : decode cL_promises 77 = .ok (.iconst 0, 1) := by decide +kernel
theorem dL_promises_78 : decode cL_promises 78 = .ok (.invokevirtual 37, 3) := by decide +kernel
theorem dL_promises_81 : decode cL_promises 81 = .ok (.if_icmp .le 73, 3) := by decide +kernel
theorem dL_promises_84 : decode cL_promises 84 = .ok (.aload_n 0, 1) := by decide +kernel
theorem dL_promises_85 : decode cL_promises 85 = .ok (.iload 5, 2) := by decide +kernel
theorem dL_promises_87 : decode cL_promises 87 = .ok (.iconst 5, 1) := by decide +kernel
theorem dL_promises_88 : decode cL_promises 88 = .ok (.invokevirtual 41, 3) := by decide +kernel
theorem dL_promises_91 : decode cL_promises 91 = .ok (.iload 6, 2) := by decide +kernel
theorem dL_promises_93 : decode cL_promises 93 = .ok (.aload_n 0, 1) := by decide +kernel
theorem dL_promises_94 : decode cL_promises 94 = .ok (.iconst 0, 1) := by decide +kernel
theorem dL_promises_95 : decode cL_promises 95 = .ok (.invokevirtual 37, 3) := by decide +kernel
theorem dL_promises_98 : decode cL_promises 98 = .ok (.isub, 1) := by decide +kernel
theorem dL_promises_99 : decode cL_promises 99 = .ok (.if_icmp .ne 55, 3) := by decide +kernel
theorem dL_promises_102 : decode cL_promises 102 = .ok (.aload_n 0, 1) := by decide +kernel
theorem dL_promises_103 : decode cL_promises 103 = .ok (.iload 5, 2) := by decide +kernel
theorem dL_promises_105 : decode cL_promises 105 = .ok (.iconst 2, 1) := by decide +kernel
theorem dL_promises_106 : decode cL_promises 106 = .ok (.invokevirtual 41, 3) := by decide +kernel
theorem dL_promises_109 : decode cL_promises 109 = .ok (.ifCond .eq 45, 3) := by decide +kernel
theorem dL_promises_112 : decode cL_promises 112 = .ok (.aload_n 0, 1) := by decide +kernel
theorem dL_promises_113 : decode cL_promises 113 = .ok (.iload 5, 2) := by decide +kernel
theorem dL_promises_115 : decode cL_promises 115 = .ok (.iconst 1, 1) := by decide +kernel
theorem dL_promises_116 : decode cL_promises 116 = .ok (.invokevirtual 41, 3) := by decide +kernel
theorem dL_promises_119 : decode cL_promises 119 = .ok (.aload_n 0, 1) := by decide +kernel
theorem dL_promises_120 : decode cL_promises 120 = .ok (.iload 5, 2) := by decide +kernel
theorem dL_promises_122 : decode cL_promises 122 = .ok (.iconst 3, 1) := by decide +kernel
theorem dL_promises_123 : decode cL_promises 123 = .ok (.invokevirtual 41, 3) := by decide +kernel
theorem dL_promises_126 : decode cL_promises 126 = .ok (.if_icmp .eq 28, 3) := by decide +kernel
theorem dL_promises_129 : decode cL_promises 129 = .ok (.aload_n 0, 1) := by decide +kernel
theorem dL_promises_130 : decode cL_promises 130 = .ok (.iload 5, 2) := by decide +kernel
theorem dL_promises_132 : decode cL_promises 132 = .ok (.iconst 3, 1) := by decide +kernel
theorem dL_promises_133 : decode cL_promises 133 = .ok (.invokevirtual 41, 3) := by decide +kernel
theorem dL_promises_136 : decode cL_promises 136 = .ok (.iconst (-1), 1) := by decide +kernel
theorem dL_promises_137 : decode cL_promises 137 = .ok (.if_icmp .eq 13, 3) := by decide +kernel
theorem dL_promises_140 : decode cL_promises 140 = .ok (.aload_n 0, 1) := by decide +kernel
theorem dL_promises_141 : decode cL_promises 141 = .ok (.iload 5, 2) := by decide +kernel
theorem dL_promises_143 : decode cL_promises 143 = .ok (.iconst 2, 1) := by decide +kernel
theorem dL_promises_144 : decode cL_promises 144 = .ok (.invokevirtual 41, 3) := by decide +kernel
theorem dL_promises_147 : decode cL_promises 147 = .ok (.ifCond .ge 7, 3) := by decide +kernel
theorem dL_promises_150 : decode cL_promises 150 = .ok (.iconst 1, 1) := by decide +kernel
theorem dL_promises_151 : decode cL_promises 151 = .ok (.goto 4, 3) := by decide +kernel
theorem dL_promises_154 : decode cL_promises 154 = .ok (.iconst 0, 1) := by decide +kernel
theorem dL_promises_155 : decode cL_promises 155 = .ok (.istore 4, 2) := by decide +kernel
theorem dL_promises_157 : decode cL_promises 157 = .ok (.iload_n 2, 1) := by decide +kernel
theorem dL_promises_158 : decode cL_promises 158 = .ok (.aload_n 0, 1) := by decide +kernel
theorem dL_promises_159 : decode cL_promises 159 = .ok (.iload 5, 2) := by decide +kernel
theorem dL_promises_161 : decode cL_promises 161 = .ok (.iconst 3, 1) := by decide +kernel
theorem dL_promises_162 : decode cL_promises 162 = .ok (.invokevirtual 41, 3) := by decide +kernel
theorem dL_promises_165 : decode cL_promises 165 = .ok (.iconst (-1), 1) := by decide +kernel
theorem dL_promises_166 : decode cL_promises 166 = .ok (.if_icmp .ne 7, 3) := by decide +kernel
theorem dL_promises_169 : decode cL_promises 169 = .ok (.iconst 0, 1) := by decide +kernel
theorem dL_promises_170 : decode cL_promises 170 = .ok (.goto 4, 3) := by decide +kernel
theorem dL_promises_173 : decode cL_promises 173 = .ok (.iconst 1, 1) := by decide +kernel
theorem dL_promises_174 : decode cL_promises 174 = .ok (.iadd, 1) := by decide +kernel
theorem dL_promises_175 : decode cL_promises 175 = .ok (.istore_n 2, 1) := by decide +kernel
theorem dL_promises_176 : decode cL_promises 176 = .ok (.iload_n 3, 1) := by decide +kernel
theorem dL_promises_177 : decode cL_promises 177 = .ok (.iconst (-1), 1) := by decide +kernel
theorem dL_promises_178 : decode cL_promises 178 = .ok (.if_icmp .eq 9, 3) := by decide +kernel
theorem dL_promises_181 : decode cL_promises 181 = .ok (.iload 6, 2) := by decide +kernel
theorem dL_promises_183 : decode cL_promises 183 = .ok (.iload_n 3, 1) := by decide +kernel
theorem dL_promises_184 : decode cL_promises 184 = .ok (.if_icmp .ge 8, 3) := by decide +kernel
theorem dL_promises_187 : decode cL_promises 187 = .ok (.iload 6, 2) := by decide +kernel
theorem dL_promises_189 : decode cL_promises 189 = .ok (.goto 4, 3) := by decide +kernel
theorem dL_promises_192 : decode cL_promises 192 = .ok (.iload_n 3, 1) := by decide +kernel
theorem dL_promises_193 : decode cL_promises 193 = .ok (.istore_n 3, 1) := by decide +kernel
theorem dL_promises_194 : decode cL_promises 194 = .ok (.iinc 5 1, 3) := by decide +kernel
theorem dL_promises_197 : decode cL_promises 197 = .ok (.goto (-143), 3) := by decide +kernel
theorem dL_promises_200 : decode cL_promises 200 = .ok (.iconst 0, 1) := by decide +kernel
theorem dL_promises_201 : decode cL_promises 201 = .ok (.istore 5, 2) := by decide +kernel
theorem dL_promises_203 : decode cL_promises 203 = .ok (.iconst 0, 1) := by decide +kernel
theorem dL_promises_204 : decode cL_promises 204 = .ok (.istore 6, 2) := by decide +kernel
theorem dL_promises_206 : decode cL_promises 206 = .ok (.iconst 0, 1) := by decide +kernel
theorem dL_promises_207 : decode cL_promises 207 = .ok (.istore 7, 2) := by decide +kernel
theorem dL_promises_209 : decode cL_promises 209 = .ok (.iconst 0, 1) := by decide +kernel
theorem dL_promises_210 : decode cL_promises 210 = .ok (.istore 8, 2) := by decide +kernel
theorem dL_promises_212 : decode cL_promises 212 = .ok (.iconst 0, 1) := by decide +kernel
theorem dL_promises_213 : decode cL_promises 213 = .ok (.istore 9, 2) := by decide +kernel
theorem dL_promises_215 : decode cL_promises 215 = .ok (.iload 9, 2) := by decide +kernel
theorem dL_promises_217 : decode cL_promises 217 = .ok (.bipush 6, 2) := by decide +kernel
theorem dL_promises_219 : decode cL_promises 219 = .ok (.if_icmp .ge 86, 3) := by decide +kernel
theorem dL_promises_222 : decode cL_promises 222 = .ok (.iload 5, 2) := by decide +kernel
theorem dL_promises_224 : decode cL_promises 224 = .ok (.aload_n 0, 1) := by decide +kernel
theorem dL_promises_225 : decode cL_promises 225 = .ok (.iload 9, 2) := by decide +kernel
theorem dL_promises_227 : decode cL_promises 227 = .ok (.iconst 0, 1) := by decide +kernel
theorem dL_promises_228 : decode cL_promises 228 = .ok (.invokevirtual 51, 3) := by decide +kernel
theorem dL_promises_231 : decode cL_promises 231 = .ok (.iadd, 1) := by decide +kernel
theorem dL_promises_232 : decode cL_promises 232 = .ok (.istore 5, 2) := by decide +kernel
theorem dL_promises_234 : decode cL_promises 234 = .ok (.iload 6, 2) := by decide +kernel
theorem dL_promises_236 : decode cL_promises 236 = .ok (.aload_n 0, 1) := by decide +kernel
theorem dL_promises_237 : decode cL_promises 237 = .ok (.iload 9, 2) := by decide +kernel
theorem dL_promises_239 : decode cL_promises 239 = .ok (.iconst 1, 1) := by decide +kernel
theorem dL_promises_240 : decode cL_promises 240 = .ok (.invokevirtual 51, 3) := by decide +kernel
theorem dL_promises_243 : decode cL_promises 243 = .ok (.iadd, 1) := by decide +kernel
theorem dL_promises_244 : decode cL_promises 244 = .ok (.istore 6, 2) := by decide +kernel
theorem dL_promises_246 : decode cL_promises 246 = .ok (.iload 7, 2) := by decide +kernel
theorem dL_promises_248 : decode cL_promises 248 = .ok (.aload_n 0, 1) := by decide +kernel
theorem dL_promises_249 : decode cL_promises 249 = .ok (.iload 9, 2) := by decide +kernel
theorem dL_promises_251 : decode cL_promises 251 = .ok (.iconst 2, 1) := by decide +kernel
theorem dL_promises_252 : decode cL_promises 252 = .ok (.invokevirtual 51, 3) := by decide +kernel
theorem dL_promises_255 : decode cL_promises 255 = .ok (.iadd, 1) := by decide +kernel
theorem dL_promises_256 : decode cL_promises 256 = .ok (.istore 7, 2) := by decide +kernel
theorem dL_promises_258 : decode cL_promises 258 = .ok (.iload 8, 2) := by decide +kernel
theorem dL_promises_260 : decode cL_promises 260 = .ok (.aload_n 0, 1) := by decide +kernel
theorem dL_promises_261 : decode cL_promises 261 = .ok (.iload 9, 2) := by decide +kernel
theorem dL_promises_263 : decode cL_promises 263 = .ok (.iconst 3, 1) := by decide +kernel
theorem dL_promises_264 : decode cL_promises 264 = .ok (.invokevirtual 51, 3) := by decide +kernel
theorem dL_promises_267 : decode cL_promises 267 = .ok (.iadd, 1) := by decide +kernel
theorem dL_promises_268 : decode cL_promises 268 = .ok (.istore 8, 2) := by decide +kernel
theorem dL_promises_270 : decode cL_promises 270 = .ok (.iload 4, 2) := by decide +kernel
theorem dL_promises_272 : decode cL_promises 272 = .ok (.ifCond .eq 24, 3) := by decide +kernel
theorem dL_promises_275 : decode cL_promises 275 = .ok (.aload_n 0, 1) := by decide +kernel
theorem dL_promises_276 : decode cL_promises 276 = .ok (.iload 9, 2) := by decide +kernel
theorem dL_promises_278 : decode cL_promises 278 = .ok (.iconst 4, 1) := by decide +kernel
theorem dL_promises_279 : decode cL_promises 279 = .ok (.invokevirtual 51, 3) := by decide +kernel
theorem dL_promises_282 : decode cL_promises 282 = .ok (.aload_n 0, 1) := by decide +kernel
theorem dL_promises_283 : decode cL_promises 283 = .ok (.iload 9, 2) := by decide +kernel
theorem dL_promises_285 : decode cL_promises 285 = .ok (.iconst 0, 1) := by decide +kernel
theorem dL_promises_286 : decode cL_promises 286 = .ok (.invokevirtual 51, 3) := by decide +kernel
theorem dL_promises_289 : decode cL_promises 289 = .ok (.if_icmp .lt 7, 3) := by decide +kernel
theorem dL_promises_292 : decode cL_promises 292 = .ok (.iconst 1, 1) := by decide +kernel
theorem dL_promises_293 : decode cL_promises 293 = .ok (.goto 4, 3) := by decide +kernel
theorem dL_promises_296 : decode cL_promises 296 = .ok (.iconst 0, 1) := by decide +kernel
theorem dL_promises_297 : decode cL_promises 297 = .ok (.istore 4, 2) := by decide +kernel
theorem dL_promises_299 : decode cL_promises 299 = .ok (.iinc 9 1, 3) := by decide +kernel
theorem dL_promises_302 : decode cL_promises 302 = .ok (.goto (-87), 3) := by decide +kernel
theorem dL_promises_305 : decode cL_promises 305 = .ok (.iload 4, 2) := by decide +kernel
theorem dL_promises_307 : decode cL_promises 307 = .ok (.ifCond .eq 63, 3) := by decide +kernel
theorem dL_promises_310 : decode cL_promises 310 = .ok (.iload 5, 2) := by decide +kernel
theorem dL_promises_312 : decode cL_promises 312 = .ok (.iload_n 1, 1) := by decide +kernel
theorem dL_promises_313 : decode cL_promises 313 = .ok (.if_icmp .ne 57, 3) := by decide +kernel
theorem dL_promises_316 : decode cL_promises 316 = .ok (.iload 6, 2) := by decide +kernel
theorem dL_promises_318 : decode cL_promises 318 = .ok (.aload_n 0, 1) := by decide +kernel
theorem dL_promises_319 : decode cL_promises 319 = .ok (.iconst 4, 1) := by decide +kernel
theorem dL_promises_320 : decode cL_promises 320 = .ok (.invokevirtual 37, 3) := by decide +kernel
theorem dL_promises_323 : decode cL_promises 323 = .ok (.if_icmp .ne 47, 3) := by decide +kernel
theorem dL_promises_326 : decode cL_promises 326 = .ok (.iload 7, 2) := by decide +kernel
theorem dL_promises_328 : decode cL_promises 328 = .ok (.aload_n 0, 1) := by decide +kernel
theorem dL_promises_329 : decode cL_promises 329 = .ok (.iconst 5, 1) := by decide +kernel
theorem dL_promises_330 : decode cL_promises 330 = .ok (.invokevirtual 37, 3) := by decide +kernel
theorem dL_promises_333 : decode cL_promises 333 = .ok (.if_icmp .ne 37, 3) := by decide +kernel
theorem dL_promises_336 : decode cL_promises 336 = .ok (.iload 8, 2) := by decide +kernel
theorem dL_promises_338 : decode cL_promises 338 = .ok (.aload_n 0, 1) := by decide +kernel
theorem dL_promises_339 : decode cL_promises 339 = .ok (.bipush 6, 2) := by decide +kernel
theorem dL_promises_341 : decode cL_promises 341 = .ok (.invokevirtual 37, 3) := by decide +kernel
theorem dL_promises_344 : decode cL_promises 344 = .ok (.if_icmp .ne 26, 3) := by decide +kernel
theorem dL_promises_347 : decode cL_promises 347 = .ok (.iload_n 2, 1) := by decide +kernel
theorem dL_promises_348 : decode cL_promises 348 = .ok (.aload_n 0, 1) := by decide +kernel
theorem dL_promises_349 : decode cL_promises 349 = .ok (.iconst 2, 1) := by decide +kernel
theorem dL_promises_350 : decode cL_promises 350 = .ok (.invokevirtual 37, 3) := by decide +kernel
theorem dL_promises_353 : decode cL_promises 353 = .ok (.if_icmp .ne 17, 3) := by decide +kernel
theorem dL_promises_356 : decode cL_promises 356 = .ok (.iload_n 3, 1) := by decide +kernel
theorem dL_promises_357 : decode cL_promises 357 = .ok (.aload_n 0, 1) := by decide +kernel
theorem dL_promises_358 : decode cL_promises 358 = .ok (.bipush 8, 2) := by decide +kernel
theorem dL_promises_360 : decode cL_promises 360 = .ok (.invokevirtual 37, 3) := by decide +kernel
theorem dL_promises_363 : decode cL_promises 363 = .ok (.if_icmp .ne 7, 3) := by decide +kernel
theorem dL_promises_366 : decode cL_promises 366 = .ok (.iconst 1, 1) := by decide +kernel
theorem dL_promises_367 : decode cL_promises 367 = .ok (.goto 4, 3) := by decide +kernel
theorem dL_promises_370 : decode cL_promises 370 = .ok (.iconst 0, 1) := by decide +kernel
theorem dL_promises_371 : decode cL_promises 371 = .ok (.ireturn, 1) := by decide +kernel
theorem dL_act_0 : decode cL_act 0 = .ok (.aload_n 1, 1) := by decide +kernel
theorem dL_act_1 : decode cL_act 1 = .ok (.iload_n 2, 1) := by decide +kernel
theorem dL_act_2 : decode cL_act 2 = .ok (.iconst 1, 1) := by decide +kernel
theorem dL_act_3 : decode cL_act 3 = .ok (.iadd, 1) := by decide +kernel
theorem dL_act_4 : decode cL_act 4 = .ok (.invokestatic 54, 3) := by decide +kernel
theorem dL_act_7 : decode cL_act 7 = .ok (.istore_n 3, 1) := by decide +kernel
theorem dL_act_8 : decode cL_act 8 = .ok (.aload_n 1, 1) := by decide +kernel
theorem dL_act_9 : decode cL_act 9 = .ok (.iload_n 2, 1) := by decide +kernel
theorem dL_act_10 : decode cL_act 10 = .ok (.iconst 2, 1) := by decide +kernel
theorem dL_act_11 : decode cL_act 11 = .ok (.iadd, 1) := by decide +kernel
theorem dL_act_12 : decode cL_act 12 = .ok (.invokestatic 54, 3) := by decide +kernel
theorem dL_act_15 : decode cL_act 15 = .ok (.istore 4, 2) := by decide +kernel
theorem dL_act_17 : decode cL_act 17 = .ok (.aload_n 1, 1) := by decide +kernel
theorem dL_act_18 : decode cL_act 18 = .ok (.iload_n 2, 1) := by decide +kernel
theorem dL_act_19 : decode cL_act 19 = .ok (.iconst 3, 1) := by decide +kernel
theorem dL_act_20 : decode cL_act 20 = .ok (.iadd, 1) := by decide +kernel
theorem dL_act_21 : decode cL_act 21 = .ok (.invokestatic 54, 3) := by decide +kernel
theorem dL_act_24 : decode cL_act 24 = .ok (.istore 5, 2) := by decide +kernel
theorem dL_act_26 : decode cL_act 26 = .ok (.aload_n 0, 1) := by decide +kernel
theorem dL_act_27 : decode cL_act 27 = .ok (.iconst 1, 1) := by decide +kernel
theorem dL_act_28 : decode cL_act 28 = .ok (.invokevirtual 37, 3) := by decide +kernel
theorem dL_act_31 : decode cL_act 31 = .ok (.istore 6, 2) := by decide +kernel
theorem dL_act_33 : decode cL_act 33 = .ok (.iload 6, 2) := by decide +kernel
theorem dL_act_35 : decode cL_act 35 = .ok (.ifCond .ne 7, 3) := by decide +kernel
theorem dL_act_38 : decode cL_act 38 = .ok (.iconst 0, 1) := by decide +kernel
theorem dL_act_39 : decode cL_act 39 = .ok (.goto 9, 3) := by decide +kernel
theorem dL_act_42 : decode cL_act 42 = .ok (.iload_n 3, 1) := by decide +kernel
theorem dL_act_43 : decode cL_act 43 = .ok (.iload 6, 2) := by decide +kernel
theorem dL_act_45 : decode cL_act 45 = .ok (.invokestatic 60, 3) := by decide +kernel
theorem dL_act_48 : decode cL_act 48 = .ok (.istore 7, 2) := by decide +kernel
theorem dL_act_50 : decode cL_act 50 = .ok (.iload 5, 2) := by decide +kernel
theorem dL_act_52 : decode cL_act 52 = .ok (.bipush 81, 2) := by decide +kernel
theorem dL_act_54 : decode cL_act 54 = .ok (.invokestatic 60, 3) := by decide +kernel
theorem dL_act_57 : decode cL_act 57 = .ok (.bipush 40, 2) := by decide +kernel
theorem dL_act_59 : decode cL_act 59 = .ok (.isub, 1) := by decide +kernel
theorem dL_act_60 : decode cL_act 60 = .ok (.istore 8, 2) := by decide +kernel
theorem dL_act_62 : decode cL_act 62 = .ok (.aload_n 1, 1) := by decide +kernel
theorem dL_act_63 : decode cL_act 63 = .ok (.iload_n 2, 1) := by decide +kernel
theorem dL_act_64 : decode cL_act 64 = .ok (.invokestatic 54, 3) := by decide +kernel
theorem dL_act_67 : decode cL_act 67 = .ok (.bipush 18, 2) := by decide +kernel
theorem dL_act_69 : decode cL_act 69 = .ok (.invokestatic 60, 3) := by decide +kernel
theorem dL_act_72 : decode cL_act 72 = .ok (.tableswitch 330 0 16 #[84, 84, 84, 84, 84, 112, 112, 112, 154, 154, 183, 209, 226, 254, 279, 306, 325], 84) := by decide +kernel
theorem dL_act_156 : decode cL_act 156 = .ok (.aload_n 0, 1) := by decide +kernel
theorem dL_act_157 : decode cL_act 157 = .ok (.iload_n 3, 1) := by decide +kernel
theorem dL_act_158 : decode cL_act 158 = .ok (.bipush 6, 2) := by decide +kernel
theorem dL_act_160 : decode cL_act 160 = .ok (.invokestatic 60, 3) := by decide +kernel
theorem dL_act_163 : decode cL_act 163 = .ok (.iload 4, 2) := by decide +kernel
theorem dL_act_165 : decode cL_act 165 = .ok (.iconst 4, 1) := by decide +kernel
theorem dL_act_166 : decode cL_act 166 = .ok (.invokestatic 60, 3) := by decide +kernel
theorem dL_act_169 : decode cL_act 169 = .ok (.iload 8, 2) := by decide +kernel
theorem dL_act_171 : decode cL_act 171 = .ok (.ifCond .ne 7, 3) := by decide +kernel
theorem dL_act_174 : decode cL_act 174 = .ok (.iconst 3, 1) := by decide +kernel
theorem dL_act_175 : decode cL_act 175 = .ok (.goto 5, 3) := by decide +kernel
theorem dL_act_178 : decode cL_act 178 = .ok (.iload 8, 2) := by decide +kernel
theorem dL_act_180 : decode cL_act 180 = .ok (.invokestatic 63, 3) := by decide +kernel
theorem dL_act_183 : decode cL_act 183 = .ok (.ireturn, 1) := by decide +kernel
theorem dL_act_184 : decode cL_act 184 = .ok (.aload_n 0, 1) := by decide +kernel
theorem dL_act_185 : decode cL_act 185 = .ok (.iload_n 3, 1) := by decide +kernel
theorem dL_act_186 : decode cL_act 186 = .ok (.bipush 6, 2) := by decide +kernel
theorem dL_act_188 : decode cL_act 188 = .ok (.invokestatic 60, 3) := by decide +kernel
theorem dL_act_191 : decode cL_act 191 = .ok (.iload 4, 2) := by decide +kernel
theorem dL_act_193 : decode cL_act 193 = .ok (.iconst 4, 1) := by decide +kernel
theorem dL_act_194 : decode cL_act 194 = .ok (.invokestatic 60, 3) := by decide +kernel
theorem dL_act_197 : decode cL_act 197 = .ok (.iload 4, 2) := by decide +kernel
theorem dL_act_199 : decode cL_act 199 = .ok (.iconst 4, 1) := by decide +kernel
theorem dL_act_200 : decode cL_act 200 = .ok (.invokestatic 60, 3) := by decide +kernel
theorem dL_act_203 : decode cL_act 203 = .ok (.iconst 1, 1) := by decide +kernel
theorem dL_act_204 : decode cL_act 204 = .ok (.iadd, 1) := by decide +kernel
theorem dL_act_205 : decode cL_act 205 = .ok (.iload_n 3, 1) := by decide +kernel
theorem dL_act_206 : decode cL_act 206 = .ok (.iconst 3, 1) := by decide +kernel
theorem dL_act_207 : decode cL_act 207 = .ok (.invokestatic 60, 3) := by decide +kernel
theorem dL_act_210 : decode cL_act 210 = .ok (.iadd, 1) := by decide +kernel
theorem dL_act_211 : decode cL_act 211 = .ok (.iconst 4, 1) := by decide +kernel
theorem dL_act_212 : decode cL_act 212 = .ok (.irem, 1) := by decide +kernel
theorem dL_act_213 : decode cL_act 213 = .ok (.iconst 1, 1) := by decide +kernel
theorem dL_act_214 : decode cL_act 214 = .ok (.iload 5, 2) := by decide +kernel
theorem dL_act_216 : decode cL_act 216 = .ok (.bipush 50, 2) := by decide +kernel
theorem dL_act_218 : decode cL_act 218 = .ok (.invokestatic 60, 3) := by decide +kernel
theorem dL_act_221 : decode cL_act 221 = .ok (.iadd, 1) := by decide +kernel
theorem dL_act_222 : decode cL_act 222 = .ok (.invokestatic 66, 3) := by decide +kernel
theorem dL_act_225 : decode cL_act 225 = .ok (.ireturn, 1) := by decide +kernel
theorem dL_act_226 : decode cL_act 226 = .ok (.iload 6, 2) := by decide +kernel
theorem dL_act_228 : decode cL_act 228 = .ok (.ifCond .ne 8, 3) := by decide +kernel
theorem dL_act_231 : decode cL_act 231 = .ok (.bipush (-3), 2) := by decide +kernel
theorem dL_act_233 : decode cL_act 233 = .ok (.goto 21, 3) := by decide +kernel
theorem dL_act_236 : decode cL_act 236 = .ok (.aload_n 0, 1) := by decide +kernel
theorem dL_act_237 : decode cL_act 237 = .ok (.iload 7, 2) := by decide +kernel
theorem dL_act_239 : decode cL_act 239 = .ok (.invokevirtual 69, 3) := by decide +kernel
theorem dL_act_242 : decode cL_act 242 = .ok (.sipush (-999), 3) := by decide +kernel
theorem dL_act_245 : decode cL_act 245 = .ok (.if_icmp .ge 8, 3) := by decide +kernel
theorem dL_act_248 : decode cL_act 248 = .ok (.bipush (-3), 2) := by decide +kernel
theorem dL_act_250 : decode cL_act 250 = .ok (.goto 4, 3) := by decide +kernel
theorem dL_act_253 : decode cL_act 253 = .ok (.iconst 0, 1) := by decide +kernel
theorem dL_act_254 : decode cL_act 254 = .ok (.ireturn, 1) := by decide +kernel
theorem dL_act_255 : decode cL_act 255 = .ok (.iload 6, 2) := by decide +kernel
theorem dL_act_257 : decode cL_act 257 = .ok (.ifCond .ne 8, 3) := by decide +kernel
theorem dL_act_260 : decode cL_act 260 = .ok (.bipush (-3), 2) := by decide +kernel
theorem dL_act_262 : decode cL_act 262 = .ok (.goto 18, 3) := by decide +kernel
theorem dL_act_265 : decode cL_act 265 = .ok (.aload_n 0, 1) := by decide +kernel
theorem dL_act_266 : decode cL_act 266 = .ok (.iload 7, 2) := by decide +kernel
theorem dL_act_268 : decode cL_act 268 = .ok (.iconst 1, 1) := by decide +kernel
theorem dL_act_269 : decode cL_act 269 = .ok (.iload 5, 2) := by decide +kernel
theorem dL_act_271 : decode cL_act 271 = .ok (.bipush 20, 2) := by decide +kernel
theorem dL_act_273 : decode cL_act 273 = .ok (.invokestatic 60, 3) := by decide +kernel
theorem dL_act_276 : decode cL_act 276 = .ok (.iadd, 1) := by decide +kernel
theorem dL_act_277 : decode cL_act 277 = .ok (.invokestatic 72, 3) := by decide +kernel
theorem dL_act_280 : decode cL_act 280 = .ok (.ireturn, 1) := by decide +kernel
theorem dL_act_281 : decode cL_act 281 = .ok (.iload 6, 2) := by decide +kernel
theorem dL_act_283 : decode cL_act 283 = .ok (.ifCond .ne 8, 3) := by decide +kernel
theorem dL_act_286 : decode cL_act 286 = .ok (.bipush (-3), 2) := by decide +kernel
theorem dL_act_288 : decode cL_act 288 = .ok (.goto 9, 3) := by decide +kernel
theorem dL_act_291 : decode cL_act 291 = .ok (.aload_n 0, 1) := by decide +kernel
theorem dL_act_292 : decode cL_act 292 = .ok (.iload 7, 2) := by decide +kernel
theorem dL_act_294 : decode cL_act 294 = .ok (.invokevirtual 76, 3) := by decide +kernel
theorem dL_act_297 : decode cL_act 297 = .ok (.ireturn, 1) := by decide +kernel
theorem dL_act_298 : decode cL_act 298 = .ok (.iload 6, 2) := by decide +kernel
theorem dL_act_300 : decode cL_act 300 = .ok (.ifCond .ne 8, 3) := by decide +kernel
theorem dL_act_303 : decode cL_act 303 = .ok (.bipush (-3), 2) := by decide +kernel
theorem dL_act_305 : decode cL_act 305 = .ok (.goto 20, 3) := by decide +kernel
theorem dL_act_308 : decode cL_act 308 = .ok (.aload_n 0, 1) := by decide +kernel
theorem dL_act_309 : decode cL_act 309 = .ok (.iload 7, 2) := by decide +kernel
theorem dL_act_311 : decode cL_act 311 = .ok (.invokevirtual 79, 3) := by decide +kernel
theorem dL_act_314 : decode cL_act 314 = .ok (.bipush (-99), 2) := by decide +kernel
theorem dL_act_316 : decode cL_act 316 = .ok (.if_icmp .ge 8, 3) := by decide +kernel
theorem dL_act_319 : decode cL_act 319 = .ok (.bipush (-3), 2) := by decide +kernel
theorem dL_act_321 : decode cL_act 321 = .ok (.goto 4, 3) := by decide +kernel
theorem dL_act_324 : decode cL_act 324 = .ok (.iconst 0, 1) := by decide +kernel
theorem dL_act_325 : decode cL_act 325 = .ok (.ireturn, 1) := by decide +kernel
theorem dL_act_326 : decode cL_act 326 = .ok (.aload_n 0, 1) := by decide +kernel
theorem dL_act_327 : decode cL_act 327 = .ok (.iload_n 3, 1) := by decide +kernel
theorem dL_act_328 : decode cL_act 328 = .ok (.bipush 6, 2) := by decide +kernel
theorem dL_act_330 : decode cL_act 330 = .ok (.invokestatic 60, 3) := by decide +kernel
theorem dL_act_333 : decode cL_act 333 = .ok (.iload 4, 2) := by decide +kernel
theorem dL_act_335 : decode cL_act 335 = .ok (.iconst 2, 1) := by decide +kernel
theorem dL_act_336 : decode cL_act 336 = .ok (.invokestatic 60, 3) := by decide +kernel
theorem dL_act_339 : decode cL_act 339 = .ok (.ifCond .ne 7, 3) := by decide +kernel
theorem dL_act_342 : decode cL_act 342 = .ok (.iconst 1, 1) := by decide +kernel
theorem dL_act_343 : decode cL_act 343 = .ok (.goto 4, 3) := by decide +kernel
theorem dL_act_346 : decode cL_act 346 = .ok (.iconst 0, 1) := by decide +kernel
theorem dL_act_347 : decode cL_act 347 = .ok (.invokevirtual 82, 3) := by decide +kernel
theorem dL_act_350 : decode cL_act 350 = .ok (.ireturn, 1) := by decide +kernel
theorem dL_act_351 : decode cL_act 351 = .ok (.aload_n 0, 1) := by decide +kernel
theorem dL_act_352 : decode cL_act 352 = .ok (.iload_n 3, 1) := by decide +kernel
theorem dL_act_353 : decode cL_act 353 = .ok (.iconst 4, 1) := by decide +kernel
theorem dL_act_354 : decode cL_act 354 = .ok (.invokestatic 60, 3) := by decide +kernel
theorem dL_act_357 : decode cL_act 357 = .ok (.iload 4, 2) := by decide +kernel
theorem dL_act_359 : decode cL_act 359 = .ok (.sipush 200, 3) := by decide +kernel
theorem dL_act_362 : decode cL_act 362 = .ok (.invokestatic 60, 3) := by decide +kernel
theorem dL_act_365 : decode cL_act 365 = .ok (.ineg, 1) := by decide +kernel
theorem dL_act_366 : decode cL_act 366 = .ok (.iload 5, 2) := by decide +kernel
theorem dL_act_368 : decode cL_act 368 = .ok (.sipush 200, 3) := by decide +kernel
theorem dL_act_371 : decode cL_act 371 = .ok (.invokestatic 60, 3) := by decide +kernel
theorem dL_act_374 : decode cL_act 374 = .ok (.invokestatic 86, 3) := by decide +kernel
theorem dL_act_377 : decode cL_act 377 = .ok (.ireturn, 1) := by decide +kernel
theorem dL_act_378 : decode cL_act 378 = .ok (.aload_n 0, 1) := by decide +kernel
theorem dL_act_379 : decode cL_act 379 = .ok (.iload_n 3, 1) := by decide +kernel
theorem dL_act_380 : decode cL_act 380 = .ok (.iconst 2, 1) := by decide +kernel
theorem dL_act_381 : decode cL_act 381 = .ok (.invokestatic 60, 3) := by decide +kernel
theorem dL_act_384 : decode cL_act 384 = .ok (.iconst 1, 1) := by decide +kernel
theorem dL_act_385 : decode cL_act 385 = .ok (.iload 4, 2) := by decide +kernel
theorem dL_act_387 : decode cL_act 387 = .ok (.bipush 16, 2) := by decide +kernel
theorem dL_act_389 : decode cL_act 389 = .ok (.invokestatic 60, 3) := by decide +kernel
theorem dL_act_392 : decode cL_act 392 = .ok (.iadd, 1) := by decide +kernel
theorem dL_act_393 : decode cL_act 393 = .ok (.invokevirtual 88, 3) := by decide +kernel
theorem dL_act_396 : decode cL_act 396 = .ok (.ireturn, 1) := by decide +kernel
theorem dL_act_397 : decode cL_act 397 = .ok (.aload_n 0, 1) := by decide +kernel
theorem dL_act_398 : decode cL_act 398 = .ok (.invokestatic 91, 3) := by decide +kernel
theorem dL_act_401 : decode cL_act 401 = .ok (.ireturn, 1) := by decide +kernel
theorem dL_act_402 : decode cL_act 402 = .ok (.aload_n 0, 1) := by decide +kernel
theorem dL_act_403 : decode cL_act 403 = .ok (.iconst 1, 1) := by decide +kernel
theorem dL_act_404 : decode cL_act 404 = .ok (.iload 4, 2) := by decide +kernel
theorem dL_act_406 : decode cL_act 406 = .ok (.bipush 8, 2) := by decide +kernel
theorem dL_act_408 : decode cL_act 408 = .ok (.invokestatic 60, 3) := by decide +kernel
theorem dL_act_411 : decode cL_act 411 = .ok (.iadd, 1) := by decide +kernel
theorem dL_act_412 : decode cL_act 412 = .ok (.invokevirtual 94, 3) := by decide +kernel
theorem dL_act_415 : decode cL_act 415 = .ok (.ireturn, 1) := by decide +kernel
theorem dL_law_0 : decode cL_law 0 = .ok (.new 10, 3) := by decide +kernel
theorem dL_law_3 : decode cL_law 3 = .ok (.dup, 1) := by decide +kernel
theorem dL_law_4 : decode cL_law 4 = .ok (.invokespecial 97, 3) := by decide +kernel
theorem dL_law_7 : decode cL_law 7 = .ok (.astore_n 1, 1) := by decide +kernel
theorem dL_law_8 : decode cL_law 8 = .ok (.iconst 1, 1) := by decide +kernel
theorem dL_law_9 : decode cL_law 9 = .ok (.istore_n 2, 1) := by decide +kernel
theorem dL_law_10 : decode cL_law 10 = .ok (.aload_n 0, 1) := by decide +kernel
theorem dL_law_11 : decode cL_law 11 = .ok (.arraylength, 1) := by decide +kernel
theorem dL_law_12 : decode cL_law 12 = .ok (.iconst 4, 1) := by decide +kernel
theorem dL_law_13 : decode cL_law 13 = .ok (.idiv, 1) := by decide +kernel
theorem dL_law_14 : decode cL_law 14 = .ok (.bipush 40, 2) := by decide +kernel
theorem dL_law_16 : decode cL_law 16 = .ok (.if_icmp .le 8, 3) := by decide +kernel
theorem dL_law_19 : decode cL_law 19 = .ok (.bipush 40, 2) := by decide +kernel
theorem dL_law_21 : decode cL_law 21 = .ok (.goto 7, 3) := by decide +kernel
theorem dL_law_24 : decode cL_law 24 = .ok (.aload_n 0, 1) := by decide +kernel
theorem dL_law_25 : decode cL_law 25 = .ok (.arraylength, 1) := by decide +kernel
theorem dL_law_26 : decode cL_law 26 = .ok (.iconst 4, 1) := by decide +kernel
theorem dL_law_27 : decode cL_law 27 = .ok (.idiv, 1) := by decide +kernel
theorem dL_law_28 : decode cL_law 28 = .ok (.istore_n 3, 1) := by decide +kernel
theorem dL_law_29 : decode cL_law 29 = .ok (.iconst 0, 1) := by decide +kernel
theorem dL_law_30 : decode cL_law 30 = .ok (.istore 4, 2) := by decide +kernel
theorem dL_law_32 : decode cL_law 32 = .ok (.iload 4, 2) := by decide +kernel
theorem dL_law_34 : decode cL_law 34 = .ok (.iload_n 3, 1) := by decide +kernel
theorem dL_law_35 : decode cL_law 35 = .ok (.if_icmp .ge 104, 3) := by decide +kernel
theorem dL_law_38 : decode cL_law 38 = .ok (.iload_n 2, 1) := by decide +kernel
theorem dL_law_39 : decode cL_law 39 = .ok (.ifCond .eq 100, 3) := by decide +kernel
theorem dL_law_42 : decode cL_law 42 = .ok (.aload_n 1, 1) := by decide +kernel
theorem dL_law_43 : decode cL_law 43 = .ok (.bipush 9, 2) := by decide +kernel
theorem dL_law_45 : decode cL_law 45 = .ok (.invokevirtual 37, 3) := by decide +kernel
theorem dL_law_48 : decode cL_law 48 = .ok (.istore 5, 2) := by decide +kernel
theorem dL_law_50 : decode cL_law 50 = .ok (.aload_n 1, 1) := by decide +kernel
theorem dL_law_51 : decode cL_law 51 = .ok (.bipush 7, 2) := by decide +kernel
theorem dL_law_53 : decode cL_law 53 = .ok (.invokevirtual 37, 3) := by decide +kernel
theorem dL_law_56 : decode cL_law 56 = .ok (.istore 6, 2) := by decide +kernel
theorem dL_law_58 : decode cL_law 58 = .ok (.aload_n 1, 1) := by decide +kernel
theorem dL_law_59 : decode cL_law 59 = .ok (.iconst 3, 1) := by decide +kernel
theorem dL_law_60 : decode cL_law 60 = .ok (.invokevirtual 37, 3) := by decide +kernel
theorem dL_law_63 : decode cL_law 63 = .ok (.istore 7, 2) := by decide +kernel
theorem dL_law_65 : decode cL_law 65 = .ok (.aload_n 1, 1) := by decide +kernel
theorem dL_law_66 : decode cL_law 66 = .ok (.aload_n 0, 1) := by decide +kernel
theorem dL_law_67 : decode cL_law 67 = .ok (.iconst 4, 1) := by decide +kernel
theorem dL_law_68 : decode cL_law 68 = .ok (.iload 4, 2) := by decide +kernel
theorem dL_law_70 : decode cL_law 70 = .ok (.imul, 1) := by decide +kernel
theorem dL_law_71 : decode cL_law 71 = .ok (.invokestatic 98, 3) := by decide +kernel
theorem dL_law_74 : decode cL_law 74 = .ok (.istore 8, 2) := by decide +kernel
theorem dL_law_76 : decode cL_law 76 = .ok (.iload 8, 2) := by decide +kernel
theorem dL_law_78 : decode cL_law 78 = .ok (.ifCond .ge 35, 3) := by decide +kernel
theorem dL_law_81 : decode cL_law 81 = .ok (.aload_n 1, 1) := by decide +kernel
theorem dL_law_82 : decode cL_law 82 = .ok (.bipush 9, 2) := by decide +kernel
theorem dL_law_84 : decode cL_law 84 = .ok (.invokevirtual 37, 3) := by decide +kernel
theorem dL_law_87 : decode cL_law 87 = .ok (.iload 5, 2) := by decide +kernel
theorem dL_law_89 : decode cL_law 89 = .ok (.if_icmp .ne 42, 3) := by decide +kernel
theorem dL_law_92 : decode cL_law 92 = .ok (.aload_n 1, 1) := by decide +kernel
theorem dL_law_93 : decode cL_law 93 = .ok (.bipush 7, 2) := by decide +kernel
theorem dL_law_95 : decode cL_law 95 = .ok (.invokevirtual 37, 3) := by decide +kernel
theorem dL_law_98 : decode cL_law 98 = .ok (.iload 6, 2) := by decide +kernel
theorem dL_law_100 : decode cL_law 100 = .ok (.if_icmp .ne 31, 3) := by decide +kernel
theorem dL_law_103 : decode cL_law 103 = .ok (.aload_n 1, 1) := by decide +kernel
theorem dL_law_104 : decode cL_law 104 = .ok (.iconst 3, 1) := by decide +kernel
theorem dL_law_105 : decode cL_law 105 = .ok (.invokevirtual 37, 3) := by decide +kernel
theorem dL_law_108 : decode cL_law 108 = .ok (.iload 7, 2) := by decide +kernel
theorem dL_law_110 : decode cL_law 110 = .ok (.if_icmp .ne 21, 3) := by decide +kernel
theorem dL_law_113 : decode cL_law 113 = .ok (.aload_n 1, 1) := by decide +kernel
theorem dL_law_114 : decode cL_law 114 = .ok (.invokestatic 102, 3) := by decide +kernel
theorem dL_law_117 : decode cL_law 117 = .ok (.ifCond .eq 14, 3) := by decide +kernel
theorem dL_law_120 : decode cL_law 120 = .ok (.aload_n 1, 1) := by decide +kernel
theorem dL_law_121 : decode cL_law 121 = .ok (.invokestatic 106, 3) := by decide +kernel
theorem dL_law_124 : decode cL_law 124 = .ok (.ifCond .eq 7, 3) := by decide +kernel
theorem dL_law_127 : decode cL_law 127 = .ok (.iconst 1, 1) := by decide +kernel
theorem dL_law_128 : decode cL_law 128 = .ok (.goto 4, 3) := by decide +kernel
theorem dL_law_131 : decode cL_law 131 = .ok (.iconst 0, 1) := by decide +kernel
theorem dL_law_132 : decode cL_law 132 = .ok (.istore_n 2, 1) := by decide +kernel
theorem dL_law_133 : decode cL_law 133 = .ok (.iinc 4 1, 3) := by decide +kernel
theorem dL_law_136 : decode cL_law 136 = .ok (.goto (-104), 3) := by decide +kernel
theorem dL_law_139 : decode cL_law 139 = .ok (.iload_n 2, 1) := by decide +kernel
theorem dL_law_140 : decode cL_law 140 = .ok (.ireturn, 1) := by decide +kernel
abbrev vwCl : List vw_C := [(RX0, TX0, 6), (RX1, TX1, 1), (RX2, TX2, 2), (RX3, TX3, 15), (RX4, TX4, 6)]
