theorem dL_below_0 : decode cL_below 0 = .ok (.iload_n 0, 1) := by decide +kernel
theorem dL_below_1 : decode cL_below 1 = .ok (.ldc 7, 2) := by decide +kernel
theorem dL_below_3 : decode cL_below 3 = .ok (.iand, 1) := by decide +kernel
theorem dL_below_4 : decode cL_below 4 = .ok (.iload_n 1, 1) := by decide +kernel
theorem dL_below_5 : decode cL_below 5 = .ok (.irem, 1) := by decide +kernel
theorem dL_below_6 : decode cL_below 6 = .ok (.ireturn, 1) := by decide +kernel
theorem dL_cell_0 : decode cL_cell 0 = .ok (.iload_n 1, 1) := by decide +kernel
theorem dL_cell_1 : decode cL_cell 1 = .ok (.aload_n 0, 1) := by decide +kernel
theorem dL_cell_2 : decode cL_cell 2 = .ok (.arraylength, 1) := by decide +kernel
theorem dL_cell_3 : decode cL_cell 3 = .ok (.if_icmp .ge 9, 3) := by decide +kernel
theorem dL_cell_6 : decode cL_cell 6 = .ok (.aload_n 0, 1) := by decide +kernel
theorem dL_cell_7 : decode cL_cell 7 = .ok (.iload_n 1, 1) := by decide +kernel
theorem dL_cell_8 : decode cL_cell 8 = .ok (.iaload, 1) := by decide +kernel
theorem dL_cell_9 : decode cL_cell 9 = .ok (.goto 9, 3) := by decide +kernel
theorem dL_cell_12 : decode cL_cell 12 = .ok (.ldc 8, 2) := by decide +kernel
theorem dL_cell_14 : decode cL_cell 14 = .ok (.iload_n 1, 1) := by decide +kernel
theorem dL_cell_15 : decode cL_cell 15 = .ok (.iconst 3, 1) := by decide +kernel
theorem dL_cell_16 : decode cL_cell 16 = .ok (.iadd, 1) := by decide +kernel
theorem dL_cell_17 : decode cL_cell 17 = .ok (.imul, 1) := by decide +kernel
theorem dL_cell_18 : decode cL_cell 18 = .ok (.ireturn, 1) := by decide +kernel
theorem dL_act_0 : decode cL_act 0 = .ok (.aload_n 1, 1) := by decide +kernel
theorem dL_act_1 : decode cL_act 1 = .ok (.getfield 9, 3) := by decide +kernel
theorem dL_act_4 : decode cL_act 4 = .ok (.arraylength, 1) := by decide +kernel
theorem dL_act_5 : decode cL_act 5 = .ok (.istore_n 3, 1) := by decide +kernel
theorem dL_act_6 : decode cL_act 6 = .ok (.aload_n 1, 1) := by decide +kernel
theorem dL_act_7 : decode cL_act 7 = .ok (.getfield 15, 3) := by decide +kernel
theorem dL_act_10 : decode cL_act 10 = .ok (.arraylength, 1) := by decide +kernel
theorem dL_act_11 : decode cL_act 11 = .ok (.istore 4, 2) := by decide +kernel
theorem dL_act_13 : decode cL_act 13 = .ok (.iload_n 2, 1) := by decide +kernel
theorem dL_act_14 : decode cL_act 14 = .ok (.iconst 4, 1) := by decide +kernel
theorem dL_act_15 : decode cL_act 15 = .ok (.invokestatic 18, 3) := by decide +kernel
theorem dL_act_18 : decode cL_act 18 = .ok (.istore 5, 2) := by decide +kernel
theorem dL_act_20 : decode cL_act 20 = .ok (.iload_n 2, 1) := by decide +kernel
theorem dL_act_21 : decode cL_act 21 = .ok (.iconst 2, 1) := by decide +kernel
theorem dL_act_22 : decode cL_act 22 = .ok (.ishr, 1) := by decide +kernel
theorem dL_act_23 : decode cL_act 23 = .ok (.iconst 3, 1) := by decide +kernel
theorem dL_act_24 : decode cL_act 24 = .ok (.invokestatic 18, 3) := by decide +kernel
theorem dL_act_27 : decode cL_act 27 = .ok (.istore 6, 2) := by decide +kernel
theorem dL_act_29 : decode cL_act 29 = .ok (.iload_n 2, 1) := by decide +kernel
theorem dL_act_30 : decode cL_act 30 = .ok (.bipush 9, 2) := by decide +kernel
theorem dL_act_32 : decode cL_act 32 = .ok (.ishr, 1) := by decide +kernel
theorem dL_act_33 : decode cL_act 33 = .ok (.bipush 18, 2) := by decide +kernel
theorem dL_act_35 : decode cL_act 35 = .ok (.invokestatic 18, 3) := by decide +kernel
theorem dL_act_38 : decode cL_act 38 = .ok (.tableswitch 868 0 13 #[70, 70, 222, 222, 397, 397, 397, 397, 497, 571, 571, 649, 729, 796], 70) := by decide +kernel
theorem dL_act_108 : decode cL_act 108 = .ok (.iload_n 2, 1) := by decide +kernel
theorem dL_act_109 : decode cL_act 109 = .ok (.iconst 1, 1) := by decide +kernel
theorem dL_act_110 : decode cL_act 110 = .ok (.ishr, 1) := by decide +kernel
theorem dL_act_111 : decode cL_act 111 = .ok (.iconst 4, 1) := by decide +kernel
theorem dL_act_112 : decode cL_act 112 = .ok (.invokestatic 18, 3) := by decide +kernel
theorem dL_act_115 : decode cL_act 115 = .ok (.istore 7, 2) := by decide +kernel
theorem dL_act_117 : decode cL_act 117 = .ok (.iconst 1, 1) := by decide +kernel
theorem dL_act_118 : decode cL_act 118 = .ok (.iload_n 2, 1) := by decide +kernel
theorem dL_act_119 : decode cL_act 119 = .ok (.iconst 4, 1) := by decide +kernel
theorem dL_act_120 : decode cL_act 120 = .ok (.ishr, 1) := by decide +kernel
theorem dL_act_121 : decode cL_act 121 = .ok (.bipush 12, 2) := by decide +kernel
theorem dL_act_123 : decode cL_act 123 = .ok (.invokestatic 18, 3) := by decide +kernel
theorem dL_act_126 : decode cL_act 126 = .ok (.iadd, 1) := by decide +kernel
theorem dL_act_127 : decode cL_act 127 = .ok (.istore 8, 2) := by decide +kernel
theorem dL_act_129 : decode cL_act 129 = .ok (.iload 7, 2) := by decide +kernel
theorem dL_act_131 : decode cL_act 131 = .ok (.iconst 3, 1) := by decide +kernel
theorem dL_act_132 : decode cL_act 132 = .ok (.if_icmp .ne 10, 3) := by decide +kernel
theorem dL_act_135 : decode cL_act 135 = .ok (.iload 8, 2) := by decide +kernel
theorem dL_act_137 : decode cL_act 137 = .ok (.iconst 2, 1) := by decide +kernel
theorem dL_act_138 : decode cL_act 138 = .ok (.imul, 1) := by decide +kernel
theorem dL_act_139 : decode cL_act 139 = .ok (.goto 10, 3) := by decide +kernel
theorem dL_act_142 : decode cL_act 142 = .ok (.iload 8, 2) := by decide +kernel
theorem dL_act_144 : decode cL_act 144 = .ok (.iconst 3, 1) := by decide +kernel
theorem dL_act_145 : decode cL_act 145 = .ok (.iload 7, 2) := by decide +kernel
theorem dL_act_147 : decode cL_act 147 = .ok (.isub, 1) := by decide +kernel
theorem dL_act_148 : decode cL_act 148 = .ok (.imul, 1) := by decide +kernel
theorem dL_act_149 : decode cL_act 149 = .ok (.istore 9, 2) := by decide +kernel
theorem dL_act_151 : decode cL_act 151 = .ok (.iload 9, 2) := by decide +kernel
theorem dL_act_153 : decode cL_act 153 = .ok (.aload_n 1, 1) := by decide +kernel
theorem dL_act_154 : decode cL_act 154 = .ok (.getfield 24, 3) := by decide +kernel
theorem dL_act_157 : decode cL_act 157 = .ok (.if_icmp .gt 21, 3) := by decide +kernel
theorem dL_act_160 : decode cL_act 160 = .ok (.iload 7, 2) := by decide +kernel
theorem dL_act_162 : decode cL_act 162 = .ok (.iconst 3, 1) := by decide +kernel
theorem dL_act_163 : decode cL_act 163 = .ok (.if_icmp .ne 17, 3) := by decide +kernel
theorem dL_act_166 : decode cL_act 166 = .ok (.aload_n 1, 1) := by decide +kernel
theorem dL_act_167 : decode cL_act 167 = .ok (.getfield 28, 3) := by decide +kernel
theorem dL_act_170 : decode cL_act 170 = .ok (.iload 8, 2) := by decide +kernel
theorem dL_act_172 : decode cL_act 172 = .ok (.iadd, 1) := by decide +kernel
theorem dL_act_173 : decode cL_act 173 = .ok (.bipush 90, 2) := by decide +kernel
theorem dL_act_175 : decode cL_act 175 = .ok (.if_icmp .le 5, 3) := by decide +kernel
theorem dL_act_178 : decode cL_act 178 = .ok (.iconst 1, 1) := by decide +kernel
theorem dL_act_179 : decode cL_act 179 = .ok (.ireturn, 1) := by decide +kernel
theorem dL_act_180 : decode cL_act 180 = .ok (.aload_n 1, 1) := by decide +kernel
theorem dL_act_181 : decode cL_act 181 = .ok (.dup, 1) := by decide +kernel
theorem dL_act_182 : decode cL_act 182 = .ok (.getfield 24, 3) := by decide +kernel
theorem dL_act_185 : decode cL_act 185 = .ok (.iload 9, 2) := by decide +kernel
theorem dL_act_187 : decode cL_act 187 = .ok (.isub, 1) := by decide +kernel
theorem dL_act_188 : decode cL_act 188 = .ok (.putfield 24, 3) := by decide +kernel
theorem dL_act_191 : decode cL_act 191 = .ok (.iload 7, 2) := by decide +kernel
theorem dL_act_193 : decode cL_act 193 = .ok (.iconst 3, 1) := by decide +kernel
theorem dL_act_194 : decode cL_act 194 = .ok (.if_icmp .ne 17, 3) := by decide +kernel
theorem dL_act_197 : decode cL_act 197 = .ok (.aload_n 1, 1) := by decide +kernel
theorem dL_act_198 : decode cL_act 198 = .ok (.dup, 1) := by decide +kernel
theorem dL_act_199 : decode cL_act 199 = .ok (.getfield 28, 3) := by decide +kernel
theorem dL_act_202 : decode cL_act 202 = .ok (.iload 8, 2) := by decide +kernel
theorem dL_act_204 : decode cL_act 204 = .ok (.iadd, 1) := by decide +kernel
theorem dL_act_205 : decode cL_act 205 = .ok (.putfield 28, 3) := by decide +kernel
theorem dL_act_208 : decode cL_act 208 = .ok (.goto 15, 3) := by decide +kernel
theorem dL_act_211 : decode cL_act 211 = .ok (.aload_n 1, 1) := by decide +kernel
theorem dL_act_212 : decode cL_act 212 = .ok (.getfield 31, 3) := by decide +kernel
theorem dL_act_215 : decode cL_act 215 = .ok (.iload 7, 2) := by decide +kernel
theorem dL_act_217 : decode cL_act 217 = .ok (.dup2, 1) := by decide +kernel
theorem dL_act_218 : decode cL_act 218 = .ok (.iaload, 1) := by decide +kernel
theorem dL_act_219 : decode cL_act 219 = .ok (.iload 8, 2) := by decide +kernel
theorem dL_act_221 : decode cL_act 221 = .ok (.iadd, 1) := by decide +kernel
theorem dL_act_222 : decode cL_act 222 = .ok (.iastore, 1) := by decide +kernel
theorem dL_act_223 : decode cL_act 223 = .ok (.aload_n 0, 1) := by decide +kernel
theorem dL_act_224 : decode cL_act 224 = .ok (.iload 7, 2) := by decide +kernel
theorem dL_act_226 : decode cL_act 226 = .ok (.iload 8, 2) := by decide +kernel
theorem dL_act_228 : decode cL_act 228 = .ok (.invokevirtual 35, 3) := by decide +kernel
theorem dL_act_231 : decode cL_act 231 = .ok (.iload 7, 2) := by decide +kernel
theorem dL_act_233 : decode cL_act 233 = .ok (.iconst 3, 1) := by decide +kernel
theorem dL_act_234 : decode cL_act 234 = .ok (.if_icmp .ne 10, 3) := by decide +kernel
theorem dL_act_237 : decode cL_act 237 = .ok (.aload_n 1, 1) := by decide +kernel
theorem dL_act_238 : decode cL_act 238 = .ok (.getfield 28, 3) := by decide +kernel
theorem dL_act_241 : decode cL_act 241 = .ok (.goto 10, 3) := by decide +kernel
theorem dL_act_244 : decode cL_act 244 = .ok (.aload_n 1, 1) := by decide +kernel
theorem dL_act_245 : decode cL_act 245 = .ok (.getfield 31, 3) := by decide +kernel
theorem dL_act_248 : decode cL_act 248 = .ok (.iload 7, 2) := by decide +kernel
theorem dL_act_250 : decode cL_act 250 = .ok (.iaload, 1) := by decide +kernel
theorem dL_act_251 : decode cL_act 251 = .ok (.if_icmp .ne 7, 3) := by decide +kernel
theorem dL_act_254 : decode cL_act 254 = .ok (.iconst 1, 1) := by decide +kernel
theorem dL_act_255 : decode cL_act 255 = .ok (.goto 4, 3) := by decide +kernel
theorem dL_act_258 : decode cL_act 258 = .ok (.iconst 0, 1) := by decide +kernel
theorem dL_act_259 : decode cL_act 259 = .ok (.ireturn, 1) := by decide +kernel
theorem dL_act_260 : decode cL_act 260 = .ok (.iload_n 2, 1) := by decide +kernel
theorem dL_act_261 : decode cL_act 261 = .ok (.iconst 1, 1) := by decide +kernel
theorem dL_act_262 : decode cL_act 262 = .ok (.ishr, 1) := by decide +kernel
theorem dL_act_263 : decode cL_act 263 = .ok (.bipush 10, 2) := by decide +kernel
theorem dL_act_265 : decode cL_act 265 = .ok (.invokestatic 18, 3) := by decide +kernel
theorem dL_act_268 : decode cL_act 268 = .ok (.istore 10, 2) := by decide +kernel
theorem dL_act_270 : decode cL_act 270 = .ok (.iconst 0, 1) := by decide +kernel
theorem dL_act_271 : decode cL_act 271 = .ok (.istore 11, 2) := by decide +kernel
theorem dL_act_273 : decode cL_act 273 = .ok (.iload 11, 2) := by decide +kernel
theorem dL_act_275 : decode cL_act 275 = .ok (.bipush 10, 2) := by decide +kernel
theorem dL_act_277 : decode cL_act 277 = .ok (.if_icmp .ge 33, 3) := by decide +kernel
theorem dL_act_280 : decode cL_act 280 = .ok (.aload_n 1, 1) := by decide +kernel
theorem dL_act_281 : decode cL_act 281 = .ok (.getfield 40, 3) := by decide +kernel
theorem dL_act_284 : decode cL_act 284 = .ok (.iload 10, 2) := by decide +kernel
theorem dL_act_286 : decode cL_act 286 = .ok (.aaload, 1) := by decide +kernel
theorem dL_act_287 : decode cL_act 287 = .ok (.iload 6, 2) := by decide +kernel
theorem dL_act_289 : decode cL_act 289 = .ok (.iaload, 1) := by decide +kernel
theorem dL_act_290 : decode cL_act 290 = .ok (.bipush 24, 2) := by decide +kernel
theorem dL_act_292 : decode cL_act 292 = .ok (.if_icmp .ge 18, 3) := by decide +kernel
theorem dL_act_295 : decode cL_act 295 = .ok (.iload 10, 2) := by decide +kernel
theorem dL_act_297 : decode cL_act 297 = .ok (.iconst 1, 1) := by decide +kernel
theorem dL_act_298 : decode cL_act 298 = .ok (.iadd, 1) := by decide +kernel
theorem dL_act_299 : decode cL_act 299 = .ok (.bipush 10, 2) := by decide +kernel
theorem dL_act_301 : decode cL_act 301 = .ok (.irem, 1) := by decide +kernel
theorem dL_act_302 : decode cL_act 302 = .ok (.istore 10, 2) := by decide +kernel
theorem dL_act_304 : decode cL_act 304 = .ok (.iinc 11 1, 3) := by decide +kernel
theorem dL_act_307 : decode cL_act 307 = .ok (.goto (-34), 3) := by decide +kernel
theorem dL_act_310 : decode cL_act 310 = .ok (.aload_n 1, 1) := by decide +kernel
theorem dL_act_311 : decode cL_act 311 = .ok (.getfield 40, 3) := by decide +kernel
theorem dL_act_314 : decode cL_act 314 = .ok (.iload 10, 2) := by decide +kernel
theorem dL_act_316 : decode cL_act 316 = .ok (.aaload, 1) := by decide +kernel
theorem dL_act_317 : decode cL_act 317 = .ok (.iload 6, 2) := by decide +kernel
theorem dL_act_319 : decode cL_act 319 = .ok (.iaload, 1) := by decide +kernel
theorem dL_act_320 : decode cL_act 320 = .ok (.bipush 24, 2) := by decide +kernel
theorem dL_act_322 : decode cL_act 322 = .ok (.if_icmp .ge 5, 3) := by decide +kernel
theorem dL_act_325 : decode cL_act 325 = .ok (.iconst 1, 1) := by decide +kernel
theorem dL_act_326 : decode cL_act 326 = .ok (.ireturn, 1) := by decide +kernel
theorem dL_act_327 : decode cL_act 327 = .ok (.iconst 1, 1) := by decide +kernel
theorem dL_act_328 : decode cL_act 328 = .ok (.iload_n 2, 1) := by decide +kernel
theorem dL_act_329 : decode cL_act 329 = .ok (.iconst 4, 1) := by decide +kernel
theorem dL_act_330 : decode cL_act 330 = .ok (.ishr, 1) := by decide +kernel
theorem dL_act_331 : decode cL_act 331 = .ok (.aload_n 1, 1) := by decide +kernel
theorem dL_act_332 : decode cL_act 332 = .ok (.getfield 40, 3) := by decide +kernel
theorem dL_act_335 : decode cL_act 335 = .ok (.iload 10, 2) := by decide +kernel
theorem dL_act_337 : decode cL_act 337 = .ok (.aaload, 1) := by decide +kernel
theorem dL_act_338 : decode cL_act 338 = .ok (.iload 6, 2) := by decide +kernel
theorem dL_act_340 : decode cL_act 340 = .ok (.iaload, 1) := by decide +kernel
theorem dL_act_341 : decode cL_act 341 = .ok (.bipush 24, 2) := by decide +kernel
theorem dL_act_343 : decode cL_act 343 = .ok (.idiv, 1) := by decide +kernel
theorem dL_act_344 : decode cL_act 344 = .ok (.bipush 9, 2) := by decide +kernel
theorem dL_act_346 : decode cL_act 346 = .ok (.if_icmp .le 8, 3) := by decide +kernel
theorem dL_act_349 : decode cL_act 349 = .ok (.bipush 9, 2) := by decide +kernel
theorem dL_act_351 : decode cL_act 351 = .ok (.goto 16, 3) := by decide +kernel
theorem dL_act_354 : decode cL_act 354 = .ok (.aload_n 1, 1) := by decide +kernel
theorem dL_act_355 : decode cL_act 355 = .ok (.getfield 40, 3) := by decide +kernel
theorem dL_act_358 : decode cL_act 358 = .ok (.iload 10, 2) := by decide +kernel
theorem dL_act_360 : decode cL_act 360 = .ok (.aaload, 1) := by decide +kernel
theorem dL_act_361 : decode cL_act 361 = .ok (.iload 6, 2) := by decide +kernel
theorem dL_act_363 : decode cL_act 363 = .ok (.iaload, 1) := by decide +kernel
theorem dL_act_364 : decode cL_act 364 = .ok (.bipush 24, 2) := by decide +kernel
theorem dL_act_366 : decode cL_act 366 = .ok (.idiv, 1) := by decide +kernel
theorem dL_act_367 : decode cL_act 367 = .ok (.invokestatic 18, 3) := by decide +kernel
theorem dL_act_370 : decode cL_act 370 = .ok (.iadd, 1) := by decide +kernel
theorem dL_act_371 : decode cL_act 371 = .ok (.istore 11, 2) := by decide +kernel
theorem dL_act_373 : decode cL_act 373 = .ok (.aload_n 1, 1) := by decide +kernel
theorem dL_act_374 : decode cL_act 374 = .ok (.getfield 40, 3) := by decide +kernel
theorem dL_act_377 : decode cL_act 377 = .ok (.iload 10, 2) := by decide +kernel
theorem dL_act_379 : decode cL_act 379 = .ok (.aaload, 1) := by decide +kernel
theorem dL_act_380 : decode cL_act 380 = .ok (.iload 6, 2) := by decide +kernel
theorem dL_act_382 : decode cL_act 382 = .ok (.dup2, 1) := by decide +kernel
theorem dL_act_383 : decode cL_act 383 = .ok (.iaload, 1) := by decide +kernel
theorem dL_act_384 : decode cL_act 384 = .ok (.bipush 24, 2) := by decide +kernel
theorem dL_act_386 : decode cL_act 386 = .ok (.iload 11, 2) := by decide +kernel
theorem dL_act_388 : decode cL_act 388 = .ok (.imul, 1) := by decide +kernel
theorem dL_act_389 : decode cL_act 389 = .ok (.isub, 1) := by decide +kernel
theorem dL_act_390 : decode cL_act 390 = .ok (.iastore, 1) := by decide +kernel
theorem dL_act_391 : decode cL_act 391 = .ok (.aload_n 1, 1) := by decide +kernel
theorem dL_act_392 : decode cL_act 392 = .ok (.dup, 1) := by decide +kernel
theorem dL_act_393 : decode cL_act 393 = .ok (.getfield 24, 3) := by decide +kernel
theorem dL_act_396 : decode cL_act 396 = .ok (.iload 11, 2) := by decide +kernel
theorem dL_act_398 : decode cL_act 398 = .ok (.iload 6, 2) := by decide +kernel
theorem dL_act_400 : decode cL_act 400 = .ok (.invokestatic 43, 3) := by decide +kernel
theorem dL_act_403 : decode cL_act 403 = .ok (.imul, 1) := by decide +kernel
theorem dL_act_404 : decode cL_act 404 = .ok (.iadd, 1) := by decide +kernel
theorem dL_act_405 : decode cL_act 405 = .ok (.putfield 24, 3) := by decide +kernel
theorem dL_act_408 : decode cL_act 408 = .ok (.aload_n 0, 1) := by decide +kernel
theorem dL_act_409 : decode cL_act 409 = .ok (.iload 10, 2) := by decide +kernel
theorem dL_act_411 : decode cL_act 411 = .ok (.iload 6, 2) := by decide +kernel
theorem dL_act_413 : decode cL_act 413 = .ok (.iload 11, 2) := by decide +kernel
theorem dL_act_415 : decode cL_act 415 = .ok (.invokevirtual 47, 3) := by decide +kernel
theorem dL_act_418 : decode cL_act 418 = .ok (.iload 11, 2) := by decide +kernel
theorem dL_act_420 : decode cL_act 420 = .ok (.iload 6, 2) := by decide +kernel
theorem dL_act_422 : decode cL_act 422 = .ok (.invokestatic 43, 3) := by decide +kernel
theorem dL_act_425 : decode cL_act 425 = .ok (.imul, 1) := by decide +kernel
theorem dL_act_426 : decode cL_act 426 = .ok (.if_icmp .ne 7, 3) := by decide +kernel
theorem dL_act_429 : decode cL_act 429 = .ok (.iconst 1, 1) := by decide +kernel
theorem dL_act_430 : decode cL_act 430 = .ok (.goto 4, 3) := by decide +kernel
theorem dL_act_433 : decode cL_act 433 = .ok (.iconst 0, 1) := by decide +kernel
theorem dL_act_434 : decode cL_act 434 = .ok (.ireturn, 1) := by decide +kernel
theorem dL_act_435 : decode cL_act 435 = .ok (.iconst 1, 1) := by decide +kernel
theorem dL_act_436 : decode cL_act 436 = .ok (.iload_n 2, 1) := by decide +kernel
theorem dL_act_437 : decode cL_act 437 = .ok (.iconst 4, 1) := by decide +kernel
theorem dL_act_438 : decode cL_act 438 = .ok (.ishr, 1) := by decide +kernel
theorem dL_act_439 : decode cL_act 439 = .ok (.bipush 40, 2) := by decide +kernel
theorem dL_act_441 : decode cL_act 441 = .ok (.invokestatic 18, 3) := by decide +kernel
theorem dL_act_444 : decode cL_act 444 = .ok (.iadd, 1) := by decide +kernel
theorem dL_act_445 : decode cL_act 445 = .ok (.istore 12, 2) := by decide +kernel
theorem dL_act_447 : decode cL_act 447 = .ok (.aload_n 1, 1) := by decide +kernel
theorem dL_act_448 : decode cL_act 448 = .ok (.getfield 51, 3) := by decide +kernel
theorem dL_act_451 : decode cL_act 451 = .ok (.iload 5, 2) := by decide +kernel
theorem dL_act_453 : decode cL_act 453 = .ok (.aaload, 1) := by decide +kernel
theorem dL_act_454 : decode cL_act 454 = .ok (.iconst 0, 1) := by decide +kernel
theorem dL_act_455 : decode cL_act 455 = .ok (.iaload, 1) := by decide +kernel
theorem dL_act_456 : decode cL_act 456 = .ok (.ifCond .gt 15, 3) := by decide +kernel
theorem dL_act_459 : decode cL_act 459 = .ok (.aload_n 1, 1) := by decide +kernel
theorem dL_act_460 : decode cL_act 460 = .ok (.getfield 31, 3) := by decide +kernel
theorem dL_act_463 : decode cL_act 463 = .ok (.iload 6, 2) := by decide +kernel
theorem dL_act_465 : decode cL_act 465 = .ok (.iaload, 1) := by decide +kernel
theorem dL_act_466 : decode cL_act 466 = .ok (.iload 12, 2) := by decide +kernel
theorem dL_act_468 : decode cL_act 468 = .ok (.if_icmp .ge 5, 3) := by decide +kernel
theorem dL_act_471 : decode cL_act 471 = .ok (.iconst 1, 1) := by decide +kernel
theorem dL_act_472 : decode cL_act 472 = .ok (.ireturn, 1) := by decide +kernel
theorem dL_act_473 : decode cL_act 473 = .ok (.aload_n 1, 1) := by decide +kernel
theorem dL_act_474 : decode cL_act 474 = .ok (.getfield 31, 3) := by decide +kernel
theorem dL_act_477 : decode cL_act 477 = .ok (.iload 6, 2) := by decide +kernel
theorem dL_act_479 : decode cL_act 479 = .ok (.dup2, 1) := by decide +kernel
theorem dL_act_480 : decode cL_act 480 = .ok (.iaload, 1) := by decide +kernel
theorem dL_act_481 : decode cL_act 481 = .ok (.iload 12, 2) := by decide +kernel
theorem dL_act_483 : decode cL_act 483 = .ok (.isub, 1) := by decide +kernel
theorem dL_act_484 : decode cL_act 484 = .ok (.iastore, 1) := by decide +kernel
theorem dL_act_485 : decode cL_act 485 = .ok (.aload_n 1, 1) := by decide +kernel
theorem dL_act_486 : decode cL_act 486 = .ok (.getfield 51, 3) := by decide +kernel
theorem dL_act_489 : decode cL_act 489 = .ok (.iload 5, 2) := by decide +kernel
theorem dL_act_491 : decode cL_act 491 = .ok (.iconst 3, 1) := by decide +kernel
theorem dL_act_492 : decode cL_act 492 = .ok (.newarray .int, 2) := by decide +kernel
theorem dL_act_494 : decode cL_act 494 = .ok (.dup, 1) := by decide +kernel
theorem dL_act_495 : decode cL_act 495 = .ok (.iconst 0, 1) := by decide +kernel
theorem dL_act_496 : decode cL_act 496 = .ok (.iload 12, 2) := by decide +kernel
theorem dL_act_498 : decode cL_act 498 = .ok (.iastore, 1) := by decide +kernel
theorem dL_act_499 : decode cL_act 499 = .ok (.dup, 1) := by decide +kernel
theorem dL_act_500 : decode cL_act 500 = .ok (.iconst 1, 1) := by decide +kernel
theorem dL_act_501 : decode cL_act 501 = .ok (.iconst 0, 1) := by decide +kernel
theorem dL_act_502 : decode cL_act 502 = .ok (.iastore, 1) := by decide +kernel
theorem dL_act_503 : decode cL_act 503 = .ok (.dup, 1) := by decide +kernel
theorem dL_act_504 : decode cL_act 504 = .ok (.iconst 2, 1) := by decide +kernel
theorem dL_act_505 : decode cL_act 505 = .ok (.iload 6, 2) := by decide +kernel
theorem dL_act_507 : decode cL_act 507 = .ok (.iastore, 1) := by decide +kernel
theorem dL_act_508 : decode cL_act 508 = .ok (.aastore, 1) := by decide +kernel
theorem dL_act_509 : decode cL_act 509 = .ok (.aload_n 0, 1) := by decide +kernel
theorem dL_act_510 : decode cL_act 510 = .ok (.iload 5, 2) := by decide +kernel
theorem dL_act_512 : decode cL_act 512 = .ok (.iload 6, 2) := by decide +kernel
theorem dL_act_514 : decode cL_act 514 = .ok (.iload 12, 2) := by decide +kernel
theorem dL_act_516 : decode cL_act 516 = .ok (.invokevirtual 54, 3) := by decide +kernel
theorem dL_act_519 : decode cL_act 519 = .ok (.aload_n 1, 1) := by decide +kernel
theorem dL_act_520 : decode cL_act 520 = .ok (.getfield 31, 3) := by decide +kernel
theorem dL_act_523 : decode cL_act 523 = .ok (.iload 6, 2) := by decide +kernel
theorem dL_act_525 : decode cL_act 525 = .ok (.iaload, 1) := by decide +kernel
theorem dL_act_526 : decode cL_act 526 = .ok (.if_icmp .ne 7, 3) := by decide +kernel
theorem dL_act_529 : decode cL_act 529 = .ok (.iconst 1, 1) := by decide +kernel
theorem dL_act_530 : decode cL_act 530 = .ok (.goto 4, 3) := by decide +kernel
theorem dL_act_533 : decode cL_act 533 = .ok (.iconst 0, 1) := by decide +kernel
theorem dL_act_534 : decode cL_act 534 = .ok (.ireturn, 1) := by decide +kernel
theorem dL_act_535 : decode cL_act 535 = .ok (.aload_n 1, 1) := by decide +kernel
theorem dL_act_536 : decode cL_act 536 = .ok (.getfield 51, 3) := by decide +kernel
theorem dL_act_539 : decode cL_act 539 = .ok (.iload 5, 2) := by decide +kernel
theorem dL_act_541 : decode cL_act 541 = .ok (.aaload, 1) := by decide +kernel
theorem dL_act_542 : decode cL_act 542 = .ok (.iconst 0, 1) := by decide +kernel
theorem dL_act_543 : decode cL_act 543 = .ok (.iaload, 1) := by decide +kernel
theorem dL_act_544 : decode cL_act 544 = .ok (.ifCond .eq 13, 3) := by decide +kernel
theorem dL_act_547 : decode cL_act 547 = .ok (.iload_n 2, 1) := by decide +kernel
theorem dL_act_548 : decode cL_act 548 = .ok (.iconst 3, 1) := by decide +kernel
theorem dL_act_549 : decode cL_act 549 = .ok (.ishr, 1) := by decide +kernel
theorem dL_act_550 : decode cL_act 550 = .ok (.iconst 4, 1) := by decide +kernel
theorem dL_act_551 : decode cL_act 551 = .ok (.invokestatic 18, 3) := by decide +kernel
theorem dL_act_554 : decode cL_act 554 = .ok (.ifCond .le 5, 3) := by decide +kernel
theorem dL_act_557 : decode cL_act 557 = .ok (.iconst 1, 1) := by decide +kernel
theorem dL_act_558 : decode cL_act 558 = .ok (.ireturn, 1) := by decide +kernel
theorem dL_act_559 : decode cL_act 559 = .ok (.aload_n 1, 1) := by decide +kernel
theorem dL_act_560 : decode cL_act 560 = .ok (.getfield 51, 3) := by decide +kernel
theorem dL_act_563 : decode cL_act 563 = .ok (.iload 5, 2) := by decide +kernel
theorem dL_act_565 : decode cL_act 565 = .ok (.aaload, 1) := by decide +kernel
theorem dL_act_566 : decode cL_act 566 = .ok (.iconst 0, 1) := by decide +kernel
theorem dL_act_567 : decode cL_act 567 = .ok (.iaload, 1) := by decide +kernel
theorem dL_act_568 : decode cL_act 568 = .ok (.istore 13, 2) := by decide +kernel
theorem dL_act_570 : decode cL_act 570 = .ok (.aload_n 1, 1) := by decide +kernel
theorem dL_act_571 : decode cL_act 571 = .ok (.getfield 51, 3) := by decide +kernel
theorem dL_act_574 : decode cL_act 574 = .ok (.iload 5, 2) := by decide +kernel
theorem dL_act_576 : decode cL_act 576 = .ok (.iconst 3, 1) := by decide +kernel
theorem dL_act_577 : decode cL_act 577 = .ok (.newarray .int, 2) := by decide +kernel
theorem dL_act_579 : decode cL_act 579 = .ok (.dup, 1) := by decide +kernel
theorem dL_act_580 : decode cL_act 580 = .ok (.iconst 0, 1) := by decide +kernel
theorem dL_act_581 : decode cL_act 581 = .ok (.iconst 0, 1) := by decide +kernel
theorem dL_act_582 : decode cL_act 582 = .ok (.iastore, 1) := by decide +kernel
theorem dL_act_583 : decode cL_act 583 = .ok (.dup, 1) := by decide +kernel
theorem dL_act_584 : decode cL_act 584 = .ok (.iconst 1, 1) := by decide +kernel
theorem dL_act_585 : decode cL_act 585 = .ok (.iconst 0, 1) := by decide +kernel
theorem dL_act_586 : decode cL_act 586 = .ok (.iastore, 1) := by decide +kernel
theorem dL_act_587 : decode cL_act 587 = .ok (.dup, 1) := by decide +kernel
theorem dL_act_588 : decode cL_act 588 = .ok (.iconst 2, 1) := by decide +kernel
theorem dL_act_589 : decode cL_act 589 = .ok (.iconst (-1), 1) := by decide +kernel
theorem dL_act_590 : decode cL_act 590 = .ok (.iastore, 1) := by decide +kernel
theorem dL_act_591 : decode cL_act 591 = .ok (.aastore, 1) := by decide +kernel
theorem dL_act_592 : decode cL_act 592 = .ok (.aload_n 0, 1) := by decide +kernel
theorem dL_act_593 : decode cL_act 593 = .ok (.iload 5, 2) := by decide +kernel
theorem dL_act_595 : decode cL_act 595 = .ok (.invokevirtual 57, 3) := by decide +kernel
theorem dL_act_598 : decode cL_act 598 = .ok (.iload 13, 2) := by decide +kernel
theorem dL_act_600 : decode cL_act 600 = .ok (.if_icmp .ne 7, 3) := by decide +kernel
theorem dL_act_603 : decode cL_act 603 = .ok (.iconst 1, 1) := by decide +kernel
theorem dL_act_604 : decode cL_act 604 = .ok (.goto 4, 3) := by decide +kernel
theorem dL_act_607 : decode cL_act 607 = .ok (.iconst 0, 1) := by decide +kernel
theorem dL_act_608 : decode cL_act 608 = .ok (.ireturn, 1) := by decide +kernel
theorem dL_act_609 : decode cL_act 609 = .ok (.iload_n 3, 1) := by decide +kernel
theorem dL_act_610 : decode cL_act 610 = .ok (.iconst 5, 1) := by decide +kernel
theorem dL_act_611 : decode cL_act 611 = .ok (.if_icmp .ne 5, 3) := by decide +kernel
theorem dL_act_614 : decode cL_act 614 = .ok (.iconst 1, 1) := by decide +kernel
theorem dL_act_615 : decode cL_act 615 = .ok (.ireturn, 1) := by decide +kernel
theorem dL_act_616 : decode cL_act 616 = .ok (.aload_n 1, 1) := by decide +kernel
theorem dL_act_617 : decode cL_act 617 = .ok (.aload_n 1, 1) := by decide +kernel
theorem dL_act_618 : decode cL_act 618 = .ok (.getfield 9, 3) := by decide +kernel
theorem dL_act_621 : decode cL_act 621 = .ok (.iconst 3, 1) := by decide +kernel
theorem dL_act_622 : decode cL_act 622 = .ok (.newarray .int, 2) := by decide +kernel
theorem dL_act_624 : decode cL_act 624 = .ok (.dup, 1) := by decide +kernel
theorem dL_act_625 : decode cL_act 625 = .ok (.iconst 0, 1) := by decide +kernel
theorem dL_act_626 : decode cL_act 626 = .ok (.iload_n 2, 1) := by decide +kernel
theorem dL_act_627 : decode cL_act 627 = .ok (.iconst 1, 1) := by decide +kernel
theorem dL_act_628 : decode cL_act 628 = .ok (.ishr, 1) := by decide +kernel
theorem dL_act_629 : decode cL_act 629 = .ok (.bipush 10, 2) := by decide +kernel
theorem dL_act_631 : decode cL_act 631 = .ok (.invokestatic 18, 3) := by decide +kernel
theorem dL_act_634 : decode cL_act 634 = .ok (.iastore, 1) := by decide +kernel
theorem dL_act_635 : decode cL_act 635 = .ok (.dup, 1) := by decide +kernel
theorem dL_act_636 : decode cL_act 636 = .ok (.iconst 1, 1) := by decide +kernel
theorem dL_act_637 : decode cL_act 637 = .ok (.iconst 1, 1) := by decide +kernel
theorem dL_act_638 : decode cL_act 638 = .ok (.iload_n 2, 1) := by decide +kernel
theorem dL_act_639 : decode cL_act 639 = .ok (.iconst 5, 1) := by decide +kernel
theorem dL_act_640 : decode cL_act 640 = .ok (.ishr, 1) := by decide +kernel
theorem dL_act_641 : decode cL_act 641 = .ok (.iconst 3, 1) := by decide +kernel
theorem dL_act_642 : decode cL_act 642 = .ok (.invokestatic 18, 3) := by decide +kernel
theorem dL_act_645 : decode cL_act 645 = .ok (.iadd, 1) := by decide +kernel
theorem dL_act_646 : decode cL_act 646 = .ok (.iastore, 1) := by decide +kernel
theorem dL_act_647 : decode cL_act 647 = .ok (.dup, 1) := by decide +kernel
theorem dL_act_648 : decode cL_act 648 = .ok (.iconst 2, 1) := by decide +kernel
theorem dL_act_649 : decode cL_act 649 = .ok (.iconst 0, 1) := by decide +kernel
theorem dL_act_650 : decode cL_act 650 = .ok (.iastore, 1) := by decide +kernel
theorem dL_act_651 : decode cL_act 651 = .ok (.invokestatic 60, 3) := by decide +kernel
theorem dL_act_654 : decode cL_act 654 = .ok (.putfield 9, 3) := by decide +kernel
theorem dL_act_657 : decode cL_act 657 = .ok (.aload_n 0, 1) := by decide +kernel
theorem dL_act_658 : decode cL_act 658 = .ok (.aload_n 1, 1) := by decide +kernel
theorem dL_act_659 : decode cL_act 659 = .ok (.getfield 9, 3) := by decide +kernel
theorem dL_act_662 : decode cL_act 662 = .ok (.iload_n 3, 1) := by decide +kernel
theorem dL_act_663 : decode cL_act 663 = .ok (.aaload, 1) := by decide +kernel
theorem dL_act_664 : decode cL_act 664 = .ok (.iconst 0, 1) := by decide +kernel
theorem dL_act_665 : decode cL_act 665 = .ok (.iaload, 1) := by decide +kernel
theorem dL_act_666 : decode cL_act 666 = .ok (.aload_n 1, 1) := by decide +kernel
theorem dL_act_667 : decode cL_act 667 = .ok (.getfield 9, 3) := by decide +kernel
theorem dL_act_670 : decode cL_act 670 = .ok (.iload_n 3, 1) := by decide +kernel
theorem dL_act_671 : decode cL_act 671 = .ok (.aaload, 1) := by decide +kernel
theorem dL_act_672 : decode cL_act 672 = .ok (.iconst 1, 1) := by decide +kernel
theorem dL_act_673 : decode cL_act 673 = .ok (.iaload, 1) := by decide +kernel
theorem dL_act_674 : decode cL_act 674 = .ok (.invokevirtual 64, 3) := by decide +kernel
theorem dL_act_677 : decode cL_act 677 = .ok (.iload_n 3, 1) := by decide +kernel
theorem dL_act_678 : decode cL_act 678 = .ok (.if_icmp .ne 7, 3) := by decide +kernel
theorem dL_act_681 : decode cL_act 681 = .ok (.iconst 1, 1) := by decide +kernel
theorem dL_act_682 : decode cL_act 682 = .ok (.goto 4, 3) := by decide +kernel
theorem dL_act_685 : decode cL_act 685 = .ok (.iconst 0, 1) := by decide +kernel
theorem dL_act_686 : decode cL_act 686 = .ok (.ireturn, 1) := by decide +kernel
theorem dL_act_687 : decode cL_act 687 = .ok (.iload_n 3, 1) := by decide +kernel
theorem dL_act_688 : decode cL_act 688 = .ok (.ifCond .ne 5, 3) := by decide +kernel
theorem dL_act_691 : decode cL_act 691 = .ok (.iconst 1, 1) := by decide +kernel
theorem dL_act_692 : decode cL_act 692 = .ok (.ireturn, 1) := by decide +kernel
theorem dL_act_693 : decode cL_act 693 = .ok (.aload_n 1, 1) := by decide +kernel
theorem dL_act_694 : decode cL_act 694 = .ok (.getfield 9, 3) := by decide +kernel
theorem dL_act_697 : decode cL_act 697 = .ok (.iload_n 2, 1) := by decide +kernel
theorem dL_act_698 : decode cL_act 698 = .ok (.iconst 1, 1) := by decide +kernel
theorem dL_act_699 : decode cL_act 699 = .ok (.ishr, 1) := by decide +kernel
theorem dL_act_700 : decode cL_act 700 = .ok (.iload_n 3, 1) := by decide +kernel
theorem dL_act_701 : decode cL_act 701 = .ok (.invokestatic 18, 3) := by decide +kernel
theorem dL_act_704 : decode cL_act 704 = .ok (.aaload, 1) := by decide +kernel
theorem dL_act_705 : decode cL_act 705 = .ok (.astore 14, 2) := by decide +kernel
theorem dL_act_707 : decode cL_act 707 = .ok (.aload 14, 2) := by decide +kernel
theorem dL_act_709 : decode cL_act 709 = .ok (.iconst 2, 1) := by decide +kernel
theorem dL_act_710 : decode cL_act 710 = .ok (.iaload, 1) := by decide +kernel
theorem dL_act_711 : decode cL_act 711 = .ok (.ifCond .eq 11, 3) := by decide +kernel
theorem dL_act_714 : decode cL_act 714 = .ok (.aload_n 1, 1) := by decide +kernel
theorem dL_act_715 : decode cL_act 715 = .ok (.getfield 24, 3) := by decide +kernel
theorem dL_act_718 : decode cL_act 718 = .ok (.iconst 5, 1) := by decide +kernel
theorem dL_act_719 : decode cL_act 719 = .ok (.if_icmp .ge 5, 3) := by decide +kernel
theorem dL_act_722 : decode cL_act 722 = .ok (.iconst 1, 1) := by decide +kernel
theorem dL_act_723 : decode cL_act 723 = .ok (.ireturn, 1) := by decide +kernel
theorem dL_act_724 : decode cL_act 724 = .ok (.aload 14, 2) := by decide +kernel
theorem dL_act_726 : decode cL_act 726 = .ok (.iconst 2, 1) := by decide +kernel
theorem dL_act_727 : decode cL_act 727 = .ok (.iaload, 1) := by decide +kernel
theorem dL_act_728 : decode cL_act 728 = .ok (.istore 15, 2) := by decide +kernel
theorem dL_act_730 : decode cL_act 730 = .ok (.aload 14, 2) := by decide +kernel
theorem dL_act_732 : decode cL_act 732 = .ok (.iconst 2, 1) := by decide +kernel
theorem dL_act_733 : decode cL_act 733 = .ok (.iconst 0, 1) := by decide +kernel
theorem dL_act_734 : decode cL_act 734 = .ok (.iastore, 1) := by decide +kernel
theorem dL_act_735 : decode cL_act 735 = .ok (.aload_n 1, 1) := by decide +kernel
theorem dL_act_736 : decode cL_act 736 = .ok (.dup, 1) := by decide +kernel
theorem dL_act_737 : decode cL_act 737 = .ok (.getfield 24, 3) := by decide +kernel
theorem dL_act_740 : decode cL_act 740 = .ok (.iconst 5, 1) := by decide +kernel
theorem dL_act_741 : decode cL_act 741 = .ok (.isub, 1) := by decide +kernel
theorem dL_act_742 : decode cL_act 742 = .ok (.putfield 24, 3) := by decide +kernel
theorem dL_act_745 : decode cL_act 745 = .ok (.aload_n 0, 1) := by decide +kernel
theorem dL_act_746 : decode cL_act 746 = .ok (.iload_n 2, 1) := by decide +kernel
theorem dL_act_747 : decode cL_act 747 = .ok (.iconst 1, 1) := by decide +kernel
theorem dL_act_748 : decode cL_act 748 = .ok (.ishr, 1) := by decide +kernel
theorem dL_act_749 : decode cL_act 749 = .ok (.iload_n 3, 1) := by decide +kernel
theorem dL_act_750 : decode cL_act 750 = .ok (.invokestatic 18, 3) := by decide +kernel
theorem dL_act_753 : decode cL_act 753 = .ok (.invokevirtual 67, 3) := by decide +kernel
theorem dL_act_756 : decode cL_act 756 = .ok (.iload 15, 2) := by decide +kernel
theorem dL_act_758 : decode cL_act 758 = .ok (.if_icmp .ne 7, 3) := by decide +kernel
theorem dL_act_761 : decode cL_act 761 = .ok (.iconst 1, 1) := by decide +kernel
theorem dL_act_762 : decode cL_act 762 = .ok (.goto 4, 3) := by decide +kernel
theorem dL_act_765 : decode cL_act 765 = .ok (.iconst 0, 1) := by decide +kernel
theorem dL_act_766 : decode cL_act 766 = .ok (.ireturn, 1) := by decide +kernel
theorem dL_act_767 : decode cL_act 767 = .ok (.iload 4, 2) := by decide +kernel
theorem dL_act_769 : decode cL_act 769 = .ok (.iconst 3, 1) := by decide +kernel
theorem dL_act_770 : decode cL_act 770 = .ok (.if_icmp .ne 5, 3) := by decide +kernel
theorem dL_act_773 : decode cL_act 773 = .ok (.iconst 1, 1) := by decide +kernel
theorem dL_act_774 : decode cL_act 774 = .ok (.ireturn, 1) := by decide +kernel
theorem dL_act_775 : decode cL_act 775 = .ok (.aload_n 1, 1) := by decide +kernel
theorem dL_act_776 : decode cL_act 776 = .ok (.aload_n 1, 1) := by decide +kernel
theorem dL_act_777 : decode cL_act 777 = .ok (.getfield 15, 3) := by decide +kernel
theorem dL_act_780 : decode cL_act 780 = .ok (.iconst 3, 1) := by decide +kernel
theorem dL_act_781 : decode cL_act 781 = .ok (.newarray .int, 2) := by decide +kernel
theorem dL_act_783 : decode cL_act 783 = .ok (.dup, 1) := by decide +kernel
theorem dL_act_784 : decode cL_act 784 = .ok (.iconst 0, 1) := by decide +kernel
theorem dL_act_785 : decode cL_act 785 = .ok (.iconst 1, 1) := by decide +kernel
theorem dL_act_786 : decode cL_act 786 = .ok (.iload_n 2, 1) := by decide +kernel
theorem dL_act_787 : decode cL_act 787 = .ok (.iconst 1, 1) := by decide +kernel
theorem dL_act_788 : decode cL_act 788 = .ok (.ishr, 1) := by decide +kernel
theorem dL_act_789 : decode cL_act 789 = .ok (.bipush 12, 2) := by decide +kernel
theorem dL_act_791 : decode cL_act 791 = .ok (.invokestatic 18, 3) := by decide +kernel
theorem dL_act_794 : decode cL_act 794 = .ok (.iadd, 1) := by decide +kernel
theorem dL_act_795 : decode cL_act 795 = .ok (.iastore, 1) := by decide +kernel
theorem dL_act_796 : decode cL_act 796 = .ok (.dup, 1) := by decide +kernel
theorem dL_act_797 : decode cL_act 797 = .ok (.iconst 1, 1) := by decide +kernel
theorem dL_act_798 : decode cL_act 798 = .ok (.iconst (-1), 1) := by decide +kernel
theorem dL_act_799 : decode cL_act 799 = .ok (.iastore, 1) := by decide +kernel
theorem dL_act_800 : decode cL_act 800 = .ok (.dup, 1) := by decide +kernel
theorem dL_act_801 : decode cL_act 801 = .ok (.iconst 2, 1) := by decide +kernel
theorem dL_act_802 : decode cL_act 802 = .ok (.iconst (-1), 1) := by decide +kernel
theorem dL_act_803 : decode cL_act 803 = .ok (.iastore, 1) := by decide +kernel
theorem dL_act_804 : decode cL_act 804 = .ok (.invokestatic 60, 3) := by decide +kernel
theorem dL_act_807 : decode cL_act 807 = .ok (.putfield 15, 3) := by decide +kernel
theorem dL_act_810 : decode cL_act 810 = .ok (.aload_n 0, 1) := by decide +kernel
theorem dL_act_811 : decode cL_act 811 = .ok (.aload_n 1, 1) := by decide +kernel
theorem dL_act_812 : decode cL_act 812 = .ok (.getfield 15, 3) := by decide +kernel
theorem dL_act_815 : decode cL_act 815 = .ok (.iload 4, 2) := by decide +kernel
theorem dL_act_817 : decode cL_act 817 = .ok (.aaload, 1) := by decide +kernel
theorem dL_act_818 : decode cL_act 818 = .ok (.iconst 0, 1) := by decide +kernel
theorem dL_act_819 : decode cL_act 819 = .ok (.iaload, 1) := by decide +kernel
theorem dL_act_820 : decode cL_act 820 = .ok (.invokevirtual 70, 3) := by decide +kernel
theorem dL_act_823 : decode cL_act 823 = .ok (.iload 4, 2) := by decide +kernel
theorem dL_act_825 : decode cL_act 825 = .ok (.if_icmp .ne 7, 3) := by decide +kernel
theorem dL_act_828 : decode cL_act 828 = .ok (.iconst 1, 1) := by decide +kernel
theorem dL_act_829 : decode cL_act 829 = .ok (.goto 4, 3) := by decide +kernel
theorem dL_act_832 : decode cL_act 832 = .ok (.iconst 0, 1) := by decide +kernel
theorem dL_act_833 : decode cL_act 833 = .ok (.ireturn, 1) := by decide +kernel
theorem dL_act_834 : decode cL_act 834 = .ok (.iload_n 2, 1) := by decide +kernel
theorem dL_act_835 : decode cL_act 835 = .ok (.iconst 1, 1) := by decide +kernel
theorem dL_act_836 : decode cL_act 836 = .ok (.ishr, 1) := by decide +kernel
theorem dL_act_837 : decode cL_act 837 = .ok (.bipush 7, 2) := by decide +kernel
theorem dL_act_839 : decode cL_act 839 = .ok (.invokestatic 18, 3) := by decide +kernel
theorem dL_act_842 : decode cL_act 842 = .ok (.istore 16, 2) := by decide +kernel
theorem dL_act_844 : decode cL_act 844 = .ok (.aload_n 1, 1) := by decide +kernel
theorem dL_act_845 : decode cL_act 845 = .ok (.getfield 73, 3) := by decide +kernel
theorem dL_act_848 : decode cL_act 848 = .ok (.iload 16, 2) := by decide +kernel
theorem dL_act_850 : decode cL_act 850 = .ok (.iaload, 1) := by decide +kernel
theorem dL_act_851 : decode cL_act 851 = .ok (.istore 17, 2) := by decide +kernel
theorem dL_act_853 : decode cL_act 853 = .ok (.aload_n 1, 1) := by decide +kernel
theorem dL_act_854 : decode cL_act 854 = .ok (.aload_n 1, 1) := by decide +kernel
theorem dL_act_855 : decode cL_act 855 = .ok (.getfield 73, 3) := by decide +kernel
theorem dL_act_858 : decode cL_act 858 = .ok (.invokevirtual 76, 3) := by decide +kernel
theorem dL_act_861 : decode cL_act 861 = .ok (.checkcast 77, 3) := by decide +kernel
theorem dL_act_864 : decode cL_act 864 = .ok (.putfield 73, 3) := by decide +kernel
theorem dL_act_867 : decode cL_act 867 = .ok (.aload_n 1, 1) := by decide +kernel
theorem dL_act_868 : decode cL_act 868 = .ok (.getfield 73, 3) := by decide +kernel
theorem dL_act_871 : decode cL_act 871 = .ok (.iload 16, 2) := by decide +kernel
theorem dL_act_873 : decode cL_act 873 = .ok (.iload_n 2, 1) := by decide +kernel
theorem dL_act_874 : decode cL_act 874 = .ok (.iconst 4, 1) := by decide +kernel
theorem dL_act_875 : decode cL_act 875 = .ok (.ishr, 1) := by decide +kernel
theorem dL_act_876 : decode cL_act 876 = .ok (.bipush 10, 2) := by decide +kernel
theorem dL_act_878 : decode cL_act 878 = .ok (.invokestatic 18, 3) := by decide +kernel
theorem dL_act_881 : decode cL_act 881 = .ok (.iastore, 1) := by decide +kernel
theorem dL_act_882 : decode cL_act 882 = .ok (.aload_n 0, 1) := by decide +kernel
theorem dL_act_883 : decode cL_act 883 = .ok (.iload 16, 2) := by decide +kernel
theorem dL_act_885 : decode cL_act 885 = .ok (.aload_n 1, 1) := by decide +kernel
theorem dL_act_886 : decode cL_act 886 = .ok (.getfield 73, 3) := by decide +kernel
theorem dL_act_889 : decode cL_act 889 = .ok (.iload 16, 2) := by decide +kernel
theorem dL_act_891 : decode cL_act 891 = .ok (.iaload, 1) := by decide +kernel
theorem dL_act_892 : decode cL_act 892 = .ok (.invokevirtual 81, 3) := by decide +kernel
theorem dL_act_895 : decode cL_act 895 = .ok (.iload 17, 2) := by decide +kernel
theorem dL_act_897 : decode cL_act 897 = .ok (.if_icmp .ne 7, 3) := by decide +kernel
theorem dL_act_900 : decode cL_act 900 = .ok (.iconst 1, 1) := by decide +kernel
theorem dL_act_901 : decode cL_act 901 = .ok (.goto 4, 3) := by decide +kernel
theorem dL_act_904 : decode cL_act 904 = .ok (.iconst 0, 1) := by decide +kernel
theorem dL_act_905 : decode cL_act 905 = .ok (.ireturn, 1) := by decide +kernel
theorem dL_act_906 : decode cL_act 906 = .ok (.iload 4, 2) := by decide +kernel
theorem dL_act_908 : decode cL_act 908 = .ok (.ifCond .ne 5, 3) := by decide +kernel
theorem dL_act_911 : decode cL_act 911 = .ok (.iconst 1, 1) := by decide +kernel
theorem dL_act_912 : decode cL_act 912 = .ok (.ireturn, 1) := by decide +kernel
theorem dL_act_913 : decode cL_act 913 = .ok (.iload_n 2, 1) := by decide +kernel
theorem dL_act_914 : decode cL_act 914 = .ok (.iconst 1, 1) := by decide +kernel
theorem dL_act_915 : decode cL_act 915 = .ok (.ishr, 1) := by decide +kernel
theorem dL_act_916 : decode cL_act 916 = .ok (.iload 4, 2) := by decide +kernel
theorem dL_act_918 : decode cL_act 918 = .ok (.invokestatic 18, 3) := by decide +kernel
theorem dL_act_921 : decode cL_act 921 = .ok (.istore 18, 2) := by decide +kernel
theorem dL_act_923 : decode cL_act 923 = .ok (.iload_n 2, 1) := by decide +kernel
theorem dL_act_924 : decode cL_act 924 = .ok (.iconst 3, 1) := by decide +kernel
theorem dL_act_925 : decode cL_act 925 = .ok (.ishr, 1) := by decide +kernel
theorem dL_act_926 : decode cL_act 926 = .ok (.bipush 9, 2) := by decide +kernel
theorem dL_act_928 : decode cL_act 928 = .ok (.invokestatic 18, 3) := by decide +kernel
theorem dL_act_931 : decode cL_act 931 = .ok (.ifCond .ne 7, 3) := by decide +kernel
theorem dL_act_934 : decode cL_act 934 = .ok (.iconst (-1), 1) := by decide +kernel
theorem dL_act_935 : decode cL_act 935 = .ok (.goto 5, 3) := by decide +kernel
theorem dL_act_938 : decode cL_act 938 = .ok (.iload 5, 2) := by decide +kernel
theorem dL_act_940 : decode cL_act 940 = .ok (.istore 19, 2) := by decide +kernel
theorem dL_act_942 : decode cL_act 942 = .ok (.iload_n 3, 1) := by decide +kernel
theorem dL_act_943 : decode cL_act 943 = .ok (.ifCond .eq 14, 3) := by decide +kernel
theorem dL_act_946 : decode cL_act 946 = .ok (.iload_n 2, 1) := by decide +kernel
theorem dL_act_947 : decode cL_act 947 = .ok (.iconst 4, 1) := by decide +kernel
theorem dL_act_948 : decode cL_act 948 = .ok (.ishr, 1) := by decide +kernel
theorem dL_act_949 : decode cL_act 949 = .ok (.bipush 9, 2) := by decide +kernel
theorem dL_act_951 : decode cL_act 951 = .ok (.invokestatic 18, 3) := by decide +kernel
theorem dL_act_954 : decode cL_act 954 = .ok (.ifCond .ne 7, 3) := by decide +kernel
theorem dL_act_957 : decode cL_act 957 = .ok (.iconst (-1), 1) := by decide +kernel
theorem dL_act_958 : decode cL_act 958 = .ok (.goto 10, 3) := by decide +kernel
theorem dL_act_961 : decode cL_act 961 = .ok (.iload_n 2, 1) := by decide +kernel
theorem dL_act_962 : decode cL_act 962 = .ok (.iconst 5, 1) := by decide +kernel
theorem dL_act_963 : decode cL_act 963 = .ok (.ishr, 1) := by decide +kernel
theorem dL_act_964 : decode cL_act 964 = .ok (.iload_n 3, 1) := by decide +kernel
theorem dL_act_965 : decode cL_act 965 = .ok (.invokestatic 18, 3) := by decide +kernel
theorem dL_act_968 : decode cL_act 968 = .ok (.istore 20, 2) := by decide +kernel
