theorem dX6_pass_326 : decode cX6_pass 326 = .ok (.iload 11, 2) := by decide +kernel
theorem dX6_pass_328 : decode cX6_pass 328 = .ok (.invokestatic 77, 3) := by decide +kernel
theorem dX6_pass_331 : decode cX6_pass 331 = .ok (.imul, 1) := by decide +kernel
theorem dX6_pass_332 : decode cX6_pass 332 = .ok (.iadd, 1) := by decide +kernel
theorem dX6_pass_333 : decode cX6_pass 333 = .ok (.putfield 52, 3) := by decide +kernel
theorem dX6_pass_336 : decode cX6_pass 336 = .ok (.iinc 5 1, 3) := by decide +kernel
theorem dX6_pass_339 : decode cX6_pass 339 = .ok (.goto (-213), 3) := by decide +kernel
theorem dX6_pass_342 : decode cX6_pass 342 = .ok (.aload_n 0, 1) := by decide +kernel
theorem dX6_pass_343 : decode cX6_pass 343 = .ok (.dup, 1) := by decide +kernel
theorem dX6_pass_344 : decode cX6_pass 344 = .ok (.getfield 49, 3) := by decide +kernel
theorem dX6_pass_347 : decode cX6_pass 347 = .ok (.iload_n 2, 1) := by decide +kernel
theorem dX6_pass_348 : decode cX6_pass 348 = .ok (.iadd, 1) := by decide +kernel
theorem dX6_pass_349 : decode cX6_pass 349 = .ok (.putfield 49, 3) := by decide +kernel
theorem dX6_pass_352 : decode cX6_pass 352 = .ok (.bipush 24, 2) := by decide +kernel
theorem dX6_pass_354 : decode cX6_pass 354 = .ok (.istore_n 3, 1) := by decide +kernel
theorem dX6_pass_355 : decode cX6_pass 355 = .ok (.aload_n 0, 1) := by decide +kernel
theorem dX6_pass_356 : decode cX6_pass 356 = .ok (.getfield 34, 3) := by decide +kernel
theorem dX6_pass_359 : decode cX6_pass 359 = .ok (.astore 4, 2) := by decide +kernel
theorem dX6_pass_361 : decode cX6_pass 361 = .ok (.aload 4, 2) := by decide +kernel
theorem dX6_pass_363 : decode cX6_pass 363 = .ok (.arraylength, 1) := by decide +kernel
theorem dX6_pass_364 : decode cX6_pass 364 = .ok (.istore 5, 2) := by decide +kernel
theorem dX6_pass_366 : decode cX6_pass 366 = .ok (.iconst 0, 1) := by decide +kernel
theorem dX6_pass_367 : decode cX6_pass 367 = .ok (.istore 6, 2) := by decide +kernel
theorem dX6_pass_369 : decode cX6_pass 369 = .ok (.iload 6, 2) := by decide +kernel
theorem dX6_pass_371 : decode cX6_pass 371 = .ok (.iload 5, 2) := by decide +kernel
theorem dX6_pass_373 : decode cX6_pass 373 = .ok (.if_icmp .ge 67, 3) := by decide +kernel
theorem dX6_pass_376 : decode cX6_pass 376 = .ok (.aload 4, 2) := by decide +kernel
theorem dX6_pass_378 : decode cX6_pass 378 = .ok (.iload 6, 2) := by decide +kernel
theorem dX6_pass_380 : decode cX6_pass 380 = .ok (.aaload, 1) := by decide +kernel
theorem dX6_pass_381 : decode cX6_pass 381 = .ok (.astore 7, 2) := by decide +kernel
theorem dX6_pass_383 : decode cX6_pass 383 = .ok (.aload 7, 2) := by decide +kernel
theorem dX6_pass_385 : decode cX6_pass 385 = .ok (.iconst 2, 1) := by decide +kernel
theorem dX6_pass_386 : decode cX6_pass 386 = .ok (.iaload, 1) := by decide +kernel
theorem dX6_pass_387 : decode cX6_pass 387 = .ok (.iload_n 3, 1) := by decide +kernel
theorem dX6_pass_388 : decode cX6_pass 388 = .ok (.if_icmp .ge 10, 3) := by decide +kernel
theorem dX6_pass_391 : decode cX6_pass 391 = .ok (.aload 7, 2) := by decide +kernel
theorem dX6_pass_393 : decode cX6_pass 393 = .ok (.iconst 2, 1) := by decide +kernel
theorem dX6_pass_394 : decode cX6_pass 394 = .ok (.iaload, 1) := by decide +kernel
theorem dX6_pass_395 : decode cX6_pass 395 = .ok (.goto 4, 3) := by decide +kernel
theorem dX6_pass_398 : decode cX6_pass 398 = .ok (.iload_n 3, 1) := by decide +kernel
theorem dX6_pass_399 : decode cX6_pass 399 = .ok (.istore 8, 2) := by decide +kernel
theorem dX6_pass_401 : decode cX6_pass 401 = .ok (.aload_n 0, 1) := by decide +kernel
theorem dX6_pass_402 : decode cX6_pass 402 = .ok (.getfield 38, 3) := by decide +kernel
theorem dX6_pass_405 : decode cX6_pass 405 = .ok (.aload 7, 2) := by decide +kernel
theorem dX6_pass_407 : decode cX6_pass 407 = .ok (.iconst 0, 1) := by decide +kernel
theorem dX6_pass_408 : decode cX6_pass 408 = .ok (.iaload, 1) := by decide +kernel
theorem dX6_pass_409 : decode cX6_pass 409 = .ok (.aaload, 1) := by decide +kernel
theorem dX6_pass_410 : decode cX6_pass 410 = .ok (.aload 7, 2) := by decide +kernel
theorem dX6_pass_412 : decode cX6_pass 412 = .ok (.iconst 1, 1) := by decide +kernel
theorem dX6_pass_413 : decode cX6_pass 413 = .ok (.iaload, 1) := by decide +kernel
theorem dX6_pass_414 : decode cX6_pass 414 = .ok (.dup2, 1) := by decide +kernel
theorem dX6_pass_415 : decode cX6_pass 415 = .ok (.iaload, 1) := by decide +kernel
theorem dX6_pass_416 : decode cX6_pass 416 = .ok (.iload 8, 2) := by decide +kernel
theorem dX6_pass_418 : decode cX6_pass 418 = .ok (.iadd, 1) := by decide +kernel
theorem dX6_pass_419 : decode cX6_pass 419 = .ok (.iastore, 1) := by decide +kernel
theorem dX6_pass_420 : decode cX6_pass 420 = .ok (.aload 7, 2) := by decide +kernel
theorem dX6_pass_422 : decode cX6_pass 422 = .ok (.iconst 2, 1) := by decide +kernel
theorem dX6_pass_423 : decode cX6_pass 423 = .ok (.dup2, 1) := by decide +kernel
theorem dX6_pass_424 : decode cX6_pass 424 = .ok (.iaload, 1) := by decide +kernel
theorem dX6_pass_425 : decode cX6_pass 425 = .ok (.iload 8, 2) := by decide +kernel
theorem dX6_pass_427 : decode cX6_pass 427 = .ok (.isub, 1) := by decide +kernel
theorem dX6_pass_428 : decode cX6_pass 428 = .ok (.iastore, 1) := by decide +kernel
theorem dX6_pass_429 : decode cX6_pass 429 = .ok (.iload_n 3, 1) := by decide +kernel
theorem dX6_pass_430 : decode cX6_pass 430 = .ok (.iload 8, 2) := by decide +kernel
theorem dX6_pass_432 : decode cX6_pass 432 = .ok (.isub, 1) := by decide +kernel
theorem dX6_pass_433 : decode cX6_pass 433 = .ok (.istore_n 3, 1) := by decide +kernel
theorem dX6_pass_434 : decode cX6_pass 434 = .ok (.iinc 6 1, 3) := by decide +kernel
theorem dX6_pass_437 : decode cX6_pass 437 = .ok (.goto (-68), 3) := by decide +kernel
theorem dX6_pass_440 : decode cX6_pass 440 = .ok (.iconst 0, 1) := by decide +kernel
theorem dX6_pass_441 : decode cX6_pass 441 = .ok (.anewarray 23, 3) := by decide +kernel
theorem dX6_pass_444 : decode cX6_pass 444 = .ok (.astore 4, 2) := by decide +kernel
theorem dX6_pass_446 : decode cX6_pass 446 = .ok (.aload_n 0, 1) := by decide +kernel
theorem dX6_pass_447 : decode cX6_pass 447 = .ok (.getfield 34, 3) := by decide +kernel
theorem dX6_pass_450 : decode cX6_pass 450 = .ok (.astore 5, 2) := by decide +kernel
theorem dX6_pass_452 : decode cX6_pass 452 = .ok (.aload 5, 2) := by decide +kernel
theorem dX6_pass_454 : decode cX6_pass 454 = .ok (.arraylength, 1) := by decide +kernel
theorem dX6_pass_455 : decode cX6_pass 455 = .ok (.istore 6, 2) := by decide +kernel
theorem dX6_pass_457 : decode cX6_pass 457 = .ok (.iconst 0, 1) := by decide +kernel
theorem dX6_pass_458 : decode cX6_pass 458 = .ok (.istore 7, 2) := by decide +kernel
theorem dX6_pass_460 : decode cX6_pass 460 = .ok (.iload 7, 2) := by decide +kernel
theorem dX6_pass_462 : decode cX6_pass 462 = .ok (.iload 6, 2) := by decide +kernel
theorem dX6_pass_464 : decode cX6_pass 464 = .ok (.if_icmp .ge 32, 3) := by decide +kernel
theorem dX6_pass_467 : decode cX6_pass 467 = .ok (.aload 5, 2) := by decide +kernel
theorem dX6_pass_469 : decode cX6_pass 469 = .ok (.iload 7, 2) := by decide +kernel
theorem dX6_pass_471 : decode cX6_pass 471 = .ok (.aaload, 1) := by decide +kernel
theorem dX6_pass_472 : decode cX6_pass 472 = .ok (.astore 8, 2) := by decide +kernel
theorem dX6_pass_474 : decode cX6_pass 474 = .ok (.aload 8, 2) := by decide +kernel
theorem dX6_pass_476 : decode cX6_pass 476 = .ok (.iconst 2, 1) := by decide +kernel
theorem dX6_pass_477 : decode cX6_pass 477 = .ok (.iaload, 1) := by decide +kernel
theorem dX6_pass_478 : decode cX6_pass 478 = .ok (.ifCond .le 12, 3) := by decide +kernel
theorem dX6_pass_481 : decode cX6_pass 481 = .ok (.aload 4, 2) := by decide +kernel
theorem dX6_pass_483 : decode cX6_pass 483 = .ok (.aload 8, 2) := by decide +kernel
theorem dX6_pass_485 : decode cX6_pass 485 = .ok (.invokestatic 73, 3) := by decide +kernel
theorem dX6_pass_488 : decode cX6_pass 488 = .ok (.astore 4, 2) := by decide +kernel
theorem dX6_pass_490 : decode cX6_pass 490 = .ok (.iinc 7 1, 3) := by decide +kernel
theorem dX6_pass_493 : decode cX6_pass 493 = .ok (.goto (-33), 3) := by decide +kernel
theorem dX6_pass_496 : decode cX6_pass 496 = .ok (.aload_n 0, 1) := by decide +kernel
theorem dX6_pass_497 : decode cX6_pass 497 = .ok (.aload 4, 2) := by decide +kernel
theorem dX6_pass_499 : decode cX6_pass 499 = .ok (.putfield 34, 3) := by decide +kernel
theorem dX6_pass_502 : decode cX6_pass 502 = .ok (.aload_n 0, 1) := by decide +kernel
theorem dX6_pass_503 : decode cX6_pass 503 = .ok (.dup, 1) := by decide +kernel
theorem dX6_pass_504 : decode cX6_pass 504 = .ok (.getfield 46, 3) := by decide +kernel
theorem dX6_pass_507 : decode cX6_pass 507 = .ok (.iconst 1, 1) := by decide +kernel
theorem dX6_pass_508 : decode cX6_pass 508 = .ok (.iadd, 1) := by decide +kernel
theorem dX6_pass_509 : decode cX6_pass 509 = .ok (.putfield 46, 3) := by decide +kernel
theorem dX6_pass_512 : decode cX6_pass 512 = .ok (.iload_n 2, 1) := by decide +kernel
theorem dX6_pass_513 : decode cX6_pass 513 = .ok (.ireturn, 1) := by decide +kernel
set_option maxRecDepth 20000 in
theorem ggX6_told_X6_free : GoodIn wsX6_told wsX6_free := goodIn_r _ [15, 6, 9, 16, 17, 18, 19, 20, 21, 22, 23, 24, 25, 26, 27] (by decide +kernel) (by decide +kernel)
set_option maxRecDepth 20000 in
theorem gX6_told_X6_free : GoodIn wsX6_told (wsV RX6 59 RX6 yX6_free wsX6_free) := goodIn_app (goodIn_of _ (by decide +kernel)) ggX6_told_X6_free
theorem dX6_told_0 : decode cX6_told 0 = .ok (.iconst 0, 1) := by decide +kernel
theorem dX6_told_1 : decode cX6_told 1 = .ok (.istore_n 2, 1) := by decide +kernel
theorem dX6_told_2 : decode cX6_told 2 = .ok (.aload_n 0, 1) := by decide +kernel
theorem dX6_told_3 : decode cX6_told 3 = .ok (.getfield 38, 3) := by decide +kernel
theorem dX6_told_6 : decode cX6_told 6 = .ok (.astore_n 3, 1) := by decide +kernel
theorem dX6_told_7 : decode cX6_told 7 = .ok (.aload_n 3, 1) := by decide +kernel
theorem dX6_told_8 : decode cX6_told 8 = .ok (.arraylength, 1) := by decide +kernel
theorem dX6_told_9 : decode cX6_told 9 = .ok (.istore 4, 2) := by decide +kernel
theorem dX6_told_11 : decode cX6_told 11 = .ok (.iconst 0, 1) := by decide +kernel
theorem dX6_told_12 : decode cX6_told 12 = .ok (.istore 5, 2) := by decide +kernel
theorem dX6_told_14 : decode cX6_told 14 = .ok (.iload 5, 2) := by decide +kernel
theorem dX6_told_16 : decode cX6_told 16 = .ok (.iload 4, 2) := by decide +kernel
theorem dX6_told_18 : decode cX6_told 18 = .ok (.if_icmp .ge 32, 3) := by decide +kernel
theorem dX6_told_21 : decode cX6_told 21 = .ok (.aload_n 3, 1) := by decide +kernel
theorem dX6_told_22 : decode cX6_told 22 = .ok (.iload 5, 2) := by decide +kernel
theorem dX6_told_24 : decode cX6_told 24 = .ok (.aaload, 1) := by decide +kernel
theorem dX6_told_25 : decode cX6_told 25 = .ok (.astore 6, 2) := by decide +kernel
theorem dX6_told_27 : decode cX6_told 27 = .ok (.iload_n 2, 1) := by decide +kernel
theorem dX6_told_28 : decode cX6_told 28 = .ok (.aload 6, 2) := by decide +kernel
theorem dX6_told_30 : decode cX6_told 30 = .ok (.iconst 0, 1) := by decide +kernel
theorem dX6_told_31 : decode cX6_told 31 = .ok (.iaload, 1) := by decide +kernel
theorem dX6_told_32 : decode cX6_told 32 = .ok (.aload 6, 2) := by decide +kernel
theorem dX6_told_34 : decode cX6_told 34 = .ok (.iconst 1, 1) := by decide +kernel
theorem dX6_told_35 : decode cX6_told 35 = .ok (.iaload, 1) := by decide +kernel
theorem dX6_told_36 : decode cX6_told 36 = .ok (.iadd, 1) := by decide +kernel
theorem dX6_told_37 : decode cX6_told 37 = .ok (.aload 6, 2) := by decide +kernel
theorem dX6_told_39 : decode cX6_told 39 = .ok (.iconst 2, 1) := by decide +kernel
theorem dX6_told_40 : decode cX6_told 40 = .ok (.iaload, 1) := by decide +kernel
theorem dX6_told_41 : decode cX6_told 41 = .ok (.iadd, 1) := by decide +kernel
theorem dX6_told_42 : decode cX6_told 42 = .ok (.iadd, 1) := by decide +kernel
theorem dX6_told_43 : decode cX6_told 43 = .ok (.istore_n 2, 1) := by decide +kernel
theorem dX6_told_44 : decode cX6_told 44 = .ok (.iinc 5 1, 3) := by decide +kernel
theorem dX6_told_47 : decode cX6_told 47 = .ok (.goto (-33), 3) := by decide +kernel
theorem dX6_told_50 : decode cX6_told 50 = .ok (.iconst 0, 1) := by decide +kernel
theorem dX6_told_51 : decode cX6_told 51 = .ok (.istore_n 3, 1) := by decide +kernel
theorem dX6_told_52 : decode cX6_told 52 = .ok (.aload_n 0, 1) := by decide +kernel
theorem dX6_told_53 : decode cX6_told 53 = .ok (.getfield 24, 3) := by decide +kernel
theorem dX6_told_56 : decode cX6_told 56 = .ok (.astore 4, 2) := by decide +kernel
theorem dX6_told_58 : decode cX6_told 58 = .ok (.aload 4, 2) := by decide +kernel
theorem dX6_told_60 : decode cX6_told 60 = .ok (.arraylength, 1) := by decide +kernel
theorem dX6_told_61 : decode cX6_told 61 = .ok (.istore 5, 2) := by decide +kernel
theorem dX6_told_63 : decode cX6_told 63 = .ok (.iconst 0, 1) := by decide +kernel
theorem dX6_told_64 : decode cX6_told 64 = .ok (.istore 6, 2) := by decide +kernel
theorem dX6_told_66 : decode cX6_told 66 = .ok (.iload 6, 2) := by decide +kernel
theorem dX6_told_68 : decode cX6_told 68 = .ok (.iload 5, 2) := by decide +kernel
theorem dX6_told_70 : decode cX6_told 70 = .ok (.if_icmp .ge 23, 3) := by decide +kernel
theorem dX6_told_73 : decode cX6_told 73 = .ok (.aload 4, 2) := by decide +kernel
theorem dX6_told_75 : decode cX6_told 75 = .ok (.iload 6, 2) := by decide +kernel
theorem dX6_told_77 : decode cX6_told 77 = .ok (.aaload, 1) := by decide +kernel
theorem dX6_told_78 : decode cX6_told 78 = .ok (.astore 7, 2) := by decide +kernel
theorem dX6_told_80 : decode cX6_told 80 = .ok (.iload_n 3, 1) := by decide +kernel
theorem dX6_told_81 : decode cX6_told 81 = .ok (.aload 7, 2) := by decide +kernel
theorem dX6_told_83 : decode cX6_told 83 = .ok (.iconst 0, 1) := by decide +kernel
theorem dX6_told_84 : decode cX6_told 84 = .ok (.iaload, 1) := by decide +kernel
theorem dX6_told_85 : decode cX6_told 85 = .ok (.iadd, 1) := by decide +kernel
theorem dX6_told_86 : decode cX6_told 86 = .ok (.istore_n 3, 1) := by decide +kernel
theorem dX6_told_87 : decode cX6_told 87 = .ok (.iinc 6 1, 3) := by decide +kernel
theorem dX6_told_90 : decode cX6_told 90 = .ok (.goto (-24), 3) := by decide +kernel
theorem dX6_told_93 : decode cX6_told 93 = .ok (.bipush 12, 2) := by decide +kernel
theorem dX6_told_95 : decode cX6_told 95 = .ok (.newarray .int, 2) := by decide +kernel
theorem dX6_told_97 : decode cX6_told 97 = .ok (.dup, 1) := by decide +kernel
theorem dX6_told_98 : decode cX6_told 98 = .ok (.iconst 0, 1) := by decide +kernel
theorem dX6_told_99 : decode cX6_told 99 = .ok (.aload_n 0, 1) := by decide +kernel
theorem dX6_told_100 : decode cX6_told 100 = .ok (.getfield 46, 3) := by decide +kernel
theorem dX6_told_103 : decode cX6_told 103 = .ok (.iastore, 1) := by decide +kernel
theorem dX6_told_104 : decode cX6_told 104 = .ok (.dup, 1) := by decide +kernel
theorem dX6_told_105 : decode cX6_told 105 = .ok (.iconst 1, 1) := by decide +kernel
theorem dX6_told_106 : decode cX6_told 106 = .ok (.aload_n 0, 1) := by decide +kernel
theorem dX6_told_107 : decode cX6_told 107 = .ok (.getfield 7, 3) := by decide +kernel
theorem dX6_told_110 : decode cX6_told 110 = .ok (.iastore, 1) := by decide +kernel
theorem dX6_told_111 : decode cX6_told 111 = .ok (.dup, 1) := by decide +kernel
theorem dX6_told_112 : decode cX6_told 112 = .ok (.iconst 2, 1) := by decide +kernel
theorem dX6_told_113 : decode cX6_told 113 = .ok (.aload_n 0, 1) := by decide +kernel
theorem dX6_told_114 : decode cX6_told 114 = .ok (.getfield 13, 3) := by decide +kernel
theorem dX6_told_117 : decode cX6_told 117 = .ok (.iastore, 1) := by decide +kernel
theorem dX6_told_118 : decode cX6_told 118 = .ok (.dup, 1) := by decide +kernel
theorem dX6_told_119 : decode cX6_told 119 = .ok (.iconst 3, 1) := by decide +kernel
theorem dX6_told_120 : decode cX6_told 120 = .ok (.aload_n 0, 1) := by decide +kernel
theorem dX6_told_121 : decode cX6_told 121 = .ok (.invokevirtual 59, 3) := by decide +kernel
theorem dX6_told_124 : decode cX6_told 124 = .ok (.iastore, 1) := by decide +kernel
theorem dX6_told_125 : decode cX6_told 125 = .ok (.dup, 1) := by decide +kernel
theorem dX6_told_126 : decode cX6_told 126 = .ok (.iconst 4, 1) := by decide +kernel
theorem dX6_told_127 : decode cX6_told 127 = .ok (.aload_n 0, 1) := by decide +kernel
theorem dX6_told_128 : decode cX6_told 128 = .ok (.getfield 49, 3) := by decide +kernel
theorem dX6_told_131 : decode cX6_told 131 = .ok (.iastore, 1) := by decide +kernel
theorem dX6_told_132 : decode cX6_told 132 = .ok (.dup, 1) := by decide +kernel
theorem dX6_told_133 : decode cX6_told 133 = .ok (.iconst 5, 1) := by decide +kernel
theorem dX6_told_134 : decode cX6_told 134 = .ok (.aload_n 0, 1) := by decide +kernel
theorem dX6_told_135 : decode cX6_told 135 = .ok (.getfield 52, 3) := by decide +kernel
theorem dX6_told_138 : decode cX6_told 138 = .ok (.iastore, 1) := by decide +kernel
theorem dX6_told_139 : decode cX6_told 139 = .ok (.dup, 1) := by decide +kernel
theorem dX6_told_140 : decode cX6_told 140 = .ok (.bipush 6, 2) := by decide +kernel
theorem dX6_told_142 : decode cX6_told 142 = .ok (.aload_n 0, 1) := by decide +kernel
theorem dX6_told_143 : decode cX6_told 143 = .ok (.getfield 34, 3) := by decide +kernel
theorem dX6_told_146 : decode cX6_told 146 = .ok (.arraylength, 1) := by decide +kernel
theorem dX6_told_147 : decode cX6_told 147 = .ok (.iastore, 1) := by decide +kernel
theorem dX6_told_148 : decode cX6_told 148 = .ok (.dup, 1) := by decide +kernel
theorem dX6_told_149 : decode cX6_told 149 = .ok (.bipush 7, 2) := by decide +kernel
theorem dX6_told_151 : decode cX6_told 151 = .ok (.iload_n 2, 1) := by decide +kernel
theorem dX6_told_152 : decode cX6_told 152 = .ok (.iastore, 1) := by decide +kernel
theorem dX6_told_153 : decode cX6_told 153 = .ok (.dup, 1) := by decide +kernel
theorem dX6_told_154 : decode cX6_told 154 = .ok (.bipush 8, 2) := by decide +kernel
theorem dX6_told_156 : decode cX6_told 156 = .ok (.iload_n 3, 1) := by decide +kernel
theorem dX6_told_157 : decode cX6_told 157 = .ok (.iastore, 1) := by decide +kernel
theorem dX6_told_158 : decode cX6_told 158 = .ok (.dup, 1) := by decide +kernel
theorem dX6_told_159 : decode cX6_told 159 = .ok (.bipush 9, 2) := by decide +kernel
theorem dX6_told_161 : decode cX6_told 161 = .ok (.aload_n 0, 1) := by decide +kernel
theorem dX6_told_162 : decode cX6_told 162 = .ok (.getfield 20, 3) := by decide +kernel
theorem dX6_told_165 : decode cX6_told 165 = .ok (.iconst 0, 1) := by decide +kernel
theorem dX6_told_166 : decode cX6_told 166 = .ok (.iaload, 1) := by decide +kernel
theorem dX6_told_167 : decode cX6_told 167 = .ok (.iastore, 1) := by decide +kernel
theorem dX6_told_168 : decode cX6_told 168 = .ok (.dup, 1) := by decide +kernel
theorem dX6_told_169 : decode cX6_told 169 = .ok (.bipush 10, 2) := by decide +kernel
theorem dX6_told_171 : decode cX6_told 171 = .ok (.aload_n 0, 1) := by decide +kernel
theorem dX6_told_172 : decode cX6_told 172 = .ok (.getfield 20, 3) := by decide +kernel
theorem dX6_told_175 : decode cX6_told 175 = .ok (.iconst 1, 1) := by decide +kernel
theorem dX6_told_176 : decode cX6_told 176 = .ok (.iaload, 1) := by decide +kernel
theorem dX6_told_177 : decode cX6_told 177 = .ok (.iastore, 1) := by decide +kernel
theorem dX6_told_178 : decode cX6_told 178 = .ok (.dup, 1) := by decide +kernel
theorem dX6_told_179 : decode cX6_told 179 = .ok (.bipush 11, 2) := by decide +kernel
theorem dX6_told_181 : decode cX6_told 181 = .ok (.aload_n 0, 1) := by decide +kernel
theorem dX6_told_182 : decode cX6_told 182 = .ok (.getfield 20, 3) := by decide +kernel
theorem dX6_told_185 : decode cX6_told 185 = .ok (.iconst 2, 1) := by decide +kernel
theorem dX6_told_186 : decode cX6_told 186 = .ok (.iaload, 1) := by decide +kernel
theorem dX6_told_187 : decode cX6_told 187 = .ok (.iastore, 1) := by decide +kernel
theorem dX6_told_188 : decode cX6_told 188 = .ok (.astore 4, 2) := by decide +kernel
theorem dX6_told_190 : decode cX6_told 190 = .ok (.aload 4, 2) := by decide +kernel
theorem dX6_told_192 : decode cX6_told 192 = .ok (.iload_n 1, 1) := by decide +kernel
theorem dX6_told_193 : decode cX6_told 193 = .ok (.iaload, 1) := by decide +kernel
theorem dX6_told_194 : decode cX6_told 194 = .ok (.ireturn, 1) := by decide +kernel
set_option maxRecDepth 20000 in
theorem ggX6_isSame_X5_about : GoodIn wsX6_isSame wsX5_about := goodIn_ca (goodIn_r _ [10, 11, 12, 13, 14, 15, 9, 16, 17, 18, 19, 20, 21, 22, 23, 24, 25, 26, 27, 28, 29, 30, 31, 32, 33, 34, 35, 36, 223, 224, 225, 226, 227, 228, 229, 230, 231, 232, 233, 234, 235, 236, 237, 238, 239] (by decide +kernel) (by decide +kernel)) (goodIn_sub (fun _ h => List.mem_cons_of_mem _ (List.mem_append_right _ h)) (by decide +kernel))
set_option maxRecDepth 20000 in
theorem gX6_isSame_X5_about : GoodIn wsX6_isSame (wsV RX6 80 RX5 yX5_about wsX5_about) := goodIn_app (goodIn_of _ (by decide +kernel)) ggX6_isSame_X5_about
set_option maxRecDepth 20000 in
theorem ggX6_isSame_X5_mould : GoodIn wsX6_isSame wsX5_mould := goodIn_ca (goodIn_r _ [40, 11, 12, 13, 41, 42, 43, 44, 45, 46, 14, 15, 9, 16, 47, 48, 49, 50, 51, 52, 53, 54, 55, 56, 57, 58, 59, 60, 61, 62, 63, 64, 65, 66, 67, 68, 69, 70, 71, 72, 73, 74, 75, 76, 77, 78, 79, 80, 81, 82, 83, 84, 223, 224, 225, 226, 227, 228, 229, 230, 231, 232, 233, 234, 235, 236, 240, 241, 242, 243, 244, 245, 246, 247] (by decide +kernel) (by decide +kernel)) (goodIn_sub (fun _ h => List.mem_cons_of_mem _ (List.mem_append_right _ h)) (by decide +kernel))
set_option maxRecDepth 20000 in
theorem gX6_isSame_X5_mould : GoodIn wsX6_isSame (wsV RX6 85 RX5 yX5_mould wsX5_mould) := goodIn_app (goodIn_of _ (by decide +kernel)) ggX6_isSame_X5_mould
set_option maxRecDepth 20000 in
theorem ggX6_isSame_X5_told : GoodIn wsX6_isSame wsX5_told := goodIn_ca (goodIn_r _ [88, 11, 12, 13, 89, 82, 83, 73, 84, 75, 14, 15, 9, 16, 90, 91, 92, 50, 93, 53, 94, 95, 96, 97, 98, 81, 99, 100, 101, 102, 103, 104, 77, 78, 79, 80, 105, 106, 107, 108, 109, 52, 110, 111, 112, 113, 114, 28, 29, 20, 30, 31, 60, 61, 62, 44, 63, 64, 59, 42, 43, 45, 46, 115, 116, 117, 118, 119, 120, 121, 23, 24, 25, 26, 223, 224, 225, 226, 227, 228, 229, 230, 231, 232, 233, 234, 235, 236, 244, 245, 246, 247, 237, 238, 239, 240, 241, 242, 243, 248, 249, 250, 251, 252] (by decide +kernel) (by decide +kernel)) (goodIn_sub (fun _ h => List.mem_cons_of_mem _ (List.mem_append_right _ h)) (by decide +kernel))
set_option maxRecDepth 20000 in
theorem gX6_isSame_X5_told : GoodIn wsX6_isSame (wsV RX6 88 RX5 yX5_told wsX5_told) := goodIn_app (goodIn_of _ (by decide +kernel)) ggX6_isSame_X5_told
set_option maxRecDepth 20000 in
theorem ggX6_isSame_X6_makes : GoodIn wsX6_isSame wsX6_makes := goodIn_r _ [126, 1, 2, 127, 128, 129, 125, 130, 131, 4, 211, 212, 213, 214, 215, 216, 217, 218, 219, 220, 221, 222] (by decide +kernel) (by decide +kernel)
set_option maxRecDepth 20000 in
theorem gX6_isSame_X6_makes : GoodIn wsX6_isSame (wsV RX6 69 RX6 yX6_makes wsX6_makes) := goodIn_app (goodIn_of _ (by decide +kernel)) ggX6_isSame_X6_makes
set_option maxRecDepth 20000 in
theorem ggX6_isSame_X5_post : GoodIn wsX6_isSame wsX5_post := goodIn_ca (goodIn_r _ [135, 11, 12, 13, 136, 137, 138, 139, 140, 141, 14, 15, 9, 16, 142, 143, 144, 145, 146, 147, 148, 149, 150, 151, 152, 153, 154, 155, 156, 157, 158, 159, 160, 161, 223, 224, 225, 226, 227, 228, 229, 230, 231, 232, 233, 234, 235, 236, 248, 249, 250, 251, 252] (by decide +kernel) (by decide +kernel)) (goodIn_sub (fun _ h => List.mem_cons_of_mem _ (List.mem_append_right _ h)) (by decide +kernel))
set_option maxRecDepth 20000 in
theorem gX6_isSame_X5_post : GoodIn wsX6_isSame (wsV RX6 91 RX5 yX5_post wsX5_post) := goodIn_app (goodIn_of _ (by decide +kernel)) ggX6_isSame_X5_post
set_option maxRecDepth 20000 in
theorem ggX6_isSame_X5_loft : GoodIn wsX6_isSame wsX5_loft := goodIn_ca (goodIn_r _ [165, 11, 12, 13, 14, 15, 9, 16, 166, 167, 168, 50, 169, 170, 223, 224, 225, 226, 227, 228, 229, 230, 231, 232, 233, 234, 235, 236] (by decide +kernel) (by decide +kernel)) (goodIn_sub (fun _ h => List.mem_cons_of_mem _ (List.mem_append_right _ h)) (by decide +kernel))
set_option maxRecDepth 20000 in
theorem gX6_isSame_X5_loft : GoodIn wsX6_isSame (wsV RX6 94 RX5 yX5_loft wsX5_loft) := goodIn_app (goodIn_of _ (by decide +kernel)) ggX6_isSame_X5_loft
set_option maxRecDepth 20000 in
theorem ggX6_isSame_X5_count : GoodIn wsX6_isSame wsX5_count := goodIn_ca (goodIn_r _ [174, 11, 12, 13, 14, 15, 9, 16, 175, 176, 177, 50, 178, 179, 180, 119, 181, 182, 120, 109, 115, 116, 117, 118, 183, 184, 185, 186, 170, 187, 188, 189, 20, 190, 26, 191, 192, 193, 194, 195, 223, 224, 225, 226, 227, 228, 229, 230, 231, 232, 233, 234, 235, 236, 248, 249, 250, 251, 252, 237, 238, 239] (by decide +kernel) (by decide +kernel)) (goodIn_sub (fun _ h => List.mem_cons_of_mem _ (List.mem_append_right _ h)) (by decide +kernel))
set_option maxRecDepth 20000 in
theorem gX6_isSame_X5_count : GoodIn wsX6_isSame (wsV RX6 96 RX5 yX5_count wsX5_count) := goodIn_app (goodIn_of _ (by decide +kernel)) ggX6_isSame_X5_count
set_option maxRecDepth 20000 in
theorem ggX6_isSame_X6_told : GoodIn wsX6_isSame wsX6_told := goodIn_r _ [199, 5, 1, 200, 201, 202, 131, 203, 204, 4, 205, 127, 128, 129, 125, 130, 211, 212, 213, 214, 215, 216, 217, 218, 219, 220, 221, 222] (by decide +kernel) (by decide +kernel)
set_option maxRecDepth 20000 in
theorem gX6_isSame_X6_told : GoodIn wsX6_isSame (wsV RX6 99 RX6 yX6_told wsX6_told) := goodIn_app (goodIn_of _ (by decide +kernel)) ggX6_isSame_X6_told
set_option maxRecDepth 20000 in
theorem ggX6_isSame_X5_mean : GoodIn wsX6_isSame wsX5_mean := goodIn_r _ [209, 13, 210, 66, 67, 44, 68, 69, 59, 42, 43, 45, 46, 223, 224, 225, 226, 227, 228, 229, 230, 231, 232, 233, 234, 235, 236, 240, 241, 242, 243] (by decide +kernel) (by decide +kernel)
set_option maxRecDepth 20000 in
theorem gX6_isSame_X5_mean : GoodIn wsX6_isSame (wsV RX6 101 RX5 yX5_mean wsX5_mean) := goodIn_app (goodIn_of _ (by decide +kernel)) ggX6_isSame_X5_mean
theorem dX6_isSame_0 : decode cX6_isSame 0 = .ok (.iconst 0, 1) := by decide +kernel
theorem dX6_isSame_1 : decode cX6_isSame 1 = .ok (.istore_n 2, 1) := by decide +kernel
theorem dX6_isSame_2 : decode cX6_isSame 2 = .ok (.iload_n 2, 1) := by decide +kernel
theorem dX6_isSame_3 : decode cX6_isSame 3 = .ok (.iconst 4, 1) := by decide +kernel
theorem dX6_isSame_4 : decode cX6_isSame 4 = .ok (.if_icmp .ge 41, 3) := by decide +kernel
theorem dX6_isSame_7 : decode cX6_isSame 7 = .ok (.iconst 0, 1) := by decide +kernel
theorem dX6_isSame_8 : decode cX6_isSame 8 = .ok (.istore_n 3, 1) := by decide +kernel
theorem dX6_isSame_9 : decode cX6_isSame 9 = .ok (.iload_n 3, 1) := by decide +kernel
theorem dX6_isSame_10 : decode cX6_isSame 10 = .ok (.iconst 3, 1) := by decide +kernel
theorem dX6_isSame_11 : decode cX6_isSame 11 = .ok (.if_icmp .ge 28, 3) := by decide +kernel
theorem dX6_isSame_14 : decode cX6_isSame 14 = .ok (.aload_n 1, 1) := by decide +kernel
theorem dX6_isSame_15 : decode cX6_isSame 15 = .ok (.iload_n 2, 1) := by decide +kernel
theorem dX6_isSame_16 : decode cX6_isSame 16 = .ok (.iload_n 3, 1) := by decide +kernel
theorem dX6_isSame_17 : decode cX6_isSame 17 = .ok (.invokevirtual 80, 3) := by decide +kernel
theorem dX6_isSame_20 : decode cX6_isSame 20 = .ok (.aload_n 0, 1) := by decide +kernel
theorem dX6_isSame_21 : decode cX6_isSame 21 = .ok (.getfield 24, 3) := by decide +kernel
theorem dX6_isSame_24 : decode cX6_isSame 24 = .ok (.iload_n 2, 1) := by decide +kernel
theorem dX6_isSame_25 : decode cX6_isSame 25 = .ok (.aaload, 1) := by decide +kernel
theorem dX6_isSame_26 : decode cX6_isSame 26 = .ok (.iload_n 3, 1) := by decide +kernel
theorem dX6_isSame_27 : decode cX6_isSame 27 = .ok (.iaload, 1) := by decide +kernel
theorem dX6_isSame_28 : decode cX6_isSame 28 = .ok (.if_icmp .eq 5, 3) := by decide +kernel
theorem dX6_isSame_31 : decode cX6_isSame 31 = .ok (.iconst 0, 1) := by decide +kernel
theorem dX6_isSame_32 : decode cX6_isSame 32 = .ok (.ireturn, 1) := by decide +kernel
theorem dX6_isSame_33 : decode cX6_isSame 33 = .ok (.iinc 3 1, 3) := by decide +kernel
theorem dX6_isSame_36 : decode cX6_isSame 36 = .ok (.goto (-27), 3) := by decide +kernel
theorem dX6_isSame_39 : decode cX6_isSame 39 = .ok (.iinc 2 1, 3) := by decide +kernel
theorem dX6_isSame_42 : decode cX6_isSame 42 = .ok (.goto (-40), 3) := by decide +kernel
theorem dX6_isSame_45 : decode cX6_isSame 45 = .ok (.iconst 0, 1) := by decide +kernel
theorem dX6_isSame_46 : decode cX6_isSame 46 = .ok (.istore_n 2, 1) := by decide +kernel
theorem dX6_isSame_47 : decode cX6_isSame 47 = .ok (.iconst 0, 1) := by decide +kernel
theorem dX6_isSame_48 : decode cX6_isSame 48 = .ok (.istore_n 3, 1) := by decide +kernel
theorem dX6_isSame_49 : decode cX6_isSame 49 = .ok (.iload_n 3, 1) := by decide +kernel
theorem dX6_isSame_50 : decode cX6_isSame 50 = .ok (.aload_n 0, 1) := by decide +kernel
theorem dX6_isSame_51 : decode cX6_isSame 51 = .ok (.getfield 28, 3) := by decide +kernel
theorem dX6_isSame_54 : decode cX6_isSame 54 = .ok (.arraylength, 1) := by decide +kernel
theorem dX6_isSame_55 : decode cX6_isSame 55 = .ok (.if_icmp .ge 108, 3) := by decide +kernel
theorem dX6_isSame_58 : decode cX6_isSame 58 = .ok (.iconst (-1), 1) := by decide +kernel
theorem dX6_isSame_59 : decode cX6_isSame 59 = .ok (.istore 4, 2) := by decide +kernel
theorem dX6_isSame_61 : decode cX6_isSame 61 = .ok (.iconst 0, 1) := by decide +kernel
theorem dX6_isSame_62 : decode cX6_isSame 62 = .ok (.istore 5, 2) := by decide +kernel
theorem dX6_isSame_64 : decode cX6_isSame 64 = .ok (.iload 5, 2) := by decide +kernel
theorem dX6_isSame_66 : decode cX6_isSame 66 = .ok (.aload_n 0, 1) := by decide +kernel
theorem dX6_isSame_67 : decode cX6_isSame 67 = .ok (.getfield 31, 3) := by decide +kernel
theorem dX6_isSame_70 : decode cX6_isSame 70 = .ok (.arraylength, 1) := by decide +kernel
theorem dX6_isSame_71 : decode cX6_isSame 71 = .ok (.if_icmp .ge 26, 3) := by decide +kernel
theorem dX6_isSame_74 : decode cX6_isSame 74 = .ok (.aload_n 0, 1) := by decide +kernel
theorem dX6_isSame_75 : decode cX6_isSame 75 = .ok (.getfield 31, 3) := by decide +kernel
theorem dX6_isSame_78 : decode cX6_isSame 78 = .ok (.iload 5, 2) := by decide +kernel
theorem dX6_isSame_80 : decode cX6_isSame 80 = .ok (.aaload, 1) := by decide +kernel
theorem dX6_isSame_81 : decode cX6_isSame 81 = .ok (.iconst 2, 1) := by decide +kernel
theorem dX6_isSame_82 : decode cX6_isSame 82 = .ok (.iaload, 1) := by decide +kernel
theorem dX6_isSame_83 : decode cX6_isSame 83 = .ok (.iload_n 3, 1) := by decide +kernel
theorem dX6_isSame_84 : decode cX6_isSame 84 = .ok (.if_icmp .ne 7, 3) := by decide +kernel
theorem dX6_isSame_87 : decode cX6_isSame 87 = .ok (.iload 5, 2) := by decide +kernel
theorem dX6_isSame_89 : decode cX6_isSame 89 = .ok (.istore 4, 2) := by decide +kernel
theorem dX6_isSame_91 : decode cX6_isSame 91 = .ok (.iinc 5 1, 3) := by decide +kernel
theorem dX6_isSame_94 : decode cX6_isSame 94 = .ok (.goto (-30), 3) := by decide +kernel
theorem dX6_isSame_97 : decode cX6_isSame 97 = .ok (.iconst 0, 1) := by decide +kernel
theorem dX6_isSame_98 : decode cX6_isSame 98 = .ok (.istore 5, 2) := by decide +kernel
theorem dX6_isSame_100 : decode cX6_isSame 100 = .ok (.iload 5, 2) := by decide +kernel
theorem dX6_isSame_102 : decode cX6_isSame 102 = .ok (.iconst 3, 1) := by decide +kernel
theorem dX6_isSame_103 : decode cX6_isSame 103 = .ok (.if_icmp .ge 30, 3) := by decide +kernel
theorem dX6_isSame_106 : decode cX6_isSame 106 = .ok (.aload_n 1, 1) := by decide +kernel
theorem dX6_isSame_107 : decode cX6_isSame 107 = .ok (.iload_n 3, 1) := by decide +kernel
theorem dX6_isSame_108 : decode cX6_isSame 108 = .ok (.iload 5, 2) := by decide +kernel
theorem dX6_isSame_110 : decode cX6_isSame 110 = .ok (.invokevirtual 85, 3) := by decide +kernel
theorem dX6_isSame_113 : decode cX6_isSame 113 = .ok (.aload_n 0, 1) := by decide +kernel
theorem dX6_isSame_114 : decode cX6_isSame 114 = .ok (.getfield 28, 3) := by decide +kernel
theorem dX6_isSame_117 : decode cX6_isSame 117 = .ok (.iload_n 3, 1) := by decide +kernel
theorem dX6_isSame_118 : decode cX6_isSame 118 = .ok (.aaload, 1) := by decide +kernel
theorem dX6_isSame_119 : decode cX6_isSame 119 = .ok (.iload 5, 2) := by decide +kernel
theorem dX6_isSame_121 : decode cX6_isSame 121 = .ok (.iaload, 1) := by decide +kernel
theorem dX6_isSame_122 : decode cX6_isSame 122 = .ok (.if_icmp .eq 5, 3) := by decide +kernel
theorem dX6_isSame_125 : decode cX6_isSame 125 = .ok (.iconst 0, 1) := by decide +kernel
theorem dX6_isSame_126 : decode cX6_isSame 126 = .ok (.ireturn, 1) := by decide +kernel
theorem dX6_isSame_127 : decode cX6_isSame 127 = .ok (.iinc 5 1, 3) := by decide +kernel
theorem dX6_isSame_130 : decode cX6_isSame 130 = .ok (.goto (-30), 3) := by decide +kernel
theorem dX6_isSame_133 : decode cX6_isSame 133 = .ok (.aload_n 1, 1) := by decide +kernel
theorem dX6_isSame_134 : decode cX6_isSame 134 = .ok (.iload_n 3, 1) := by decide +kernel
theorem dX6_isSame_135 : decode cX6_isSame 135 = .ok (.iconst 3, 1) := by decide +kernel
theorem dX6_isSame_136 : decode cX6_isSame 136 = .ok (.invokevirtual 85, 3) := by decide +kernel
theorem dX6_isSame_139 : decode cX6_isSame 139 = .ok (.iload 4, 2) := by decide +kernel
theorem dX6_isSame_141 : decode cX6_isSame 141 = .ok (.if_icmp .eq 5, 3) := by decide +kernel
theorem dX6_isSame_144 : decode cX6_isSame 144 = .ok (.iconst 0, 1) := by decide +kernel
theorem dX6_isSame_145 : decode cX6_isSame 145 = .ok (.ireturn, 1) := by decide +kernel
theorem dX6_isSame_146 : decode cX6_isSame 146 = .ok (.iload_n 2, 1) := by decide +kernel
theorem dX6_isSame_147 : decode cX6_isSame 147 = .ok (.aload_n 0, 1) := by decide +kernel
theorem dX6_isSame_148 : decode cX6_isSame 148 = .ok (.getfield 28, 3) := by decide +kernel
theorem dX6_isSame_151 : decode cX6_isSame 151 = .ok (.iload_n 3, 1) := by decide +kernel
theorem dX6_isSame_152 : decode cX6_isSame 152 = .ok (.aaload, 1) := by decide +kernel
theorem dX6_isSame_153 : decode cX6_isSame 153 = .ok (.iconst 2, 1) := by decide +kernel
theorem dX6_isSame_154 : decode cX6_isSame 154 = .ok (.iaload, 1) := by decide +kernel
theorem dX6_isSame_155 : decode cX6_isSame 155 = .ok (.iadd, 1) := by decide +kernel
theorem dX6_isSame_156 : decode cX6_isSame 156 = .ok (.istore_n 2, 1) := by decide +kernel
theorem dX6_isSame_157 : decode cX6_isSame 157 = .ok (.iinc 3 1, 3) := by decide +kernel
theorem dX6_isSame_160 : decode cX6_isSame 160 = .ok (.goto (-111), 3) := by decide +kernel
theorem dX6_isSame_163 : decode cX6_isSame 163 = .ok (.iconst 0, 1) := by decide +kernel
theorem dX6_isSame_164 : decode cX6_isSame 164 = .ok (.istore_n 3, 1) := by decide +kernel
theorem dX6_isSame_165 : decode cX6_isSame 165 = .ok (.iload_n 3, 1) := by decide +kernel
theorem dX6_isSame_166 : decode cX6_isSame 166 = .ok (.aload_n 0, 1) := by decide +kernel
theorem dX6_isSame_167 : decode cX6_isSame 167 = .ok (.getfield 31, 3) := by decide +kernel
theorem dX6_isSame_170 : decode cX6_isSame 170 = .ok (.arraylength, 1) := by decide +kernel
theorem dX6_isSame_171 : decode cX6_isSame 171 = .ok (.if_icmp .ge 66, 3) := by decide +kernel
theorem dX6_isSame_174 : decode cX6_isSame 174 = .ok (.iconst 0, 1) := by decide +kernel
theorem dX6_isSame_175 : decode cX6_isSame 175 = .ok (.istore 4, 2) := by decide +kernel
theorem dX6_isSame_177 : decode cX6_isSame 177 = .ok (.iload 4, 2) := by decide +kernel
theorem dX6_isSame_179 : decode cX6_isSame 179 = .ok (.iconst 3, 1) := by decide +kernel
theorem dX6_isSame_180 : decode cX6_isSame 180 = .ok (.if_icmp .ge 30, 3) := by decide +kernel
theorem dX6_isSame_183 : decode cX6_isSame 183 = .ok (.aload_n 1, 1) := by decide +kernel
theorem dX6_isSame_184 : decode cX6_isSame 184 = .ok (.iload_n 3, 1) := by decide +kernel
theorem dX6_isSame_185 : decode cX6_isSame 185 = .ok (.iload 4, 2) := by decide +kernel
theorem dX6_isSame_187 : decode cX6_isSame 187 = .ok (.invokevirtual 88, 3) := by decide +kernel
theorem dX6_isSame_190 : decode cX6_isSame 190 = .ok (.aload_n 0, 1) := by decide +kernel
theorem dX6_isSame_191 : decode cX6_isSame 191 = .ok (.getfield 31, 3) := by decide +kernel
theorem dX6_isSame_194 : decode cX6_isSame 194 = .ok (.iload_n 3, 1) := by decide +kernel
theorem dX6_isSame_195 : decode cX6_isSame 195 = .ok (.aaload, 1) := by decide +kernel
theorem dX6_isSame_196 : decode cX6_isSame 196 = .ok (.iload 4, 2) := by decide +kernel
theorem dX6_isSame_198 : decode cX6_isSame 198 = .ok (.iaload, 1) := by decide +kernel
theorem dX6_isSame_199 : decode cX6_isSame 199 = .ok (.if_icmp .eq 5, 3) := by decide +kernel
theorem dX6_isSame_202 : decode cX6_isSame 202 = .ok (.iconst 0, 1) := by decide +kernel
theorem dX6_isSame_203 : decode cX6_isSame 203 = .ok (.ireturn, 1) := by decide +kernel
theorem dX6_isSame_204 : decode cX6_isSame 204 = .ok (.iinc 4 1, 3) := by decide +kernel
theorem dX6_isSame_207 : decode cX6_isSame 207 = .ok (.goto (-30), 3) := by decide +kernel
theorem dX6_isSame_210 : decode cX6_isSame 210 = .ok (.aload_n 1, 1) := by decide +kernel
theorem dX6_isSame_211 : decode cX6_isSame 211 = .ok (.iload_n 3, 1) := by decide +kernel
theorem dX6_isSame_212 : decode cX6_isSame 212 = .ok (.iconst 3, 1) := by decide +kernel
theorem dX6_isSame_213 : decode cX6_isSame 213 = .ok (.invokevirtual 88, 3) := by decide +kernel
theorem dX6_isSame_216 : decode cX6_isSame 216 = .ok (.aload_n 0, 1) := by decide +kernel
theorem dX6_isSame_217 : decode cX6_isSame 217 = .ok (.aload_n 0, 1) := by decide +kernel
theorem dX6_isSame_218 : decode cX6_isSame 218 = .ok (.getfield 31, 3) := by decide +kernel
theorem dX6_isSame_221 : decode cX6_isSame 221 = .ok (.iload_n 3, 1) := by decide +kernel
theorem dX6_isSame_222 : decode cX6_isSame 222 = .ok (.aaload, 1) := by decide +kernel
theorem dX6_isSame_223 : decode cX6_isSame 223 = .ok (.invokevirtual 69, 3) := by decide +kernel
theorem dX6_isSame_226 : decode cX6_isSame 226 = .ok (.if_icmp .eq 5, 3) := by decide +kernel
theorem dX6_isSame_229 : decode cX6_isSame 229 = .ok (.iconst 0, 1) := by decide +kernel
theorem dX6_isSame_230 : decode cX6_isSame 230 = .ok (.ireturn, 1) := by decide +kernel
theorem dX6_isSame_231 : decode cX6_isSame 231 = .ok (.iinc 3 1, 3) := by decide +kernel
theorem dX6_isSame_234 : decode cX6_isSame 234 = .ok (.goto (-69), 3) := by decide +kernel
theorem dX6_isSame_237 : decode cX6_isSame 237 = .ok (.iconst 0, 1) := by decide +kernel
theorem dX6_isSame_238 : decode cX6_isSame 238 = .ok (.istore_n 3, 1) := by decide +kernel
theorem dX6_isSame_239 : decode cX6_isSame 239 = .ok (.iload_n 3, 1) := by decide +kernel
theorem dX6_isSame_240 : decode cX6_isSame 240 = .ok (.aload_n 0, 1) := by decide +kernel
theorem dX6_isSame_241 : decode cX6_isSame 241 = .ok (.getfield 34, 3) := by decide +kernel
theorem dX6_isSame_244 : decode cX6_isSame 244 = .ok (.arraylength, 1) := by decide +kernel
theorem dX6_isSame_245 : decode cX6_isSame 245 = .ok (.if_icmp .ge 45, 3) := by decide +kernel
theorem dX6_isSame_248 : decode cX6_isSame 248 = .ok (.iconst 0, 1) := by decide +kernel
theorem dX6_isSame_249 : decode cX6_isSame 249 = .ok (.istore 4, 2) := by decide +kernel
theorem dX6_isSame_251 : decode cX6_isSame 251 = .ok (.iload 4, 2) := by decide +kernel
theorem dX6_isSame_253 : decode cX6_isSame 253 = .ok (.iconst 3, 1) := by decide +kernel
theorem dX6_isSame_254 : decode cX6_isSame 254 = .ok (.if_icmp .ge 30, 3) := by decide +kernel
theorem dX6_isSame_257 : decode cX6_isSame 257 = .ok (.aload_n 1, 1) := by decide +kernel
theorem dX6_isSame_258 : decode cX6_isSame 258 = .ok (.iload_n 3, 1) := by decide +kernel
theorem dX6_isSame_259 : decode cX6_isSame 259 = .ok (.iload 4, 2) := by decide +kernel
theorem dX6_isSame_261 : decode cX6_isSame 261 = .ok (.invokevirtual 91, 3) := by decide +kernel
theorem dX6_isSame_264 : decode cX6_isSame 264 = .ok (.aload_n 0, 1) := by decide +kernel
theorem dX6_isSame_265 : decode cX6_isSame 265 = .ok (.getfield 34, 3) := by decide +kernel
theorem dX6_isSame_268 : decode cX6_isSame 268 = .ok (.iload_n 3, 1) := by decide +kernel
theorem dX6_isSame_269 : decode cX6_isSame 269 = .ok (.aaload, 1) := by decide +kernel
theorem dX6_isSame_270 : decode cX6_isSame 270 = .ok (.iload 4, 2) := by decide +kernel
theorem dX6_isSame_272 : decode cX6_isSame 272 = .ok (.iaload, 1) := by decide +kernel
theorem dX6_isSame_273 : decode cX6_isSame 273 = .ok (.if_icmp .eq 5, 3) := by decide +kernel
theorem dX6_isSame_276 : decode cX6_isSame 276 = .ok (.iconst 0, 1) := by decide +kernel
theorem dX6_isSame_277 : decode cX6_isSame 277 = .ok (.ireturn, 1) := by decide +kernel
theorem dX6_isSame_278 : decode cX6_isSame 278 = .ok (.iinc 4 1, 3) := by decide +kernel
theorem dX6_isSame_281 : decode cX6_isSame 281 = .ok (.goto (-30), 3) := by decide +kernel
theorem dX6_isSame_284 : decode cX6_isSame 284 = .ok (.iinc 3 1, 3) := by decide +kernel
theorem dX6_isSame_287 : decode cX6_isSame 287 = .ok (.goto (-48), 3) := by decide +kernel
theorem dX6_isSame_290 : decode cX6_isSame 290 = .ok (.iconst 0, 1) := by decide +kernel
theorem dX6_isSame_291 : decode cX6_isSame 291 = .ok (.istore_n 3, 1) := by decide +kernel
theorem dX6_isSame_292 : decode cX6_isSame 292 = .ok (.iload_n 3, 1) := by decide +kernel
theorem dX6_isSame_293 : decode cX6_isSame 293 = .ok (.bipush 10, 2) := by decide +kernel
theorem dX6_isSame_295 : decode cX6_isSame 295 = .ok (.if_icmp .ge 45, 3) := by decide +kernel
theorem dX6_isSame_298 : decode cX6_isSame 298 = .ok (.iconst 0, 1) := by decide +kernel
theorem dX6_isSame_299 : decode cX6_isSame 299 = .ok (.istore 4, 2) := by decide +kernel
theorem dX6_isSame_301 : decode cX6_isSame 301 = .ok (.iload 4, 2) := by decide +kernel
theorem dX6_isSame_303 : decode cX6_isSame 303 = .ok (.iconst 3, 1) := by decide +kernel
theorem dX6_isSame_304 : decode cX6_isSame 304 = .ok (.if_icmp .ge 30, 3) := by decide +kernel
theorem dX6_isSame_307 : decode cX6_isSame 307 = .ok (.aload_n 1, 1) := by decide +kernel
theorem dX6_isSame_308 : decode cX6_isSame 308 = .ok (.iload_n 3, 1) := by decide +kernel
theorem dX6_isSame_309 : decode cX6_isSame 309 = .ok (.iload 4, 2) := by decide +kernel
theorem dX6_isSame_311 : decode cX6_isSame 311 = .ok (.invokevirtual 94, 3) := by decide +kernel
theorem dX6_isSame_314 : decode cX6_isSame 314 = .ok (.aload_n 0, 1) := by decide +kernel
theorem dX6_isSame_315 : decode cX6_isSame 315 = .ok (.getfield 38, 3) := by decide +kernel
theorem dX6_isSame_318 : decode cX6_isSame 318 = .ok (.iload_n 3, 1) := by decide +kernel
theorem dX6_isSame_319 : decode cX6_isSame 319 = .ok (.aaload, 1) := by decide +kernel
theorem dX6_isSame_320 : decode cX6_isSame 320 = .ok (.iload 4, 2) := by decide +kernel
theorem dX6_isSame_322 : decode cX6_isSame 322 = .ok (.iaload, 1) := by decide +kernel
theorem dX6_isSame_323 : decode cX6_isSame 323 = .ok (.if_icmp .eq 5, 3) := by decide +kernel
theorem dX6_isSame_326 : decode cX6_isSame 326 = .ok (.iconst 0, 1) := by decide +kernel
theorem dX6_isSame_327 : decode cX6_isSame 327 = .ok (.ireturn, 1) := by decide +kernel
theorem dX6_isSame_328 : decode cX6_isSame 328 = .ok (.iinc 4 1, 3) := by decide +kernel
theorem dX6_isSame_331 : decode cX6_isSame 331 = .ok (.goto (-30), 3) := by decide +kernel
theorem dX6_isSame_334 : decode cX6_isSame 334 = .ok (.iinc 3 1, 3) := by decide +kernel
theorem dX6_isSame_337 : decode cX6_isSame 337 = .ok (.goto (-45), 3) := by decide +kernel
theorem dX6_isSame_340 : decode cX6_isSame 340 = .ok (.iconst 0, 1) := by decide +kernel
theorem dX6_isSame_341 : decode cX6_isSame 341 = .ok (.istore_n 3, 1) := by decide +kernel
theorem dX6_isSame_342 : decode cX6_isSame 342 = .ok (.iload_n 3, 1) := by decide +kernel
theorem dX6_isSame_343 : decode cX6_isSame 343 = .ok (.bipush 12, 2) := by decide +kernel
theorem dX6_isSame_345 : decode cX6_isSame 345 = .ok (.if_icmp .ge 24, 3) := by decide +kernel
theorem dX6_isSame_348 : decode cX6_isSame 348 = .ok (.aload_n 1, 1) := by decide +kernel
theorem dX6_isSame_349 : decode cX6_isSame 349 = .ok (.iload_n 3, 1) := by decide +kernel
theorem dX6_isSame_350 : decode cX6_isSame 350 = .ok (.invokevirtual 96, 3) := by decide +kernel
theorem dX6_isSame_353 : decode cX6_isSame 353 = .ok (.aload_n 0, 1) := by decide +kernel
theorem dX6_isSame_354 : decode cX6_isSame 354 = .ok (.iload_n 3, 1) := by decide +kernel
theorem dX6_isSame_355 : decode cX6_isSame 355 = .ok (.invokevirtual 99, 3) := by decide +kernel
theorem dX6_isSame_358 : decode cX6_isSame 358 = .ok (.if_icmp .eq 5, 3) := by decide +kernel
theorem dX6_isSame_361 : decode cX6_isSame 361 = .ok (.iconst 0, 1) := by decide +kernel
theorem dX6_isSame_362 : decode cX6_isSame 362 = .ok (.ireturn, 1) := by decide +kernel
theorem dX6_isSame_363 : decode cX6_isSame 363 = .ok (.iinc 3 1, 3) := by decide +kernel
theorem dX6_isSame_366 : decode cX6_isSame 366 = .ok (.goto (-24), 3) := by decide +kernel
theorem dX6_isSame_369 : decode cX6_isSame 369 = .ok (.aload_n 1, 1) := by decide +kernel
theorem dX6_isSame_370 : decode cX6_isSame 370 = .ok (.invokevirtual 101, 3) := by decide +kernel
theorem dX6_isSame_373 : decode cX6_isSame 373 = .ok (.aload_n 0, 1) := by decide +kernel
theorem dX6_isSame_374 : decode cX6_isSame 374 = .ok (.getfield 28, 3) := by decide +kernel
theorem dX6_isSame_377 : decode cX6_isSame 377 = .ok (.arraylength, 1) := by decide +kernel
theorem dX6_isSame_378 : decode cX6_isSame 378 = .ok (.ifCond .ne 7, 3) := by decide +kernel
theorem dX6_isSame_381 : decode cX6_isSame 381 = .ok (.dconst 0, 1) := by decide +kernel
theorem dX6_isSame_382 : decode cX6_isSame 382 = .ok (.goto 12, 3) := by decide +kernel
theorem dX6_isSame_385 : decode cX6_isSame 385 = .ok (.iload_n 2, 1) := by decide +kernel
theorem dX6_isSame_386 : decode cX6_isSame 386 = .ok (.i2d, 1) := by decide +kernel
theorem dX6_isSame_387 : decode cX6_isSame 387 = .ok (.aload_n 0, 1) := by decide +kernel
theorem dX6_isSame_388 : decode cX6_isSame 388 = .ok (.getfield 28, 3) := by decide +kernel
theorem dX6_isSame_391 : decode cX6_isSame 391 = .ok (.arraylength, 1) := by decide +kernel
theorem dX6_isSame_392 : decode cX6_isSame 392 = .ok (.i2d, 1) := by decide +kernel
theorem dX6_isSame_393 : decode cX6_isSame 393 = .ok (.ddiv, 1) := by decide +kernel
theorem dX6_isSame_394 : decode cX6_isSame 394 = .ok (.dcmp .l, 1) := by decide +kernel
theorem dX6_isSame_395 : decode cX6_isSame 395 = .ok (.ifCond .ne 7, 3) := by decide +kernel
theorem dX6_isSame_398 : decode cX6_isSame 398 = .ok (.iconst 1, 1) := by decide +kernel
theorem dX6_isSame_399 : decode cX6_isSame 399 = .ok (.goto 4, 3) := by decide +kernel
theorem dX6_isSame_402 : decode cX6_isSame 402 = .ok (.iconst 0, 1) := by decide +kernel
theorem dX6_isSame_403 : decode cX6_isSame 403 = .ok (.ireturn, 1) := by decide +kernel
theorem nmX7 : ∀ a, a < 0 → ∀ b, b < 0 → a ≠ b → (TX7 a).2.1 ≠ (TX7 b).2.1 := by decide +kernel
theorem tyX7_ok : ∀ k, k < 0 → parseFieldDescriptor (TX7 k).2.2.1 = some (tyX7 k) := by decide +kernel
