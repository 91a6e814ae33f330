theorem dL_does_339 : decode cL_does 339 = .ok (.ireturn, 1) := by decide +kernel
theorem dL_does_340 : decode cL_does 340 = .ok (.aload_n 3, 1) := by decide +kernel
theorem dL_does_341 : decode cL_does 341 = .ok (.iload 4, 2) := by decide +kernel
theorem dL_does_343 : decode cL_does 343 = .ok (.invokestatic 247, 3) := by decide +kernel
theorem dL_does_346 : decode cL_does 346 = .ok (.ireturn, 1) := by decide +kernel
theorem dL_does_347 : decode cL_does 347 = .ok (.aload_n 3, 1) := by decide +kernel
theorem dL_does_348 : decode cL_does 348 = .ok (.iload 10, 2) := by decide +kernel
theorem dL_does_350 : decode cL_does 350 = .ok (.iload 11, 2) := by decide +kernel
theorem dL_does_352 : decode cL_does 352 = .ok (.iload 7, 2) := by decide +kernel
theorem dL_does_354 : decode cL_does 354 = .ok (.bipush 101, 2) := by decide +kernel
theorem dL_does_356 : decode cL_does 356 = .ok (.irem, 1) := by decide +kernel
theorem dL_does_357 : decode cL_does 357 = .ok (.invokestatic 249, 3) := by decide +kernel
theorem dL_does_360 : decode cL_does 360 = .ok (.ireturn, 1) := by decide +kernel
theorem dL_does_361 : decode cL_does 361 = .ok (.aload_n 3, 1) := by decide +kernel
theorem dL_does_362 : decode cL_does 362 = .ok (.iload 10, 2) := by decide +kernel
theorem dL_does_364 : decode cL_does 364 = .ok (.iload 11, 2) := by decide +kernel
theorem dL_does_366 : decode cL_does 366 = .ok (.invokestatic 252, 3) := by decide +kernel
theorem dL_does_369 : decode cL_does 369 = .ok (.ireturn, 1) := by decide +kernel
theorem dL_does_370 : decode cL_does 370 = .ok (.aload_n 3, 1) := by decide +kernel
theorem dL_does_371 : decode cL_does 371 = .ok (.iload 6, 2) := by decide +kernel
theorem dL_does_373 : decode cL_does 373 = .ok (.invokestatic 255, 3) := by decide +kernel
theorem dL_does_376 : decode cL_does 376 = .ok (.ireturn, 1) := by decide +kernel
theorem dL_does_377 : decode cL_does 377 = .ok (.aload_n 3, 1) := by decide +kernel
theorem dL_does_378 : decode cL_does 378 = .ok (.new 257, 3) := by decide +kernel
theorem dL_does_381 : decode cL_does 381 = .ok (.dup, 1) := by decide +kernel
theorem dL_does_382 : decode cL_does 382 = .ok (.invokespecial 259, 3) := by decide +kernel
theorem dL_does_385 : decode cL_does 385 = .ok (.ldc_w 260, 3) := by decide +kernel
theorem dL_does_388 : decode cL_does 388 = .ok (.invokevirtual 262, 3) := by decide +kernel
theorem dL_does_391 : decode cL_does 391 = .ok (.bipush 97, 2) := by decide +kernel
theorem dL_does_393 : decode cL_does 393 = .ok (.iload 8, 2) := by decide +kernel
theorem dL_does_395 : decode cL_does 395 = .ok (.bipush 26, 2) := by decide +kernel
theorem dL_does_397 : decode cL_does 397 = .ok (.irem, 1) := by decide +kernel
theorem dL_does_398 : decode cL_does 398 = .ok (.iadd, 1) := by decide +kernel
theorem dL_does_399 : decode cL_does 399 = .ok (.i2c, 1) := by decide +kernel
theorem dL_does_400 : decode cL_does 400 = .ok (.invokevirtual 266, 3) := by decide +kernel
theorem dL_does_403 : decode cL_does 403 = .ok (.iload 11, 2) := by decide +kernel
theorem dL_does_405 : decode cL_does 405 = .ok (.invokevirtual 266, 3) := by decide +kernel
theorem dL_does_408 : decode cL_does 408 = .ok (.ldc_w 269, 3) := by decide +kernel
theorem dL_does_411 : decode cL_does 411 = .ok (.invokevirtual 262, 3) := by decide +kernel
theorem dL_does_414 : decode cL_does 414 = .ok (.iload 7, 2) := by decide +kernel
theorem dL_does_416 : decode cL_does 416 = .ok (.bipush 100, 2) := by decide +kernel
theorem dL_does_418 : decode cL_does 418 = .ok (.irem, 1) := by decide +kernel
theorem dL_does_419 : decode cL_does 419 = .ok (.invokevirtual 271, 3) := by decide +kernel
theorem dL_does_422 : decode cL_does 422 = .ok (.iload 7, 2) := by decide +kernel
theorem dL_does_424 : decode cL_does 424 = .ok (.iconst 4, 1) := by decide +kernel
theorem dL_does_425 : decode cL_does 425 = .ok (.irem, 1) := by decide +kernel
theorem dL_does_426 : decode cL_does 426 = .ok (.ifCond .ne 9, 3) := by decide +kernel
theorem dL_does_429 : decode cL_does 429 = .ok (.ldc_w 274, 3) := by decide +kernel
theorem dL_does_432 : decode cL_does 432 = .ok (.goto 79, 3) := by decide +kernel
theorem dL_does_435 : decode cL_does 435 = .ok (.iload 7, 2) := by decide +kernel
theorem dL_does_437 : decode cL_does 437 = .ok (.iconst 4, 1) := by decide +kernel
theorem dL_does_438 : decode cL_does 438 = .ok (.irem, 1) := by decide +kernel
theorem dL_does_439 : decode cL_does 439 = .ok (.iconst 1, 1) := by decide +kernel
theorem dL_does_440 : decode cL_does 440 = .ok (.if_icmp .ne 30, 3) := by decide +kernel
theorem dL_does_443 : decode cL_does 443 = .ok (.new 257, 3) := by decide +kernel
theorem dL_does_446 : decode cL_does 446 = .ok (.dup, 1) := by decide +kernel
theorem dL_does_447 : decode cL_does 447 = .ok (.invokespecial 259, 3) := by decide +kernel
theorem dL_does_450 : decode cL_does 450 = .ok (.ldc_w 276, 3) := by decide +kernel
theorem dL_does_453 : decode cL_does 453 = .ok (.invokevirtual 262, 3) := by decide +kernel
theorem dL_does_456 : decode cL_does 456 = .ok (.iload 8, 2) := by decide +kernel
theorem dL_does_458 : decode cL_does 458 = .ok (.bipush 101, 2) := by decide +kernel
theorem dL_does_460 : decode cL_does 460 = .ok (.irem, 1) := by decide +kernel
theorem dL_does_461 : decode cL_does 461 = .ok (.invokevirtual 271, 3) := by decide +kernel
theorem dL_does_464 : decode cL_does 464 = .ok (.invokevirtual 278, 3) := by decide +kernel
theorem dL_does_467 : decode cL_does 467 = .ok (.goto 44, 3) := by decide +kernel
theorem dL_does_470 : decode cL_does 470 = .ok (.iload 7, 2) := by decide +kernel
theorem dL_does_472 : decode cL_does 472 = .ok (.iconst 4, 1) := by decide +kernel
theorem dL_does_473 : decode cL_does 473 = .ok (.irem, 1) := by decide +kernel
theorem dL_does_474 : decode cL_does 474 = .ok (.iconst 2, 1) := by decide +kernel
theorem dL_does_475 : decode cL_does 475 = .ok (.if_icmp .ne 33, 3) := by decide +kernel
theorem dL_does_478 : decode cL_does 478 = .ok (.new 257, 3) := by decide +kernel
theorem dL_does_481 : decode cL_does 481 = .ok (.dup, 1) := by decide +kernel
theorem dL_does_482 : decode cL_does 482 = .ok (.invokespecial 259, 3) := by decide +kernel
theorem dL_does_485 : decode cL_does 485 = .ok (.ldc_w 282, 3) := by decide +kernel
theorem dL_does_488 : decode cL_does 488 = .ok (.invokevirtual 262, 3) := by decide +kernel
theorem dL_does_491 : decode cL_does 491 = .ok (.iload 4, 2) := by decide +kernel
theorem dL_does_493 : decode cL_does 493 = .ok (.invokevirtual 271, 3) := by decide +kernel
theorem dL_does_496 : decode cL_does 496 = .ok (.ldc_w 284, 3) := by decide +kernel
theorem dL_does_499 : decode cL_does 499 = .ok (.invokevirtual 262, 3) := by decide +kernel
theorem dL_does_502 : decode cL_does 502 = .ok (.invokevirtual 278, 3) := by decide +kernel
theorem dL_does_505 : decode cL_does 505 = .ok (.goto 6, 3) := by decide +kernel
theorem dL_does_508 : decode cL_does 508 = .ok (.ldc_w 286, 3) := by decide +kernel
theorem dL_does_511 : decode cL_does 511 = .ok (.invokevirtual 262, 3) := by decide +kernel
theorem dL_does_514 : decode cL_does 514 = .ok (.invokevirtual 278, 3) := by decide +kernel
theorem dL_does_517 : decode cL_does 517 = .ok (.invokestatic 288, 3) := by decide +kernel
theorem dL_does_520 : decode cL_does 520 = .ok (.ireturn, 1) := by decide +kernel
theorem dL_does_521 : decode cL_does 521 = .ok (.aload_n 3, 1) := by decide +kernel
theorem dL_does_522 : decode cL_does 522 = .ok (.iload 5, 2) := by decide +kernel
theorem dL_does_524 : decode cL_does 524 = .ok (.iload 4, 2) := by decide +kernel
theorem dL_does_526 : decode cL_does 526 = .ok (.iload 7, 2) := by decide +kernel
theorem dL_does_528 : decode cL_does 528 = .ok (.bipush 29, 2) := by decide +kernel
theorem dL_does_530 : decode cL_does 530 = .ok (.irem, 1) := by decide +kernel
theorem dL_does_531 : decode cL_does 531 = .ok (.ifCond .ne 8, 3) := by decide +kernel
theorem dL_does_534 : decode cL_does 534 = .ok (.bipush 101, 2) := by decide +kernel
theorem dL_does_536 : decode cL_does 536 = .ok (.goto 23, 3) := by decide +kernel
theorem dL_does_539 : decode cL_does 539 = .ok (.iload 7, 2) := by decide +kernel
theorem dL_does_541 : decode cL_does 541 = .ok (.iconst 2, 1) := by decide +kernel
theorem dL_does_542 : decode cL_does 542 = .ok (.irem, 1) := by decide +kernel
theorem dL_does_543 : decode cL_does 543 = .ok (.ifCond .ne 11, 3) := by decide +kernel
theorem dL_does_546 : decode cL_does 546 = .ok (.iload 8, 2) := by decide +kernel
theorem dL_does_548 : decode cL_does 548 = .ok (.bipush 101, 2) := by decide +kernel
theorem dL_does_550 : decode cL_does 550 = .ok (.irem, 1) := by decide +kernel
theorem dL_does_551 : decode cL_does 551 = .ok (.goto 8, 3) := by decide +kernel
theorem dL_does_554 : decode cL_does 554 = .ok (.iload 8, 2) := by decide +kernel
theorem dL_does_556 : decode cL_does 556 = .ok (.bipush 60, 2) := by decide +kernel
theorem dL_does_558 : decode cL_does 558 = .ok (.irem, 1) := by decide +kernel
theorem dL_does_559 : decode cL_does 559 = .ok (.invokestatic 292, 3) := by decide +kernel
theorem dL_does_562 : decode cL_does 562 = .ok (.ireturn, 1) := by decide +kernel
theorem dL_sum_0 : decode cL_sum 0 = .ok (.ldc2_w 294, 3) := by decide +kernel
theorem dL_sum_3 : decode cL_sum 3 = .ok (.aload_n 0, 1) := by decide +kernel
theorem dL_sum_4 : decode cL_sum 4 = .ok (.invokevirtual 296, 3) := by decide +kernel
theorem dL_sum_7 : decode cL_sum 7 = .ok (.i2l, 1) := by decide +kernel
theorem dL_sum_8 : decode cL_sum 8 = .ok (.lmul, 1) := by decide +kernel
theorem dL_sum_9 : decode cL_sum 9 = .ok (.ldc2_w 299, 3) := by decide +kernel
theorem dL_sum_12 : decode cL_sum 12 = .ok (.aload_n 0, 1) := by decide +kernel
theorem dL_sum_13 : decode cL_sum 13 = .ok (.invokevirtual 188, 3) := by decide +kernel
theorem dL_sum_16 : decode cL_sum 16 = .ok (.i2l, 1) := by decide +kernel
theorem dL_sum_17 : decode cL_sum 17 = .ok (.lmul, 1) := by decide +kernel
theorem dL_sum_18 : decode cL_sum 18 = .ok (.ladd, 1) := by decide +kernel
theorem dL_sum_19 : decode cL_sum 19 = .ok (.ldc2_w 301, 3) := by decide +kernel
theorem dL_sum_22 : decode cL_sum 22 = .ok (.aload_n 0, 1) := by decide +kernel
theorem dL_sum_23 : decode cL_sum 23 = .ok (.invokevirtual 191, 3) := by decide +kernel
theorem dL_sum_26 : decode cL_sum 26 = .ok (.i2l, 1) := by decide +kernel
theorem dL_sum_27 : decode cL_sum 27 = .ok (.lmul, 1) := by decide +kernel
theorem dL_sum_28 : decode cL_sum 28 = .ok (.ladd, 1) := by decide +kernel
theorem dL_sum_29 : decode cL_sum 29 = .ok (.aload_n 0, 1) := by decide +kernel
theorem dL_sum_30 : decode cL_sum 30 = .ok (.invokevirtual 194, 3) := by decide +kernel
theorem dL_sum_33 : decode cL_sum 33 = .ok (.i2l, 1) := by decide +kernel
theorem dL_sum_34 : decode cL_sum 34 = .ok (.ladd, 1) := by decide +kernel
theorem dL_sum_35 : decode cL_sum 35 = .ok (.lstore_n 1, 1) := by decide +kernel
theorem dL_sum_36 : decode cL_sum 36 = .ok (.iconst 0, 1) := by decide +kernel
theorem dL_sum_37 : decode cL_sum 37 = .ok (.istore_n 3, 1) := by decide +kernel
theorem dL_sum_38 : decode cL_sum 38 = .ok (.iload_n 3, 1) := by decide +kernel
theorem dL_sum_39 : decode cL_sum 39 = .ok (.aload_n 0, 1) := by decide +kernel
theorem dL_sum_40 : decode cL_sum 40 = .ok (.invokevirtual 182, 3) := by decide +kernel
theorem dL_sum_43 : decode cL_sum 43 = .ok (.if_icmp .ge 55, 3) := by decide +kernel
theorem dL_sum_46 : decode cL_sum 46 = .ok (.ldc2_w 301, 3) := by decide +kernel
theorem dL_sum_49 : decode cL_sum 49 = .ok (.lload_n 1, 1) := by decide +kernel
theorem dL_sum_50 : decode cL_sum 50 = .ok (.lmul, 1) := by decide +kernel
theorem dL_sum_51 : decode cL_sum 51 = .ok (.ldc2_w 294, 3) := by decide +kernel
theorem dL_sum_54 : decode cL_sum 54 = .ok (.aload_n 0, 1) := by decide +kernel
theorem dL_sum_55 : decode cL_sum 55 = .ok (.iload_n 3, 1) := by decide +kernel
theorem dL_sum_56 : decode cL_sum 56 = .ok (.invokestatic 221, 3) := by decide +kernel
theorem dL_sum_59 : decode cL_sum 59 = .ok (.i2l, 1) := by decide +kernel
theorem dL_sum_60 : decode cL_sum 60 = .ok (.lmul, 1) := by decide +kernel
theorem dL_sum_61 : decode cL_sum 61 = .ok (.ladd, 1) := by decide +kernel
theorem dL_sum_62 : decode cL_sum 62 = .ok (.ldc2_w 299, 3) := by decide +kernel
theorem dL_sum_65 : decode cL_sum 65 = .ok (.aload_n 0, 1) := by decide +kernel
theorem dL_sum_66 : decode cL_sum 66 = .ok (.iload_n 3, 1) := by decide +kernel
theorem dL_sum_67 : decode cL_sum 67 = .ok (.invokestatic 303, 3) := by decide +kernel
theorem dL_sum_70 : decode cL_sum 70 = .ok (.i2l, 1) := by decide +kernel
theorem dL_sum_71 : decode cL_sum 71 = .ok (.lmul, 1) := by decide +kernel
theorem dL_sum_72 : decode cL_sum 72 = .ok (.ladd, 1) := by decide +kernel
theorem dL_sum_73 : decode cL_sum 73 = .ok (.ldc2_w 301, 3) := by decide +kernel
theorem dL_sum_76 : decode cL_sum 76 = .ok (.aload_n 0, 1) := by decide +kernel
theorem dL_sum_77 : decode cL_sum 77 = .ok (.iload_n 3, 1) := by decide +kernel
theorem dL_sum_78 : decode cL_sum 78 = .ok (.invokestatic 305, 3) := by decide +kernel
theorem dL_sum_81 : decode cL_sum 81 = .ok (.i2l, 1) := by decide +kernel
theorem dL_sum_82 : decode cL_sum 82 = .ok (.lmul, 1) := by decide +kernel
theorem dL_sum_83 : decode cL_sum 83 = .ok (.ladd, 1) := by decide +kernel
theorem dL_sum_84 : decode cL_sum 84 = .ok (.aload_n 0, 1) := by decide +kernel
theorem dL_sum_85 : decode cL_sum 85 = .ok (.iload_n 3, 1) := by decide +kernel
theorem dL_sum_86 : decode cL_sum 86 = .ok (.invokestatic 219, 3) := by decide +kernel
theorem dL_sum_89 : decode cL_sum 89 = .ok (.i2l, 1) := by decide +kernel
theorem dL_sum_90 : decode cL_sum 90 = .ok (.ladd, 1) := by decide +kernel
theorem dL_sum_91 : decode cL_sum 91 = .ok (.lstore_n 1, 1) := by decide +kernel
theorem dL_sum_92 : decode cL_sum 92 = .ok (.iinc 3 1, 3) := by decide +kernel
theorem dL_sum_95 : decode cL_sum 95 = .ok (.goto (-57), 3) := by decide +kernel
theorem dL_sum_98 : decode cL_sum 98 = .ok (.iconst 0, 1) := by decide +kernel
theorem dL_sum_99 : decode cL_sum 99 = .ok (.istore_n 3, 1) := by decide +kernel
theorem dL_sum_100 : decode cL_sum 100 = .ok (.iload_n 3, 1) := by decide +kernel
theorem dL_sum_101 : decode cL_sum 101 = .ok (.aload_n 0, 1) := by decide +kernel
theorem dL_sum_102 : decode cL_sum 102 = .ok (.invokevirtual 185, 3) := by decide +kernel
theorem dL_sum_105 : decode cL_sum 105 = .ok (.if_icmp .ge 44, 3) := by decide +kernel
theorem dL_sum_108 : decode cL_sum 108 = .ok (.ldc2_w 301, 3) := by decide +kernel
theorem dL_sum_111 : decode cL_sum 111 = .ok (.lload_n 1, 1) := by decide +kernel
theorem dL_sum_112 : decode cL_sum 112 = .ok (.lmul, 1) := by decide +kernel
theorem dL_sum_113 : decode cL_sum 113 = .ok (.ldc2_w 294, 3) := by decide +kernel
theorem dL_sum_116 : decode cL_sum 116 = .ok (.aload_n 0, 1) := by decide +kernel
theorem dL_sum_117 : decode cL_sum 117 = .ok (.iload_n 3, 1) := by decide +kernel
theorem dL_sum_118 : decode cL_sum 118 = .ok (.invokestatic 204, 3) := by decide +kernel
theorem dL_sum_121 : decode cL_sum 121 = .ok (.i2l, 1) := by decide +kernel
theorem dL_sum_122 : decode cL_sum 122 = .ok (.lmul, 1) := by decide +kernel
theorem dL_sum_123 : decode cL_sum 123 = .ok (.ladd, 1) := by decide +kernel
theorem dL_sum_124 : decode cL_sum 124 = .ok (.ldc2_w 299, 3) := by decide +kernel
theorem dL_sum_127 : decode cL_sum 127 = .ok (.aload_n 0, 1) := by decide +kernel
theorem dL_sum_128 : decode cL_sum 128 = .ok (.iload_n 3, 1) := by decide +kernel
theorem dL_sum_129 : decode cL_sum 129 = .ok (.invokestatic 206, 3) := by decide +kernel
theorem dL_sum_132 : decode cL_sum 132 = .ok (.i2l, 1) := by decide +kernel
theorem dL_sum_133 : decode cL_sum 133 = .ok (.lmul, 1) := by decide +kernel
theorem dL_sum_134 : decode cL_sum 134 = .ok (.ladd, 1) := by decide +kernel
theorem dL_sum_135 : decode cL_sum 135 = .ok (.aload_n 0, 1) := by decide +kernel
theorem dL_sum_136 : decode cL_sum 136 = .ok (.iload_n 3, 1) := by decide +kernel
theorem dL_sum_137 : decode cL_sum 137 = .ok (.invokestatic 213, 3) := by decide +kernel
theorem dL_sum_140 : decode cL_sum 140 = .ok (.i2l, 1) := by decide +kernel
theorem dL_sum_141 : decode cL_sum 141 = .ok (.ladd, 1) := by decide +kernel
theorem dL_sum_142 : decode cL_sum 142 = .ok (.lstore_n 1, 1) := by decide +kernel
theorem dL_sum_143 : decode cL_sum 143 = .ok (.iinc 3 1, 3) := by decide +kernel
theorem dL_sum_146 : decode cL_sum 146 = .ok (.goto (-46), 3) := by decide +kernel
theorem dL_sum_149 : decode cL_sum 149 = .ok (.iconst 0, 1) := by decide +kernel
theorem dL_sum_150 : decode cL_sum 150 = .ok (.istore_n 3, 1) := by decide +kernel
theorem dL_sum_151 : decode cL_sum 151 = .ok (.iload_n 3, 1) := by decide +kernel
theorem dL_sum_152 : decode cL_sum 152 = .ok (.bipush 100, 2) := by decide +kernel
theorem dL_sum_154 : decode cL_sum 154 = .ok (.if_icmp .ge 22, 3) := by decide +kernel
theorem dL_sum_157 : decode cL_sum 157 = .ok (.ldc2_w 301, 3) := by decide +kernel
theorem dL_sum_160 : decode cL_sum 160 = .ok (.lload_n 1, 1) := by decide +kernel
theorem dL_sum_161 : decode cL_sum 161 = .ok (.lmul, 1) := by decide +kernel
theorem dL_sum_162 : decode cL_sum 162 = .ok (.aload_n 0, 1) := by decide +kernel
theorem dL_sum_163 : decode cL_sum 163 = .ok (.iload_n 3, 1) := by decide +kernel
theorem dL_sum_164 : decode cL_sum 164 = .ok (.invokestatic 307, 3) := by decide +kernel
theorem dL_sum_167 : decode cL_sum 167 = .ok (.i2l, 1) := by decide +kernel
theorem dL_sum_168 : decode cL_sum 168 = .ok (.ladd, 1) := by decide +kernel
theorem dL_sum_169 : decode cL_sum 169 = .ok (.lstore_n 1, 1) := by decide +kernel
theorem dL_sum_170 : decode cL_sum 170 = .ok (.iinc 3 1, 3) := by decide +kernel
theorem dL_sum_173 : decode cL_sum 173 = .ok (.goto (-22), 3) := by decide +kernel
theorem dL_sum_176 : decode cL_sum 176 = .ok (.iconst 0, 1) := by decide +kernel
theorem dL_sum_177 : decode cL_sum 177 = .ok (.istore_n 3, 1) := by decide +kernel
theorem dL_sum_178 : decode cL_sum 178 = .ok (.iload_n 3, 1) := by decide +kernel
theorem dL_sum_179 : decode cL_sum 179 = .ok (.bipush 25, 2) := by decide +kernel
theorem dL_sum_181 : decode cL_sum 181 = .ok (.if_icmp .ge 35, 3) := by decide +kernel
theorem dL_sum_184 : decode cL_sum 184 = .ok (.ldc2_w 301, 3) := by decide +kernel
theorem dL_sum_187 : decode cL_sum 187 = .ok (.lload_n 1, 1) := by decide +kernel
theorem dL_sum_188 : decode cL_sum 188 = .ok (.lmul, 1) := by decide +kernel
theorem dL_sum_189 : decode cL_sum 189 = .ok (.aload_n 0, 1) := by decide +kernel
theorem dL_sum_190 : decode cL_sum 190 = .ok (.bipush 97, 2) := by decide +kernel
theorem dL_sum_192 : decode cL_sum 192 = .ok (.iload_n 3, 1) := by decide +kernel
theorem dL_sum_193 : decode cL_sum 193 = .ok (.iconst 5, 1) := by decide +kernel
theorem dL_sum_194 : decode cL_sum 194 = .ok (.idiv, 1) := by decide +kernel
theorem dL_sum_195 : decode cL_sum 195 = .ok (.iadd, 1) := by decide +kernel
theorem dL_sum_196 : decode cL_sum 196 = .ok (.i2c, 1) := by decide +kernel
theorem dL_sum_197 : decode cL_sum 197 = .ok (.bipush 97, 2) := by decide +kernel
theorem dL_sum_199 : decode cL_sum 199 = .ok (.iload_n 3, 1) := by decide +kernel
theorem dL_sum_200 : decode cL_sum 200 = .ok (.iconst 5, 1) := by decide +kernel
theorem dL_sum_201 : decode cL_sum 201 = .ok (.irem, 1) := by decide +kernel
theorem dL_sum_202 : decode cL_sum 202 = .ok (.iadd, 1) := by decide +kernel
theorem dL_sum_203 : decode cL_sum 203 = .ok (.i2c, 1) := by decide +kernel
theorem dL_sum_204 : decode cL_sum 204 = .ok (.invokestatic 309, 3) := by decide +kernel
theorem dL_sum_207 : decode cL_sum 207 = .ok (.i2l, 1) := by decide +kernel
theorem dL_sum_208 : decode cL_sum 208 = .ok (.ladd, 1) := by decide +kernel
theorem dL_sum_209 : decode cL_sum 209 = .ok (.lstore_n 1, 1) := by decide +kernel
theorem dL_sum_210 : decode cL_sum 210 = .ok (.iinc 3 1, 3) := by decide +kernel
theorem dL_sum_213 : decode cL_sum 213 = .ok (.goto (-35), 3) := by decide +kernel
theorem dL_sum_216 : decode cL_sum 216 = .ok (.lload_n 1, 1) := by decide +kernel
theorem dL_sum_217 : decode cL_sum 217 = .ok (.ldc2_w 301, 3) := by decide +kernel
theorem dL_sum_220 : decode cL_sum 220 = .ok (.aload_n 0, 1) := by decide +kernel
theorem dL_sum_221 : decode cL_sum 221 = .ok (.invokevirtual 182, 3) := by decide +kernel
theorem dL_sum_224 : decode cL_sum 224 = .ok (.i2l, 1) := by decide +kernel
theorem dL_sum_225 : decode cL_sum 225 = .ok (.lmul, 1) := by decide +kernel
theorem dL_sum_226 : decode cL_sum 226 = .ok (.ladd, 1) := by decide +kernel
theorem dL_sum_227 : decode cL_sum 227 = .ok (.lreturn, 1) := by decide +kernel
theorem dL_isPair_0 : decode cL_isPair 0 = .ok (.aload_n 0, 1) := by decide +kernel
theorem dL_isPair_1 : decode cL_isPair 1 = .ok (.iload_n 1, 1) := by decide +kernel
theorem dL_isPair_2 : decode cL_isPair 2 = .ok (.iload_n 2, 1) := by decide +kernel
theorem dL_isPair_3 : decode cL_isPair 3 = .ok (.invokestatic 311, 3) := by decide +kernel
theorem dL_isPair_6 : decode cL_isPair 6 = .ok (.istore 4, 2) := by decide +kernel
theorem dL_isPair_8 : decode cL_isPair 8 = .ok (.aload_n 0, 1) := by decide +kernel
theorem dL_isPair_9 : decode cL_isPair 9 = .ok (.iload_n 1, 1) := by decide +kernel
theorem dL_isPair_10 : decode cL_isPair 10 = .ok (.iload_n 2, 1) := by decide +kernel
theorem dL_isPair_11 : decode cL_isPair 11 = .ok (.invokestatic 313, 3) := by decide +kernel
theorem dL_isPair_14 : decode cL_isPair 14 = .ok (.iconst 1, 1) := by decide +kernel
theorem dL_isPair_15 : decode cL_isPair 15 = .ok (.if_icmp .ne 7, 3) := by decide +kernel
theorem dL_isPair_18 : decode cL_isPair 18 = .ok (.iconst 1, 1) := by decide +kernel
theorem dL_isPair_19 : decode cL_isPair 19 = .ok (.goto 4, 3) := by decide +kernel
theorem dL_isPair_22 : decode cL_isPair 22 = .ok (.iconst 0, 1) := by decide +kernel
theorem dL_isPair_23 : decode cL_isPair 23 = .ok (.istore 5, 2) := by decide +kernel
theorem dL_isPair_25 : decode cL_isPair 25 = .ok (.iload 4, 2) := by decide +kernel
theorem dL_isPair_27 : decode cL_isPair 27 = .ok (.aload_n 0, 1) := by decide +kernel
theorem dL_isPair_28 : decode cL_isPair 28 = .ok (.iload_n 2, 1) := by decide +kernel
theorem dL_isPair_29 : decode cL_isPair 29 = .ok (.iload_n 1, 1) := by decide +kernel
theorem dL_isPair_30 : decode cL_isPair 30 = .ok (.invokestatic 311, 3) := by decide +kernel
theorem dL_isPair_33 : decode cL_isPair 33 = .ok (.if_icmp .ne 70, 3) := by decide +kernel
theorem dL_isPair_36 : decode cL_isPair 36 = .ok (.iload 4, 2) := by decide +kernel
theorem dL_isPair_38 : decode cL_isPair 38 = .ok (.iload_n 1, 1) := by decide +kernel
theorem dL_isPair_39 : decode cL_isPair 39 = .ok (.if_icmp .eq 14, 3) := by decide +kernel
theorem dL_isPair_42 : decode cL_isPair 42 = .ok (.aload_n 0, 1) := by decide +kernel
theorem dL_isPair_43 : decode cL_isPair 43 = .ok (.iload 4, 2) := by decide +kernel
theorem dL_isPair_45 : decode cL_isPair 45 = .ok (.iload_n 1, 1) := by decide +kernel
theorem dL_isPair_46 : decode cL_isPair 46 = .ok (.invokestatic 313, 3) := by decide +kernel
theorem dL_isPair_49 : decode cL_isPair 49 = .ok (.iconst 1, 1) := by decide +kernel
theorem dL_isPair_50 : decode cL_isPair 50 = .ok (.if_icmp .ne 53, 3) := by decide +kernel
theorem dL_isPair_53 : decode cL_isPair 53 = .ok (.iload 4, 2) := by decide +kernel
theorem dL_isPair_55 : decode cL_isPair 55 = .ok (.iload_n 2, 1) := by decide +kernel
theorem dL_isPair_56 : decode cL_isPair 56 = .ok (.if_icmp .eq 14, 3) := by decide +kernel
theorem dL_isPair_59 : decode cL_isPair 59 = .ok (.aload_n 0, 1) := by decide +kernel
theorem dL_isPair_60 : decode cL_isPair 60 = .ok (.iload 4, 2) := by decide +kernel
theorem dL_isPair_62 : decode cL_isPair 62 = .ok (.iload_n 2, 1) := by decide +kernel
theorem dL_isPair_63 : decode cL_isPair 63 = .ok (.invokestatic 313, 3) := by decide +kernel
theorem dL_isPair_66 : decode cL_isPair 66 = .ok (.iconst 1, 1) := by decide +kernel
theorem dL_isPair_67 : decode cL_isPair 67 = .ok (.if_icmp .ne 36, 3) := by decide +kernel
theorem dL_isPair_70 : decode cL_isPair 70 = .ok (.iload 5, 2) := by decide +kernel
theorem dL_isPair_72 : decode cL_isPair 72 = .ok (.ifCond .ne 8, 3) := by decide +kernel
theorem dL_isPair_75 : decode cL_isPair 75 = .ok (.iload_n 1, 1) := by decide +kernel
theorem dL_isPair_76 : decode cL_isPair 76 = .ok (.iload_n 2, 1) := by decide +kernel
theorem dL_isPair_77 : decode cL_isPair 77 = .ok (.if_icmp .ne 7, 3) := by decide +kernel
theorem dL_isPair_80 : decode cL_isPair 80 = .ok (.iconst 1, 1) := by decide +kernel
theorem dL_isPair_81 : decode cL_isPair 81 = .ok (.goto 4, 3) := by decide +kernel
theorem dL_isPair_84 : decode cL_isPair 84 = .ok (.iconst 0, 1) := by decide +kernel
theorem dL_isPair_85 : decode cL_isPair 85 = .ok (.iload 4, 2) := by decide +kernel
theorem dL_isPair_87 : decode cL_isPair 87 = .ok (.iload_n 1, 1) := by decide +kernel
theorem dL_isPair_88 : decode cL_isPair 88 = .ok (.if_icmp .ne 7, 3) := by decide +kernel
theorem dL_isPair_91 : decode cL_isPair 91 = .ok (.iconst 1, 1) := by decide +kernel
theorem dL_isPair_92 : decode cL_isPair 92 = .ok (.goto 4, 3) := by decide +kernel
theorem dL_isPair_95 : decode cL_isPair 95 = .ok (.iconst 0, 1) := by decide +kernel
theorem dL_isPair_96 : decode cL_isPair 96 = .ok (.if_icmp .ne 7, 3) := by decide +kernel
theorem dL_isPair_99 : decode cL_isPair 99 = .ok (.iconst 1, 1) := by decide +kernel
theorem dL_isPair_100 : decode cL_isPair 100 = .ok (.goto 4, 3) := by decide +kernel
theorem dL_isPair_103 : decode cL_isPair 103 = .ok (.iconst 0, 1) := by decide +kernel
theorem dL_isPair_104 : decode cL_isPair 104 = .ok (.istore 6, 2) := by decide +kernel
theorem dL_isPair_106 : decode cL_isPair 106 = .ok (.aload_n 0, 1) := by decide +kernel
theorem dL_isPair_107 : decode cL_isPair 107 = .ok (.iload_n 1, 1) := by decide +kernel
theorem dL_isPair_108 : decode cL_isPair 108 = .ok (.iload_n 2, 1) := by decide +kernel
theorem dL_isPair_109 : decode cL_isPair 109 = .ok (.invokestatic 208, 3) := by decide +kernel
theorem dL_isPair_112 : decode cL_isPair 112 = .ok (.istore 7, 2) := by decide +kernel
theorem dL_isPair_114 : decode cL_isPair 114 = .ok (.aload_n 0, 1) := by decide +kernel
theorem dL_isPair_115 : decode cL_isPair 115 = .ok (.iload_n 1, 1) := by decide +kernel
theorem dL_isPair_116 : decode cL_isPair 116 = .ok (.iload_n 2, 1) := by decide +kernel
theorem dL_isPair_117 : decode cL_isPair 117 = .ok (.invokestatic 211, 3) := by decide +kernel
theorem dL_isPair_120 : decode cL_isPair 120 = .ok (.istore 8, 2) := by decide +kernel
theorem dL_isPair_122 : decode cL_isPair 122 = .ok (.aload_n 0, 1) := by decide +kernel
theorem dL_isPair_123 : decode cL_isPair 123 = .ok (.iload_n 1, 1) := by decide +kernel
theorem dL_isPair_124 : decode cL_isPair 124 = .ok (.iload_n 2, 1) := by decide +kernel
theorem dL_isPair_125 : decode cL_isPair 125 = .ok (.iload_n 3, 1) := by decide +kernel
theorem dL_isPair_126 : decode cL_isPair 126 = .ok (.invokestatic 315, 3) := by decide +kernel
theorem dL_isPair_129 : decode cL_isPair 129 = .ok (.istore 9, 2) := by decide +kernel
theorem dL_isPair_131 : decode cL_isPair 131 = .ok (.iload 5, 2) := by decide +kernel
theorem dL_isPair_133 : decode cL_isPair 133 = .ok (.ifCond .eq 53, 3) := by decide +kernel
theorem dL_isPair_136 : decode cL_isPair 136 = .ok (.iload 7, 2) := by decide +kernel
theorem dL_isPair_138 : decode cL_isPair 138 = .ok (.aload_n 0, 1) := by decide +kernel
theorem dL_isPair_139 : decode cL_isPair 139 = .ok (.iload_n 2, 1) := by decide +kernel
theorem dL_isPair_140 : decode cL_isPair 140 = .ok (.invokestatic 317, 3) := by decide +kernel
theorem dL_isPair_143 : decode cL_isPair 143 = .ok (.aload_n 0, 1) := by decide +kernel
theorem dL_isPair_144 : decode cL_isPair 144 = .ok (.iload_n 1, 1) := by decide +kernel
theorem dL_isPair_145 : decode cL_isPair 145 = .ok (.invokestatic 317, 3) := by decide +kernel
theorem dL_isPair_148 : decode cL_isPair 148 = .ok (.isub, 1) := by decide +kernel
theorem dL_isPair_149 : decode cL_isPair 149 = .ok (.if_icmp .ne 33, 3) := by decide +kernel
theorem dL_isPair_152 : decode cL_isPair 152 = .ok (.iload 8, 2) := by decide +kernel
theorem dL_isPair_154 : decode cL_isPair 154 = .ok (.ifCond .lt 28, 3) := by decide +kernel
theorem dL_isPair_157 : decode cL_isPair 157 = .ok (.iload 8, 2) := by decide +kernel
theorem dL_isPair_159 : decode cL_isPair 159 = .ok (.aload_n 0, 1) := by decide +kernel
theorem dL_isPair_160 : decode cL_isPair 160 = .ok (.iload_n 2, 1) := by decide +kernel
theorem dL_isPair_161 : decode cL_isPair 161 = .ok (.invokestatic 303, 3) := by decide +kernel
theorem dL_isPair_164 : decode cL_isPair 164 = .ok (.if_icmp .gt 18, 3) := by decide +kernel
theorem dL_isPair_167 : decode cL_isPair 167 = .ok (.aload_n 0, 1) := by decide +kernel
theorem dL_isPair_168 : decode cL_isPair 168 = .ok (.iload_n 1, 1) := by decide +kernel
theorem dL_isPair_169 : decode cL_isPair 169 = .ok (.iload_n 2, 1) := by decide +kernel
theorem dL_isPair_170 : decode cL_isPair 170 = .ok (.invokestatic 319, 3) := by decide +kernel
theorem dL_isPair_173 : decode cL_isPair 173 = .ok (.iload 8, 2) := by decide +kernel
theorem dL_isPair_175 : decode cL_isPair 175 = .ok (.if_icmp .ne 7, 3) := by decide +kernel
theorem dL_isPair_178 : decode cL_isPair 178 = .ok (.iconst 1, 1) := by decide +kernel
theorem dL_isPair_179 : decode cL_isPair 179 = .ok (.goto 37, 3) := by decide +kernel
theorem dL_isPair_182 : decode cL_isPair 182 = .ok (.iconst 0, 1) := by decide +kernel
theorem dL_isPair_183 : decode cL_isPair 183 = .ok (.goto 33, 3) := by decide +kernel
theorem dL_isPair_186 : decode cL_isPair 186 = .ok (.iload 7, 2) := by decide +kernel
theorem dL_isPair_188 : decode cL_isPair 188 = .ok (.bipush (-79), 2) := by decide +kernel
theorem dL_isPair_190 : decode cL_isPair 190 = .ok (.if_icmp .ne 25, 3) := by decide +kernel
theorem dL_isPair_193 : decode cL_isPair 193 = .ok (.iload 8, 2) := by decide +kernel
theorem dL_isPair_195 : decode cL_isPair 195 = .ok (.bipush (-79), 2) := by decide +kernel
theorem dL_isPair_197 : decode cL_isPair 197 = .ok (.if_icmp .ne 18, 3) := by decide +kernel
theorem dL_isPair_200 : decode cL_isPair 200 = .ok (.aload_n 0, 1) := by decide +kernel
theorem dL_isPair_201 : decode cL_isPair 201 = .ok (.iload_n 1, 1) := by decide +kernel
theorem dL_isPair_202 : decode cL_isPair 202 = .ok (.iload_n 2, 1) := by decide +kernel
theorem dL_isPair_203 : decode cL_isPair 203 = .ok (.invokestatic 319, 3) := by decide +kernel
theorem dL_isPair_206 : decode cL_isPair 206 = .ok (.bipush (-79), 2) := by decide +kernel
theorem dL_isPair_208 : decode cL_isPair 208 = .ok (.if_icmp .ne 7, 3) := by decide +kernel
theorem dL_isPair_211 : decode cL_isPair 211 = .ok (.iconst 1, 1) := by decide +kernel
theorem dL_isPair_212 : decode cL_isPair 212 = .ok (.goto 4, 3) := by decide +kernel
theorem dL_isPair_215 : decode cL_isPair 215 = .ok (.iconst 0, 1) := by decide +kernel
theorem dL_isPair_216 : decode cL_isPair 216 = .ok (.istore 10, 2) := by decide +kernel
theorem dL_isPair_218 : decode cL_isPair 218 = .ok (.iload 5, 2) := by decide +kernel
theorem dL_isPair_220 : decode cL_isPair 220 = .ok (.ifCond .eq 82, 3) := by decide +kernel
theorem dL_isPair_223 : decode cL_isPair 223 = .ok (.iload 9, 2) := by decide +kernel
theorem dL_isPair_225 : decode cL_isPair 225 = .ok (.bipush (-75), 2) := by decide +kernel
theorem dL_isPair_227 : decode cL_isPair 227 = .ok (.if_icmp .ne 7, 3) := by decide +kernel
theorem dL_isPair_230 : decode cL_isPair 230 = .ok (.iconst 1, 1) := by decide +kernel
theorem dL_isPair_231 : decode cL_isPair 231 = .ok (.goto 4, 3) := by decide +kernel
theorem dL_isPair_234 : decode cL_isPair 234 = .ok (.iconst 0, 1) := by decide +kernel
theorem dL_isPair_235 : decode cL_isPair 235 = .ok (.iload_n 3, 1) := by decide +kernel
theorem dL_isPair_236 : decode cL_isPair 236 = .ok (.iload 8, 2) := by decide +kernel
theorem dL_isPair_238 : decode cL_isPair 238 = .ok (.if_icmp .gt 7, 3) := by decide +kernel
theorem dL_isPair_241 : decode cL_isPair 241 = .ok (.iconst 1, 1) := by decide +kernel
theorem dL_isPair_242 : decode cL_isPair 242 = .ok (.goto 4, 3) := by decide +kernel
theorem dL_isPair_245 : decode cL_isPair 245 = .ok (.iconst 0, 1) := by decide +kernel
theorem dL_isPair_246 : decode cL_isPair 246 = .ok (.if_icmp .ne 52, 3) := by decide +kernel
theorem dL_isPair_249 : decode cL_isPair 249 = .ok (.iload 9, 2) := by decide +kernel
theorem dL_isPair_251 : decode cL_isPair 251 = .ok (.bipush (-75), 2) := by decide +kernel
theorem dL_isPair_253 : decode cL_isPair 253 = .ok (.if_icmp .eq 41, 3) := by decide +kernel
theorem dL_isPair_256 : decode cL_isPair 256 = .ok (.aload_n 0, 1) := by decide +kernel
theorem dL_isPair_257 : decode cL_isPair 257 = .ok (.iload 9, 2) := by decide +kernel
theorem dL_isPair_259 : decode cL_isPair 259 = .ok (.invokestatic 303, 3) := by decide +kernel
theorem dL_isPair_262 : decode cL_isPair 262 = .ok (.iload_n 3, 1) := by decide +kernel
theorem dL_isPair_263 : decode cL_isPair 263 = .ok (.if_icmp .ge 35, 3) := by decide +kernel
theorem dL_isPair_266 : decode cL_isPair 266 = .ok (.aload_n 0, 1) := by decide +kernel
theorem dL_isPair_267 : decode cL_isPair 267 = .ok (.iload_n 1, 1) := by decide +kernel
theorem dL_isPair_268 : decode cL_isPair 268 = .ok (.iload 9, 2) := by decide +kernel
theorem dL_isPair_270 : decode cL_isPair 270 = .ok (.invokestatic 313, 3) := by decide +kernel
theorem dL_isPair_273 : decode cL_isPair 273 = .ok (.iconst 1, 1) := by decide +kernel
theorem dL_isPair_274 : decode cL_isPair 274 = .ok (.if_icmp .ne 24, 3) := by decide +kernel
theorem dL_isPair_277 : decode cL_isPair 277 = .ok (.iload 9, 2) := by decide +kernel
theorem dL_isPair_279 : decode cL_isPair 279 = .ok (.iload_n 2, 1) := by decide +kernel
theorem dL_isPair_280 : decode cL_isPair 280 = .ok (.if_icmp .eq 14, 3) := by decide +kernel
theorem dL_isPair_283 : decode cL_isPair 283 = .ok (.aload_n 0, 1) := by decide +kernel
theorem dL_isPair_284 : decode cL_isPair 284 = .ok (.iload 9, 2) := by decide +kernel
theorem dL_isPair_286 : decode cL_isPair 286 = .ok (.iload_n 2, 1) := by decide +kernel
theorem dL_isPair_287 : decode cL_isPair 287 = .ok (.invokestatic 313, 3) := by decide +kernel
theorem dL_isPair_290 : decode cL_isPair 290 = .ok (.iconst 1, 1) := by decide +kernel
theorem dL_isPair_291 : decode cL_isPair 291 = .ok (.if_icmp .ne 7, 3) := by decide +kernel
theorem dL_isPair_294 : decode cL_isPair 294 = .ok (.iconst 1, 1) := by decide +kernel
theorem dL_isPair_295 : decode cL_isPair 295 = .ok (.goto 19, 3) := by decide +kernel
theorem dL_isPair_298 : decode cL_isPair 298 = .ok (.iconst 0, 1) := by decide +kernel
theorem dL_isPair_299 : decode cL_isPair 299 = .ok (.goto 15, 3) := by decide +kernel
theorem dL_isPair_302 : decode cL_isPair 302 = .ok (.iload 9, 2) := by decide +kernel
theorem dL_isPair_304 : decode cL_isPair 304 = .ok (.bipush (-79), 2) := by decide +kernel
theorem dL_isPair_306 : decode cL_isPair 306 = .ok (.if_icmp .ne 7, 3) := by decide +kernel
theorem dL_isPair_309 : decode cL_isPair 309 = .ok (.iconst 1, 1) := by decide +kernel
theorem dL_isPair_310 : decode cL_isPair 310 = .ok (.goto 4, 3) := by decide +kernel
theorem dL_isPair_313 : decode cL_isPair 313 = .ok (.iconst 0, 1) := by decide +kernel
theorem dL_isPair_314 : decode cL_isPair 314 = .ok (.istore 11, 2) := by decide +kernel
theorem dL_isPair_316 : decode cL_isPair 316 = .ok (.iload 6, 2) := by decide +kernel
theorem dL_isPair_318 : decode cL_isPair 318 = .ok (.ifCond .eq 36, 3) := by decide +kernel
theorem dL_isPair_321 : decode cL_isPair 321 = .ok (.iload 10, 2) := by decide +kernel
theorem dL_isPair_323 : decode cL_isPair 323 = .ok (.ifCond .eq 31, 3) := by decide +kernel
theorem dL_isPair_326 : decode cL_isPair 326 = .ok (.iload 11, 2) := by decide +kernel
theorem dL_isPair_328 : decode cL_isPair 328 = .ok (.ifCond .eq 26, 3) := by decide +kernel
theorem dL_isPair_331 : decode cL_isPair 331 = .ok (.iload 5, 2) := by decide +kernel
theorem dL_isPair_333 : decode cL_isPair 333 = .ok (.ifCond .eq 17, 3) := by decide +kernel
theorem dL_isPair_336 : decode cL_isPair 336 = .ok (.aload_n 0, 1) := by decide +kernel
theorem dL_isPair_337 : decode cL_isPair 337 = .ok (.iload_n 2, 1) := by decide +kernel
theorem dL_isPair_338 : decode cL_isPair 338 = .ok (.iload_n 1, 1) := by decide +kernel
theorem dL_isPair_339 : decode cL_isPair 339 = .ok (.invokestatic 313, 3) := by decide +kernel
theorem dL_isPair_342 : decode cL_isPair 342 = .ok (.ifCond .ne 12, 3) := by decide +kernel
theorem dL_isPair_345 : decode cL_isPair 345 = .ok (.iload_n 1, 1) := by decide +kernel
theorem dL_isPair_346 : decode cL_isPair 346 = .ok (.iload_n 2, 1) := by decide +kernel
theorem dL_isPair_347 : decode cL_isPair 347 = .ok (.if_icmp .eq 7, 3) := by decide +kernel
theorem dL_isPair_350 : decode cL_isPair 350 = .ok (.iconst 1, 1) := by decide +kernel
theorem dL_isPair_351 : decode cL_isPair 351 = .ok (.goto 4, 3) := by decide +kernel
theorem dL_isPair_354 : decode cL_isPair 354 = .ok (.iconst 0, 1) := by decide +kernel
theorem dL_isPair_355 : decode cL_isPair 355 = .ok (.ireturn, 1) := by decide +kernel
theorem dL_isOfficer_0 : decode cL_isOfficer 0 = .ok (.iconst 1, 1) := by decide +kernel
theorem dL_isOfficer_1 : decode cL_isOfficer 1 = .ok (.istore_n 3, 1) := by decide +kernel
theorem dL_isOfficer_2 : decode cL_isOfficer 2 = .ok (.iconst 0, 1) := by decide +kernel
theorem dL_isOfficer_3 : decode cL_isOfficer 3 = .ok (.istore 4, 2) := by decide +kernel
theorem dL_isOfficer_5 : decode cL_isOfficer 5 = .ok (.iconst 0, 1) := by decide +kernel
theorem dL_isOfficer_6 : decode cL_isOfficer 6 = .ok (.istore 5, 2) := by decide +kernel
theorem dL_isOfficer_8 : decode cL_isOfficer 8 = .ok (.iload 5, 2) := by decide +kernel
theorem dL_isOfficer_10 : decode cL_isOfficer 10 = .ok (.aload_n 0, 1) := by decide +kernel
theorem dL_isOfficer_11 : decode cL_isOfficer 11 = .ok (.invokevirtual 182, 3) := by decide +kernel
theorem dL_isOfficer_14 : decode cL_isOfficer 14 = .ok (.if_icmp .ge 81, 3) := by decide +kernel
theorem dL_isOfficer_17 : decode cL_isOfficer 17 = .ok (.aload_n 0, 1) := by decide +kernel
theorem dL_isOfficer_18 : decode cL_isOfficer 18 = .ok (.iload 5, 2) := by decide +kernel
theorem dL_isOfficer_20 : decode cL_isOfficer 20 = .ok (.invokevirtual 223, 3) := by decide +kernel
