theorem dL_law_149 : decode cL_law 149 = .ok (.iadd, 1) := by decide +kernel
theorem dL_law_150 : decode cL_law 150 = .ok (.bipush 8, 2) := by decide +kernel
theorem dL_law_152 : decode cL_law 152 = .ok (.invokestatic 178, 3) := by decide +kernel
theorem dL_law_155 : decode cL_law 155 = .ok (.istore 14, 2) := by decide +kernel
theorem dL_law_157 : decode cL_law 157 = .ok (.aload_n 1, 1) := by decide +kernel
theorem dL_law_158 : decode cL_law 158 = .ok (.invokevirtual 185, 3) := by decide +kernel
theorem dL_law_161 : decode cL_law 161 = .ok (.istore 15, 2) := by decide +kernel
theorem dL_law_163 : decode cL_law 163 = .ok (.aload_n 1, 1) := by decide +kernel
theorem dL_law_164 : decode cL_law 164 = .ok (.invokevirtual 188, 3) := by decide +kernel
theorem dL_law_167 : decode cL_law 167 = .ok (.aload_n 1, 1) := by decide +kernel
theorem dL_law_168 : decode cL_law 168 = .ok (.invokevirtual 191, 3) := by decide +kernel
theorem dL_law_171 : decode cL_law 171 = .ok (.iadd, 1) := by decide +kernel
theorem dL_law_172 : decode cL_law 172 = .ok (.aload_n 1, 1) := by decide +kernel
theorem dL_law_173 : decode cL_law 173 = .ok (.invokevirtual 194, 3) := by decide +kernel
theorem dL_law_176 : decode cL_law 176 = .ok (.iadd, 1) := by decide +kernel
theorem dL_law_177 : decode cL_law 177 = .ok (.istore 16, 2) := by decide +kernel
theorem dL_law_179 : decode cL_law 179 = .ok (.aload_n 1, 1) := by decide +kernel
theorem dL_law_180 : decode cL_law 180 = .ok (.invokevirtual 188, 3) := by decide +kernel
theorem dL_law_183 : decode cL_law 183 = .ok (.istore 17, 2) := by decide +kernel
theorem dL_law_185 : decode cL_law 185 = .ok (.aload_n 1, 1) := by decide +kernel
theorem dL_law_186 : decode cL_law 186 = .ok (.iload 12, 2) := by decide +kernel
theorem dL_law_188 : decode cL_law 188 = .ok (.invokestatic 197, 3) := by decide +kernel
theorem dL_law_191 : decode cL_law 191 = .ok (.istore 18, 2) := by decide +kernel
theorem dL_law_193 : decode cL_law 193 = .ok (.aload_n 1, 1) := by decide +kernel
theorem dL_law_194 : decode cL_law 194 = .ok (.iload 12, 2) := by decide +kernel
theorem dL_law_196 : decode cL_law 196 = .ok (.invokestatic 199, 3) := by decide +kernel
theorem dL_law_199 : decode cL_law 199 = .ok (.istore 19, 2) := by decide +kernel
theorem dL_law_201 : decode cL_law 201 = .ok (.aload_n 1, 1) := by decide +kernel
theorem dL_law_202 : decode cL_law 202 = .ok (.invokevirtual 201, 3) := by decide +kernel
theorem dL_law_205 : decode cL_law 205 = .ok (.istore 20, 2) := by decide +kernel
theorem dL_law_207 : decode cL_law 207 = .ok (.iload 15, 2) := by decide +kernel
theorem dL_law_209 : decode cL_law 209 = .ok (.iconst 1, 1) := by decide +kernel
theorem dL_law_210 : decode cL_law 210 = .ok (.if_icmp .ne 20, 3) := by decide +kernel
theorem dL_law_213 : decode cL_law 213 = .ok (.aload_n 1, 1) := by decide +kernel
theorem dL_law_214 : decode cL_law 214 = .ok (.aload_n 1, 1) := by decide +kernel
theorem dL_law_215 : decode cL_law 215 = .ok (.iconst 0, 1) := by decide +kernel
theorem dL_law_216 : decode cL_law 216 = .ok (.invokestatic 204, 3) := by decide +kernel
theorem dL_law_219 : decode cL_law 219 = .ok (.aload_n 1, 1) := by decide +kernel
theorem dL_law_220 : decode cL_law 220 = .ok (.iconst 0, 1) := by decide +kernel
theorem dL_law_221 : decode cL_law 221 = .ok (.invokestatic 206, 3) := by decide +kernel
theorem dL_law_224 : decode cL_law 224 = .ok (.invokestatic 208, 3) := by decide +kernel
theorem dL_law_227 : decode cL_law 227 = .ok (.goto 4, 3) := by decide +kernel
theorem dL_law_230 : decode cL_law 230 = .ok (.iconst (-1), 1) := by decide +kernel
theorem dL_law_231 : decode cL_law 231 = .ok (.istore 21, 2) := by decide +kernel
theorem dL_law_233 : decode cL_law 233 = .ok (.iload 21, 2) := by decide +kernel
theorem dL_law_235 : decode cL_law 235 = .ok (.ifCond .le 26, 3) := by decide +kernel
theorem dL_law_238 : decode cL_law 238 = .ok (.aload_n 1, 1) := by decide +kernel
theorem dL_law_239 : decode cL_law 239 = .ok (.aload_n 1, 1) := by decide +kernel
theorem dL_law_240 : decode cL_law 240 = .ok (.iconst 0, 1) := by decide +kernel
theorem dL_law_241 : decode cL_law 241 = .ok (.invokestatic 204, 3) := by decide +kernel
theorem dL_law_244 : decode cL_law 244 = .ok (.aload_n 1, 1) := by decide +kernel
theorem dL_law_245 : decode cL_law 245 = .ok (.iconst 0, 1) := by decide +kernel
theorem dL_law_246 : decode cL_law 246 = .ok (.invokestatic 206, 3) := by decide +kernel
theorem dL_law_249 : decode cL_law 249 = .ok (.invokestatic 211, 3) := by decide +kernel
theorem dL_law_252 : decode cL_law 252 = .ok (.aload_n 1, 1) := by decide +kernel
theorem dL_law_253 : decode cL_law 253 = .ok (.iconst 0, 1) := by decide +kernel
theorem dL_law_254 : decode cL_law 254 = .ok (.invokestatic 213, 3) := by decide +kernel
theorem dL_law_257 : decode cL_law 257 = .ok (.isub, 1) := by decide +kernel
theorem dL_law_258 : decode cL_law 258 = .ok (.goto 4, 3) := by decide +kernel
theorem dL_law_261 : decode cL_law 261 = .ok (.iconst (-1), 1) := by decide +kernel
theorem dL_law_262 : decode cL_law 262 = .ok (.istore 22, 2) := by decide +kernel
theorem dL_law_264 : decode cL_law 264 = .ok (.aload_n 0, 1) := by decide +kernel
theorem dL_law_265 : decode cL_law 265 = .ok (.iload 4, 2) := by decide +kernel
theorem dL_law_267 : decode cL_law 267 = .ok (.iload 10, 2) := by decide +kernel
theorem dL_law_269 : decode cL_law 269 = .ok (.aload_n 1, 1) := by decide +kernel
theorem dL_law_270 : decode cL_law 270 = .ok (.iload 12, 2) := by decide +kernel
theorem dL_law_272 : decode cL_law 272 = .ok (.iload 13, 2) := by decide +kernel
theorem dL_law_274 : decode cL_law 274 = .ok (.iload 14, 2) := by decide +kernel
theorem dL_law_276 : decode cL_law 276 = .ok (.invokestatic 215, 3) := by decide +kernel
theorem dL_law_279 : decode cL_law 279 = .ok (.istore 23, 2) := by decide +kernel
theorem dL_law_281 : decode cL_law 281 = .ok (.iload 23, 2) := by decide +kernel
theorem dL_law_283 : decode cL_law 283 = .ok (.bipush (-70), 2) := by decide +kernel
theorem dL_law_285 : decode cL_law 285 = .ok (.if_icmp .le 7, 3) := by decide +kernel
theorem dL_law_288 : decode cL_law 288 = .ok (.iconst 1, 1) := by decide +kernel
theorem dL_law_289 : decode cL_law 289 = .ok (.goto 4, 3) := by decide +kernel
theorem dL_law_292 : decode cL_law 292 = .ok (.iconst 0, 1) := by decide +kernel
theorem dL_law_293 : decode cL_law 293 = .ok (.istore 24, 2) := by decide +kernel
theorem dL_law_295 : decode cL_law 295 = .ok (.iload 5, 2) := by decide +kernel
theorem dL_law_297 : decode cL_law 297 = .ok (.iload 24, 2) := by decide +kernel
theorem dL_law_299 : decode cL_law 299 = .ok (.ifCond .eq 21, 3) := by decide +kernel
theorem dL_law_302 : decode cL_law 302 = .ok (.iload 10, 2) := by decide +kernel
theorem dL_law_304 : decode cL_law 304 = .ok (.bipush 15, 2) := by decide +kernel
theorem dL_law_306 : decode cL_law 306 = .ok (.if_icmp .le 14, 3) := by decide +kernel
theorem dL_law_309 : decode cL_law 309 = .ok (.iload 10, 2) := by decide +kernel
theorem dL_law_311 : decode cL_law 311 = .ok (.bipush 27, 2) := by decide +kernel
theorem dL_law_313 : decode cL_law 313 = .ok (.if_icmp .ge 7, 3) := by decide +kernel
theorem dL_law_316 : decode cL_law 316 = .ok (.iconst 1, 1) := by decide +kernel
theorem dL_law_317 : decode cL_law 317 = .ok (.goto 4, 3) := by decide +kernel
theorem dL_law_320 : decode cL_law 320 = .ok (.iconst 0, 1) := by decide +kernel
theorem dL_law_321 : decode cL_law 321 = .ok (.iadd, 1) := by decide +kernel
theorem dL_law_322 : decode cL_law 322 = .ok (.istore 5, 2) := by decide +kernel
theorem dL_law_324 : decode cL_law 324 = .ok (.aload_n 1, 1) := by decide +kernel
theorem dL_law_325 : decode cL_law 325 = .ok (.invokevirtual 188, 3) := by decide +kernel
theorem dL_law_328 : decode cL_law 328 = .ok (.aload_n 1, 1) := by decide +kernel
theorem dL_law_329 : decode cL_law 329 = .ok (.invokevirtual 191, 3) := by decide +kernel
theorem dL_law_332 : decode cL_law 332 = .ok (.iadd, 1) := by decide +kernel
theorem dL_law_333 : decode cL_law 333 = .ok (.aload_n 1, 1) := by decide +kernel
theorem dL_law_334 : decode cL_law 334 = .ok (.invokevirtual 194, 3) := by decide +kernel
theorem dL_law_337 : decode cL_law 337 = .ok (.iadd, 1) := by decide +kernel
theorem dL_law_338 : decode cL_law 338 = .ok (.istore 25, 2) := by decide +kernel
theorem dL_law_340 : decode cL_law 340 = .ok (.iload 5, 2) := by decide +kernel
theorem dL_law_342 : decode cL_law 342 = .ok (.aload_n 1, 1) := by decide +kernel
theorem dL_law_343 : decode cL_law 343 = .ok (.invokevirtual 185, 3) := by decide +kernel
theorem dL_law_346 : decode cL_law 346 = .ok (.iload 25, 2) := by decide +kernel
theorem dL_law_348 : decode cL_law 348 = .ok (.iadd, 1) := by decide +kernel
theorem dL_law_349 : decode cL_law 349 = .ok (.if_icmp .ne 7, 3) := by decide +kernel
theorem dL_law_352 : decode cL_law 352 = .ok (.iconst 1, 1) := by decide +kernel
theorem dL_law_353 : decode cL_law 353 = .ok (.goto 4, 3) := by decide +kernel
theorem dL_law_356 : decode cL_law 356 = .ok (.iconst 0, 1) := by decide +kernel
theorem dL_law_357 : decode cL_law 357 = .ok (.istore 26, 2) := by decide +kernel
theorem dL_law_359 : decode cL_law 359 = .ok (.iload 26, 2) := by decide +kernel
theorem dL_law_361 : decode cL_law 361 = .ok (.iload 24, 2) := by decide +kernel
theorem dL_law_363 : decode cL_law 363 = .ok (.ifCond .eq 49, 3) := by decide +kernel
theorem dL_law_366 : decode cL_law 366 = .ok (.iload 10, 2) := by decide +kernel
theorem dL_law_368 : decode cL_law 368 = .ok (.bipush 6, 2) := by decide +kernel
theorem dL_law_370 : decode cL_law 370 = .ok (.if_icmp .gt 42, 3) := by decide +kernel
theorem dL_law_373 : decode cL_law 373 = .ok (.iload 23, 2) := by decide +kernel
theorem dL_law_375 : decode cL_law 375 = .ok (.iload 11, 2) := by decide +kernel
theorem dL_law_377 : decode cL_law 377 = .ok (.if_icmp .ne 39, 3) := by decide +kernel
theorem dL_law_380 : decode cL_law 380 = .ok (.aload_n 1, 1) := by decide +kernel
theorem dL_law_381 : decode cL_law 381 = .ok (.invokevirtual 201, 3) := by decide +kernel
theorem dL_law_384 : decode cL_law 384 = .ok (.iload 20, 2) := by decide +kernel
theorem dL_law_386 : decode cL_law 386 = .ok (.iconst 1, 1) := by decide +kernel
theorem dL_law_387 : decode cL_law 387 = .ok (.iadd, 1) := by decide +kernel
theorem dL_law_388 : decode cL_law 388 = .ok (.if_icmp .ne 28, 3) := by decide +kernel
theorem dL_law_391 : decode cL_law 391 = .ok (.aload_n 1, 1) := by decide +kernel
theorem dL_law_392 : decode cL_law 392 = .ok (.iload 23, 2) := by decide +kernel
theorem dL_law_394 : decode cL_law 394 = .ok (.invokestatic 219, 3) := by decide +kernel
theorem dL_law_397 : decode cL_law 397 = .ok (.iload 12, 2) := by decide +kernel
theorem dL_law_399 : decode cL_law 399 = .ok (.if_icmp .ne 17, 3) := by decide +kernel
theorem dL_law_402 : decode cL_law 402 = .ok (.aload_n 1, 1) := by decide +kernel
theorem dL_law_403 : decode cL_law 403 = .ok (.iload 23, 2) := by decide +kernel
theorem dL_law_405 : decode cL_law 405 = .ok (.invokestatic 197, 3) := by decide +kernel
theorem dL_law_408 : decode cL_law 408 = .ok (.iconst 1, 1) := by decide +kernel
theorem dL_law_409 : decode cL_law 409 = .ok (.if_icmp .ne 7, 3) := by decide +kernel
theorem dL_law_412 : decode cL_law 412 = .ok (.iconst 1, 1) := by decide +kernel
theorem dL_law_413 : decode cL_law 413 = .ok (.goto 4, 3) := by decide +kernel
theorem dL_law_416 : decode cL_law 416 = .ok (.iconst 0, 1) := by decide +kernel
theorem dL_law_417 : decode cL_law 417 = .ok (.iand, 1) := by decide +kernel
theorem dL_law_418 : decode cL_law 418 = .ok (.istore 26, 2) := by decide +kernel
theorem dL_law_420 : decode cL_law 420 = .ok (.iload 26, 2) := by decide +kernel
theorem dL_law_422 : decode cL_law 422 = .ok (.iload 24, 2) := by decide +kernel
theorem dL_law_424 : decode cL_law 424 = .ok (.ifCond .eq 28, 3) := by decide +kernel
theorem dL_law_427 : decode cL_law 427 = .ok (.iload 10, 2) := by decide +kernel
theorem dL_law_429 : decode cL_law 429 = .ok (.bipush 7, 2) := by decide +kernel
theorem dL_law_431 : decode cL_law 431 = .ok (.if_icmp .lt 21, 3) := by decide +kernel
theorem dL_law_434 : decode cL_law 434 = .ok (.iload 10, 2) := by decide +kernel
theorem dL_law_436 : decode cL_law 436 = .ok (.bipush 8, 2) := by decide +kernel
theorem dL_law_438 : decode cL_law 438 = .ok (.if_icmp .gt 14, 3) := by decide +kernel
theorem dL_law_441 : decode cL_law 441 = .ok (.iload 23, 2) := by decide +kernel
theorem dL_law_443 : decode cL_law 443 = .ok (.aload_n 1, 1) := by decide +kernel
theorem dL_law_444 : decode cL_law 444 = .ok (.iload 12, 2) := by decide +kernel
theorem dL_law_446 : decode cL_law 446 = .ok (.invokestatic 221, 3) := by decide +kernel
theorem dL_law_449 : decode cL_law 449 = .ok (.if_icmp .ne 7, 3) := by decide +kernel
theorem dL_law_452 : decode cL_law 452 = .ok (.iconst 1, 1) := by decide +kernel
theorem dL_law_453 : decode cL_law 453 = .ok (.goto 4, 3) := by decide +kernel
theorem dL_law_456 : decode cL_law 456 = .ok (.iconst 0, 1) := by decide +kernel
theorem dL_law_457 : decode cL_law 457 = .ok (.iand, 1) := by decide +kernel
theorem dL_law_458 : decode cL_law 458 = .ok (.istore 26, 2) := by decide +kernel
theorem dL_law_460 : decode cL_law 460 = .ok (.iload 26, 2) := by decide +kernel
theorem dL_law_462 : decode cL_law 462 = .ok (.iload 24, 2) := by decide +kernel
theorem dL_law_464 : decode cL_law 464 = .ok (.ifCond .eq 50, 3) := by decide +kernel
theorem dL_law_467 : decode cL_law 467 = .ok (.iload 10, 2) := by decide +kernel
theorem dL_law_469 : decode cL_law 469 = .ok (.bipush 9, 2) := by decide +kernel
theorem dL_law_471 : decode cL_law 471 = .ok (.if_icmp .lt 43, 3) := by decide +kernel
theorem dL_law_474 : decode cL_law 474 = .ok (.iload 10, 2) := by decide +kernel
theorem dL_law_476 : decode cL_law 476 = .ok (.bipush 13, 2) := by decide +kernel
theorem dL_law_478 : decode cL_law 478 = .ok (.if_icmp .gt 36, 3) := by decide +kernel
theorem dL_law_481 : decode cL_law 481 = .ok (.aload_n 1, 1) := by decide +kernel
theorem dL_law_482 : decode cL_law 482 = .ok (.iload 12, 2) := by decide +kernel
theorem dL_law_484 : decode cL_law 484 = .ok (.invokestatic 219, 3) := by decide +kernel
theorem dL_law_487 : decode cL_law 487 = .ok (.iload 13, 2) := by decide +kernel
theorem dL_law_489 : decode cL_law 489 = .ok (.if_icmp .ne 29, 3) := by decide +kernel
theorem dL_law_492 : decode cL_law 492 = .ok (.aload_n 1, 1) := by decide +kernel
theorem dL_law_493 : decode cL_law 493 = .ok (.iload 12, 2) := by decide +kernel
theorem dL_law_495 : decode cL_law 495 = .ok (.invokestatic 197, 3) := by decide +kernel
theorem dL_law_498 : decode cL_law 498 = .ok (.iload 18, 2) := by decide +kernel
theorem dL_law_500 : decode cL_law 500 = .ok (.if_icmp .ne 18, 3) := by decide +kernel
theorem dL_law_503 : decode cL_law 503 = .ok (.aload_n 1, 1) := by decide +kernel
theorem dL_law_504 : decode cL_law 504 = .ok (.iload 13, 2) := by decide +kernel
theorem dL_law_506 : decode cL_law 506 = .ok (.invokestatic 197, 3) := by decide +kernel
theorem dL_law_509 : decode cL_law 509 = .ok (.iload 23, 2) := by decide +kernel
theorem dL_law_511 : decode cL_law 511 = .ok (.if_icmp .ne 7, 3) := by decide +kernel
theorem dL_law_514 : decode cL_law 514 = .ok (.iconst 1, 1) := by decide +kernel
theorem dL_law_515 : decode cL_law 515 = .ok (.goto 4, 3) := by decide +kernel
theorem dL_law_518 : decode cL_law 518 = .ok (.iconst 0, 1) := by decide +kernel
theorem dL_law_519 : decode cL_law 519 = .ok (.iand, 1) := by decide +kernel
theorem dL_law_520 : decode cL_law 520 = .ok (.istore 26, 2) := by decide +kernel
theorem dL_law_522 : decode cL_law 522 = .ok (.iload 26, 2) := by decide +kernel
theorem dL_law_524 : decode cL_law 524 = .ok (.iload 24, 2) := by decide +kernel
theorem dL_law_526 : decode cL_law 526 = .ok (.ifCond .eq 55, 3) := by decide +kernel
theorem dL_law_529 : decode cL_law 529 = .ok (.iload 10, 2) := by decide +kernel
theorem dL_law_531 : decode cL_law 531 = .ok (.bipush 14, 2) := by decide +kernel
theorem dL_law_533 : decode cL_law 533 = .ok (.if_icmp .lt 48, 3) := by decide +kernel
theorem dL_law_536 : decode cL_law 536 = .ok (.iload 10, 2) := by decide +kernel
theorem dL_law_538 : decode cL_law 538 = .ok (.bipush 15, 2) := by decide +kernel
theorem dL_law_540 : decode cL_law 540 = .ok (.if_icmp .gt 41, 3) := by decide +kernel
theorem dL_law_543 : decode cL_law 543 = .ok (.iload 23, 2) := by decide +kernel
theorem dL_law_545 : decode cL_law 545 = .ok (.iload 19, 2) := by decide +kernel
theorem dL_law_547 : decode cL_law 547 = .ok (.if_icmp .ne 38, 3) := by decide +kernel
theorem dL_law_550 : decode cL_law 550 = .ok (.aload_n 1, 1) := by decide +kernel
theorem dL_law_551 : decode cL_law 551 = .ok (.invokevirtual 201, 3) := by decide +kernel
theorem dL_law_554 : decode cL_law 554 = .ok (.iload 20, 2) := by decide +kernel
theorem dL_law_556 : decode cL_law 556 = .ok (.iconst 1, 1) := by decide +kernel
theorem dL_law_557 : decode cL_law 557 = .ok (.isub, 1) := by decide +kernel
theorem dL_law_558 : decode cL_law 558 = .ok (.if_icmp .ne 27, 3) := by decide +kernel
theorem dL_law_561 : decode cL_law 561 = .ok (.aload_n 1, 1) := by decide +kernel
theorem dL_law_562 : decode cL_law 562 = .ok (.iload 12, 2) := by decide +kernel
theorem dL_law_564 : decode cL_law 564 = .ok (.invokestatic 221, 3) := by decide +kernel
theorem dL_law_567 : decode cL_law 567 = .ok (.bipush (-77), 2) := by decide +kernel
theorem dL_law_569 : decode cL_law 569 = .ok (.if_icmp .ne 16, 3) := by decide +kernel
theorem dL_law_572 : decode cL_law 572 = .ok (.aload_n 1, 1) := by decide +kernel
theorem dL_law_573 : decode cL_law 573 = .ok (.iload 12, 2) := by decide +kernel
theorem dL_law_575 : decode cL_law 575 = .ok (.invokevirtual 223, 3) := by decide +kernel
theorem dL_law_578 : decode cL_law 578 = .ok (.ifCond .ne 7, 3) := by decide +kernel
theorem dL_law_581 : decode cL_law 581 = .ok (.iconst 1, 1) := by decide +kernel
theorem dL_law_582 : decode cL_law 582 = .ok (.goto 4, 3) := by decide +kernel
theorem dL_law_585 : decode cL_law 585 = .ok (.iconst 0, 1) := by decide +kernel
theorem dL_law_586 : decode cL_law 586 = .ok (.iand, 1) := by decide +kernel
theorem dL_law_587 : decode cL_law 587 = .ok (.istore 26, 2) := by decide +kernel
theorem dL_law_589 : decode cL_law 589 = .ok (.iload 26, 2) := by decide +kernel
theorem dL_law_591 : decode cL_law 591 = .ok (.iload 24, 2) := by decide +kernel
theorem dL_law_593 : decode cL_law 593 = .ok (.ifCond .eq 46, 3) := by decide +kernel
theorem dL_law_596 : decode cL_law 596 = .ok (.iload 10, 2) := by decide +kernel
theorem dL_law_598 : decode cL_law 598 = .ok (.bipush 16, 2) := by decide +kernel
theorem dL_law_600 : decode cL_law 600 = .ok (.if_icmp .lt 39, 3) := by decide +kernel
theorem dL_law_603 : decode cL_law 603 = .ok (.iload 10, 2) := by decide +kernel
theorem dL_law_605 : decode cL_law 605 = .ok (.bipush 26, 2) := by decide +kernel
theorem dL_law_607 : decode cL_law 607 = .ok (.if_icmp .gt 32, 3) := by decide +kernel
theorem dL_law_610 : decode cL_law 610 = .ok (.iload 23, 2) := by decide +kernel
theorem dL_law_612 : decode cL_law 612 = .ok (.iload 15, 2) := by decide +kernel
theorem dL_law_614 : decode cL_law 614 = .ok (.if_icmp .ne 29, 3) := by decide +kernel
theorem dL_law_617 : decode cL_law 617 = .ok (.aload_n 1, 1) := by decide +kernel
theorem dL_law_618 : decode cL_law 618 = .ok (.iload 23, 2) := by decide +kernel
theorem dL_law_620 : decode cL_law 620 = .ok (.invokestatic 204, 3) := by decide +kernel
theorem dL_law_623 : decode cL_law 623 = .ok (.iload 13, 2) := by decide +kernel
theorem dL_law_625 : decode cL_law 625 = .ok (.if_icmp .ne 18, 3) := by decide +kernel
theorem dL_law_628 : decode cL_law 628 = .ok (.aload_n 1, 1) := by decide +kernel
theorem dL_law_629 : decode cL_law 629 = .ok (.iload 23, 2) := by decide +kernel
theorem dL_law_631 : decode cL_law 631 = .ok (.invokestatic 206, 3) := by decide +kernel
theorem dL_law_634 : decode cL_law 634 = .ok (.iload 12, 2) := by decide +kernel
theorem dL_law_636 : decode cL_law 636 = .ok (.if_icmp .ne 7, 3) := by decide +kernel
theorem dL_law_639 : decode cL_law 639 = .ok (.iconst 1, 1) := by decide +kernel
theorem dL_law_640 : decode cL_law 640 = .ok (.goto 4, 3) := by decide +kernel
theorem dL_law_643 : decode cL_law 643 = .ok (.iconst 0, 1) := by decide +kernel
theorem dL_law_644 : decode cL_law 644 = .ok (.iand, 1) := by decide +kernel
theorem dL_law_645 : decode cL_law 645 = .ok (.istore 26, 2) := by decide +kernel
theorem dL_law_647 : decode cL_law 647 = .ok (.iload 24, 2) := by decide +kernel
theorem dL_law_649 : decode cL_law 649 = .ok (.ifCond .eq 21, 3) := by decide +kernel
theorem dL_law_652 : decode cL_law 652 = .ok (.iload 10, 2) := by decide +kernel
theorem dL_law_654 : decode cL_law 654 = .ok (.bipush 30, 2) := by decide +kernel
theorem dL_law_656 : decode cL_law 656 = .ok (.if_icmp .le 14, 3) := by decide +kernel
theorem dL_law_659 : decode cL_law 659 = .ok (.iload 10, 2) := by decide +kernel
theorem dL_law_661 : decode cL_law 661 = .ok (.bipush 40, 2) := by decide +kernel
theorem dL_law_663 : decode cL_law 663 = .ok (.if_icmp .ge 7, 3) := by decide +kernel
theorem dL_law_666 : decode cL_law 666 = .ok (.iconst 1, 1) := by decide +kernel
theorem dL_law_667 : decode cL_law 667 = .ok (.goto 4, 3) := by decide +kernel
theorem dL_law_670 : decode cL_law 670 = .ok (.iconst 0, 1) := by decide +kernel
theorem dL_law_671 : decode cL_law 671 = .ok (.istore 27, 2) := by decide +kernel
theorem dL_law_673 : decode cL_law 673 = .ok (.iload 26, 2) := by decide +kernel
theorem dL_law_675 : decode cL_law 675 = .ok (.iload 27, 2) := by decide +kernel
theorem dL_law_677 : decode cL_law 677 = .ok (.ifCond .eq 30, 3) := by decide +kernel
theorem dL_law_680 : decode cL_law 680 = .ok (.aload_n 1, 1) := by decide +kernel
theorem dL_law_681 : decode cL_law 681 = .ok (.invokevirtual 188, 3) := by decide +kernel
theorem dL_law_684 : decode cL_law 684 = .ok (.iload 17, 2) := by decide +kernel
theorem dL_law_686 : decode cL_law 686 = .ok (.iload 23, 2) := by decide +kernel
theorem dL_law_688 : decode cL_law 688 = .ok (.iadd, 1) := by decide +kernel
theorem dL_law_689 : decode cL_law 689 = .ok (.if_icmp .ne 22, 3) := by decide +kernel
theorem dL_law_692 : decode cL_law 692 = .ok (.aload_n 1, 1) := by decide +kernel
theorem dL_law_693 : decode cL_law 693 = .ok (.invokevirtual 185, 3) := by decide +kernel
theorem dL_law_696 : decode cL_law 696 = .ok (.iload 15, 2) := by decide +kernel
theorem dL_law_698 : decode cL_law 698 = .ok (.iload 25, 2) := by decide +kernel
theorem dL_law_700 : decode cL_law 700 = .ok (.iload 16, 2) := by decide +kernel
theorem dL_law_702 : decode cL_law 702 = .ok (.isub, 1) := by decide +kernel
theorem dL_law_703 : decode cL_law 703 = .ok (.isub, 1) := by decide +kernel
theorem dL_law_704 : decode cL_law 704 = .ok (.if_icmp .ne 7, 3) := by decide +kernel
theorem dL_law_707 : decode cL_law 707 = .ok (.iconst 1, 1) := by decide +kernel
theorem dL_law_708 : decode cL_law 708 = .ok (.goto 4, 3) := by decide +kernel
theorem dL_law_711 : decode cL_law 711 = .ok (.iconst 0, 1) := by decide +kernel
theorem dL_law_712 : decode cL_law 712 = .ok (.iand, 1) := by decide +kernel
theorem dL_law_713 : decode cL_law 713 = .ok (.istore 26, 2) := by decide +kernel
theorem dL_law_715 : decode cL_law 715 = .ok (.iload 26, 2) := by decide +kernel
theorem dL_law_717 : decode cL_law 717 = .ok (.iload 27, 2) := by decide +kernel
theorem dL_law_719 : decode cL_law 719 = .ok (.ifCond .eq 59, 3) := by decide +kernel
theorem dL_law_722 : decode cL_law 722 = .ok (.iload 22, 2) := by decide +kernel
theorem dL_law_724 : decode cL_law 724 = .ok (.ifCond .lt 54, 3) := by decide +kernel
theorem dL_law_727 : decode cL_law 727 = .ok (.iload 14, 2) := by decide +kernel
theorem dL_law_729 : decode cL_law 729 = .ok (.iload 21, 2) := by decide +kernel
theorem dL_law_731 : decode cL_law 731 = .ok (.if_icmp .lt 12, 3) := by decide +kernel
theorem dL_law_734 : decode cL_law 734 = .ok (.iload 23, 2) := by decide +kernel
theorem dL_law_736 : decode cL_law 736 = .ok (.iconst 1, 1) := by decide +kernel
theorem dL_law_737 : decode cL_law 737 = .ok (.if_icmp .ne 45, 3) := by decide +kernel
theorem dL_law_740 : decode cL_law 740 = .ok (.goto 38, 3) := by decide +kernel
theorem dL_law_743 : decode cL_law 743 = .ok (.iload 23, 2) := by decide +kernel
theorem dL_law_745 : decode cL_law 745 = .ok (.ifCond .ne 37, 3) := by decide +kernel
theorem dL_law_748 : decode cL_law 748 = .ok (.aload_n 1, 1) := by decide +kernel
theorem dL_law_749 : decode cL_law 749 = .ok (.invokevirtual 185, 3) := by decide +kernel
theorem dL_law_752 : decode cL_law 752 = .ok (.iconst 1, 1) := by decide +kernel
theorem dL_law_753 : decode cL_law 753 = .ok (.if_icmp .ne 29, 3) := by decide +kernel
theorem dL_law_756 : decode cL_law 756 = .ok (.aload_n 1, 1) := by decide +kernel
theorem dL_law_757 : decode cL_law 757 = .ok (.aload_n 1, 1) := by decide +kernel
theorem dL_law_758 : decode cL_law 758 = .ok (.iconst 0, 1) := by decide +kernel
theorem dL_law_759 : decode cL_law 759 = .ok (.invokestatic 204, 3) := by decide +kernel
theorem dL_law_762 : decode cL_law 762 = .ok (.aload_n 1, 1) := by decide +kernel
theorem dL_law_763 : decode cL_law 763 = .ok (.iconst 0, 1) := by decide +kernel
theorem dL_law_764 : decode cL_law 764 = .ok (.invokestatic 206, 3) := by decide +kernel
theorem dL_law_767 : decode cL_law 767 = .ok (.invokestatic 208, 3) := by decide +kernel
theorem dL_law_770 : decode cL_law 770 = .ok (.iload 21, 2) := by decide +kernel
theorem dL_law_772 : decode cL_law 772 = .ok (.iload 14, 2) := by decide +kernel
theorem dL_law_774 : decode cL_law 774 = .ok (.isub, 1) := by decide +kernel
theorem dL_law_775 : decode cL_law 775 = .ok (.if_icmp .ne 7, 3) := by decide +kernel
theorem dL_law_778 : decode cL_law 778 = .ok (.iconst 1, 1) := by decide +kernel
theorem dL_law_779 : decode cL_law 779 = .ok (.goto 4, 3) := by decide +kernel
theorem dL_law_782 : decode cL_law 782 = .ok (.iconst 0, 1) := by decide +kernel
theorem dL_law_783 : decode cL_law 783 = .ok (.iand, 1) := by decide +kernel
theorem dL_law_784 : decode cL_law 784 = .ok (.istore 26, 2) := by decide +kernel
theorem dL_law_786 : decode cL_law 786 = .ok (.iinc 4 5, 3) := by decide +kernel
theorem dL_law_789 : decode cL_law 789 = .ok (.iload 26, 2) := by decide +kernel
theorem dL_law_791 : decode cL_law 791 = .ok (.ifCond .eq 26, 3) := by decide +kernel
theorem dL_law_794 : decode cL_law 794 = .ok (.aload_n 1, 1) := by decide +kernel
theorem dL_law_795 : decode cL_law 795 = .ok (.aload_n 0, 1) := by decide +kernel
theorem dL_law_796 : decode cL_law 796 = .ok (.iload 4, 2) := by decide +kernel
theorem dL_law_798 : decode cL_law 798 = .ok (.iload 6, 2) := by decide +kernel
theorem dL_law_800 : decode cL_law 800 = .ok (.iconst 4, 1) := by decide +kernel
theorem dL_law_801 : decode cL_law 801 = .ok (.irem, 1) := by decide +kernel
theorem dL_law_802 : decode cL_law 802 = .ok (.iconst 3, 1) := by decide +kernel
theorem dL_law_803 : decode cL_law 803 = .ok (.if_icmp .ne 7, 3) := by decide +kernel
theorem dL_law_806 : decode cL_law 806 = .ok (.iconst 1, 1) := by decide +kernel
theorem dL_law_807 : decode cL_law 807 = .ok (.goto 4, 3) := by decide +kernel
theorem dL_law_810 : decode cL_law 810 = .ok (.iconst 0, 1) := by decide +kernel
theorem dL_law_811 : decode cL_law 811 = .ok (.invokestatic 227, 3) := by decide +kernel
theorem dL_law_814 : decode cL_law 814 = .ok (.ifCond .ne 5, 3) := by decide +kernel
theorem dL_law_817 : decode cL_law 817 = .ok (.iconst 0, 1) := by decide +kernel
theorem dL_law_818 : decode cL_law 818 = .ok (.ireturn, 1) := by decide +kernel
theorem dL_law_819 : decode cL_law 819 = .ok (.iload 24, 2) := by decide +kernel
theorem dL_law_821 : decode cL_law 821 = .ok (.ifCond .ne 24, 3) := by decide +kernel
theorem dL_law_824 : decode cL_law 824 = .ok (.aload_n 1, 1) := by decide +kernel
theorem dL_law_825 : decode cL_law 825 = .ok (.invokestatic 171, 3) := by decide +kernel
theorem dL_law_828 : decode cL_law 828 = .ok (.lload 7, 2) := by decide +kernel
theorem dL_law_830 : decode cL_law 830 = .ok (.lcmp, 1) := by decide +kernel
theorem dL_law_831 : decode cL_law 831 = .ok (.ifCond .ne 12, 3) := by decide +kernel
theorem dL_law_834 : decode cL_law 834 = .ok (.aload_n 1, 1) := by decide +kernel
theorem dL_law_835 : decode cL_law 835 = .ok (.invokevirtual 175, 3) := by decide +kernel
theorem dL_law_838 : decode cL_law 838 = .ok (.iload 9, 2) := by decide +kernel
theorem dL_law_840 : decode cL_law 840 = .ok (.if_icmp .eq 15, 3) := by decide +kernel
theorem dL_law_843 : decode cL_law 843 = .ok (.iconst 0, 1) := by decide +kernel
theorem dL_law_844 : decode cL_law 844 = .ok (.ireturn, 1) := by decide +kernel
theorem dL_law_845 : decode cL_law 845 = .ok (.iinc 3 1, 3) := by decide +kernel
theorem dL_law_848 : decode cL_law 848 = .ok (.aload_n 2, 1) := by decide +kernel
theorem dL_law_849 : decode cL_law 849 = .ok (.iload_n 3, 1) := by decide +kernel
theorem dL_law_850 : decode cL_law 850 = .ok (.aload_n 1, 1) := by decide +kernel
theorem dL_law_851 : decode cL_law 851 = .ok (.invokestatic 171, 3) := by decide +kernel
theorem dL_law_854 : decode cL_law 854 = .ok (.lastore, 1) := by decide +kernel
theorem dL_law_855 : decode cL_law 855 = .ok (.iinc 6 1, 3) := by decide +kernel
theorem dL_law_858 : decode cL_law 858 = .ok (.goto (-827), 3) := by decide +kernel
theorem dL_law_861 : decode cL_law 861 = .ok (.aload_n 1, 1) := by decide +kernel
theorem dL_law_862 : decode cL_law 862 = .ok (.aload_n 2, 1) := by decide +kernel
theorem dL_law_863 : decode cL_law 863 = .ok (.iload_n 3, 1) := by decide +kernel
theorem dL_law_864 : decode cL_law 864 = .ok (.invokestatic 231, 3) := by decide +kernel
theorem dL_law_867 : decode cL_law 867 = .ok (.ireturn, 1) := by decide +kernel
theorem dL_does_0 : decode cL_does 0 = .ok (.aload_n 0, 1) := by decide +kernel
theorem dL_does_1 : decode cL_does 1 = .ok (.iload_n 1, 1) := by decide +kernel
theorem dL_does_2 : decode cL_does 2 = .ok (.iconst 4, 1) := by decide +kernel
theorem dL_does_3 : decode cL_does 3 = .ok (.iadd, 1) := by decide +kernel
theorem dL_does_4 : decode cL_does 4 = .ok (.sipush 1000, 3) := by decide +kernel
theorem dL_does_7 : decode cL_does 7 = .ok (.invokestatic 178, 3) := by decide +kernel
theorem dL_does_10 : decode cL_does 10 = .ok (.istore 7, 2) := by decide +kernel
theorem dL_does_12 : decode cL_does 12 = .ok (.aload_n 0, 1) := by decide +kernel
theorem dL_does_13 : decode cL_does 13 = .ok (.iload_n 1, 1) := by decide +kernel
theorem dL_does_14 : decode cL_does 14 = .ok (.iconst 3, 1) := by decide +kernel
theorem dL_does_15 : decode cL_does 15 = .ok (.iadd, 1) := by decide +kernel
theorem dL_does_16 : decode cL_does 16 = .ok (.sipush 1000, 3) := by decide +kernel
theorem dL_does_19 : decode cL_does 19 = .ok (.invokestatic 178, 3) := by decide +kernel
theorem dL_does_22 : decode cL_does 22 = .ok (.istore 8, 2) := by decide +kernel
theorem dL_does_24 : decode cL_does 24 = .ok (.aload_n 3, 1) := by decide +kernel
theorem dL_does_25 : decode cL_does 25 = .ok (.iload 4, 2) := by decide +kernel
theorem dL_does_27 : decode cL_does 27 = .ok (.invokestatic 221, 3) := by decide +kernel
theorem dL_does_30 : decode cL_does 30 = .ok (.istore 9, 2) := by decide +kernel
theorem dL_does_32 : decode cL_does 32 = .ok (.iload 7, 2) := by decide +kernel
theorem dL_does_34 : decode cL_does 34 = .ok (.bipush 31, 2) := by decide +kernel
theorem dL_does_36 : decode cL_does 36 = .ok (.irem, 1) := by decide +kernel
theorem dL_does_37 : decode cL_does 37 = .ok (.ifCond .ne 8, 3) := by decide +kernel
theorem dL_does_40 : decode cL_does 40 = .ok (.bipush 65, 2) := by decide +kernel
theorem dL_does_42 : decode cL_does 42 = .ok (.goto 11, 3) := by decide +kernel
theorem dL_does_45 : decode cL_does 45 = .ok (.bipush 97, 2) := by decide +kernel
theorem dL_does_47 : decode cL_does 47 = .ok (.iload 8, 2) := by decide +kernel
theorem dL_does_49 : decode cL_does 49 = .ok (.iconst 5, 1) := by decide +kernel
theorem dL_does_50 : decode cL_does 50 = .ok (.irem, 1) := by decide +kernel
theorem dL_does_51 : decode cL_does 51 = .ok (.iadd, 1) := by decide +kernel
theorem dL_does_52 : decode cL_does 52 = .ok (.i2c, 1) := by decide +kernel
theorem dL_does_53 : decode cL_does 53 = .ok (.istore 10, 2) := by decide +kernel
theorem dL_does_55 : decode cL_does 55 = .ok (.bipush 97, 2) := by decide +kernel
theorem dL_does_57 : decode cL_does 57 = .ok (.iload 8, 2) := by decide +kernel
theorem dL_does_59 : decode cL_does 59 = .ok (.iconst 5, 1) := by decide +kernel
theorem dL_does_60 : decode cL_does 60 = .ok (.idiv, 1) := by decide +kernel
theorem dL_does_61 : decode cL_does 61 = .ok (.iconst 5, 1) := by decide +kernel
theorem dL_does_62 : decode cL_does 62 = .ok (.irem, 1) := by decide +kernel
theorem dL_does_63 : decode cL_does 63 = .ok (.iadd, 1) := by decide +kernel
theorem dL_does_64 : decode cL_does 64 = .ok (.i2c, 1) := by decide +kernel
theorem dL_does_65 : decode cL_does 65 = .ok (.istore 11, 2) := by decide +kernel
theorem dL_does_67 : decode cL_does 67 = .ok (.iload_n 2, 1) := by decide +kernel
theorem dL_does_68 : decode cL_does 68 = .ok (.tableswitch 453 0 41 #[184, 184, 184, 184, 184, 184, 184, 256, 256, 263, 263, 263, 263, 263, 272, 272, 453, 453, 453, 453, 453, 453, 453, 453, 453, 453, 453, 279, 279, 279, 293, 302, 302, 302, 302, 302, 302, 302, 302, 302, 309, 309], 184) := by decide +kernel
theorem dL_does_252 : decode cL_does 252 = .ok (.aload_n 3, 1) := by decide +kernel
theorem dL_does_253 : decode cL_does 253 = .ok (.iload 4, 2) := by decide +kernel
theorem dL_does_255 : decode cL_does 255 = .ok (.iload 7, 2) := by decide +kernel
theorem dL_does_257 : decode cL_does 257 = .ok (.bipush 7, 2) := by decide +kernel
theorem dL_does_259 : decode cL_does 259 = .ok (.irem, 1) := by decide +kernel
theorem dL_does_260 : decode cL_does 260 = .ok (.ifCond .ne 11, 3) := by decide +kernel
theorem dL_does_263 : decode cL_does 263 = .ok (.iload 8, 2) := by decide +kernel
theorem dL_does_265 : decode cL_does 265 = .ok (.bipush 10, 2) := by decide +kernel
theorem dL_does_267 : decode cL_does 267 = .ok (.irem, 1) := by decide +kernel
theorem dL_does_268 : decode cL_does 268 = .ok (.goto 16, 3) := by decide +kernel
theorem dL_does_271 : decode cL_does 271 = .ok (.iconst 1, 1) := by decide +kernel
theorem dL_does_272 : decode cL_does 272 = .ok (.iload 9, 2) := by decide +kernel
theorem dL_does_274 : decode cL_does 274 = .ok (.iconst 1, 1) := by decide +kernel
theorem dL_does_275 : decode cL_does 275 = .ok (.isub, 1) := by decide +kernel
theorem dL_does_276 : decode cL_does 276 = .ok (.iload 8, 2) := by decide +kernel
theorem dL_does_278 : decode cL_does 278 = .ok (.iconst 3, 1) := by decide +kernel
theorem dL_does_279 : decode cL_does 279 = .ok (.irem, 1) := by decide +kernel
theorem dL_does_280 : decode cL_does 280 = .ok (.isub, 1) := by decide +kernel
theorem dL_does_281 : decode cL_does 281 = .ok (.invokestatic 235, 3) := by decide +kernel
theorem dL_does_284 : decode cL_does 284 = .ok (.iload 7, 2) := by decide +kernel
theorem dL_does_286 : decode cL_does 286 = .ok (.bipush 29, 2) := by decide +kernel
theorem dL_does_288 : decode cL_does 288 = .ok (.irem, 1) := by decide +kernel
theorem dL_does_289 : decode cL_does 289 = .ok (.ifCond .ne 8, 3) := by decide +kernel
theorem dL_does_292 : decode cL_does 292 = .ok (.bipush 101, 2) := by decide +kernel
theorem dL_does_294 : decode cL_does 294 = .ok (.goto 26, 3) := by decide +kernel
theorem dL_does_297 : decode cL_does 297 = .ok (.iload 7, 2) := by decide +kernel
theorem dL_does_299 : decode cL_does 299 = .ok (.iconst 2, 1) := by decide +kernel
theorem dL_does_300 : decode cL_does 300 = .ok (.irem, 1) := by decide +kernel
theorem dL_does_301 : decode cL_does 301 = .ok (.ifCond .ne 11, 3) := by decide +kernel
theorem dL_does_304 : decode cL_does 304 = .ok (.iload 8, 2) := by decide +kernel
theorem dL_does_306 : decode cL_does 306 = .ok (.bipush 101, 2) := by decide +kernel
theorem dL_does_308 : decode cL_does 308 = .ok (.irem, 1) := by decide +kernel
theorem dL_does_309 : decode cL_does 309 = .ok (.goto 11, 3) := by decide +kernel
theorem dL_does_312 : decode cL_does 312 = .ok (.bipush 60, 2) := by decide +kernel
theorem dL_does_314 : decode cL_does 314 = .ok (.iload 8, 2) := by decide +kernel
theorem dL_does_316 : decode cL_does 316 = .ok (.bipush 41, 2) := by decide +kernel
theorem dL_does_318 : decode cL_does 318 = .ok (.irem, 1) := by decide +kernel
theorem dL_does_319 : decode cL_does 319 = .ok (.iadd, 1) := by decide +kernel
theorem dL_does_320 : decode cL_does 320 = .ok (.invokestatic 240, 3) := by decide +kernel
theorem dL_does_323 : decode cL_does 323 = .ok (.ireturn, 1) := by decide +kernel
theorem dL_does_324 : decode cL_does 324 = .ok (.aload_n 3, 1) := by decide +kernel
theorem dL_does_325 : decode cL_does 325 = .ok (.iload 4, 2) := by decide +kernel
theorem dL_does_327 : decode cL_does 327 = .ok (.invokestatic 243, 3) := by decide +kernel
theorem dL_does_330 : decode cL_does 330 = .ok (.ireturn, 1) := by decide +kernel
theorem dL_does_331 : decode cL_does 331 = .ok (.aload_n 3, 1) := by decide +kernel
theorem dL_does_332 : decode cL_does 332 = .ok (.iload 4, 2) := by decide +kernel
theorem dL_does_334 : decode cL_does 334 = .ok (.iload 5, 2) := by decide +kernel
theorem dL_does_336 : decode cL_does 336 = .ok (.invokestatic 245, 3) := by decide +kernel
