theorem dL_law_197 : decode cL_law 197 = .ok (.iconst 0, 1) := by decide +kernel
theorem dL_law_198 : decode cL_law 198 = .ok (.goto 10, 3) := by decide +kernel
theorem dL_law_201 : decode cL_law 201 = .ok (.iload 23, 2) := by decide +kernel
theorem dL_law_203 : decode cL_law 203 = .ok (.aload 16, 2) := by decide +kernel
theorem dL_law_205 : decode cL_law 205 = .ok (.iconst 1, 1) := by decide +kernel
theorem dL_law_206 : decode cL_law 206 = .ok (.iaload, 1) := by decide +kernel
theorem dL_law_207 : decode cL_law 207 = .ok (.irem, 1) := by decide +kernel
theorem dL_law_208 : decode cL_law 208 = .ok (.istore 24, 2) := by decide +kernel
theorem dL_law_210 : decode cL_law 210 = .ok (.aload 16, 2) := by decide +kernel
theorem dL_law_212 : decode cL_law 212 = .ok (.iconst 0, 1) := by decide +kernel
theorem dL_law_213 : decode cL_law 213 = .ok (.iaload, 1) := by decide +kernel
theorem dL_law_214 : decode cL_law 214 = .ok (.ifCond .ne 7, 3) := by decide +kernel
theorem dL_law_217 : decode cL_law 217 = .ok (.iconst 0, 1) := by decide +kernel
theorem dL_law_218 : decode cL_law 218 = .ok (.goto 12, 3) := by decide +kernel
theorem dL_law_221 : decode cL_law 221 = .ok (.iload 23, 2) := by decide +kernel
theorem dL_law_223 : decode cL_law 223 = .ok (.iconst 3, 1) := by decide +kernel
theorem dL_law_224 : decode cL_law 224 = .ok (.idiv, 1) := by decide +kernel
theorem dL_law_225 : decode cL_law 225 = .ok (.aload 16, 2) := by decide +kernel
theorem dL_law_227 : decode cL_law 227 = .ok (.iconst 0, 1) := by decide +kernel
theorem dL_law_228 : decode cL_law 228 = .ok (.iaload, 1) := by decide +kernel
theorem dL_law_229 : decode cL_law 229 = .ok (.irem, 1) := by decide +kernel
theorem dL_law_230 : decode cL_law 230 = .ok (.istore 25, 2) := by decide +kernel
theorem dL_law_232 : decode cL_law 232 = .ok (.aload 16, 2) := by decide +kernel
theorem dL_law_234 : decode cL_law 234 = .ok (.iconst 0, 1) := by decide +kernel
theorem dL_law_235 : decode cL_law 235 = .ok (.iaload, 1) := by decide +kernel
theorem dL_law_236 : decode cL_law 236 = .ok (.ifCond .ne 7, 3) := by decide +kernel
theorem dL_law_239 : decode cL_law 239 = .ok (.iconst 0, 1) := by decide +kernel
theorem dL_law_240 : decode cL_law 240 = .ok (.goto 13, 3) := by decide +kernel
theorem dL_law_243 : decode cL_law 243 = .ok (.iload 23, 2) := by decide +kernel
theorem dL_law_245 : decode cL_law 245 = .ok (.bipush 18, 2) := by decide +kernel
theorem dL_law_247 : decode cL_law 247 = .ok (.idiv, 1) := by decide +kernel
theorem dL_law_248 : decode cL_law 248 = .ok (.aload 16, 2) := by decide +kernel
theorem dL_law_250 : decode cL_law 250 = .ok (.iconst 0, 1) := by decide +kernel
theorem dL_law_251 : decode cL_law 251 = .ok (.iaload, 1) := by decide +kernel
theorem dL_law_252 : decode cL_law 252 = .ok (.irem, 1) := by decide +kernel
theorem dL_law_253 : decode cL_law 253 = .ok (.istore 26, 2) := by decide +kernel
theorem dL_law_255 : decode cL_law 255 = .ok (.iload 22, 2) := by decide +kernel
theorem dL_law_257 : decode cL_law 257 = .ok (.ifCond .ne 104, 3) := by decide +kernel
theorem dL_law_260 : decode cL_law 260 = .ok (.aload 16, 2) := by decide +kernel
theorem dL_law_262 : decode cL_law 262 = .ok (.iconst 0, 1) := by decide +kernel
theorem dL_law_263 : decode cL_law 263 = .ok (.iaload, 1) := by decide +kernel
theorem dL_law_264 : decode cL_law 264 = .ok (.bipush 6, 2) := by decide +kernel
theorem dL_law_266 : decode cL_law 266 = .ok (.if_icmp .ge 95, 3) := by decide +kernel
theorem dL_law_269 : decode cL_law 269 = .ok (.iload 23, 2) := by decide +kernel
theorem dL_law_271 : decode cL_law 271 = .ok (.iconst 2, 1) := by decide +kernel
theorem dL_law_272 : decode cL_law 272 = .ok (.idiv, 1) := by decide +kernel
theorem dL_law_273 : decode cL_law 273 = .ok (.iconst 4, 1) := by decide +kernel
theorem dL_law_274 : decode cL_law 274 = .ok (.irem, 1) := by decide +kernel
theorem dL_law_275 : decode cL_law 275 = .ok (.istore 27, 2) := by decide +kernel
theorem dL_law_277 : decode cL_law 277 = .ok (.iload 20, 2) := by decide +kernel
theorem dL_law_279 : decode cL_law 279 = .ok (.iconst 3, 1) := by decide +kernel
theorem dL_law_280 : decode cL_law 280 = .ok (.if_icmp .ge 12, 3) := by decide +kernel
theorem dL_law_283 : decode cL_law 283 = .ok (.iload 20, 2) := by decide +kernel
theorem dL_law_285 : decode cL_law 285 = .ok (.iconst 1, 1) := by decide +kernel
theorem dL_law_286 : decode cL_law 286 = .ok (.if_icmp .ne 34, 3) := by decide +kernel
theorem dL_law_289 : decode cL_law 289 = .ok (.goto 10, 3) := by decide +kernel
theorem dL_law_292 : decode cL_law 292 = .ok (.iload 23, 2) := by decide +kernel
theorem dL_law_294 : decode cL_law 294 = .ok (.iconst 2, 1) := by decide +kernel
theorem dL_law_295 : decode cL_law 295 = .ok (.irem, 1) := by decide +kernel
theorem dL_law_296 : decode cL_law 296 = .ok (.ifCond .ne 24, 3) := by decide +kernel
theorem dL_law_299 : decode cL_law 299 = .ok (.aload_n 1, 1) := by decide +kernel
theorem dL_law_300 : decode cL_law 300 = .ok (.invokevirtual 119, 3) := by decide +kernel
theorem dL_law_303 : decode cL_law 303 = .ok (.aload 16, 2) := by decide +kernel
theorem dL_law_305 : decode cL_law 305 = .ok (.iconst 0, 1) := by decide +kernel
theorem dL_law_306 : decode cL_law 306 = .ok (.iaload, 1) := by decide +kernel
theorem dL_law_307 : decode cL_law 307 = .ok (.if_icmp .ne 7, 3) := by decide +kernel
theorem dL_law_310 : decode cL_law 310 = .ok (.iconst 1, 1) := by decide +kernel
theorem dL_law_311 : decode cL_law 311 = .ok (.goto 4, 3) := by decide +kernel
theorem dL_law_314 : decode cL_law 314 = .ok (.iconst 0, 1) := by decide +kernel
theorem dL_law_315 : decode cL_law 315 = .ok (.istore 19, 2) := by decide +kernel
theorem dL_law_317 : decode cL_law 317 = .ok (.goto 33, 3) := by decide +kernel
theorem dL_law_320 : decode cL_law 320 = .ok (.aload_n 1, 1) := by decide +kernel
theorem dL_law_321 : decode cL_law 321 = .ok (.iload 27, 2) := by decide +kernel
theorem dL_law_323 : decode cL_law 323 = .ok (.invokevirtual 123, 3) := by decide +kernel
theorem dL_law_326 : decode cL_law 326 = .ok (.aload 16, 2) := by decide +kernel
theorem dL_law_328 : decode cL_law 328 = .ok (.iconst 0, 1) := by decide +kernel
theorem dL_law_329 : decode cL_law 329 = .ok (.iaload, 1) := by decide +kernel
theorem dL_law_330 : decode cL_law 330 = .ok (.if_icmp .ne 7, 3) := by decide +kernel
theorem dL_law_333 : decode cL_law 333 = .ok (.iconst 1, 1) := by decide +kernel
theorem dL_law_334 : decode cL_law 334 = .ok (.goto 4, 3) := by decide +kernel
theorem dL_law_337 : decode cL_law 337 = .ok (.iconst 0, 1) := by decide +kernel
theorem dL_law_338 : decode cL_law 338 = .ok (.istore 19, 2) := by decide +kernel
theorem dL_law_340 : decode cL_law 340 = .ok (.aload_n 2, 1) := by decide +kernel
theorem dL_law_341 : decode cL_law 341 = .ok (.aload 16, 2) := by decide +kernel
theorem dL_law_343 : decode cL_law 343 = .ok (.iconst 0, 1) := by decide +kernel
theorem dL_law_344 : decode cL_law 344 = .ok (.iaload, 1) := by decide +kernel
theorem dL_law_345 : decode cL_law 345 = .ok (.iload 27, 2) := by decide +kernel
theorem dL_law_347 : decode cL_law 347 = .ok (.iconst 1, 1) := by decide +kernel
theorem dL_law_348 : decode cL_law 348 = .ok (.iadd, 1) := by decide +kernel
theorem dL_law_349 : decode cL_law 349 = .ok (.iastore, 1) := by decide +kernel
theorem dL_law_350 : decode cL_law 350 = .ok (.aload 16, 2) := by decide +kernel
theorem dL_law_352 : decode cL_law 352 = .ok (.iconst 0, 1) := by decide +kernel
theorem dL_law_353 : decode cL_law 353 = .ok (.dup2, 1) := by decide +kernel
theorem dL_law_354 : decode cL_law 354 = .ok (.iaload, 1) := by decide +kernel
theorem dL_law_355 : decode cL_law 355 = .ok (.iconst 1, 1) := by decide +kernel
theorem dL_law_356 : decode cL_law 356 = .ok (.iadd, 1) := by decide +kernel
theorem dL_law_357 : decode cL_law 357 = .ok (.iastore, 1) := by decide +kernel
theorem dL_law_358 : decode cL_law 358 = .ok (.goto 1645, 3) := by decide +kernel
theorem dL_law_361 : decode cL_law 361 = .ok (.iload 22, 2) := by decide +kernel
theorem dL_law_363 : decode cL_law 363 = .ok (.iconst 3, 1) := by decide +kernel
theorem dL_law_364 : decode cL_law 364 = .ok (.if_icmp .ge 335, 3) := by decide +kernel
theorem dL_law_367 : decode cL_law 367 = .ok (.aload 16, 2) := by decide +kernel
theorem dL_law_369 : decode cL_law 369 = .ok (.iconst 1, 1) := by decide +kernel
theorem dL_law_370 : decode cL_law 370 = .ok (.iaload, 1) := by decide +kernel
theorem dL_law_371 : decode cL_law 371 = .ok (.iconst 3, 1) := by decide +kernel
theorem dL_law_372 : decode cL_law 372 = .ok (.if_icmp .ge 327, 3) := by decide +kernel
theorem dL_law_375 : decode cL_law 375 = .ok (.lconst 0, 1) := by decide +kernel
theorem dL_law_376 : decode cL_law 376 = .ok (.lstore 27, 2) := by decide +kernel
theorem dL_law_378 : decode cL_law 378 = .ok (.iconst 0, 1) := by decide +kernel
theorem dL_law_379 : decode cL_law 379 = .ok (.istore 29, 2) := by decide +kernel
theorem dL_law_381 : decode cL_law 381 = .ok (.iconst 1, 1) := by decide +kernel
theorem dL_law_382 : decode cL_law 382 = .ok (.iload 23, 2) := by decide +kernel
theorem dL_law_384 : decode cL_law 384 = .ok (.bipush 6, 2) := by decide +kernel
theorem dL_law_386 : decode cL_law 386 = .ok (.irem, 1) := by decide +kernel
theorem dL_law_387 : decode cL_law 387 = .ok (.iadd, 1) := by decide +kernel
theorem dL_law_388 : decode cL_law 388 = .ok (.istore 30, 2) := by decide +kernel
theorem dL_law_390 : decode cL_law 390 = .ok (.iconst 0, 1) := by decide +kernel
theorem dL_law_391 : decode cL_law 391 = .ok (.istore 31, 2) := by decide +kernel
theorem dL_law_393 : decode cL_law 393 = .ok (.iload 23, 2) := by decide +kernel
theorem dL_law_395 : decode cL_law 395 = .ok (.bipush 6, 2) := by decide +kernel
theorem dL_law_397 : decode cL_law 397 = .ok (.idiv, 1) := by decide +kernel
theorem dL_law_398 : decode cL_law 398 = .ok (.istore 32, 2) := by decide +kernel
theorem dL_law_400 : decode cL_law 400 = .ok (.iload 31, 2) := by decide +kernel
theorem dL_law_402 : decode cL_law 402 = .ok (.iload 30, 2) := by decide +kernel
theorem dL_law_404 : decode cL_law 404 = .ok (.if_icmp .ge 142, 3) := by decide +kernel
theorem dL_law_407 : decode cL_law 407 = .ok (.iload 32, 2) := by decide +kernel
theorem dL_law_409 : decode cL_law 409 = .ok (.iconst 5, 1) := by decide +kernel
theorem dL_law_410 : decode cL_law 410 = .ok (.irem, 1) := by decide +kernel
theorem dL_law_411 : decode cL_law 411 = .ok (.ifCond .ne 8, 3) := by decide +kernel
theorem dL_law_414 : decode cL_law 414 = .ok (.bipush 97, 2) := by decide +kernel
theorem dL_law_416 : decode cL_law 416 = .ok (.goto 31, 3) := by decide +kernel
theorem dL_law_419 : decode cL_law 419 = .ok (.iload 32, 2) := by decide +kernel
theorem dL_law_421 : decode cL_law 421 = .ok (.iconst 5, 1) := by decide +kernel
theorem dL_law_422 : decode cL_law 422 = .ok (.irem, 1) := by decide +kernel
theorem dL_law_423 : decode cL_law 423 = .ok (.iconst 3, 1) := by decide +kernel
theorem dL_law_424 : decode cL_law 424 = .ok (.if_icmp .ne 8, 3) := by decide +kernel
theorem dL_law_427 : decode cL_law 427 = .ok (.bipush 101, 2) := by decide +kernel
theorem dL_law_429 : decode cL_law 429 = .ok (.goto 18, 3) := by decide +kernel
theorem dL_law_432 : decode cL_law 432 = .ok (.iload 32, 2) := by decide +kernel
theorem dL_law_434 : decode cL_law 434 = .ok (.iconst 5, 1) := by decide +kernel
theorem dL_law_435 : decode cL_law 435 = .ok (.irem, 1) := by decide +kernel
theorem dL_law_436 : decode cL_law 436 = .ok (.iconst 4, 1) := by decide +kernel
theorem dL_law_437 : decode cL_law 437 = .ok (.if_icmp .ne 8, 3) := by decide +kernel
theorem dL_law_440 : decode cL_law 440 = .ok (.bipush 99, 2) := by decide +kernel
theorem dL_law_442 : decode cL_law 442 = .ok (.goto 5, 3) := by decide +kernel
theorem dL_law_445 : decode cL_law 445 = .ok (.bipush 98, 2) := by decide +kernel
theorem dL_law_447 : decode cL_law 447 = .ok (.istore 33, 2) := by decide +kernel
theorem dL_law_449 : decode cL_law 449 = .ok (.iload 19, 2) := by decide +kernel
theorem dL_law_451 : decode cL_law 451 = .ok (.ifCond .eq 26, 3) := by decide +kernel
theorem dL_law_454 : decode cL_law 454 = .ok (.aload_n 1, 1) := by decide +kernel
theorem dL_law_455 : decode cL_law 455 = .ok (.iconst 5, 1) := by decide +kernel
theorem dL_law_456 : decode cL_law 456 = .ok (.iload 33, 2) := by decide +kernel
theorem dL_law_458 : decode cL_law 458 = .ok (.iconst 0, 1) := by decide +kernel
theorem dL_law_459 : decode cL_law 459 = .ok (.iconst 0, 1) := by decide +kernel
theorem dL_law_460 : decode cL_law 460 = .ok (.iconst 0, 1) := by decide +kernel
theorem dL_law_461 : decode cL_law 461 = .ok (.invokestatic 126, 3) := by decide +kernel
theorem dL_law_464 : decode cL_law 464 = .ok (.iload 31, 2) := by decide +kernel
theorem dL_law_466 : decode cL_law 466 = .ok (.iconst 1, 1) := by decide +kernel
theorem dL_law_467 : decode cL_law 467 = .ok (.iadd, 1) := by decide +kernel
theorem dL_law_468 : decode cL_law 468 = .ok (.i2l, 1) := by decide +kernel
theorem dL_law_469 : decode cL_law 469 = .ok (.lcmp, 1) := by decide +kernel
theorem dL_law_470 : decode cL_law 470 = .ok (.ifCond .ne 7, 3) := by decide +kernel
theorem dL_law_473 : decode cL_law 473 = .ok (.iconst 1, 1) := by decide +kernel
theorem dL_law_474 : decode cL_law 474 = .ok (.goto 4, 3) := by decide +kernel
theorem dL_law_477 : decode cL_law 477 = .ok (.iconst 0, 1) := by decide +kernel
theorem dL_law_478 : decode cL_law 478 = .ok (.istore 19, 2) := by decide +kernel
theorem dL_law_480 : decode cL_law 480 = .ok (.iload 33, 2) := by decide +kernel
theorem dL_law_482 : decode cL_law 482 = .ok (.bipush 97, 2) := by decide +kernel
theorem dL_law_484 : decode cL_law 484 = .ok (.if_icmp .eq 10, 3) := by decide +kernel
theorem dL_law_487 : decode cL_law 487 = .ok (.iload 33, 2) := by decide +kernel
theorem dL_law_489 : decode cL_law 489 = .ok (.bipush 101, 2) := by decide +kernel
theorem dL_law_491 : decode cL_law 491 = .ok (.if_icmp .ne 8, 3) := by decide +kernel
theorem dL_law_494 : decode cL_law 494 = .ok (.iload 29, 2) := by decide +kernel
theorem dL_law_496 : decode cL_law 496 = .ok (.goto 8, 3) := by decide +kernel
theorem dL_law_499 : decode cL_law 499 = .ok (.iload 33, 2) := by decide +kernel
theorem dL_law_501 : decode cL_law 501 = .ok (.bipush 96, 2) := by decide +kernel
theorem dL_law_503 : decode cL_law 503 = .ok (.isub, 1) := by decide +kernel
theorem dL_law_504 : decode cL_law 504 = .ok (.istore 34, 2) := by decide +kernel
theorem dL_law_506 : decode cL_law 506 = .ok (.iload 34, 2) := by decide +kernel
theorem dL_law_508 : decode cL_law 508 = .ok (.iload 29, 2) := by decide +kernel
theorem dL_law_510 : decode cL_law 510 = .ok (.if_icmp .ne 8, 3) := by decide +kernel
theorem dL_law_513 : decode cL_law 513 = .ok (.lload 27, 2) := by decide +kernel
theorem dL_law_515 : decode cL_law 515 = .ok (.goto 13, 3) := by decide +kernel
theorem dL_law_518 : decode cL_law 518 = .ok (.ldc2_w 130, 3) := by decide +kernel
theorem dL_law_521 : decode cL_law 521 = .ok (.lload 27, 2) := by decide +kernel
theorem dL_law_523 : decode cL_law 523 = .ok (.lmul, 1) := by decide +kernel
theorem dL_law_524 : decode cL_law 524 = .ok (.iload 34, 2) := by decide +kernel
theorem dL_law_526 : decode cL_law 526 = .ok (.i2l, 1) := by decide +kernel
theorem dL_law_527 : decode cL_law 527 = .ok (.ladd, 1) := by decide +kernel
theorem dL_law_528 : decode cL_law 528 = .ok (.lstore 27, 2) := by decide +kernel
theorem dL_law_530 : decode cL_law 530 = .ok (.iload 34, 2) := by decide +kernel
theorem dL_law_532 : decode cL_law 532 = .ok (.istore 29, 2) := by decide +kernel
theorem dL_law_534 : decode cL_law 534 = .ok (.iinc 31 1, 3) := by decide +kernel
theorem dL_law_537 : decode cL_law 537 = .ok (.iload 32, 2) := by decide +kernel
theorem dL_law_539 : decode cL_law 539 = .ok (.iconst 5, 1) := by decide +kernel
theorem dL_law_540 : decode cL_law 540 = .ok (.idiv, 1) := by decide +kernel
theorem dL_law_541 : decode cL_law 541 = .ok (.istore 32, 2) := by decide +kernel
theorem dL_law_543 : decode cL_law 543 = .ok (.goto (-143), 3) := by decide +kernel
theorem dL_law_546 : decode cL_law 546 = .ok (.iconst 0, 1) := by decide +kernel
theorem dL_law_547 : decode cL_law 547 = .ok (.istore 31, 2) := by decide +kernel
theorem dL_law_549 : decode cL_law 549 = .ok (.iconst 0, 1) := by decide +kernel
theorem dL_law_550 : decode cL_law 550 = .ok (.istore 32, 2) := by decide +kernel
theorem dL_law_552 : decode cL_law 552 = .ok (.iload 32, 2) := by decide +kernel
theorem dL_law_554 : decode cL_law 554 = .ok (.aload 16, 2) := by decide +kernel
theorem dL_law_556 : decode cL_law 556 = .ok (.iconst 1, 1) := by decide +kernel
theorem dL_law_557 : decode cL_law 557 = .ok (.iaload, 1) := by decide +kernel
theorem dL_law_558 : decode cL_law 558 = .ok (.if_icmp .ge 32, 3) := by decide +kernel
theorem dL_law_561 : decode cL_law 561 = .ok (.iload 31, 2) := by decide +kernel
theorem dL_law_563 : decode cL_law 563 = .ok (.ifCond .ne 14, 3) := by decide +kernel
theorem dL_law_566 : decode cL_law 566 = .ok (.aload 5, 2) := by decide +kernel
theorem dL_law_568 : decode cL_law 568 = .ok (.iload 32, 2) := by decide +kernel
theorem dL_law_570 : decode cL_law 570 = .ok (.laload, 1) := by decide +kernel
theorem dL_law_571 : decode cL_law 571 = .ok (.lload 27, 2) := by decide +kernel
theorem dL_law_573 : decode cL_law 573 = .ok (.lcmp, 1) := by decide +kernel
theorem dL_law_574 : decode cL_law 574 = .ok (.ifCond .ne 7, 3) := by decide +kernel
theorem dL_law_577 : decode cL_law 577 = .ok (.iconst 1, 1) := by decide +kernel
theorem dL_law_578 : decode cL_law 578 = .ok (.goto 4, 3) := by decide +kernel
theorem dL_law_581 : decode cL_law 581 = .ok (.iconst 0, 1) := by decide +kernel
theorem dL_law_582 : decode cL_law 582 = .ok (.istore 31, 2) := by decide +kernel
theorem dL_law_584 : decode cL_law 584 = .ok (.iinc 32 1, 3) := by decide +kernel
theorem dL_law_587 : decode cL_law 587 = .ok (.goto (-35), 3) := by decide +kernel
theorem dL_law_590 : decode cL_law 590 = .ok (.iload 19, 2) := by decide +kernel
theorem dL_law_592 : decode cL_law 592 = .ok (.ifCond .eq 54, 3) := by decide +kernel
theorem dL_law_595 : decode cL_law 595 = .ok (.aload_n 1, 1) := by decide +kernel
theorem dL_law_596 : decode cL_law 596 = .ok (.iconst 0, 1) := by decide +kernel
theorem dL_law_597 : decode cL_law 597 = .ok (.iload 25, 2) := by decide +kernel
theorem dL_law_599 : decode cL_law 599 = .ok (.iconst 0, 1) := by decide +kernel
theorem dL_law_600 : decode cL_law 600 = .ok (.iconst 0, 1) := by decide +kernel
theorem dL_law_601 : decode cL_law 601 = .ok (.iconst 0, 1) := by decide +kernel
theorem dL_law_602 : decode cL_law 602 = .ok (.invokestatic 126, 3) := by decide +kernel
theorem dL_law_605 : decode cL_law 605 = .ok (.iload 31, 2) := by decide +kernel
theorem dL_law_607 : decode cL_law 607 = .ok (.ifCond .eq 9, 3) := by decide +kernel
theorem dL_law_610 : decode cL_law 610 = .ok (.ldc2_w 17, 3) := by decide +kernel
theorem dL_law_613 : decode cL_law 613 = .ok (.goto 8, 3) := by decide +kernel
theorem dL_law_616 : decode cL_law 616 = .ok (.aload 16, 2) := by decide +kernel
theorem dL_law_618 : decode cL_law 618 = .ok (.iconst 1, 1) := by decide +kernel
theorem dL_law_619 : decode cL_law 619 = .ok (.iaload, 1) := by decide +kernel
theorem dL_law_620 : decode cL_law 620 = .ok (.i2l, 1) := by decide +kernel
theorem dL_law_621 : decode cL_law 621 = .ok (.lcmp, 1) := by decide +kernel
theorem dL_law_622 : decode cL_law 622 = .ok (.ifCond .ne 24, 3) := by decide +kernel
theorem dL_law_625 : decode cL_law 625 = .ok (.aload_n 1, 1) := by decide +kernel
theorem dL_law_626 : decode cL_law 626 = .ok (.iconst 0, 1) := by decide +kernel
theorem dL_law_627 : decode cL_law 627 = .ok (.iload 25, 2) := by decide +kernel
theorem dL_law_629 : decode cL_law 629 = .ok (.iconst 0, 1) := by decide +kernel
theorem dL_law_630 : decode cL_law 630 = .ok (.iconst 0, 1) := by decide +kernel
theorem dL_law_631 : decode cL_law 631 = .ok (.iconst 0, 1) := by decide +kernel
theorem dL_law_632 : decode cL_law 632 = .ok (.invokestatic 126, 3) := by decide +kernel
theorem dL_law_635 : decode cL_law 635 = .ok (.ldc2_w 79, 3) := by decide +kernel
theorem dL_law_638 : decode cL_law 638 = .ok (.lcmp, 1) := by decide +kernel
theorem dL_law_639 : decode cL_law 639 = .ok (.ifCond .ne 7, 3) := by decide +kernel
theorem dL_law_642 : decode cL_law 642 = .ok (.iconst 1, 1) := by decide +kernel
theorem dL_law_643 : decode cL_law 643 = .ok (.goto 4, 3) := by decide +kernel
theorem dL_law_646 : decode cL_law 646 = .ok (.iconst 0, 1) := by decide +kernel
theorem dL_law_647 : decode cL_law 647 = .ok (.istore 19, 2) := by decide +kernel
theorem dL_law_649 : decode cL_law 649 = .ok (.iload 31, 2) := by decide +kernel
theorem dL_law_651 : decode cL_law 651 = .ok (.ifCond .ne 45, 3) := by decide +kernel
theorem dL_law_654 : decode cL_law 654 = .ok (.aload 5, 2) := by decide +kernel
theorem dL_law_656 : decode cL_law 656 = .ok (.aload 16, 2) := by decide +kernel
theorem dL_law_658 : decode cL_law 658 = .ok (.iconst 1, 1) := by decide +kernel
theorem dL_law_659 : decode cL_law 659 = .ok (.iaload, 1) := by decide +kernel
theorem dL_law_660 : decode cL_law 660 = .ok (.lload 27, 2) := by decide +kernel
theorem dL_law_662 : decode cL_law 662 = .ok (.lastore, 1) := by decide +kernel
theorem dL_law_663 : decode cL_law 663 = .ok (.aload 4, 2) := by decide +kernel
theorem dL_law_665 : decode cL_law 665 = .ok (.bipush 6, 2) := by decide +kernel
theorem dL_law_667 : decode cL_law 667 = .ok (.aload 16, 2) := by decide +kernel
theorem dL_law_669 : decode cL_law 669 = .ok (.iconst 1, 1) := by decide +kernel
theorem dL_law_670 : decode cL_law 670 = .ok (.iaload, 1) := by decide +kernel
theorem dL_law_671 : decode cL_law 671 = .ok (.imul, 1) := by decide +kernel
theorem dL_law_672 : decode cL_law 672 = .ok (.iload 25, 2) := by decide +kernel
theorem dL_law_674 : decode cL_law 674 = .ok (.iadd, 1) := by decide +kernel
theorem dL_law_675 : decode cL_law 675 = .ok (.bipush 64, 2) := by decide +kernel
theorem dL_law_677 : decode cL_law 677 = .ok (.iastore, 1) := by decide +kernel
theorem dL_law_678 : decode cL_law 678 = .ok (.aload 7, 2) := by decide +kernel
theorem dL_law_680 : decode cL_law 680 = .ok (.aload 16, 2) := by decide +kernel
theorem dL_law_682 : decode cL_law 682 = .ok (.iconst 1, 1) := by decide +kernel
theorem dL_law_683 : decode cL_law 683 = .ok (.iaload, 1) := by decide +kernel
theorem dL_law_684 : decode cL_law 684 = .ok (.ldc2_w 17, 3) := by decide +kernel
theorem dL_law_687 : decode cL_law 687 = .ok (.lastore, 1) := by decide +kernel
theorem dL_law_688 : decode cL_law 688 = .ok (.aload 16, 2) := by decide +kernel
theorem dL_law_690 : decode cL_law 690 = .ok (.iconst 1, 1) := by decide +kernel
theorem dL_law_691 : decode cL_law 691 = .ok (.dup2, 1) := by decide +kernel
theorem dL_law_692 : decode cL_law 692 = .ok (.iaload, 1) := by decide +kernel
theorem dL_law_693 : decode cL_law 693 = .ok (.iconst 1, 1) := by decide +kernel
theorem dL_law_694 : decode cL_law 694 = .ok (.iadd, 1) := by decide +kernel
theorem dL_law_695 : decode cL_law 695 = .ok (.iastore, 1) := by decide +kernel
theorem dL_law_696 : decode cL_law 696 = .ok (.goto 1307, 3) := by decide +kernel
theorem dL_law_699 : decode cL_law 699 = .ok (.iload 22, 2) := by decide +kernel
theorem dL_law_701 : decode cL_law 701 = .ok (.bipush 7, 2) := by decide +kernel
theorem dL_law_703 : decode cL_law 703 = .ok (.if_icmp .ge 173, 3) := by decide +kernel
theorem dL_law_706 : decode cL_law 706 = .ok (.iload 23, 2) := by decide +kernel
theorem dL_law_708 : decode cL_law 708 = .ok (.bipush 108, 2) := by decide +kernel
theorem dL_law_710 : decode cL_law 710 = .ok (.idiv, 1) := by decide +kernel
theorem dL_law_711 : decode cL_law 711 = .ok (.bipush 65, 2) := by decide +kernel
theorem dL_law_713 : decode cL_law 713 = .ok (.irem, 1) := by decide +kernel
theorem dL_law_714 : decode cL_law 714 = .ok (.istore 27, 2) := by decide +kernel
theorem dL_law_716 : decode cL_law 716 = .ok (.iload 27, 2) := by decide +kernel
theorem dL_law_718 : decode cL_law 718 = .ok (.aload_n 3, 1) := by decide +kernel
theorem dL_law_719 : decode cL_law 719 = .ok (.bipush 6, 2) := by decide +kernel
theorem dL_law_721 : decode cL_law 721 = .ok (.iload 25, 2) := by decide +kernel
theorem dL_law_723 : decode cL_law 723 = .ok (.imul, 1) := by decide +kernel
theorem dL_law_724 : decode cL_law 724 = .ok (.iload 26, 2) := by decide +kernel
theorem dL_law_726 : decode cL_law 726 = .ok (.iadd, 1) := by decide +kernel
theorem dL_law_727 : decode cL_law 727 = .ok (.iaload, 1) := by decide +kernel
theorem dL_law_728 : decode cL_law 728 = .ok (.isub, 1) := by decide +kernel
theorem dL_law_729 : decode cL_law 729 = .ok (.istore 28, 2) := by decide +kernel
theorem dL_law_731 : decode cL_law 731 = .ok (.iconst 0, 1) := by decide +kernel
theorem dL_law_732 : decode cL_law 732 = .ok (.istore 29, 2) := by decide +kernel
theorem dL_law_734 : decode cL_law 734 = .ok (.iload 29, 2) := by decide +kernel
theorem dL_law_736 : decode cL_law 736 = .ok (.bipush 6, 2) := by decide +kernel
theorem dL_law_738 : decode cL_law 738 = .ok (.if_icmp .ge 24, 3) := by decide +kernel
theorem dL_law_741 : decode cL_law 741 = .ok (.iload 28, 2) := by decide +kernel
theorem dL_law_743 : decode cL_law 743 = .ok (.aload_n 3, 1) := by decide +kernel
theorem dL_law_744 : decode cL_law 744 = .ok (.bipush 6, 2) := by decide +kernel
theorem dL_law_746 : decode cL_law 746 = .ok (.iload 25, 2) := by decide +kernel
theorem dL_law_748 : decode cL_law 748 = .ok (.imul, 1) := by decide +kernel
theorem dL_law_749 : decode cL_law 749 = .ok (.iload 29, 2) := by decide +kernel
theorem dL_law_751 : decode cL_law 751 = .ok (.iadd, 1) := by decide +kernel
theorem dL_law_752 : decode cL_law 752 = .ok (.iaload, 1) := by decide +kernel
theorem dL_law_753 : decode cL_law 753 = .ok (.iadd, 1) := by decide +kernel
theorem dL_law_754 : decode cL_law 754 = .ok (.istore 28, 2) := by decide +kernel
theorem dL_law_756 : decode cL_law 756 = .ok (.iinc 29 1, 3) := by decide +kernel
theorem dL_law_759 : decode cL_law 759 = .ok (.goto (-25), 3) := by decide +kernel
theorem dL_law_762 : decode cL_law 762 = .ok (.aload_n 2, 1) := by decide +kernel
theorem dL_law_763 : decode cL_law 763 = .ok (.iload 25, 2) := by decide +kernel
theorem dL_law_765 : decode cL_law 765 = .ok (.iaload, 1) := by decide +kernel
theorem dL_law_766 : decode cL_law 766 = .ok (.ifCond .ne 14, 3) := by decide +kernel
theorem dL_law_769 : decode cL_law 769 = .ok (.iload 28, 2) := by decide +kernel
theorem dL_law_771 : decode cL_law 771 = .ok (.bipush 64, 2) := by decide +kernel
theorem dL_law_773 : decode cL_law 773 = .ok (.if_icmp .gt 7, 3) := by decide +kernel
theorem dL_law_776 : decode cL_law 776 = .ok (.iconst 1, 1) := by decide +kernel
theorem dL_law_777 : decode cL_law 777 = .ok (.goto 4, 3) := by decide +kernel
theorem dL_law_780 : decode cL_law 780 = .ok (.iconst 0, 1) := by decide +kernel
theorem dL_law_781 : decode cL_law 781 = .ok (.istore 29, 2) := by decide +kernel
theorem dL_law_783 : decode cL_law 783 = .ok (.aload_n 1, 1) := by decide +kernel
theorem dL_law_784 : decode cL_law 784 = .ok (.iconst 3, 1) := by decide +kernel
theorem dL_law_785 : decode cL_law 785 = .ok (.iload 25, 2) := by decide +kernel
theorem dL_law_787 : decode cL_law 787 = .ok (.iload 26, 2) := by decide +kernel
theorem dL_law_789 : decode cL_law 789 = .ok (.iload 27, 2) := by decide +kernel
theorem dL_law_791 : decode cL_law 791 = .ok (.iconst 0, 1) := by decide +kernel
theorem dL_law_792 : decode cL_law 792 = .ok (.invokestatic 126, 3) := by decide +kernel
theorem dL_law_795 : decode cL_law 795 = .ok (.iload 29, 2) := by decide +kernel
theorem dL_law_797 : decode cL_law 797 = .ok (.ifCond .eq 17, 3) := by decide +kernel
theorem dL_law_800 : decode cL_law 800 = .ok (.aload_n 3, 1) := by decide +kernel
theorem dL_law_801 : decode cL_law 801 = .ok (.bipush 6, 2) := by decide +kernel
theorem dL_law_803 : decode cL_law 803 = .ok (.iload 25, 2) := by decide +kernel
theorem dL_law_805 : decode cL_law 805 = .ok (.imul, 1) := by decide +kernel
theorem dL_law_806 : decode cL_law 806 = .ok (.iload 26, 2) := by decide +kernel
theorem dL_law_808 : decode cL_law 808 = .ok (.iadd, 1) := by decide +kernel
theorem dL_law_809 : decode cL_law 809 = .ok (.iaload, 1) := by decide +kernel
theorem dL_law_810 : decode cL_law 810 = .ok (.i2l, 1) := by decide +kernel
theorem dL_law_811 : decode cL_law 811 = .ok (.goto 6, 3) := by decide +kernel
theorem dL_law_814 : decode cL_law 814 = .ok (.ldc2_w 79, 3) := by decide +kernel
theorem dL_law_817 : decode cL_law 817 = .ok (.lcmp, 1) := by decide +kernel
theorem dL_law_818 : decode cL_law 818 = .ok (.ifCond .ne 7, 3) := by decide +kernel
theorem dL_law_821 : decode cL_law 821 = .ok (.iconst 1, 1) := by decide +kernel
theorem dL_law_822 : decode cL_law 822 = .ok (.goto 4, 3) := by decide +kernel
theorem dL_law_825 : decode cL_law 825 = .ok (.iconst 0, 1) := by decide +kernel
theorem dL_law_826 : decode cL_law 826 = .ok (.istore 19, 2) := by decide +kernel
theorem dL_law_828 : decode cL_law 828 = .ok (.aload_n 3, 1) := by decide +kernel
theorem dL_law_829 : decode cL_law 829 = .ok (.bipush 6, 2) := by decide +kernel
theorem dL_law_831 : decode cL_law 831 = .ok (.iload 25, 2) := by decide +kernel
theorem dL_law_833 : decode cL_law 833 = .ok (.imul, 1) := by decide +kernel
theorem dL_law_834 : decode cL_law 834 = .ok (.iload 26, 2) := by decide +kernel
theorem dL_law_836 : decode cL_law 836 = .ok (.iadd, 1) := by decide +kernel
theorem dL_law_837 : decode cL_law 837 = .ok (.iload 29, 2) := by decide +kernel
theorem dL_law_839 : decode cL_law 839 = .ok (.ifCond .eq 8, 3) := by decide +kernel
theorem dL_law_842 : decode cL_law 842 = .ok (.iload 27, 2) := by decide +kernel
theorem dL_law_844 : decode cL_law 844 = .ok (.goto 13, 3) := by decide +kernel
theorem dL_law_847 : decode cL_law 847 = .ok (.aload_n 3, 1) := by decide +kernel
theorem dL_law_848 : decode cL_law 848 = .ok (.bipush 6, 2) := by decide +kernel
theorem dL_law_850 : decode cL_law 850 = .ok (.iload 25, 2) := by decide +kernel
theorem dL_law_852 : decode cL_law 852 = .ok (.imul, 1) := by decide +kernel
theorem dL_law_853 : decode cL_law 853 = .ok (.iload 26, 2) := by decide +kernel
theorem dL_law_855 : decode cL_law 855 = .ok (.iadd, 1) := by decide +kernel
theorem dL_law_856 : decode cL_law 856 = .ok (.iaload, 1) := by decide +kernel
theorem dL_law_857 : decode cL_law 857 = .ok (.iastore, 1) := by decide +kernel
theorem dL_law_858 : decode cL_law 858 = .ok (.aload_n 2, 1) := by decide +kernel
theorem dL_law_859 : decode cL_law 859 = .ok (.aload_n 3, 1) := by decide +kernel
theorem dL_law_860 : decode cL_law 860 = .ok (.aload 4, 2) := by decide +kernel
theorem dL_law_862 : decode cL_law 862 = .ok (.aload 6, 2) := by decide +kernel
theorem dL_law_864 : decode cL_law 864 = .ok (.aload 7, 2) := by decide +kernel
theorem dL_law_866 : decode cL_law 866 = .ok (.aload 16, 2) := by decide +kernel
theorem dL_law_868 : decode cL_law 868 = .ok (.lload 17, 2) := by decide +kernel
theorem dL_law_870 : decode cL_law 870 = .ok (.invokestatic 132, 3) := by decide +kernel
theorem dL_law_873 : decode cL_law 873 = .ok (.goto 1130, 3) := by decide +kernel
theorem dL_law_876 : decode cL_law 876 = .ok (.iload 22, 2) := by decide +kernel
theorem dL_law_878 : decode cL_law 878 = .ok (.bipush 11, 2) := by decide +kernel
theorem dL_law_880 : decode cL_law 880 = .ok (.if_icmp .ge 180, 3) := by decide +kernel
theorem dL_law_883 : decode cL_law 883 = .ok (.aload 16, 2) := by decide +kernel
theorem dL_law_885 : decode cL_law 885 = .ok (.iconst 1, 1) := by decide +kernel
theorem dL_law_886 : decode cL_law 886 = .ok (.iaload, 1) := by decide +kernel
theorem dL_law_887 : decode cL_law 887 = .ok (.ifCond .le 173, 3) := by decide +kernel
theorem dL_law_890 : decode cL_law 890 = .ok (.iconst 1, 1) := by decide +kernel
theorem dL_law_891 : decode cL_law 891 = .ok (.iload 23, 2) := by decide +kernel
theorem dL_law_893 : decode cL_law 893 = .ok (.bipush 108, 2) := by decide +kernel
theorem dL_law_895 : decode cL_law 895 = .ok (.idiv, 1) := by decide +kernel
theorem dL_law_896 : decode cL_law 896 = .ok (.bipush 64, 2) := by decide +kernel
theorem dL_law_898 : decode cL_law 898 = .ok (.irem, 1) := by decide +kernel
theorem dL_law_899 : decode cL_law 899 = .ok (.iadd, 1) := by decide +kernel
theorem dL_law_900 : decode cL_law 900 = .ok (.istore 27, 2) := by decide +kernel
theorem dL_law_902 : decode cL_law 902 = .ok (.iload 25, 2) := by decide +kernel
theorem dL_law_904 : decode cL_law 904 = .ok (.iload 26, 2) := by decide +kernel
theorem dL_law_906 : decode cL_law 906 = .ok (.if_icmp .eq 23, 3) := by decide +kernel
theorem dL_law_909 : decode cL_law 909 = .ok (.aload 4, 2) := by decide +kernel
theorem dL_law_911 : decode cL_law 911 = .ok (.bipush 6, 2) := by decide +kernel
theorem dL_law_913 : decode cL_law 913 = .ok (.iload 24, 2) := by decide +kernel
theorem dL_law_915 : decode cL_law 915 = .ok (.imul, 1) := by decide +kernel
theorem dL_law_916 : decode cL_law 916 = .ok (.iload 25, 2) := by decide +kernel
theorem dL_law_918 : decode cL_law 918 = .ok (.iadd, 1) := by decide +kernel
theorem dL_law_919 : decode cL_law 919 = .ok (.iaload, 1) := by decide +kernel
theorem dL_law_920 : decode cL_law 920 = .ok (.iload 27, 2) := by decide +kernel
theorem dL_law_922 : decode cL_law 922 = .ok (.if_icmp .lt 7, 3) := by decide +kernel
theorem dL_law_925 : decode cL_law 925 = .ok (.iconst 1, 1) := by decide +kernel
theorem dL_law_926 : decode cL_law 926 = .ok (.goto 4, 3) := by decide +kernel
theorem dL_law_929 : decode cL_law 929 = .ok (.iconst 0, 1) := by decide +kernel
theorem dL_law_930 : decode cL_law 930 = .ok (.istore 28, 2) := by decide +kernel
theorem dL_law_932 : decode cL_law 932 = .ok (.aload 4, 2) := by decide +kernel
theorem dL_law_934 : decode cL_law 934 = .ok (.bipush 6, 2) := by decide +kernel
theorem dL_law_936 : decode cL_law 936 = .ok (.iload 24, 2) := by decide +kernel
theorem dL_law_938 : decode cL_law 938 = .ok (.imul, 1) := by decide +kernel
theorem dL_law_939 : decode cL_law 939 = .ok (.iload 25, 2) := by decide +kernel
theorem dL_law_941 : decode cL_law 941 = .ok (.iadd, 1) := by decide +kernel
theorem dL_law_942 : decode cL_law 942 = .ok (.dup2, 1) := by decide +kernel
theorem dL_law_943 : decode cL_law 943 = .ok (.iaload, 1) := by decide +kernel
theorem dL_law_944 : decode cL_law 944 = .ok (.iload 28, 2) := by decide +kernel
theorem dL_law_946 : decode cL_law 946 = .ok (.ifCond .eq 8, 3) := by decide +kernel
theorem dL_law_949 : decode cL_law 949 = .ok (.iload 27, 2) := by decide +kernel
theorem dL_law_951 : decode cL_law 951 = .ok (.goto 4, 3) := by decide +kernel
theorem dL_law_954 : decode cL_law 954 = .ok (.iconst 0, 1) := by decide +kernel
theorem dL_law_955 : decode cL_law 955 = .ok (.isub, 1) := by decide +kernel
theorem dL_law_956 : decode cL_law 956 = .ok (.iastore, 1) := by decide +kernel
theorem dL_law_957 : decode cL_law 957 = .ok (.aload 4, 2) := by decide +kernel
theorem dL_law_959 : decode cL_law 959 = .ok (.bipush 6, 2) := by decide +kernel
theorem dL_law_961 : decode cL_law 961 = .ok (.iload 24, 2) := by decide +kernel
theorem dL_law_963 : decode cL_law 963 = .ok (.imul, 1) := by decide +kernel
theorem dL_law_964 : decode cL_law 964 = .ok (.iload 26, 2) := by decide +kernel
theorem dL_law_966 : decode cL_law 966 = .ok (.iadd, 1) := by decide +kernel
theorem dL_law_967 : decode cL_law 967 = .ok (.dup2, 1) := by decide +kernel
theorem dL_law_968 : decode cL_law 968 = .ok (.iaload, 1) := by decide +kernel
theorem dL_law_969 : decode cL_law 969 = .ok (.iload 28, 2) := by decide +kernel
theorem dL_law_971 : decode cL_law 971 = .ok (.ifCond .eq 8, 3) := by decide +kernel
theorem dL_law_974 : decode cL_law 974 = .ok (.iload 27, 2) := by decide +kernel
theorem dL_law_976 : decode cL_law 976 = .ok (.goto 4, 3) := by decide +kernel
theorem dL_law_979 : decode cL_law 979 = .ok (.iconst 0, 1) := by decide +kernel
theorem dL_law_980 : decode cL_law 980 = .ok (.iadd, 1) := by decide +kernel
theorem dL_law_981 : decode cL_law 981 = .ok (.iastore, 1) := by decide +kernel
theorem dL_law_982 : decode cL_law 982 = .ok (.aload_n 1, 1) := by decide +kernel
theorem dL_law_983 : decode cL_law 983 = .ok (.iconst 1, 1) := by decide +kernel
theorem dL_law_984 : decode cL_law 984 = .ok (.iload 24, 2) := by decide +kernel
theorem dL_law_986 : decode cL_law 986 = .ok (.iload 25, 2) := by decide +kernel
theorem dL_law_988 : decode cL_law 988 = .ok (.iload 26, 2) := by decide +kernel
theorem dL_law_990 : decode cL_law 990 = .ok (.iload 27, 2) := by decide +kernel
theorem dL_law_992 : decode cL_law 992 = .ok (.invokestatic 126, 3) := by decide +kernel
theorem dL_law_995 : decode cL_law 995 = .ok (.iload 25, 2) := by decide +kernel
theorem dL_law_997 : decode cL_law 997 = .ok (.iload 26, 2) := by decide +kernel
theorem dL_law_999 : decode cL_law 999 = .ok (.if_icmp .ne 9, 3) := by decide +kernel
theorem dL_law_1002 : decode cL_law 1002 = .ok (.ldc2_w 75, 3) := by decide +kernel
theorem dL_law_1005 : decode cL_law 1005 = .ok (.goto 26, 3) := by decide +kernel
theorem dL_law_1008 : decode cL_law 1008 = .ok (.iload 28, 2) := by decide +kernel
theorem dL_law_1010 : decode cL_law 1010 = .ok (.ifCond .eq 18, 3) := by decide +kernel
theorem dL_law_1013 : decode cL_law 1013 = .ok (.aload 4, 2) := by decide +kernel
theorem dL_law_1015 : decode cL_law 1015 = .ok (.bipush 6, 2) := by decide +kernel
theorem dL_law_1017 : decode cL_law 1017 = .ok (.iload 24, 2) := by decide +kernel
theorem dL_law_1019 : decode cL_law 1019 = .ok (.imul, 1) := by decide +kernel
theorem dL_law_1020 : decode cL_law 1020 = .ok (.iload 26, 2) := by decide +kernel
theorem dL_law_1022 : decode cL_law 1022 = .ok (.iadd, 1) := by decide +kernel
theorem dL_law_1023 : decode cL_law 1023 = .ok (.iaload, 1) := by decide +kernel
theorem dL_law_1024 : decode cL_law 1024 = .ok (.i2l, 1) := by decide +kernel
theorem dL_law_1025 : decode cL_law 1025 = .ok (.goto 6, 3) := by decide +kernel
theorem dL_law_1028 : decode cL_law 1028 = .ok (.ldc2_w 79, 3) := by decide +kernel
theorem dL_law_1031 : decode cL_law 1031 = .ok (.lcmp, 1) := by decide +kernel
theorem dL_law_1032 : decode cL_law 1032 = .ok (.ifCond .ne 7, 3) := by decide +kernel
theorem dL_law_1035 : decode cL_law 1035 = .ok (.iconst 1, 1) := by decide +kernel
theorem dL_law_1036 : decode cL_law 1036 = .ok (.goto 4, 3) := by decide +kernel
theorem dL_law_1039 : decode cL_law 1039 = .ok (.iconst 0, 1) := by decide +kernel
theorem dL_law_1040 : decode cL_law 1040 = .ok (.istore 19, 2) := by decide +kernel
theorem dL_law_1042 : decode cL_law 1042 = .ok (.aload_n 2, 1) := by decide +kernel
theorem dL_law_1043 : decode cL_law 1043 = .ok (.aload_n 3, 1) := by decide +kernel
theorem dL_law_1044 : decode cL_law 1044 = .ok (.aload 4, 2) := by decide +kernel
theorem dL_law_1046 : decode cL_law 1046 = .ok (.aload 6, 2) := by decide +kernel
theorem dL_law_1048 : decode cL_law 1048 = .ok (.aload 7, 2) := by decide +kernel
theorem dL_law_1050 : decode cL_law 1050 = .ok (.aload 16, 2) := by decide +kernel
theorem dL_law_1052 : decode cL_law 1052 = .ok (.lload 17, 2) := by decide +kernel
theorem dL_law_1054 : decode cL_law 1054 = .ok (.invokestatic 132, 3) := by decide +kernel
theorem dL_law_1057 : decode cL_law 1057 = .ok (.goto 946, 3) := by decide +kernel
theorem dL_law_1060 : decode cL_law 1060 = .ok (.iload 22, 2) := by decide +kernel
theorem dL_law_1062 : decode cL_law 1062 = .ok (.bipush 14, 2) := by decide +kernel
theorem dL_law_1064 : decode cL_law 1064 = .ok (.if_icmp .ge 135, 3) := by decide +kernel
theorem dL_law_1067 : decode cL_law 1067 = .ok (.aload 16, 2) := by decide +kernel
theorem dL_law_1069 : decode cL_law 1069 = .ok (.iconst 1, 1) := by decide +kernel
theorem dL_law_1070 : decode cL_law 1070 = .ok (.iaload, 1) := by decide +kernel
theorem dL_law_1071 : decode cL_law 1071 = .ok (.ifCond .le 128, 3) := by decide +kernel
theorem dL_law_1074 : decode cL_law 1074 = .ok (.iload 23, 2) := by decide +kernel
theorem dL_law_1076 : decode cL_law 1076 = .ok (.iconst 3, 1) := by decide +kernel
theorem dL_law_1077 : decode cL_law 1077 = .ok (.idiv, 1) := by decide +kernel
theorem dL_law_1078 : decode cL_law 1078 = .ok (.iconst 4, 1) := by decide +kernel
theorem dL_law_1079 : decode cL_law 1079 = .ok (.irem, 1) := by decide +kernel
theorem dL_law_1080 : decode cL_law 1080 = .ok (.istore 27, 2) := by decide +kernel
theorem dL_law_1082 : decode cL_law 1082 = .ok (.bipush 6, 2) := by decide +kernel
theorem dL_law_1084 : decode cL_law 1084 = .ok (.newarray .int, 2) := by decide +kernel
theorem dL_law_1086 : decode cL_law 1086 = .ok (.astore 28, 2) := by decide +kernel
theorem dL_law_1088 : decode cL_law 1088 = .ok (.aload_n 2, 1) := by decide +kernel
theorem dL_law_1089 : decode cL_law 1089 = .ok (.aload_n 3, 1) := by decide +kernel
theorem dL_law_1090 : decode cL_law 1090 = .ok (.aload 16, 2) := by decide +kernel
theorem dL_law_1092 : decode cL_law 1092 = .ok (.aload 28, 2) := by decide +kernel
theorem dL_law_1094 : decode cL_law 1094 = .ok (.invokestatic 7, 3) := by decide +kernel
theorem dL_law_1097 : decode cL_law 1097 = .ok (.aload 28, 2) := by decide +kernel
theorem dL_law_1099 : decode cL_law 1099 = .ok (.aload 4, 2) := by decide +kernel
theorem dL_law_1101 : decode cL_law 1101 = .ok (.aload 16, 2) := by decide +kernel
theorem dL_law_1103 : decode cL_law 1103 = .ok (.iload 24, 2) := by decide +kernel
theorem dL_law_1105 : decode cL_law 1105 = .ok (.iload 27, 2) := by decide +kernel
theorem dL_law_1107 : decode cL_law 1107 = .ok (.iconst 1, 1) := by decide +kernel
theorem dL_law_1108 : decode cL_law 1108 = .ok (.iadd, 1) := by decide +kernel
theorem dL_law_1109 : decode cL_law 1109 = .ok (.invokestatic 13, 3) := by decide +kernel
theorem dL_law_1112 : decode cL_law 1112 = .ok (.istore 29, 2) := by decide +kernel
theorem dL_law_1114 : decode cL_law 1114 = .ok (.aload_n 1, 1) := by decide +kernel
theorem dL_law_1115 : decode cL_law 1115 = .ok (.iconst 2, 1) := by decide +kernel
theorem dL_law_1116 : decode cL_law 1116 = .ok (.iload 24, 2) := by decide +kernel
theorem dL_law_1118 : decode cL_law 1118 = .ok (.iload 27, 2) := by decide +kernel
theorem dL_law_1120 : decode cL_law 1120 = .ok (.iconst 0, 1) := by decide +kernel
theorem dL_law_1121 : decode cL_law 1121 = .ok (.iconst 0, 1) := by decide +kernel
theorem dL_law_1122 : decode cL_law 1122 = .ok (.invokestatic 126, 3) := by decide +kernel
theorem dL_law_1125 : decode cL_law 1125 = .ok (.iload 29, 2) := by decide +kernel
theorem dL_law_1127 : decode cL_law 1127 = .ok (.ifCond .eq 18, 3) := by decide +kernel
theorem dL_law_1130 : decode cL_law 1130 = .ok (.aload 6, 2) := by decide +kernel
theorem dL_law_1132 : decode cL_law 1132 = .ok (.aload 7, 2) := by decide +kernel
theorem dL_law_1134 : decode cL_law 1134 = .ok (.iload 24, 2) := by decide +kernel
theorem dL_law_1136 : decode cL_law 1136 = .ok (.lload 17, 2) := by decide +kernel
theorem dL_law_1138 : decode cL_law 1138 = .ok (.invokestatic 97, 3) := by decide +kernel
theorem dL_law_1141 : decode cL_law 1141 = .ok (.i2l, 1) := by decide +kernel
theorem dL_law_1142 : decode cL_law 1142 = .ok (.goto 6, 3) := by decide +kernel
theorem dL_law_1145 : decode cL_law 1145 = .ok (.ldc2_w 79, 3) := by decide +kernel
theorem dL_law_1148 : decode cL_law 1148 = .ok (.lcmp, 1) := by decide +kernel
theorem dL_law_1149 : decode cL_law 1149 = .ok (.ifCond .ne 7, 3) := by decide +kernel
theorem dL_law_1152 : decode cL_law 1152 = .ok (.iconst 1, 1) := by decide +kernel
theorem dL_law_1153 : decode cL_law 1153 = .ok (.goto 4, 3) := by decide +kernel
theorem dL_law_1156 : decode cL_law 1156 = .ok (.iconst 0, 1) := by decide +kernel
theorem dL_law_1157 : decode cL_law 1157 = .ok (.istore 19, 2) := by decide +kernel
theorem dL_law_1159 : decode cL_law 1159 = .ok (.aload 6, 2) := by decide +kernel
theorem dL_law_1161 : decode cL_law 1161 = .ok (.iload 24, 2) := by decide +kernel
theorem dL_law_1163 : decode cL_law 1163 = .ok (.iload 29, 2) := by decide +kernel
theorem dL_law_1165 : decode cL_law 1165 = .ok (.ifCond .eq 10, 3) := by decide +kernel
theorem dL_law_1168 : decode cL_law 1168 = .ok (.iload 27, 2) := by decide +kernel
theorem dL_law_1170 : decode cL_law 1170 = .ok (.iconst 1, 1) := by decide +kernel
theorem dL_law_1171 : decode cL_law 1171 = .ok (.iadd, 1) := by decide +kernel
theorem dL_law_1172 : decode cL_law 1172 = .ok (.goto 8, 3) := by decide +kernel
theorem dL_law_1175 : decode cL_law 1175 = .ok (.aload 6, 2) := by decide +kernel
theorem dL_law_1177 : decode cL_law 1177 = .ok (.iload 24, 2) := by decide +kernel
theorem dL_law_1179 : decode cL_law 1179 = .ok (.iaload, 1) := by decide +kernel
theorem dL_law_1180 : decode cL_law 1180 = .ok (.iastore, 1) := by decide +kernel
theorem dL_law_1181 : decode cL_law 1181 = .ok (.aload_n 2, 1) := by decide +kernel
theorem dL_law_1182 : decode cL_law 1182 = .ok (.aload_n 3, 1) := by decide +kernel
theorem dL_law_1183 : decode cL_law 1183 = .ok (.aload 4, 2) := by decide +kernel
theorem dL_law_1185 : decode cL_law 1185 = .ok (.aload 6, 2) := by decide +kernel
theorem dL_law_1187 : decode cL_law 1187 = .ok (.aload 7, 2) := by decide +kernel
theorem dL_law_1189 : decode cL_law 1189 = .ok (.aload 16, 2) := by decide +kernel
theorem dL_law_1191 : decode cL_law 1191 = .ok (.lload 17, 2) := by decide +kernel
theorem dL_law_1193 : decode cL_law 1193 = .ok (.invokestatic 132, 3) := by decide +kernel
theorem dL_law_1196 : decode cL_law 1196 = .ok (.goto 807, 3) := by decide +kernel
theorem dL_law_1199 : decode cL_law 1199 = .ok (.iload 22, 2) := by decide +kernel
theorem dL_law_1201 : decode cL_law 1201 = .ok (.bipush 22, 2) := by decide +kernel
theorem dL_law_1203 : decode cL_law 1203 = .ok (.if_icmp .ge 360, 3) := by decide +kernel
theorem dL_law_1206 : decode cL_law 1206 = .ok (.iload 22, 2) := by decide +kernel
theorem dL_law_1208 : decode cL_law 1208 = .ok (.bipush 13, 2) := by decide +kernel
theorem dL_law_1210 : decode cL_law 1210 = .ok (.if_icmp .le 353, 3) := by decide +kernel
theorem dL_law_1213 : decode cL_law 1213 = .ok (.aload 16, 2) := by decide +kernel
theorem dL_law_1215 : decode cL_law 1215 = .ok (.iconst 1, 1) := by decide +kernel
theorem dL_law_1216 : decode cL_law 1216 = .ok (.iaload, 1) := by decide +kernel
theorem dL_law_1217 : decode cL_law 1217 = .ok (.ifCond .le 346, 3) := by decide +kernel
theorem dL_law_1220 : decode cL_law 1220 = .ok (.aload 16, 2) := by decide +kernel
theorem dL_law_1222 : decode cL_law 1222 = .ok (.iconst 2, 1) := by decide +kernel
theorem dL_law_1223 : decode cL_law 1223 = .ok (.iaload, 1) := by decide +kernel
theorem dL_law_1224 : decode cL_law 1224 = .ok (.bipush 40, 2) := by decide +kernel
theorem dL_law_1226 : decode cL_law 1226 = .ok (.if_icmp .ge 337, 3) := by decide +kernel
theorem dL_law_1229 : decode cL_law 1229 = .ok (.aload 16, 2) := by decide +kernel
theorem dL_law_1231 : decode cL_law 1231 = .ok (.iconst 2, 1) := by decide +kernel
theorem dL_law_1232 : decode cL_law 1232 = .ok (.iaload, 1) := by decide +kernel
theorem dL_law_1233 : decode cL_law 1233 = .ok (.istore 27, 2) := by decide +kernel
theorem dL_law_1235 : decode cL_law 1235 = .ok (.iconst 1, 1) := by decide +kernel
theorem dL_law_1236 : decode cL_law 1236 = .ok (.iload 23, 2) := by decide +kernel
theorem dL_law_1238 : decode cL_law 1238 = .ok (.bipush 108, 2) := by decide +kernel
theorem dL_law_1240 : decode cL_law 1240 = .ok (.idiv, 1) := by decide +kernel
theorem dL_law_1241 : decode cL_law 1241 = .ok (.sipush 5000, 3) := by decide +kernel
theorem dL_law_1244 : decode cL_law 1244 = .ok (.irem, 1) := by decide +kernel
theorem dL_law_1245 : decode cL_law 1245 = .ok (.iadd, 1) := by decide +kernel
theorem dL_law_1246 : decode cL_law 1246 = .ok (.istore 28, 2) := by decide +kernel
theorem dL_law_1248 : decode cL_law 1248 = .ok (.iload 23, 2) := by decide +kernel
theorem dL_law_1250 : decode cL_law 1250 = .ok (.bipush 7, 2) := by decide +kernel
theorem dL_law_1252 : decode cL_law 1252 = .ok (.idiv, 1) := by decide +kernel
theorem dL_law_1253 : decode cL_law 1253 = .ok (.iconst 4, 1) := by decide +kernel
theorem dL_law_1254 : decode cL_law 1254 = .ok (.irem, 1) := by decide +kernel
theorem dL_law_1255 : decode cL_law 1255 = .ok (.istore 29, 2) := by decide +kernel
theorem dL_law_1257 : decode cL_law 1257 = .ok (.iload 22, 2) := by decide +kernel
theorem dL_law_1259 : decode cL_law 1259 = .ok (.bipush 17, 2) := by decide +kernel
theorem dL_law_1261 : decode cL_law 1261 = .ok (.if_icmp .ge 7, 3) := by decide +kernel
theorem dL_law_1264 : decode cL_law 1264 = .ok (.iconst 0, 1) := by decide +kernel
theorem dL_law_1265 : decode cL_law 1265 = .ok (.goto 15, 3) := by decide +kernel
theorem dL_law_1268 : decode cL_law 1268 = .ok (.iload 22, 2) := by decide +kernel
theorem dL_law_1270 : decode cL_law 1270 = .ok (.bipush 20, 2) := by decide +kernel
theorem dL_law_1272 : decode cL_law 1272 = .ok (.if_icmp .ge 7, 3) := by decide +kernel
theorem dL_law_1275 : decode cL_law 1275 = .ok (.iconst 1, 1) := by decide +kernel
theorem dL_law_1276 : decode cL_law 1276 = .ok (.goto 4, 3) := by decide +kernel
theorem dL_law_1279 : decode cL_law 1279 = .ok (.iconst 3, 1) := by decide +kernel
theorem dL_law_1280 : decode cL_law 1280 = .ok (.istore 30, 2) := by decide +kernel
theorem dL_law_1282 : decode cL_law 1282 = .ok (.aload 8, 2) := by decide +kernel
theorem dL_law_1284 : decode cL_law 1284 = .ok (.iload 27, 2) := by decide +kernel
theorem dL_law_1286 : decode cL_law 1286 = .ok (.iload 30, 2) := by decide +kernel
theorem dL_law_1288 : decode cL_law 1288 = .ok (.iconst 4, 1) := by decide +kernel
theorem dL_law_1289 : decode cL_law 1289 = .ok (.iload 24, 2) := by decide +kernel
theorem dL_law_1291 : decode cL_law 1291 = .ok (.imul, 1) := by decide +kernel
theorem dL_law_1292 : decode cL_law 1292 = .ok (.iadd, 1) := by decide +kernel
theorem dL_law_1293 : decode cL_law 1293 = .ok (.bipush 16, 2) := by decide +kernel
theorem dL_law_1295 : decode cL_law 1295 = .ok (.iload 25, 2) := by decide +kernel
theorem dL_law_1297 : decode cL_law 1297 = .ok (.imul, 1) := by decide +kernel
theorem dL_law_1298 : decode cL_law 1298 = .ok (.iadd, 1) := by decide +kernel
theorem dL_law_1299 : decode cL_law 1299 = .ok (.iload 30, 2) := by decide +kernel
theorem dL_law_1301 : decode cL_law 1301 = .ok (.iconst 3, 1) := by decide +kernel
theorem dL_law_1302 : decode cL_law 1302 = .ok (.if_icmp .ne 12, 3) := by decide +kernel
theorem dL_law_1305 : decode cL_law 1305 = .ok (.sipush 128, 3) := by decide +kernel
theorem dL_law_1308 : decode cL_law 1308 = .ok (.iload 29, 2) := by decide +kernel
theorem dL_law_1310 : decode cL_law 1310 = .ok (.imul, 1) := by decide +kernel
theorem dL_law_1311 : decode cL_law 1311 = .ok (.goto 4, 3) := by decide +kernel
theorem dL_law_1314 : decode cL_law 1314 = .ok (.iconst 0, 1) := by decide +kernel
theorem dL_law_1315 : decode cL_law 1315 = .ok (.iadd, 1) := by decide +kernel
theorem dL_law_1316 : decode cL_law 1316 = .ok (.iastore, 1) := by decide +kernel
theorem dL_law_1317 : decode cL_law 1317 = .ok (.aload 9, 2) := by decide +kernel
theorem dL_law_1319 : decode cL_law 1319 = .ok (.iload 27, 2) := by decide +kernel
theorem dL_law_1321 : decode cL_law 1321 = .ok (.iload 28, 2) := by decide +kernel
theorem dL_law_1323 : decode cL_law 1323 = .ok (.iastore, 1) := by decide +kernel
theorem dL_law_1324 : decode cL_law 1324 = .ok (.aload 10, 2) := by decide +kernel
theorem dL_law_1326 : decode cL_law 1326 = .ok (.iload 27, 2) := by decide +kernel
theorem dL_law_1328 : decode cL_law 1328 = .ok (.lload 17, 2) := by decide +kernel
theorem dL_law_1330 : decode cL_law 1330 = .ok (.lastore, 1) := by decide +kernel
theorem dL_law_1331 : decode cL_law 1331 = .ok (.aload 11, 2) := by decide +kernel
theorem dL_law_1333 : decode cL_law 1333 = .ok (.iload 27, 2) := by decide +kernel
theorem dL_law_1335 : decode cL_law 1335 = .ok (.ldc2_w 17, 3) := by decide +kernel
theorem dL_law_1338 : decode cL_law 1338 = .ok (.lastore, 1) := by decide +kernel
theorem dL_law_1339 : decode cL_law 1339 = .ok (.aload 16, 2) := by decide +kernel
theorem dL_law_1341 : decode cL_law 1341 = .ok (.iconst 2, 1) := by decide +kernel
theorem dL_law_1342 : decode cL_law 1342 = .ok (.dup2, 1) := by decide +kernel
theorem dL_law_1343 : decode cL_law 1343 = .ok (.iaload, 1) := by decide +kernel
theorem dL_law_1344 : decode cL_law 1344 = .ok (.iconst 1, 1) := by decide +kernel
theorem dL_law_1345 : decode cL_law 1345 = .ok (.iadd, 1) := by decide +kernel
theorem dL_law_1346 : decode cL_law 1346 = .ok (.iastore, 1) := by decide +kernel
theorem dL_law_1347 : decode cL_law 1347 = .ok (.iload 30, 2) := by decide +kernel
theorem dL_law_1349 : decode cL_law 1349 = .ok (.ifCond .ne 28, 3) := by decide +kernel
theorem dL_law_1352 : decode cL_law 1352 = .ok (.aload_n 1, 1) := by decide +kernel
theorem dL_law_1353 : decode cL_law 1353 = .ok (.iload 24, 2) := by decide +kernel
theorem dL_law_1355 : decode cL_law 1355 = .ok (.iload 25, 2) := by decide +kernel
theorem dL_law_1357 : decode cL_law 1357 = .ok (.invokevirtual 136, 3) := by decide +kernel
theorem dL_law_1360 : decode cL_law 1360 = .ok (.aload 16, 2) := by decide +kernel
theorem dL_law_1362 : decode cL_law 1362 = .ok (.iconst 2, 1) := by decide +kernel
theorem dL_law_1363 : decode cL_law 1363 = .ok (.iaload, 1) := by decide +kernel
theorem dL_law_1364 : decode cL_law 1364 = .ok (.if_icmp .ne 7, 3) := by decide +kernel
theorem dL_law_1367 : decode cL_law 1367 = .ok (.iconst 1, 1) := by decide +kernel
theorem dL_law_1368 : decode cL_law 1368 = .ok (.goto 4, 3) := by decide +kernel
theorem dL_law_1371 : decode cL_law 1371 = .ok (.iconst 0, 1) := by decide +kernel
theorem dL_law_1372 : decode cL_law 1372 = .ok (.istore 19, 2) := by decide +kernel
theorem dL_law_1374 : decode cL_law 1374 = .ok (.goto 186, 3) := by decide +kernel
theorem dL_law_1377 : decode cL_law 1377 = .ok (.iload 30, 2) := by decide +kernel
theorem dL_law_1379 : decode cL_law 1379 = .ok (.iconst 3, 1) := by decide +kernel
theorem dL_law_1380 : decode cL_law 1380 = .ok (.if_icmp .ne 32, 3) := by decide +kernel
theorem dL_law_1383 : decode cL_law 1383 = .ok (.aload_n 1, 1) := by decide +kernel
theorem dL_law_1384 : decode cL_law 1384 = .ok (.iload 24, 2) := by decide +kernel
theorem dL_law_1386 : decode cL_law 1386 = .ok (.iload 25, 2) := by decide +kernel
theorem dL_law_1388 : decode cL_law 1388 = .ok (.iload 29, 2) := by decide +kernel
theorem dL_law_1390 : decode cL_law 1390 = .ok (.iload 28, 2) := by decide +kernel
theorem dL_law_1392 : decode cL_law 1392 = .ok (.invokevirtual 139, 3) := by decide +kernel
theorem dL_law_1395 : decode cL_law 1395 = .ok (.aload 16, 2) := by decide +kernel
theorem dL_law_1397 : decode cL_law 1397 = .ok (.iconst 2, 1) := by decide +kernel
theorem dL_law_1398 : decode cL_law 1398 = .ok (.iaload, 1) := by decide +kernel
theorem dL_law_1399 : decode cL_law 1399 = .ok (.if_icmp .ne 7, 3) := by decide +kernel
theorem dL_law_1402 : decode cL_law 1402 = .ok (.iconst 1, 1) := by decide +kernel
theorem dL_law_1403 : decode cL_law 1403 = .ok (.goto 4, 3) := by decide +kernel
theorem dL_law_1406 : decode cL_law 1406 = .ok (.iconst 0, 1) := by decide +kernel
theorem dL_law_1407 : decode cL_law 1407 = .ok (.istore 19, 2) := by decide +kernel
theorem dL_law_1409 : decode cL_law 1409 = .ok (.goto 151, 3) := by decide +kernel
theorem dL_law_1412 : decode cL_law 1412 = .ok (.iload 27, 2) := by decide +kernel
theorem dL_law_1414 : decode cL_law 1414 = .ok (.istore 31, 2) := by decide +kernel
theorem dL_law_1416 : decode cL_law 1416 = .ok (.iload 27, 2) := by decide +kernel
theorem dL_law_1418 : decode cL_law 1418 = .ok (.iconst 1, 1) := by decide +kernel
theorem dL_law_1419 : decode cL_law 1419 = .ok (.isub, 1) := by decide +kernel
theorem dL_law_1420 : decode cL_law 1420 = .ok (.istore 32, 2) := by decide +kernel
theorem dL_law_1422 : decode cL_law 1422 = .ok (.iload 32, 2) := by decide +kernel
theorem dL_law_1424 : decode cL_law 1424 = .ok (.ifCond .lt 69, 3) := by decide +kernel
theorem dL_law_1427 : decode cL_law 1427 = .ok (.aload 8, 2) := by decide +kernel
theorem dL_law_1429 : decode cL_law 1429 = .ok (.iload 32, 2) := by decide +kernel
theorem dL_law_1431 : decode cL_law 1431 = .ok (.iaload, 1) := by decide +kernel
theorem dL_law_1432 : decode cL_law 1432 = .ok (.iconst 4, 1) := by decide +kernel
theorem dL_law_1433 : decode cL_law 1433 = .ok (.iload 24, 2) := by decide +kernel
theorem dL_law_1435 : decode cL_law 1435 = .ok (.imul, 1) := by decide +kernel
theorem dL_law_1436 : decode cL_law 1436 = .ok (.bipush 16, 2) := by decide +kernel
theorem dL_law_1438 : decode cL_law 1438 = .ok (.iload 25, 2) := by decide +kernel
theorem dL_law_1440 : decode cL_law 1440 = .ok (.imul, 1) := by decide +kernel
theorem dL_law_1441 : decode cL_law 1441 = .ok (.iadd, 1) := by decide +kernel
theorem dL_law_1442 : decode cL_law 1442 = .ok (.if_icmp .ne 41, 3) := by decide +kernel
theorem dL_law_1445 : decode cL_law 1445 = .ok (.aload 11, 2) := by decide +kernel
theorem dL_law_1447 : decode cL_law 1447 = .ok (.iload 32, 2) := by decide +kernel
theorem dL_law_1449 : decode cL_law 1449 = .ok (.laload, 1) := by decide +kernel
theorem dL_law_1450 : decode cL_law 1450 = .ok (.lconst 0, 1) := by decide +kernel
theorem dL_law_1451 : decode cL_law 1451 = .ok (.lcmp, 1) := by decide +kernel
theorem dL_law_1452 : decode cL_law 1452 = .ok (.ifCond .ge 31, 3) := by decide +kernel
theorem dL_law_1455 : decode cL_law 1455 = .ok (.aload 12, 2) := by decide +kernel
theorem dL_law_1457 : decode cL_law 1457 = .ok (.iload 32, 2) := by decide +kernel
theorem dL_law_1459 : decode cL_law 1459 = .ok (.iaload, 1) := by decide +kernel
theorem dL_law_1460 : decode cL_law 1460 = .ok (.ifCond .ne 23, 3) := by decide +kernel
theorem dL_law_1463 : decode cL_law 1463 = .ok (.aload 10, 2) := by decide +kernel
theorem dL_law_1465 : decode cL_law 1465 = .ok (.iload 32, 2) := by decide +kernel
theorem dL_law_1467 : decode cL_law 1467 = .ok (.laload, 1) := by decide +kernel
theorem dL_law_1468 : decode cL_law 1468 = .ok (.ldc2_w 142, 3) := by decide +kernel
theorem dL_law_1471 : decode cL_law 1471 = .ok (.ladd, 1) := by decide +kernel
theorem dL_law_1472 : decode cL_law 1472 = .ok (.lload 17, 2) := by decide +kernel
theorem dL_law_1474 : decode cL_law 1474 = .ok (.lcmp, 1) := by decide +kernel
theorem dL_law_1475 : decode cL_law 1475 = .ok (.ifCond .lt 8, 3) := by decide +kernel
theorem dL_law_1478 : decode cL_law 1478 = .ok (.iload 32, 2) := by decide +kernel
theorem dL_law_1480 : decode cL_law 1480 = .ok (.goto 5, 3) := by decide +kernel
theorem dL_law_1483 : decode cL_law 1483 = .ok (.iload 31, 2) := by decide +kernel
theorem dL_law_1485 : decode cL_law 1485 = .ok (.istore 31, 2) := by decide +kernel
theorem dL_law_1487 : decode cL_law 1487 = .ok (.iinc 32 (-1), 3) := by decide +kernel
theorem dL_law_1490 : decode cL_law 1490 = .ok (.goto (-68), 3) := by decide +kernel
theorem dL_law_1493 : decode cL_law 1493 = .ok (.aload 12, 2) := by decide +kernel
theorem dL_law_1495 : decode cL_law 1495 = .ok (.iload 31, 2) := by decide +kernel
theorem dL_law_1497 : decode cL_law 1497 = .ok (.iload 31, 2) := by decide +kernel
theorem dL_law_1499 : decode cL_law 1499 = .ok (.iload 27, 2) := by decide +kernel
theorem dL_law_1501 : decode cL_law 1501 = .ok (.if_icmp .ne 7, 3) := by decide +kernel
theorem dL_law_1504 : decode cL_law 1504 = .ok (.iconst 0, 1) := by decide +kernel
theorem dL_law_1505 : decode cL_law 1505 = .ok (.goto 4, 3) := by decide +kernel
theorem dL_law_1508 : decode cL_law 1508 = .ok (.iconst 1, 1) := by decide +kernel
theorem dL_law_1509 : decode cL_law 1509 = .ok (.iastore, 1) := by decide +kernel
theorem dL_law_1510 : decode cL_law 1510 = .ok (.aload 12, 2) := by decide +kernel
theorem dL_law_1512 : decode cL_law 1512 = .ok (.iload 27, 2) := by decide +kernel
theorem dL_law_1514 : decode cL_law 1514 = .ok (.iload 31, 2) := by decide +kernel
theorem dL_law_1516 : decode cL_law 1516 = .ok (.iastore, 1) := by decide +kernel
theorem dL_law_1517 : decode cL_law 1517 = .ok (.aload 13, 2) := by decide +kernel
theorem dL_law_1519 : decode cL_law 1519 = .ok (.iload 27, 2) := by decide +kernel
theorem dL_law_1521 : decode cL_law 1521 = .ok (.aload 16, 2) := by decide +kernel
theorem dL_law_1523 : decode cL_law 1523 = .ok (.iconst 3, 1) := by decide +kernel
theorem dL_law_1524 : decode cL_law 1524 = .ok (.iaload, 1) := by decide +kernel
theorem dL_law_1525 : decode cL_law 1525 = .ok (.iconst 1, 1) := by decide +kernel
theorem dL_law_1526 : decode cL_law 1526 = .ok (.iadd, 1) := by decide +kernel
theorem dL_law_1527 : decode cL_law 1527 = .ok (.iastore, 1) := by decide +kernel
theorem dL_law_1528 : decode cL_law 1528 = .ok (.aload_n 1, 1) := by decide +kernel
theorem dL_law_1529 : decode cL_law 1529 = .ok (.iload 24, 2) := by decide +kernel
theorem dL_law_1531 : decode cL_law 1531 = .ok (.iload 25, 2) := by decide +kernel
theorem dL_law_1533 : decode cL_law 1533 = .ok (.iload 28, 2) := by decide +kernel
theorem dL_law_1535 : decode cL_law 1535 = .ok (.invokevirtual 144, 3) := by decide +kernel
theorem dL_law_1538 : decode cL_law 1538 = .ok (.aload 16, 2) := by decide +kernel
theorem dL_law_1540 : decode cL_law 1540 = .ok (.iconst 3, 1) := by decide +kernel
theorem dL_law_1541 : decode cL_law 1541 = .ok (.iaload, 1) := by decide +kernel
theorem dL_law_1542 : decode cL_law 1542 = .ok (.if_icmp .ne 7, 3) := by decide +kernel
theorem dL_law_1545 : decode cL_law 1545 = .ok (.iconst 1, 1) := by decide +kernel
theorem dL_law_1546 : decode cL_law 1546 = .ok (.goto 4, 3) := by decide +kernel
theorem dL_law_1549 : decode cL_law 1549 = .ok (.iconst 0, 1) := by decide +kernel
theorem dL_law_1550 : decode cL_law 1550 = .ok (.istore 19, 2) := by decide +kernel
theorem dL_law_1552 : decode cL_law 1552 = .ok (.aload 16, 2) := by decide +kernel
theorem dL_law_1554 : decode cL_law 1554 = .ok (.iconst 3, 1) := by decide +kernel
theorem dL_law_1555 : decode cL_law 1555 = .ok (.dup2, 1) := by decide +kernel
theorem dL_law_1556 : decode cL_law 1556 = .ok (.iaload, 1) := by decide +kernel
theorem dL_law_1557 : decode cL_law 1557 = .ok (.iconst 1, 1) := by decide +kernel
theorem dL_law_1558 : decode cL_law 1558 = .ok (.iadd, 1) := by decide +kernel
theorem dL_law_1559 : decode cL_law 1559 = .ok (.iastore, 1) := by decide +kernel
theorem dL_law_1560 : decode cL_law 1560 = .ok (.goto 443, 3) := by decide +kernel
theorem dL_law_1563 : decode cL_law 1563 = .ok (.iload 22, 2) := by decide +kernel
theorem dL_law_1565 : decode cL_law 1565 = .ok (.bipush 25, 2) := by decide +kernel
theorem dL_law_1567 : decode cL_law 1567 = .ok (.if_icmp .ge 232, 3) := by decide +kernel
theorem dL_law_1570 : decode cL_law 1570 = .ok (.iload 22, 2) := by decide +kernel
theorem dL_law_1572 : decode cL_law 1572 = .ok (.bipush 21, 2) := by decide +kernel
theorem dL_law_1574 : decode cL_law 1574 = .ok (.if_icmp .le 225, 3) := by decide +kernel
theorem dL_law_1577 : decode cL_law 1577 = .ok (.aload 16, 2) := by decide +kernel
theorem dL_law_1579 : decode cL_law 1579 = .ok (.iconst 3, 1) := by decide +kernel
theorem dL_law_1580 : decode cL_law 1580 = .ok (.iaload, 1) := by decide +kernel
theorem dL_law_1581 : decode cL_law 1581 = .ok (.ifCond .le 218, 3) := by decide +kernel
theorem dL_law_1584 : decode cL_law 1584 = .ok (.aload 16, 2) := by decide +kernel
theorem dL_law_1586 : decode cL_law 1586 = .ok (.iconst 2, 1) := by decide +kernel
theorem dL_law_1587 : decode cL_law 1587 = .ok (.iaload, 1) := by decide +kernel
theorem dL_law_1588 : decode cL_law 1588 = .ok (.bipush 40, 2) := by decide +kernel
theorem dL_law_1590 : decode cL_law 1590 = .ok (.if_icmp .ge 209, 3) := by decide +kernel
theorem dL_law_1593 : decode cL_law 1593 = .ok (.iload 23, 2) := by decide +kernel
theorem dL_law_1595 : decode cL_law 1595 = .ok (.aload 16, 2) := by decide +kernel
theorem dL_law_1597 : decode cL_law 1597 = .ok (.iconst 3, 1) := by decide +kernel
theorem dL_law_1598 : decode cL_law 1598 = .ok (.iaload, 1) := by decide +kernel
theorem dL_law_1599 : decode cL_law 1599 = .ok (.irem, 1) := by decide +kernel
theorem dL_law_1600 : decode cL_law 1600 = .ok (.istore 27, 2) := by decide +kernel
theorem dL_law_1602 : decode cL_law 1602 = .ok (.iconst 0, 1) := by decide +kernel
theorem dL_law_1603 : decode cL_law 1603 = .ok (.istore 28, 2) := by decide +kernel
theorem dL_law_1605 : decode cL_law 1605 = .ok (.aload 13, 2) := by decide +kernel
theorem dL_law_1607 : decode cL_law 1607 = .ok (.iload 28, 2) := by decide +kernel
theorem dL_law_1609 : decode cL_law 1609 = .ok (.iaload, 1) := by decide +kernel
theorem dL_law_1610 : decode cL_law 1610 = .ok (.iload 27, 2) := by decide +kernel
theorem dL_law_1612 : decode cL_law 1612 = .ok (.iconst 1, 1) := by decide +kernel
theorem dL_law_1613 : decode cL_law 1613 = .ok (.iadd, 1) := by decide +kernel
theorem dL_law_1614 : decode cL_law 1614 = .ok (.if_icmp .eq 9, 3) := by decide +kernel
theorem dL_law_1617 : decode cL_law 1617 = .ok (.iinc 28 1, 3) := by decide +kernel
theorem dL_law_1620 : decode cL_law 1620 = .ok (.goto (-15), 3) := by decide +kernel
theorem dL_law_1623 : decode cL_law 1623 = .ok (.iload 23, 2) := by decide +kernel
theorem dL_law_1625 : decode cL_law 1625 = .ok (.bipush 40, 2) := by decide +kernel
theorem dL_law_1627 : decode cL_law 1627 = .ok (.idiv, 1) := by decide +kernel
theorem dL_law_1628 : decode cL_law 1628 = .ok (.iconst 3, 1) := by decide +kernel
theorem dL_law_1629 : decode cL_law 1629 = .ok (.irem, 1) := by decide +kernel
theorem dL_law_1630 : decode cL_law 1630 = .ok (.ifCond .le 7, 3) := by decide +kernel
theorem dL_law_1633 : decode cL_law 1633 = .ok (.iconst 1, 1) := by decide +kernel
theorem dL_law_1634 : decode cL_law 1634 = .ok (.goto 4, 3) := by decide +kernel
theorem dL_law_1637 : decode cL_law 1637 = .ok (.iconst 0, 1) := by decide +kernel
theorem dL_law_1638 : decode cL_law 1638 = .ok (.istore 29, 2) := by decide +kernel
theorem dL_law_1640 : decode cL_law 1640 = .ok (.aload 11, 2) := by decide +kernel
theorem dL_law_1642 : decode cL_law 1642 = .ok (.iload 28, 2) := by decide +kernel
theorem dL_law_1644 : decode cL_law 1644 = .ok (.laload, 1) := by decide +kernel
theorem dL_law_1645 : decode cL_law 1645 = .ok (.lconst 0, 1) := by decide +kernel
theorem dL_law_1646 : decode cL_law 1646 = .ok (.lcmp, 1) := by decide +kernel
theorem dL_law_1647 : decode cL_law 1647 = .ok (.ifCond .ge 29, 3) := by decide +kernel
theorem dL_law_1650 : decode cL_law 1650 = .ok (.aload 8, 2) := by decide +kernel
theorem dL_law_1652 : decode cL_law 1652 = .ok (.aload 10, 2) := by decide +kernel
theorem dL_law_1654 : decode cL_law 1654 = .ok (.aload 11, 2) := by decide +kernel
theorem dL_law_1656 : decode cL_law 1656 = .ok (.aload 14, 2) := by decide +kernel
theorem dL_law_1658 : decode cL_law 1658 = .ok (.aload 16, 2) := by decide +kernel
theorem dL_law_1660 : decode cL_law 1660 = .ok (.iload 28, 2) := by decide +kernel
theorem dL_law_1662 : decode cL_law 1662 = .ok (.lload 17, 2) := by decide +kernel
theorem dL_law_1664 : decode cL_law 1664 = .ok (.invokestatic 25, 3) := by decide +kernel
theorem dL_law_1667 : decode cL_law 1667 = .ok (.iload 29, 2) := by decide +kernel
theorem dL_law_1669 : decode cL_law 1669 = .ok (.if_icmp .ne 7, 3) := by decide +kernel
theorem dL_law_1672 : decode cL_law 1672 = .ok (.iconst 1, 1) := by decide +kernel
theorem dL_law_1673 : decode cL_law 1673 = .ok (.goto 4, 3) := by decide +kernel
theorem dL_law_1676 : decode cL_law 1676 = .ok (.iconst 0, 1) := by decide +kernel
theorem dL_law_1677 : decode cL_law 1677 = .ok (.istore 30, 2) := by decide +kernel
theorem dL_law_1679 : decode cL_law 1679 = .ok (.aload_n 1, 1) := by decide +kernel
theorem dL_law_1680 : decode cL_law 1680 = .ok (.iconst 4, 1) := by decide +kernel
theorem dL_law_1681 : decode cL_law 1681 = .ok (.iload 27, 2) := by decide +kernel
theorem dL_law_1683 : decode cL_law 1683 = .ok (.iload 29, 2) := by decide +kernel
theorem dL_law_1685 : decode cL_law 1685 = .ok (.ifCond .eq 7, 3) := by decide +kernel
theorem dL_law_1688 : decode cL_law 1688 = .ok (.iconst 1, 1) := by decide +kernel
theorem dL_law_1689 : decode cL_law 1689 = .ok (.goto 4, 3) := by decide +kernel
theorem dL_law_1692 : decode cL_law 1692 = .ok (.iconst 0, 1) := by decide +kernel
theorem dL_law_1693 : decode cL_law 1693 = .ok (.iconst 0, 1) := by decide +kernel
theorem dL_law_1694 : decode cL_law 1694 = .ok (.iconst 0, 1) := by decide +kernel
theorem dL_law_1695 : decode cL_law 1695 = .ok (.invokestatic 126, 3) := by decide +kernel
theorem dL_law_1698 : decode cL_law 1698 = .ok (.iload 30, 2) := by decide +kernel
theorem dL_law_1700 : decode cL_law 1700 = .ok (.ifCond .eq 7, 3) := by decide +kernel
theorem dL_law_1703 : decode cL_law 1703 = .ok (.lconst 0, 1) := by decide +kernel
theorem dL_law_1704 : decode cL_law 1704 = .ok (.goto 6, 3) := by decide +kernel
theorem dL_law_1707 : decode cL_law 1707 = .ok (.ldc2_w 79, 3) := by decide +kernel
theorem dL_law_1710 : decode cL_law 1710 = .ok (.lcmp, 1) := by decide +kernel
theorem dL_law_1711 : decode cL_law 1711 = .ok (.ifCond .ne 7, 3) := by decide +kernel
theorem dL_law_1714 : decode cL_law 1714 = .ok (.iconst 1, 1) := by decide +kernel
theorem dL_law_1715 : decode cL_law 1715 = .ok (.goto 4, 3) := by decide +kernel
theorem dL_law_1718 : decode cL_law 1718 = .ok (.iconst 0, 1) := by decide +kernel
theorem dL_law_1719 : decode cL_law 1719 = .ok (.istore 19, 2) := by decide +kernel
theorem dL_law_1721 : decode cL_law 1721 = .ok (.iload 30, 2) := by decide +kernel
theorem dL_law_1723 : decode cL_law 1723 = .ok (.ifCond .eq 73, 3) := by decide +kernel
theorem dL_law_1726 : decode cL_law 1726 = .ok (.aload 8, 2) := by decide +kernel
theorem dL_law_1728 : decode cL_law 1728 = .ok (.aload 16, 2) := by decide +kernel
theorem dL_law_1730 : decode cL_law 1730 = .ok (.iconst 2, 1) := by decide +kernel
theorem dL_law_1731 : decode cL_law 1731 = .ok (.iaload, 1) := by decide +kernel
theorem dL_law_1732 : decode cL_law 1732 = .ok (.iconst 2, 1) := by decide +kernel
theorem dL_law_1733 : decode cL_law 1733 = .ok (.iconst 4, 1) := by decide +kernel
theorem dL_law_1734 : decode cL_law 1734 = .ok (.aload 8, 2) := by decide +kernel
theorem dL_law_1736 : decode cL_law 1736 = .ok (.iload 28, 2) := by decide +kernel
theorem dL_law_1738 : decode cL_law 1738 = .ok (.iaload, 1) := by decide +kernel
theorem dL_law_1739 : decode cL_law 1739 = .ok (.iconst 4, 1) := by decide +kernel
theorem dL_law_1740 : decode cL_law 1740 = .ok (.idiv, 1) := by decide +kernel
theorem dL_law_1741 : decode cL_law 1741 = .ok (.iconst 4, 1) := by decide +kernel
theorem dL_law_1742 : decode cL_law 1742 = .ok (.irem, 1) := by decide +kernel
theorem dL_law_1743 : decode cL_law 1743 = .ok (.imul, 1) := by decide +kernel
theorem dL_law_1744 : decode cL_law 1744 = .ok (.iadd, 1) := by decide +kernel
theorem dL_law_1745 : decode cL_law 1745 = .ok (.iastore, 1) := by decide +kernel
theorem dL_law_1746 : decode cL_law 1746 = .ok (.aload 14, 2) := by decide +kernel
theorem dL_law_1748 : decode cL_law 1748 = .ok (.aload 16, 2) := by decide +kernel
theorem dL_law_1750 : decode cL_law 1750 = .ok (.iconst 2, 1) := by decide +kernel
theorem dL_law_1751 : decode cL_law 1751 = .ok (.iaload, 1) := by decide +kernel
theorem dL_law_1752 : decode cL_law 1752 = .ok (.iload 28, 2) := by decide +kernel
theorem dL_law_1754 : decode cL_law 1754 = .ok (.iconst 1, 1) := by decide +kernel
theorem dL_law_1755 : decode cL_law 1755 = .ok (.iadd, 1) := by decide +kernel
theorem dL_law_1756 : decode cL_law 1756 = .ok (.iload 29, 2) := by decide +kernel
theorem dL_law_1758 : decode cL_law 1758 = .ok (.ifCond .eq 8, 3) := by decide +kernel
theorem dL_law_1761 : decode cL_law 1761 = .ok (.bipush 64, 2) := by decide +kernel
theorem dL_law_1763 : decode cL_law 1763 = .ok (.goto 4, 3) := by decide +kernel
theorem dL_law_1766 : decode cL_law 1766 = .ok (.iconst 0, 1) := by decide +kernel
theorem dL_law_1767 : decode cL_law 1767 = .ok (.iadd, 1) := by decide +kernel
theorem dL_law_1768 : decode cL_law 1768 = .ok (.iastore, 1) := by decide +kernel
theorem dL_law_1769 : decode cL_law 1769 = .ok (.aload 10, 2) := by decide +kernel
theorem dL_law_1771 : decode cL_law 1771 = .ok (.aload 16, 2) := by decide +kernel
theorem dL_law_1773 : decode cL_law 1773 = .ok (.iconst 2, 1) := by decide +kernel
theorem dL_law_1774 : decode cL_law 1774 = .ok (.iaload, 1) := by decide +kernel
theorem dL_law_1775 : decode cL_law 1775 = .ok (.lload 17, 2) := by decide +kernel
theorem dL_law_1777 : decode cL_law 1777 = .ok (.lastore, 1) := by decide +kernel
theorem dL_law_1778 : decode cL_law 1778 = .ok (.aload 11, 2) := by decide +kernel
theorem dL_law_1780 : decode cL_law 1780 = .ok (.aload 16, 2) := by decide +kernel
theorem dL_law_1782 : decode cL_law 1782 = .ok (.iconst 2, 1) := by decide +kernel
theorem dL_law_1783 : decode cL_law 1783 = .ok (.iaload, 1) := by decide +kernel
theorem dL_law_1784 : decode cL_law 1784 = .ok (.ldc2_w 17, 3) := by decide +kernel
theorem dL_law_1787 : decode cL_law 1787 = .ok (.lastore, 1) := by decide +kernel
theorem dL_law_1788 : decode cL_law 1788 = .ok (.aload 16, 2) := by decide +kernel
theorem dL_law_1790 : decode cL_law 1790 = .ok (.iconst 2, 1) := by decide +kernel
theorem dL_law_1791 : decode cL_law 1791 = .ok (.dup2, 1) := by decide +kernel
theorem dL_law_1792 : decode cL_law 1792 = .ok (.iaload, 1) := by decide +kernel
theorem dL_law_1793 : decode cL_law 1793 = .ok (.iconst 1, 1) := by decide +kernel
theorem dL_law_1794 : decode cL_law 1794 = .ok (.iadd, 1) := by decide +kernel
theorem dL_law_1795 : decode cL_law 1795 = .ok (.iastore, 1) := by decide +kernel
theorem dL_law_1796 : decode cL_law 1796 = .ok (.goto 207, 3) := by decide +kernel
theorem dL_law_1799 : decode cL_law 1799 = .ok (.iload 22, 2) := by decide +kernel
theorem dL_law_1801 : decode cL_law 1801 = .ok (.bipush 25, 2) := by decide +kernel
theorem dL_law_1803 : decode cL_law 1803 = .ok (.if_icmp .ne 151, 3) := by decide +kernel
theorem dL_law_1806 : decode cL_law 1806 = .ok (.aload 16, 2) := by decide +kernel
theorem dL_law_1808 : decode cL_law 1808 = .ok (.iconst 1, 1) := by decide +kernel
theorem dL_law_1809 : decode cL_law 1809 = .ok (.iaload, 1) := by decide +kernel
theorem dL_law_1810 : decode cL_law 1810 = .ok (.ifCond .le 144, 3) := by decide +kernel
theorem dL_law_1813 : decode cL_law 1813 = .ok (.aload 16, 2) := by decide +kernel
theorem dL_law_1815 : decode cL_law 1815 = .ok (.iconst 2, 1) := by decide +kernel
theorem dL_law_1816 : decode cL_law 1816 = .ok (.iaload, 1) := by decide +kernel
theorem dL_law_1817 : decode cL_law 1817 = .ok (.bipush 40, 2) := by decide +kernel
theorem dL_law_1819 : decode cL_law 1819 = .ok (.if_icmp .ge 135, 3) := by decide +kernel
theorem dL_law_1822 : decode cL_law 1822 = .ok (.iload 23, 2) := by decide +kernel
theorem dL_law_1824 : decode cL_law 1824 = .ok (.iconst 4, 1) := by decide +kernel
theorem dL_law_1825 : decode cL_law 1825 = .ok (.idiv, 1) := by decide +kernel
theorem dL_law_1826 : decode cL_law 1826 = .ok (.iconst 3, 1) := by decide +kernel
theorem dL_law_1827 : decode cL_law 1827 = .ok (.irem, 1) := by decide +kernel
theorem dL_law_1828 : decode cL_law 1828 = .ok (.ifCond .ne 126, 3) := by decide +kernel
theorem dL_law_1831 : decode cL_law 1831 = .ok (.iconst 1, 1) := by decide +kernel
theorem dL_law_1832 : decode cL_law 1832 = .ok (.iload 23, 2) := by decide +kernel
theorem dL_law_1834 : decode cL_law 1834 = .ok (.bipush 108, 2) := by decide +kernel
theorem dL_law_1836 : decode cL_law 1836 = .ok (.idiv, 1) := by decide +kernel
theorem dL_law_1837 : decode cL_law 1837 = .ok (.sipush 20000, 3) := by decide +kernel
theorem dL_law_1840 : decode cL_law 1840 = .ok (.irem, 1) := by decide +kernel
theorem dL_law_1841 : decode cL_law 1841 = .ok (.iadd, 1) := by decide +kernel
theorem dL_law_1842 : decode cL_law 1842 = .ok (.istore 27, 2) := by decide +kernel
theorem dL_law_1844 : decode cL_law 1844 = .ok (.aload 4, 2) := by decide +kernel
theorem dL_law_1846 : decode cL_law 1846 = .ok (.aload 8, 2) := by decide +kernel
theorem dL_law_1848 : decode cL_law 1848 = .ok (.aload 9, 2) := by decide +kernel
theorem dL_law_1850 : decode cL_law 1850 = .ok (.aload 10, 2) := by decide +kernel
theorem dL_law_1852 : decode cL_law 1852 = .ok (.aload 11, 2) := by decide +kernel
theorem dL_law_1854 : decode cL_law 1854 = .ok (.aload 12, 2) := by decide +kernel
theorem dL_law_1856 : decode cL_law 1856 = .ok (.aload 14, 2) := by decide +kernel
theorem dL_law_1858 : decode cL_law 1858 = .ok (.aload 15, 2) := by decide +kernel
theorem dL_law_1860 : decode cL_law 1860 = .ok (.aload 16, 2) := by decide +kernel
theorem dL_law_1862 : decode cL_law 1862 = .ok (.iload 24, 2) := by decide +kernel
theorem dL_law_1864 : decode cL_law 1864 = .ok (.iload 25, 2) := by decide +kernel
theorem dL_law_1866 : decode cL_law 1866 = .ok (.iload 27, 2) := by decide +kernel
theorem dL_law_1868 : decode cL_law 1868 = .ok (.lload 17, 2) := by decide +kernel
theorem dL_law_1870 : decode cL_law 1870 = .ok (.invokestatic 147, 3) := by decide +kernel
theorem dL_law_1873 : decode cL_law 1873 = .ok (.lstore 28, 2) := by decide +kernel
theorem dL_law_1875 : decode cL_law 1875 = .ok (.aload 6, 2) := by decide +kernel
theorem dL_law_1877 : decode cL_law 1877 = .ok (.iload 24, 2) := by decide +kernel
theorem dL_law_1879 : decode cL_law 1879 = .ok (.iconst 0, 1) := by decide +kernel
theorem dL_law_1880 : decode cL_law 1880 = .ok (.iastore, 1) := by decide +kernel
theorem dL_law_1881 : decode cL_law 1881 = .ok (.aload 7, 2) := by decide +kernel
theorem dL_law_1883 : decode cL_law 1883 = .ok (.iload 24, 2) := by decide +kernel
theorem dL_law_1885 : decode cL_law 1885 = .ok (.ldc2_w 17, 3) := by decide +kernel
theorem dL_law_1888 : decode cL_law 1888 = .ok (.lastore, 1) := by decide +kernel
theorem dL_law_1889 : decode cL_law 1889 = .ok (.aload 8, 2) := by decide +kernel
theorem dL_law_1891 : decode cL_law 1891 = .ok (.aload 16, 2) := by decide +kernel
theorem dL_law_1893 : decode cL_law 1893 = .ok (.iconst 2, 1) := by decide +kernel
theorem dL_law_1894 : decode cL_law 1894 = .ok (.iaload, 1) := by decide +kernel
theorem dL_law_1895 : decode cL_law 1895 = .ok (.iconst 2, 1) := by decide +kernel
theorem dL_law_1896 : decode cL_law 1896 = .ok (.iconst 4, 1) := by decide +kernel
theorem dL_law_1897 : decode cL_law 1897 = .ok (.iload 24, 2) := by decide +kernel
theorem dL_law_1899 : decode cL_law 1899 = .ok (.imul, 1) := by decide +kernel
theorem dL_law_1900 : decode cL_law 1900 = .ok (.iadd, 1) := by decide +kernel
theorem dL_law_1901 : decode cL_law 1901 = .ok (.iastore, 1) := by decide +kernel
theorem dL_law_1902 : decode cL_law 1902 = .ok (.aload 10, 2) := by decide +kernel
theorem dL_law_1904 : decode cL_law 1904 = .ok (.aload 16, 2) := by decide +kernel
theorem dL_law_1906 : decode cL_law 1906 = .ok (.iconst 2, 1) := by decide +kernel
theorem dL_law_1907 : decode cL_law 1907 = .ok (.iaload, 1) := by decide +kernel
theorem dL_law_1908 : decode cL_law 1908 = .ok (.lload 17, 2) := by decide +kernel
theorem dL_law_1910 : decode cL_law 1910 = .ok (.lastore, 1) := by decide +kernel
theorem dL_law_1911 : decode cL_law 1911 = .ok (.aload 11, 2) := by decide +kernel
theorem dL_law_1913 : decode cL_law 1913 = .ok (.aload 16, 2) := by decide +kernel
theorem dL_law_1915 : decode cL_law 1915 = .ok (.iconst 2, 1) := by decide +kernel
theorem dL_law_1916 : decode cL_law 1916 = .ok (.iaload, 1) := by decide +kernel
theorem dL_law_1917 : decode cL_law 1917 = .ok (.lload 17, 2) := by decide +kernel
theorem dL_law_1919 : decode cL_law 1919 = .ok (.lastore, 1) := by decide +kernel
theorem dL_law_1920 : decode cL_law 1920 = .ok (.aload 16, 2) := by decide +kernel
theorem dL_law_1922 : decode cL_law 1922 = .ok (.iconst 2, 1) := by decide +kernel
theorem dL_law_1923 : decode cL_law 1923 = .ok (.dup2, 1) := by decide +kernel
theorem dL_law_1924 : decode cL_law 1924 = .ok (.iaload, 1) := by decide +kernel
theorem dL_law_1925 : decode cL_law 1925 = .ok (.iconst 1, 1) := by decide +kernel
theorem dL_law_1926 : decode cL_law 1926 = .ok (.iadd, 1) := by decide +kernel
theorem dL_law_1927 : decode cL_law 1927 = .ok (.iastore, 1) := by decide +kernel
theorem dL_law_1928 : decode cL_law 1928 = .ok (.aload_n 1, 1) := by decide +kernel
theorem dL_law_1929 : decode cL_law 1929 = .ok (.iload 24, 2) := by decide +kernel
theorem dL_law_1931 : decode cL_law 1931 = .ok (.iload 25, 2) := by decide +kernel
theorem dL_law_1933 : decode cL_law 1933 = .ok (.iload 27, 2) := by decide +kernel
theorem dL_law_1935 : decode cL_law 1935 = .ok (.invokevirtual 151, 3) := by decide +kernel
theorem dL_law_1938 : decode cL_law 1938 = .ok (.lload 28, 2) := by decide +kernel
theorem dL_law_1940 : decode cL_law 1940 = .ok (.lcmp, 1) := by decide +kernel
theorem dL_law_1941 : decode cL_law 1941 = .ok (.ifCond .ne 7, 3) := by decide +kernel
theorem dL_law_1944 : decode cL_law 1944 = .ok (.iconst 1, 1) := by decide +kernel
theorem dL_law_1945 : decode cL_law 1945 = .ok (.goto 4, 3) := by decide +kernel
theorem dL_law_1948 : decode cL_law 1948 = .ok (.iconst 0, 1) := by decide +kernel
theorem dL_law_1949 : decode cL_law 1949 = .ok (.istore 19, 2) := by decide +kernel
theorem dL_law_1951 : decode cL_law 1951 = .ok (.goto 52, 3) := by decide +kernel
theorem dL_law_1954 : decode cL_law 1954 = .ok (.iconst 1, 1) := by decide +kernel
theorem dL_law_1955 : decode cL_law 1955 = .ok (.iload 23, 2) := by decide +kernel
theorem dL_law_1957 : decode cL_law 1957 = .ok (.iload 22, 2) := by decide +kernel
theorem dL_law_1959 : decode cL_law 1959 = .ok (.bipush 28, 2) := by decide +kernel
theorem dL_law_1961 : decode cL_law 1961 = .ok (.if_icmp .ne 8, 3) := by decide +kernel
theorem dL_law_1964 : decode cL_law 1964 = .ok (.ldc 155, 2) := by decide +kernel
theorem dL_law_1966 : decode cL_law 1966 = .ok (.goto 6, 3) := by decide +kernel
theorem dL_law_1969 : decode cL_law 1969 = .ok (.sipush 12000, 3) := by decide +kernel
theorem dL_law_1972 : decode cL_law 1972 = .ok (.irem, 1) := by decide +kernel
theorem dL_law_1973 : decode cL_law 1973 = .ok (.iadd, 1) := by decide +kernel
theorem dL_law_1974 : decode cL_law 1974 = .ok (.istore 27, 2) := by decide +kernel
theorem dL_law_1976 : decode cL_law 1976 = .ok (.lload 17, 2) := by decide +kernel
theorem dL_law_1978 : decode cL_law 1978 = .ok (.iload 27, 2) := by decide +kernel
theorem dL_law_1980 : decode cL_law 1980 = .ok (.i2l, 1) := by decide +kernel
theorem dL_law_1981 : decode cL_law 1981 = .ok (.ladd, 1) := by decide +kernel
theorem dL_law_1982 : decode cL_law 1982 = .ok (.lstore 17, 2) := by decide +kernel
theorem dL_law_1984 : decode cL_law 1984 = .ok (.aload_n 1, 1) := by decide +kernel
theorem dL_law_1985 : decode cL_law 1985 = .ok (.iload 27, 2) := by decide +kernel
theorem dL_law_1987 : decode cL_law 1987 = .ok (.invokevirtual 156, 3) := by decide +kernel
theorem dL_law_1990 : decode cL_law 1990 = .ok (.lload 17, 2) := by decide +kernel
theorem dL_law_1992 : decode cL_law 1992 = .ok (.lcmp, 1) := by decide +kernel
theorem dL_law_1993 : decode cL_law 1993 = .ok (.ifCond .ne 7, 3) := by decide +kernel
theorem dL_law_1996 : decode cL_law 1996 = .ok (.iconst 1, 1) := by decide +kernel
theorem dL_law_1997 : decode cL_law 1997 = .ok (.goto 4, 3) := by decide +kernel
theorem dL_law_2000 : decode cL_law 2000 = .ok (.iconst 0, 1) := by decide +kernel
theorem dL_law_2001 : decode cL_law 2001 = .ok (.istore 19, 2) := by decide +kernel
theorem dL_law_2003 : decode cL_law 2003 = .ok (.iload 19, 2) := by decide +kernel
theorem dL_law_2005 : decode cL_law 2005 = .ok (.ifCond .eq 49, 3) := by decide +kernel
theorem dL_law_2008 : decode cL_law 2008 = .ok (.iload 20, 2) := by decide +kernel
theorem dL_law_2010 : decode cL_law 2010 = .ok (.iconst 4, 1) := by decide +kernel
theorem dL_law_2011 : decode cL_law 2011 = .ok (.irem, 1) := by decide +kernel
theorem dL_law_2012 : decode cL_law 2012 = .ok (.ifCond .gt 38, 3) := by decide +kernel
theorem dL_law_2015 : decode cL_law 2015 = .ok (.aload_n 1, 1) := by decide +kernel
theorem dL_law_2016 : decode cL_law 2016 = .ok (.aload_n 2, 1) := by decide +kernel
theorem dL_law_2017 : decode cL_law 2017 = .ok (.aload_n 3, 1) := by decide +kernel
theorem dL_law_2018 : decode cL_law 2018 = .ok (.aload 4, 2) := by decide +kernel
theorem dL_law_2020 : decode cL_law 2020 = .ok (.aload 6, 2) := by decide +kernel
theorem dL_law_2022 : decode cL_law 2022 = .ok (.aload 7, 2) := by decide +kernel
theorem dL_law_2024 : decode cL_law 2024 = .ok (.aload 8, 2) := by decide +kernel
theorem dL_law_2026 : decode cL_law 2026 = .ok (.aload 10, 2) := by decide +kernel
theorem dL_law_2028 : decode cL_law 2028 = .ok (.aload 11, 2) := by decide +kernel
theorem dL_law_2030 : decode cL_law 2030 = .ok (.aload 12, 2) := by decide +kernel
theorem dL_law_2032 : decode cL_law 2032 = .ok (.aload 13, 2) := by decide +kernel
theorem dL_law_2034 : decode cL_law 2034 = .ok (.aload 14, 2) := by decide +kernel
theorem dL_law_2036 : decode cL_law 2036 = .ok (.aload 15, 2) := by decide +kernel
theorem dL_law_2038 : decode cL_law 2038 = .ok (.aload 16, 2) := by decide +kernel
theorem dL_law_2040 : decode cL_law 2040 = .ok (.lload 17, 2) := by decide +kernel
theorem dL_law_2042 : decode cL_law 2042 = .ok (.iload 23, 2) := by decide +kernel
theorem dL_law_2044 : decode cL_law 2044 = .ok (.invokestatic 159, 3) := by decide +kernel
theorem dL_law_2047 : decode cL_law 2047 = .ok (.ifCond .eq 7, 3) := by decide +kernel
theorem dL_law_2050 : decode cL_law 2050 = .ok (.iconst 1, 1) := by decide +kernel
theorem dL_law_2051 : decode cL_law 2051 = .ok (.goto 4, 3) := by decide +kernel
theorem dL_law_2054 : decode cL_law 2054 = .ok (.iconst 0, 1) := by decide +kernel
theorem dL_law_2055 : decode cL_law 2055 = .ok (.istore 19, 2) := by decide +kernel
theorem dL_law_2057 : decode cL_law 2057 = .ok (.iinc 20 1, 3) := by decide +kernel
theorem dL_law_2060 : decode cL_law 2060 = .ok (.goto (-1959), 3) := by decide +kernel
theorem dL_law_2063 : decode cL_law 2063 = .ok (.iload 19, 2) := by decide +kernel
theorem dL_law_2065 : decode cL_law 2065 = .ok (.ifCond .eq 42, 3) := by decide +kernel
theorem dL_law_2068 : decode cL_law 2068 = .ok (.aload_n 1, 1) := by decide +kernel
theorem dL_law_2069 : decode cL_law 2069 = .ok (.aload_n 2, 1) := by decide +kernel
theorem dL_law_2070 : decode cL_law 2070 = .ok (.aload_n 3, 1) := by decide +kernel
theorem dL_law_2071 : decode cL_law 2071 = .ok (.aload 4, 2) := by decide +kernel
theorem dL_law_2073 : decode cL_law 2073 = .ok (.aload 6, 2) := by decide +kernel
theorem dL_law_2075 : decode cL_law 2075 = .ok (.aload 7, 2) := by decide +kernel
theorem dL_law_2077 : decode cL_law 2077 = .ok (.aload 8, 2) := by decide +kernel
theorem dL_law_2079 : decode cL_law 2079 = .ok (.aload 10, 2) := by decide +kernel
theorem dL_law_2081 : decode cL_law 2081 = .ok (.aload 11, 2) := by decide +kernel
theorem dL_law_2083 : decode cL_law 2083 = .ok (.aload 12, 2) := by decide +kernel
theorem dL_law_2085 : decode cL_law 2085 = .ok (.aload 13, 2) := by decide +kernel
theorem dL_law_2087 : decode cL_law 2087 = .ok (.aload 14, 2) := by decide +kernel
theorem dL_law_2089 : decode cL_law 2089 = .ok (.aload 15, 2) := by decide +kernel
theorem dL_law_2091 : decode cL_law 2091 = .ok (.aload 16, 2) := by decide +kernel
theorem dL_law_2093 : decode cL_law 2093 = .ok (.lload 17, 2) := by decide +kernel
theorem dL_law_2095 : decode cL_law 2095 = .ok (.bipush 7, 2) := by decide +kernel
theorem dL_law_2097 : decode cL_law 2097 = .ok (.invokestatic 159, 3) := by decide +kernel
theorem dL_law_2100 : decode cL_law 2100 = .ok (.ifCond .eq 7, 3) := by decide +kernel
theorem dL_law_2103 : decode cL_law 2103 = .ok (.iconst 1, 1) := by decide +kernel
theorem dL_law_2104 : decode cL_law 2104 = .ok (.goto 4, 3) := by decide +kernel
theorem dL_law_2107 : decode cL_law 2107 = .ok (.iconst 0, 1) := by decide +kernel
theorem dL_law_2108 : decode cL_law 2108 = .ok (.ireturn, 1) := by decide +kernel
