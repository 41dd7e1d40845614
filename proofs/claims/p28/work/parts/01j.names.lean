theorem dL_holds_209 : decode cL_holds 209 = .ok (.iconst 1, 1) := by decide +kernel
theorem dL_holds_210 : decode cL_holds 210 = .ok (.goto 4, 3) := by decide +kernel
theorem dL_holds_213 : decode cL_holds 213 = .ok (.iconst 0, 1) := by decide +kernel
theorem dL_holds_214 : decode cL_holds 214 = .ok (.istore 8, 2) := by decide +kernel
theorem dL_holds_216 : decode cL_holds 216 = .ok (.iinc 9 1, 3) := by decide +kernel
theorem dL_holds_219 : decode cL_holds 219 = .ok (.goto (-186), 3) := by decide +kernel
theorem dL_holds_222 : decode cL_holds 222 = .ok (.bipush 8, 2) := by decide +kernel
theorem dL_holds_224 : decode cL_holds 224 = .ok (.istore 9, 2) := by decide +kernel
theorem dL_holds_226 : decode cL_holds 226 = .ok (.iload 9, 2) := by decide +kernel
theorem dL_holds_228 : decode cL_holds 228 = .ok (.ifCond .lt 67, 3) := by decide +kernel
theorem dL_holds_231 : decode cL_holds 231 = .ok (.iload 4, 2) := by decide +kernel
theorem dL_holds_233 : decode cL_holds 233 = .ok (.aload_n 0, 1) := by decide +kernel
theorem dL_holds_234 : decode cL_holds 234 = .ok (.iload 9, 2) := by decide +kernel
theorem dL_holds_236 : decode cL_holds 236 = .ok (.iconst 2, 1) := by decide +kernel
theorem dL_holds_237 : decode cL_holds 237 = .ok (.invokevirtual 9, 3) := by decide +kernel
theorem dL_holds_240 : decode cL_holds 240 = .ok (.iload 9, 2) := by decide +kernel
theorem dL_holds_242 : decode cL_holds 242 = .ok (.ishl, 1) := by decide +kernel
theorem dL_holds_243 : decode cL_holds 243 = .ok (.ior, 1) := by decide +kernel
theorem dL_holds_244 : decode cL_holds 244 = .ok (.istore 4, 2) := by decide +kernel
theorem dL_holds_246 : decode cL_holds 246 = .ok (.aload_n 0, 1) := by decide +kernel
theorem dL_holds_247 : decode cL_holds 247 = .ok (.iload 9, 2) := by decide +kernel
theorem dL_holds_249 : decode cL_holds 249 = .ok (.iconst 0, 1) := by decide +kernel
theorem dL_holds_250 : decode cL_holds 250 = .ok (.invokevirtual 9, 3) := by decide +kernel
theorem dL_holds_253 : decode cL_holds 253 = .ok (.iconst 1, 1) := by decide +kernel
theorem dL_holds_254 : decode cL_holds 254 = .ok (.if_icmp .ne 31, 3) := by decide +kernel
theorem dL_holds_257 : decode cL_holds 257 = .ok (.iload 7, 2) := by decide +kernel
theorem dL_holds_259 : decode cL_holds 259 = .ok (.iconst (-1), 1) := by decide +kernel
theorem dL_holds_260 : decode cL_holds 260 = .ok (.if_icmp .eq 20, 3) := by decide +kernel
theorem dL_holds_263 : decode cL_holds 263 = .ok (.aload_n 0, 1) := by decide +kernel
theorem dL_holds_264 : decode cL_holds 264 = .ok (.iload 9, 2) := by decide +kernel
theorem dL_holds_266 : decode cL_holds 266 = .ok (.iconst 1, 1) := by decide +kernel
theorem dL_holds_267 : decode cL_holds 267 = .ok (.invokevirtual 9, 3) := by decide +kernel
theorem dL_holds_270 : decode cL_holds 270 = .ok (.aload_n 0, 1) := by decide +kernel
theorem dL_holds_271 : decode cL_holds 271 = .ok (.iload 7, 2) := by decide +kernel
theorem dL_holds_273 : decode cL_holds 273 = .ok (.iconst 1, 1) := by decide +kernel
theorem dL_holds_274 : decode cL_holds 274 = .ok (.invokevirtual 9, 3) := by decide +kernel
theorem dL_holds_277 : decode cL_holds 277 = .ok (.if_icmp .lt 8, 3) := by decide +kernel
theorem dL_holds_280 : decode cL_holds 280 = .ok (.iload 9, 2) := by decide +kernel
theorem dL_holds_282 : decode cL_holds 282 = .ok (.goto 5, 3) := by decide +kernel
theorem dL_holds_285 : decode cL_holds 285 = .ok (.iload 7, 2) := by decide +kernel
theorem dL_holds_287 : decode cL_holds 287 = .ok (.istore 7, 2) := by decide +kernel
theorem dL_holds_289 : decode cL_holds 289 = .ok (.iinc 9 (-1), 3) := by decide +kernel
theorem dL_holds_292 : decode cL_holds 292 = .ok (.goto (-66), 3) := by decide +kernel
theorem dL_holds_295 : decode cL_holds 295 = .ok (.iconst 0, 1) := by decide +kernel
theorem dL_holds_296 : decode cL_holds 296 = .ok (.istore 9, 2) := by decide +kernel
theorem dL_holds_298 : decode cL_holds 298 = .ok (.iconst 0, 1) := by decide +kernel
theorem dL_holds_299 : decode cL_holds 299 = .ok (.istore 10, 2) := by decide +kernel
theorem dL_holds_301 : decode cL_holds 301 = .ok (.iload 10, 2) := by decide +kernel
theorem dL_holds_303 : decode cL_holds 303 = .ok (.bipush 36, 2) := by decide +kernel
theorem dL_holds_305 : decode cL_holds 305 = .ok (.if_icmp .ge 221, 3) := by decide +kernel
theorem dL_holds_308 : decode cL_holds 308 = .ok (.iload 8, 2) := by decide +kernel
theorem dL_holds_310 : decode cL_holds 310 = .ok (.ifCond .eq 216, 3) := by decide +kernel
theorem dL_holds_313 : decode cL_holds 313 = .ok (.aload_n 0, 1) := by decide +kernel
theorem dL_holds_314 : decode cL_holds 314 = .ok (.iload 10, 2) := by decide +kernel
theorem dL_holds_316 : decode cL_holds 316 = .ok (.bipush 6, 2) := by decide +kernel
theorem dL_holds_318 : decode cL_holds 318 = .ok (.idiv, 1) := by decide +kernel
theorem dL_holds_319 : decode cL_holds 319 = .ok (.invokevirtual 27, 3) := by decide +kernel
theorem dL_holds_322 : decode cL_holds 322 = .ok (.istore 11, 2) := by decide +kernel
theorem dL_holds_324 : decode cL_holds 324 = .ok (.aload_n 0, 1) := by decide +kernel
theorem dL_holds_325 : decode cL_holds 325 = .ok (.iload 10, 2) := by decide +kernel
theorem dL_holds_327 : decode cL_holds 327 = .ok (.bipush 6, 2) := by decide +kernel
theorem dL_holds_329 : decode cL_holds 329 = .ok (.irem, 1) := by decide +kernel
theorem dL_holds_330 : decode cL_holds 330 = .ok (.invokevirtual 27, 3) := by decide +kernel
theorem dL_holds_333 : decode cL_holds 333 = .ok (.istore 12, 2) := by decide +kernel
theorem dL_holds_335 : decode cL_holds 335 = .ok (.aload_n 0, 1) := by decide +kernel
theorem dL_holds_336 : decode cL_holds 336 = .ok (.iload 10, 2) := by decide +kernel
theorem dL_holds_338 : decode cL_holds 338 = .ok (.bipush 6, 2) := by decide +kernel
theorem dL_holds_340 : decode cL_holds 340 = .ok (.idiv, 1) := by decide +kernel
theorem dL_holds_341 : decode cL_holds 341 = .ok (.iload 10, 2) := by decide +kernel
theorem dL_holds_343 : decode cL_holds 343 = .ok (.bipush 6, 2) := by decide +kernel
theorem dL_holds_345 : decode cL_holds 345 = .ok (.irem, 1) := by decide +kernel
theorem dL_holds_346 : decode cL_holds 346 = .ok (.iconst 3, 1) := by decide +kernel
theorem dL_holds_347 : decode cL_holds 347 = .ok (.invokevirtual 44, 3) := by decide +kernel
theorem dL_holds_350 : decode cL_holds 350 = .ok (.istore 13, 2) := by decide +kernel
theorem dL_holds_352 : decode cL_holds 352 = .ok (.iload 11, 2) := by decide +kernel
theorem dL_holds_354 : decode cL_holds 354 = .ok (.iload 12, 2) := by decide +kernel
theorem dL_holds_356 : decode cL_holds 356 = .ok (.if_icmp .le 11, 3) := by decide +kernel
theorem dL_holds_359 : decode cL_holds 359 = .ok (.iload 11, 2) := by decide +kernel
theorem dL_holds_361 : decode cL_holds 361 = .ok (.iload 12, 2) := by decide +kernel
theorem dL_holds_363 : decode cL_holds 363 = .ok (.isub, 1) := by decide +kernel
theorem dL_holds_364 : decode cL_holds 364 = .ok (.goto 8, 3) := by decide +kernel
theorem dL_holds_367 : decode cL_holds 367 = .ok (.iload 12, 2) := by decide +kernel
theorem dL_holds_369 : decode cL_holds 369 = .ok (.iload 11, 2) := by decide +kernel
theorem dL_holds_371 : decode cL_holds 371 = .ok (.isub, 1) := by decide +kernel
theorem dL_holds_372 : decode cL_holds 372 = .ok (.istore 14, 2) := by decide +kernel
theorem dL_holds_374 : decode cL_holds 374 = .ok (.aload_n 2, 1) := by decide +kernel
theorem dL_holds_375 : decode cL_holds 375 = .ok (.iload 11, 2) := by decide +kernel
theorem dL_holds_377 : decode cL_holds 377 = .ok (.iaload, 1) := by decide +kernel
theorem dL_holds_378 : decode cL_holds 378 = .ok (.aload_n 2, 1) := by decide +kernel
theorem dL_holds_379 : decode cL_holds 379 = .ok (.iload 12, 2) := by decide +kernel
theorem dL_holds_381 : decode cL_holds 381 = .ok (.iaload, 1) := by decide +kernel
theorem dL_holds_382 : decode cL_holds 382 = .ok (.if_icmp .le 15, 3) := by decide +kernel
theorem dL_holds_385 : decode cL_holds 385 = .ok (.aload_n 2, 1) := by decide +kernel
theorem dL_holds_386 : decode cL_holds 386 = .ok (.iload 11, 2) := by decide +kernel
theorem dL_holds_388 : decode cL_holds 388 = .ok (.iaload, 1) := by decide +kernel
theorem dL_holds_389 : decode cL_holds 389 = .ok (.aload_n 2, 1) := by decide +kernel
theorem dL_holds_390 : decode cL_holds 390 = .ok (.iload 12, 2) := by decide +kernel
theorem dL_holds_392 : decode cL_holds 392 = .ok (.iaload, 1) := by decide +kernel
theorem dL_holds_393 : decode cL_holds 393 = .ok (.isub, 1) := by decide +kernel
theorem dL_holds_394 : decode cL_holds 394 = .ok (.goto 12, 3) := by decide +kernel
theorem dL_holds_397 : decode cL_holds 397 = .ok (.aload_n 2, 1) := by decide +kernel
theorem dL_holds_398 : decode cL_holds 398 = .ok (.iload 12, 2) := by decide +kernel
theorem dL_holds_400 : decode cL_holds 400 = .ok (.iaload, 1) := by decide +kernel
theorem dL_holds_401 : decode cL_holds 401 = .ok (.aload_n 2, 1) := by decide +kernel
theorem dL_holds_402 : decode cL_holds 402 = .ok (.iload 11, 2) := by decide +kernel
theorem dL_holds_404 : decode cL_holds 404 = .ok (.iaload, 1) := by decide +kernel
theorem dL_holds_405 : decode cL_holds 405 = .ok (.isub, 1) := by decide +kernel
theorem dL_holds_406 : decode cL_holds 406 = .ok (.istore 15, 2) := by decide +kernel
theorem dL_holds_408 : decode cL_holds 408 = .ok (.aload_n 0, 1) := by decide +kernel
theorem dL_holds_409 : decode cL_holds 409 = .ok (.iload 10, 2) := by decide +kernel
theorem dL_holds_411 : decode cL_holds 411 = .ok (.bipush 6, 2) := by decide +kernel
theorem dL_holds_413 : decode cL_holds 413 = .ok (.idiv, 1) := by decide +kernel
theorem dL_holds_414 : decode cL_holds 414 = .ok (.iload 10, 2) := by decide +kernel
theorem dL_holds_416 : decode cL_holds 416 = .ok (.bipush 6, 2) := by decide +kernel
theorem dL_holds_418 : decode cL_holds 418 = .ok (.irem, 1) := by decide +kernel
theorem dL_holds_419 : decode cL_holds 419 = .ok (.iconst 0, 1) := by decide +kernel
theorem dL_holds_420 : decode cL_holds 420 = .ok (.invokevirtual 44, 3) := by decide +kernel
theorem dL_holds_423 : decode cL_holds 423 = .ok (.iload 14, 2) := by decide +kernel
theorem dL_holds_425 : decode cL_holds 425 = .ok (.if_icmp .ne 76, 3) := by decide +kernel
theorem dL_holds_428 : decode cL_holds 428 = .ok (.aload_n 0, 1) := by decide +kernel
theorem dL_holds_429 : decode cL_holds 429 = .ok (.iload 10, 2) := by decide +kernel
theorem dL_holds_431 : decode cL_holds 431 = .ok (.bipush 6, 2) := by decide +kernel
theorem dL_holds_433 : decode cL_holds 433 = .ok (.idiv, 1) := by decide +kernel
theorem dL_holds_434 : decode cL_holds 434 = .ok (.iload 10, 2) := by decide +kernel
theorem dL_holds_436 : decode cL_holds 436 = .ok (.bipush 6, 2) := by decide +kernel
theorem dL_holds_438 : decode cL_holds 438 = .ok (.irem, 1) := by decide +kernel
theorem dL_holds_439 : decode cL_holds 439 = .ok (.iconst 1, 1) := by decide +kernel
theorem dL_holds_440 : decode cL_holds 440 = .ok (.invokevirtual 44, 3) := by decide +kernel
theorem dL_holds_443 : decode cL_holds 443 = .ok (.iload 15, 2) := by decide +kernel
theorem dL_holds_445 : decode cL_holds 445 = .ok (.if_icmp .ne 56, 3) := by decide +kernel
theorem dL_holds_448 : decode cL_holds 448 = .ok (.aload_n 0, 1) := by decide +kernel
theorem dL_holds_449 : decode cL_holds 449 = .ok (.iload 10, 2) := by decide +kernel
theorem dL_holds_451 : decode cL_holds 451 = .ok (.bipush 6, 2) := by decide +kernel
theorem dL_holds_453 : decode cL_holds 453 = .ok (.idiv, 1) := by decide +kernel
theorem dL_holds_454 : decode cL_holds 454 = .ok (.iload 10, 2) := by decide +kernel
theorem dL_holds_456 : decode cL_holds 456 = .ok (.bipush 6, 2) := by decide +kernel
theorem dL_holds_458 : decode cL_holds 458 = .ok (.irem, 1) := by decide +kernel
theorem dL_holds_459 : decode cL_holds 459 = .ok (.iconst 2, 1) := by decide +kernel
theorem dL_holds_460 : decode cL_holds 460 = .ok (.invokevirtual 44, 3) := by decide +kernel
theorem dL_holds_463 : decode cL_holds 463 = .ok (.iload 15, 2) := by decide +kernel
theorem dL_holds_465 : decode cL_holds 465 = .ok (.ifCond .ne 7, 3) := by decide +kernel
theorem dL_holds_468 : decode cL_holds 468 = .ok (.iconst 1, 1) := by decide +kernel
theorem dL_holds_469 : decode cL_holds 469 = .ok (.goto 4, 3) := by decide +kernel
theorem dL_holds_472 : decode cL_holds 472 = .ok (.iconst 0, 1) := by decide +kernel
theorem dL_holds_473 : decode cL_holds 473 = .ok (.if_icmp .ne 28, 3) := by decide +kernel
theorem dL_holds_476 : decode cL_holds 476 = .ok (.iload 13, 2) := by decide +kernel
theorem dL_holds_478 : decode cL_holds 478 = .ok (.iconst (-1), 1) := by decide +kernel
theorem dL_holds_479 : decode cL_holds 479 = .ok (.if_icmp .eq 18, 3) := by decide +kernel
theorem dL_holds_482 : decode cL_holds 482 = .ok (.iload 13, 2) := by decide +kernel
theorem dL_holds_484 : decode cL_holds 484 = .ok (.iload 15, 2) := by decide +kernel
theorem dL_holds_486 : decode cL_holds 486 = .ok (.ifCond .ne 7, 3) := by decide +kernel
theorem dL_holds_489 : decode cL_holds 489 = .ok (.iconst 1, 1) := by decide +kernel
theorem dL_holds_490 : decode cL_holds 490 = .ok (.goto 4, 3) := by decide +kernel
theorem dL_holds_493 : decode cL_holds 493 = .ok (.iconst 0, 1) := by decide +kernel
theorem dL_holds_494 : decode cL_holds 494 = .ok (.if_icmp .ne 7, 3) := by decide +kernel
theorem dL_holds_497 : decode cL_holds 497 = .ok (.iconst 1, 1) := by decide +kernel
theorem dL_holds_498 : decode cL_holds 498 = .ok (.goto 4, 3) := by decide +kernel
theorem dL_holds_501 : decode cL_holds 501 = .ok (.iconst 0, 1) := by decide +kernel
theorem dL_holds_502 : decode cL_holds 502 = .ok (.istore 8, 2) := by decide +kernel
theorem dL_holds_504 : decode cL_holds 504 = .ok (.iload 9, 2) := by decide +kernel
theorem dL_holds_506 : decode cL_holds 506 = .ok (.iload 13, 2) := by decide +kernel
theorem dL_holds_508 : decode cL_holds 508 = .ok (.iconst (-1), 1) := by decide +kernel
theorem dL_holds_509 : decode cL_holds 509 = .ok (.if_icmp .ne 7, 3) := by decide +kernel
theorem dL_holds_512 : decode cL_holds 512 = .ok (.iconst 0, 1) := by decide +kernel
theorem dL_holds_513 : decode cL_holds 513 = .ok (.goto 4, 3) := by decide +kernel
theorem dL_holds_516 : decode cL_holds 516 = .ok (.iconst 1, 1) := by decide +kernel
theorem dL_holds_517 : decode cL_holds 517 = .ok (.iadd, 1) := by decide +kernel
theorem dL_holds_518 : decode cL_holds 518 = .ok (.istore 9, 2) := by decide +kernel
theorem dL_holds_520 : decode cL_holds 520 = .ok (.iinc 10 1, 3) := by decide +kernel
theorem dL_holds_523 : decode cL_holds 523 = .ok (.goto (-222), 3) := by decide +kernel
theorem dL_holds_526 : decode cL_holds 526 = .ok (.iload 8, 2) := by decide +kernel
theorem dL_holds_528 : decode cL_holds 528 = .ok (.ifCond .eq 99, 3) := by decide +kernel
theorem dL_holds_531 : decode cL_holds 531 = .ok (.iload_n 3, 1) := by decide +kernel
theorem dL_holds_532 : decode cL_holds 532 = .ok (.iload 4, 2) := by decide +kernel
theorem dL_holds_534 : decode cL_holds 534 = .ok (.iand, 1) := by decide +kernel
theorem dL_holds_535 : decode cL_holds 535 = .ok (.ifCond .ne 92, 3) := by decide +kernel
theorem dL_holds_538 : decode cL_holds 538 = .ok (.aload_n 0, 1) := by decide +kernel
theorem dL_holds_539 : decode cL_holds 539 = .ok (.iconst 0, 1) := by decide +kernel
theorem dL_holds_540 : decode cL_holds 540 = .ok (.invokevirtual 20, 3) := by decide +kernel
theorem dL_holds_543 : decode cL_holds 543 = .ok (.iload_n 3, 1) := by decide +kernel
theorem dL_holds_544 : decode cL_holds 544 = .ok (.invokestatic 55, 3) := by decide +kernel
theorem dL_holds_547 : decode cL_holds 547 = .ok (.if_icmp .ne 80, 3) := by decide +kernel
theorem dL_holds_550 : decode cL_holds 550 = .ok (.aload_n 0, 1) := by decide +kernel
theorem dL_holds_551 : decode cL_holds 551 = .ok (.iconst 1, 1) := by decide +kernel
theorem dL_holds_552 : decode cL_holds 552 = .ok (.invokevirtual 20, 3) := by decide +kernel
theorem dL_holds_555 : decode cL_holds 555 = .ok (.iload 4, 2) := by decide +kernel
theorem dL_holds_557 : decode cL_holds 557 = .ok (.invokestatic 55, 3) := by decide +kernel
theorem dL_holds_560 : decode cL_holds 560 = .ok (.if_icmp .ne 67, 3) := by decide +kernel
theorem dL_holds_563 : decode cL_holds 563 = .ok (.aload_n 0, 1) := by decide +kernel
theorem dL_holds_564 : decode cL_holds 564 = .ok (.iconst 2, 1) := by decide +kernel
theorem dL_holds_565 : decode cL_holds 565 = .ok (.invokevirtual 20, 3) := by decide +kernel
theorem dL_holds_568 : decode cL_holds 568 = .ok (.iload 6, 2) := by decide +kernel
theorem dL_holds_570 : decode cL_holds 570 = .ok (.iload 5, 2) := by decide +kernel
theorem dL_holds_572 : decode cL_holds 572 = .ok (.isub, 1) := by decide +kernel
theorem dL_holds_573 : decode cL_holds 573 = .ok (.iconst 1, 1) := by decide +kernel
theorem dL_holds_574 : decode cL_holds 574 = .ok (.iadd, 1) := by decide +kernel
theorem dL_holds_575 : decode cL_holds 575 = .ok (.if_icmp .ne 52, 3) := by decide +kernel
theorem dL_holds_578 : decode cL_holds 578 = .ok (.aload_n 0, 1) := by decide +kernel
theorem dL_holds_579 : decode cL_holds 579 = .ok (.invokevirtual 41, 3) := by decide +kernel
theorem dL_holds_582 : decode cL_holds 582 = .ok (.iload 7, 2) := by decide +kernel
theorem dL_holds_584 : decode cL_holds 584 = .ok (.if_icmp .ne 43, 3) := by decide +kernel
theorem dL_holds_587 : decode cL_holds 587 = .ok (.aload_n 0, 1) := by decide +kernel
theorem dL_holds_588 : decode cL_holds 588 = .ok (.iconst 3, 1) := by decide +kernel
theorem dL_holds_589 : decode cL_holds 589 = .ok (.invokevirtual 20, 3) := by decide +kernel
theorem dL_holds_592 : decode cL_holds 592 = .ok (.bipush 12, 2) := by decide +kernel
theorem dL_holds_594 : decode cL_holds 594 = .ok (.if_icmp .gt 33, 3) := by decide +kernel
theorem dL_holds_597 : decode cL_holds 597 = .ok (.iload 9, 2) := by decide +kernel
theorem dL_holds_599 : decode cL_holds 599 = .ok (.ifCond .ne 7, 3) := by decide +kernel
theorem dL_holds_602 : decode cL_holds 602 = .ok (.iconst 1, 1) := by decide +kernel
theorem dL_holds_603 : decode cL_holds 603 = .ok (.goto 4, 3) := by decide +kernel
theorem dL_holds_606 : decode cL_holds 606 = .ok (.iconst 0, 1) := by decide +kernel
theorem dL_holds_607 : decode cL_holds 607 = .ok (.aload_n 0, 1) := by decide +kernel
theorem dL_holds_608 : decode cL_holds 608 = .ok (.iconst 3, 1) := by decide +kernel
theorem dL_holds_609 : decode cL_holds 609 = .ok (.invokevirtual 20, 3) := by decide +kernel
theorem dL_holds_612 : decode cL_holds 612 = .ok (.ifCond .ne 7, 3) := by decide +kernel
theorem dL_holds_615 : decode cL_holds 615 = .ok (.iconst 1, 1) := by decide +kernel
theorem dL_holds_616 : decode cL_holds 616 = .ok (.goto 4, 3) := by decide +kernel
theorem dL_holds_619 : decode cL_holds 619 = .ok (.iconst 0, 1) := by decide +kernel
theorem dL_holds_620 : decode cL_holds 620 = .ok (.if_icmp .ne 7, 3) := by decide +kernel
theorem dL_holds_623 : decode cL_holds 623 = .ok (.iconst 1, 1) := by decide +kernel
theorem dL_holds_624 : decode cL_holds 624 = .ok (.goto 4, 3) := by decide +kernel
theorem dL_holds_627 : decode cL_holds 627 = .ok (.iconst 0, 1) := by decide +kernel
theorem dL_holds_628 : decode cL_holds 628 = .ok (.istore 8, 2) := by decide +kernel
theorem dL_holds_630 : decode cL_holds 630 = .ok (.iload 8, 2) := by decide +kernel
theorem dL_holds_632 : decode cL_holds 632 = .ok (.ifCond .eq 25, 3) := by decide +kernel
theorem dL_holds_635 : decode cL_holds 635 = .ok (.aload_n 0, 1) := by decide +kernel
theorem dL_holds_636 : decode cL_holds 636 = .ok (.iload_n 3, 1) := by decide +kernel
theorem dL_holds_637 : decode cL_holds 637 = .ok (.iload 4, 2) := by decide +kernel
theorem dL_holds_639 : decode cL_holds 639 = .ok (.invokestatic 74, 3) := by decide +kernel
theorem dL_holds_642 : decode cL_holds 642 = .ok (.ifCond .eq 15, 3) := by decide +kernel
theorem dL_holds_645 : decode cL_holds 645 = .ok (.aload_n 0, 1) := by decide +kernel
theorem dL_holds_646 : decode cL_holds 646 = .ok (.iload_n 1, 1) := by decide +kernel
theorem dL_holds_647 : decode cL_holds 647 = .ok (.invokestatic 78, 3) := by decide +kernel
theorem dL_holds_650 : decode cL_holds 650 = .ok (.ifCond .eq 7, 3) := by decide +kernel
theorem dL_holds_653 : decode cL_holds 653 = .ok (.iconst 1, 1) := by decide +kernel
theorem dL_holds_654 : decode cL_holds 654 = .ok (.goto 4, 3) := by decide +kernel
theorem dL_holds_657 : decode cL_holds 657 = .ok (.iconst 0, 1) := by decide +kernel
theorem dL_holds_658 : decode cL_holds 658 = .ok (.ireturn, 1) := by decide +kernel
set_option maxRecDepth 20000 in
theorem ggL_areFoldings_X6_count : GoodIn wsL_areFoldings wsX6_count := goodIn_ca (goodIn_r _ [6, 7, 8, 9, 10, 11, 12, 13, 14, 15, 16, 17, 18, 19, 20, 21, 5, 22, 23, 24, 25, 26, 27, 28, 29, 30, 31, 32, 33, 34, 35, 36, 37, 38, 39, 40, 41, 42, 43, 44, 45, 46, 47, 48, 49, 50, 51, 52, 53, 54, 55, 56, 57, 58, 59, 60, 61, 62, 63, 64, 65, 66, 67, 68, 69, 70, 71, 72, 73, 74, 75, 76, 77, 78, 79, 80, 81, 82, 83, 135, 136, 137, 138, 139, 140, 141, 142, 143, 144, 145, 146, 147, 148, 149, 150, 151, 152, 153, 154, 155, 156, 157] (by decide +kernel) (by decide +kernel)) (goodIn_sub (fun _ h => List.mem_cons_of_mem _ (List.mem_append_left _ (List.mem_append_right _ h))) (by decide +kernel))
set_option maxRecDepth 20000 in
theorem gL_areFoldings_X6_count : GoodIn wsL_areFoldings (wsV RL 20 RX6 yX6_count wsX6_count) := goodIn_app (goodIn_of _ (by decide +kernel)) ggL_areFoldings_X6_count
set_option maxRecDepth 20000 in
theorem ggL_areFoldings_X6_sureShare : GoodIn wsL_areFoldings wsX6_sureShare := goodIn_r _ [87, 12, 7, 13, 46, 47, 48, 49, 50, 51, 52, 53, 54, 55, 56, 57, 58, 59, 60, 61, 62, 63, 64, 65, 66, 34, 67, 36, 37, 38, 39, 68, 69, 70, 43, 44, 45, 135, 136, 137, 138, 139, 153, 154, 155, 140, 141, 142, 143, 144, 145, 146, 147, 148, 149, 150, 151, 152] (by decide +kernel) (by decide +kernel)
set_option maxRecDepth 20000 in
theorem gL_areFoldings_X6_sureShare : GoodIn wsL_areFoldings (wsV RL 81 RX6 yX6_sureShare wsX6_sureShare) := goodIn_app (goodIn_of _ (by decide +kernel)) ggL_areFoldings_X6_sureShare
set_option maxRecDepth 20000 in
theorem ggL_areFoldings_X6_folding : GoodIn wsL_areFoldings wsX6_folding := goodIn_ca (goodIn_r _ [91, 23, 24, 12, 7, 46, 47, 48, 49, 50, 51, 52, 53, 54, 55, 56, 57, 58, 59, 60, 61, 62, 63, 64, 65, 66, 34, 67, 36, 37, 38, 39, 68, 69, 70, 43, 44, 45, 92, 93, 94, 95, 135, 136, 137, 138, 139, 153, 154, 155, 140, 141, 142, 143, 144, 145, 146, 147, 148, 149, 150, 151, 152] (by decide +kernel) (by decide +kernel)) (goodIn_sub (fun _ h => List.mem_cons_of_mem _ (List.mem_append_left _ (List.mem_append_right _ h))) (by decide +kernel))
set_option maxRecDepth 20000 in
theorem gL_areFoldings_X6_folding : GoodIn wsL_areFoldings (wsV RL 85 RX6 yX6_folding wsX6_folding) := goodIn_app (goodIn_of _ (by decide +kernel)) ggL_areFoldings_X6_folding
set_option maxRecDepth 20000 in
theorem ggL_areFoldings_L_lay : GoodIn wsL_areFoldings wsL_lay := goodIn_r _ [99] (by decide +kernel) (by decide +kernel)
set_option maxRecDepth 20000 in
theorem gL_areFoldings_L_lay : GoodIn wsL_areFoldings (va_wsS RL 67 yL_lay wsL_lay) := goodIn_app (goodIn_of _ (by decide +kernel)) ggL_areFoldings_L_lay
set_option maxRecDepth 20000 in
theorem ggL_areFoldings_X6_between : GoodIn wsL_areFoldings wsX6_between := goodIn_ca (goodIn_ca (goodIn_r _ [103, 7, 104, 105, 69, 38, 70, 8, 10, 106, 107, 5, 108, 109, 110, 20, 21, 22, 23, 24, 111, 44, 34, 45, 112, 66, 67, 36, 37, 39, 68, 43, 113, 114, 115, 59, 116, 117, 118, 41, 42, 61, 62, 63, 64, 135, 136, 137, 138, 139, 140, 141, 142, 143, 144, 145, 146, 147, 148, 149, 150, 151, 152] (by decide +kernel) (by decide +kernel)) (goodIn_sub (fun _ h => List.mem_cons_of_mem _ (List.mem_append_right _ h)) (by decide +kernel))) (goodIn_sub (fun _ h => List.mem_cons_of_mem _ (List.mem_append_left _ (List.mem_append_right _ h))) (by decide +kernel))
set_option maxRecDepth 20000 in
theorem gL_areFoldings_X6_between : GoodIn wsL_areFoldings (wsV RL 44 RX6 yX6_between wsX6_between) := goodIn_app (goodIn_of _ (by decide +kernel)) ggL_areFoldings_X6_between
set_option maxRecDepth 20000 in
theorem ggL_areFoldings_X6_town : GoodIn wsL_areFoldings wsX6_town := goodIn_ca (goodIn_r _ [122, 7, 104, 106, 107, 5, 108, 109, 110, 135, 136, 137, 138, 139, 140, 141, 142, 143, 144, 145, 146, 147, 148] (by decide +kernel) (by decide +kernel)) (goodIn_sub (fun _ h => List.mem_cons_of_mem _ (List.mem_append_right _ h)) (by decide +kernel))
set_option maxRecDepth 20000 in
theorem gL_areFoldings_X6_town : GoodIn wsL_areFoldings (wsV RL 27 RX6 yX6_town wsX6_town) := goodIn_app (goodIn_of _ (by decide +kernel)) ggL_areFoldings_X6_town
set_option maxRecDepth 20000 in
theorem ggL_areFoldings_X6_creaseOf : GoodIn wsL_areFoldings wsX6_creaseOf := goodIn_ca (goodIn_ca (goodIn_r _ [126, 7, 8, 127, 9, 12, 128, 129, 5, 130, 109, 110, 20, 21, 22, 23, 24, 81, 82, 83, 46, 47, 48, 49, 50, 51, 52, 53, 54, 55, 56, 57, 58, 59, 60, 61, 62, 63, 64, 65, 66, 34, 67, 36, 37, 38, 39, 68, 69, 70, 43, 44, 45, 131, 132, 133, 134, 135, 136, 137, 138, 139, 140, 141, 142, 143, 144, 145, 146, 147, 148, 153, 154, 155, 149, 150, 151, 152] (by decide +kernel) (by decide +kernel)) (goodIn_sub (fun _ h => List.mem_cons_of_mem _ (List.mem_append_right _ h)) (by decide +kernel))) (goodIn_sub (fun _ h => List.mem_cons_of_mem _ (List.mem_append_left _ (List.mem_append_right _ h))) (by decide +kernel))
set_option maxRecDepth 20000 in
theorem gL_areFoldings_X6_creaseOf : GoodIn wsL_areFoldings (wsV RL 9 RX6 yX6_creaseOf wsX6_creaseOf) := goodIn_app (goodIn_of _ (by decide +kernel)) ggL_areFoldings_X6_creaseOf
theorem dL_areFoldings_0 : decode cL_areFoldings 0 = .ok (.aload_n 0, 1) := by decide +kernel
theorem dL_areFoldings_1 : decode cL_areFoldings 1 = .ok (.iconst 4, 1) := by decide +kernel
theorem dL_areFoldings_2 : decode cL_areFoldings 2 = .ok (.invokevirtual 20, 3) := by decide +kernel
theorem dL_areFoldings_5 : decode cL_areFoldings 5 = .ok (.istore_n 3, 1) := by decide +kernel
theorem dL_areFoldings_6 : decode cL_areFoldings 6 = .ok (.bipush 10, 2) := by decide +kernel
theorem dL_areFoldings_8 : decode cL_areFoldings 8 = .ok (.newarray .int, 2) := by decide +kernel
theorem dL_areFoldings_10 : decode cL_areFoldings 10 = .ok (.astore 4, 2) := by decide +kernel
theorem dL_areFoldings_12 : decode cL_areFoldings 12 = .ok (.iconst (-1), 1) := by decide +kernel
theorem dL_areFoldings_13 : decode cL_areFoldings 13 = .ok (.istore 5, 2) := by decide +kernel
theorem dL_areFoldings_15 : decode cL_areFoldings 15 = .ok (.iconst 0, 1) := by decide +kernel
theorem dL_areFoldings_16 : decode cL_areFoldings 16 = .ok (.istore 6, 2) := by decide +kernel
theorem dL_areFoldings_18 : decode cL_areFoldings 18 = .ok (.sipush 511, 3) := by decide +kernel
theorem dL_areFoldings_21 : decode cL_areFoldings 21 = .ok (.istore 7, 2) := by decide +kernel
theorem dL_areFoldings_23 : decode cL_areFoldings 23 = .ok (.iconst 0, 1) := by decide +kernel
theorem dL_areFoldings_24 : decode cL_areFoldings 24 = .ok (.istore 8, 2) := by decide +kernel
theorem dL_areFoldings_26 : decode cL_areFoldings 26 = .ok (.iload_n 3, 1) := by decide +kernel
theorem dL_areFoldings_27 : decode cL_areFoldings 27 = .ok (.aload_n 0, 1) := by decide +kernel
theorem dL_areFoldings_28 : decode cL_areFoldings 28 = .ok (.iconst 5, 1) := by decide +kernel
theorem dL_areFoldings_29 : decode cL_areFoldings 29 = .ok (.invokevirtual 20, 3) := by decide +kernel
theorem dL_areFoldings_32 : decode cL_areFoldings 32 = .ok (.if_icmp .ne 28, 3) := by decide +kernel
theorem dL_areFoldings_35 : decode cL_areFoldings 35 = .ok (.aload_n 0, 1) := by decide +kernel
theorem dL_areFoldings_36 : decode cL_areFoldings 36 = .ok (.invokevirtual 81, 3) := by decide +kernel
theorem dL_areFoldings_39 : decode cL_areFoldings 39 = .ok (.dconst 1, 1) := by decide +kernel
theorem dL_areFoldings_40 : decode cL_areFoldings 40 = .ok (.iload_n 3, 1) := by decide +kernel
theorem dL_areFoldings_41 : decode cL_areFoldings 41 = .ok (.i2d, 1) := by decide +kernel
theorem dL_areFoldings_42 : decode cL_areFoldings 42 = .ok (.ddiv, 1) := by decide +kernel
theorem dL_areFoldings_43 : decode cL_areFoldings 43 = .ok (.dcmp .l, 1) := by decide +kernel
theorem dL_areFoldings_44 : decode cL_areFoldings 44 = .ok (.ifCond .ne 16, 3) := by decide +kernel
theorem dL_areFoldings_47 : decode cL_areFoldings 47 = .ok (.aload_n 0, 1) := by decide +kernel
theorem dL_areFoldings_48 : decode cL_areFoldings 48 = .ok (.iload_n 3, 1) := by decide +kernel
theorem dL_areFoldings_49 : decode cL_areFoldings 49 = .ok (.invokevirtual 85, 3) := by decide +kernel
theorem dL_areFoldings_52 : decode cL_areFoldings 52 = .ok (.iconst (-1), 1) := by decide +kernel
theorem dL_areFoldings_53 : decode cL_areFoldings 53 = .ok (.if_icmp .ne 7, 3) := by decide +kernel
theorem dL_areFoldings_56 : decode cL_areFoldings 56 = .ok (.iconst 1, 1) := by decide +kernel
theorem dL_areFoldings_57 : decode cL_areFoldings 57 = .ok (.goto 4, 3) := by decide +kernel
theorem dL_areFoldings_60 : decode cL_areFoldings 60 = .ok (.iconst 0, 1) := by decide +kernel
theorem dL_areFoldings_61 : decode cL_areFoldings 61 = .ok (.istore 9, 2) := by decide +kernel
theorem dL_areFoldings_63 : decode cL_areFoldings 63 = .ok (.iconst 0, 1) := by decide +kernel
theorem dL_areFoldings_64 : decode cL_areFoldings 64 = .ok (.istore 10, 2) := by decide +kernel
theorem dL_areFoldings_66 : decode cL_areFoldings 66 = .ok (.iload 10, 2) := by decide +kernel
theorem dL_areFoldings_68 : decode cL_areFoldings 68 = .ok (.iload_n 3, 1) := by decide +kernel
theorem dL_areFoldings_69 : decode cL_areFoldings 69 = .ok (.if_icmp .ge 203, 3) := by decide +kernel
theorem dL_areFoldings_72 : decode cL_areFoldings 72 = .ok (.iload 10, 2) := by decide +kernel
theorem dL_areFoldings_74 : decode cL_areFoldings 74 = .ok (.bipush 40, 2) := by decide +kernel
theorem dL_areFoldings_76 : decode cL_areFoldings 76 = .ok (.if_icmp .ge 196, 3) := by decide +kernel
theorem dL_areFoldings_79 : decode cL_areFoldings 79 = .ok (.iload 9, 2) := by decide +kernel
theorem dL_areFoldings_81 : decode cL_areFoldings 81 = .ok (.ifCond .eq 191, 3) := by decide +kernel
theorem dL_areFoldings_84 : decode cL_areFoldings 84 = .ok (.aload_n 0, 1) := by decide +kernel
theorem dL_areFoldings_85 : decode cL_areFoldings 85 = .ok (.iload_n 3, 1) := by decide +kernel
theorem dL_areFoldings_86 : decode cL_areFoldings 86 = .ok (.iconst 1, 1) := by decide +kernel
theorem dL_areFoldings_87 : decode cL_areFoldings 87 = .ok (.isub, 1) := by decide +kernel
theorem dL_areFoldings_88 : decode cL_areFoldings 88 = .ok (.iload 10, 2) := by decide +kernel
theorem dL_areFoldings_90 : decode cL_areFoldings 90 = .ok (.isub, 1) := by decide +kernel
theorem dL_areFoldings_91 : decode cL_areFoldings 91 = .ok (.invokevirtual 85, 3) := by decide +kernel
theorem dL_areFoldings_94 : decode cL_areFoldings 94 = .ok (.istore 11, 2) := by decide +kernel
theorem dL_areFoldings_96 : decode cL_areFoldings 96 = .ok (.iload 10, 2) := by decide +kernel
theorem dL_areFoldings_98 : decode cL_areFoldings 98 = .ok (.ifCond .eq 10, 3) := by decide +kernel
theorem dL_areFoldings_101 : decode cL_areFoldings 101 = .ok (.iload 11, 2) := by decide +kernel
theorem dL_areFoldings_103 : decode cL_areFoldings 103 = .ok (.iload 5, 2) := by decide +kernel
theorem dL_areFoldings_105 : decode cL_areFoldings 105 = .ok (.if_icmp .ge 27, 3) := by decide +kernel
theorem dL_areFoldings_108 : decode cL_areFoldings 108 = .ok (.iload 11, 2) := by decide +kernel
theorem dL_areFoldings_110 : decode cL_areFoldings 110 = .ok (.iload_n 2, 1) := by decide +kernel
theorem dL_areFoldings_111 : decode cL_areFoldings 111 = .ok (.iand, 1) := by decide +kernel
theorem dL_areFoldings_112 : decode cL_areFoldings 112 = .ok (.ifCond .ne 20, 3) := by decide +kernel
theorem dL_areFoldings_115 : decode cL_areFoldings 115 = .ok (.iload 11, 2) := by decide +kernel
theorem dL_areFoldings_117 : decode cL_areFoldings 117 = .ok (.ifCond .lt 15, 3) := by decide +kernel
theorem dL_areFoldings_120 : decode cL_areFoldings 120 = .ok (.iload 11, 2) := by decide +kernel
theorem dL_areFoldings_122 : decode cL_areFoldings 122 = .ok (.sipush 512, 3) := by decide +kernel
theorem dL_areFoldings_125 : decode cL_areFoldings 125 = .ok (.if_icmp .ge 7, 3) := by decide +kernel
theorem dL_areFoldings_128 : decode cL_areFoldings 128 = .ok (.iconst 1, 1) := by decide +kernel
theorem dL_areFoldings_129 : decode cL_areFoldings 129 = .ok (.goto 4, 3) := by decide +kernel
theorem dL_areFoldings_132 : decode cL_areFoldings 132 = .ok (.iconst 0, 1) := by decide +kernel
theorem dL_areFoldings_133 : decode cL_areFoldings 133 = .ok (.istore 9, 2) := by decide +kernel
theorem dL_areFoldings_135 : decode cL_areFoldings 135 = .ok (.iload 11, 2) := by decide +kernel
theorem dL_areFoldings_137 : decode cL_areFoldings 137 = .ok (.istore 5, 2) := by decide +kernel
theorem dL_areFoldings_139 : decode cL_areFoldings 139 = .ok (.aload 4, 2) := by decide +kernel
theorem dL_areFoldings_141 : decode cL_areFoldings 141 = .ok (.iload 11, 2) := by decide +kernel
theorem dL_areFoldings_143 : decode cL_areFoldings 143 = .ok (.invokestatic 67, 3) := by decide +kernel
theorem dL_areFoldings_146 : decode cL_areFoldings 146 = .ok (.iconst 0, 1) := by decide +kernel
theorem dL_areFoldings_147 : decode cL_areFoldings 147 = .ok (.istore 12, 2) := by decide +kernel
theorem dL_areFoldings_149 : decode cL_areFoldings 149 = .ok (.iload 12, 2) := by decide +kernel
theorem dL_areFoldings_151 : decode cL_areFoldings 151 = .ok (.bipush 36, 2) := by decide +kernel
theorem dL_areFoldings_153 : decode cL_areFoldings 153 = .ok (.if_icmp .ge 81, 3) := by decide +kernel
theorem dL_areFoldings_156 : decode cL_areFoldings 156 = .ok (.iload 9, 2) := by decide +kernel
theorem dL_areFoldings_158 : decode cL_areFoldings 158 = .ok (.ifCond .eq 76, 3) := by decide +kernel
theorem dL_areFoldings_161 : decode cL_areFoldings 161 = .ok (.aload_n 0, 1) := by decide +kernel
theorem dL_areFoldings_162 : decode cL_areFoldings 162 = .ok (.iload 12, 2) := by decide +kernel
theorem dL_areFoldings_164 : decode cL_areFoldings 164 = .ok (.bipush 6, 2) := by decide +kernel
theorem dL_areFoldings_166 : decode cL_areFoldings 166 = .ok (.idiv, 1) := by decide +kernel
theorem dL_areFoldings_167 : decode cL_areFoldings 167 = .ok (.iload 12, 2) := by decide +kernel
theorem dL_areFoldings_169 : decode cL_areFoldings 169 = .ok (.bipush 6, 2) := by decide +kernel
theorem dL_areFoldings_171 : decode cL_areFoldings 171 = .ok (.irem, 1) := by decide +kernel
theorem dL_areFoldings_172 : decode cL_areFoldings 172 = .ok (.iconst 3, 1) := by decide +kernel
theorem dL_areFoldings_173 : decode cL_areFoldings 173 = .ok (.invokevirtual 44, 3) := by decide +kernel
theorem dL_areFoldings_176 : decode cL_areFoldings 176 = .ok (.istore 13, 2) := by decide +kernel
theorem dL_areFoldings_178 : decode cL_areFoldings 178 = .ok (.iload 13, 2) := by decide +kernel
theorem dL_areFoldings_180 : decode cL_areFoldings 180 = .ok (.iconst (-1), 1) := by decide +kernel
theorem dL_areFoldings_181 : decode cL_areFoldings 181 = .ok (.if_icmp .eq 40, 3) := by decide +kernel
theorem dL_areFoldings_184 : decode cL_areFoldings 184 = .ok (.iload 13, 2) := by decide +kernel
theorem dL_areFoldings_186 : decode cL_areFoldings 186 = .ok (.aload 4, 2) := by decide +kernel
theorem dL_areFoldings_188 : decode cL_areFoldings 188 = .ok (.aload_n 0, 1) := by decide +kernel
theorem dL_areFoldings_189 : decode cL_areFoldings 189 = .ok (.iload 12, 2) := by decide +kernel
theorem dL_areFoldings_191 : decode cL_areFoldings 191 = .ok (.bipush 6, 2) := by decide +kernel
theorem dL_areFoldings_193 : decode cL_areFoldings 193 = .ok (.idiv, 1) := by decide +kernel
theorem dL_areFoldings_194 : decode cL_areFoldings 194 = .ok (.invokevirtual 27, 3) := by decide +kernel
theorem dL_areFoldings_197 : decode cL_areFoldings 197 = .ok (.iaload, 1) := by decide +kernel
theorem dL_areFoldings_198 : decode cL_areFoldings 198 = .ok (.aload 4, 2) := by decide +kernel
theorem dL_areFoldings_200 : decode cL_areFoldings 200 = .ok (.aload_n 0, 1) := by decide +kernel
theorem dL_areFoldings_201 : decode cL_areFoldings 201 = .ok (.iload 12, 2) := by decide +kernel
theorem dL_areFoldings_203 : decode cL_areFoldings 203 = .ok (.bipush 6, 2) := by decide +kernel
theorem dL_areFoldings_205 : decode cL_areFoldings 205 = .ok (.irem, 1) := by decide +kernel
theorem dL_areFoldings_206 : decode cL_areFoldings 206 = .ok (.invokevirtual 27, 3) := by decide +kernel
theorem dL_areFoldings_209 : decode cL_areFoldings 209 = .ok (.iaload, 1) := by decide +kernel
theorem dL_areFoldings_210 : decode cL_areFoldings 210 = .ok (.if_icmp .ne 7, 3) := by decide +kernel
theorem dL_areFoldings_213 : decode cL_areFoldings 213 = .ok (.iconst 1, 1) := by decide +kernel
theorem dL_areFoldings_214 : decode cL_areFoldings 214 = .ok (.goto 4, 3) := by decide +kernel
theorem dL_areFoldings_217 : decode cL_areFoldings 217 = .ok (.iconst 0, 1) := by decide +kernel
theorem dL_areFoldings_218 : decode cL_areFoldings 218 = .ok (.if_icmp .ne 7, 3) := by decide +kernel
theorem dL_areFoldings_221 : decode cL_areFoldings 221 = .ok (.iconst 1, 1) := by decide +kernel
theorem dL_areFoldings_222 : decode cL_areFoldings 222 = .ok (.goto 4, 3) := by decide +kernel
theorem dL_areFoldings_225 : decode cL_areFoldings 225 = .ok (.iconst 0, 1) := by decide +kernel
theorem dL_areFoldings_226 : decode cL_areFoldings 226 = .ok (.istore 9, 2) := by decide +kernel
theorem dL_areFoldings_228 : decode cL_areFoldings 228 = .ok (.iinc 12 1, 3) := by decide +kernel
theorem dL_areFoldings_231 : decode cL_areFoldings 231 = .ok (.goto (-82), 3) := by decide +kernel
theorem dL_areFoldings_234 : decode cL_areFoldings 234 = .ok (.iload 6, 2) := by decide +kernel
theorem dL_areFoldings_236 : decode cL_areFoldings 236 = .ok (.ifCond .ne 9, 3) := by decide +kernel
theorem dL_areFoldings_239 : decode cL_areFoldings 239 = .ok (.iload 11, 2) := by decide +kernel
theorem dL_areFoldings_241 : decode cL_areFoldings 241 = .ok (.iload_n 1, 1) := by decide +kernel
theorem dL_areFoldings_242 : decode cL_areFoldings 242 = .ok (.if_icmp .ne 7, 3) := by decide +kernel
theorem dL_areFoldings_245 : decode cL_areFoldings 245 = .ok (.iconst 1, 1) := by decide +kernel
theorem dL_areFoldings_246 : decode cL_areFoldings 246 = .ok (.goto 4, 3) := by decide +kernel
theorem dL_areFoldings_249 : decode cL_areFoldings 249 = .ok (.iconst 0, 1) := by decide +kernel
theorem dL_areFoldings_250 : decode cL_areFoldings 250 = .ok (.istore 6, 2) := by decide +kernel
theorem dL_areFoldings_252 : decode cL_areFoldings 252 = .ok (.iload 7, 2) := by decide +kernel
theorem dL_areFoldings_254 : decode cL_areFoldings 254 = .ok (.iload 11, 2) := by decide +kernel
theorem dL_areFoldings_256 : decode cL_areFoldings 256 = .ok (.iand, 1) := by decide +kernel
theorem dL_areFoldings_257 : decode cL_areFoldings 257 = .ok (.istore 7, 2) := by decide +kernel
theorem dL_areFoldings_259 : decode cL_areFoldings 259 = .ok (.iload 8, 2) := by decide +kernel
theorem dL_areFoldings_261 : decode cL_areFoldings 261 = .ok (.iload 11, 2) := by decide +kernel
theorem dL_areFoldings_263 : decode cL_areFoldings 263 = .ok (.ior, 1) := by decide +kernel
theorem dL_areFoldings_264 : decode cL_areFoldings 264 = .ok (.istore 8, 2) := by decide +kernel
theorem dL_areFoldings_266 : decode cL_areFoldings 266 = .ok (.iinc 10 1, 3) := by decide +kernel
theorem dL_areFoldings_269 : decode cL_areFoldings 269 = .ok (.goto (-203), 3) := by decide +kernel
theorem dL_areFoldings_272 : decode cL_areFoldings 272 = .ok (.iconst 0, 1) := by decide +kernel
theorem dL_areFoldings_273 : decode cL_areFoldings 273 = .ok (.istore 10, 2) := by decide +kernel
theorem dL_areFoldings_275 : decode cL_areFoldings 275 = .ok (.iload 10, 2) := by decide +kernel
theorem dL_areFoldings_277 : decode cL_areFoldings 277 = .ok (.bipush 9, 2) := by decide +kernel
theorem dL_areFoldings_279 : decode cL_areFoldings 279 = .ok (.if_icmp .ge 67, 3) := by decide +kernel
theorem dL_areFoldings_282 : decode cL_areFoldings 282 = .ok (.iload 9, 2) := by decide +kernel
theorem dL_areFoldings_284 : decode cL_areFoldings 284 = .ok (.ifCond .eq 62, 3) := by decide +kernel
theorem dL_areFoldings_287 : decode cL_areFoldings 287 = .ok (.iload_n 3, 1) := by decide +kernel
theorem dL_areFoldings_288 : decode cL_areFoldings 288 = .ok (.bipush 40, 2) := by decide +kernel
theorem dL_areFoldings_290 : decode cL_areFoldings 290 = .ok (.if_icmp .gt 56, 3) := by decide +kernel
theorem dL_areFoldings_293 : decode cL_areFoldings 293 = .ok (.aload_n 0, 1) := by decide +kernel
theorem dL_areFoldings_294 : decode cL_areFoldings 294 = .ok (.iload 10, 2) := by decide +kernel
theorem dL_areFoldings_296 : decode cL_areFoldings 296 = .ok (.iconst 3, 1) := by decide +kernel
theorem dL_areFoldings_297 : decode cL_areFoldings 297 = .ok (.invokevirtual 9, 3) := by decide +kernel
theorem dL_areFoldings_300 : decode cL_areFoldings 300 = .ok (.iload 7, 2) := by decide +kernel
theorem dL_areFoldings_302 : decode cL_areFoldings 302 = .ok (.iload 10, 2) := by decide +kernel
theorem dL_areFoldings_304 : decode cL_areFoldings 304 = .ok (.ishr, 1) := by decide +kernel
theorem dL_areFoldings_305 : decode cL_areFoldings 305 = .ok (.iconst 1, 1) := by decide +kernel
theorem dL_areFoldings_306 : decode cL_areFoldings 306 = .ok (.iand, 1) := by decide +kernel
theorem dL_areFoldings_307 : decode cL_areFoldings 307 = .ok (.iconst 1, 1) := by decide +kernel
theorem dL_areFoldings_308 : decode cL_areFoldings 308 = .ok (.if_icmp .ne 7, 3) := by decide +kernel
theorem dL_areFoldings_311 : decode cL_areFoldings 311 = .ok (.iconst 1, 1) := by decide +kernel
theorem dL_areFoldings_312 : decode cL_areFoldings 312 = .ok (.goto 18, 3) := by decide +kernel
theorem dL_areFoldings_315 : decode cL_areFoldings 315 = .ok (.iload 8, 2) := by decide +kernel
theorem dL_areFoldings_317 : decode cL_areFoldings 317 = .ok (.iload 10, 2) := by decide +kernel
theorem dL_areFoldings_319 : decode cL_areFoldings 319 = .ok (.ishr, 1) := by decide +kernel
theorem dL_areFoldings_320 : decode cL_areFoldings 320 = .ok (.iconst 1, 1) := by decide +kernel
theorem dL_areFoldings_321 : decode cL_areFoldings 321 = .ok (.iand, 1) := by decide +kernel
theorem dL_areFoldings_322 : decode cL_areFoldings 322 = .ok (.ifCond .ne 7, 3) := by decide +kernel
theorem dL_areFoldings_325 : decode cL_areFoldings 325 = .ok (.iconst 0, 1) := by decide +kernel
theorem dL_areFoldings_326 : decode cL_areFoldings 326 = .ok (.goto 4, 3) := by decide +kernel
theorem dL_areFoldings_329 : decode cL_areFoldings 329 = .ok (.iconst (-1), 1) := by decide +kernel
theorem dL_areFoldings_330 : decode cL_areFoldings 330 = .ok (.if_icmp .ne 7, 3) := by decide +kernel
theorem dL_areFoldings_333 : decode cL_areFoldings 333 = .ok (.iconst 1, 1) := by decide +kernel
theorem dL_areFoldings_334 : decode cL_areFoldings 334 = .ok (.goto 4, 3) := by decide +kernel
theorem dL_areFoldings_337 : decode cL_areFoldings 337 = .ok (.iconst 0, 1) := by decide +kernel
theorem dL_areFoldings_338 : decode cL_areFoldings 338 = .ok (.istore 9, 2) := by decide +kernel
theorem dL_areFoldings_340 : decode cL_areFoldings 340 = .ok (.iinc 10 1, 3) := by decide +kernel
theorem dL_areFoldings_343 : decode cL_areFoldings 343 = .ok (.goto (-68), 3) := by decide +kernel
theorem dL_areFoldings_346 : decode cL_areFoldings 346 = .ok (.iload 9, 2) := by decide +kernel
theorem dL_areFoldings_348 : decode cL_areFoldings 348 = .ok (.ifCond .eq 18, 3) := by decide +kernel
theorem dL_areFoldings_351 : decode cL_areFoldings 351 = .ok (.iload 6, 2) := by decide +kernel
theorem dL_areFoldings_353 : decode cL_areFoldings 353 = .ok (.ifCond .ne 9, 3) := by decide +kernel
theorem dL_areFoldings_356 : decode cL_areFoldings 356 = .ok (.iload_n 3, 1) := by decide +kernel
theorem dL_areFoldings_357 : decode cL_areFoldings 357 = .ok (.bipush 40, 2) := by decide +kernel
theorem dL_areFoldings_359 : decode cL_areFoldings 359 = .ok (.if_icmp .le 7, 3) := by decide +kernel
theorem dL_areFoldings_362 : decode cL_areFoldings 362 = .ok (.iconst 1, 1) := by decide +kernel
theorem dL_areFoldings_363 : decode cL_areFoldings 363 = .ok (.goto 4, 3) := by decide +kernel
theorem dL_areFoldings_366 : decode cL_areFoldings 366 = .ok (.iconst 0, 1) := by decide +kernel
theorem dL_areFoldings_367 : decode cL_areFoldings 367 = .ok (.ireturn, 1) := by decide +kernel
set_option maxRecDepth 20000 in
theorem ggL_asks_X6_bestQuestion : GoodIn wsL_asks wsX6_bestQuestion := goodIn_r _ [5, 6, 7, 8, 4, 9, 10, 11, 12, 13, 14, 15, 16, 17, 18, 19, 20, 21, 22, 23, 24, 25, 26, 27, 28, 29, 30, 31, 32, 33, 34, 35, 36, 37, 38, 39, 40, 41, 42, 43, 44, 45, 46, 47, 48, 49, 50, 51, 52, 53, 54, 55, 56, 57, 58, 59, 60, 61, 62, 63, 64, 65, 136, 137, 138, 139, 140, 141, 142, 143, 144, 145, 146, 147, 148, 149, 150, 151, 152, 153, 154, 155, 156] (by decide +kernel) (by decide +kernel)
set_option maxRecDepth 20000 in
theorem gL_asks_X6_bestQuestion : GoodIn wsL_asks (wsV RL 88 RX6 yX6_bestQuestion wsX6_bestQuestion) := goodIn_app (goodIn_of _ (by decide +kernel)) ggL_asks_X6_bestQuestion
set_option maxRecDepth 20000 in
theorem ggL_asks_X6_count : GoodIn wsL_asks wsX6_count := goodIn_ca (goodIn_r _ [69, 10, 70, 71, 12, 72, 33, 34, 73, 74, 75, 76, 77, 78, 79, 80, 4, 81, 82, 83, 84, 85, 86, 87, 88, 89, 90, 91, 92, 52, 93, 54, 19, 20, 21, 94, 23, 24, 58, 59, 60, 36, 37, 38, 39, 40, 41, 42, 43, 44, 45, 46, 47, 48, 16, 49, 25, 26, 27, 28, 50, 51, 53, 55, 56, 57, 95, 96, 97, 98, 99, 100, 101, 102, 103, 104, 105, 106, 107, 136, 137, 138, 139, 140, 141, 142, 143, 144, 145, 146, 147, 148, 149, 150, 151, 152, 153, 154, 155, 156, 157, 158] (by decide +kernel) (by decide +kernel)) (goodIn_sub (fun _ h => List.mem_cons_of_mem _ (List.mem_append_left _ (List.mem_append_right _ h))) (by decide +kernel))
set_option maxRecDepth 20000 in
theorem gL_asks_X6_count : GoodIn wsL_asks (wsV RL 20 RX6 yX6_count wsX6_count) := goodIn_app (goodIn_of _ (by decide +kernel)) ggL_asks_X6_count
set_option maxRecDepth 20000 in
theorem ggL_asks_X6_town : GoodIn wsL_asks wsX6_town := goodIn_ca (goodIn_r _ [111, 10, 11, 112, 113, 4, 114, 115, 116, 136, 137, 138, 139, 140, 141, 142, 143, 144, 145, 146, 147, 148, 149] (by decide +kernel) (by decide +kernel)) (goodIn_sub (fun _ h => List.mem_cons_of_mem _ (List.mem_append_right _ h)) (by decide +kernel))
set_option maxRecDepth 20000 in
theorem gL_asks_X6_town : GoodIn wsL_asks (wsV RL 27 RX6 yX6_town wsX6_town) := goodIn_app (goodIn_of _ (by decide +kernel)) ggL_asks_X6_town
set_option maxRecDepth 20000 in
theorem ggL_asks_X6_between : GoodIn wsL_asks wsX6_between := goodIn_ca (goodIn_ca (goodIn_r _ [120, 10, 11, 121, 56, 20, 57, 70, 12, 112, 113, 4, 114, 115, 116, 79, 80, 81, 82, 83, 122, 59, 52, 60, 123, 51, 53, 54, 19, 21, 55, 58, 13, 14, 15, 16, 17, 18, 22, 23, 24, 25, 26, 27, 28, 136, 137, 138, 139, 140, 141, 142, 143, 144, 145, 146, 147, 148, 149, 150, 151, 152, 153] (by decide +kernel) (by decide +kernel)) (goodIn_sub (fun _ h => List.mem_cons_of_mem _ (List.mem_append_right _ h)) (by decide +kernel))) (goodIn_sub (fun _ h => List.mem_cons_of_mem _ (List.mem_append_left _ (List.mem_append_right _ h))) (by decide +kernel))
set_option maxRecDepth 20000 in
theorem gL_asks_X6_between : GoodIn wsL_asks (wsV RL 44 RX6 yX6_between wsX6_between) := goodIn_app (goodIn_of _ (by decide +kernel)) ggL_asks_X6_between
set_option maxRecDepth 20000 in
theorem ggL_asks_X6_ifTouching : GoodIn wsL_asks wsX6_ifTouching := goodIn_ca (goodIn_ca (goodIn_r _ [127, 33, 10, 11, 128, 129, 4, 130, 82, 83, 112, 113, 114, 115, 116, 36, 37, 38, 39, 40, 41, 42, 43, 44, 45, 46, 47, 48, 16, 49, 25, 26, 27, 28, 50, 51, 52, 53, 54, 19, 20, 21, 55, 56, 57, 58, 59, 60, 61, 62, 63, 64, 65, 136, 137, 138, 139, 140, 141, 142, 143, 144, 145, 146, 147, 148, 149, 154, 155, 156, 150, 151, 152, 153] (by decide +kernel) (by decide +kernel)) (goodIn_sub (fun _ h => List.mem_cons_of_mem _ (List.mem_append_left _ (List.mem_append_right _ h))) (by decide +kernel))) (goodIn_sub (fun _ h => List.mem_cons_of_mem _ (List.mem_append_right _ h)) (by decide +kernel))
set_option maxRecDepth 20000 in
theorem gL_asks_X6_ifTouching : GoodIn wsL_asks (wsV RL 91 RX6 yX6_ifTouching wsX6_ifTouching) := goodIn_app (goodIn_of _ (by decide +kernel)) ggL_asks_X6_ifTouching
set_option maxRecDepth 20000 in
theorem ggL_asks_L_low : GoodIn wsL_asks wsL_low := goodIn_r _ [134, 135] (by decide +kernel) (by decide +kernel)
set_option maxRecDepth 20000 in
theorem gL_asks_L_low : GoodIn wsL_asks (va_wsS RL 15 yL_low wsL_low) := goodIn_app (goodIn_of _ (by decide +kernel)) ggL_asks_L_low
theorem dL_asks_0 : decode cL_asks 0 = .ok (.aload_n 0, 1) := by decide +kernel
theorem dL_asks_1 : decode cL_asks 1 = .ok (.invokevirtual 88, 3) := by decide +kernel
theorem dL_asks_4 : decode cL_asks 4 = .ok (.istore_n 2, 1) := by decide +kernel
theorem dL_asks_5 : decode cL_asks 5 = .ok (.aload_n 0, 1) := by decide +kernel
theorem dL_asks_6 : decode cL_asks 6 = .ok (.iconst 4, 1) := by decide +kernel
theorem dL_asks_7 : decode cL_asks 7 = .ok (.invokevirtual 20, 3) := by decide +kernel
theorem dL_asks_10 : decode cL_asks 10 = .ok (.istore_n 3, 1) := by decide +kernel
theorem dL_asks_11 : decode cL_asks 11 = .ok (.iconst (-1), 1) := by decide +kernel
theorem dL_asks_12 : decode cL_asks 12 = .ok (.istore 4, 2) := by decide +kernel
theorem dL_asks_14 : decode cL_asks 14 = .ok (.iconst 0, 1) := by decide +kernel
theorem dL_asks_15 : decode cL_asks 15 = .ok (.istore 5, 2) := by decide +kernel
theorem dL_asks_17 : decode cL_asks 17 = .ok (.iconst 0, 1) := by decide +kernel
theorem dL_asks_18 : decode cL_asks 18 = .ok (.istore 6, 2) := by decide +kernel
theorem dL_asks_20 : decode cL_asks 20 = .ok (.iload 6, 2) := by decide +kernel
theorem dL_asks_22 : decode cL_asks 22 = .ok (.bipush 36, 2) := by decide +kernel
theorem dL_asks_24 : decode cL_asks 24 = .ok (.if_icmp .ge 141, 3) := by decide +kernel
theorem dL_asks_27 : decode cL_asks 27 = .ok (.iload 6, 2) := by decide +kernel
theorem dL_asks_29 : decode cL_asks 29 = .ok (.bipush 6, 2) := by decide +kernel
theorem dL_asks_31 : decode cL_asks 31 = .ok (.idiv, 1) := by decide +kernel
theorem dL_asks_32 : decode cL_asks 32 = .ok (.istore 7, 2) := by decide +kernel
theorem dL_asks_34 : decode cL_asks 34 = .ok (.iload 6, 2) := by decide +kernel
theorem dL_asks_36 : decode cL_asks 36 = .ok (.bipush 6, 2) := by decide +kernel
theorem dL_asks_38 : decode cL_asks 38 = .ok (.irem, 1) := by decide +kernel
theorem dL_asks_39 : decode cL_asks 39 = .ok (.istore 8, 2) := by decide +kernel
theorem dL_asks_41 : decode cL_asks 41 = .ok (.iload 7, 2) := by decide +kernel
theorem dL_asks_43 : decode cL_asks 43 = .ok (.iload 8, 2) := by decide +kernel
theorem dL_asks_45 : decode cL_asks 45 = .ok (.if_icmp .ge 114, 3) := by decide +kernel
theorem dL_asks_48 : decode cL_asks 48 = .ok (.aload_n 0, 1) := by decide +kernel
theorem dL_asks_49 : decode cL_asks 49 = .ok (.iload 7, 2) := by decide +kernel
theorem dL_asks_51 : decode cL_asks 51 = .ok (.invokevirtual 27, 3) := by decide +kernel
theorem dL_asks_54 : decode cL_asks 54 = .ok (.aload_n 0, 1) := by decide +kernel
theorem dL_asks_55 : decode cL_asks 55 = .ok (.iload 8, 2) := by decide +kernel
theorem dL_asks_57 : decode cL_asks 57 = .ok (.invokevirtual 27, 3) := by decide +kernel
theorem dL_asks_60 : decode cL_asks 60 = .ok (.if_icmp .eq 99, 3) := by decide +kernel
theorem dL_asks_63 : decode cL_asks 63 = .ok (.aload_n 0, 1) := by decide +kernel
theorem dL_asks_64 : decode cL_asks 64 = .ok (.iload 7, 2) := by decide +kernel
theorem dL_asks_66 : decode cL_asks 66 = .ok (.iload 8, 2) := by decide +kernel
theorem dL_asks_68 : decode cL_asks 68 = .ok (.iconst 3, 1) := by decide +kernel
theorem dL_asks_69 : decode cL_asks 69 = .ok (.invokevirtual 44, 3) := by decide +kernel
theorem dL_asks_72 : decode cL_asks 72 = .ok (.iconst (-1), 1) := by decide +kernel
theorem dL_asks_73 : decode cL_asks 73 = .ok (.if_icmp .ne 86, 3) := by decide +kernel
theorem dL_asks_76 : decode cL_asks 76 = .ok (.aload_n 0, 1) := by decide +kernel
theorem dL_asks_77 : decode cL_asks 77 = .ok (.iload 7, 2) := by decide +kernel
theorem dL_asks_79 : decode cL_asks 79 = .ok (.iload 8, 2) := by decide +kernel
theorem dL_asks_81 : decode cL_asks 81 = .ok (.invokevirtual 91, 3) := by decide +kernel
theorem dL_asks_84 : decode cL_asks 84 = .ok (.istore 9, 2) := by decide +kernel
theorem dL_asks_86 : decode cL_asks 86 = .ok (.iload 9, 2) := by decide +kernel
theorem dL_asks_88 : decode cL_asks 88 = .ok (.iconst 2, 1) := by decide +kernel
theorem dL_asks_89 : decode cL_asks 89 = .ok (.imul, 1) := by decide +kernel
theorem dL_asks_90 : decode cL_asks 90 = .ok (.iload_n 3, 1) := by decide +kernel
theorem dL_asks_91 : decode cL_asks 91 = .ok (.if_icmp .le 8, 3) := by decide +kernel
theorem dL_asks_94 : decode cL_asks 94 = .ok (.iload 9, 2) := by decide +kernel
theorem dL_asks_96 : decode cL_asks 96 = .ok (.goto 7, 3) := by decide +kernel
theorem dL_asks_99 : decode cL_asks 99 = .ok (.iload_n 3, 1) := by decide +kernel
theorem dL_asks_100 : decode cL_asks 100 = .ok (.iload 9, 2) := by decide +kernel
theorem dL_asks_102 : decode cL_asks 102 = .ok (.isub, 1) := by decide +kernel
theorem dL_asks_103 : decode cL_asks 103 = .ok (.istore 10, 2) := by decide +kernel
theorem dL_asks_105 : decode cL_asks 105 = .ok (.iload 4, 2) := by decide +kernel
theorem dL_asks_107 : decode cL_asks 107 = .ok (.iconst (-1), 1) := by decide +kernel
theorem dL_asks_108 : decode cL_asks 108 = .ok (.if_icmp .eq 10, 3) := by decide +kernel
theorem dL_asks_111 : decode cL_asks 111 = .ok (.iload 10, 2) := by decide +kernel
theorem dL_asks_113 : decode cL_asks 113 = .ok (.iload 5, 2) := by decide +kernel
theorem dL_asks_115 : decode cL_asks 115 = .ok (.if_icmp .ge 7, 3) := by decide +kernel
theorem dL_asks_118 : decode cL_asks 118 = .ok (.iconst 1, 1) := by decide +kernel
theorem dL_asks_119 : decode cL_asks 119 = .ok (.goto 4, 3) := by decide +kernel
theorem dL_asks_122 : decode cL_asks 122 = .ok (.iconst 0, 1) := by decide +kernel
theorem dL_asks_123 : decode cL_asks 123 = .ok (.istore 11, 2) := by decide +kernel
theorem dL_asks_125 : decode cL_asks 125 = .ok (.iload 11, 2) := by decide +kernel
theorem dL_asks_127 : decode cL_asks 127 = .ok (.ifCond .eq 14, 3) := by decide +kernel
theorem dL_asks_130 : decode cL_asks 130 = .ok (.bipush 10, 2) := by decide +kernel
theorem dL_asks_132 : decode cL_asks 132 = .ok (.iload 7, 2) := by decide +kernel
theorem dL_asks_134 : decode cL_asks 134 = .ok (.imul, 1) := by decide +kernel
theorem dL_asks_135 : decode cL_asks 135 = .ok (.iload 8, 2) := by decide +kernel
theorem dL_asks_137 : decode cL_asks 137 = .ok (.iadd, 1) := by decide +kernel
theorem dL_asks_138 : decode cL_asks 138 = .ok (.goto 5, 3) := by decide +kernel
theorem dL_asks_141 : decode cL_asks 141 = .ok (.iload 4, 2) := by decide +kernel
theorem dL_asks_143 : decode cL_asks 143 = .ok (.istore 4, 2) := by decide +kernel
theorem dL_asks_145 : decode cL_asks 145 = .ok (.iload 11, 2) := by decide +kernel
theorem dL_asks_147 : decode cL_asks 147 = .ok (.ifCond .eq 8, 3) := by decide +kernel
theorem dL_asks_150 : decode cL_asks 150 = .ok (.iload 10, 2) := by decide +kernel
theorem dL_asks_152 : decode cL_asks 152 = .ok (.goto 5, 3) := by decide +kernel
theorem dL_asks_155 : decode cL_asks 155 = .ok (.iload 5, 2) := by decide +kernel
theorem dL_asks_157 : decode cL_asks 157 = .ok (.istore 5, 2) := by decide +kernel
theorem dL_asks_159 : decode cL_asks 159 = .ok (.iinc 6 1, 3) := by decide +kernel
theorem dL_asks_162 : decode cL_asks 162 = .ok (.goto (-142), 3) := by decide +kernel
theorem dL_asks_165 : decode cL_asks 165 = .ok (.iload_n 1, 1) := by decide +kernel
theorem dL_asks_166 : decode cL_asks 166 = .ok (.bipush 6, 2) := by decide +kernel
theorem dL_asks_168 : decode cL_asks 168 = .ok (.invokestatic 15, 3) := by decide +kernel
theorem dL_asks_171 : decode cL_asks 171 = .ok (.istore 6, 2) := by decide +kernel
theorem dL_asks_173 : decode cL_asks 173 = .ok (.iload 6, 2) := by decide +kernel
theorem dL_asks_175 : decode cL_asks 175 = .ok (.iconst 1, 1) := by decide +kernel
theorem dL_asks_176 : decode cL_asks 176 = .ok (.iadd, 1) := by decide +kernel
theorem dL_asks_177 : decode cL_asks 177 = .ok (.iload_n 1, 1) := by decide +kernel
theorem dL_asks_178 : decode cL_asks 178 = .ok (.iconst 3, 1) := by decide +kernel
theorem dL_asks_179 : decode cL_asks 179 = .ok (.ishr, 1) := by decide +kernel
theorem dL_asks_180 : decode cL_asks 180 = .ok (.iconst 5, 1) := by decide +kernel
theorem dL_asks_181 : decode cL_asks 181 = .ok (.invokestatic 15, 3) := by decide +kernel
theorem dL_asks_184 : decode cL_asks 184 = .ok (.iadd, 1) := by decide +kernel
theorem dL_asks_185 : decode cL_asks 185 = .ok (.bipush 6, 2) := by decide +kernel
theorem dL_asks_187 : decode cL_asks 187 = .ok (.irem, 1) := by decide +kernel
theorem dL_asks_188 : decode cL_asks 188 = .ok (.istore 7, 2) := by decide +kernel
theorem dL_asks_190 : decode cL_asks 190 = .ok (.aload_n 0, 1) := by decide +kernel
theorem dL_asks_191 : decode cL_asks 191 = .ok (.iload 6, 2) := by decide +kernel
theorem dL_asks_193 : decode cL_asks 193 = .ok (.iload 7, 2) := by decide +kernel
theorem dL_asks_195 : decode cL_asks 195 = .ok (.iconst 3, 1) := by decide +kernel
theorem dL_asks_196 : decode cL_asks 196 = .ok (.invokevirtual 44, 3) := by decide +kernel
theorem dL_asks_199 : decode cL_asks 199 = .ok (.istore 8, 2) := by decide +kernel
theorem dL_asks_201 : decode cL_asks 201 = .ok (.iload_n 2, 1) := by decide +kernel
theorem dL_asks_202 : decode cL_asks 202 = .ok (.iload 4, 2) := by decide +kernel
theorem dL_asks_204 : decode cL_asks 204 = .ok (.if_icmp .ne 35, 3) := by decide +kernel
theorem dL_asks_207 : decode cL_asks 207 = .ok (.iload 8, 2) := by decide +kernel
theorem dL_asks_209 : decode cL_asks 209 = .ok (.iconst (-1), 1) := by decide +kernel
theorem dL_asks_210 : decode cL_asks 210 = .ok (.if_icmp .eq 25, 3) := by decide +kernel
theorem dL_asks_213 : decode cL_asks 213 = .ok (.aload_n 0, 1) := by decide +kernel
theorem dL_asks_214 : decode cL_asks 214 = .ok (.iload 6, 2) := by decide +kernel
theorem dL_asks_216 : decode cL_asks 216 = .ok (.iload 7, 2) := by decide +kernel
theorem dL_asks_218 : decode cL_asks 218 = .ok (.invokevirtual 91, 3) := by decide +kernel
theorem dL_asks_221 : decode cL_asks 221 = .ok (.iload 8, 2) := by decide +kernel
theorem dL_asks_223 : decode cL_asks 223 = .ok (.iconst 1, 1) := by decide +kernel
theorem dL_asks_224 : decode cL_asks 224 = .ok (.if_icmp .ne 7, 3) := by decide +kernel
theorem dL_asks_227 : decode cL_asks 227 = .ok (.iload_n 3, 1) := by decide +kernel
theorem dL_asks_228 : decode cL_asks 228 = .ok (.goto 4, 3) := by decide +kernel
theorem dL_asks_231 : decode cL_asks 231 = .ok (.iconst 0, 1) := by decide +kernel
theorem dL_asks_232 : decode cL_asks 232 = .ok (.if_icmp .ne 7, 3) := by decide +kernel
theorem dL_asks_235 : decode cL_asks 235 = .ok (.iconst 1, 1) := by decide +kernel
theorem dL_asks_236 : decode cL_asks 236 = .ok (.goto 4, 3) := by decide +kernel
theorem dL_asks_239 : decode cL_asks 239 = .ok (.iconst 0, 1) := by decide +kernel
theorem dL_asks_240 : decode cL_asks 240 = .ok (.ireturn, 1) := by decide +kernel
set_option maxRecDepth 20000 in
theorem ggL_law_X6_init : GoodIn wsL_law wsX6_init := goodIn_r _ [5, 6, 7, 8, 9, 10, 11, 12, 13, 14, 15, 16, 17, 18, 19, 20, 21, 22, 23, 24, 25, 26, 27, 28, 29, 30, 31, 32, 33, 34, 35, 36, 37, 38, 39, 40, 41, 42, 43, 44, 45, 46, 47, 48, 49, 50, 51, 52, 53, 54, 55, 56, 57, 368, 369, 370, 371, 372, 373, 374, 375, 376, 363, 364, 365, 366, 367, 377, 378, 379, 380, 381, 382, 383, 384, 385, 386, 387] (by decide +kernel) (by decide +kernel)
set_option maxRecDepth 20000 in
theorem gL_law_X6_init : GoodIn wsL_law (wsX6_init) := ggL_law_X6_init
theorem goodIn_cx {big a : List Cond} {c : Cond} (i : Nat) (hi : big[i]? = some c) (hg : goodWord c = true) (ha : GoodIn big a) : GoodIn big (c :: a) := fun w h => (List.mem_cons.mp h).elim (fun e => e ▸ ⟨List.mem_of_getElem? hi, good_of_word hg⟩) (ha w)
set_option maxRecDepth 20000 in
theorem ggL_law_L_holds : GoodIn wsL_law wsL_holds := goodIn_ca (goodIn_ca (goodIn_cx 61 rfl (by decide +kernel) (goodIn_r _ [30, 62, 63, 60, 64, 65, 66, 67, 2, 68, 12, 69, 70, 71, 25, 72, 73, 74, 75, 76, 77, 78, 79, 80, 81, 82, 83, 84, 85, 86, 87, 24, 88, 89, 90, 91, 92, 57, 93, 94, 95, 35, 96, 97, 40, 41, 42, 98, 99, 100, 101, 102, 103, 104, 105, 106, 107, 108, 109, 110, 111, 112, 113, 114, 115, 116, 117, 118, 119, 120, 121, 122, 123, 124, 125, 126, 127, 128, 129, 130, 131, 132, 133, 134, 11, 135, 32, 136, 137, 138, 139, 140, 141, 142, 143, 144, 145, 146, 147, 148, 149, 150, 151, 152, 153, 154, 155, 156, 157, 158, 159, 160, 161, 162, 163, 164, 16, 165, 166, 167, 168, 169, 170, 171, 172, 173, 174, 175, 176, 177, 178, 179, 180, 181, 182, 183, 184, 185, 186, 187, 188, 189, 190, 191, 192, 193, 194, 195, 196, 197, 198, 199, 200, 201, 202, 203, 204, 205, 206, 207, 208, 209, 210, 211, 212, 213, 214, 215, 216, 217, 218, 219, 220, 221, 222, 223, 224, 225, 226, 227, 228, 229, 230, 231, 232, 233, 234, 235, 236, 237, 238, 239, 240, 363, 364, 365, 366, 367, 368, 369, 370, 371, 372, 373, 374, 375, 376, 381, 382, 383, 384, 385, 386, 387, 377, 378] (by decide +kernel) (by decide +kernel))) (goodIn_sub (fun _ h => List.mem_append_left _ (List.mem_append_left _ (List.mem_append_right _ h))) (by decide +kernel))) (goodIn_sub (fun _ h => List.mem_append_left _ (List.mem_append_right _ h)) (by decide +kernel))
set_option maxRecDepth 20000 in
theorem gL_law_L_holds : GoodIn wsL_law (va_wsS RL 95 yL_holds wsL_holds) := goodIn_app (goodIn_of _ (by decide +kernel)) ggL_law_L_holds
set_option maxRecDepth 20000 in
theorem ggL_law_X6_count : GoodIn wsL_law wsX6_count := goodIn_ca (goodIn_r _ [158, 12, 69, 71, 145, 159, 25, 160, 161, 162, 163, 164, 16, 165, 77, 78, 2, 79, 80, 81, 166, 167, 168, 169, 170, 171, 172, 173, 174, 100, 175, 102, 103, 104, 105, 176, 153, 154, 109, 110, 111, 85, 86, 87, 24, 88, 89, 90, 91, 92, 57, 93, 94, 95, 35, 96, 97, 40, 41, 42, 98, 99, 101, 106, 107, 108, 177, 178, 179, 180, 181, 182, 183, 184, 185, 186, 82, 83, 84, 363, 364, 365, 366, 367, 368, 369, 370, 371, 372, 373, 374, 375, 376, 384, 385, 386, 387, 381, 382, 383, 377, 378] (by decide +kernel) (by decide +kernel)) (goodIn_sub (fun _ h => List.mem_append_left _ (List.mem_append_right _ h)) (by decide +kernel))
set_option maxRecDepth 20000 in
theorem gL_law_X6_count : GoodIn wsL_law (wsV RL 20 RX6 yX6_count wsX6_count) := goodIn_app (goodIn_of _ (by decide +kernel)) ggL_law_X6_count
set_option maxRecDepth 20000 in
theorem ggL_law_L_folded : GoodIn wsL_law wsL_folded := goodIn_ca (goodIn_ca (goodIn_r _ [64, 65, 66, 67, 2, 68, 12, 69, 70, 71, 25, 72, 73, 74, 75, 76, 77, 78, 79, 80, 81, 82, 83, 84, 85, 86, 87, 24, 88, 89, 90, 91, 92, 57, 93, 94, 95, 35, 96, 97, 40, 41, 42, 98, 99, 100, 101, 102, 103, 104, 105, 106, 107, 108, 109, 110, 111, 112, 113, 114, 115, 363, 364, 365, 366, 367, 368, 369, 370, 371, 372, 373, 374, 375, 376, 381, 382, 383, 384, 385, 386, 387] (by decide +kernel) (by decide +kernel)) (goodIn_sub (fun _ h => List.mem_append_left _ (List.mem_append_left _ (List.mem_append_right _ h))) (by decide +kernel))) (goodIn_sub (fun _ h => List.mem_append_left _ (List.mem_append_right _ h)) (by decide +kernel))
set_option maxRecDepth 20000 in
theorem gL_law_L_folded : GoodIn wsL_law (va_wsS RL 51 yL_folded wsL_folded) := goodIn_app (goodIn_of _ (by decide +kernel)) ggL_law_L_folded
set_option maxRecDepth 20000 in
theorem ggL_law_X6_keep : GoodIn wsL_law wsX6_keep := goodIn_ca (goodIn_r _ [244, 17, 9, 10, 11, 12, 145, 159, 245, 246, 2, 247, 80, 81, 26, 27, 28, 29, 7, 8, 30, 31, 32, 33, 34, 35, 36, 37, 38, 39, 40, 41, 42, 248, 249, 250, 251, 252, 253, 254, 255, 256, 257, 258, 259, 260, 261, 262, 263, 264, 265, 266, 97, 363, 364, 365, 366, 367, 368, 369, 370, 371, 372, 373, 374, 375, 376, 384, 385, 386, 387] (by decide +kernel) (by decide +kernel)) (goodIn_sub (fun _ h => List.mem_append_left _ (List.mem_append_right _ h)) (by decide +kernel))
set_option maxRecDepth 20000 in
theorem gL_law_X6_keep : GoodIn wsL_law (wsV RL 98 RX6 yX6_keep wsX6_keep) := goodIn_app (goodIn_of _ (by decide +kernel)) ggL_law_X6_keep
set_option maxRecDepth 20000 in
theorem ggL_law_L_cell : GoodIn wsL_law wsL_cell := goodIn_r _ [269, 270] (by decide +kernel) (by decide +kernel)
set_option maxRecDepth 20000 in
theorem gL_law_L_cell : GoodIn wsL_law (va_wsS RL 101 yL_cell wsL_cell) := goodIn_app (goodIn_of _ (by decide +kernel)) ggL_law_L_cell
set_option maxRecDepth 20000 in
theorem ggL_law_L_change : GoodIn wsL_law wsL_change := goodIn_ca (goodIn_ca (goodIn_cx 273 rfl (by decide +kernel) (goodIn_r _ [237, 238, 60, 239, 240, 155, 156, 157, 2, 158, 12, 69, 71, 145, 159, 25, 160, 161, 162, 163, 164, 16, 165, 77, 78, 79, 80, 81, 166, 167, 168, 169, 170, 171, 172, 173, 174, 100, 175, 102, 103, 104, 105, 176, 153, 154, 109, 110, 111, 85, 86, 87, 24, 88, 89, 90, 91, 92, 57, 93, 94, 95, 35, 96, 97, 40, 41, 42, 98, 99, 101, 106, 107, 108, 177, 178, 179, 180, 181, 182, 183, 184, 185, 186, 82, 83, 84, 65, 66, 67, 68, 70, 72, 73, 74, 75, 76, 112, 113, 114, 115, 274, 275, 276, 277, 278, 279, 280, 281, 282, 283, 284, 15, 285, 286, 48, 287, 288, 289, 290, 291, 249, 250, 11, 251, 252, 253, 31, 254, 255, 256, 257, 32, 36, 258, 259, 260, 261, 262, 263, 264, 265, 266, 292, 293, 294, 295, 296, 297, 298, 299, 300, 301, 302, 303, 304, 305, 306, 307, 119, 120, 121, 122, 123, 124, 125, 126, 308, 309, 310, 311, 312, 313, 314, 315, 62, 63, 64, 316, 317, 318, 319, 320, 321, 322, 323, 324, 187, 188, 189, 325, 326, 327, 328, 329, 330, 331, 332, 190, 191, 192, 193, 140, 141, 142, 143, 144, 131, 146, 147, 148, 149, 150, 151, 152, 333, 334, 335, 336, 234, 235, 236, 337, 338, 339, 340, 341, 342, 343, 344, 345, 346, 347, 348, 363, 364, 365, 366, 367, 368, 369, 370, 371, 372, 373, 374, 375, 376, 384, 385, 386, 387, 381, 382, 383, 377, 378] (by decide +kernel) (by decide +kernel))) (goodIn_sub (fun _ h => List.mem_append_left _ (List.mem_append_right _ h)) (by decide +kernel))) (goodIn_sub (fun _ h => List.mem_append_left _ (List.mem_append_left _ (List.mem_append_right _ h))) (by decide +kernel))
set_option maxRecDepth 20000 in
theorem gL_law_L_change : GoodIn wsL_law (va_wsS RL 105 yL_change wsL_change) := goodIn_app (goodIn_of _ (by decide +kernel)) ggL_law_L_change
set_option maxRecDepth 20000 in
theorem ggL_law_X6_goBack : GoodIn wsL_law wsX6_goBack := goodIn_ca (goodIn_ca (goodIn_r _ [352, 353, 354, 17, 12, 145, 159, 245, 246, 2, 247, 80, 81, 278, 279, 280, 281, 16, 25, 282, 283, 284, 15, 285, 286, 48, 287, 288, 289, 290, 291, 249, 250, 11, 251, 252, 253, 31, 254, 255, 256, 257, 32, 36, 258, 259, 260, 261, 262, 263, 264, 35, 265, 40, 266, 41, 42, 97, 292, 293, 294, 24, 295, 89, 248, 363, 364, 365, 366, 367, 368, 369, 370, 371, 372, 373, 374, 375, 376, 384, 385, 386, 387, 377, 378, 381, 382, 383] (by decide +kernel) (by decide +kernel)) (goodIn_sub (fun _ h => List.mem_append_right _ h) (by decide +kernel))) (goodIn_sub (fun _ h => List.mem_append_left _ (List.mem_append_right _ h)) (by decide +kernel))
set_option maxRecDepth 20000 in
theorem gL_law_X6_goBack : GoodIn wsL_law (wsV RL 108 RX6 yX6_goBack wsX6_goBack) := goodIn_app (goodIn_of _ (by decide +kernel)) ggL_law_X6_goBack
set_option maxRecDepth 20000 in
theorem ggL_law_X6_undo : GoodIn wsL_law wsX6_undo := goodIn_ca (goodIn_r _ [358, 353, 354, 16, 165, 25, 12, 292, 293, 294, 24, 295, 89, 359, 360, 361, 15, 362, 286, 48, 291, 249, 250, 11, 251, 252, 253, 31, 254, 255, 256, 257, 32, 36, 258, 259, 260, 261, 262, 263, 264, 35, 265, 40, 266, 41, 42, 97, 363, 364, 365, 366, 367, 377, 378, 381, 382, 383, 368, 369, 370, 371, 372, 373, 374, 375, 376, 384, 385, 386, 387] (by decide +kernel) (by decide +kernel)) (goodIn_sub (fun _ h => List.mem_append_right _ h) (by decide +kernel))
set_option maxRecDepth 20000 in
theorem gL_law_X6_undo : GoodIn wsL_law (wsV RL 111 RX6 yX6_undo wsX6_undo) := goodIn_app (goodIn_of _ (by decide +kernel)) ggL_law_X6_undo
theorem dL_law_0 : decode cL_law 0 = .ok (.new 10, 3) := by decide +kernel
theorem dL_law_3 : decode cL_law 3 = .ok (.dup, 1) := by decide +kernel
theorem dL_law_4 : decode cL_law 4 = .ok (.invokespecial 94, 3) := by decide +kernel
theorem dL_law_7 : decode cL_law 7 = .ok (.astore_n 1, 1) := by decide +kernel
theorem dL_law_8 : decode cL_law 8 = .ok (.aload_n 1, 1) := by decide +kernel
theorem dL_law_9 : decode cL_law 9 = .ok (.iconst 3, 1) := by decide +kernel
theorem dL_law_10 : decode cL_law 10 = .ok (.invokestatic 95, 3) := by decide +kernel
theorem dL_law_13 : decode cL_law 13 = .ok (.ifCond .eq 16, 3) := by decide +kernel
theorem dL_law_16 : decode cL_law 16 = .ok (.aload_n 1, 1) := by decide +kernel
theorem dL_law_17 : decode cL_law 17 = .ok (.bipush 10, 2) := by decide +kernel
theorem dL_law_19 : decode cL_law 19 = .ok (.invokevirtual 20, 3) := by decide +kernel
theorem dL_law_22 : decode cL_law 22 = .ok (.ifCond .ne 7, 3) := by decide +kernel
theorem dL_law_25 : decode cL_law 25 = .ok (.iconst 1, 1) := by decide +kernel
theorem dL_law_26 : decode cL_law 26 = .ok (.goto 4, 3) := by decide +kernel
theorem dL_law_29 : decode cL_law 29 = .ok (.iconst 0, 1) := by decide +kernel
theorem dL_law_30 : decode cL_law 30 = .ok (.istore_n 2, 1) := by decide +kernel
theorem dL_law_31 : decode cL_law 31 = .ok (.aload_n 0, 1) := by decide +kernel
theorem dL_law_32 : decode cL_law 32 = .ok (.arraylength, 1) := by decide +kernel
theorem dL_law_33 : decode cL_law 33 = .ok (.iconst 2, 1) := by decide +kernel
theorem dL_law_34 : decode cL_law 34 = .ok (.idiv, 1) := by decide +kernel
theorem dL_law_35 : decode cL_law 35 = .ok (.bipush 30, 2) := by decide +kernel
theorem dL_law_37 : decode cL_law 37 = .ok (.if_icmp .le 8, 3) := by decide +kernel
theorem dL_law_40 : decode cL_law 40 = .ok (.bipush 30, 2) := by decide +kernel
theorem dL_law_42 : decode cL_law 42 = .ok (.goto 7, 3) := by decide +kernel
theorem dL_law_45 : decode cL_law 45 = .ok (.aload_n 0, 1) := by decide +kernel
theorem dL_law_46 : decode cL_law 46 = .ok (.arraylength, 1) := by decide +kernel
theorem dL_law_47 : decode cL_law 47 = .ok (.iconst 2, 1) := by decide +kernel
theorem dL_law_48 : decode cL_law 48 = .ok (.idiv, 1) := by decide +kernel
theorem dL_law_49 : decode cL_law 49 = .ok (.istore_n 3, 1) := by decide +kernel
theorem dL_law_50 : decode cL_law 50 = .ok (.iconst 0, 1) := by decide +kernel
theorem dL_law_51 : decode cL_law 51 = .ok (.istore 4, 2) := by decide +kernel
theorem dL_law_53 : decode cL_law 53 = .ok (.iload 4, 2) := by decide +kernel
theorem dL_law_55 : decode cL_law 55 = .ok (.iload_n 3, 1) := by decide +kernel
theorem dL_law_56 : decode cL_law 56 = .ok (.if_icmp .ge 144, 3) := by decide +kernel
theorem dL_law_59 : decode cL_law 59 = .ok (.iload_n 2, 1) := by decide +kernel
theorem dL_law_60 : decode cL_law 60 = .ok (.ifCond .eq 140, 3) := by decide +kernel
theorem dL_law_63 : decode cL_law 63 = .ok (.aload_n 1, 1) := by decide +kernel
theorem dL_law_64 : decode cL_law 64 = .ok (.iconst 3, 1) := by decide +kernel
theorem dL_law_65 : decode cL_law 65 = .ok (.invokevirtual 20, 3) := by decide +kernel
theorem dL_law_68 : decode cL_law 68 = .ok (.istore 5, 2) := by decide +kernel
theorem dL_law_70 : decode cL_law 70 = .ok (.aload_n 1, 1) := by decide +kernel
theorem dL_law_71 : decode cL_law 71 = .ok (.invokestatic 51, 3) := by decide +kernel
theorem dL_law_74 : decode cL_law 74 = .ok (.istore 6, 2) := by decide +kernel
theorem dL_law_76 : decode cL_law 76 = .ok (.aload_n 1, 1) := by decide +kernel
theorem dL_law_77 : decode cL_law 77 = .ok (.iconst 0, 1) := by decide +kernel
theorem dL_law_78 : decode cL_law 78 = .ok (.invokevirtual 98, 3) := by decide +kernel
theorem dL_law_81 : decode cL_law 81 = .ok (.iload 5, 2) := by decide +kernel
theorem dL_law_83 : decode cL_law 83 = .ok (.if_icmp .ne 49, 3) := by decide +kernel
theorem dL_law_86 : decode cL_law 86 = .ok (.aload_n 1, 1) := by decide +kernel
theorem dL_law_87 : decode cL_law 87 = .ok (.aload_n 0, 1) := by decide +kernel
theorem dL_law_88 : decode cL_law 88 = .ok (.iconst 2, 1) := by decide +kernel
theorem dL_law_89 : decode cL_law 89 = .ok (.iload 4, 2) := by decide +kernel
theorem dL_law_91 : decode cL_law 91 = .ok (.imul, 1) := by decide +kernel
theorem dL_law_92 : decode cL_law 92 = .ok (.invokestatic 101, 3) := by decide +kernel
theorem dL_law_95 : decode cL_law 95 = .ok (.aload_n 0, 1) := by decide +kernel
theorem dL_law_96 : decode cL_law 96 = .ok (.iconst 2, 1) := by decide +kernel
theorem dL_law_97 : decode cL_law 97 = .ok (.iload 4, 2) := by decide +kernel
theorem dL_law_99 : decode cL_law 99 = .ok (.imul, 1) := by decide +kernel
theorem dL_law_100 : decode cL_law 100 = .ok (.iconst 1, 1) := by decide +kernel
theorem dL_law_101 : decode cL_law 101 = .ok (.iadd, 1) := by decide +kernel
theorem dL_law_102 : decode cL_law 102 = .ok (.invokestatic 101, 3) := by decide +kernel
theorem dL_law_105 : decode cL_law 105 = .ok (.invokestatic 105, 3) := by decide +kernel
theorem dL_law_108 : decode cL_law 108 = .ok (.ifCond .eq 24, 3) := by decide +kernel
theorem dL_law_111 : decode cL_law 111 = .ok (.aload_n 1, 1) := by decide +kernel
theorem dL_law_112 : decode cL_law 112 = .ok (.aload_n 0, 1) := by decide +kernel
theorem dL_law_113 : decode cL_law 113 = .ok (.iconst 2, 1) := by decide +kernel
theorem dL_law_114 : decode cL_law 114 = .ok (.iload 4, 2) := by decide +kernel
theorem dL_law_116 : decode cL_law 116 = .ok (.imul, 1) := by decide +kernel
theorem dL_law_117 : decode cL_law 117 = .ok (.iconst 1, 1) := by decide +kernel
theorem dL_law_118 : decode cL_law 118 = .ok (.iadd, 1) := by decide +kernel
theorem dL_law_119 : decode cL_law 119 = .ok (.invokestatic 101, 3) := by decide +kernel
theorem dL_law_122 : decode cL_law 122 = .ok (.invokestatic 95, 3) := by decide +kernel
theorem dL_law_125 : decode cL_law 125 = .ok (.ifCond .eq 7, 3) := by decide +kernel
theorem dL_law_128 : decode cL_law 128 = .ok (.iconst 1, 1) := by decide +kernel
theorem dL_law_129 : decode cL_law 129 = .ok (.goto 4, 3) := by decide +kernel
theorem dL_law_132 : decode cL_law 132 = .ok (.iconst 0, 1) := by decide +kernel
theorem dL_law_133 : decode cL_law 133 = .ok (.istore_n 2, 1) := by decide +kernel
theorem dL_law_134 : decode cL_law 134 = .ok (.iload_n 2, 1) := by decide +kernel
theorem dL_law_135 : decode cL_law 135 = .ok (.ifCond .eq 59, 3) := by decide +kernel
theorem dL_law_138 : decode cL_law 138 = .ok (.iload 4, 2) := by decide +kernel
theorem dL_law_140 : decode cL_law 140 = .ok (.bipush 6, 2) := by decide +kernel
theorem dL_law_142 : decode cL_law 142 = .ok (.irem, 1) := by decide +kernel
theorem dL_law_143 : decode cL_law 143 = .ok (.iconst 5, 1) := by decide +kernel
theorem dL_law_144 : decode cL_law 144 = .ok (.if_icmp .ne 50, 3) := by decide +kernel
theorem dL_law_147 : decode cL_law 147 = .ok (.aload_n 1, 1) := by decide +kernel
theorem dL_law_148 : decode cL_law 148 = .ok (.invokestatic 51, 3) := by decide +kernel
theorem dL_law_151 : decode cL_law 151 = .ok (.istore 7, 2) := by decide +kernel
theorem dL_law_153 : decode cL_law 153 = .ok (.aload_n 1, 1) := by decide +kernel
theorem dL_law_154 : decode cL_law 154 = .ok (.iconst 0, 1) := by decide +kernel
theorem dL_law_155 : decode cL_law 155 = .ok (.invokevirtual 108, 3) := by decide +kernel
theorem dL_law_158 : decode cL_law 158 = .ok (.iload 5, 2) := by decide +kernel
theorem dL_law_160 : decode cL_law 160 = .ok (.if_icmp .ne 32, 3) := by decide +kernel
theorem dL_law_163 : decode cL_law 163 = .ok (.aload_n 1, 1) := by decide +kernel
theorem dL_law_164 : decode cL_law 164 = .ok (.invokestatic 51, 3) := by decide +kernel
theorem dL_law_167 : decode cL_law 167 = .ok (.iload 6, 2) := by decide +kernel
theorem dL_law_169 : decode cL_law 169 = .ok (.if_icmp .ne 23, 3) := by decide +kernel
theorem dL_law_172 : decode cL_law 172 = .ok (.aload_n 1, 1) := by decide +kernel
theorem dL_law_173 : decode cL_law 173 = .ok (.invokevirtual 111, 3) := by decide +kernel
theorem dL_law_176 : decode cL_law 176 = .ok (.ifCond .lt 16, 3) := by decide +kernel
theorem dL_law_179 : decode cL_law 179 = .ok (.aload_n 1, 1) := by decide +kernel
theorem dL_law_180 : decode cL_law 180 = .ok (.invokestatic 51, 3) := by decide +kernel
theorem dL_law_183 : decode cL_law 183 = .ok (.iload 7, 2) := by decide +kernel
theorem dL_law_185 : decode cL_law 185 = .ok (.if_icmp .ne 7, 3) := by decide +kernel
theorem dL_law_188 : decode cL_law 188 = .ok (.iconst 1, 1) := by decide +kernel
theorem dL_law_189 : decode cL_law 189 = .ok (.goto 4, 3) := by decide +kernel
theorem dL_law_192 : decode cL_law 192 = .ok (.iconst 0, 1) := by decide +kernel
theorem dL_law_193 : decode cL_law 193 = .ok (.istore_n 2, 1) := by decide +kernel
theorem dL_law_194 : decode cL_law 194 = .ok (.iinc 4 1, 3) := by decide +kernel
theorem dL_law_197 : decode cL_law 197 = .ok (.goto (-144), 3) := by decide +kernel
theorem dL_law_200 : decode cL_law 200 = .ok (.iload_n 2, 1) := by decide +kernel
theorem dL_law_201 : decode cL_law 201 = .ok (.ireturn, 1) := by decide +kernel
