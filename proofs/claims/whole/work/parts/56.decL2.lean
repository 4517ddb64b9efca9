theorem d_L_law_326 : decode code 326 = .ok (.iload 4, 2) := by decide +kernel
theorem d_L_law_328 : decode code 328 = .ok (.iconst 2, 1) := by decide +kernel
theorem d_L_law_329 : decode code 329 = .ok (.iadd, 1) := by decide +kernel
theorem d_L_law_330 : decode code 330 = .ok (.iaload, 1) := by decide +kernel
theorem d_L_law_331 : decode code 331 = .ok (.i2l, 1) := by decide +kernel
theorem d_L_law_332 : decode code 332 = .ok (.bipush 32, 2) := by decide +kernel
theorem d_L_law_334 : decode code 334 = .ok (.lshl, 1) := by decide +kernel
theorem d_L_law_335 : decode code 335 = .ok (.aload_n 0, 1) := by decide +kernel
theorem d_L_law_336 : decode code 336 = .ok (.iload 4, 2) := by decide +kernel
theorem d_L_law_338 : decode code 338 = .ok (.iconst 3, 1) := by decide +kernel
theorem d_L_law_339 : decode code 339 = .ok (.iadd, 1) := by decide +kernel
theorem d_L_law_340 : decode code 340 = .ok (.iaload, 1) := by decide +kernel
theorem d_L_law_341 : decode code 341 = .ok (.i2l, 1) := by decide +kernel
theorem d_L_law_342 : decode code 342 = .ok (.ldc2_w 108, 3) := by decide +kernel
theorem d_L_law_345 : decode code 345 = .ok (.land, 1) := by decide +kernel
theorem d_L_law_346 : decode code 346 = .ok (.lor, 1) := by decide +kernel
theorem d_L_law_347 : decode code 347 = .ok (.invokevirtual 113, 3) := by decide +kernel
theorem d_L_law_350 : decode code 350 = .ok (.aload_n 2, 1) := by decide +kernel
theorem d_L_law_351 : decode code 351 = .ok (.invokevirtual 100, 3) := by decide +kernel
theorem d_L_law_354 : decode code 354 = .ok (.iload 5, 2) := by decide +kernel
theorem d_L_law_356 : decode code 356 = .ok (.if_icmp .eq 5, 3) := by decide +kernel
theorem d_L_law_359 : decode code 359 = .ok (.iconst 0, 1) := by decide +kernel
theorem d_L_law_360 : decode code 360 = .ok (.ireturn, 1) := by decide +kernel
theorem d_L_law_361 : decode code 361 = .ok (.goto 1150, 3) := by decide +kernel
theorem d_L_law_364 : decode code 364 = .ok (.aload_n 1, 1) := by decide +kernel
theorem d_L_law_365 : decode code 365 = .ok (.aload_n 0, 1) := by decide +kernel
theorem d_L_law_366 : decode code 366 = .ok (.iload 4, 2) := by decide +kernel
theorem d_L_law_368 : decode code 368 = .ok (.iconst 1, 1) := by decide +kernel
theorem d_L_law_369 : decode code 369 = .ok (.iadd, 1) := by decide +kernel
theorem d_L_law_370 : decode code 370 = .ok (.iaload, 1) := by decide +kernel
theorem d_L_law_371 : decode code 371 = .ok (.aload_n 0, 1) := by decide +kernel
theorem d_L_law_372 : decode code 372 = .ok (.iload 4, 2) := by decide +kernel
theorem d_L_law_374 : decode code 374 = .ok (.iconst 2, 1) := by decide +kernel
theorem d_L_law_375 : decode code 375 = .ok (.iadd, 1) := by decide +kernel
theorem d_L_law_376 : decode code 376 = .ok (.iaload, 1) := by decide +kernel
theorem d_L_law_377 : decode code 377 = .ok (.aload_n 0, 1) := by decide +kernel
theorem d_L_law_378 : decode code 378 = .ok (.iload 4, 2) := by decide +kernel
theorem d_L_law_380 : decode code 380 = .ok (.iconst 3, 1) := by decide +kernel
theorem d_L_law_381 : decode code 381 = .ok (.iadd, 1) := by decide +kernel
theorem d_L_law_382 : decode code 382 = .ok (.iaload, 1) := by decide +kernel
theorem d_L_law_383 : decode code 383 = .ok (.aload_n 0, 1) := by decide +kernel
theorem d_L_law_384 : decode code 384 = .ok (.iload 4, 2) := by decide +kernel
theorem d_L_law_386 : decode code 386 = .ok (.iconst 4, 1) := by decide +kernel
theorem d_L_law_387 : decode code 387 = .ok (.iadd, 1) := by decide +kernel
theorem d_L_law_388 : decode code 388 = .ok (.iaload, 1) := by decide +kernel
theorem d_L_law_389 : decode code 389 = .ok (.aload_n 3, 1) := by decide +kernel
theorem d_L_law_390 : decode code 390 = .ok (.invokestatic 114, 3) := by decide +kernel
theorem d_L_law_393 : decode code 393 = .ok (.istore 5, 2) := by decide +kernel
theorem d_L_law_395 : decode code 395 = .ok (.aload_n 2, 1) := by decide +kernel
theorem d_L_law_396 : decode code 396 = .ok (.aload_n 0, 1) := by decide +kernel
theorem d_L_law_397 : decode code 397 = .ok (.iload 4, 2) := by decide +kernel
theorem d_L_law_399 : decode code 399 = .ok (.iconst 1, 1) := by decide +kernel
theorem d_L_law_400 : decode code 400 = .ok (.iadd, 1) := by decide +kernel
theorem d_L_law_401 : decode code 401 = .ok (.iaload, 1) := by decide +kernel
theorem d_L_law_402 : decode code 402 = .ok (.aload_n 0, 1) := by decide +kernel
theorem d_L_law_403 : decode code 403 = .ok (.iload 4, 2) := by decide +kernel
theorem d_L_law_405 : decode code 405 = .ok (.iconst 2, 1) := by decide +kernel
theorem d_L_law_406 : decode code 406 = .ok (.iadd, 1) := by decide +kernel
theorem d_L_law_407 : decode code 407 = .ok (.iaload, 1) := by decide +kernel
theorem d_L_law_408 : decode code 408 = .ok (.aload_n 0, 1) := by decide +kernel
theorem d_L_law_409 : decode code 409 = .ok (.iload 4, 2) := by decide +kernel
theorem d_L_law_411 : decode code 411 = .ok (.iconst 3, 1) := by decide +kernel
theorem d_L_law_412 : decode code 412 = .ok (.iadd, 1) := by decide +kernel
theorem d_L_law_413 : decode code 413 = .ok (.iaload, 1) := by decide +kernel
theorem d_L_law_414 : decode code 414 = .ok (.aload_n 0, 1) := by decide +kernel
theorem d_L_law_415 : decode code 415 = .ok (.iload 4, 2) := by decide +kernel
theorem d_L_law_417 : decode code 417 = .ok (.iconst 4, 1) := by decide +kernel
theorem d_L_law_418 : decode code 418 = .ok (.iadd, 1) := by decide +kernel
theorem d_L_law_419 : decode code 419 = .ok (.iaload, 1) := by decide +kernel
theorem d_L_law_420 : decode code 420 = .ok (.invokevirtual 117, 3) := by decide +kernel
theorem d_L_law_423 : decode code 423 = .ok (.istore 6, 2) := by decide +kernel
theorem d_L_law_425 : decode code 425 = .ok (.aload_n 2, 1) := by decide +kernel
theorem d_L_law_426 : decode code 426 = .ok (.invokevirtual 100, 3) := by decide +kernel
theorem d_L_law_429 : decode code 429 = .ok (.iload 5, 2) := by decide +kernel
theorem d_L_law_431 : decode code 431 = .ok (.if_icmp .eq 5, 3) := by decide +kernel
theorem d_L_law_434 : decode code 434 = .ok (.iconst 0, 1) := by decide +kernel
theorem d_L_law_435 : decode code 435 = .ok (.ireturn, 1) := by decide +kernel
theorem d_L_law_436 : decode code 436 = .ok (.iload 5, 2) := by decide +kernel
theorem d_L_law_438 : decode code 438 = .ok (.ifCond .ne 22, 3) := by decide +kernel
theorem d_L_law_441 : decode code 441 = .ok (.aload_n 3, 1) := by decide +kernel
theorem d_L_law_442 : decode code 442 = .ok (.iconst 0, 1) := by decide +kernel
theorem d_L_law_443 : decode code 443 = .ok (.laload, 1) := by decide +kernel
theorem d_L_law_444 : decode code 444 = .ok (.iload 6, 2) := by decide +kernel
theorem d_L_law_446 : decode code 446 = .ok (.ifCond .eq 7, 3) := by decide +kernel
theorem d_L_law_449 : decode code 449 = .ok (.lconst 1, 1) := by decide +kernel
theorem d_L_law_450 : decode code 450 = .ok (.goto 4, 3) := by decide +kernel
theorem d_L_law_453 : decode code 453 = .ok (.lconst 0, 1) := by decide +kernel
theorem d_L_law_454 : decode code 454 = .ok (.lcmp, 1) := by decide +kernel
theorem d_L_law_455 : decode code 455 = .ok (.ifCond .eq 5, 3) := by decide +kernel
theorem d_L_law_458 : decode code 458 = .ok (.iconst 0, 1) := by decide +kernel
theorem d_L_law_459 : decode code 459 = .ok (.ireturn, 1) := by decide +kernel
theorem d_L_law_460 : decode code 460 = .ok (.goto 1051, 3) := by decide +kernel
theorem d_L_law_463 : decode code 463 = .ok (.aload_n 1, 1) := by decide +kernel
theorem d_L_law_464 : decode code 464 = .ok (.aload_n 0, 1) := by decide +kernel
theorem d_L_law_465 : decode code 465 = .ok (.iload 4, 2) := by decide +kernel
theorem d_L_law_467 : decode code 467 = .ok (.iconst 1, 1) := by decide +kernel
theorem d_L_law_468 : decode code 468 = .ok (.iadd, 1) := by decide +kernel
theorem d_L_law_469 : decode code 469 = .ok (.iaload, 1) := by decide +kernel
theorem d_L_law_470 : decode code 470 = .ok (.aload_n 0, 1) := by decide +kernel
theorem d_L_law_471 : decode code 471 = .ok (.iload 4, 2) := by decide +kernel
theorem d_L_law_473 : decode code 473 = .ok (.iconst 2, 1) := by decide +kernel
theorem d_L_law_474 : decode code 474 = .ok (.iadd, 1) := by decide +kernel
theorem d_L_law_475 : decode code 475 = .ok (.iaload, 1) := by decide +kernel
theorem d_L_law_476 : decode code 476 = .ok (.aload_n 3, 1) := by decide +kernel
theorem d_L_law_477 : decode code 477 = .ok (.invokestatic 118, 3) := by decide +kernel
theorem d_L_law_480 : decode code 480 = .ok (.istore 5, 2) := by decide +kernel
theorem d_L_law_482 : decode code 482 = .ok (.aload_n 2, 1) := by decide +kernel
theorem d_L_law_483 : decode code 483 = .ok (.aload_n 0, 1) := by decide +kernel
theorem d_L_law_484 : decode code 484 = .ok (.iload 4, 2) := by decide +kernel
theorem d_L_law_486 : decode code 486 = .ok (.iconst 1, 1) := by decide +kernel
theorem d_L_law_487 : decode code 487 = .ok (.iadd, 1) := by decide +kernel
theorem d_L_law_488 : decode code 488 = .ok (.iaload, 1) := by decide +kernel
theorem d_L_law_489 : decode code 489 = .ok (.aload_n 0, 1) := by decide +kernel
theorem d_L_law_490 : decode code 490 = .ok (.iload 4, 2) := by decide +kernel
theorem d_L_law_492 : decode code 492 = .ok (.iconst 2, 1) := by decide +kernel
theorem d_L_law_493 : decode code 493 = .ok (.iadd, 1) := by decide +kernel
theorem d_L_law_494 : decode code 494 = .ok (.iaload, 1) := by decide +kernel
theorem d_L_law_495 : decode code 495 = .ok (.invokevirtual 121, 3) := by decide +kernel
theorem d_L_law_498 : decode code 498 = .ok (.istore 6, 2) := by decide +kernel
theorem d_L_law_500 : decode code 500 = .ok (.aload_n 2, 1) := by decide +kernel
theorem d_L_law_501 : decode code 501 = .ok (.invokevirtual 100, 3) := by decide +kernel
theorem d_L_law_504 : decode code 504 = .ok (.iload 5, 2) := by decide +kernel
theorem d_L_law_506 : decode code 506 = .ok (.if_icmp .eq 5, 3) := by decide +kernel
theorem d_L_law_509 : decode code 509 = .ok (.iconst 0, 1) := by decide +kernel
theorem d_L_law_510 : decode code 510 = .ok (.ireturn, 1) := by decide +kernel
theorem d_L_law_511 : decode code 511 = .ok (.iload 5, 2) := by decide +kernel
theorem d_L_law_513 : decode code 513 = .ok (.ifCond .ne 22, 3) := by decide +kernel
theorem d_L_law_516 : decode code 516 = .ok (.aload_n 3, 1) := by decide +kernel
theorem d_L_law_517 : decode code 517 = .ok (.iconst 0, 1) := by decide +kernel
theorem d_L_law_518 : decode code 518 = .ok (.laload, 1) := by decide +kernel
theorem d_L_law_519 : decode code 519 = .ok (.iload 6, 2) := by decide +kernel
theorem d_L_law_521 : decode code 521 = .ok (.ifCond .eq 7, 3) := by decide +kernel
theorem d_L_law_524 : decode code 524 = .ok (.lconst 1, 1) := by decide +kernel
theorem d_L_law_525 : decode code 525 = .ok (.goto 4, 3) := by decide +kernel
theorem d_L_law_528 : decode code 528 = .ok (.lconst 0, 1) := by decide +kernel
theorem d_L_law_529 : decode code 529 = .ok (.lcmp, 1) := by decide +kernel
theorem d_L_law_530 : decode code 530 = .ok (.ifCond .eq 5, 3) := by decide +kernel
theorem d_L_law_533 : decode code 533 = .ok (.iconst 0, 1) := by decide +kernel
theorem d_L_law_534 : decode code 534 = .ok (.ireturn, 1) := by decide +kernel
theorem d_L_law_535 : decode code 535 = .ok (.goto 976, 3) := by decide +kernel
theorem d_L_law_538 : decode code 538 = .ok (.aload_n 1, 1) := by decide +kernel
theorem d_L_law_539 : decode code 539 = .ok (.aload_n 0, 1) := by decide +kernel
theorem d_L_law_540 : decode code 540 = .ok (.iload 4, 2) := by decide +kernel
theorem d_L_law_542 : decode code 542 = .ok (.iconst 1, 1) := by decide +kernel
theorem d_L_law_543 : decode code 543 = .ok (.iadd, 1) := by decide +kernel
theorem d_L_law_544 : decode code 544 = .ok (.iaload, 1) := by decide +kernel
theorem d_L_law_545 : decode code 545 = .ok (.aload_n 0, 1) := by decide +kernel
theorem d_L_law_546 : decode code 546 = .ok (.iload 4, 2) := by decide +kernel
theorem d_L_law_548 : decode code 548 = .ok (.iconst 2, 1) := by decide +kernel
theorem d_L_law_549 : decode code 549 = .ok (.iadd, 1) := by decide +kernel
theorem d_L_law_550 : decode code 550 = .ok (.iaload, 1) := by decide +kernel
theorem d_L_law_551 : decode code 551 = .ok (.aload_n 3, 1) := by decide +kernel
theorem d_L_law_552 : decode code 552 = .ok (.invokestatic 122, 3) := by decide +kernel
theorem d_L_law_555 : decode code 555 = .ok (.istore 5, 2) := by decide +kernel
theorem d_L_law_557 : decode code 557 = .ok (.aload_n 2, 1) := by decide +kernel
theorem d_L_law_558 : decode code 558 = .ok (.aload_n 0, 1) := by decide +kernel
theorem d_L_law_559 : decode code 559 = .ok (.iload 4, 2) := by decide +kernel
theorem d_L_law_561 : decode code 561 = .ok (.iconst 1, 1) := by decide +kernel
theorem d_L_law_562 : decode code 562 = .ok (.iadd, 1) := by decide +kernel
theorem d_L_law_563 : decode code 563 = .ok (.iaload, 1) := by decide +kernel
