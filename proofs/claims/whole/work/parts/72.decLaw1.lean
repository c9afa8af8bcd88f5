theorem d_Lw_law_328 : decode code 328 = .ok (.iload 4, 2) := by decide +kernel
theorem d_Lw_law_330 : decode code 330 = .ok (.iconst 2, 1) := by decide +kernel
theorem d_Lw_law_331 : decode code 331 = .ok (.iadd, 1) := by decide +kernel
theorem d_Lw_law_332 : decode code 332 = .ok (.iaload, 1) := by decide +kernel
theorem d_Lw_law_333 : decode code 333 = .ok (.aload_n 0, 1) := by decide +kernel
theorem d_Lw_law_334 : decode code 334 = .ok (.iload 4, 2) := by decide +kernel
theorem d_Lw_law_336 : decode code 336 = .ok (.iconst 3, 1) := by decide +kernel
theorem d_Lw_law_337 : decode code 337 = .ok (.iadd, 1) := by decide +kernel
theorem d_Lw_law_338 : decode code 338 = .ok (.iaload, 1) := by decide +kernel
theorem d_Lw_law_339 : decode code 339 = .ok (.aload_n 3, 1) := by decide +kernel
theorem d_Lw_law_340 : decode code 340 = .ok (.invokestatic 104, 3) := by decide +kernel
theorem d_Lw_law_343 : decode code 343 = .ok (.istore 5, 2) := by decide +kernel
theorem d_Lw_law_345 : decode code 345 = .ok (.aload_n 2, 1) := by decide +kernel
theorem d_Lw_law_346 : decode code 346 = .ok (.aload_n 0, 1) := by decide +kernel
theorem d_Lw_law_347 : decode code 347 = .ok (.iload 4, 2) := by decide +kernel
theorem d_Lw_law_349 : decode code 349 = .ok (.iconst 1, 1) := by decide +kernel
theorem d_Lw_law_350 : decode code 350 = .ok (.iadd, 1) := by decide +kernel
theorem d_Lw_law_351 : decode code 351 = .ok (.iaload, 1) := by decide +kernel
theorem d_Lw_law_352 : decode code 352 = .ok (.aload_n 0, 1) := by decide +kernel
theorem d_Lw_law_353 : decode code 353 = .ok (.iload 4, 2) := by decide +kernel
theorem d_Lw_law_355 : decode code 355 = .ok (.iconst 2, 1) := by decide +kernel
theorem d_Lw_law_356 : decode code 356 = .ok (.iadd, 1) := by decide +kernel
theorem d_Lw_law_357 : decode code 357 = .ok (.iaload, 1) := by decide +kernel
theorem d_Lw_law_358 : decode code 358 = .ok (.aload_n 0, 1) := by decide +kernel
theorem d_Lw_law_359 : decode code 359 = .ok (.iload 4, 2) := by decide +kernel
theorem d_Lw_law_361 : decode code 361 = .ok (.iconst 3, 1) := by decide +kernel
theorem d_Lw_law_362 : decode code 362 = .ok (.iadd, 1) := by decide +kernel
theorem d_Lw_law_363 : decode code 363 = .ok (.iaload, 1) := by decide +kernel
theorem d_Lw_law_364 : decode code 364 = .ok (.invokevirtual 106, 3) := by decide +kernel
theorem d_Lw_law_367 : decode code 367 = .ok (.istore 6, 2) := by decide +kernel
theorem d_Lw_law_369 : decode code 369 = .ok (.aload_n 2, 1) := by decide +kernel
theorem d_Lw_law_370 : decode code 370 = .ok (.invokevirtual 96, 3) := by decide +kernel
theorem d_Lw_law_373 : decode code 373 = .ok (.iload 5, 2) := by decide +kernel
theorem d_Lw_law_375 : decode code 375 = .ok (.if_icmp .eq 5, 3) := by decide +kernel
theorem d_Lw_law_378 : decode code 378 = .ok (.iconst 0, 1) := by decide +kernel
theorem d_Lw_law_379 : decode code 379 = .ok (.ireturn, 1) := by decide +kernel
theorem d_Lw_law_380 : decode code 380 = .ok (.iload 5, 2) := by decide +kernel
theorem d_Lw_law_382 : decode code 382 = .ok (.ifCond .ne 15, 3) := by decide +kernel
theorem d_Lw_law_385 : decode code 385 = .ok (.aload_n 3, 1) := by decide +kernel
theorem d_Lw_law_386 : decode code 386 = .ok (.iconst 0, 1) := by decide +kernel
theorem d_Lw_law_387 : decode code 387 = .ok (.laload, 1) := by decide +kernel
theorem d_Lw_law_388 : decode code 388 = .ok (.iload 6, 2) := by decide +kernel
theorem d_Lw_law_390 : decode code 390 = .ok (.i2l, 1) := by decide +kernel
theorem d_Lw_law_391 : decode code 391 = .ok (.lcmp, 1) := by decide +kernel
theorem d_Lw_law_392 : decode code 392 = .ok (.ifCond .eq 5, 3) := by decide +kernel
theorem d_Lw_law_395 : decode code 395 = .ok (.iconst 0, 1) := by decide +kernel
theorem d_Lw_law_396 : decode code 396 = .ok (.ireturn, 1) := by decide +kernel
theorem d_Lw_law_397 : decode code 397 = .ok (.goto 1136, 3) := by decide +kernel
theorem d_Lw_law_400 : decode code 400 = .ok (.aload_n 1, 1) := by decide +kernel
theorem d_Lw_law_401 : decode code 401 = .ok (.aload_n 0, 1) := by decide +kernel
theorem d_Lw_law_402 : decode code 402 = .ok (.iload 4, 2) := by decide +kernel
theorem d_Lw_law_404 : decode code 404 = .ok (.iconst 1, 1) := by decide +kernel
theorem d_Lw_law_405 : decode code 405 = .ok (.iadd, 1) := by decide +kernel
theorem d_Lw_law_406 : decode code 406 = .ok (.iaload, 1) := by decide +kernel
theorem d_Lw_law_407 : decode code 407 = .ok (.invokestatic 107, 3) := by decide +kernel
theorem d_Lw_law_410 : decode code 410 = .ok (.istore 5, 2) := by decide +kernel
theorem d_Lw_law_412 : decode code 412 = .ok (.aload_n 2, 1) := by decide +kernel
theorem d_Lw_law_413 : decode code 413 = .ok (.aload_n 0, 1) := by decide +kernel
theorem d_Lw_law_414 : decode code 414 = .ok (.iload 4, 2) := by decide +kernel
theorem d_Lw_law_416 : decode code 416 = .ok (.iconst 1, 1) := by decide +kernel
theorem d_Lw_law_417 : decode code 417 = .ok (.iadd, 1) := by decide +kernel
theorem d_Lw_law_418 : decode code 418 = .ok (.iaload, 1) := by decide +kernel
theorem d_Lw_law_419 : decode code 419 = .ok (.invokevirtual 110, 3) := by decide +kernel
theorem d_Lw_law_422 : decode code 422 = .ok (.aload_n 2, 1) := by decide +kernel
theorem d_Lw_law_423 : decode code 423 = .ok (.invokevirtual 96, 3) := by decide +kernel
theorem d_Lw_law_426 : decode code 426 = .ok (.iload 5, 2) := by decide +kernel
theorem d_Lw_law_428 : decode code 428 = .ok (.if_icmp .eq 5, 3) := by decide +kernel
theorem d_Lw_law_431 : decode code 431 = .ok (.iconst 0, 1) := by decide +kernel
theorem d_Lw_law_432 : decode code 432 = .ok (.ireturn, 1) := by decide +kernel
theorem d_Lw_law_433 : decode code 433 = .ok (.goto 1100, 3) := by decide +kernel
theorem d_Lw_law_436 : decode code 436 = .ok (.aload_n 1, 1) := by decide +kernel
theorem d_Lw_law_437 : decode code 437 = .ok (.aload_n 0, 1) := by decide +kernel
theorem d_Lw_law_438 : decode code 438 = .ok (.iload 4, 2) := by decide +kernel
theorem d_Lw_law_440 : decode code 440 = .ok (.iconst 1, 1) := by decide +kernel
theorem d_Lw_law_441 : decode code 441 = .ok (.iadd, 1) := by decide +kernel
theorem d_Lw_law_442 : decode code 442 = .ok (.iaload, 1) := by decide +kernel
theorem d_Lw_law_443 : decode code 443 = .ok (.aload_n 3, 1) := by decide +kernel
theorem d_Lw_law_444 : decode code 444 = .ok (.invokestatic 111, 3) := by decide +kernel
theorem d_Lw_law_447 : decode code 447 = .ok (.istore 5, 2) := by decide +kernel
theorem d_Lw_law_449 : decode code 449 = .ok (.aload_n 2, 1) := by decide +kernel
theorem d_Lw_law_450 : decode code 450 = .ok (.aload_n 0, 1) := by decide +kernel
theorem d_Lw_law_451 : decode code 451 = .ok (.iload 4, 2) := by decide +kernel
theorem d_Lw_law_453 : decode code 453 = .ok (.iconst 1, 1) := by decide +kernel
theorem d_Lw_law_454 : decode code 454 = .ok (.iadd, 1) := by decide +kernel
theorem d_Lw_law_455 : decode code 455 = .ok (.iaload, 1) := by decide +kernel
theorem d_Lw_law_456 : decode code 456 = .ok (.invokevirtual 114, 3) := by decide +kernel
theorem d_Lw_law_459 : decode code 459 = .ok (.istore 6, 2) := by decide +kernel
theorem d_Lw_law_461 : decode code 461 = .ok (.aload_n 2, 1) := by decide +kernel
theorem d_Lw_law_462 : decode code 462 = .ok (.invokevirtual 96, 3) := by decide +kernel
theorem d_Lw_law_465 : decode code 465 = .ok (.iload 5, 2) := by decide +kernel
theorem d_Lw_law_467 : decode code 467 = .ok (.if_icmp .eq 5, 3) := by decide +kernel
theorem d_Lw_law_470 : decode code 470 = .ok (.iconst 0, 1) := by decide +kernel
theorem d_Lw_law_471 : decode code 471 = .ok (.ireturn, 1) := by decide +kernel
theorem d_Lw_law_472 : decode code 472 = .ok (.iload 5, 2) := by decide +kernel
theorem d_Lw_law_474 : decode code 474 = .ok (.ifCond .ne 15, 3) := by decide +kernel
theorem d_Lw_law_477 : decode code 477 = .ok (.aload_n 3, 1) := by decide +kernel
theorem d_Lw_law_478 : decode code 478 = .ok (.iconst 0, 1) := by decide +kernel
theorem d_Lw_law_479 : decode code 479 = .ok (.laload, 1) := by decide +kernel
theorem d_Lw_law_480 : decode code 480 = .ok (.iload 6, 2) := by decide +kernel
theorem d_Lw_law_482 : decode code 482 = .ok (.i2l, 1) := by decide +kernel
theorem d_Lw_law_483 : decode code 483 = .ok (.lcmp, 1) := by decide +kernel
theorem d_Lw_law_484 : decode code 484 = .ok (.ifCond .eq 5, 3) := by decide +kernel
theorem d_Lw_law_487 : decode code 487 = .ok (.iconst 0, 1) := by decide +kernel
theorem d_Lw_law_488 : decode code 488 = .ok (.ireturn, 1) := by decide +kernel
theorem d_Lw_law_489 : decode code 489 = .ok (.goto 1044, 3) := by decide +kernel
theorem d_Lw_law_492 : decode code 492 = .ok (.aload_n 1, 1) := by decide +kernel
theorem d_Lw_law_493 : decode code 493 = .ok (.aload_n 0, 1) := by decide +kernel
theorem d_Lw_law_494 : decode code 494 = .ok (.iload 4, 2) := by decide +kernel
theorem d_Lw_law_496 : decode code 496 = .ok (.iconst 1, 1) := by decide +kernel
theorem d_Lw_law_497 : decode code 497 = .ok (.iadd, 1) := by decide +kernel
theorem d_Lw_law_498 : decode code 498 = .ok (.iaload, 1) := by decide +kernel
theorem d_Lw_law_499 : decode code 499 = .ok (.aload_n 3, 1) := by decide +kernel
theorem d_Lw_law_500 : decode code 500 = .ok (.invokestatic 115, 3) := by decide +kernel
theorem d_Lw_law_503 : decode code 503 = .ok (.istore 5, 2) := by decide +kernel
theorem d_Lw_law_505 : decode code 505 = .ok (.aload_n 2, 1) := by decide +kernel
theorem d_Lw_law_506 : decode code 506 = .ok (.aload_n 0, 1) := by decide +kernel
theorem d_Lw_law_507 : decode code 507 = .ok (.iload 4, 2) := by decide +kernel
theorem d_Lw_law_509 : decode code 509 = .ok (.iconst 1, 1) := by decide +kernel
theorem d_Lw_law_510 : decode code 510 = .ok (.iadd, 1) := by decide +kernel
theorem d_Lw_law_511 : decode code 511 = .ok (.iaload, 1) := by decide +kernel
theorem d_Lw_law_512 : decode code 512 = .ok (.invokevirtual 117, 3) := by decide +kernel
theorem d_Lw_law_515 : decode code 515 = .ok (.istore 6, 2) := by decide +kernel
theorem d_Lw_law_517 : decode code 517 = .ok (.aload_n 2, 1) := by decide +kernel
theorem d_Lw_law_518 : decode code 518 = .ok (.invokevirtual 96, 3) := by decide +kernel
theorem d_Lw_law_521 : decode code 521 = .ok (.iload 5, 2) := by decide +kernel
theorem d_Lw_law_523 : decode code 523 = .ok (.if_icmp .eq 5, 3) := by decide +kernel
theorem d_Lw_law_526 : decode code 526 = .ok (.iconst 0, 1) := by decide +kernel
theorem d_Lw_law_527 : decode code 527 = .ok (.ireturn, 1) := by decide +kernel
theorem d_Lw_law_528 : decode code 528 = .ok (.iload 5, 2) := by decide +kernel
theorem d_Lw_law_530 : decode code 530 = .ok (.ifCond .ne 15, 3) := by decide +kernel
theorem d_Lw_law_533 : decode code 533 = .ok (.aload_n 3, 1) := by decide +kernel
theorem d_Lw_law_534 : decode code 534 = .ok (.iconst 0, 1) := by decide +kernel
theorem d_Lw_law_535 : decode code 535 = .ok (.laload, 1) := by decide +kernel
theorem d_Lw_law_536 : decode code 536 = .ok (.iload 6, 2) := by decide +kernel
theorem d_Lw_law_538 : decode code 538 = .ok (.i2l, 1) := by decide +kernel
theorem d_Lw_law_539 : decode code 539 = .ok (.lcmp, 1) := by decide +kernel
theorem d_Lw_law_540 : decode code 540 = .ok (.ifCond .eq 5, 3) := by decide +kernel
theorem d_Lw_law_543 : decode code 543 = .ok (.iconst 0, 1) := by decide +kernel
theorem d_Lw_law_544 : decode code 544 = .ok (.ireturn, 1) := by decide +kernel
theorem d_Lw_law_545 : decode code 545 = .ok (.goto 988, 3) := by decide +kernel
theorem d_Lw_law_548 : decode code 548 = .ok (.aload_n 1, 1) := by decide +kernel
theorem d_Lw_law_549 : decode code 549 = .ok (.aload_n 0, 1) := by decide +kernel
theorem d_Lw_law_550 : decode code 550 = .ok (.iload 4, 2) := by decide +kernel
theorem d_Lw_law_552 : decode code 552 = .ok (.iconst 1, 1) := by decide +kernel
theorem d_Lw_law_553 : decode code 553 = .ok (.iadd, 1) := by decide +kernel
theorem d_Lw_law_554 : decode code 554 = .ok (.iaload, 1) := by decide +kernel
theorem d_Lw_law_555 : decode code 555 = .ok (.aload_n 0, 1) := by decide +kernel
theorem d_Lw_law_556 : decode code 556 = .ok (.iload 4, 2) := by decide +kernel
theorem d_Lw_law_558 : decode code 558 = .ok (.iconst 2, 1) := by decide +kernel
theorem d_Lw_law_559 : decode code 559 = .ok (.iadd, 1) := by decide +kernel
