theorem dL_law_0 : decode code 0 = .ok (.new 7, 3) := by decide +kernel
theorem dL_law_3 : decode code 3 = .ok (.dup, 1) := by decide +kernel
theorem dL_law_4 : decode code 4 = .ok (.invokespecial 9, 3) := by decide +kernel
theorem dL_law_7 : decode code 7 = .ok (.astore_n 1, 1) := by decide +kernel
theorem dL_law_8 : decode code 8 = .ok (.new 10, 3) := by decide +kernel
theorem dL_law_11 : decode code 11 = .ok (.dup, 1) := by decide +kernel
theorem dL_law_12 : decode code 12 = .ok (.invokespecial 12, 3) := by decide +kernel
theorem dL_law_15 : decode code 15 = .ok (.astore_n 2, 1) := by decide +kernel
theorem dL_law_16 : decode code 16 = .ok (.iconst 0, 1) := by decide +kernel
theorem dL_law_17 : decode code 17 = .ok (.istore_n 3, 1) := by decide +kernel
theorem dL_law_18 : decode code 18 = .ok (.iload_n 3, 1) := by decide +kernel
theorem dL_law_19 : decode code 19 = .ok (.aload_n 0, 1) := by decide +kernel
theorem dL_law_20 : decode code 20 = .ok (.arraylength, 1) := by decide +kernel
theorem dL_law_21 : decode code 21 = .ok (.bipush 6, 2) := by decide +kernel
theorem dL_law_23 : decode code 23 = .ok (.isub, 1) := by decide +kernel
theorem dL_law_24 : decode code 24 = .ok (.if_icmp .gt 2372, 3) := by decide +kernel
theorem dL_law_27 : decode code 27 = .ok (.aload_n 0, 1) := by decide +kernel
theorem dL_law_28 : decode code 28 = .ok (.iload_n 3, 1) := by decide +kernel
theorem dL_law_29 : decode code 29 = .ok (.iaload, 1) := by decide +kernel
theorem dL_law_30 : decode code 30 = .ok (.bipush 127, 2) := by decide +kernel
theorem dL_law_32 : decode code 32 = .ok (.iand, 1) := by decide +kernel
theorem dL_law_33 : decode code 33 = .ok (.tableswitch 2357 0 75 #[319, 382, 405, 418, 441, 474, 497, 530, 563, 576, 599, 622, 655, 678, 701, 714, 727, 740, 763, 786, 809, 842, 875, 918, 941, 964, 997, 1020, 1043, 1066, 1089, 1112, 1135, 1168, 1191, 1214, 1237, 1260, 1283, 1316, 1339, 1362, 1395, 1428, 1461, 1494, 1527, 1570, 1583, 1596, 1609, 1622, 1635, 1648, 1681, 1694, 1707, 1720, 1743, 1766, 1789, 1822, 1845, 1878, 1911, 1944, 1957, 2000, 2023, 2056, 2109, 2132, 2155, 2178, 2221, 2294], 319) := by decide +kernel
theorem dL_law_352 : decode code 352 = .ok (.aload_n 1, 1) := by decide +kernel
theorem dL_law_353 : decode code 353 = .ok (.aload_n 0, 1) := by decide +kernel
theorem dL_law_354 : decode code 354 = .ok (.iload_n 3, 1) := by decide +kernel
theorem dL_law_355 : decode code 355 = .ok (.iconst 1, 1) := by decide +kernel
theorem dL_law_356 : decode code 356 = .ok (.iadd, 1) := by decide +kernel
theorem dL_law_357 : decode code 357 = .ok (.iaload, 1) := by decide +kernel
theorem dL_law_358 : decode code 358 = .ok (.aload_n 0, 1) := by decide +kernel
theorem dL_law_359 : decode code 359 = .ok (.iload_n 3, 1) := by decide +kernel
theorem dL_law_360 : decode code 360 = .ok (.iconst 2, 1) := by decide +kernel
theorem dL_law_361 : decode code 361 = .ok (.iadd, 1) := by decide +kernel
theorem dL_law_362 : decode code 362 = .ok (.iaload, 1) := by decide +kernel
theorem dL_law_363 : decode code 363 = .ok (.aload_n 0, 1) := by decide +kernel
theorem dL_law_364 : decode code 364 = .ok (.iload_n 3, 1) := by decide +kernel
theorem dL_law_365 : decode code 365 = .ok (.iconst 3, 1) := by decide +kernel
theorem dL_law_366 : decode code 366 = .ok (.iadd, 1) := by decide +kernel
theorem dL_law_367 : decode code 367 = .ok (.iaload, 1) := by decide +kernel
theorem dL_law_368 : decode code 368 = .ok (.aload_n 0, 1) := by decide +kernel
theorem dL_law_369 : decode code 369 = .ok (.iload_n 3, 1) := by decide +kernel
theorem dL_law_370 : decode code 370 = .ok (.iconst 4, 1) := by decide +kernel
theorem dL_law_371 : decode code 371 = .ok (.iadd, 1) := by decide +kernel
theorem dL_law_372 : decode code 372 = .ok (.iaload, 1) := by decide +kernel
theorem dL_law_373 : decode code 373 = .ok (.aload_n 0, 1) := by decide +kernel
theorem dL_law_374 : decode code 374 = .ok (.iload_n 3, 1) := by decide +kernel
theorem dL_law_375 : decode code 375 = .ok (.iconst 5, 1) := by decide +kernel
theorem dL_law_376 : decode code 376 = .ok (.iadd, 1) := by decide +kernel
theorem dL_law_377 : decode code 377 = .ok (.iaload, 1) := by decide +kernel
theorem dL_law_378 : decode code 378 = .ok (.invokevirtual 13, 3) := by decide +kernel
theorem dL_law_381 : decode code 381 = .ok (.pop, 1) := by decide +kernel
theorem dL_law_382 : decode code 382 = .ok (.aload_n 2, 1) := by decide +kernel
theorem dL_law_383 : decode code 383 = .ok (.aload_n 0, 1) := by decide +kernel
theorem dL_law_384 : decode code 384 = .ok (.iload_n 3, 1) := by decide +kernel
theorem dL_law_385 : decode code 385 = .ok (.iconst 1, 1) := by decide +kernel
theorem dL_law_386 : decode code 386 = .ok (.iadd, 1) := by decide +kernel
theorem dL_law_387 : decode code 387 = .ok (.iaload, 1) := by decide +kernel
theorem dL_law_388 : decode code 388 = .ok (.aload_n 0, 1) := by decide +kernel
theorem dL_law_389 : decode code 389 = .ok (.iload_n 3, 1) := by decide +kernel
theorem dL_law_390 : decode code 390 = .ok (.iconst 2, 1) := by decide +kernel
theorem dL_law_391 : decode code 391 = .ok (.iadd, 1) := by decide +kernel
theorem dL_law_392 : decode code 392 = .ok (.iaload, 1) := by decide +kernel
theorem dL_law_393 : decode code 393 = .ok (.aload_n 0, 1) := by decide +kernel
theorem dL_law_394 : decode code 394 = .ok (.iload_n 3, 1) := by decide +kernel
theorem dL_law_395 : decode code 395 = .ok (.iconst 3, 1) := by decide +kernel
theorem dL_law_396 : decode code 396 = .ok (.iadd, 1) := by decide +kernel
theorem dL_law_397 : decode code 397 = .ok (.iaload, 1) := by decide +kernel
theorem dL_law_398 : decode code 398 = .ok (.aload_n 0, 1) := by decide +kernel
theorem dL_law_399 : decode code 399 = .ok (.iload_n 3, 1) := by decide +kernel
theorem dL_law_400 : decode code 400 = .ok (.iconst 4, 1) := by decide +kernel
theorem dL_law_401 : decode code 401 = .ok (.iadd, 1) := by decide +kernel
theorem dL_law_402 : decode code 402 = .ok (.iaload, 1) := by decide +kernel
theorem dL_law_403 : decode code 403 = .ok (.aload_n 0, 1) := by decide +kernel
theorem dL_law_404 : decode code 404 = .ok (.iload_n 3, 1) := by decide +kernel
theorem dL_law_405 : decode code 405 = .ok (.iconst 5, 1) := by decide +kernel
theorem dL_law_406 : decode code 406 = .ok (.iadd, 1) := by decide +kernel
theorem dL_law_407 : decode code 407 = .ok (.iaload, 1) := by decide +kernel
theorem dL_law_408 : decode code 408 = .ok (.invokevirtual 17, 3) := by decide +kernel
theorem dL_law_411 : decode code 411 = .ok (.pop, 1) := by decide +kernel
theorem dL_law_412 : decode code 412 = .ok (.goto 1978, 3) := by decide +kernel
theorem dL_law_415 : decode code 415 = .ok (.aload_n 1, 1) := by decide +kernel
theorem dL_law_416 : decode code 416 = .ok (.aload_n 0, 1) := by decide +kernel
theorem dL_law_417 : decode code 417 = .ok (.iload_n 3, 1) := by decide +kernel
theorem dL_law_418 : decode code 418 = .ok (.iconst 1, 1) := by decide +kernel
theorem dL_law_419 : decode code 419 = .ok (.iadd, 1) := by decide +kernel
theorem dL_law_420 : decode code 420 = .ok (.iaload, 1) := by decide +kernel
theorem dL_law_421 : decode code 421 = .ok (.invokevirtual 18, 3) := by decide +kernel
theorem dL_law_424 : decode code 424 = .ok (.pop, 1) := by decide +kernel
theorem dL_law_425 : decode code 425 = .ok (.aload_n 2, 1) := by decide +kernel
theorem dL_law_426 : decode code 426 = .ok (.aload_n 0, 1) := by decide +kernel
theorem dL_law_427 : decode code 427 = .ok (.iload_n 3, 1) := by decide +kernel
theorem dL_law_428 : decode code 428 = .ok (.iconst 1, 1) := by decide +kernel
theorem dL_law_429 : decode code 429 = .ok (.iadd, 1) := by decide +kernel
theorem dL_law_430 : decode code 430 = .ok (.iaload, 1) := by decide +kernel
theorem dL_law_431 : decode code 431 = .ok (.invokevirtual 22, 3) := by decide +kernel
theorem dL_law_434 : decode code 434 = .ok (.pop, 1) := by decide +kernel
theorem dL_law_435 : decode code 435 = .ok (.goto 1955, 3) := by decide +kernel
theorem dL_law_438 : decode code 438 = .ok (.aload_n 1, 1) := by decide +kernel
theorem dL_law_439 : decode code 439 = .ok (.invokevirtual 23, 3) := by decide +kernel
theorem dL_law_442 : decode code 442 = .ok (.pop, 1) := by decide +kernel
theorem dL_law_443 : decode code 443 = .ok (.aload_n 2, 1) := by decide +kernel
theorem dL_law_444 : decode code 444 = .ok (.invokevirtual 27, 3) := by decide +kernel
theorem dL_law_447 : decode code 447 = .ok (.pop, 1) := by decide +kernel
theorem dL_law_448 : decode code 448 = .ok (.goto 1942, 3) := by decide +kernel
theorem dL_law_451 : decode code 451 = .ok (.aload_n 1, 1) := by decide +kernel
theorem dL_law_452 : decode code 452 = .ok (.aload_n 0, 1) := by decide +kernel
theorem dL_law_453 : decode code 453 = .ok (.iload_n 3, 1) := by decide +kernel
theorem dL_law_454 : decode code 454 = .ok (.iconst 1, 1) := by decide +kernel
theorem dL_law_455 : decode code 455 = .ok (.iadd, 1) := by decide +kernel
theorem dL_law_456 : decode code 456 = .ok (.iaload, 1) := by decide +kernel
theorem dL_law_457 : decode code 457 = .ok (.invokevirtual 28, 3) := by decide +kernel
theorem dL_law_460 : decode code 460 = .ok (.pop, 1) := by decide +kernel
theorem dL_law_461 : decode code 461 = .ok (.aload_n 2, 1) := by decide +kernel
theorem dL_law_462 : decode code 462 = .ok (.aload_n 0, 1) := by decide +kernel
theorem dL_law_463 : decode code 463 = .ok (.iload_n 3, 1) := by decide +kernel
theorem dL_law_464 : decode code 464 = .ok (.iconst 1, 1) := by decide +kernel
theorem dL_law_465 : decode code 465 = .ok (.iadd, 1) := by decide +kernel
theorem dL_law_466 : decode code 466 = .ok (.iaload, 1) := by decide +kernel
theorem dL_law_467 : decode code 467 = .ok (.invokevirtual 31, 3) := by decide +kernel
theorem dL_law_470 : decode code 470 = .ok (.pop, 1) := by decide +kernel
theorem dL_law_471 : decode code 471 = .ok (.goto 1919, 3) := by decide +kernel
theorem dL_law_474 : decode code 474 = .ok (.aload_n 1, 1) := by decide +kernel
theorem dL_law_475 : decode code 475 = .ok (.aload_n 0, 1) := by decide +kernel
theorem dL_law_476 : decode code 476 = .ok (.iload_n 3, 1) := by decide +kernel
theorem dL_law_477 : decode code 477 = .ok (.iconst 1, 1) := by decide +kernel
theorem dL_law_478 : decode code 478 = .ok (.iadd, 1) := by decide +kernel
theorem dL_law_479 : decode code 479 = .ok (.iaload, 1) := by decide +kernel
theorem dL_law_480 : decode code 480 = .ok (.aload_n 0, 1) := by decide +kernel
theorem dL_law_481 : decode code 481 = .ok (.iload_n 3, 1) := by decide +kernel
theorem dL_law_482 : decode code 482 = .ok (.iconst 2, 1) := by decide +kernel
theorem dL_law_483 : decode code 483 = .ok (.iadd, 1) := by decide +kernel
theorem dL_law_484 : decode code 484 = .ok (.iaload, 1) := by decide +kernel
theorem dL_law_485 : decode code 485 = .ok (.invokevirtual 32, 3) := by decide +kernel
theorem dL_law_488 : decode code 488 = .ok (.pop, 1) := by decide +kernel
theorem dL_law_489 : decode code 489 = .ok (.aload_n 2, 1) := by decide +kernel
theorem dL_law_490 : decode code 490 = .ok (.aload_n 0, 1) := by decide +kernel
theorem dL_law_491 : decode code 491 = .ok (.iload_n 3, 1) := by decide +kernel
theorem dL_law_492 : decode code 492 = .ok (.iconst 1, 1) := by decide +kernel
theorem dL_law_493 : decode code 493 = .ok (.iadd, 1) := by decide +kernel
theorem dL_law_494 : decode code 494 = .ok (.iaload, 1) := by decide +kernel
theorem dL_law_495 : decode code 495 = .ok (.aload_n 0, 1) := by decide +kernel
theorem dL_law_496 : decode code 496 = .ok (.iload_n 3, 1) := by decide +kernel
theorem dL_law_497 : decode code 497 = .ok (.iconst 2, 1) := by decide +kernel
theorem dL_law_498 : decode code 498 = .ok (.iadd, 1) := by decide +kernel
theorem dL_law_499 : decode code 499 = .ok (.iaload, 1) := by decide +kernel
theorem dL_law_500 : decode code 500 = .ok (.invokevirtual 36, 3) := by decide +kernel
theorem dL_law_503 : decode code 503 = .ok (.pop, 1) := by decide +kernel
theorem dL_law_504 : decode code 504 = .ok (.goto 1886, 3) := by decide +kernel
theorem dL_law_507 : decode code 507 = .ok (.aload_n 1, 1) := by decide +kernel
theorem dL_law_508 : decode code 508 = .ok (.aload_n 0, 1) := by decide +kernel
theorem dL_law_509 : decode code 509 = .ok (.iload_n 3, 1) := by decide +kernel
theorem dL_law_510 : decode code 510 = .ok (.iconst 1, 1) := by decide +kernel
theorem dL_law_511 : decode code 511 = .ok (.iadd, 1) := by decide +kernel
theorem dL_law_512 : decode code 512 = .ok (.iaload, 1) := by decide +kernel
theorem dL_law_513 : decode code 513 = .ok (.invokevirtual 37, 3) := by decide +kernel
theorem dL_law_516 : decode code 516 = .ok (.pop, 1) := by decide +kernel
theorem dL_law_517 : decode code 517 = .ok (.aload_n 2, 1) := by decide +kernel
theorem dL_law_518 : decode code 518 = .ok (.aload_n 0, 1) := by decide +kernel
theorem dL_law_519 : decode code 519 = .ok (.iload_n 3, 1) := by decide +kernel
theorem dL_law_520 : decode code 520 = .ok (.iconst 1, 1) := by decide +kernel
theorem dL_law_521 : decode code 521 = .ok (.iadd, 1) := by decide +kernel
theorem dL_law_522 : decode code 522 = .ok (.iaload, 1) := by decide +kernel
theorem dL_law_523 : decode code 523 = .ok (.invokevirtual 40, 3) := by decide +kernel
theorem dL_law_526 : decode code 526 = .ok (.pop, 1) := by decide +kernel
theorem dL_law_527 : decode code 527 = .ok (.goto 1863, 3) := by decide +kernel
theorem dL_law_530 : decode code 530 = .ok (.aload_n 1, 1) := by decide +kernel
theorem dL_law_531 : decode code 531 = .ok (.aload_n 0, 1) := by decide +kernel
theorem dL_law_532 : decode code 532 = .ok (.iload_n 3, 1) := by decide +kernel
theorem dL_law_533 : decode code 533 = .ok (.iconst 1, 1) := by decide +kernel
theorem dL_law_534 : decode code 534 = .ok (.iadd, 1) := by decide +kernel
theorem dL_law_535 : decode code 535 = .ok (.iaload, 1) := by decide +kernel
theorem dL_law_536 : decode code 536 = .ok (.aload_n 0, 1) := by decide +kernel
theorem dL_law_537 : decode code 537 = .ok (.iload_n 3, 1) := by decide +kernel
theorem dL_law_538 : decode code 538 = .ok (.iconst 2, 1) := by decide +kernel
theorem dL_law_539 : decode code 539 = .ok (.iadd, 1) := by decide +kernel
theorem dL_law_540 : decode code 540 = .ok (.iaload, 1) := by decide +kernel
theorem dL_law_541 : decode code 541 = .ok (.invokevirtual 41, 3) := by decide +kernel
theorem dL_law_544 : decode code 544 = .ok (.pop, 1) := by decide +kernel
theorem dL_law_545 : decode code 545 = .ok (.aload_n 2, 1) := by decide +kernel
theorem dL_law_546 : decode code 546 = .ok (.aload_n 0, 1) := by decide +kernel
theorem dL_law_547 : decode code 547 = .ok (.iload_n 3, 1) := by decide +kernel
theorem dL_law_548 : decode code 548 = .ok (.iconst 1, 1) := by decide +kernel
theorem dL_law_549 : decode code 549 = .ok (.iadd, 1) := by decide +kernel
theorem dL_law_550 : decode code 550 = .ok (.iaload, 1) := by decide +kernel
theorem dL_law_551 : decode code 551 = .ok (.aload_n 0, 1) := by decide +kernel
theorem dL_law_552 : decode code 552 = .ok (.iload_n 3, 1) := by decide +kernel
theorem dL_law_553 : decode code 553 = .ok (.iconst 2, 1) := by decide +kernel
theorem dL_law_554 : decode code 554 = .ok (.iadd, 1) := by decide +kernel
theorem dL_law_555 : decode code 555 = .ok (.iaload, 1) := by decide +kernel
theorem dL_law_556 : decode code 556 = .ok (.invokevirtual 44, 3) := by decide +kernel
theorem dL_law_559 : decode code 559 = .ok (.pop, 1) := by decide +kernel
theorem dL_law_560 : decode code 560 = .ok (.goto 1830, 3) := by decide +kernel
theorem dL_law_563 : decode code 563 = .ok (.aload_n 1, 1) := by decide +kernel
theorem dL_law_564 : decode code 564 = .ok (.aload_n 0, 1) := by decide +kernel
theorem dL_law_565 : decode code 565 = .ok (.iload_n 3, 1) := by decide +kernel
theorem dL_law_566 : decode code 566 = .ok (.iconst 1, 1) := by decide +kernel
theorem dL_law_567 : decode code 567 = .ok (.iadd, 1) := by decide +kernel
theorem dL_law_568 : decode code 568 = .ok (.iaload, 1) := by decide +kernel
theorem dL_law_569 : decode code 569 = .ok (.aload_n 0, 1) := by decide +kernel
theorem dL_law_570 : decode code 570 = .ok (.iload_n 3, 1) := by decide +kernel
theorem dL_law_571 : decode code 571 = .ok (.iconst 2, 1) := by decide +kernel
theorem dL_law_572 : decode code 572 = .ok (.iadd, 1) := by decide +kernel
theorem dL_law_573 : decode code 573 = .ok (.iaload, 1) := by decide +kernel
theorem dL_law_574 : decode code 574 = .ok (.invokevirtual 45, 3) := by decide +kernel
theorem dL_law_577 : decode code 577 = .ok (.pop, 1) := by decide +kernel
theorem dL_law_578 : decode code 578 = .ok (.aload_n 2, 1) := by decide +kernel
theorem dL_law_579 : decode code 579 = .ok (.aload_n 0, 1) := by decide +kernel
theorem dL_law_580 : decode code 580 = .ok (.iload_n 3, 1) := by decide +kernel
theorem dL_law_581 : decode code 581 = .ok (.iconst 1, 1) := by decide +kernel
theorem dL_law_582 : decode code 582 = .ok (.iadd, 1) := by decide +kernel
theorem dL_law_583 : decode code 583 = .ok (.iaload, 1) := by decide +kernel
theorem dL_law_584 : decode code 584 = .ok (.aload_n 0, 1) := by decide +kernel
theorem dL_law_585 : decode code 585 = .ok (.iload_n 3, 1) := by decide +kernel
theorem dL_law_586 : decode code 586 = .ok (.iconst 2, 1) := by decide +kernel
theorem dL_law_587 : decode code 587 = .ok (.iadd, 1) := by decide +kernel
theorem dL_law_588 : decode code 588 = .ok (.iaload, 1) := by decide +kernel
theorem dL_law_589 : decode code 589 = .ok (.invokevirtual 48, 3) := by decide +kernel
theorem dL_law_592 : decode code 592 = .ok (.pop, 1) := by decide +kernel
theorem dL_law_593 : decode code 593 = .ok (.goto 1797, 3) := by decide +kernel
theorem dL_law_596 : decode code 596 = .ok (.aload_n 1, 1) := by decide +kernel
theorem dL_law_597 : decode code 597 = .ok (.invokevirtual 49, 3) := by decide +kernel
theorem dL_law_600 : decode code 600 = .ok (.pop, 1) := by decide +kernel
theorem dL_law_601 : decode code 601 = .ok (.aload_n 2, 1) := by decide +kernel
theorem dL_law_602 : decode code 602 = .ok (.invokevirtual 52, 3) := by decide +kernel
theorem dL_law_605 : decode code 605 = .ok (.pop, 1) := by decide +kernel
theorem dL_law_606 : decode code 606 = .ok (.goto 1784, 3) := by decide +kernel
theorem dL_law_609 : decode code 609 = .ok (.aload_n 1, 1) := by decide +kernel
theorem dL_law_610 : decode code 610 = .ok (.aload_n 0, 1) := by decide +kernel
theorem dL_law_611 : decode code 611 = .ok (.iload_n 3, 1) := by decide +kernel
theorem dL_law_612 : decode code 612 = .ok (.iconst 1, 1) := by decide +kernel
theorem dL_law_613 : decode code 613 = .ok (.iadd, 1) := by decide +kernel
theorem dL_law_614 : decode code 614 = .ok (.iaload, 1) := by decide +kernel
theorem dL_law_615 : decode code 615 = .ok (.invokevirtual 53, 3) := by decide +kernel
theorem dL_law_618 : decode code 618 = .ok (.pop, 1) := by decide +kernel
theorem dL_law_619 : decode code 619 = .ok (.aload_n 2, 1) := by decide +kernel
theorem dL_law_620 : decode code 620 = .ok (.aload_n 0, 1) := by decide +kernel
theorem dL_law_621 : decode code 621 = .ok (.iload_n 3, 1) := by decide +kernel
theorem dL_law_622 : decode code 622 = .ok (.iconst 1, 1) := by decide +kernel
theorem dL_law_623 : decode code 623 = .ok (.iadd, 1) := by decide +kernel
theorem dL_law_624 : decode code 624 = .ok (.iaload, 1) := by decide +kernel
theorem dL_law_625 : decode code 625 = .ok (.invokevirtual 56, 3) := by decide +kernel
theorem dL_law_628 : decode code 628 = .ok (.pop, 1) := by decide +kernel
theorem dL_law_629 : decode code 629 = .ok (.goto 1761, 3) := by decide +kernel
theorem dL_law_632 : decode code 632 = .ok (.aload_n 1, 1) := by decide +kernel
theorem dL_law_633 : decode code 633 = .ok (.aload_n 0, 1) := by decide +kernel
theorem dL_law_634 : decode code 634 = .ok (.iload_n 3, 1) := by decide +kernel
theorem dL_law_635 : decode code 635 = .ok (.iconst 1, 1) := by decide +kernel
theorem dL_law_636 : decode code 636 = .ok (.iadd, 1) := by decide +kernel
theorem dL_law_637 : decode code 637 = .ok (.iaload, 1) := by decide +kernel
theorem dL_law_638 : decode code 638 = .ok (.invokevirtual 57, 3) := by decide +kernel
theorem dL_law_641 : decode code 641 = .ok (.pop, 1) := by decide +kernel
theorem dL_law_642 : decode code 642 = .ok (.aload_n 2, 1) := by decide +kernel
theorem dL_law_643 : decode code 643 = .ok (.aload_n 0, 1) := by decide +kernel
theorem dL_law_644 : decode code 644 = .ok (.iload_n 3, 1) := by decide +kernel
theorem dL_law_645 : decode code 645 = .ok (.iconst 1, 1) := by decide +kernel
theorem dL_law_646 : decode code 646 = .ok (.iadd, 1) := by decide +kernel
theorem dL_law_647 : decode code 647 = .ok (.iaload, 1) := by decide +kernel
theorem dL_law_648 : decode code 648 = .ok (.invokevirtual 60, 3) := by decide +kernel
theorem dL_law_651 : decode code 651 = .ok (.pop, 1) := by decide +kernel
theorem dL_law_652 : decode code 652 = .ok (.goto 1738, 3) := by decide +kernel
theorem dL_law_655 : decode code 655 = .ok (.aload_n 1, 1) := by decide +kernel
theorem dL_law_656 : decode code 656 = .ok (.aload_n 0, 1) := by decide +kernel
theorem dL_law_657 : decode code 657 = .ok (.iload_n 3, 1) := by decide +kernel
theorem dL_law_658 : decode code 658 = .ok (.iconst 1, 1) := by decide +kernel
theorem dL_law_659 : decode code 659 = .ok (.iadd, 1) := by decide +kernel
theorem dL_law_660 : decode code 660 = .ok (.iaload, 1) := by decide +kernel
theorem dL_law_661 : decode code 661 = .ok (.aload_n 0, 1) := by decide +kernel
theorem dL_law_662 : decode code 662 = .ok (.iload_n 3, 1) := by decide +kernel
theorem dL_law_663 : decode code 663 = .ok (.iconst 2, 1) := by decide +kernel
theorem dL_law_664 : decode code 664 = .ok (.iadd, 1) := by decide +kernel
theorem dL_law_665 : decode code 665 = .ok (.iaload, 1) := by decide +kernel
theorem dL_law_666 : decode code 666 = .ok (.invokevirtual 61, 3) := by decide +kernel
theorem dL_law_669 : decode code 669 = .ok (.pop, 1) := by decide +kernel
theorem dL_law_670 : decode code 670 = .ok (.aload_n 2, 1) := by decide +kernel
theorem dL_law_671 : decode code 671 = .ok (.aload_n 0, 1) := by decide +kernel
theorem dL_law_672 : decode code 672 = .ok (.iload_n 3, 1) := by decide +kernel
theorem dL_law_673 : decode code 673 = .ok (.iconst 1, 1) := by decide +kernel
theorem dL_law_674 : decode code 674 = .ok (.iadd, 1) := by decide +kernel
theorem dL_law_675 : decode code 675 = .ok (.iaload, 1) := by decide +kernel
theorem dL_law_676 : decode code 676 = .ok (.aload_n 0, 1) := by decide +kernel
theorem dL_law_677 : decode code 677 = .ok (.iload_n 3, 1) := by decide +kernel
theorem dL_law_678 : decode code 678 = .ok (.iconst 2, 1) := by decide +kernel
theorem dL_law_679 : decode code 679 = .ok (.iadd, 1) := by decide +kernel
theorem dL_law_680 : decode code 680 = .ok (.iaload, 1) := by decide +kernel
theorem dL_law_681 : decode code 681 = .ok (.invokevirtual 64, 3) := by decide +kernel
theorem dL_law_684 : decode code 684 = .ok (.pop, 1) := by decide +kernel
theorem dL_law_685 : decode code 685 = .ok (.goto 1705, 3) := by decide +kernel
theorem dL_law_688 : decode code 688 = .ok (.aload_n 1, 1) := by decide +kernel
theorem dL_law_689 : decode code 689 = .ok (.aload_n 0, 1) := by decide +kernel
theorem dL_law_690 : decode code 690 = .ok (.iload_n 3, 1) := by decide +kernel
theorem dL_law_691 : decode code 691 = .ok (.iconst 1, 1) := by decide +kernel
theorem dL_law_692 : decode code 692 = .ok (.iadd, 1) := by decide +kernel
theorem dL_law_693 : decode code 693 = .ok (.iaload, 1) := by decide +kernel
theorem dL_law_694 : decode code 694 = .ok (.invokevirtual 65, 3) := by decide +kernel
theorem dL_law_697 : decode code 697 = .ok (.pop, 1) := by decide +kernel
theorem dL_law_698 : decode code 698 = .ok (.aload_n 2, 1) := by decide +kernel
theorem dL_law_699 : decode code 699 = .ok (.aload_n 0, 1) := by decide +kernel
theorem dL_law_700 : decode code 700 = .ok (.iload_n 3, 1) := by decide +kernel
theorem dL_law_701 : decode code 701 = .ok (.iconst 1, 1) := by decide +kernel
theorem dL_law_702 : decode code 702 = .ok (.iadd, 1) := by decide +kernel
theorem dL_law_703 : decode code 703 = .ok (.iaload, 1) := by decide +kernel
theorem dL_law_704 : decode code 704 = .ok (.invokevirtual 68, 3) := by decide +kernel
theorem dL_law_707 : decode code 707 = .ok (.pop, 1) := by decide +kernel
theorem dL_law_708 : decode code 708 = .ok (.goto 1682, 3) := by decide +kernel
theorem dL_law_711 : decode code 711 = .ok (.aload_n 1, 1) := by decide +kernel
theorem dL_law_712 : decode code 712 = .ok (.aload_n 0, 1) := by decide +kernel
theorem dL_law_713 : decode code 713 = .ok (.iload_n 3, 1) := by decide +kernel
theorem dL_law_714 : decode code 714 = .ok (.iconst 1, 1) := by decide +kernel
theorem dL_law_715 : decode code 715 = .ok (.iadd, 1) := by decide +kernel
theorem dL_law_716 : decode code 716 = .ok (.iaload, 1) := by decide +kernel
theorem dL_law_717 : decode code 717 = .ok (.invokevirtual 69, 3) := by decide +kernel
theorem dL_law_720 : decode code 720 = .ok (.pop, 1) := by decide +kernel
theorem dL_law_721 : decode code 721 = .ok (.aload_n 2, 1) := by decide +kernel
theorem dL_law_722 : decode code 722 = .ok (.aload_n 0, 1) := by decide +kernel
theorem dL_law_723 : decode code 723 = .ok (.iload_n 3, 1) := by decide +kernel
theorem dL_law_724 : decode code 724 = .ok (.iconst 1, 1) := by decide +kernel
theorem dL_law_725 : decode code 725 = .ok (.iadd, 1) := by decide +kernel
theorem dL_law_726 : decode code 726 = .ok (.iaload, 1) := by decide +kernel
theorem dL_law_727 : decode code 727 = .ok (.invokevirtual 72, 3) := by decide +kernel
theorem dL_law_730 : decode code 730 = .ok (.pop, 1) := by decide +kernel
theorem dL_law_731 : decode code 731 = .ok (.goto 1659, 3) := by decide +kernel
theorem dL_law_734 : decode code 734 = .ok (.aload_n 1, 1) := by decide +kernel
theorem dL_law_735 : decode code 735 = .ok (.invokevirtual 73, 3) := by decide +kernel
theorem dL_law_738 : decode code 738 = .ok (.pop, 1) := by decide +kernel
theorem dL_law_739 : decode code 739 = .ok (.aload_n 2, 1) := by decide +kernel
theorem dL_law_740 : decode code 740 = .ok (.invokevirtual 76, 3) := by decide +kernel
theorem dL_law_743 : decode code 743 = .ok (.pop, 1) := by decide +kernel
theorem dL_law_744 : decode code 744 = .ok (.goto 1646, 3) := by decide +kernel
theorem dL_law_747 : decode code 747 = .ok (.aload_n 1, 1) := by decide +kernel
theorem dL_law_748 : decode code 748 = .ok (.invokevirtual 77, 3) := by decide +kernel
theorem dL_law_751 : decode code 751 = .ok (.pop, 1) := by decide +kernel
theorem dL_law_752 : decode code 752 = .ok (.aload_n 2, 1) := by decide +kernel
theorem dL_law_753 : decode code 753 = .ok (.invokevirtual 80, 3) := by decide +kernel
theorem dL_law_756 : decode code 756 = .ok (.pop, 1) := by decide +kernel
theorem dL_law_757 : decode code 757 = .ok (.goto 1633, 3) := by decide +kernel
theorem dL_law_760 : decode code 760 = .ok (.aload_n 1, 1) := by decide +kernel
theorem dL_law_761 : decode code 761 = .ok (.invokevirtual 81, 3) := by decide +kernel
theorem dL_law_764 : decode code 764 = .ok (.pop, 1) := by decide +kernel
theorem dL_law_765 : decode code 765 = .ok (.aload_n 2, 1) := by decide +kernel
theorem dL_law_766 : decode code 766 = .ok (.invokevirtual 84, 3) := by decide +kernel
theorem dL_law_769 : decode code 769 = .ok (.pop, 1) := by decide +kernel
theorem dL_law_770 : decode code 770 = .ok (.goto 1620, 3) := by decide +kernel
theorem dL_law_773 : decode code 773 = .ok (.aload_n 1, 1) := by decide +kernel
theorem dL_law_774 : decode code 774 = .ok (.aload_n 0, 1) := by decide +kernel
theorem dL_law_775 : decode code 775 = .ok (.iload_n 3, 1) := by decide +kernel
theorem dL_law_776 : decode code 776 = .ok (.iconst 1, 1) := by decide +kernel
theorem dL_law_777 : decode code 777 = .ok (.iadd, 1) := by decide +kernel
theorem dL_law_778 : decode code 778 = .ok (.iaload, 1) := by decide +kernel
theorem dL_law_779 : decode code 779 = .ok (.invokevirtual 85, 3) := by decide +kernel
theorem dL_law_782 : decode code 782 = .ok (.pop, 1) := by decide +kernel
theorem dL_law_783 : decode code 783 = .ok (.aload_n 2, 1) := by decide +kernel
theorem dL_law_784 : decode code 784 = .ok (.aload_n 0, 1) := by decide +kernel
theorem dL_law_785 : decode code 785 = .ok (.iload_n 3, 1) := by decide +kernel
theorem dL_law_786 : decode code 786 = .ok (.iconst 1, 1) := by decide +kernel
theorem dL_law_787 : decode code 787 = .ok (.iadd, 1) := by decide +kernel
theorem dL_law_788 : decode code 788 = .ok (.iaload, 1) := by decide +kernel
theorem dL_law_789 : decode code 789 = .ok (.invokevirtual 88, 3) := by decide +kernel
theorem dL_law_792 : decode code 792 = .ok (.pop, 1) := by decide +kernel
theorem dL_law_793 : decode code 793 = .ok (.goto 1597, 3) := by decide +kernel
theorem dL_law_796 : decode code 796 = .ok (.aload_n 1, 1) := by decide +kernel
theorem dL_law_797 : decode code 797 = .ok (.aload_n 0, 1) := by decide +kernel
theorem dL_law_798 : decode code 798 = .ok (.iload_n 3, 1) := by decide +kernel
theorem dL_law_799 : decode code 799 = .ok (.iconst 1, 1) := by decide +kernel
theorem dL_law_800 : decode code 800 = .ok (.iadd, 1) := by decide +kernel
theorem dL_law_801 : decode code 801 = .ok (.iaload, 1) := by decide +kernel
theorem dL_law_802 : decode code 802 = .ok (.invokevirtual 89, 3) := by decide +kernel
theorem dL_law_805 : decode code 805 = .ok (.pop, 1) := by decide +kernel
theorem dL_law_806 : decode code 806 = .ok (.aload_n 2, 1) := by decide +kernel
theorem dL_law_807 : decode code 807 = .ok (.aload_n 0, 1) := by decide +kernel
theorem dL_law_808 : decode code 808 = .ok (.iload_n 3, 1) := by decide +kernel
theorem dL_law_809 : decode code 809 = .ok (.iconst 1, 1) := by decide +kernel
theorem dL_law_810 : decode code 810 = .ok (.iadd, 1) := by decide +kernel
theorem dL_law_811 : decode code 811 = .ok (.iaload, 1) := by decide +kernel
theorem dL_law_812 : decode code 812 = .ok (.invokevirtual 92, 3) := by decide +kernel
theorem dL_law_815 : decode code 815 = .ok (.pop, 1) := by decide +kernel
theorem dL_law_816 : decode code 816 = .ok (.goto 1574, 3) := by decide +kernel
theorem dL_law_819 : decode code 819 = .ok (.aload_n 1, 1) := by decide +kernel
theorem dL_law_820 : decode code 820 = .ok (.aload_n 0, 1) := by decide +kernel
theorem dL_law_821 : decode code 821 = .ok (.iload_n 3, 1) := by decide +kernel
theorem dL_law_822 : decode code 822 = .ok (.iconst 1, 1) := by decide +kernel
theorem dL_law_823 : decode code 823 = .ok (.iadd, 1) := by decide +kernel
theorem dL_law_824 : decode code 824 = .ok (.iaload, 1) := by decide +kernel
theorem dL_law_825 : decode code 825 = .ok (.invokevirtual 93, 3) := by decide +kernel
theorem dL_law_828 : decode code 828 = .ok (.pop, 1) := by decide +kernel
theorem dL_law_829 : decode code 829 = .ok (.aload_n 2, 1) := by decide +kernel
theorem dL_law_830 : decode code 830 = .ok (.aload_n 0, 1) := by decide +kernel
theorem dL_law_831 : decode code 831 = .ok (.iload_n 3, 1) := by decide +kernel
theorem dL_law_832 : decode code 832 = .ok (.iconst 1, 1) := by decide +kernel
theorem dL_law_833 : decode code 833 = .ok (.iadd, 1) := by decide +kernel
theorem dL_law_834 : decode code 834 = .ok (.iaload, 1) := by decide +kernel
theorem dL_law_835 : decode code 835 = .ok (.invokevirtual 96, 3) := by decide +kernel
theorem dL_law_838 : decode code 838 = .ok (.pop, 1) := by decide +kernel
theorem dL_law_839 : decode code 839 = .ok (.goto 1551, 3) := by decide +kernel
theorem dL_law_842 : decode code 842 = .ok (.aload_n 1, 1) := by decide +kernel
theorem dL_law_843 : decode code 843 = .ok (.aload_n 0, 1) := by decide +kernel
theorem dL_law_844 : decode code 844 = .ok (.iload_n 3, 1) := by decide +kernel
theorem dL_law_845 : decode code 845 = .ok (.iconst 1, 1) := by decide +kernel
theorem dL_law_846 : decode code 846 = .ok (.iadd, 1) := by decide +kernel
theorem dL_law_847 : decode code 847 = .ok (.iaload, 1) := by decide +kernel
theorem dL_law_848 : decode code 848 = .ok (.aload_n 0, 1) := by decide +kernel
theorem dL_law_849 : decode code 849 = .ok (.iload_n 3, 1) := by decide +kernel
theorem dL_law_850 : decode code 850 = .ok (.iconst 2, 1) := by decide +kernel
theorem dL_law_851 : decode code 851 = .ok (.iadd, 1) := by decide +kernel
theorem dL_law_852 : decode code 852 = .ok (.iaload, 1) := by decide +kernel
theorem dL_law_853 : decode code 853 = .ok (.invokevirtual 97, 3) := by decide +kernel
theorem dL_law_856 : decode code 856 = .ok (.pop, 1) := by decide +kernel
theorem dL_law_857 : decode code 857 = .ok (.aload_n 2, 1) := by decide +kernel
theorem dL_law_858 : decode code 858 = .ok (.aload_n 0, 1) := by decide +kernel
theorem dL_law_859 : decode code 859 = .ok (.iload_n 3, 1) := by decide +kernel
theorem dL_law_860 : decode code 860 = .ok (.iconst 1, 1) := by decide +kernel
theorem dL_law_861 : decode code 861 = .ok (.iadd, 1) := by decide +kernel
theorem dL_law_862 : decode code 862 = .ok (.iaload, 1) := by decide +kernel
theorem dL_law_863 : decode code 863 = .ok (.aload_n 0, 1) := by decide +kernel
theorem dL_law_864 : decode code 864 = .ok (.iload_n 3, 1) := by decide +kernel
theorem dL_law_865 : decode code 865 = .ok (.iconst 2, 1) := by decide +kernel
theorem dL_law_866 : decode code 866 = .ok (.iadd, 1) := by decide +kernel
theorem dL_law_867 : decode code 867 = .ok (.iaload, 1) := by decide +kernel
theorem dL_law_868 : decode code 868 = .ok (.invokevirtual 100, 3) := by decide +kernel
theorem dL_law_871 : decode code 871 = .ok (.pop, 1) := by decide +kernel
theorem dL_law_872 : decode code 872 = .ok (.goto 1518, 3) := by decide +kernel
theorem dL_law_875 : decode code 875 = .ok (.aload_n 1, 1) := by decide +kernel
theorem dL_law_876 : decode code 876 = .ok (.aload_n 0, 1) := by decide +kernel
theorem dL_law_877 : decode code 877 = .ok (.iload_n 3, 1) := by decide +kernel
theorem dL_law_878 : decode code 878 = .ok (.iconst 1, 1) := by decide +kernel
theorem dL_law_879 : decode code 879 = .ok (.iadd, 1) := by decide +kernel
theorem dL_law_880 : decode code 880 = .ok (.iaload, 1) := by decide +kernel
theorem dL_law_881 : decode code 881 = .ok (.aload_n 0, 1) := by decide +kernel
theorem dL_law_882 : decode code 882 = .ok (.iload_n 3, 1) := by decide +kernel
theorem dL_law_883 : decode code 883 = .ok (.iconst 2, 1) := by decide +kernel
theorem dL_law_884 : decode code 884 = .ok (.iadd, 1) := by decide +kernel
theorem dL_law_885 : decode code 885 = .ok (.iaload, 1) := by decide +kernel
theorem dL_law_886 : decode code 886 = .ok (.invokevirtual 101, 3) := by decide +kernel
theorem dL_law_889 : decode code 889 = .ok (.pop, 1) := by decide +kernel
theorem dL_law_890 : decode code 890 = .ok (.aload_n 2, 1) := by decide +kernel
theorem dL_law_891 : decode code 891 = .ok (.aload_n 0, 1) := by decide +kernel
theorem dL_law_892 : decode code 892 = .ok (.iload_n 3, 1) := by decide +kernel
theorem dL_law_893 : decode code 893 = .ok (.iconst 1, 1) := by decide +kernel
theorem dL_law_894 : decode code 894 = .ok (.iadd, 1) := by decide +kernel
theorem dL_law_895 : decode code 895 = .ok (.iaload, 1) := by decide +kernel
theorem dL_law_896 : decode code 896 = .ok (.aload_n 0, 1) := by decide +kernel
theorem dL_law_897 : decode code 897 = .ok (.iload_n 3, 1) := by decide +kernel
theorem dL_law_898 : decode code 898 = .ok (.iconst 2, 1) := by decide +kernel
theorem dL_law_899 : decode code 899 = .ok (.iadd, 1) := by decide +kernel
theorem dL_law_900 : decode code 900 = .ok (.iaload, 1) := by decide +kernel
theorem dL_law_901 : decode code 901 = .ok (.invokevirtual 104, 3) := by decide +kernel
theorem dL_law_904 : decode code 904 = .ok (.pop, 1) := by decide +kernel
theorem dL_law_905 : decode code 905 = .ok (.goto 1485, 3) := by decide +kernel
theorem dL_law_908 : decode code 908 = .ok (.aload_n 1, 1) := by decide +kernel
theorem dL_law_909 : decode code 909 = .ok (.aload_n 0, 1) := by decide +kernel
theorem dL_law_910 : decode code 910 = .ok (.iload_n 3, 1) := by decide +kernel
theorem dL_law_911 : decode code 911 = .ok (.iconst 1, 1) := by decide +kernel
theorem dL_law_912 : decode code 912 = .ok (.iadd, 1) := by decide +kernel
theorem dL_law_913 : decode code 913 = .ok (.iaload, 1) := by decide +kernel
theorem dL_law_914 : decode code 914 = .ok (.aload_n 0, 1) := by decide +kernel
theorem dL_law_915 : decode code 915 = .ok (.iload_n 3, 1) := by decide +kernel
theorem dL_law_916 : decode code 916 = .ok (.iconst 2, 1) := by decide +kernel
theorem dL_law_917 : decode code 917 = .ok (.iadd, 1) := by decide +kernel
theorem dL_law_918 : decode code 918 = .ok (.iaload, 1) := by decide +kernel
theorem dL_law_919 : decode code 919 = .ok (.aload_n 0, 1) := by decide +kernel
theorem dL_law_920 : decode code 920 = .ok (.iload_n 3, 1) := by decide +kernel
theorem dL_law_921 : decode code 921 = .ok (.iconst 3, 1) := by decide +kernel
theorem dL_law_922 : decode code 922 = .ok (.iadd, 1) := by decide +kernel
theorem dL_law_923 : decode code 923 = .ok (.iaload, 1) := by decide +kernel
theorem dL_law_924 : decode code 924 = .ok (.invokevirtual 105, 3) := by decide +kernel
theorem dL_law_927 : decode code 927 = .ok (.pop, 1) := by decide +kernel
theorem dL_law_928 : decode code 928 = .ok (.aload_n 2, 1) := by decide +kernel
theorem dL_law_929 : decode code 929 = .ok (.aload_n 0, 1) := by decide +kernel
theorem dL_law_930 : decode code 930 = .ok (.iload_n 3, 1) := by decide +kernel
theorem dL_law_931 : decode code 931 = .ok (.iconst 1, 1) := by decide +kernel
theorem dL_law_932 : decode code 932 = .ok (.iadd, 1) := by decide +kernel
theorem dL_law_933 : decode code 933 = .ok (.iaload, 1) := by decide +kernel
theorem dL_law_934 : decode code 934 = .ok (.aload_n 0, 1) := by decide +kernel
theorem dL_law_935 : decode code 935 = .ok (.iload_n 3, 1) := by decide +kernel
theorem dL_law_936 : decode code 936 = .ok (.iconst 2, 1) := by decide +kernel
theorem dL_law_937 : decode code 937 = .ok (.iadd, 1) := by decide +kernel
theorem dL_law_938 : decode code 938 = .ok (.iaload, 1) := by decide +kernel
theorem dL_law_939 : decode code 939 = .ok (.aload_n 0, 1) := by decide +kernel
theorem dL_law_940 : decode code 940 = .ok (.iload_n 3, 1) := by decide +kernel
theorem dL_law_941 : decode code 941 = .ok (.iconst 3, 1) := by decide +kernel
theorem dL_law_942 : decode code 942 = .ok (.iadd, 1) := by decide +kernel
theorem dL_law_943 : decode code 943 = .ok (.iaload, 1) := by decide +kernel
theorem dL_law_944 : decode code 944 = .ok (.invokevirtual 109, 3) := by decide +kernel
theorem dL_law_947 : decode code 947 = .ok (.pop, 1) := by decide +kernel
theorem dL_law_948 : decode code 948 = .ok (.goto 1442, 3) := by decide +kernel
theorem dL_law_951 : decode code 951 = .ok (.aload_n 1, 1) := by decide +kernel
theorem dL_law_952 : decode code 952 = .ok (.aload_n 0, 1) := by decide +kernel
theorem dL_law_953 : decode code 953 = .ok (.iload_n 3, 1) := by decide +kernel
theorem dL_law_954 : decode code 954 = .ok (.iconst 1, 1) := by decide +kernel
theorem dL_law_955 : decode code 955 = .ok (.iadd, 1) := by decide +kernel
theorem dL_law_956 : decode code 956 = .ok (.iaload, 1) := by decide +kernel
theorem dL_law_957 : decode code 957 = .ok (.invokevirtual 110, 3) := by decide +kernel
theorem dL_law_960 : decode code 960 = .ok (.pop, 1) := by decide +kernel
theorem dL_law_961 : decode code 961 = .ok (.aload_n 2, 1) := by decide +kernel
theorem dL_law_962 : decode code 962 = .ok (.aload_n 0, 1) := by decide +kernel
theorem dL_law_963 : decode code 963 = .ok (.iload_n 3, 1) := by decide +kernel
theorem dL_law_964 : decode code 964 = .ok (.iconst 1, 1) := by decide +kernel
theorem dL_law_965 : decode code 965 = .ok (.iadd, 1) := by decide +kernel
theorem dL_law_966 : decode code 966 = .ok (.iaload, 1) := by decide +kernel
theorem dL_law_967 : decode code 967 = .ok (.invokevirtual 113, 3) := by decide +kernel
theorem dL_law_970 : decode code 970 = .ok (.pop, 1) := by decide +kernel
theorem dL_law_971 : decode code 971 = .ok (.goto 1419, 3) := by decide +kernel
theorem dL_law_974 : decode code 974 = .ok (.aload_n 1, 1) := by decide +kernel
theorem dL_law_975 : decode code 975 = .ok (.aload_n 0, 1) := by decide +kernel
theorem dL_law_976 : decode code 976 = .ok (.iload_n 3, 1) := by decide +kernel
theorem dL_law_977 : decode code 977 = .ok (.iconst 1, 1) := by decide +kernel
theorem dL_law_978 : decode code 978 = .ok (.iadd, 1) := by decide +kernel
theorem dL_law_979 : decode code 979 = .ok (.iaload, 1) := by decide +kernel
theorem dL_law_980 : decode code 980 = .ok (.invokevirtual 114, 3) := by decide +kernel
theorem dL_law_983 : decode code 983 = .ok (.pop, 1) := by decide +kernel
theorem dL_law_984 : decode code 984 = .ok (.aload_n 2, 1) := by decide +kernel
theorem dL_law_985 : decode code 985 = .ok (.aload_n 0, 1) := by decide +kernel
theorem dL_law_986 : decode code 986 = .ok (.iload_n 3, 1) := by decide +kernel
theorem dL_law_987 : decode code 987 = .ok (.iconst 1, 1) := by decide +kernel
theorem dL_law_988 : decode code 988 = .ok (.iadd, 1) := by decide +kernel
theorem dL_law_989 : decode code 989 = .ok (.iaload, 1) := by decide +kernel
theorem dL_law_990 : decode code 990 = .ok (.invokevirtual 117, 3) := by decide +kernel
theorem dL_law_993 : decode code 993 = .ok (.pop, 1) := by decide +kernel
theorem dL_law_994 : decode code 994 = .ok (.goto 1396, 3) := by decide +kernel
theorem dL_law_997 : decode code 997 = .ok (.aload_n 1, 1) := by decide +kernel
theorem dL_law_998 : decode code 998 = .ok (.aload_n 0, 1) := by decide +kernel
theorem dL_law_999 : decode code 999 = .ok (.iload_n 3, 1) := by decide +kernel
theorem dL_law_1000 : decode code 1000 = .ok (.iconst 1, 1) := by decide +kernel
theorem dL_law_1001 : decode code 1001 = .ok (.iadd, 1) := by decide +kernel
theorem dL_law_1002 : decode code 1002 = .ok (.iaload, 1) := by decide +kernel
theorem dL_law_1003 : decode code 1003 = .ok (.aload_n 0, 1) := by decide +kernel
theorem dL_law_1004 : decode code 1004 = .ok (.iload_n 3, 1) := by decide +kernel
theorem dL_law_1005 : decode code 1005 = .ok (.iconst 2, 1) := by decide +kernel
theorem dL_law_1006 : decode code 1006 = .ok (.iadd, 1) := by decide +kernel
theorem dL_law_1007 : decode code 1007 = .ok (.iaload, 1) := by decide +kernel
theorem dL_law_1008 : decode code 1008 = .ok (.invokevirtual 118, 3) := by decide +kernel
theorem dL_law_1011 : decode code 1011 = .ok (.pop, 1) := by decide +kernel
theorem dL_law_1012 : decode code 1012 = .ok (.aload_n 2, 1) := by decide +kernel
theorem dL_law_1013 : decode code 1013 = .ok (.aload_n 0, 1) := by decide +kernel
theorem dL_law_1014 : decode code 1014 = .ok (.iload_n 3, 1) := by decide +kernel
theorem dL_law_1015 : decode code 1015 = .ok (.iconst 1, 1) := by decide +kernel
theorem dL_law_1016 : decode code 1016 = .ok (.iadd, 1) := by decide +kernel
theorem dL_law_1017 : decode code 1017 = .ok (.iaload, 1) := by decide +kernel
theorem dL_law_1018 : decode code 1018 = .ok (.aload_n 0, 1) := by decide +kernel
theorem dL_law_1019 : decode code 1019 = .ok (.iload_n 3, 1) := by decide +kernel
theorem dL_law_1020 : decode code 1020 = .ok (.iconst 2, 1) := by decide +kernel
theorem dL_law_1021 : decode code 1021 = .ok (.iadd, 1) := by decide +kernel
theorem dL_law_1022 : decode code 1022 = .ok (.iaload, 1) := by decide +kernel
theorem dL_law_1023 : decode code 1023 = .ok (.invokevirtual 121, 3) := by decide +kernel
theorem dL_law_1026 : decode code 1026 = .ok (.pop, 1) := by decide +kernel
theorem dL_law_1027 : decode code 1027 = .ok (.goto 1363, 3) := by decide +kernel
theorem dL_law_1030 : decode code 1030 = .ok (.aload_n 1, 1) := by decide +kernel
theorem dL_law_1031 : decode code 1031 = .ok (.aload_n 0, 1) := by decide +kernel
theorem dL_law_1032 : decode code 1032 = .ok (.iload_n 3, 1) := by decide +kernel
theorem dL_law_1033 : decode code 1033 = .ok (.iconst 1, 1) := by decide +kernel
theorem dL_law_1034 : decode code 1034 = .ok (.iadd, 1) := by decide +kernel
theorem dL_law_1035 : decode code 1035 = .ok (.iaload, 1) := by decide +kernel
theorem dL_law_1036 : decode code 1036 = .ok (.invokevirtual 122, 3) := by decide +kernel
theorem dL_law_1039 : decode code 1039 = .ok (.pop, 1) := by decide +kernel
theorem dL_law_1040 : decode code 1040 = .ok (.aload_n 2, 1) := by decide +kernel
theorem dL_law_1041 : decode code 1041 = .ok (.aload_n 0, 1) := by decide +kernel
theorem dL_law_1042 : decode code 1042 = .ok (.iload_n 3, 1) := by decide +kernel
theorem dL_law_1043 : decode code 1043 = .ok (.iconst 1, 1) := by decide +kernel
theorem dL_law_1044 : decode code 1044 = .ok (.iadd, 1) := by decide +kernel
theorem dL_law_1045 : decode code 1045 = .ok (.iaload, 1) := by decide +kernel
theorem dL_law_1046 : decode code 1046 = .ok (.invokevirtual 125, 3) := by decide +kernel
theorem dL_law_1049 : decode code 1049 = .ok (.pop, 1) := by decide +kernel
theorem dL_law_1050 : decode code 1050 = .ok (.goto 1340, 3) := by decide +kernel
theorem dL_law_1053 : decode code 1053 = .ok (.aload_n 1, 1) := by decide +kernel
theorem dL_law_1054 : decode code 1054 = .ok (.aload_n 0, 1) := by decide +kernel
theorem dL_law_1055 : decode code 1055 = .ok (.iload_n 3, 1) := by decide +kernel
theorem dL_law_1056 : decode code 1056 = .ok (.iconst 1, 1) := by decide +kernel
theorem dL_law_1057 : decode code 1057 = .ok (.iadd, 1) := by decide +kernel
theorem dL_law_1058 : decode code 1058 = .ok (.iaload, 1) := by decide +kernel
theorem dL_law_1059 : decode code 1059 = .ok (.invokevirtual 126, 3) := by decide +kernel
theorem dL_law_1062 : decode code 1062 = .ok (.pop, 1) := by decide +kernel
theorem dL_law_1063 : decode code 1063 = .ok (.aload_n 2, 1) := by decide +kernel
theorem dL_law_1064 : decode code 1064 = .ok (.aload_n 0, 1) := by decide +kernel
theorem dL_law_1065 : decode code 1065 = .ok (.iload_n 3, 1) := by decide +kernel
theorem dL_law_1066 : decode code 1066 = .ok (.iconst 1, 1) := by decide +kernel
theorem dL_law_1067 : decode code 1067 = .ok (.iadd, 1) := by decide +kernel
theorem dL_law_1068 : decode code 1068 = .ok (.iaload, 1) := by decide +kernel
theorem dL_law_1069 : decode code 1069 = .ok (.invokevirtual 129, 3) := by decide +kernel
theorem dL_law_1072 : decode code 1072 = .ok (.pop, 1) := by decide +kernel
theorem dL_law_1073 : decode code 1073 = .ok (.goto 1317, 3) := by decide +kernel
theorem dL_law_1076 : decode code 1076 = .ok (.aload_n 1, 1) := by decide +kernel
theorem dL_law_1077 : decode code 1077 = .ok (.aload_n 0, 1) := by decide +kernel
theorem dL_law_1078 : decode code 1078 = .ok (.iload_n 3, 1) := by decide +kernel
theorem dL_law_1079 : decode code 1079 = .ok (.iconst 1, 1) := by decide +kernel
theorem dL_law_1080 : decode code 1080 = .ok (.iadd, 1) := by decide +kernel
theorem dL_law_1081 : decode code 1081 = .ok (.iaload, 1) := by decide +kernel
theorem dL_law_1082 : decode code 1082 = .ok (.invokevirtual 130, 3) := by decide +kernel
theorem dL_law_1085 : decode code 1085 = .ok (.pop, 1) := by decide +kernel
theorem dL_law_1086 : decode code 1086 = .ok (.aload_n 2, 1) := by decide +kernel
theorem dL_law_1087 : decode code 1087 = .ok (.aload_n 0, 1) := by decide +kernel
theorem dL_law_1088 : decode code 1088 = .ok (.iload_n 3, 1) := by decide +kernel
theorem dL_law_1089 : decode code 1089 = .ok (.iconst 1, 1) := by decide +kernel
theorem dL_law_1090 : decode code 1090 = .ok (.iadd, 1) := by decide +kernel
theorem dL_law_1091 : decode code 1091 = .ok (.iaload, 1) := by decide +kernel
theorem dL_law_1092 : decode code 1092 = .ok (.invokevirtual 133, 3) := by decide +kernel
theorem dL_law_1095 : decode code 1095 = .ok (.pop, 1) := by decide +kernel
theorem dL_law_1096 : decode code 1096 = .ok (.goto 1294, 3) := by decide +kernel
theorem dL_law_1099 : decode code 1099 = .ok (.aload_n 1, 1) := by decide +kernel
theorem dL_law_1100 : decode code 1100 = .ok (.aload_n 0, 1) := by decide +kernel
theorem dL_law_1101 : decode code 1101 = .ok (.iload_n 3, 1) := by decide +kernel
theorem dL_law_1102 : decode code 1102 = .ok (.iconst 1, 1) := by decide +kernel
theorem dL_law_1103 : decode code 1103 = .ok (.iadd, 1) := by decide +kernel
theorem dL_law_1104 : decode code 1104 = .ok (.iaload, 1) := by decide +kernel
theorem dL_law_1105 : decode code 1105 = .ok (.invokevirtual 134, 3) := by decide +kernel
theorem dL_law_1108 : decode code 1108 = .ok (.pop, 1) := by decide +kernel
theorem dL_law_1109 : decode code 1109 = .ok (.aload_n 2, 1) := by decide +kernel
theorem dL_law_1110 : decode code 1110 = .ok (.aload_n 0, 1) := by decide +kernel
theorem dL_law_1111 : decode code 1111 = .ok (.iload_n 3, 1) := by decide +kernel
theorem dL_law_1112 : decode code 1112 = .ok (.iconst 1, 1) := by decide +kernel
theorem dL_law_1113 : decode code 1113 = .ok (.iadd, 1) := by decide +kernel
theorem dL_law_1114 : decode code 1114 = .ok (.iaload, 1) := by decide +kernel
theorem dL_law_1115 : decode code 1115 = .ok (.invokevirtual 137, 3) := by decide +kernel
theorem dL_law_1118 : decode code 1118 = .ok (.pop, 1) := by decide +kernel
theorem dL_law_1119 : decode code 1119 = .ok (.goto 1271, 3) := by decide +kernel
theorem dL_law_1122 : decode code 1122 = .ok (.aload_n 1, 1) := by decide +kernel
theorem dL_law_1123 : decode code 1123 = .ok (.aload_n 0, 1) := by decide +kernel
theorem dL_law_1124 : decode code 1124 = .ok (.iload_n 3, 1) := by decide +kernel
theorem dL_law_1125 : decode code 1125 = .ok (.iconst 1, 1) := by decide +kernel
theorem dL_law_1126 : decode code 1126 = .ok (.iadd, 1) := by decide +kernel
theorem dL_law_1127 : decode code 1127 = .ok (.iaload, 1) := by decide +kernel
theorem dL_law_1128 : decode code 1128 = .ok (.invokevirtual 138, 3) := by decide +kernel
theorem dL_law_1131 : decode code 1131 = .ok (.pop, 1) := by decide +kernel
theorem dL_law_1132 : decode code 1132 = .ok (.aload_n 2, 1) := by decide +kernel
theorem dL_law_1133 : decode code 1133 = .ok (.aload_n 0, 1) := by decide +kernel
theorem dL_law_1134 : decode code 1134 = .ok (.iload_n 3, 1) := by decide +kernel
theorem dL_law_1135 : decode code 1135 = .ok (.iconst 1, 1) := by decide +kernel
theorem dL_law_1136 : decode code 1136 = .ok (.iadd, 1) := by decide +kernel
theorem dL_law_1137 : decode code 1137 = .ok (.iaload, 1) := by decide +kernel
theorem dL_law_1138 : decode code 1138 = .ok (.invokevirtual 141, 3) := by decide +kernel
theorem dL_law_1141 : decode code 1141 = .ok (.pop, 1) := by decide +kernel
theorem dL_law_1142 : decode code 1142 = .ok (.goto 1248, 3) := by decide +kernel
theorem dL_law_1145 : decode code 1145 = .ok (.aload_n 1, 1) := by decide +kernel
theorem dL_law_1146 : decode code 1146 = .ok (.aload_n 0, 1) := by decide +kernel
theorem dL_law_1147 : decode code 1147 = .ok (.iload_n 3, 1) := by decide +kernel
theorem dL_law_1148 : decode code 1148 = .ok (.iconst 1, 1) := by decide +kernel
theorem dL_law_1149 : decode code 1149 = .ok (.iadd, 1) := by decide +kernel
theorem dL_law_1150 : decode code 1150 = .ok (.iaload, 1) := by decide +kernel
theorem dL_law_1151 : decode code 1151 = .ok (.invokevirtual 142, 3) := by decide +kernel
theorem dL_law_1154 : decode code 1154 = .ok (.pop, 1) := by decide +kernel
theorem dL_law_1155 : decode code 1155 = .ok (.aload_n 2, 1) := by decide +kernel
theorem dL_law_1156 : decode code 1156 = .ok (.aload_n 0, 1) := by decide +kernel
theorem dL_law_1157 : decode code 1157 = .ok (.iload_n 3, 1) := by decide +kernel
theorem dL_law_1158 : decode code 1158 = .ok (.iconst 1, 1) := by decide +kernel
theorem dL_law_1159 : decode code 1159 = .ok (.iadd, 1) := by decide +kernel
theorem dL_law_1160 : decode code 1160 = .ok (.iaload, 1) := by decide +kernel
theorem dL_law_1161 : decode code 1161 = .ok (.invokevirtual 145, 3) := by decide +kernel
theorem dL_law_1164 : decode code 1164 = .ok (.pop, 1) := by decide +kernel
theorem dL_law_1165 : decode code 1165 = .ok (.goto 1225, 3) := by decide +kernel
theorem dL_law_1168 : decode code 1168 = .ok (.aload_n 1, 1) := by decide +kernel
theorem dL_law_1169 : decode code 1169 = .ok (.aload_n 0, 1) := by decide +kernel
theorem dL_law_1170 : decode code 1170 = .ok (.iload_n 3, 1) := by decide +kernel
theorem dL_law_1171 : decode code 1171 = .ok (.iconst 1, 1) := by decide +kernel
theorem dL_law_1172 : decode code 1172 = .ok (.iadd, 1) := by decide +kernel
theorem dL_law_1173 : decode code 1173 = .ok (.iaload, 1) := by decide +kernel
theorem dL_law_1174 : decode code 1174 = .ok (.aload_n 0, 1) := by decide +kernel
theorem dL_law_1175 : decode code 1175 = .ok (.iload_n 3, 1) := by decide +kernel
theorem dL_law_1176 : decode code 1176 = .ok (.iconst 2, 1) := by decide +kernel
theorem dL_law_1177 : decode code 1177 = .ok (.iadd, 1) := by decide +kernel
theorem dL_law_1178 : decode code 1178 = .ok (.iaload, 1) := by decide +kernel
theorem dL_law_1179 : decode code 1179 = .ok (.invokevirtual 146, 3) := by decide +kernel
theorem dL_law_1182 : decode code 1182 = .ok (.pop, 1) := by decide +kernel
theorem dL_law_1183 : decode code 1183 = .ok (.aload_n 2, 1) := by decide +kernel
theorem dL_law_1184 : decode code 1184 = .ok (.aload_n 0, 1) := by decide +kernel
theorem dL_law_1185 : decode code 1185 = .ok (.iload_n 3, 1) := by decide +kernel
theorem dL_law_1186 : decode code 1186 = .ok (.iconst 1, 1) := by decide +kernel
theorem dL_law_1187 : decode code 1187 = .ok (.iadd, 1) := by decide +kernel
theorem dL_law_1188 : decode code 1188 = .ok (.iaload, 1) := by decide +kernel
theorem dL_law_1189 : decode code 1189 = .ok (.aload_n 0, 1) := by decide +kernel
theorem dL_law_1190 : decode code 1190 = .ok (.iload_n 3, 1) := by decide +kernel
theorem dL_law_1191 : decode code 1191 = .ok (.iconst 2, 1) := by decide +kernel
theorem dL_law_1192 : decode code 1192 = .ok (.iadd, 1) := by decide +kernel
theorem dL_law_1193 : decode code 1193 = .ok (.iaload, 1) := by decide +kernel
theorem dL_law_1194 : decode code 1194 = .ok (.invokevirtual 149, 3) := by decide +kernel
theorem dL_law_1197 : decode code 1197 = .ok (.pop, 1) := by decide +kernel
theorem dL_law_1198 : decode code 1198 = .ok (.goto 1192, 3) := by decide +kernel
theorem dL_law_1201 : decode code 1201 = .ok (.aload_n 1, 1) := by decide +kernel
theorem dL_law_1202 : decode code 1202 = .ok (.aload_n 0, 1) := by decide +kernel
theorem dL_law_1203 : decode code 1203 = .ok (.iload_n 3, 1) := by decide +kernel
theorem dL_law_1204 : decode code 1204 = .ok (.iconst 1, 1) := by decide +kernel
theorem dL_law_1205 : decode code 1205 = .ok (.iadd, 1) := by decide +kernel
theorem dL_law_1206 : decode code 1206 = .ok (.iaload, 1) := by decide +kernel
theorem dL_law_1207 : decode code 1207 = .ok (.invokevirtual 150, 3) := by decide +kernel
theorem dL_law_1210 : decode code 1210 = .ok (.pop, 1) := by decide +kernel
theorem dL_law_1211 : decode code 1211 = .ok (.aload_n 2, 1) := by decide +kernel
theorem dL_law_1212 : decode code 1212 = .ok (.aload_n 0, 1) := by decide +kernel
theorem dL_law_1213 : decode code 1213 = .ok (.iload_n 3, 1) := by decide +kernel
theorem dL_law_1214 : decode code 1214 = .ok (.iconst 1, 1) := by decide +kernel
theorem dL_law_1215 : decode code 1215 = .ok (.iadd, 1) := by decide +kernel
theorem dL_law_1216 : decode code 1216 = .ok (.iaload, 1) := by decide +kernel
theorem dL_law_1217 : decode code 1217 = .ok (.invokevirtual 153, 3) := by decide +kernel
theorem dL_law_1220 : decode code 1220 = .ok (.pop, 1) := by decide +kernel
theorem dL_law_1221 : decode code 1221 = .ok (.goto 1169, 3) := by decide +kernel
theorem dL_law_1224 : decode code 1224 = .ok (.aload_n 1, 1) := by decide +kernel
theorem dL_law_1225 : decode code 1225 = .ok (.aload_n 0, 1) := by decide +kernel
theorem dL_law_1226 : decode code 1226 = .ok (.iload_n 3, 1) := by decide +kernel
theorem dL_law_1227 : decode code 1227 = .ok (.iconst 1, 1) := by decide +kernel
theorem dL_law_1228 : decode code 1228 = .ok (.iadd, 1) := by decide +kernel
theorem dL_law_1229 : decode code 1229 = .ok (.iaload, 1) := by decide +kernel
theorem dL_law_1230 : decode code 1230 = .ok (.invokevirtual 154, 3) := by decide +kernel
theorem dL_law_1233 : decode code 1233 = .ok (.pop, 1) := by decide +kernel
theorem dL_law_1234 : decode code 1234 = .ok (.aload_n 2, 1) := by decide +kernel
theorem dL_law_1235 : decode code 1235 = .ok (.aload_n 0, 1) := by decide +kernel
theorem dL_law_1236 : decode code 1236 = .ok (.iload_n 3, 1) := by decide +kernel
theorem dL_law_1237 : decode code 1237 = .ok (.iconst 1, 1) := by decide +kernel
theorem dL_law_1238 : decode code 1238 = .ok (.iadd, 1) := by decide +kernel
theorem dL_law_1239 : decode code 1239 = .ok (.iaload, 1) := by decide +kernel
theorem dL_law_1240 : decode code 1240 = .ok (.invokevirtual 157, 3) := by decide +kernel
theorem dL_law_1243 : decode code 1243 = .ok (.pop, 1) := by decide +kernel
theorem dL_law_1244 : decode code 1244 = .ok (.goto 1146, 3) := by decide +kernel
theorem dL_law_1247 : decode code 1247 = .ok (.aload_n 1, 1) := by decide +kernel
theorem dL_law_1248 : decode code 1248 = .ok (.aload_n 0, 1) := by decide +kernel
theorem dL_law_1249 : decode code 1249 = .ok (.iload_n 3, 1) := by decide +kernel
theorem dL_law_1250 : decode code 1250 = .ok (.iconst 1, 1) := by decide +kernel
theorem dL_law_1251 : decode code 1251 = .ok (.iadd, 1) := by decide +kernel
theorem dL_law_1252 : decode code 1252 = .ok (.iaload, 1) := by decide +kernel
theorem dL_law_1253 : decode code 1253 = .ok (.invokevirtual 158, 3) := by decide +kernel
theorem dL_law_1256 : decode code 1256 = .ok (.pop, 1) := by decide +kernel
theorem dL_law_1257 : decode code 1257 = .ok (.aload_n 2, 1) := by decide +kernel
theorem dL_law_1258 : decode code 1258 = .ok (.aload_n 0, 1) := by decide +kernel
theorem dL_law_1259 : decode code 1259 = .ok (.iload_n 3, 1) := by decide +kernel
theorem dL_law_1260 : decode code 1260 = .ok (.iconst 1, 1) := by decide +kernel
theorem dL_law_1261 : decode code 1261 = .ok (.iadd, 1) := by decide +kernel
theorem dL_law_1262 : decode code 1262 = .ok (.iaload, 1) := by decide +kernel
theorem dL_law_1263 : decode code 1263 = .ok (.invokevirtual 161, 3) := by decide +kernel
theorem dL_law_1266 : decode code 1266 = .ok (.pop, 1) := by decide +kernel
theorem dL_law_1267 : decode code 1267 = .ok (.goto 1123, 3) := by decide +kernel
theorem dL_law_1270 : decode code 1270 = .ok (.aload_n 1, 1) := by decide +kernel
theorem dL_law_1271 : decode code 1271 = .ok (.aload_n 0, 1) := by decide +kernel
theorem dL_law_1272 : decode code 1272 = .ok (.iload_n 3, 1) := by decide +kernel
theorem dL_law_1273 : decode code 1273 = .ok (.iconst 1, 1) := by decide +kernel
theorem dL_law_1274 : decode code 1274 = .ok (.iadd, 1) := by decide +kernel
theorem dL_law_1275 : decode code 1275 = .ok (.iaload, 1) := by decide +kernel
theorem dL_law_1276 : decode code 1276 = .ok (.invokevirtual 162, 3) := by decide +kernel
theorem dL_law_1279 : decode code 1279 = .ok (.pop, 1) := by decide +kernel
theorem dL_law_1280 : decode code 1280 = .ok (.aload_n 2, 1) := by decide +kernel
theorem dL_law_1281 : decode code 1281 = .ok (.aload_n 0, 1) := by decide +kernel
theorem dL_law_1282 : decode code 1282 = .ok (.iload_n 3, 1) := by decide +kernel
theorem dL_law_1283 : decode code 1283 = .ok (.iconst 1, 1) := by decide +kernel
theorem dL_law_1284 : decode code 1284 = .ok (.iadd, 1) := by decide +kernel
theorem dL_law_1285 : decode code 1285 = .ok (.iaload, 1) := by decide +kernel
theorem dL_law_1286 : decode code 1286 = .ok (.invokevirtual 165, 3) := by decide +kernel
theorem dL_law_1289 : decode code 1289 = .ok (.pop, 1) := by decide +kernel
theorem dL_law_1290 : decode code 1290 = .ok (.goto 1100, 3) := by decide +kernel
theorem dL_law_1293 : decode code 1293 = .ok (.aload_n 1, 1) := by decide +kernel
theorem dL_law_1294 : decode code 1294 = .ok (.aload_n 0, 1) := by decide +kernel
theorem dL_law_1295 : decode code 1295 = .ok (.iload_n 3, 1) := by decide +kernel
theorem dL_law_1296 : decode code 1296 = .ok (.iconst 1, 1) := by decide +kernel
theorem dL_law_1297 : decode code 1297 = .ok (.iadd, 1) := by decide +kernel
theorem dL_law_1298 : decode code 1298 = .ok (.iaload, 1) := by decide +kernel
theorem dL_law_1299 : decode code 1299 = .ok (.invokevirtual 166, 3) := by decide +kernel
theorem dL_law_1302 : decode code 1302 = .ok (.pop, 1) := by decide +kernel
theorem dL_law_1303 : decode code 1303 = .ok (.aload_n 2, 1) := by decide +kernel
theorem dL_law_1304 : decode code 1304 = .ok (.aload_n 0, 1) := by decide +kernel
theorem dL_law_1305 : decode code 1305 = .ok (.iload_n 3, 1) := by decide +kernel
theorem dL_law_1306 : decode code 1306 = .ok (.iconst 1, 1) := by decide +kernel
theorem dL_law_1307 : decode code 1307 = .ok (.iadd, 1) := by decide +kernel
theorem dL_law_1308 : decode code 1308 = .ok (.iaload, 1) := by decide +kernel
theorem dL_law_1309 : decode code 1309 = .ok (.invokevirtual 169, 3) := by decide +kernel
theorem dL_law_1312 : decode code 1312 = .ok (.pop, 1) := by decide +kernel
theorem dL_law_1313 : decode code 1313 = .ok (.goto 1077, 3) := by decide +kernel
theorem dL_law_1316 : decode code 1316 = .ok (.aload_n 1, 1) := by decide +kernel
theorem dL_law_1317 : decode code 1317 = .ok (.aload_n 0, 1) := by decide +kernel
theorem dL_law_1318 : decode code 1318 = .ok (.iload_n 3, 1) := by decide +kernel
theorem dL_law_1319 : decode code 1319 = .ok (.iconst 1, 1) := by decide +kernel
theorem dL_law_1320 : decode code 1320 = .ok (.iadd, 1) := by decide +kernel
theorem dL_law_1321 : decode code 1321 = .ok (.iaload, 1) := by decide +kernel
theorem dL_law_1322 : decode code 1322 = .ok (.aload_n 0, 1) := by decide +kernel
theorem dL_law_1323 : decode code 1323 = .ok (.iload_n 3, 1) := by decide +kernel
theorem dL_law_1324 : decode code 1324 = .ok (.iconst 2, 1) := by decide +kernel
theorem dL_law_1325 : decode code 1325 = .ok (.iadd, 1) := by decide +kernel
theorem dL_law_1326 : decode code 1326 = .ok (.iaload, 1) := by decide +kernel
theorem dL_law_1327 : decode code 1327 = .ok (.invokevirtual 170, 3) := by decide +kernel
theorem dL_law_1330 : decode code 1330 = .ok (.pop, 1) := by decide +kernel
theorem dL_law_1331 : decode code 1331 = .ok (.aload_n 2, 1) := by decide +kernel
theorem dL_law_1332 : decode code 1332 = .ok (.aload_n 0, 1) := by decide +kernel
theorem dL_law_1333 : decode code 1333 = .ok (.iload_n 3, 1) := by decide +kernel
theorem dL_law_1334 : decode code 1334 = .ok (.iconst 1, 1) := by decide +kernel
theorem dL_law_1335 : decode code 1335 = .ok (.iadd, 1) := by decide +kernel
theorem dL_law_1336 : decode code 1336 = .ok (.iaload, 1) := by decide +kernel
theorem dL_law_1337 : decode code 1337 = .ok (.aload_n 0, 1) := by decide +kernel
theorem dL_law_1338 : decode code 1338 = .ok (.iload_n 3, 1) := by decide +kernel
theorem dL_law_1339 : decode code 1339 = .ok (.iconst 2, 1) := by decide +kernel
theorem dL_law_1340 : decode code 1340 = .ok (.iadd, 1) := by decide +kernel
theorem dL_law_1341 : decode code 1341 = .ok (.iaload, 1) := by decide +kernel
theorem dL_law_1342 : decode code 1342 = .ok (.invokevirtual 173, 3) := by decide +kernel
theorem dL_law_1345 : decode code 1345 = .ok (.pop, 1) := by decide +kernel
theorem dL_law_1346 : decode code 1346 = .ok (.goto 1044, 3) := by decide +kernel
theorem dL_law_1349 : decode code 1349 = .ok (.aload_n 1, 1) := by decide +kernel
theorem dL_law_1350 : decode code 1350 = .ok (.aload_n 0, 1) := by decide +kernel
theorem dL_law_1351 : decode code 1351 = .ok (.iload_n 3, 1) := by decide +kernel
theorem dL_law_1352 : decode code 1352 = .ok (.iconst 1, 1) := by decide +kernel
theorem dL_law_1353 : decode code 1353 = .ok (.iadd, 1) := by decide +kernel
theorem dL_law_1354 : decode code 1354 = .ok (.iaload, 1) := by decide +kernel
theorem dL_law_1355 : decode code 1355 = .ok (.invokevirtual 174, 3) := by decide +kernel
theorem dL_law_1358 : decode code 1358 = .ok (.pop, 1) := by decide +kernel
theorem dL_law_1359 : decode code 1359 = .ok (.aload_n 2, 1) := by decide +kernel
theorem dL_law_1360 : decode code 1360 = .ok (.aload_n 0, 1) := by decide +kernel
theorem dL_law_1361 : decode code 1361 = .ok (.iload_n 3, 1) := by decide +kernel
theorem dL_law_1362 : decode code 1362 = .ok (.iconst 1, 1) := by decide +kernel
theorem dL_law_1363 : decode code 1363 = .ok (.iadd, 1) := by decide +kernel
theorem dL_law_1364 : decode code 1364 = .ok (.iaload, 1) := by decide +kernel
theorem dL_law_1365 : decode code 1365 = .ok (.invokevirtual 177, 3) := by decide +kernel
theorem dL_law_1368 : decode code 1368 = .ok (.pop, 1) := by decide +kernel
theorem dL_law_1369 : decode code 1369 = .ok (.goto 1021, 3) := by decide +kernel
theorem dL_law_1372 : decode code 1372 = .ok (.aload_n 1, 1) := by decide +kernel
theorem dL_law_1373 : decode code 1373 = .ok (.aload_n 0, 1) := by decide +kernel
theorem dL_law_1374 : decode code 1374 = .ok (.iload_n 3, 1) := by decide +kernel
theorem dL_law_1375 : decode code 1375 = .ok (.iconst 1, 1) := by decide +kernel
theorem dL_law_1376 : decode code 1376 = .ok (.iadd, 1) := by decide +kernel
theorem dL_law_1377 : decode code 1377 = .ok (.iaload, 1) := by decide +kernel
theorem dL_law_1378 : decode code 1378 = .ok (.invokevirtual 178, 3) := by decide +kernel
theorem dL_law_1381 : decode code 1381 = .ok (.pop, 1) := by decide +kernel
theorem dL_law_1382 : decode code 1382 = .ok (.aload_n 2, 1) := by decide +kernel
theorem dL_law_1383 : decode code 1383 = .ok (.aload_n 0, 1) := by decide +kernel
theorem dL_law_1384 : decode code 1384 = .ok (.iload_n 3, 1) := by decide +kernel
theorem dL_law_1385 : decode code 1385 = .ok (.iconst 1, 1) := by decide +kernel
theorem dL_law_1386 : decode code 1386 = .ok (.iadd, 1) := by decide +kernel
theorem dL_law_1387 : decode code 1387 = .ok (.iaload, 1) := by decide +kernel
theorem dL_law_1388 : decode code 1388 = .ok (.invokevirtual 181, 3) := by decide +kernel
theorem dL_law_1391 : decode code 1391 = .ok (.pop, 1) := by decide +kernel
theorem dL_law_1392 : decode code 1392 = .ok (.goto 998, 3) := by decide +kernel
theorem dL_law_1395 : decode code 1395 = .ok (.aload_n 1, 1) := by decide +kernel
theorem dL_law_1396 : decode code 1396 = .ok (.aload_n 0, 1) := by decide +kernel
theorem dL_law_1397 : decode code 1397 = .ok (.iload_n 3, 1) := by decide +kernel
theorem dL_law_1398 : decode code 1398 = .ok (.iconst 1, 1) := by decide +kernel
theorem dL_law_1399 : decode code 1399 = .ok (.iadd, 1) := by decide +kernel
theorem dL_law_1400 : decode code 1400 = .ok (.iaload, 1) := by decide +kernel
theorem dL_law_1401 : decode code 1401 = .ok (.aload_n 0, 1) := by decide +kernel
theorem dL_law_1402 : decode code 1402 = .ok (.iload_n 3, 1) := by decide +kernel
theorem dL_law_1403 : decode code 1403 = .ok (.iconst 2, 1) := by decide +kernel
theorem dL_law_1404 : decode code 1404 = .ok (.iadd, 1) := by decide +kernel
theorem dL_law_1405 : decode code 1405 = .ok (.iaload, 1) := by decide +kernel
theorem dL_law_1406 : decode code 1406 = .ok (.invokevirtual 182, 3) := by decide +kernel
theorem dL_law_1409 : decode code 1409 = .ok (.pop, 1) := by decide +kernel
theorem dL_law_1410 : decode code 1410 = .ok (.aload_n 2, 1) := by decide +kernel
theorem dL_law_1411 : decode code 1411 = .ok (.aload_n 0, 1) := by decide +kernel
theorem dL_law_1412 : decode code 1412 = .ok (.iload_n 3, 1) := by decide +kernel
theorem dL_law_1413 : decode code 1413 = .ok (.iconst 1, 1) := by decide +kernel
theorem dL_law_1414 : decode code 1414 = .ok (.iadd, 1) := by decide +kernel
theorem dL_law_1415 : decode code 1415 = .ok (.iaload, 1) := by decide +kernel
theorem dL_law_1416 : decode code 1416 = .ok (.aload_n 0, 1) := by decide +kernel
theorem dL_law_1417 : decode code 1417 = .ok (.iload_n 3, 1) := by decide +kernel
theorem dL_law_1418 : decode code 1418 = .ok (.iconst 2, 1) := by decide +kernel
theorem dL_law_1419 : decode code 1419 = .ok (.iadd, 1) := by decide +kernel
theorem dL_law_1420 : decode code 1420 = .ok (.iaload, 1) := by decide +kernel
theorem dL_law_1421 : decode code 1421 = .ok (.invokevirtual 185, 3) := by decide +kernel
theorem dL_law_1424 : decode code 1424 = .ok (.pop, 1) := by decide +kernel
theorem dL_law_1425 : decode code 1425 = .ok (.goto 965, 3) := by decide +kernel
theorem dL_law_1428 : decode code 1428 = .ok (.aload_n 1, 1) := by decide +kernel
theorem dL_law_1429 : decode code 1429 = .ok (.aload_n 0, 1) := by decide +kernel
theorem dL_law_1430 : decode code 1430 = .ok (.iload_n 3, 1) := by decide +kernel
theorem dL_law_1431 : decode code 1431 = .ok (.iconst 1, 1) := by decide +kernel
theorem dL_law_1432 : decode code 1432 = .ok (.iadd, 1) := by decide +kernel
theorem dL_law_1433 : decode code 1433 = .ok (.iaload, 1) := by decide +kernel
theorem dL_law_1434 : decode code 1434 = .ok (.aload_n 0, 1) := by decide +kernel
theorem dL_law_1435 : decode code 1435 = .ok (.iload_n 3, 1) := by decide +kernel
theorem dL_law_1436 : decode code 1436 = .ok (.iconst 2, 1) := by decide +kernel
theorem dL_law_1437 : decode code 1437 = .ok (.iadd, 1) := by decide +kernel
theorem dL_law_1438 : decode code 1438 = .ok (.iaload, 1) := by decide +kernel
theorem dL_law_1439 : decode code 1439 = .ok (.invokevirtual 186, 3) := by decide +kernel
theorem dL_law_1442 : decode code 1442 = .ok (.pop, 1) := by decide +kernel
theorem dL_law_1443 : decode code 1443 = .ok (.aload_n 2, 1) := by decide +kernel
theorem dL_law_1444 : decode code 1444 = .ok (.aload_n 0, 1) := by decide +kernel
theorem dL_law_1445 : decode code 1445 = .ok (.iload_n 3, 1) := by decide +kernel
theorem dL_law_1446 : decode code 1446 = .ok (.iconst 1, 1) := by decide +kernel
theorem dL_law_1447 : decode code 1447 = .ok (.iadd, 1) := by decide +kernel
theorem dL_law_1448 : decode code 1448 = .ok (.iaload, 1) := by decide +kernel
theorem dL_law_1449 : decode code 1449 = .ok (.aload_n 0, 1) := by decide +kernel
theorem dL_law_1450 : decode code 1450 = .ok (.iload_n 3, 1) := by decide +kernel
theorem dL_law_1451 : decode code 1451 = .ok (.iconst 2, 1) := by decide +kernel
theorem dL_law_1452 : decode code 1452 = .ok (.iadd, 1) := by decide +kernel
theorem dL_law_1453 : decode code 1453 = .ok (.iaload, 1) := by decide +kernel
theorem dL_law_1454 : decode code 1454 = .ok (.invokevirtual 189, 3) := by decide +kernel
theorem dL_law_1457 : decode code 1457 = .ok (.pop, 1) := by decide +kernel
theorem dL_law_1458 : decode code 1458 = .ok (.goto 932, 3) := by decide +kernel
theorem dL_law_1461 : decode code 1461 = .ok (.aload_n 1, 1) := by decide +kernel
theorem dL_law_1462 : decode code 1462 = .ok (.aload_n 0, 1) := by decide +kernel
theorem dL_law_1463 : decode code 1463 = .ok (.iload_n 3, 1) := by decide +kernel
theorem dL_law_1464 : decode code 1464 = .ok (.iconst 1, 1) := by decide +kernel
theorem dL_law_1465 : decode code 1465 = .ok (.iadd, 1) := by decide +kernel
theorem dL_law_1466 : decode code 1466 = .ok (.iaload, 1) := by decide +kernel
theorem dL_law_1467 : decode code 1467 = .ok (.aload_n 0, 1) := by decide +kernel
theorem dL_law_1468 : decode code 1468 = .ok (.iload_n 3, 1) := by decide +kernel
theorem dL_law_1469 : decode code 1469 = .ok (.iconst 2, 1) := by decide +kernel
theorem dL_law_1470 : decode code 1470 = .ok (.iadd, 1) := by decide +kernel
theorem dL_law_1471 : decode code 1471 = .ok (.iaload, 1) := by decide +kernel
theorem dL_law_1472 : decode code 1472 = .ok (.invokevirtual 190, 3) := by decide +kernel
theorem dL_law_1475 : decode code 1475 = .ok (.pop, 1) := by decide +kernel
theorem dL_law_1476 : decode code 1476 = .ok (.aload_n 2, 1) := by decide +kernel
theorem dL_law_1477 : decode code 1477 = .ok (.aload_n 0, 1) := by decide +kernel
theorem dL_law_1478 : decode code 1478 = .ok (.iload_n 3, 1) := by decide +kernel
theorem dL_law_1479 : decode code 1479 = .ok (.iconst 1, 1) := by decide +kernel
theorem dL_law_1480 : decode code 1480 = .ok (.iadd, 1) := by decide +kernel
theorem dL_law_1481 : decode code 1481 = .ok (.iaload, 1) := by decide +kernel
theorem dL_law_1482 : decode code 1482 = .ok (.aload_n 0, 1) := by decide +kernel
theorem dL_law_1483 : decode code 1483 = .ok (.iload_n 3, 1) := by decide +kernel
theorem dL_law_1484 : decode code 1484 = .ok (.iconst 2, 1) := by decide +kernel
theorem dL_law_1485 : decode code 1485 = .ok (.iadd, 1) := by decide +kernel
theorem dL_law_1486 : decode code 1486 = .ok (.iaload, 1) := by decide +kernel
theorem dL_law_1487 : decode code 1487 = .ok (.invokevirtual 193, 3) := by decide +kernel
theorem dL_law_1490 : decode code 1490 = .ok (.pop, 1) := by decide +kernel
theorem dL_law_1491 : decode code 1491 = .ok (.goto 899, 3) := by decide +kernel
theorem dL_law_1494 : decode code 1494 = .ok (.aload_n 1, 1) := by decide +kernel
theorem dL_law_1495 : decode code 1495 = .ok (.aload_n 0, 1) := by decide +kernel
theorem dL_law_1496 : decode code 1496 = .ok (.iload_n 3, 1) := by decide +kernel
theorem dL_law_1497 : decode code 1497 = .ok (.iconst 1, 1) := by decide +kernel
theorem dL_law_1498 : decode code 1498 = .ok (.iadd, 1) := by decide +kernel
theorem dL_law_1499 : decode code 1499 = .ok (.iaload, 1) := by decide +kernel
theorem dL_law_1500 : decode code 1500 = .ok (.aload_n 0, 1) := by decide +kernel
theorem dL_law_1501 : decode code 1501 = .ok (.iload_n 3, 1) := by decide +kernel
theorem dL_law_1502 : decode code 1502 = .ok (.iconst 2, 1) := by decide +kernel
theorem dL_law_1503 : decode code 1503 = .ok (.iadd, 1) := by decide +kernel
theorem dL_law_1504 : decode code 1504 = .ok (.iaload, 1) := by decide +kernel
theorem dL_law_1505 : decode code 1505 = .ok (.invokevirtual 194, 3) := by decide +kernel
theorem dL_law_1508 : decode code 1508 = .ok (.pop, 1) := by decide +kernel
theorem dL_law_1509 : decode code 1509 = .ok (.aload_n 2, 1) := by decide +kernel
theorem dL_law_1510 : decode code 1510 = .ok (.aload_n 0, 1) := by decide +kernel
theorem dL_law_1511 : decode code 1511 = .ok (.iload_n 3, 1) := by decide +kernel
theorem dL_law_1512 : decode code 1512 = .ok (.iconst 1, 1) := by decide +kernel
theorem dL_law_1513 : decode code 1513 = .ok (.iadd, 1) := by decide +kernel
theorem dL_law_1514 : decode code 1514 = .ok (.iaload, 1) := by decide +kernel
theorem dL_law_1515 : decode code 1515 = .ok (.aload_n 0, 1) := by decide +kernel
theorem dL_law_1516 : decode code 1516 = .ok (.iload_n 3, 1) := by decide +kernel
theorem dL_law_1517 : decode code 1517 = .ok (.iconst 2, 1) := by decide +kernel
theorem dL_law_1518 : decode code 1518 = .ok (.iadd, 1) := by decide +kernel
theorem dL_law_1519 : decode code 1519 = .ok (.iaload, 1) := by decide +kernel
theorem dL_law_1520 : decode code 1520 = .ok (.invokevirtual 197, 3) := by decide +kernel
theorem dL_law_1523 : decode code 1523 = .ok (.pop, 1) := by decide +kernel
theorem dL_law_1524 : decode code 1524 = .ok (.goto 866, 3) := by decide +kernel
theorem dL_law_1527 : decode code 1527 = .ok (.aload_n 1, 1) := by decide +kernel
theorem dL_law_1528 : decode code 1528 = .ok (.aload_n 0, 1) := by decide +kernel
theorem dL_law_1529 : decode code 1529 = .ok (.iload_n 3, 1) := by decide +kernel
theorem dL_law_1530 : decode code 1530 = .ok (.iconst 1, 1) := by decide +kernel
theorem dL_law_1531 : decode code 1531 = .ok (.iadd, 1) := by decide +kernel
theorem dL_law_1532 : decode code 1532 = .ok (.iaload, 1) := by decide +kernel
theorem dL_law_1533 : decode code 1533 = .ok (.aload_n 0, 1) := by decide +kernel
theorem dL_law_1534 : decode code 1534 = .ok (.iload_n 3, 1) := by decide +kernel
theorem dL_law_1535 : decode code 1535 = .ok (.iconst 2, 1) := by decide +kernel
theorem dL_law_1536 : decode code 1536 = .ok (.iadd, 1) := by decide +kernel
theorem dL_law_1537 : decode code 1537 = .ok (.iaload, 1) := by decide +kernel
theorem dL_law_1538 : decode code 1538 = .ok (.invokevirtual 198, 3) := by decide +kernel
theorem dL_law_1541 : decode code 1541 = .ok (.pop, 1) := by decide +kernel
theorem dL_law_1542 : decode code 1542 = .ok (.aload_n 2, 1) := by decide +kernel
theorem dL_law_1543 : decode code 1543 = .ok (.aload_n 0, 1) := by decide +kernel
theorem dL_law_1544 : decode code 1544 = .ok (.iload_n 3, 1) := by decide +kernel
theorem dL_law_1545 : decode code 1545 = .ok (.iconst 1, 1) := by decide +kernel
theorem dL_law_1546 : decode code 1546 = .ok (.iadd, 1) := by decide +kernel
theorem dL_law_1547 : decode code 1547 = .ok (.iaload, 1) := by decide +kernel
theorem dL_law_1548 : decode code 1548 = .ok (.aload_n 0, 1) := by decide +kernel
theorem dL_law_1549 : decode code 1549 = .ok (.iload_n 3, 1) := by decide +kernel
theorem dL_law_1550 : decode code 1550 = .ok (.iconst 2, 1) := by decide +kernel
theorem dL_law_1551 : decode code 1551 = .ok (.iadd, 1) := by decide +kernel
theorem dL_law_1552 : decode code 1552 = .ok (.iaload, 1) := by decide +kernel
theorem dL_law_1553 : decode code 1553 = .ok (.invokevirtual 201, 3) := by decide +kernel
theorem dL_law_1556 : decode code 1556 = .ok (.pop, 1) := by decide +kernel
theorem dL_law_1557 : decode code 1557 = .ok (.goto 833, 3) := by decide +kernel
theorem dL_law_1560 : decode code 1560 = .ok (.aload_n 1, 1) := by decide +kernel
theorem dL_law_1561 : decode code 1561 = .ok (.aload_n 0, 1) := by decide +kernel
theorem dL_law_1562 : decode code 1562 = .ok (.iload_n 3, 1) := by decide +kernel
theorem dL_law_1563 : decode code 1563 = .ok (.iconst 1, 1) := by decide +kernel
theorem dL_law_1564 : decode code 1564 = .ok (.iadd, 1) := by decide +kernel
theorem dL_law_1565 : decode code 1565 = .ok (.iaload, 1) := by decide +kernel
theorem dL_law_1566 : decode code 1566 = .ok (.aload_n 0, 1) := by decide +kernel
theorem dL_law_1567 : decode code 1567 = .ok (.iload_n 3, 1) := by decide +kernel
theorem dL_law_1568 : decode code 1568 = .ok (.iconst 2, 1) := by decide +kernel
theorem dL_law_1569 : decode code 1569 = .ok (.iadd, 1) := by decide +kernel
theorem dL_law_1570 : decode code 1570 = .ok (.iaload, 1) := by decide +kernel
theorem dL_law_1571 : decode code 1571 = .ok (.aload_n 0, 1) := by decide +kernel
theorem dL_law_1572 : decode code 1572 = .ok (.iload_n 3, 1) := by decide +kernel
theorem dL_law_1573 : decode code 1573 = .ok (.iconst 3, 1) := by decide +kernel
theorem dL_law_1574 : decode code 1574 = .ok (.iadd, 1) := by decide +kernel
theorem dL_law_1575 : decode code 1575 = .ok (.iaload, 1) := by decide +kernel
theorem dL_law_1576 : decode code 1576 = .ok (.invokevirtual 202, 3) := by decide +kernel
theorem dL_law_1579 : decode code 1579 = .ok (.pop, 1) := by decide +kernel
theorem dL_law_1580 : decode code 1580 = .ok (.aload_n 2, 1) := by decide +kernel
theorem dL_law_1581 : decode code 1581 = .ok (.aload_n 0, 1) := by decide +kernel
theorem dL_law_1582 : decode code 1582 = .ok (.iload_n 3, 1) := by decide +kernel
theorem dL_law_1583 : decode code 1583 = .ok (.iconst 1, 1) := by decide +kernel
theorem dL_law_1584 : decode code 1584 = .ok (.iadd, 1) := by decide +kernel
theorem dL_law_1585 : decode code 1585 = .ok (.iaload, 1) := by decide +kernel
theorem dL_law_1586 : decode code 1586 = .ok (.aload_n 0, 1) := by decide +kernel
theorem dL_law_1587 : decode code 1587 = .ok (.iload_n 3, 1) := by decide +kernel
theorem dL_law_1588 : decode code 1588 = .ok (.iconst 2, 1) := by decide +kernel
theorem dL_law_1589 : decode code 1589 = .ok (.iadd, 1) := by decide +kernel
theorem dL_law_1590 : decode code 1590 = .ok (.iaload, 1) := by decide +kernel
theorem dL_law_1591 : decode code 1591 = .ok (.aload_n 0, 1) := by decide +kernel
theorem dL_law_1592 : decode code 1592 = .ok (.iload_n 3, 1) := by decide +kernel
theorem dL_law_1593 : decode code 1593 = .ok (.iconst 3, 1) := by decide +kernel
theorem dL_law_1594 : decode code 1594 = .ok (.iadd, 1) := by decide +kernel
theorem dL_law_1595 : decode code 1595 = .ok (.iaload, 1) := by decide +kernel
theorem dL_law_1596 : decode code 1596 = .ok (.invokevirtual 205, 3) := by decide +kernel
theorem dL_law_1599 : decode code 1599 = .ok (.pop, 1) := by decide +kernel
theorem dL_law_1600 : decode code 1600 = .ok (.goto 790, 3) := by decide +kernel
theorem dL_law_1603 : decode code 1603 = .ok (.aload_n 1, 1) := by decide +kernel
theorem dL_law_1604 : decode code 1604 = .ok (.invokevirtual 206, 3) := by decide +kernel
theorem dL_law_1607 : decode code 1607 = .ok (.pop, 1) := by decide +kernel
theorem dL_law_1608 : decode code 1608 = .ok (.aload_n 2, 1) := by decide +kernel
theorem dL_law_1609 : decode code 1609 = .ok (.invokevirtual 209, 3) := by decide +kernel
theorem dL_law_1612 : decode code 1612 = .ok (.pop, 1) := by decide +kernel
theorem dL_law_1613 : decode code 1613 = .ok (.goto 777, 3) := by decide +kernel
theorem dL_law_1616 : decode code 1616 = .ok (.aload_n 1, 1) := by decide +kernel
theorem dL_law_1617 : decode code 1617 = .ok (.invokevirtual 210, 3) := by decide +kernel
theorem dL_law_1620 : decode code 1620 = .ok (.pop, 1) := by decide +kernel
theorem dL_law_1621 : decode code 1621 = .ok (.aload_n 2, 1) := by decide +kernel
theorem dL_law_1622 : decode code 1622 = .ok (.invokevirtual 213, 3) := by decide +kernel
theorem dL_law_1625 : decode code 1625 = .ok (.pop, 1) := by decide +kernel
theorem dL_law_1626 : decode code 1626 = .ok (.goto 764, 3) := by decide +kernel
theorem dL_law_1629 : decode code 1629 = .ok (.aload_n 1, 1) := by decide +kernel
theorem dL_law_1630 : decode code 1630 = .ok (.invokevirtual 214, 3) := by decide +kernel
theorem dL_law_1633 : decode code 1633 = .ok (.pop, 1) := by decide +kernel
theorem dL_law_1634 : decode code 1634 = .ok (.aload_n 2, 1) := by decide +kernel
theorem dL_law_1635 : decode code 1635 = .ok (.invokevirtual 217, 3) := by decide +kernel
theorem dL_law_1638 : decode code 1638 = .ok (.pop, 1) := by decide +kernel
theorem dL_law_1639 : decode code 1639 = .ok (.goto 751, 3) := by decide +kernel
theorem dL_law_1642 : decode code 1642 = .ok (.aload_n 1, 1) := by decide +kernel
theorem dL_law_1643 : decode code 1643 = .ok (.invokevirtual 218, 3) := by decide +kernel
theorem dL_law_1646 : decode code 1646 = .ok (.pop, 1) := by decide +kernel
theorem dL_law_1647 : decode code 1647 = .ok (.aload_n 2, 1) := by decide +kernel
theorem dL_law_1648 : decode code 1648 = .ok (.invokevirtual 221, 3) := by decide +kernel
theorem dL_law_1651 : decode code 1651 = .ok (.pop, 1) := by decide +kernel
theorem dL_law_1652 : decode code 1652 = .ok (.goto 738, 3) := by decide +kernel
theorem dL_law_1655 : decode code 1655 = .ok (.aload_n 1, 1) := by decide +kernel
theorem dL_law_1656 : decode code 1656 = .ok (.invokevirtual 222, 3) := by decide +kernel
theorem dL_law_1659 : decode code 1659 = .ok (.pop, 1) := by decide +kernel
theorem dL_law_1660 : decode code 1660 = .ok (.aload_n 2, 1) := by decide +kernel
theorem dL_law_1661 : decode code 1661 = .ok (.invokevirtual 225, 3) := by decide +kernel
theorem dL_law_1664 : decode code 1664 = .ok (.pop, 1) := by decide +kernel
theorem dL_law_1665 : decode code 1665 = .ok (.goto 725, 3) := by decide +kernel
theorem dL_law_1668 : decode code 1668 = .ok (.aload_n 1, 1) := by decide +kernel
theorem dL_law_1669 : decode code 1669 = .ok (.invokevirtual 226, 3) := by decide +kernel
theorem dL_law_1672 : decode code 1672 = .ok (.pop, 1) := by decide +kernel
theorem dL_law_1673 : decode code 1673 = .ok (.aload_n 2, 1) := by decide +kernel
theorem dL_law_1674 : decode code 1674 = .ok (.invokevirtual 229, 3) := by decide +kernel
theorem dL_law_1677 : decode code 1677 = .ok (.pop, 1) := by decide +kernel
theorem dL_law_1678 : decode code 1678 = .ok (.goto 712, 3) := by decide +kernel
theorem dL_law_1681 : decode code 1681 = .ok (.aload_n 1, 1) := by decide +kernel
theorem dL_law_1682 : decode code 1682 = .ok (.aload_n 0, 1) := by decide +kernel
theorem dL_law_1683 : decode code 1683 = .ok (.iload_n 3, 1) := by decide +kernel
theorem dL_law_1684 : decode code 1684 = .ok (.iconst 1, 1) := by decide +kernel
theorem dL_law_1685 : decode code 1685 = .ok (.iadd, 1) := by decide +kernel
theorem dL_law_1686 : decode code 1686 = .ok (.iaload, 1) := by decide +kernel
theorem dL_law_1687 : decode code 1687 = .ok (.aload_n 0, 1) := by decide +kernel
theorem dL_law_1688 : decode code 1688 = .ok (.iload_n 3, 1) := by decide +kernel
theorem dL_law_1689 : decode code 1689 = .ok (.iconst 2, 1) := by decide +kernel
theorem dL_law_1690 : decode code 1690 = .ok (.iadd, 1) := by decide +kernel
theorem dL_law_1691 : decode code 1691 = .ok (.iaload, 1) := by decide +kernel
theorem dL_law_1692 : decode code 1692 = .ok (.invokevirtual 230, 3) := by decide +kernel
theorem dL_law_1695 : decode code 1695 = .ok (.pop, 1) := by decide +kernel
theorem dL_law_1696 : decode code 1696 = .ok (.aload_n 2, 1) := by decide +kernel
theorem dL_law_1697 : decode code 1697 = .ok (.aload_n 0, 1) := by decide +kernel
theorem dL_law_1698 : decode code 1698 = .ok (.iload_n 3, 1) := by decide +kernel
theorem dL_law_1699 : decode code 1699 = .ok (.iconst 1, 1) := by decide +kernel
theorem dL_law_1700 : decode code 1700 = .ok (.iadd, 1) := by decide +kernel
theorem dL_law_1701 : decode code 1701 = .ok (.iaload, 1) := by decide +kernel
theorem dL_law_1702 : decode code 1702 = .ok (.aload_n 0, 1) := by decide +kernel
theorem dL_law_1703 : decode code 1703 = .ok (.iload_n 3, 1) := by decide +kernel
theorem dL_law_1704 : decode code 1704 = .ok (.iconst 2, 1) := by decide +kernel
theorem dL_law_1705 : decode code 1705 = .ok (.iadd, 1) := by decide +kernel
theorem dL_law_1706 : decode code 1706 = .ok (.iaload, 1) := by decide +kernel
theorem dL_law_1707 : decode code 1707 = .ok (.invokevirtual 233, 3) := by decide +kernel
theorem dL_law_1710 : decode code 1710 = .ok (.pop, 1) := by decide +kernel
theorem dL_law_1711 : decode code 1711 = .ok (.goto 679, 3) := by decide +kernel
theorem dL_law_1714 : decode code 1714 = .ok (.aload_n 1, 1) := by decide +kernel
theorem dL_law_1715 : decode code 1715 = .ok (.invokevirtual 234, 3) := by decide +kernel
theorem dL_law_1718 : decode code 1718 = .ok (.pop, 1) := by decide +kernel
theorem dL_law_1719 : decode code 1719 = .ok (.aload_n 2, 1) := by decide +kernel
theorem dL_law_1720 : decode code 1720 = .ok (.invokevirtual 237, 3) := by decide +kernel
theorem dL_law_1723 : decode code 1723 = .ok (.pop, 1) := by decide +kernel
theorem dL_law_1724 : decode code 1724 = .ok (.goto 666, 3) := by decide +kernel
theorem dL_law_1727 : decode code 1727 = .ok (.aload_n 1, 1) := by decide +kernel
theorem dL_law_1728 : decode code 1728 = .ok (.invokevirtual 238, 3) := by decide +kernel
theorem dL_law_1731 : decode code 1731 = .ok (.pop, 1) := by decide +kernel
theorem dL_law_1732 : decode code 1732 = .ok (.aload_n 2, 1) := by decide +kernel
theorem dL_law_1733 : decode code 1733 = .ok (.invokevirtual 241, 3) := by decide +kernel
theorem dL_law_1736 : decode code 1736 = .ok (.pop, 1) := by decide +kernel
theorem dL_law_1737 : decode code 1737 = .ok (.goto 653, 3) := by decide +kernel
theorem dL_law_1740 : decode code 1740 = .ok (.aload_n 1, 1) := by decide +kernel
theorem dL_law_1741 : decode code 1741 = .ok (.invokevirtual 242, 3) := by decide +kernel
theorem dL_law_1744 : decode code 1744 = .ok (.pop, 1) := by decide +kernel
theorem dL_law_1745 : decode code 1745 = .ok (.aload_n 2, 1) := by decide +kernel
theorem dL_law_1746 : decode code 1746 = .ok (.invokevirtual 245, 3) := by decide +kernel
theorem dL_law_1749 : decode code 1749 = .ok (.pop, 1) := by decide +kernel
theorem dL_law_1750 : decode code 1750 = .ok (.goto 640, 3) := by decide +kernel
theorem dL_law_1753 : decode code 1753 = .ok (.aload_n 1, 1) := by decide +kernel
theorem dL_law_1754 : decode code 1754 = .ok (.aload_n 0, 1) := by decide +kernel
theorem dL_law_1755 : decode code 1755 = .ok (.iload_n 3, 1) := by decide +kernel
theorem dL_law_1756 : decode code 1756 = .ok (.iconst 1, 1) := by decide +kernel
theorem dL_law_1757 : decode code 1757 = .ok (.iadd, 1) := by decide +kernel
theorem dL_law_1758 : decode code 1758 = .ok (.iaload, 1) := by decide +kernel
theorem dL_law_1759 : decode code 1759 = .ok (.invokevirtual 246, 3) := by decide +kernel
theorem dL_law_1762 : decode code 1762 = .ok (.pop, 1) := by decide +kernel
theorem dL_law_1763 : decode code 1763 = .ok (.aload_n 2, 1) := by decide +kernel
theorem dL_law_1764 : decode code 1764 = .ok (.aload_n 0, 1) := by decide +kernel
theorem dL_law_1765 : decode code 1765 = .ok (.iload_n 3, 1) := by decide +kernel
theorem dL_law_1766 : decode code 1766 = .ok (.iconst 1, 1) := by decide +kernel
theorem dL_law_1767 : decode code 1767 = .ok (.iadd, 1) := by decide +kernel
theorem dL_law_1768 : decode code 1768 = .ok (.iaload, 1) := by decide +kernel
theorem dL_law_1769 : decode code 1769 = .ok (.invokevirtual 249, 3) := by decide +kernel
theorem dL_law_1772 : decode code 1772 = .ok (.pop, 1) := by decide +kernel
theorem dL_law_1773 : decode code 1773 = .ok (.goto 617, 3) := by decide +kernel
theorem dL_law_1776 : decode code 1776 = .ok (.aload_n 1, 1) := by decide +kernel
theorem dL_law_1777 : decode code 1777 = .ok (.aload_n 0, 1) := by decide +kernel
theorem dL_law_1778 : decode code 1778 = .ok (.iload_n 3, 1) := by decide +kernel
theorem dL_law_1779 : decode code 1779 = .ok (.iconst 1, 1) := by decide +kernel
theorem dL_law_1780 : decode code 1780 = .ok (.iadd, 1) := by decide +kernel
theorem dL_law_1781 : decode code 1781 = .ok (.iaload, 1) := by decide +kernel
theorem dL_law_1782 : decode code 1782 = .ok (.invokevirtual 250, 3) := by decide +kernel
theorem dL_law_1785 : decode code 1785 = .ok (.pop, 1) := by decide +kernel
theorem dL_law_1786 : decode code 1786 = .ok (.aload_n 2, 1) := by decide +kernel
theorem dL_law_1787 : decode code 1787 = .ok (.aload_n 0, 1) := by decide +kernel
theorem dL_law_1788 : decode code 1788 = .ok (.iload_n 3, 1) := by decide +kernel
theorem dL_law_1789 : decode code 1789 = .ok (.iconst 1, 1) := by decide +kernel
theorem dL_law_1790 : decode code 1790 = .ok (.iadd, 1) := by decide +kernel
theorem dL_law_1791 : decode code 1791 = .ok (.iaload, 1) := by decide +kernel
theorem dL_law_1792 : decode code 1792 = .ok (.invokevirtual 253, 3) := by decide +kernel
theorem dL_law_1795 : decode code 1795 = .ok (.pop, 1) := by decide +kernel
theorem dL_law_1796 : decode code 1796 = .ok (.goto 594, 3) := by decide +kernel
theorem dL_law_1799 : decode code 1799 = .ok (.aload_n 1, 1) := by decide +kernel
theorem dL_law_1800 : decode code 1800 = .ok (.aload_n 0, 1) := by decide +kernel
theorem dL_law_1801 : decode code 1801 = .ok (.iload_n 3, 1) := by decide +kernel
theorem dL_law_1802 : decode code 1802 = .ok (.iconst 1, 1) := by decide +kernel
theorem dL_law_1803 : decode code 1803 = .ok (.iadd, 1) := by decide +kernel
theorem dL_law_1804 : decode code 1804 = .ok (.iaload, 1) := by decide +kernel
theorem dL_law_1805 : decode code 1805 = .ok (.invokevirtual 254, 3) := by decide +kernel
theorem dL_law_1808 : decode code 1808 = .ok (.pop, 1) := by decide +kernel
theorem dL_law_1809 : decode code 1809 = .ok (.aload_n 2, 1) := by decide +kernel
theorem dL_law_1810 : decode code 1810 = .ok (.aload_n 0, 1) := by decide +kernel
theorem dL_law_1811 : decode code 1811 = .ok (.iload_n 3, 1) := by decide +kernel
theorem dL_law_1812 : decode code 1812 = .ok (.iconst 1, 1) := by decide +kernel
theorem dL_law_1813 : decode code 1813 = .ok (.iadd, 1) := by decide +kernel
theorem dL_law_1814 : decode code 1814 = .ok (.iaload, 1) := by decide +kernel
theorem dL_law_1815 : decode code 1815 = .ok (.invokevirtual 257, 3) := by decide +kernel
theorem dL_law_1818 : decode code 1818 = .ok (.pop, 1) := by decide +kernel
theorem dL_law_1819 : decode code 1819 = .ok (.goto 571, 3) := by decide +kernel
theorem dL_law_1822 : decode code 1822 = .ok (.aload_n 1, 1) := by decide +kernel
theorem dL_law_1823 : decode code 1823 = .ok (.aload_n 0, 1) := by decide +kernel
theorem dL_law_1824 : decode code 1824 = .ok (.iload_n 3, 1) := by decide +kernel
theorem dL_law_1825 : decode code 1825 = .ok (.iconst 1, 1) := by decide +kernel
theorem dL_law_1826 : decode code 1826 = .ok (.iadd, 1) := by decide +kernel
theorem dL_law_1827 : decode code 1827 = .ok (.iaload, 1) := by decide +kernel
theorem dL_law_1828 : decode code 1828 = .ok (.aload_n 0, 1) := by decide +kernel
theorem dL_law_1829 : decode code 1829 = .ok (.iload_n 3, 1) := by decide +kernel
theorem dL_law_1830 : decode code 1830 = .ok (.iconst 2, 1) := by decide +kernel
theorem dL_law_1831 : decode code 1831 = .ok (.iadd, 1) := by decide +kernel
theorem dL_law_1832 : decode code 1832 = .ok (.iaload, 1) := by decide +kernel
theorem dL_law_1833 : decode code 1833 = .ok (.invokevirtual 258, 3) := by decide +kernel
theorem dL_law_1836 : decode code 1836 = .ok (.pop, 1) := by decide +kernel
theorem dL_law_1837 : decode code 1837 = .ok (.aload_n 2, 1) := by decide +kernel
theorem dL_law_1838 : decode code 1838 = .ok (.aload_n 0, 1) := by decide +kernel
theorem dL_law_1839 : decode code 1839 = .ok (.iload_n 3, 1) := by decide +kernel
theorem dL_law_1840 : decode code 1840 = .ok (.iconst 1, 1) := by decide +kernel
theorem dL_law_1841 : decode code 1841 = .ok (.iadd, 1) := by decide +kernel
theorem dL_law_1842 : decode code 1842 = .ok (.iaload, 1) := by decide +kernel
theorem dL_law_1843 : decode code 1843 = .ok (.aload_n 0, 1) := by decide +kernel
theorem dL_law_1844 : decode code 1844 = .ok (.iload_n 3, 1) := by decide +kernel
theorem dL_law_1845 : decode code 1845 = .ok (.iconst 2, 1) := by decide +kernel
theorem dL_law_1846 : decode code 1846 = .ok (.iadd, 1) := by decide +kernel
theorem dL_law_1847 : decode code 1847 = .ok (.iaload, 1) := by decide +kernel
theorem dL_law_1848 : decode code 1848 = .ok (.invokevirtual 261, 3) := by decide +kernel
theorem dL_law_1851 : decode code 1851 = .ok (.pop, 1) := by decide +kernel
theorem dL_law_1852 : decode code 1852 = .ok (.goto 538, 3) := by decide +kernel
theorem dL_law_1855 : decode code 1855 = .ok (.aload_n 1, 1) := by decide +kernel
theorem dL_law_1856 : decode code 1856 = .ok (.aload_n 0, 1) := by decide +kernel
theorem dL_law_1857 : decode code 1857 = .ok (.iload_n 3, 1) := by decide +kernel
theorem dL_law_1858 : decode code 1858 = .ok (.iconst 1, 1) := by decide +kernel
theorem dL_law_1859 : decode code 1859 = .ok (.iadd, 1) := by decide +kernel
theorem dL_law_1860 : decode code 1860 = .ok (.iaload, 1) := by decide +kernel
theorem dL_law_1861 : decode code 1861 = .ok (.invokevirtual 262, 3) := by decide +kernel
theorem dL_law_1864 : decode code 1864 = .ok (.pop, 1) := by decide +kernel
theorem dL_law_1865 : decode code 1865 = .ok (.aload_n 2, 1) := by decide +kernel
theorem dL_law_1866 : decode code 1866 = .ok (.aload_n 0, 1) := by decide +kernel
theorem dL_law_1867 : decode code 1867 = .ok (.iload_n 3, 1) := by decide +kernel
theorem dL_law_1868 : decode code 1868 = .ok (.iconst 1, 1) := by decide +kernel
theorem dL_law_1869 : decode code 1869 = .ok (.iadd, 1) := by decide +kernel
theorem dL_law_1870 : decode code 1870 = .ok (.iaload, 1) := by decide +kernel
theorem dL_law_1871 : decode code 1871 = .ok (.invokevirtual 265, 3) := by decide +kernel
theorem dL_law_1874 : decode code 1874 = .ok (.pop, 1) := by decide +kernel
theorem dL_law_1875 : decode code 1875 = .ok (.goto 515, 3) := by decide +kernel
theorem dL_law_1878 : decode code 1878 = .ok (.aload_n 1, 1) := by decide +kernel
theorem dL_law_1879 : decode code 1879 = .ok (.aload_n 0, 1) := by decide +kernel
theorem dL_law_1880 : decode code 1880 = .ok (.iload_n 3, 1) := by decide +kernel
theorem dL_law_1881 : decode code 1881 = .ok (.iconst 1, 1) := by decide +kernel
theorem dL_law_1882 : decode code 1882 = .ok (.iadd, 1) := by decide +kernel
theorem dL_law_1883 : decode code 1883 = .ok (.iaload, 1) := by decide +kernel
theorem dL_law_1884 : decode code 1884 = .ok (.aload_n 0, 1) := by decide +kernel
theorem dL_law_1885 : decode code 1885 = .ok (.iload_n 3, 1) := by decide +kernel
theorem dL_law_1886 : decode code 1886 = .ok (.iconst 2, 1) := by decide +kernel
theorem dL_law_1887 : decode code 1887 = .ok (.iadd, 1) := by decide +kernel
theorem dL_law_1888 : decode code 1888 = .ok (.iaload, 1) := by decide +kernel
theorem dL_law_1889 : decode code 1889 = .ok (.invokevirtual 266, 3) := by decide +kernel
theorem dL_law_1892 : decode code 1892 = .ok (.pop, 1) := by decide +kernel
theorem dL_law_1893 : decode code 1893 = .ok (.aload_n 2, 1) := by decide +kernel
theorem dL_law_1894 : decode code 1894 = .ok (.aload_n 0, 1) := by decide +kernel
theorem dL_law_1895 : decode code 1895 = .ok (.iload_n 3, 1) := by decide +kernel
theorem dL_law_1896 : decode code 1896 = .ok (.iconst 1, 1) := by decide +kernel
theorem dL_law_1897 : decode code 1897 = .ok (.iadd, 1) := by decide +kernel
theorem dL_law_1898 : decode code 1898 = .ok (.iaload, 1) := by decide +kernel
theorem dL_law_1899 : decode code 1899 = .ok (.aload_n 0, 1) := by decide +kernel
theorem dL_law_1900 : decode code 1900 = .ok (.iload_n 3, 1) := by decide +kernel
theorem dL_law_1901 : decode code 1901 = .ok (.iconst 2, 1) := by decide +kernel
theorem dL_law_1902 : decode code 1902 = .ok (.iadd, 1) := by decide +kernel
theorem dL_law_1903 : decode code 1903 = .ok (.iaload, 1) := by decide +kernel
theorem dL_law_1904 : decode code 1904 = .ok (.invokevirtual 269, 3) := by decide +kernel
theorem dL_law_1907 : decode code 1907 = .ok (.pop, 1) := by decide +kernel
theorem dL_law_1908 : decode code 1908 = .ok (.goto 482, 3) := by decide +kernel
theorem dL_law_1911 : decode code 1911 = .ok (.aload_n 1, 1) := by decide +kernel
theorem dL_law_1912 : decode code 1912 = .ok (.aload_n 0, 1) := by decide +kernel
theorem dL_law_1913 : decode code 1913 = .ok (.iload_n 3, 1) := by decide +kernel
theorem dL_law_1914 : decode code 1914 = .ok (.iconst 1, 1) := by decide +kernel
theorem dL_law_1915 : decode code 1915 = .ok (.iadd, 1) := by decide +kernel
theorem dL_law_1916 : decode code 1916 = .ok (.iaload, 1) := by decide +kernel
theorem dL_law_1917 : decode code 1917 = .ok (.aload_n 0, 1) := by decide +kernel
theorem dL_law_1918 : decode code 1918 = .ok (.iload_n 3, 1) := by decide +kernel
theorem dL_law_1919 : decode code 1919 = .ok (.iconst 2, 1) := by decide +kernel
theorem dL_law_1920 : decode code 1920 = .ok (.iadd, 1) := by decide +kernel
theorem dL_law_1921 : decode code 1921 = .ok (.iaload, 1) := by decide +kernel
theorem dL_law_1922 : decode code 1922 = .ok (.invokevirtual 270, 3) := by decide +kernel
theorem dL_law_1925 : decode code 1925 = .ok (.pop, 1) := by decide +kernel
theorem dL_law_1926 : decode code 1926 = .ok (.aload_n 2, 1) := by decide +kernel
theorem dL_law_1927 : decode code 1927 = .ok (.aload_n 0, 1) := by decide +kernel
theorem dL_law_1928 : decode code 1928 = .ok (.iload_n 3, 1) := by decide +kernel
theorem dL_law_1929 : decode code 1929 = .ok (.iconst 1, 1) := by decide +kernel
theorem dL_law_1930 : decode code 1930 = .ok (.iadd, 1) := by decide +kernel
theorem dL_law_1931 : decode code 1931 = .ok (.iaload, 1) := by decide +kernel
theorem dL_law_1932 : decode code 1932 = .ok (.aload_n 0, 1) := by decide +kernel
theorem dL_law_1933 : decode code 1933 = .ok (.iload_n 3, 1) := by decide +kernel
theorem dL_law_1934 : decode code 1934 = .ok (.iconst 2, 1) := by decide +kernel
theorem dL_law_1935 : decode code 1935 = .ok (.iadd, 1) := by decide +kernel
theorem dL_law_1936 : decode code 1936 = .ok (.iaload, 1) := by decide +kernel
theorem dL_law_1937 : decode code 1937 = .ok (.invokevirtual 273, 3) := by decide +kernel
theorem dL_law_1940 : decode code 1940 = .ok (.pop, 1) := by decide +kernel
theorem dL_law_1941 : decode code 1941 = .ok (.goto 449, 3) := by decide +kernel
theorem dL_law_1944 : decode code 1944 = .ok (.aload_n 1, 1) := by decide +kernel
theorem dL_law_1945 : decode code 1945 = .ok (.aload_n 0, 1) := by decide +kernel
theorem dL_law_1946 : decode code 1946 = .ok (.iload_n 3, 1) := by decide +kernel
theorem dL_law_1947 : decode code 1947 = .ok (.iconst 1, 1) := by decide +kernel
theorem dL_law_1948 : decode code 1948 = .ok (.iadd, 1) := by decide +kernel
theorem dL_law_1949 : decode code 1949 = .ok (.iaload, 1) := by decide +kernel
theorem dL_law_1950 : decode code 1950 = .ok (.aload_n 0, 1) := by decide +kernel
theorem dL_law_1951 : decode code 1951 = .ok (.iload_n 3, 1) := by decide +kernel
theorem dL_law_1952 : decode code 1952 = .ok (.iconst 2, 1) := by decide +kernel
theorem dL_law_1953 : decode code 1953 = .ok (.iadd, 1) := by decide +kernel
theorem dL_law_1954 : decode code 1954 = .ok (.iaload, 1) := by decide +kernel
theorem dL_law_1955 : decode code 1955 = .ok (.invokevirtual 274, 3) := by decide +kernel
theorem dL_law_1958 : decode code 1958 = .ok (.pop, 1) := by decide +kernel
theorem dL_law_1959 : decode code 1959 = .ok (.aload_n 2, 1) := by decide +kernel
theorem dL_law_1960 : decode code 1960 = .ok (.aload_n 0, 1) := by decide +kernel
theorem dL_law_1961 : decode code 1961 = .ok (.iload_n 3, 1) := by decide +kernel
theorem dL_law_1962 : decode code 1962 = .ok (.iconst 1, 1) := by decide +kernel
theorem dL_law_1963 : decode code 1963 = .ok (.iadd, 1) := by decide +kernel
theorem dL_law_1964 : decode code 1964 = .ok (.iaload, 1) := by decide +kernel
theorem dL_law_1965 : decode code 1965 = .ok (.aload_n 0, 1) := by decide +kernel
theorem dL_law_1966 : decode code 1966 = .ok (.iload_n 3, 1) := by decide +kernel
theorem dL_law_1967 : decode code 1967 = .ok (.iconst 2, 1) := by decide +kernel
theorem dL_law_1968 : decode code 1968 = .ok (.iadd, 1) := by decide +kernel
theorem dL_law_1969 : decode code 1969 = .ok (.iaload, 1) := by decide +kernel
theorem dL_law_1970 : decode code 1970 = .ok (.invokevirtual 277, 3) := by decide +kernel
theorem dL_law_1973 : decode code 1973 = .ok (.pop, 1) := by decide +kernel
theorem dL_law_1974 : decode code 1974 = .ok (.goto 416, 3) := by decide +kernel
theorem dL_law_1977 : decode code 1977 = .ok (.aload_n 1, 1) := by decide +kernel
theorem dL_law_1978 : decode code 1978 = .ok (.invokevirtual 278, 3) := by decide +kernel
theorem dL_law_1981 : decode code 1981 = .ok (.pop, 1) := by decide +kernel
theorem dL_law_1982 : decode code 1982 = .ok (.aload_n 2, 1) := by decide +kernel
theorem dL_law_1983 : decode code 1983 = .ok (.invokevirtual 281, 3) := by decide +kernel
theorem dL_law_1986 : decode code 1986 = .ok (.pop, 1) := by decide +kernel
theorem dL_law_1987 : decode code 1987 = .ok (.goto 403, 3) := by decide +kernel
theorem dL_law_1990 : decode code 1990 = .ok (.aload_n 1, 1) := by decide +kernel
theorem dL_law_1991 : decode code 1991 = .ok (.aload_n 0, 1) := by decide +kernel
theorem dL_law_1992 : decode code 1992 = .ok (.iload_n 3, 1) := by decide +kernel
theorem dL_law_1993 : decode code 1993 = .ok (.iconst 1, 1) := by decide +kernel
theorem dL_law_1994 : decode code 1994 = .ok (.iadd, 1) := by decide +kernel
theorem dL_law_1995 : decode code 1995 = .ok (.iaload, 1) := by decide +kernel
theorem dL_law_1996 : decode code 1996 = .ok (.aload_n 0, 1) := by decide +kernel
theorem dL_law_1997 : decode code 1997 = .ok (.iload_n 3, 1) := by decide +kernel
theorem dL_law_1998 : decode code 1998 = .ok (.iconst 2, 1) := by decide +kernel
theorem dL_law_1999 : decode code 1999 = .ok (.iadd, 1) := by decide +kernel
theorem dL_law_2000 : decode code 2000 = .ok (.iaload, 1) := by decide +kernel
theorem dL_law_2001 : decode code 2001 = .ok (.aload_n 0, 1) := by decide +kernel
theorem dL_law_2002 : decode code 2002 = .ok (.iload_n 3, 1) := by decide +kernel
theorem dL_law_2003 : decode code 2003 = .ok (.iconst 3, 1) := by decide +kernel
theorem dL_law_2004 : decode code 2004 = .ok (.iadd, 1) := by decide +kernel
theorem dL_law_2005 : decode code 2005 = .ok (.iaload, 1) := by decide +kernel
theorem dL_law_2006 : decode code 2006 = .ok (.invokevirtual 282, 3) := by decide +kernel
theorem dL_law_2009 : decode code 2009 = .ok (.pop, 1) := by decide +kernel
theorem dL_law_2010 : decode code 2010 = .ok (.aload_n 2, 1) := by decide +kernel
theorem dL_law_2011 : decode code 2011 = .ok (.aload_n 0, 1) := by decide +kernel
theorem dL_law_2012 : decode code 2012 = .ok (.iload_n 3, 1) := by decide +kernel
theorem dL_law_2013 : decode code 2013 = .ok (.iconst 1, 1) := by decide +kernel
theorem dL_law_2014 : decode code 2014 = .ok (.iadd, 1) := by decide +kernel
theorem dL_law_2015 : decode code 2015 = .ok (.iaload, 1) := by decide +kernel
theorem dL_law_2016 : decode code 2016 = .ok (.aload_n 0, 1) := by decide +kernel
theorem dL_law_2017 : decode code 2017 = .ok (.iload_n 3, 1) := by decide +kernel
theorem dL_law_2018 : decode code 2018 = .ok (.iconst 2, 1) := by decide +kernel
theorem dL_law_2019 : decode code 2019 = .ok (.iadd, 1) := by decide +kernel
theorem dL_law_2020 : decode code 2020 = .ok (.iaload, 1) := by decide +kernel
theorem dL_law_2021 : decode code 2021 = .ok (.aload_n 0, 1) := by decide +kernel
theorem dL_law_2022 : decode code 2022 = .ok (.iload_n 3, 1) := by decide +kernel
theorem dL_law_2023 : decode code 2023 = .ok (.iconst 3, 1) := by decide +kernel
theorem dL_law_2024 : decode code 2024 = .ok (.iadd, 1) := by decide +kernel
theorem dL_law_2025 : decode code 2025 = .ok (.iaload, 1) := by decide +kernel
theorem dL_law_2026 : decode code 2026 = .ok (.invokevirtual 285, 3) := by decide +kernel
theorem dL_law_2029 : decode code 2029 = .ok (.pop, 1) := by decide +kernel
theorem dL_law_2030 : decode code 2030 = .ok (.goto 360, 3) := by decide +kernel
theorem dL_law_2033 : decode code 2033 = .ok (.aload_n 1, 1) := by decide +kernel
theorem dL_law_2034 : decode code 2034 = .ok (.aload_n 0, 1) := by decide +kernel
theorem dL_law_2035 : decode code 2035 = .ok (.iload_n 3, 1) := by decide +kernel
theorem dL_law_2036 : decode code 2036 = .ok (.iconst 1, 1) := by decide +kernel
theorem dL_law_2037 : decode code 2037 = .ok (.iadd, 1) := by decide +kernel
theorem dL_law_2038 : decode code 2038 = .ok (.iaload, 1) := by decide +kernel
theorem dL_law_2039 : decode code 2039 = .ok (.invokevirtual 286, 3) := by decide +kernel
theorem dL_law_2042 : decode code 2042 = .ok (.pop, 1) := by decide +kernel
theorem dL_law_2043 : decode code 2043 = .ok (.aload_n 2, 1) := by decide +kernel
theorem dL_law_2044 : decode code 2044 = .ok (.aload_n 0, 1) := by decide +kernel
theorem dL_law_2045 : decode code 2045 = .ok (.iload_n 3, 1) := by decide +kernel
theorem dL_law_2046 : decode code 2046 = .ok (.iconst 1, 1) := by decide +kernel
theorem dL_law_2047 : decode code 2047 = .ok (.iadd, 1) := by decide +kernel
theorem dL_law_2048 : decode code 2048 = .ok (.iaload, 1) := by decide +kernel
theorem dL_law_2049 : decode code 2049 = .ok (.invokevirtual 289, 3) := by decide +kernel
theorem dL_law_2052 : decode code 2052 = .ok (.pop, 1) := by decide +kernel
theorem dL_law_2053 : decode code 2053 = .ok (.goto 337, 3) := by decide +kernel
theorem dL_law_2056 : decode code 2056 = .ok (.aload_n 1, 1) := by decide +kernel
theorem dL_law_2057 : decode code 2057 = .ok (.aload_n 0, 1) := by decide +kernel
theorem dL_law_2058 : decode code 2058 = .ok (.iload_n 3, 1) := by decide +kernel
theorem dL_law_2059 : decode code 2059 = .ok (.iconst 1, 1) := by decide +kernel
theorem dL_law_2060 : decode code 2060 = .ok (.iadd, 1) := by decide +kernel
theorem dL_law_2061 : decode code 2061 = .ok (.iaload, 1) := by decide +kernel
theorem dL_law_2062 : decode code 2062 = .ok (.aload_n 0, 1) := by decide +kernel
theorem dL_law_2063 : decode code 2063 = .ok (.iload_n 3, 1) := by decide +kernel
theorem dL_law_2064 : decode code 2064 = .ok (.iconst 2, 1) := by decide +kernel
theorem dL_law_2065 : decode code 2065 = .ok (.iadd, 1) := by decide +kernel
theorem dL_law_2066 : decode code 2066 = .ok (.iaload, 1) := by decide +kernel
theorem dL_law_2067 : decode code 2067 = .ok (.invokevirtual 290, 3) := by decide +kernel
theorem dL_law_2070 : decode code 2070 = .ok (.pop, 1) := by decide +kernel
theorem dL_law_2071 : decode code 2071 = .ok (.aload_n 2, 1) := by decide +kernel
theorem dL_law_2072 : decode code 2072 = .ok (.aload_n 0, 1) := by decide +kernel
theorem dL_law_2073 : decode code 2073 = .ok (.iload_n 3, 1) := by decide +kernel
theorem dL_law_2074 : decode code 2074 = .ok (.iconst 1, 1) := by decide +kernel
theorem dL_law_2075 : decode code 2075 = .ok (.iadd, 1) := by decide +kernel
theorem dL_law_2076 : decode code 2076 = .ok (.iaload, 1) := by decide +kernel
theorem dL_law_2077 : decode code 2077 = .ok (.aload_n 0, 1) := by decide +kernel
theorem dL_law_2078 : decode code 2078 = .ok (.iload_n 3, 1) := by decide +kernel
theorem dL_law_2079 : decode code 2079 = .ok (.iconst 2, 1) := by decide +kernel
theorem dL_law_2080 : decode code 2080 = .ok (.iadd, 1) := by decide +kernel
theorem dL_law_2081 : decode code 2081 = .ok (.iaload, 1) := by decide +kernel
theorem dL_law_2082 : decode code 2082 = .ok (.invokevirtual 293, 3) := by decide +kernel
theorem dL_law_2085 : decode code 2085 = .ok (.pop, 1) := by decide +kernel
theorem dL_law_2086 : decode code 2086 = .ok (.goto 304, 3) := by decide +kernel
theorem dL_law_2089 : decode code 2089 = .ok (.aload_n 1, 1) := by decide +kernel
theorem dL_law_2090 : decode code 2090 = .ok (.aload_n 0, 1) := by decide +kernel
theorem dL_law_2091 : decode code 2091 = .ok (.iload_n 3, 1) := by decide +kernel
theorem dL_law_2092 : decode code 2092 = .ok (.iconst 1, 1) := by decide +kernel
theorem dL_law_2093 : decode code 2093 = .ok (.iadd, 1) := by decide +kernel
theorem dL_law_2094 : decode code 2094 = .ok (.iaload, 1) := by decide +kernel
theorem dL_law_2095 : decode code 2095 = .ok (.aload_n 0, 1) := by decide +kernel
theorem dL_law_2096 : decode code 2096 = .ok (.iload_n 3, 1) := by decide +kernel
theorem dL_law_2097 : decode code 2097 = .ok (.iconst 2, 1) := by decide +kernel
theorem dL_law_2098 : decode code 2098 = .ok (.iadd, 1) := by decide +kernel
theorem dL_law_2099 : decode code 2099 = .ok (.iaload, 1) := by decide +kernel
theorem dL_law_2100 : decode code 2100 = .ok (.aload_n 0, 1) := by decide +kernel
theorem dL_law_2101 : decode code 2101 = .ok (.iload_n 3, 1) := by decide +kernel
theorem dL_law_2102 : decode code 2102 = .ok (.iconst 3, 1) := by decide +kernel
theorem dL_law_2103 : decode code 2103 = .ok (.iadd, 1) := by decide +kernel
theorem dL_law_2104 : decode code 2104 = .ok (.iaload, 1) := by decide +kernel
theorem dL_law_2105 : decode code 2105 = .ok (.aload_n 0, 1) := by decide +kernel
theorem dL_law_2106 : decode code 2106 = .ok (.iload_n 3, 1) := by decide +kernel
theorem dL_law_2107 : decode code 2107 = .ok (.iconst 4, 1) := by decide +kernel
theorem dL_law_2108 : decode code 2108 = .ok (.iadd, 1) := by decide +kernel
theorem dL_law_2109 : decode code 2109 = .ok (.iaload, 1) := by decide +kernel
theorem dL_law_2110 : decode code 2110 = .ok (.invokevirtual 294, 3) := by decide +kernel
theorem dL_law_2113 : decode code 2113 = .ok (.pop, 1) := by decide +kernel
theorem dL_law_2114 : decode code 2114 = .ok (.aload_n 2, 1) := by decide +kernel
theorem dL_law_2115 : decode code 2115 = .ok (.aload_n 0, 1) := by decide +kernel
theorem dL_law_2116 : decode code 2116 = .ok (.iload_n 3, 1) := by decide +kernel
theorem dL_law_2117 : decode code 2117 = .ok (.iconst 1, 1) := by decide +kernel
theorem dL_law_2118 : decode code 2118 = .ok (.iadd, 1) := by decide +kernel
theorem dL_law_2119 : decode code 2119 = .ok (.iaload, 1) := by decide +kernel
theorem dL_law_2120 : decode code 2120 = .ok (.aload_n 0, 1) := by decide +kernel
theorem dL_law_2121 : decode code 2121 = .ok (.iload_n 3, 1) := by decide +kernel
theorem dL_law_2122 : decode code 2122 = .ok (.iconst 2, 1) := by decide +kernel
theorem dL_law_2123 : decode code 2123 = .ok (.iadd, 1) := by decide +kernel
theorem dL_law_2124 : decode code 2124 = .ok (.iaload, 1) := by decide +kernel
theorem dL_law_2125 : decode code 2125 = .ok (.aload_n 0, 1) := by decide +kernel
theorem dL_law_2126 : decode code 2126 = .ok (.iload_n 3, 1) := by decide +kernel
theorem dL_law_2127 : decode code 2127 = .ok (.iconst 3, 1) := by decide +kernel
theorem dL_law_2128 : decode code 2128 = .ok (.iadd, 1) := by decide +kernel
theorem dL_law_2129 : decode code 2129 = .ok (.iaload, 1) := by decide +kernel
theorem dL_law_2130 : decode code 2130 = .ok (.aload_n 0, 1) := by decide +kernel
theorem dL_law_2131 : decode code 2131 = .ok (.iload_n 3, 1) := by decide +kernel
theorem dL_law_2132 : decode code 2132 = .ok (.iconst 4, 1) := by decide +kernel
theorem dL_law_2133 : decode code 2133 = .ok (.iadd, 1) := by decide +kernel
theorem dL_law_2134 : decode code 2134 = .ok (.iaload, 1) := by decide +kernel
theorem dL_law_2135 : decode code 2135 = .ok (.invokevirtual 298, 3) := by decide +kernel
theorem dL_law_2138 : decode code 2138 = .ok (.pop, 1) := by decide +kernel
theorem dL_law_2139 : decode code 2139 = .ok (.goto 251, 3) := by decide +kernel
theorem dL_law_2142 : decode code 2142 = .ok (.aload_n 1, 1) := by decide +kernel
theorem dL_law_2143 : decode code 2143 = .ok (.aload_n 0, 1) := by decide +kernel
theorem dL_law_2144 : decode code 2144 = .ok (.iload_n 3, 1) := by decide +kernel
theorem dL_law_2145 : decode code 2145 = .ok (.iconst 1, 1) := by decide +kernel
theorem dL_law_2146 : decode code 2146 = .ok (.iadd, 1) := by decide +kernel
theorem dL_law_2147 : decode code 2147 = .ok (.iaload, 1) := by decide +kernel
theorem dL_law_2148 : decode code 2148 = .ok (.invokevirtual 299, 3) := by decide +kernel
theorem dL_law_2151 : decode code 2151 = .ok (.pop, 1) := by decide +kernel
theorem dL_law_2152 : decode code 2152 = .ok (.aload_n 2, 1) := by decide +kernel
theorem dL_law_2153 : decode code 2153 = .ok (.aload_n 0, 1) := by decide +kernel
theorem dL_law_2154 : decode code 2154 = .ok (.iload_n 3, 1) := by decide +kernel
theorem dL_law_2155 : decode code 2155 = .ok (.iconst 1, 1) := by decide +kernel
theorem dL_law_2156 : decode code 2156 = .ok (.iadd, 1) := by decide +kernel
theorem dL_law_2157 : decode code 2157 = .ok (.iaload, 1) := by decide +kernel
theorem dL_law_2158 : decode code 2158 = .ok (.invokevirtual 302, 3) := by decide +kernel
theorem dL_law_2161 : decode code 2161 = .ok (.pop, 1) := by decide +kernel
theorem dL_law_2162 : decode code 2162 = .ok (.goto 228, 3) := by decide +kernel
theorem dL_law_2165 : decode code 2165 = .ok (.aload_n 1, 1) := by decide +kernel
theorem dL_law_2166 : decode code 2166 = .ok (.aload_n 0, 1) := by decide +kernel
theorem dL_law_2167 : decode code 2167 = .ok (.iload_n 3, 1) := by decide +kernel
theorem dL_law_2168 : decode code 2168 = .ok (.iconst 1, 1) := by decide +kernel
theorem dL_law_2169 : decode code 2169 = .ok (.iadd, 1) := by decide +kernel
theorem dL_law_2170 : decode code 2170 = .ok (.iaload, 1) := by decide +kernel
theorem dL_law_2171 : decode code 2171 = .ok (.invokevirtual 303, 3) := by decide +kernel
theorem dL_law_2174 : decode code 2174 = .ok (.pop, 1) := by decide +kernel
theorem dL_law_2175 : decode code 2175 = .ok (.aload_n 2, 1) := by decide +kernel
theorem dL_law_2176 : decode code 2176 = .ok (.aload_n 0, 1) := by decide +kernel
theorem dL_law_2177 : decode code 2177 = .ok (.iload_n 3, 1) := by decide +kernel
theorem dL_law_2178 : decode code 2178 = .ok (.iconst 1, 1) := by decide +kernel
theorem dL_law_2179 : decode code 2179 = .ok (.iadd, 1) := by decide +kernel
theorem dL_law_2180 : decode code 2180 = .ok (.iaload, 1) := by decide +kernel
theorem dL_law_2181 : decode code 2181 = .ok (.invokevirtual 306, 3) := by decide +kernel
theorem dL_law_2184 : decode code 2184 = .ok (.pop, 1) := by decide +kernel
theorem dL_law_2185 : decode code 2185 = .ok (.goto 205, 3) := by decide +kernel
theorem dL_law_2188 : decode code 2188 = .ok (.aload_n 1, 1) := by decide +kernel
theorem dL_law_2189 : decode code 2189 = .ok (.aload_n 0, 1) := by decide +kernel
theorem dL_law_2190 : decode code 2190 = .ok (.iload_n 3, 1) := by decide +kernel
theorem dL_law_2191 : decode code 2191 = .ok (.iconst 1, 1) := by decide +kernel
theorem dL_law_2192 : decode code 2192 = .ok (.iadd, 1) := by decide +kernel
theorem dL_law_2193 : decode code 2193 = .ok (.iaload, 1) := by decide +kernel
theorem dL_law_2194 : decode code 2194 = .ok (.invokevirtual 307, 3) := by decide +kernel
theorem dL_law_2197 : decode code 2197 = .ok (.pop, 1) := by decide +kernel
theorem dL_law_2198 : decode code 2198 = .ok (.aload_n 2, 1) := by decide +kernel
theorem dL_law_2199 : decode code 2199 = .ok (.aload_n 0, 1) := by decide +kernel
theorem dL_law_2200 : decode code 2200 = .ok (.iload_n 3, 1) := by decide +kernel
theorem dL_law_2201 : decode code 2201 = .ok (.iconst 1, 1) := by decide +kernel
theorem dL_law_2202 : decode code 2202 = .ok (.iadd, 1) := by decide +kernel
theorem dL_law_2203 : decode code 2203 = .ok (.iaload, 1) := by decide +kernel
theorem dL_law_2204 : decode code 2204 = .ok (.invokevirtual 310, 3) := by decide +kernel
theorem dL_law_2207 : decode code 2207 = .ok (.pop, 1) := by decide +kernel
theorem dL_law_2208 : decode code 2208 = .ok (.goto 182, 3) := by decide +kernel
theorem dL_law_2211 : decode code 2211 = .ok (.aload_n 1, 1) := by decide +kernel
theorem dL_law_2212 : decode code 2212 = .ok (.aload_n 0, 1) := by decide +kernel
theorem dL_law_2213 : decode code 2213 = .ok (.iload_n 3, 1) := by decide +kernel
theorem dL_law_2214 : decode code 2214 = .ok (.iconst 1, 1) := by decide +kernel
theorem dL_law_2215 : decode code 2215 = .ok (.iadd, 1) := by decide +kernel
theorem dL_law_2216 : decode code 2216 = .ok (.iaload, 1) := by decide +kernel
theorem dL_law_2217 : decode code 2217 = .ok (.aload_n 0, 1) := by decide +kernel
theorem dL_law_2218 : decode code 2218 = .ok (.iload_n 3, 1) := by decide +kernel
theorem dL_law_2219 : decode code 2219 = .ok (.iconst 2, 1) := by decide +kernel
theorem dL_law_2220 : decode code 2220 = .ok (.iadd, 1) := by decide +kernel
theorem dL_law_2221 : decode code 2221 = .ok (.iaload, 1) := by decide +kernel
theorem dL_law_2222 : decode code 2222 = .ok (.aload_n 0, 1) := by decide +kernel
theorem dL_law_2223 : decode code 2223 = .ok (.iload_n 3, 1) := by decide +kernel
theorem dL_law_2224 : decode code 2224 = .ok (.iconst 3, 1) := by decide +kernel
theorem dL_law_2225 : decode code 2225 = .ok (.iadd, 1) := by decide +kernel
theorem dL_law_2226 : decode code 2226 = .ok (.iaload, 1) := by decide +kernel
theorem dL_law_2227 : decode code 2227 = .ok (.invokevirtual 311, 3) := by decide +kernel
theorem dL_law_2230 : decode code 2230 = .ok (.pop, 1) := by decide +kernel
theorem dL_law_2231 : decode code 2231 = .ok (.aload_n 2, 1) := by decide +kernel
theorem dL_law_2232 : decode code 2232 = .ok (.aload_n 0, 1) := by decide +kernel
theorem dL_law_2233 : decode code 2233 = .ok (.iload_n 3, 1) := by decide +kernel
theorem dL_law_2234 : decode code 2234 = .ok (.iconst 1, 1) := by decide +kernel
theorem dL_law_2235 : decode code 2235 = .ok (.iadd, 1) := by decide +kernel
theorem dL_law_2236 : decode code 2236 = .ok (.iaload, 1) := by decide +kernel
theorem dL_law_2237 : decode code 2237 = .ok (.aload_n 0, 1) := by decide +kernel
theorem dL_law_2238 : decode code 2238 = .ok (.iload_n 3, 1) := by decide +kernel
theorem dL_law_2239 : decode code 2239 = .ok (.iconst 2, 1) := by decide +kernel
theorem dL_law_2240 : decode code 2240 = .ok (.iadd, 1) := by decide +kernel
theorem dL_law_2241 : decode code 2241 = .ok (.iaload, 1) := by decide +kernel
theorem dL_law_2242 : decode code 2242 = .ok (.aload_n 0, 1) := by decide +kernel
theorem dL_law_2243 : decode code 2243 = .ok (.iload_n 3, 1) := by decide +kernel
theorem dL_law_2244 : decode code 2244 = .ok (.iconst 3, 1) := by decide +kernel
theorem dL_law_2245 : decode code 2245 = .ok (.iadd, 1) := by decide +kernel
theorem dL_law_2246 : decode code 2246 = .ok (.iaload, 1) := by decide +kernel
theorem dL_law_2247 : decode code 2247 = .ok (.invokevirtual 314, 3) := by decide +kernel
theorem dL_law_2250 : decode code 2250 = .ok (.pop, 1) := by decide +kernel
theorem dL_law_2251 : decode code 2251 = .ok (.goto 139, 3) := by decide +kernel
theorem dL_law_2254 : decode code 2254 = .ok (.aload_n 1, 1) := by decide +kernel
theorem dL_law_2255 : decode code 2255 = .ok (.aload_n 0, 1) := by decide +kernel
theorem dL_law_2256 : decode code 2256 = .ok (.iload_n 3, 1) := by decide +kernel
theorem dL_law_2257 : decode code 2257 = .ok (.iconst 1, 1) := by decide +kernel
theorem dL_law_2258 : decode code 2258 = .ok (.iadd, 1) := by decide +kernel
theorem dL_law_2259 : decode code 2259 = .ok (.iaload, 1) := by decide +kernel
theorem dL_law_2260 : decode code 2260 = .ok (.aload_n 0, 1) := by decide +kernel
theorem dL_law_2261 : decode code 2261 = .ok (.iload_n 3, 1) := by decide +kernel
theorem dL_law_2262 : decode code 2262 = .ok (.iconst 2, 1) := by decide +kernel
theorem dL_law_2263 : decode code 2263 = .ok (.iadd, 1) := by decide +kernel
theorem dL_law_2264 : decode code 2264 = .ok (.iaload, 1) := by decide +kernel
theorem dL_law_2265 : decode code 2265 = .ok (.aload_n 0, 1) := by decide +kernel
theorem dL_law_2266 : decode code 2266 = .ok (.iload_n 3, 1) := by decide +kernel
theorem dL_law_2267 : decode code 2267 = .ok (.iconst 3, 1) := by decide +kernel
theorem dL_law_2268 : decode code 2268 = .ok (.iadd, 1) := by decide +kernel
theorem dL_law_2269 : decode code 2269 = .ok (.iaload, 1) := by decide +kernel
theorem dL_law_2270 : decode code 2270 = .ok (.i2l, 1) := by decide +kernel
theorem dL_law_2271 : decode code 2271 = .ok (.bipush 32, 2) := by decide +kernel
theorem dL_law_2273 : decode code 2273 = .ok (.lshl, 1) := by decide +kernel
theorem dL_law_2274 : decode code 2274 = .ok (.aload_n 0, 1) := by decide +kernel
theorem dL_law_2275 : decode code 2275 = .ok (.iload_n 3, 1) := by decide +kernel
theorem dL_law_2276 : decode code 2276 = .ok (.iconst 4, 1) := by decide +kernel
theorem dL_law_2277 : decode code 2277 = .ok (.iadd, 1) := by decide +kernel
theorem dL_law_2278 : decode code 2278 = .ok (.iaload, 1) := by decide +kernel
theorem dL_law_2279 : decode code 2279 = .ok (.i2l, 1) := by decide +kernel
theorem dL_law_2280 : decode code 2280 = .ok (.ldc2_w 315, 3) := by decide +kernel
theorem dL_law_2283 : decode code 2283 = .ok (.land, 1) := by decide +kernel
theorem dL_law_2284 : decode code 2284 = .ok (.lor, 1) := by decide +kernel
theorem dL_law_2285 : decode code 2285 = .ok (.invokevirtual 317, 3) := by decide +kernel
theorem dL_law_2288 : decode code 2288 = .ok (.pop, 1) := by decide +kernel
theorem dL_law_2289 : decode code 2289 = .ok (.aload_n 2, 1) := by decide +kernel
theorem dL_law_2290 : decode code 2290 = .ok (.aload_n 0, 1) := by decide +kernel
theorem dL_law_2291 : decode code 2291 = .ok (.iload_n 3, 1) := by decide +kernel
theorem dL_law_2292 : decode code 2292 = .ok (.iconst 1, 1) := by decide +kernel
theorem dL_law_2293 : decode code 2293 = .ok (.iadd, 1) := by decide +kernel
theorem dL_law_2294 : decode code 2294 = .ok (.iaload, 1) := by decide +kernel
theorem dL_law_2295 : decode code 2295 = .ok (.aload_n 0, 1) := by decide +kernel
theorem dL_law_2296 : decode code 2296 = .ok (.iload_n 3, 1) := by decide +kernel
theorem dL_law_2297 : decode code 2297 = .ok (.iconst 2, 1) := by decide +kernel
theorem dL_law_2298 : decode code 2298 = .ok (.iadd, 1) := by decide +kernel
theorem dL_law_2299 : decode code 2299 = .ok (.iaload, 1) := by decide +kernel
theorem dL_law_2300 : decode code 2300 = .ok (.aload_n 0, 1) := by decide +kernel
theorem dL_law_2301 : decode code 2301 = .ok (.iload_n 3, 1) := by decide +kernel
theorem dL_law_2302 : decode code 2302 = .ok (.iconst 3, 1) := by decide +kernel
theorem dL_law_2303 : decode code 2303 = .ok (.iadd, 1) := by decide +kernel
theorem dL_law_2304 : decode code 2304 = .ok (.iaload, 1) := by decide +kernel
theorem dL_law_2305 : decode code 2305 = .ok (.i2l, 1) := by decide +kernel
theorem dL_law_2306 : decode code 2306 = .ok (.bipush 32, 2) := by decide +kernel
theorem dL_law_2308 : decode code 2308 = .ok (.lshl, 1) := by decide +kernel
theorem dL_law_2309 : decode code 2309 = .ok (.aload_n 0, 1) := by decide +kernel
theorem dL_law_2310 : decode code 2310 = .ok (.iload_n 3, 1) := by decide +kernel
theorem dL_law_2311 : decode code 2311 = .ok (.iconst 4, 1) := by decide +kernel
theorem dL_law_2312 : decode code 2312 = .ok (.iadd, 1) := by decide +kernel
theorem dL_law_2313 : decode code 2313 = .ok (.iaload, 1) := by decide +kernel
theorem dL_law_2314 : decode code 2314 = .ok (.i2l, 1) := by decide +kernel
theorem dL_law_2315 : decode code 2315 = .ok (.ldc2_w 315, 3) := by decide +kernel
theorem dL_law_2318 : decode code 2318 = .ok (.land, 1) := by decide +kernel
theorem dL_law_2319 : decode code 2319 = .ok (.lor, 1) := by decide +kernel
theorem dL_law_2320 : decode code 2320 = .ok (.invokevirtual 321, 3) := by decide +kernel
theorem dL_law_2323 : decode code 2323 = .ok (.pop, 1) := by decide +kernel
theorem dL_law_2324 : decode code 2324 = .ok (.goto 66, 3) := by decide +kernel
theorem dL_law_2327 : decode code 2327 = .ok (.aload_n 1, 1) := by decide +kernel
theorem dL_law_2328 : decode code 2328 = .ok (.aload_n 0, 1) := by decide +kernel
theorem dL_law_2329 : decode code 2329 = .ok (.iload_n 3, 1) := by decide +kernel
theorem dL_law_2330 : decode code 2330 = .ok (.iconst 1, 1) := by decide +kernel
theorem dL_law_2331 : decode code 2331 = .ok (.iadd, 1) := by decide +kernel
theorem dL_law_2332 : decode code 2332 = .ok (.iaload, 1) := by decide +kernel
theorem dL_law_2333 : decode code 2333 = .ok (.aload_n 0, 1) := by decide +kernel
theorem dL_law_2334 : decode code 2334 = .ok (.iload_n 3, 1) := by decide +kernel
theorem dL_law_2335 : decode code 2335 = .ok (.iconst 2, 1) := by decide +kernel
theorem dL_law_2336 : decode code 2336 = .ok (.iadd, 1) := by decide +kernel
theorem dL_law_2337 : decode code 2337 = .ok (.iaload, 1) := by decide +kernel
theorem dL_law_2338 : decode code 2338 = .ok (.aload_n 0, 1) := by decide +kernel
theorem dL_law_2339 : decode code 2339 = .ok (.iload_n 3, 1) := by decide +kernel
theorem dL_law_2340 : decode code 2340 = .ok (.iconst 3, 1) := by decide +kernel
theorem dL_law_2341 : decode code 2341 = .ok (.iadd, 1) := by decide +kernel
theorem dL_law_2342 : decode code 2342 = .ok (.iaload, 1) := by decide +kernel
theorem dL_law_2343 : decode code 2343 = .ok (.aload_n 0, 1) := by decide +kernel
theorem dL_law_2344 : decode code 2344 = .ok (.iload_n 3, 1) := by decide +kernel
theorem dL_law_2345 : decode code 2345 = .ok (.iconst 4, 1) := by decide +kernel
theorem dL_law_2346 : decode code 2346 = .ok (.iadd, 1) := by decide +kernel
theorem dL_law_2347 : decode code 2347 = .ok (.iaload, 1) := by decide +kernel
theorem dL_law_2348 : decode code 2348 = .ok (.aload_n 0, 1) := by decide +kernel
theorem dL_law_2349 : decode code 2349 = .ok (.iload_n 3, 1) := by decide +kernel
theorem dL_law_2350 : decode code 2350 = .ok (.iconst 5, 1) := by decide +kernel
theorem dL_law_2351 : decode code 2351 = .ok (.iadd, 1) := by decide +kernel
theorem dL_law_2352 : decode code 2352 = .ok (.iaload, 1) := by decide +kernel
theorem dL_law_2353 : decode code 2353 = .ok (.invokevirtual 322, 3) := by decide +kernel
theorem dL_law_2356 : decode code 2356 = .ok (.aload_n 2, 1) := by decide +kernel
theorem dL_law_2357 : decode code 2357 = .ok (.aload_n 0, 1) := by decide +kernel
theorem dL_law_2358 : decode code 2358 = .ok (.iload_n 3, 1) := by decide +kernel
theorem dL_law_2359 : decode code 2359 = .ok (.iconst 1, 1) := by decide +kernel
theorem dL_law_2360 : decode code 2360 = .ok (.iadd, 1) := by decide +kernel
theorem dL_law_2361 : decode code 2361 = .ok (.iaload, 1) := by decide +kernel
theorem dL_law_2362 : decode code 2362 = .ok (.aload_n 0, 1) := by decide +kernel
theorem dL_law_2363 : decode code 2363 = .ok (.iload_n 3, 1) := by decide +kernel
theorem dL_law_2364 : decode code 2364 = .ok (.iconst 2, 1) := by decide +kernel
theorem dL_law_2365 : decode code 2365 = .ok (.iadd, 1) := by decide +kernel
theorem dL_law_2366 : decode code 2366 = .ok (.iaload, 1) := by decide +kernel
theorem dL_law_2367 : decode code 2367 = .ok (.aload_n 0, 1) := by decide +kernel
theorem dL_law_2368 : decode code 2368 = .ok (.iload_n 3, 1) := by decide +kernel
theorem dL_law_2369 : decode code 2369 = .ok (.iconst 3, 1) := by decide +kernel
theorem dL_law_2370 : decode code 2370 = .ok (.iadd, 1) := by decide +kernel
theorem dL_law_2371 : decode code 2371 = .ok (.iaload, 1) := by decide +kernel
theorem dL_law_2372 : decode code 2372 = .ok (.aload_n 0, 1) := by decide +kernel
theorem dL_law_2373 : decode code 2373 = .ok (.iload_n 3, 1) := by decide +kernel
theorem dL_law_2374 : decode code 2374 = .ok (.iconst 4, 1) := by decide +kernel
theorem dL_law_2375 : decode code 2375 = .ok (.iadd, 1) := by decide +kernel
theorem dL_law_2376 : decode code 2376 = .ok (.iaload, 1) := by decide +kernel
theorem dL_law_2377 : decode code 2377 = .ok (.aload_n 0, 1) := by decide +kernel
theorem dL_law_2378 : decode code 2378 = .ok (.iload_n 3, 1) := by decide +kernel
theorem dL_law_2379 : decode code 2379 = .ok (.iconst 5, 1) := by decide +kernel
theorem dL_law_2380 : decode code 2380 = .ok (.iadd, 1) := by decide +kernel
theorem dL_law_2381 : decode code 2381 = .ok (.iaload, 1) := by decide +kernel
theorem dL_law_2382 : decode code 2382 = .ok (.invokevirtual 325, 3) := by decide +kernel
theorem dL_law_2385 : decode code 2385 = .ok (.if_icmp .eq 5, 3) := by decide +kernel
theorem dL_law_2388 : decode code 2388 = .ok (.iconst 0, 1) := by decide +kernel
theorem dL_law_2389 : decode code 2389 = .ok (.ireturn, 1) := by decide +kernel
theorem dL_law_2390 : decode code 2390 = .ok (.iinc 3 6, 3) := by decide +kernel
theorem dL_law_2393 : decode code 2393 = .ok (.goto (-2375), 3) := by decide +kernel
theorem dL_law_2396 : decode code 2396 = .ok (.iconst 1, 1) := by decide +kernel
theorem dL_law_2397 : decode code 2397 = .ok (.ireturn, 1) := by decide +kernel
