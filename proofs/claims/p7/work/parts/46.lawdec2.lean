theorem dXL_law_413 : decode code 413 = .ok (.iaload, 1) := by decide +kernel
theorem dXL_law_414 : decode code 414 = .ok (.aload_n 3, 1) := by decide +kernel
theorem dXL_law_415 : decode code 415 = .ok (.invokestatic 100, 3) := by decide +kernel
theorem dXL_law_418 : decode code 418 = .ok (.istore 5, 2) := by decide +kernel
theorem dXL_law_420 : decode code 420 = .ok (.aload_n 2, 1) := by decide +kernel
theorem dXL_law_421 : decode code 421 = .ok (.aload_n 0, 1) := by decide +kernel
theorem dXL_law_422 : decode code 422 = .ok (.iload 4, 2) := by decide +kernel
theorem dXL_law_424 : decode code 424 = .ok (.iconst 1, 1) := by decide +kernel
theorem dXL_law_425 : decode code 425 = .ok (.iadd, 1) := by decide +kernel
theorem dXL_law_426 : decode code 426 = .ok (.iaload, 1) := by decide +kernel
theorem dXL_law_427 : decode code 427 = .ok (.aload_n 0, 1) := by decide +kernel
theorem dXL_law_428 : decode code 428 = .ok (.iload 4, 2) := by decide +kernel
theorem dXL_law_430 : decode code 430 = .ok (.iconst 2, 1) := by decide +kernel
theorem dXL_law_431 : decode code 431 = .ok (.iadd, 1) := by decide +kernel
theorem dXL_law_432 : decode code 432 = .ok (.iaload, 1) := by decide +kernel
theorem dXL_law_433 : decode code 433 = .ok (.invokevirtual 102, 3) := by decide +kernel
theorem dXL_law_436 : decode code 436 = .ok (.lstore 6, 2) := by decide +kernel
theorem dXL_law_438 : decode code 438 = .ok (.goto 258, 3) := by decide +kernel
theorem dXL_law_441 : decode code 441 = .ok (.aload_n 1, 1) := by decide +kernel
theorem dXL_law_442 : decode code 442 = .ok (.aload_n 0, 1) := by decide +kernel
theorem dXL_law_443 : decode code 443 = .ok (.iload 4, 2) := by decide +kernel
theorem dXL_law_445 : decode code 445 = .ok (.iconst 1, 1) := by decide +kernel
theorem dXL_law_446 : decode code 446 = .ok (.iadd, 1) := by decide +kernel
theorem dXL_law_447 : decode code 447 = .ok (.iaload, 1) := by decide +kernel
theorem dXL_law_448 : decode code 448 = .ok (.aload_n 3, 1) := by decide +kernel
theorem dXL_law_449 : decode code 449 = .ok (.invokestatic 103, 3) := by decide +kernel
theorem dXL_law_452 : decode code 452 = .ok (.istore 5, 2) := by decide +kernel
theorem dXL_law_454 : decode code 454 = .ok (.aload_n 2, 1) := by decide +kernel
theorem dXL_law_455 : decode code 455 = .ok (.aload_n 0, 1) := by decide +kernel
theorem dXL_law_456 : decode code 456 = .ok (.iload 4, 2) := by decide +kernel
theorem dXL_law_458 : decode code 458 = .ok (.iconst 1, 1) := by decide +kernel
theorem dXL_law_459 : decode code 459 = .ok (.iadd, 1) := by decide +kernel
theorem dXL_law_460 : decode code 460 = .ok (.iaload, 1) := by decide +kernel
theorem dXL_law_461 : decode code 461 = .ok (.invokevirtual 106, 3) := by decide +kernel
theorem dXL_law_464 : decode code 464 = .ok (.istore 6, 2) := by decide +kernel
theorem dXL_law_466 : decode code 466 = .ok (.goto 230, 3) := by decide +kernel
theorem dXL_law_469 : decode code 469 = .ok (.aload_n 1, 1) := by decide +kernel
theorem dXL_law_470 : decode code 470 = .ok (.aload_n 0, 1) := by decide +kernel
theorem dXL_law_471 : decode code 471 = .ok (.iload 4, 2) := by decide +kernel
theorem dXL_law_473 : decode code 473 = .ok (.iconst 1, 1) := by decide +kernel
theorem dXL_law_474 : decode code 474 = .ok (.iadd, 1) := by decide +kernel
theorem dXL_law_475 : decode code 475 = .ok (.iaload, 1) := by decide +kernel
theorem dXL_law_476 : decode code 476 = .ok (.aload_n 0, 1) := by decide +kernel
theorem dXL_law_477 : decode code 477 = .ok (.iload 4, 2) := by decide +kernel
theorem dXL_law_479 : decode code 479 = .ok (.iconst 2, 1) := by decide +kernel
theorem dXL_law_480 : decode code 480 = .ok (.iadd, 1) := by decide +kernel
theorem dXL_law_481 : decode code 481 = .ok (.iaload, 1) := by decide +kernel
theorem dXL_law_482 : decode code 482 = .ok (.aload_n 3, 1) := by decide +kernel
theorem dXL_law_483 : decode code 483 = .ok (.invokestatic 107, 3) := by decide +kernel
theorem dXL_law_486 : decode code 486 = .ok (.istore 5, 2) := by decide +kernel
theorem dXL_law_488 : decode code 488 = .ok (.aload_n 2, 1) := by decide +kernel
theorem dXL_law_489 : decode code 489 = .ok (.aload_n 0, 1) := by decide +kernel
theorem dXL_law_490 : decode code 490 = .ok (.iload 4, 2) := by decide +kernel
theorem dXL_law_492 : decode code 492 = .ok (.iconst 1, 1) := by decide +kernel
theorem dXL_law_493 : decode code 493 = .ok (.iadd, 1) := by decide +kernel
theorem dXL_law_494 : decode code 494 = .ok (.iaload, 1) := by decide +kernel
theorem dXL_law_495 : decode code 495 = .ok (.aload_n 0, 1) := by decide +kernel
theorem dXL_law_496 : decode code 496 = .ok (.iload 4, 2) := by decide +kernel
theorem dXL_law_498 : decode code 498 = .ok (.iconst 2, 1) := by decide +kernel
theorem dXL_law_499 : decode code 499 = .ok (.iadd, 1) := by decide +kernel
theorem dXL_law_500 : decode code 500 = .ok (.iaload, 1) := by decide +kernel
theorem dXL_law_501 : decode code 501 = .ok (.invokevirtual 109, 3) := by decide +kernel
theorem dXL_law_504 : decode code 504 = .ok (.istore 6, 2) := by decide +kernel
theorem dXL_law_506 : decode code 506 = .ok (.goto 190, 3) := by decide +kernel
theorem dXL_law_509 : decode code 509 = .ok (.aload_n 1, 1) := by decide +kernel
theorem dXL_law_510 : decode code 510 = .ok (.aload_n 0, 1) := by decide +kernel
theorem dXL_law_511 : decode code 511 = .ok (.iload 4, 2) := by decide +kernel
theorem dXL_law_513 : decode code 513 = .ok (.iconst 1, 1) := by decide +kernel
theorem dXL_law_514 : decode code 514 = .ok (.iadd, 1) := by decide +kernel
theorem dXL_law_515 : decode code 515 = .ok (.iaload, 1) := by decide +kernel
theorem dXL_law_516 : decode code 516 = .ok (.aload_n 3, 1) := by decide +kernel
theorem dXL_law_517 : decode code 517 = .ok (.invokestatic 110, 3) := by decide +kernel
theorem dXL_law_520 : decode code 520 = .ok (.istore 5, 2) := by decide +kernel
theorem dXL_law_522 : decode code 522 = .ok (.aload_n 2, 1) := by decide +kernel
theorem dXL_law_523 : decode code 523 = .ok (.aload_n 0, 1) := by decide +kernel
theorem dXL_law_524 : decode code 524 = .ok (.iload 4, 2) := by decide +kernel
theorem dXL_law_526 : decode code 526 = .ok (.iconst 1, 1) := by decide +kernel
theorem dXL_law_527 : decode code 527 = .ok (.iadd, 1) := by decide +kernel
theorem dXL_law_528 : decode code 528 = .ok (.iaload, 1) := by decide +kernel
theorem dXL_law_529 : decode code 529 = .ok (.invokevirtual 112, 3) := by decide +kernel
theorem dXL_law_532 : decode code 532 = .ok (.istore 6, 2) := by decide +kernel
theorem dXL_law_534 : decode code 534 = .ok (.goto 162, 3) := by decide +kernel
theorem dXL_law_537 : decode code 537 = .ok (.aload_n 1, 1) := by decide +kernel
theorem dXL_law_538 : decode code 538 = .ok (.aload_n 0, 1) := by decide +kernel
theorem dXL_law_539 : decode code 539 = .ok (.iload 4, 2) := by decide +kernel
theorem dXL_law_541 : decode code 541 = .ok (.iconst 1, 1) := by decide +kernel
theorem dXL_law_542 : decode code 542 = .ok (.iadd, 1) := by decide +kernel
theorem dXL_law_543 : decode code 543 = .ok (.iaload, 1) := by decide +kernel
theorem dXL_law_544 : decode code 544 = .ok (.aload_n 0, 1) := by decide +kernel
theorem dXL_law_545 : decode code 545 = .ok (.iload 4, 2) := by decide +kernel
theorem dXL_law_547 : decode code 547 = .ok (.iconst 2, 1) := by decide +kernel
theorem dXL_law_548 : decode code 548 = .ok (.iadd, 1) := by decide +kernel
theorem dXL_law_549 : decode code 549 = .ok (.iaload, 1) := by decide +kernel
theorem dXL_law_550 : decode code 550 = .ok (.aload_n 3, 1) := by decide +kernel
theorem dXL_law_551 : decode code 551 = .ok (.invokestatic 113, 3) := by decide +kernel
theorem dXL_law_554 : decode code 554 = .ok (.istore 5, 2) := by decide +kernel
theorem dXL_law_556 : decode code 556 = .ok (.aload_n 2, 1) := by decide +kernel
theorem dXL_law_557 : decode code 557 = .ok (.aload_n 0, 1) := by decide +kernel
theorem dXL_law_558 : decode code 558 = .ok (.iload 4, 2) := by decide +kernel
theorem dXL_law_560 : decode code 560 = .ok (.iconst 1, 1) := by decide +kernel
theorem dXL_law_561 : decode code 561 = .ok (.iadd, 1) := by decide +kernel
theorem dXL_law_562 : decode code 562 = .ok (.iaload, 1) := by decide +kernel
theorem dXL_law_563 : decode code 563 = .ok (.aload_n 0, 1) := by decide +kernel
theorem dXL_law_564 : decode code 564 = .ok (.iload 4, 2) := by decide +kernel
theorem dXL_law_566 : decode code 566 = .ok (.iconst 2, 1) := by decide +kernel
theorem dXL_law_567 : decode code 567 = .ok (.iadd, 1) := by decide +kernel
theorem dXL_law_568 : decode code 568 = .ok (.iaload, 1) := by decide +kernel
theorem dXL_law_569 : decode code 569 = .ok (.invokevirtual 115, 3) := by decide +kernel
theorem dXL_law_572 : decode code 572 = .ok (.istore 6, 2) := by decide +kernel
theorem dXL_law_574 : decode code 574 = .ok (.goto 122, 3) := by decide +kernel
theorem dXL_law_577 : decode code 577 = .ok (.aload_n 1, 1) := by decide +kernel
theorem dXL_law_578 : decode code 578 = .ok (.aload_n 0, 1) := by decide +kernel
theorem dXL_law_579 : decode code 579 = .ok (.iload 4, 2) := by decide +kernel
theorem dXL_law_581 : decode code 581 = .ok (.iconst 1, 1) := by decide +kernel
theorem dXL_law_582 : decode code 582 = .ok (.iadd, 1) := by decide +kernel
theorem dXL_law_583 : decode code 583 = .ok (.iaload, 1) := by decide +kernel
theorem dXL_law_584 : decode code 584 = .ok (.aload_n 0, 1) := by decide +kernel
theorem dXL_law_585 : decode code 585 = .ok (.iload 4, 2) := by decide +kernel
theorem dXL_law_587 : decode code 587 = .ok (.iconst 2, 1) := by decide +kernel
theorem dXL_law_588 : decode code 588 = .ok (.iadd, 1) := by decide +kernel
