theorem dXL_law_422 : decode code 422 = .ok (.iaload, 1) := by decide +kernel
theorem dXL_law_423 : decode code 423 = .ok (.aload_n 0, 1) := by decide +kernel
theorem dXL_law_424 : decode code 424 = .ok (.iload 4, 2) := by decide +kernel
theorem dXL_law_426 : decode code 426 = .ok (.iconst 4, 1) := by decide +kernel
theorem dXL_law_427 : decode code 427 = .ok (.iadd, 1) := by decide +kernel
theorem dXL_law_428 : decode code 428 = .ok (.iaload, 1) := by decide +kernel
theorem dXL_law_429 : decode code 429 = .ok (.invokevirtual 95, 3) := by decide +kernel
theorem dXL_law_432 : decode code 432 = .ok (.lstore 6, 2) := by decide +kernel
theorem dXL_law_434 : decode code 434 = .ok (.aload_n 2, 1) := by decide +kernel
theorem dXL_law_435 : decode code 435 = .ok (.invokevirtual 76, 3) := by decide +kernel
theorem dXL_law_438 : decode code 438 = .ok (.iload 5, 2) := by decide +kernel
theorem dXL_law_440 : decode code 440 = .ok (.if_icmp .eq 5, 3) := by decide +kernel
theorem dXL_law_443 : decode code 443 = .ok (.iconst 0, 1) := by decide +kernel
theorem dXL_law_444 : decode code 444 = .ok (.ireturn, 1) := by decide +kernel
theorem dXL_law_445 : decode code 445 = .ok (.iload 5, 2) := by decide +kernel
theorem dXL_law_447 : decode code 447 = .ok (.ifCond .ne 14, 3) := by decide +kernel
theorem dXL_law_450 : decode code 450 = .ok (.aload_n 3, 1) := by decide +kernel
theorem dXL_law_451 : decode code 451 = .ok (.iconst 0, 1) := by decide +kernel
theorem dXL_law_452 : decode code 452 = .ok (.laload, 1) := by decide +kernel
theorem dXL_law_453 : decode code 453 = .ok (.lload 6, 2) := by decide +kernel
theorem dXL_law_455 : decode code 455 = .ok (.lcmp, 1) := by decide +kernel
theorem dXL_law_456 : decode code 456 = .ok (.ifCond .eq 5, 3) := by decide +kernel
theorem dXL_law_459 : decode code 459 = .ok (.iconst 0, 1) := by decide +kernel
theorem dXL_law_460 : decode code 460 = .ok (.ireturn, 1) := by decide +kernel
theorem dXL_law_461 : decode code 461 = .ok (.goto 576, 3) := by decide +kernel
theorem dXL_law_464 : decode code 464 = .ok (.aload_n 1, 1) := by decide +kernel
theorem dXL_law_465 : decode code 465 = .ok (.aload_n 0, 1) := by decide +kernel
theorem dXL_law_466 : decode code 466 = .ok (.iload 4, 2) := by decide +kernel
theorem dXL_law_468 : decode code 468 = .ok (.iconst 1, 1) := by decide +kernel
theorem dXL_law_469 : decode code 469 = .ok (.iadd, 1) := by decide +kernel
theorem dXL_law_470 : decode code 470 = .ok (.iaload, 1) := by decide +kernel
theorem dXL_law_471 : decode code 471 = .ok (.aload_n 0, 1) := by decide +kernel
theorem dXL_law_472 : decode code 472 = .ok (.iload 4, 2) := by decide +kernel
theorem dXL_law_474 : decode code 474 = .ok (.iconst 2, 1) := by decide +kernel
theorem dXL_law_475 : decode code 475 = .ok (.iadd, 1) := by decide +kernel
theorem dXL_law_476 : decode code 476 = .ok (.iaload, 1) := by decide +kernel
theorem dXL_law_477 : decode code 477 = .ok (.invokestatic 96, 3) := by decide +kernel
theorem dXL_law_480 : decode code 480 = .ok (.istore 5, 2) := by decide +kernel
theorem dXL_law_482 : decode code 482 = .ok (.aload_n 2, 1) := by decide +kernel
theorem dXL_law_483 : decode code 483 = .ok (.aload_n 0, 1) := by decide +kernel
theorem dXL_law_484 : decode code 484 = .ok (.iload 4, 2) := by decide +kernel
theorem dXL_law_486 : decode code 486 = .ok (.iconst 1, 1) := by decide +kernel
theorem dXL_law_487 : decode code 487 = .ok (.iadd, 1) := by decide +kernel
theorem dXL_law_488 : decode code 488 = .ok (.iaload, 1) := by decide +kernel
theorem dXL_law_489 : decode code 489 = .ok (.aload_n 0, 1) := by decide +kernel
theorem dXL_law_490 : decode code 490 = .ok (.iload 4, 2) := by decide +kernel
theorem dXL_law_492 : decode code 492 = .ok (.iconst 2, 1) := by decide +kernel
theorem dXL_law_493 : decode code 493 = .ok (.iadd, 1) := by decide +kernel
theorem dXL_law_494 : decode code 494 = .ok (.iaload, 1) := by decide +kernel
theorem dXL_law_495 : decode code 495 = .ok (.invokevirtual 99, 3) := by decide +kernel
theorem dXL_law_498 : decode code 498 = .ok (.aload_n 2, 1) := by decide +kernel
theorem dXL_law_499 : decode code 499 = .ok (.invokevirtual 76, 3) := by decide +kernel
theorem dXL_law_502 : decode code 502 = .ok (.iload 5, 2) := by decide +kernel
theorem dXL_law_504 : decode code 504 = .ok (.if_icmp .eq 5, 3) := by decide +kernel
theorem dXL_law_507 : decode code 507 = .ok (.iconst 0, 1) := by decide +kernel
theorem dXL_law_508 : decode code 508 = .ok (.ireturn, 1) := by decide +kernel
theorem dXL_law_509 : decode code 509 = .ok (.goto 528, 3) := by decide +kernel
theorem dXL_law_512 : decode code 512 = .ok (.aload_n 1, 1) := by decide +kernel
theorem dXL_law_513 : decode code 513 = .ok (.aload_n 0, 1) := by decide +kernel
theorem dXL_law_514 : decode code 514 = .ok (.iload 4, 2) := by decide +kernel
theorem dXL_law_516 : decode code 516 = .ok (.iconst 1, 1) := by decide +kernel
theorem dXL_law_517 : decode code 517 = .ok (.iadd, 1) := by decide +kernel
theorem dXL_law_518 : decode code 518 = .ok (.iaload, 1) := by decide +kernel
theorem dXL_law_519 : decode code 519 = .ok (.aload_n 0, 1) := by decide +kernel
theorem dXL_law_520 : decode code 520 = .ok (.iload 4, 2) := by decide +kernel
theorem dXL_law_522 : decode code 522 = .ok (.iconst 2, 1) := by decide +kernel
theorem dXL_law_523 : decode code 523 = .ok (.iadd, 1) := by decide +kernel
theorem dXL_law_524 : decode code 524 = .ok (.iaload, 1) := by decide +kernel
theorem dXL_law_525 : decode code 525 = .ok (.aload_n 3, 1) := by decide +kernel
theorem dXL_law_526 : decode code 526 = .ok (.invokestatic 100, 3) := by decide +kernel
theorem dXL_law_529 : decode code 529 = .ok (.istore 5, 2) := by decide +kernel
theorem dXL_law_531 : decode code 531 = .ok (.aload_n 2, 1) := by decide +kernel
theorem dXL_law_532 : decode code 532 = .ok (.aload_n 0, 1) := by decide +kernel
theorem dXL_law_533 : decode code 533 = .ok (.iload 4, 2) := by decide +kernel
theorem dXL_law_535 : decode code 535 = .ok (.iconst 1, 1) := by decide +kernel
theorem dXL_law_536 : decode code 536 = .ok (.iadd, 1) := by decide +kernel
theorem dXL_law_537 : decode code 537 = .ok (.iaload, 1) := by decide +kernel
theorem dXL_law_538 : decode code 538 = .ok (.aload_n 0, 1) := by decide +kernel
theorem dXL_law_539 : decode code 539 = .ok (.iload 4, 2) := by decide +kernel
theorem dXL_law_541 : decode code 541 = .ok (.iconst 2, 1) := by decide +kernel
theorem dXL_law_542 : decode code 542 = .ok (.iadd, 1) := by decide +kernel
theorem dXL_law_543 : decode code 543 = .ok (.iaload, 1) := by decide +kernel
theorem dXL_law_544 : decode code 544 = .ok (.invokevirtual 102, 3) := by decide +kernel
theorem dXL_law_547 : decode code 547 = .ok (.lstore 6, 2) := by decide +kernel
theorem dXL_law_549 : decode code 549 = .ok (.aload_n 2, 1) := by decide +kernel
theorem dXL_law_550 : decode code 550 = .ok (.invokevirtual 76, 3) := by decide +kernel
theorem dXL_law_553 : decode code 553 = .ok (.iload 5, 2) := by decide +kernel
theorem dXL_law_555 : decode code 555 = .ok (.if_icmp .eq 5, 3) := by decide +kernel
theorem dXL_law_558 : decode code 558 = .ok (.iconst 0, 1) := by decide +kernel
theorem dXL_law_559 : decode code 559 = .ok (.ireturn, 1) := by decide +kernel
theorem dXL_law_560 : decode code 560 = .ok (.iload 5, 2) := by decide +kernel
theorem dXL_law_562 : decode code 562 = .ok (.ifCond .ne 14, 3) := by decide +kernel
theorem dXL_law_565 : decode code 565 = .ok (.aload_n 3, 1) := by decide +kernel
theorem dXL_law_566 : decode code 566 = .ok (.iconst 0, 1) := by decide +kernel
theorem dXL_law_567 : decode code 567 = .ok (.laload, 1) := by decide +kernel
theorem dXL_law_568 : decode code 568 = .ok (.lload 6, 2) := by decide +kernel
theorem dXL_law_570 : decode code 570 = .ok (.lcmp, 1) := by decide +kernel
theorem dXL_law_571 : decode code 571 = .ok (.ifCond .eq 5, 3) := by decide +kernel
theorem dXL_law_574 : decode code 574 = .ok (.iconst 0, 1) := by decide +kernel
theorem dXL_law_575 : decode code 575 = .ok (.ireturn, 1) := by decide +kernel
theorem dXL_law_576 : decode code 576 = .ok (.goto 461, 3) := by decide +kernel
theorem dXL_law_579 : decode code 579 = .ok (.aload_n 1, 1) := by decide +kernel
theorem dXL_law_580 : decode code 580 = .ok (.aload_n 0, 1) := by decide +kernel
theorem dXL_law_581 : decode code 581 = .ok (.iload 4, 2) := by decide +kernel
theorem dXL_law_583 : decode code 583 = .ok (.iconst 1, 1) := by decide +kernel
theorem dXL_law_584 : decode code 584 = .ok (.iadd, 1) := by decide +kernel
theorem dXL_law_585 : decode code 585 = .ok (.iaload, 1) := by decide +kernel
theorem dXL_law_586 : decode code 586 = .ok (.aload_n 3, 1) := by decide +kernel
theorem dXL_law_587 : decode code 587 = .ok (.invokestatic 103, 3) := by decide +kernel
theorem dXL_law_590 : decode code 590 = .ok (.istore 5, 2) := by decide +kernel
theorem dXL_law_592 : decode code 592 = .ok (.aload_n 2, 1) := by decide +kernel
theorem dXL_law_593 : decode code 593 = .ok (.aload_n 0, 1) := by decide +kernel
theorem dXL_law_594 : decode code 594 = .ok (.iload 4, 2) := by decide +kernel
theorem dXL_law_596 : decode code 596 = .ok (.iconst 1, 1) := by decide +kernel
theorem dXL_law_597 : decode code 597 = .ok (.iadd, 1) := by decide +kernel
theorem dXL_law_598 : decode code 598 = .ok (.iaload, 1) := by decide +kernel
theorem dXL_law_599 : decode code 599 = .ok (.invokevirtual 106, 3) := by decide +kernel
theorem dXL_law_602 : decode code 602 = .ok (.istore 6, 2) := by decide +kernel
theorem dXL_law_604 : decode code 604 = .ok (.aload_n 2, 1) := by decide +kernel
theorem dXL_law_605 : decode code 605 = .ok (.invokevirtual 76, 3) := by decide +kernel
