theorem dXL_law_417 : decode code 417 = .ok (.aload_n 1, 1) := by decide +kernel
theorem dXL_law_418 : decode code 418 = .ok (.aload_n 0, 1) := by decide +kernel
theorem dXL_law_419 : decode code 419 = .ok (.iload 4, 2) := by decide +kernel
theorem dXL_law_421 : decode code 421 = .ok (.iconst 1, 1) := by decide +kernel
theorem dXL_law_422 : decode code 422 = .ok (.iadd, 1) := by decide +kernel
theorem dXL_law_423 : decode code 423 = .ok (.iaload, 1) := by decide +kernel
theorem dXL_law_424 : decode code 424 = .ok (.aload_n 0, 1) := by decide +kernel
theorem dXL_law_425 : decode code 425 = .ok (.iload 4, 2) := by decide +kernel
theorem dXL_law_427 : decode code 427 = .ok (.iconst 2, 1) := by decide +kernel
theorem dXL_law_428 : decode code 428 = .ok (.iadd, 1) := by decide +kernel
theorem dXL_law_429 : decode code 429 = .ok (.iaload, 1) := by decide +kernel
theorem dXL_law_430 : decode code 430 = .ok (.aload_n 3, 1) := by decide +kernel
theorem dXL_law_431 : decode code 431 = .ok (.invokestatic 100, 3) := by decide +kernel
theorem dXL_law_434 : decode code 434 = .ok (.istore 5, 2) := by decide +kernel
theorem dXL_law_436 : decode code 436 = .ok (.aload_n 2, 1) := by decide +kernel
theorem dXL_law_437 : decode code 437 = .ok (.aload_n 0, 1) := by decide +kernel
theorem dXL_law_438 : decode code 438 = .ok (.iload 4, 2) := by decide +kernel
theorem dXL_law_440 : decode code 440 = .ok (.iconst 1, 1) := by decide +kernel
theorem dXL_law_441 : decode code 441 = .ok (.iadd, 1) := by decide +kernel
theorem dXL_law_442 : decode code 442 = .ok (.iaload, 1) := by decide +kernel
theorem dXL_law_443 : decode code 443 = .ok (.aload_n 0, 1) := by decide +kernel
theorem dXL_law_444 : decode code 444 = .ok (.iload 4, 2) := by decide +kernel
theorem dXL_law_446 : decode code 446 = .ok (.iconst 2, 1) := by decide +kernel
theorem dXL_law_447 : decode code 447 = .ok (.iadd, 1) := by decide +kernel
theorem dXL_law_448 : decode code 448 = .ok (.iaload, 1) := by decide +kernel
theorem dXL_law_449 : decode code 449 = .ok (.invokevirtual 102, 3) := by decide +kernel
theorem dXL_law_452 : decode code 452 = .ok (.lstore 6, 2) := by decide +kernel
theorem dXL_law_454 : decode code 454 = .ok (.goto 258, 3) := by decide +kernel
theorem dXL_law_457 : decode code 457 = .ok (.aload_n 1, 1) := by decide +kernel
theorem dXL_law_458 : decode code 458 = .ok (.aload_n 0, 1) := by decide +kernel
theorem dXL_law_459 : decode code 459 = .ok (.iload 4, 2) := by decide +kernel
theorem dXL_law_461 : decode code 461 = .ok (.iconst 1, 1) := by decide +kernel
theorem dXL_law_462 : decode code 462 = .ok (.iadd, 1) := by decide +kernel
theorem dXL_law_463 : decode code 463 = .ok (.iaload, 1) := by decide +kernel
theorem dXL_law_464 : decode code 464 = .ok (.aload_n 3, 1) := by decide +kernel
theorem dXL_law_465 : decode code 465 = .ok (.invokestatic 103, 3) := by decide +kernel
theorem dXL_law_468 : decode code 468 = .ok (.istore 5, 2) := by decide +kernel
theorem dXL_law_470 : decode code 470 = .ok (.aload_n 2, 1) := by decide +kernel
theorem dXL_law_471 : decode code 471 = .ok (.aload_n 0, 1) := by decide +kernel
theorem dXL_law_472 : decode code 472 = .ok (.iload 4, 2) := by decide +kernel
theorem dXL_law_474 : decode code 474 = .ok (.iconst 1, 1) := by decide +kernel
theorem dXL_law_475 : decode code 475 = .ok (.iadd, 1) := by decide +kernel
theorem dXL_law_476 : decode code 476 = .ok (.iaload, 1) := by decide +kernel
theorem dXL_law_477 : decode code 477 = .ok (.invokevirtual 106, 3) := by decide +kernel
theorem dXL_law_480 : decode code 480 = .ok (.istore 6, 2) := by decide +kernel
theorem dXL_law_482 : decode code 482 = .ok (.goto 230, 3) := by decide +kernel
theorem dXL_law_485 : decode code 485 = .ok (.aload_n 1, 1) := by decide +kernel
theorem dXL_law_486 : decode code 486 = .ok (.aload_n 0, 1) := by decide +kernel
theorem dXL_law_487 : decode code 487 = .ok (.iload 4, 2) := by decide +kernel
theorem dXL_law_489 : decode code 489 = .ok (.iconst 1, 1) := by decide +kernel
theorem dXL_law_490 : decode code 490 = .ok (.iadd, 1) := by decide +kernel
theorem dXL_law_491 : decode code 491 = .ok (.iaload, 1) := by decide +kernel
theorem dXL_law_492 : decode code 492 = .ok (.aload_n 0, 1) := by decide +kernel
theorem dXL_law_493 : decode code 493 = .ok (.iload 4, 2) := by decide +kernel
theorem dXL_law_495 : decode code 495 = .ok (.iconst 2, 1) := by decide +kernel
theorem dXL_law_496 : decode code 496 = .ok (.iadd, 1) := by decide +kernel
theorem dXL_law_497 : decode code 497 = .ok (.iaload, 1) := by decide +kernel
theorem dXL_law_498 : decode code 498 = .ok (.aload_n 3, 1) := by decide +kernel
theorem dXL_law_499 : decode code 499 = .ok (.invokestatic 107, 3) := by decide +kernel
theorem dXL_law_502 : decode code 502 = .ok (.istore 5, 2) := by decide +kernel
theorem dXL_law_504 : decode code 504 = .ok (.aload_n 2, 1) := by decide +kernel
theorem dXL_law_505 : decode code 505 = .ok (.aload_n 0, 1) := by decide +kernel
theorem dXL_law_506 : decode code 506 = .ok (.iload 4, 2) := by decide +kernel
theorem dXL_law_508 : decode code 508 = .ok (.iconst 1, 1) := by decide +kernel
theorem dXL_law_509 : decode code 509 = .ok (.iadd, 1) := by decide +kernel
theorem dXL_law_510 : decode code 510 = .ok (.iaload, 1) := by decide +kernel
theorem dXL_law_511 : decode code 511 = .ok (.aload_n 0, 1) := by decide +kernel
theorem dXL_law_512 : decode code 512 = .ok (.iload 4, 2) := by decide +kernel
theorem dXL_law_514 : decode code 514 = .ok (.iconst 2, 1) := by decide +kernel
theorem dXL_law_515 : decode code 515 = .ok (.iadd, 1) := by decide +kernel
theorem dXL_law_516 : decode code 516 = .ok (.iaload, 1) := by decide +kernel
theorem dXL_law_517 : decode code 517 = .ok (.invokevirtual 109, 3) := by decide +kernel
theorem dXL_law_520 : decode code 520 = .ok (.istore 6, 2) := by decide +kernel
theorem dXL_law_522 : decode code 522 = .ok (.goto 190, 3) := by decide +kernel
theorem dXL_law_525 : decode code 525 = .ok (.aload_n 1, 1) := by decide +kernel
theorem dXL_law_526 : decode code 526 = .ok (.aload_n 0, 1) := by decide +kernel
theorem dXL_law_527 : decode code 527 = .ok (.iload 4, 2) := by decide +kernel
theorem dXL_law_529 : decode code 529 = .ok (.iconst 1, 1) := by decide +kernel
theorem dXL_law_530 : decode code 530 = .ok (.iadd, 1) := by decide +kernel
theorem dXL_law_531 : decode code 531 = .ok (.iaload, 1) := by decide +kernel
theorem dXL_law_532 : decode code 532 = .ok (.aload_n 3, 1) := by decide +kernel
theorem dXL_law_533 : decode code 533 = .ok (.invokestatic 110, 3) := by decide +kernel
theorem dXL_law_536 : decode code 536 = .ok (.istore 5, 2) := by decide +kernel
theorem dXL_law_538 : decode code 538 = .ok (.aload_n 2, 1) := by decide +kernel
theorem dXL_law_539 : decode code 539 = .ok (.aload_n 0, 1) := by decide +kernel
theorem dXL_law_540 : decode code 540 = .ok (.iload 4, 2) := by decide +kernel
theorem dXL_law_542 : decode code 542 = .ok (.iconst 1, 1) := by decide +kernel
theorem dXL_law_543 : decode code 543 = .ok (.iadd, 1) := by decide +kernel
theorem dXL_law_544 : decode code 544 = .ok (.iaload, 1) := by decide +kernel
theorem dXL_law_545 : decode code 545 = .ok (.invokevirtual 112, 3) := by decide +kernel
theorem dXL_law_548 : decode code 548 = .ok (.istore 6, 2) := by decide +kernel
theorem dXL_law_550 : decode code 550 = .ok (.goto 162, 3) := by decide +kernel
theorem dXL_law_553 : decode code 553 = .ok (.aload_n 1, 1) := by decide +kernel
theorem dXL_law_554 : decode code 554 = .ok (.aload_n 0, 1) := by decide +kernel
theorem dXL_law_555 : decode code 555 = .ok (.iload 4, 2) := by decide +kernel
theorem dXL_law_557 : decode code 557 = .ok (.iconst 1, 1) := by decide +kernel
theorem dXL_law_558 : decode code 558 = .ok (.iadd, 1) := by decide +kernel
theorem dXL_law_559 : decode code 559 = .ok (.iaload, 1) := by decide +kernel
theorem dXL_law_560 : decode code 560 = .ok (.aload_n 0, 1) := by decide +kernel
theorem dXL_law_561 : decode code 561 = .ok (.iload 4, 2) := by decide +kernel
theorem dXL_law_563 : decode code 563 = .ok (.iconst 2, 1) := by decide +kernel
theorem dXL_law_564 : decode code 564 = .ok (.iadd, 1) := by decide +kernel
theorem dXL_law_565 : decode code 565 = .ok (.iaload, 1) := by decide +kernel
theorem dXL_law_566 : decode code 566 = .ok (.aload_n 3, 1) := by decide +kernel
theorem dXL_law_567 : decode code 567 = .ok (.invokestatic 113, 3) := by decide +kernel
theorem dXL_law_570 : decode code 570 = .ok (.istore 5, 2) := by decide +kernel
theorem dXL_law_572 : decode code 572 = .ok (.aload_n 2, 1) := by decide +kernel
theorem dXL_law_573 : decode code 573 = .ok (.aload_n 0, 1) := by decide +kernel
theorem dXL_law_574 : decode code 574 = .ok (.iload 4, 2) := by decide +kernel
theorem dXL_law_576 : decode code 576 = .ok (.iconst 1, 1) := by decide +kernel
theorem dXL_law_577 : decode code 577 = .ok (.iadd, 1) := by decide +kernel
theorem dXL_law_578 : decode code 578 = .ok (.iaload, 1) := by decide +kernel
theorem dXL_law_579 : decode code 579 = .ok (.aload_n 0, 1) := by decide +kernel
theorem dXL_law_580 : decode code 580 = .ok (.iload 4, 2) := by decide +kernel
theorem dXL_law_582 : decode code 582 = .ok (.iconst 2, 1) := by decide +kernel
theorem dXL_law_583 : decode code 583 = .ok (.iadd, 1) := by decide +kernel
theorem dXL_law_584 : decode code 584 = .ok (.iaload, 1) := by decide +kernel
theorem dXL_law_585 : decode code 585 = .ok (.invokevirtual 115, 3) := by decide +kernel
theorem dXL_law_588 : decode code 588 = .ok (.istore 6, 2) := by decide +kernel
theorem dXL_law_590 : decode code 590 = .ok (.goto 122, 3) := by decide +kernel

