theorem dXL_law_411 : decode code 411 = .ok (.iload 4, 2) := by decide +kernel
theorem dXL_law_413 : decode code 413 = .ok (.iconst 1, 1) := by decide +kernel
theorem dXL_law_414 : decode code 414 = .ok (.iadd, 1) := by decide +kernel
theorem dXL_law_415 : decode code 415 = .ok (.iaload, 1) := by decide +kernel
theorem dXL_law_416 : decode code 416 = .ok (.aload_n 0, 1) := by decide +kernel
theorem dXL_law_417 : decode code 417 = .ok (.iload 4, 2) := by decide +kernel
theorem dXL_law_419 : decode code 419 = .ok (.iconst 2, 1) := by decide +kernel
theorem dXL_law_420 : decode code 420 = .ok (.iadd, 1) := by decide +kernel
theorem dXL_law_421 : decode code 421 = .ok (.iaload, 1) := by decide +kernel
theorem dXL_law_422 : decode code 422 = .ok (.invokevirtual 99, 3) := by decide +kernel
theorem dXL_law_425 : decode code 425 = .ok (.lstore 6, 2) := by decide +kernel
theorem dXL_law_427 : decode code 427 = .ok (.goto 286, 3) := by decide +kernel
theorem dXL_law_430 : decode code 430 = .ok (.aload_n 1, 1) := by decide +kernel
theorem dXL_law_431 : decode code 431 = .ok (.aload_n 0, 1) := by decide +kernel
theorem dXL_law_432 : decode code 432 = .ok (.iload 4, 2) := by decide +kernel
theorem dXL_law_434 : decode code 434 = .ok (.iconst 1, 1) := by decide +kernel
theorem dXL_law_435 : decode code 435 = .ok (.iadd, 1) := by decide +kernel
theorem dXL_law_436 : decode code 436 = .ok (.iaload, 1) := by decide +kernel
theorem dXL_law_437 : decode code 437 = .ok (.aload_n 3, 1) := by decide +kernel
theorem dXL_law_438 : decode code 438 = .ok (.invokestatic 100, 3) := by decide +kernel
theorem dXL_law_441 : decode code 441 = .ok (.istore 5, 2) := by decide +kernel
theorem dXL_law_443 : decode code 443 = .ok (.aload_n 2, 1) := by decide +kernel
theorem dXL_law_444 : decode code 444 = .ok (.aload_n 0, 1) := by decide +kernel
theorem dXL_law_445 : decode code 445 = .ok (.iload 4, 2) := by decide +kernel
theorem dXL_law_447 : decode code 447 = .ok (.iconst 1, 1) := by decide +kernel
theorem dXL_law_448 : decode code 448 = .ok (.iadd, 1) := by decide +kernel
theorem dXL_law_449 : decode code 449 = .ok (.iaload, 1) := by decide +kernel
theorem dXL_law_450 : decode code 450 = .ok (.invokevirtual 103, 3) := by decide +kernel
theorem dXL_law_453 : decode code 453 = .ok (.istore 6, 2) := by decide +kernel
theorem dXL_law_455 : decode code 455 = .ok (.goto 258, 3) := by decide +kernel
theorem dXL_law_458 : decode code 458 = .ok (.aload_n 1, 1) := by decide +kernel
theorem dXL_law_459 : decode code 459 = .ok (.aload_n 0, 1) := by decide +kernel
theorem dXL_law_460 : decode code 460 = .ok (.iload 4, 2) := by decide +kernel
theorem dXL_law_462 : decode code 462 = .ok (.iconst 1, 1) := by decide +kernel
theorem dXL_law_463 : decode code 463 = .ok (.iadd, 1) := by decide +kernel
theorem dXL_law_464 : decode code 464 = .ok (.iaload, 1) := by decide +kernel
theorem dXL_law_465 : decode code 465 = .ok (.aload_n 0, 1) := by decide +kernel
theorem dXL_law_466 : decode code 466 = .ok (.iload 4, 2) := by decide +kernel
theorem dXL_law_468 : decode code 468 = .ok (.iconst 2, 1) := by decide +kernel
theorem dXL_law_469 : decode code 469 = .ok (.iadd, 1) := by decide +kernel
theorem dXL_law_470 : decode code 470 = .ok (.iaload, 1) := by decide +kernel
theorem dXL_law_471 : decode code 471 = .ok (.aload_n 3, 1) := by decide +kernel
theorem dXL_law_472 : decode code 472 = .ok (.invokestatic 104, 3) := by decide +kernel
theorem dXL_law_475 : decode code 475 = .ok (.istore 5, 2) := by decide +kernel
theorem dXL_law_477 : decode code 477 = .ok (.aload_n 2, 1) := by decide +kernel
theorem dXL_law_478 : decode code 478 = .ok (.aload_n 0, 1) := by decide +kernel
theorem dXL_law_479 : decode code 479 = .ok (.iload 4, 2) := by decide +kernel
theorem dXL_law_481 : decode code 481 = .ok (.iconst 1, 1) := by decide +kernel
theorem dXL_law_482 : decode code 482 = .ok (.iadd, 1) := by decide +kernel
theorem dXL_law_483 : decode code 483 = .ok (.iaload, 1) := by decide +kernel
theorem dXL_law_484 : decode code 484 = .ok (.aload_n 0, 1) := by decide +kernel
theorem dXL_law_485 : decode code 485 = .ok (.iload 4, 2) := by decide +kernel
theorem dXL_law_487 : decode code 487 = .ok (.iconst 2, 1) := by decide +kernel
theorem dXL_law_488 : decode code 488 = .ok (.iadd, 1) := by decide +kernel
theorem dXL_law_489 : decode code 489 = .ok (.iaload, 1) := by decide +kernel
theorem dXL_law_490 : decode code 490 = .ok (.invokevirtual 106, 3) := by decide +kernel
theorem dXL_law_493 : decode code 493 = .ok (.istore 6, 2) := by decide +kernel
theorem dXL_law_495 : decode code 495 = .ok (.goto 218, 3) := by decide +kernel
theorem dXL_law_498 : decode code 498 = .ok (.aload_n 1, 1) := by decide +kernel
theorem dXL_law_499 : decode code 499 = .ok (.aload_n 0, 1) := by decide +kernel
theorem dXL_law_500 : decode code 500 = .ok (.iload 4, 2) := by decide +kernel
theorem dXL_law_502 : decode code 502 = .ok (.iconst 1, 1) := by decide +kernel
theorem dXL_law_503 : decode code 503 = .ok (.iadd, 1) := by decide +kernel
theorem dXL_law_504 : decode code 504 = .ok (.iaload, 1) := by decide +kernel
theorem dXL_law_505 : decode code 505 = .ok (.aload_n 3, 1) := by decide +kernel
theorem dXL_law_506 : decode code 506 = .ok (.invokestatic 107, 3) := by decide +kernel
theorem dXL_law_509 : decode code 509 = .ok (.istore 5, 2) := by decide +kernel
theorem dXL_law_511 : decode code 511 = .ok (.aload_n 2, 1) := by decide +kernel
theorem dXL_law_512 : decode code 512 = .ok (.aload_n 0, 1) := by decide +kernel
theorem dXL_law_513 : decode code 513 = .ok (.iload 4, 2) := by decide +kernel
theorem dXL_law_515 : decode code 515 = .ok (.iconst 1, 1) := by decide +kernel
theorem dXL_law_516 : decode code 516 = .ok (.iadd, 1) := by decide +kernel
theorem dXL_law_517 : decode code 517 = .ok (.iaload, 1) := by decide +kernel
theorem dXL_law_518 : decode code 518 = .ok (.invokevirtual 109, 3) := by decide +kernel
theorem dXL_law_521 : decode code 521 = .ok (.istore 6, 2) := by decide +kernel
theorem dXL_law_523 : decode code 523 = .ok (.goto 190, 3) := by decide +kernel
theorem dXL_law_526 : decode code 526 = .ok (.aload_n 1, 1) := by decide +kernel
theorem dXL_law_527 : decode code 527 = .ok (.aload_n 0, 1) := by decide +kernel
theorem dXL_law_528 : decode code 528 = .ok (.iload 4, 2) := by decide +kernel
theorem dXL_law_530 : decode code 530 = .ok (.iconst 1, 1) := by decide +kernel
theorem dXL_law_531 : decode code 531 = .ok (.iadd, 1) := by decide +kernel
theorem dXL_law_532 : decode code 532 = .ok (.iaload, 1) := by decide +kernel
theorem dXL_law_533 : decode code 533 = .ok (.aload_n 0, 1) := by decide +kernel
theorem dXL_law_534 : decode code 534 = .ok (.iload 4, 2) := by decide +kernel
theorem dXL_law_536 : decode code 536 = .ok (.iconst 2, 1) := by decide +kernel
theorem dXL_law_537 : decode code 537 = .ok (.iadd, 1) := by decide +kernel
theorem dXL_law_538 : decode code 538 = .ok (.iaload, 1) := by decide +kernel
theorem dXL_law_539 : decode code 539 = .ok (.aload_n 3, 1) := by decide +kernel
theorem dXL_law_540 : decode code 540 = .ok (.invokestatic 110, 3) := by decide +kernel
theorem dXL_law_543 : decode code 543 = .ok (.istore 5, 2) := by decide +kernel
theorem dXL_law_545 : decode code 545 = .ok (.aload_n 2, 1) := by decide +kernel
theorem dXL_law_546 : decode code 546 = .ok (.aload_n 0, 1) := by decide +kernel
theorem dXL_law_547 : decode code 547 = .ok (.iload 4, 2) := by decide +kernel
theorem dXL_law_549 : decode code 549 = .ok (.iconst 1, 1) := by decide +kernel
theorem dXL_law_550 : decode code 550 = .ok (.iadd, 1) := by decide +kernel
theorem dXL_law_551 : decode code 551 = .ok (.iaload, 1) := by decide +kernel
theorem dXL_law_552 : decode code 552 = .ok (.aload_n 0, 1) := by decide +kernel
theorem dXL_law_553 : decode code 553 = .ok (.iload 4, 2) := by decide +kernel
theorem dXL_law_555 : decode code 555 = .ok (.iconst 2, 1) := by decide +kernel
theorem dXL_law_556 : decode code 556 = .ok (.iadd, 1) := by decide +kernel
theorem dXL_law_557 : decode code 557 = .ok (.iaload, 1) := by decide +kernel
theorem dXL_law_558 : decode code 558 = .ok (.invokevirtual 112, 3) := by decide +kernel
theorem dXL_law_561 : decode code 561 = .ok (.istore 6, 2) := by decide +kernel
theorem dXL_law_563 : decode code 563 = .ok (.goto 150, 3) := by decide +kernel
theorem dXL_law_566 : decode code 566 = .ok (.aload_n 1, 1) := by decide +kernel
theorem dXL_law_567 : decode code 567 = .ok (.aload_n 0, 1) := by decide +kernel
theorem dXL_law_568 : decode code 568 = .ok (.iload 4, 2) := by decide +kernel
theorem dXL_law_570 : decode code 570 = .ok (.iconst 1, 1) := by decide +kernel
theorem dXL_law_571 : decode code 571 = .ok (.iadd, 1) := by decide +kernel
theorem dXL_law_572 : decode code 572 = .ok (.iaload, 1) := by decide +kernel
theorem dXL_law_573 : decode code 573 = .ok (.aload_n 0, 1) := by decide +kernel
theorem dXL_law_574 : decode code 574 = .ok (.iload 4, 2) := by decide +kernel
theorem dXL_law_576 : decode code 576 = .ok (.iconst 2, 1) := by decide +kernel
theorem dXL_law_577 : decode code 577 = .ok (.iadd, 1) := by decide +kernel
theorem dXL_law_578 : decode code 578 = .ok (.iaload, 1) := by decide +kernel
theorem dXL_law_579 : decode code 579 = .ok (.aload_n 0, 1) := by decide +kernel
theorem dXL_law_580 : decode code 580 = .ok (.iload 4, 2) := by decide +kernel
theorem dXL_law_582 : decode code 582 = .ok (.iconst 3, 1) := by decide +kernel
theorem dXL_law_583 : decode code 583 = .ok (.iadd, 1) := by decide +kernel
theorem dXL_law_584 : decode code 584 = .ok (.iaload, 1) := by decide +kernel

