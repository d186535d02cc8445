theorem dXL_law_415 : decode code 415 = .ok (.goto 298, 3) := by decide +kernel
theorem dXL_law_418 : decode code 418 = .ok (.aload_n 1, 1) := by decide +kernel
theorem dXL_law_419 : decode code 419 = .ok (.aload_n 0, 1) := by decide +kernel
theorem dXL_law_420 : decode code 420 = .ok (.iload 4, 2) := by decide +kernel
theorem dXL_law_422 : decode code 422 = .ok (.iconst 1, 1) := by decide +kernel
theorem dXL_law_423 : decode code 423 = .ok (.iadd, 1) := by decide +kernel
theorem dXL_law_424 : decode code 424 = .ok (.iaload, 1) := by decide +kernel
theorem dXL_law_425 : decode code 425 = .ok (.aload_n 0, 1) := by decide +kernel
theorem dXL_law_426 : decode code 426 = .ok (.iload 4, 2) := by decide +kernel
theorem dXL_law_428 : decode code 428 = .ok (.iconst 2, 1) := by decide +kernel
theorem dXL_law_429 : decode code 429 = .ok (.iadd, 1) := by decide +kernel
theorem dXL_law_430 : decode code 430 = .ok (.iaload, 1) := by decide +kernel
theorem dXL_law_431 : decode code 431 = .ok (.aload_n 3, 1) := by decide +kernel
theorem dXL_law_432 : decode code 432 = .ok (.invokestatic 100, 3) := by decide +kernel
theorem dXL_law_435 : decode code 435 = .ok (.istore 5, 2) := by decide +kernel
theorem dXL_law_437 : decode code 437 = .ok (.aload_n 2, 1) := by decide +kernel
theorem dXL_law_438 : decode code 438 = .ok (.aload_n 0, 1) := by decide +kernel
theorem dXL_law_439 : decode code 439 = .ok (.iload 4, 2) := by decide +kernel
theorem dXL_law_441 : decode code 441 = .ok (.iconst 1, 1) := by decide +kernel
theorem dXL_law_442 : decode code 442 = .ok (.iadd, 1) := by decide +kernel
theorem dXL_law_443 : decode code 443 = .ok (.iaload, 1) := by decide +kernel
theorem dXL_law_444 : decode code 444 = .ok (.aload_n 0, 1) := by decide +kernel
theorem dXL_law_445 : decode code 445 = .ok (.iload 4, 2) := by decide +kernel
theorem dXL_law_447 : decode code 447 = .ok (.iconst 2, 1) := by decide +kernel
theorem dXL_law_448 : decode code 448 = .ok (.iadd, 1) := by decide +kernel
theorem dXL_law_449 : decode code 449 = .ok (.iaload, 1) := by decide +kernel
theorem dXL_law_450 : decode code 450 = .ok (.invokevirtual 102, 3) := by decide +kernel
theorem dXL_law_453 : decode code 453 = .ok (.lstore 6, 2) := by decide +kernel
theorem dXL_law_455 : decode code 455 = .ok (.goto 258, 3) := by decide +kernel
theorem dXL_law_458 : decode code 458 = .ok (.aload_n 1, 1) := by decide +kernel
theorem dXL_law_459 : decode code 459 = .ok (.aload_n 0, 1) := by decide +kernel
theorem dXL_law_460 : decode code 460 = .ok (.iload 4, 2) := by decide +kernel
theorem dXL_law_462 : decode code 462 = .ok (.iconst 1, 1) := by decide +kernel
theorem dXL_law_463 : decode code 463 = .ok (.iadd, 1) := by decide +kernel
theorem dXL_law_464 : decode code 464 = .ok (.iaload, 1) := by decide +kernel
theorem dXL_law_465 : decode code 465 = .ok (.aload_n 3, 1) := by decide +kernel
theorem dXL_law_466 : decode code 466 = .ok (.invokestatic 103, 3) := by decide +kernel
theorem dXL_law_469 : decode code 469 = .ok (.istore 5, 2) := by decide +kernel
theorem dXL_law_471 : decode code 471 = .ok (.aload_n 2, 1) := by decide +kernel
theorem dXL_law_472 : decode code 472 = .ok (.aload_n 0, 1) := by decide +kernel
theorem dXL_law_473 : decode code 473 = .ok (.iload 4, 2) := by decide +kernel
theorem dXL_law_475 : decode code 475 = .ok (.iconst 1, 1) := by decide +kernel
theorem dXL_law_476 : decode code 476 = .ok (.iadd, 1) := by decide +kernel
theorem dXL_law_477 : decode code 477 = .ok (.iaload, 1) := by decide +kernel
theorem dXL_law_478 : decode code 478 = .ok (.invokevirtual 106, 3) := by decide +kernel
theorem dXL_law_481 : decode code 481 = .ok (.istore 6, 2) := by decide +kernel
theorem dXL_law_483 : decode code 483 = .ok (.goto 230, 3) := by decide +kernel
theorem dXL_law_486 : decode code 486 = .ok (.aload_n 1, 1) := by decide +kernel
theorem dXL_law_487 : decode code 487 = .ok (.aload_n 0, 1) := by decide +kernel
theorem dXL_law_488 : decode code 488 = .ok (.iload 4, 2) := by decide +kernel
theorem dXL_law_490 : decode code 490 = .ok (.iconst 1, 1) := by decide +kernel
theorem dXL_law_491 : decode code 491 = .ok (.iadd, 1) := by decide +kernel
theorem dXL_law_492 : decode code 492 = .ok (.iaload, 1) := by decide +kernel
theorem dXL_law_493 : decode code 493 = .ok (.aload_n 0, 1) := by decide +kernel
theorem dXL_law_494 : decode code 494 = .ok (.iload 4, 2) := by decide +kernel
theorem dXL_law_496 : decode code 496 = .ok (.iconst 2, 1) := by decide +kernel
theorem dXL_law_497 : decode code 497 = .ok (.iadd, 1) := by decide +kernel
theorem dXL_law_498 : decode code 498 = .ok (.iaload, 1) := by decide +kernel
theorem dXL_law_499 : decode code 499 = .ok (.aload_n 3, 1) := by decide +kernel
theorem dXL_law_500 : decode code 500 = .ok (.invokestatic 107, 3) := by decide +kernel
theorem dXL_law_503 : decode code 503 = .ok (.istore 5, 2) := by decide +kernel
theorem dXL_law_505 : decode code 505 = .ok (.aload_n 2, 1) := by decide +kernel
theorem dXL_law_506 : decode code 506 = .ok (.aload_n 0, 1) := by decide +kernel
theorem dXL_law_507 : decode code 507 = .ok (.iload 4, 2) := by decide +kernel
theorem dXL_law_509 : decode code 509 = .ok (.iconst 1, 1) := by decide +kernel
theorem dXL_law_510 : decode code 510 = .ok (.iadd, 1) := by decide +kernel
theorem dXL_law_511 : decode code 511 = .ok (.iaload, 1) := by decide +kernel
theorem dXL_law_512 : decode code 512 = .ok (.aload_n 0, 1) := by decide +kernel
theorem dXL_law_513 : decode code 513 = .ok (.iload 4, 2) := by decide +kernel
theorem dXL_law_515 : decode code 515 = .ok (.iconst 2, 1) := by decide +kernel
theorem dXL_law_516 : decode code 516 = .ok (.iadd, 1) := by decide +kernel
theorem dXL_law_517 : decode code 517 = .ok (.iaload, 1) := by decide +kernel
theorem dXL_law_518 : decode code 518 = .ok (.invokevirtual 109, 3) := by decide +kernel
theorem dXL_law_521 : decode code 521 = .ok (.istore 6, 2) := by decide +kernel
theorem dXL_law_523 : decode code 523 = .ok (.goto 190, 3) := by decide +kernel
theorem dXL_law_526 : decode code 526 = .ok (.aload_n 1, 1) := by decide +kernel
theorem dXL_law_527 : decode code 527 = .ok (.aload_n 0, 1) := by decide +kernel
theorem dXL_law_528 : decode code 528 = .ok (.iload 4, 2) := by decide +kernel
theorem dXL_law_530 : decode code 530 = .ok (.iconst 1, 1) := by decide +kernel
theorem dXL_law_531 : decode code 531 = .ok (.iadd, 1) := by decide +kernel
theorem dXL_law_532 : decode code 532 = .ok (.iaload, 1) := by decide +kernel
theorem dXL_law_533 : decode code 533 = .ok (.aload_n 3, 1) := by decide +kernel
theorem dXL_law_534 : decode code 534 = .ok (.invokestatic 110, 3) := by decide +kernel
theorem dXL_law_537 : decode code 537 = .ok (.istore 5, 2) := by decide +kernel
theorem dXL_law_539 : decode code 539 = .ok (.aload_n 2, 1) := by decide +kernel
theorem dXL_law_540 : decode code 540 = .ok (.aload_n 0, 1) := by decide +kernel
theorem dXL_law_541 : decode code 541 = .ok (.iload 4, 2) := by decide +kernel
theorem dXL_law_543 : decode code 543 = .ok (.iconst 1, 1) := by decide +kernel
theorem dXL_law_544 : decode code 544 = .ok (.iadd, 1) := by decide +kernel
theorem dXL_law_545 : decode code 545 = .ok (.iaload, 1) := by decide +kernel
theorem dXL_law_546 : decode code 546 = .ok (.invokevirtual 112, 3) := by decide +kernel
theorem dXL_law_549 : decode code 549 = .ok (.istore 6, 2) := by decide +kernel
theorem dXL_law_551 : decode code 551 = .ok (.goto 162, 3) := by decide +kernel
theorem dXL_law_554 : decode code 554 = .ok (.aload_n 1, 1) := by decide +kernel
theorem dXL_law_555 : decode code 555 = .ok (.aload_n 0, 1) := by decide +kernel
theorem dXL_law_556 : decode code 556 = .ok (.iload 4, 2) := by decide +kernel
theorem dXL_law_558 : decode code 558 = .ok (.iconst 1, 1) := by decide +kernel
theorem dXL_law_559 : decode code 559 = .ok (.iadd, 1) := by decide +kernel
theorem dXL_law_560 : decode code 560 = .ok (.iaload, 1) := by decide +kernel
theorem dXL_law_561 : decode code 561 = .ok (.aload_n 0, 1) := by decide +kernel
theorem dXL_law_562 : decode code 562 = .ok (.iload 4, 2) := by decide +kernel
theorem dXL_law_564 : decode code 564 = .ok (.iconst 2, 1) := by decide +kernel
theorem dXL_law_565 : decode code 565 = .ok (.iadd, 1) := by decide +kernel
theorem dXL_law_566 : decode code 566 = .ok (.iaload, 1) := by decide +kernel
theorem dXL_law_567 : decode code 567 = .ok (.aload_n 3, 1) := by decide +kernel
theorem dXL_law_568 : decode code 568 = .ok (.invokestatic 113, 3) := by decide +kernel
theorem dXL_law_571 : decode code 571 = .ok (.istore 5, 2) := by decide +kernel
theorem dXL_law_573 : decode code 573 = .ok (.aload_n 2, 1) := by decide +kernel
theorem dXL_law_574 : decode code 574 = .ok (.aload_n 0, 1) := by decide +kernel
theorem dXL_law_575 : decode code 575 = .ok (.iload 4, 2) := by decide +kernel
theorem dXL_law_577 : decode code 577 = .ok (.iconst 1, 1) := by decide +kernel
theorem dXL_law_578 : decode code 578 = .ok (.iadd, 1) := by decide +kernel
theorem dXL_law_579 : decode code 579 = .ok (.iaload, 1) := by decide +kernel
theorem dXL_law_580 : decode code 580 = .ok (.aload_n 0, 1) := by decide +kernel
theorem dXL_law_581 : decode code 581 = .ok (.iload 4, 2) := by decide +kernel
theorem dXL_law_583 : decode code 583 = .ok (.iconst 2, 1) := by decide +kernel
theorem dXL_law_584 : decode code 584 = .ok (.iadd, 1) := by decide +kernel
theorem dXL_law_585 : decode code 585 = .ok (.iaload, 1) := by decide +kernel
theorem dXL_law_586 : decode code 586 = .ok (.invokevirtual 115, 3) := by decide +kernel
theorem dXL_law_589 : decode code 589 = .ok (.istore 6, 2) := by decide +kernel

