theorem dXL_law_589 : decode code 589 = .ok (.iaload, 1) := by decide +kernel
theorem dXL_law_590 : decode code 590 = .ok (.aload_n 0, 1) := by decide +kernel
theorem dXL_law_591 : decode code 591 = .ok (.iload 4, 2) := by decide +kernel
theorem dXL_law_593 : decode code 593 = .ok (.iconst 3, 1) := by decide +kernel
theorem dXL_law_594 : decode code 594 = .ok (.iadd, 1) := by decide +kernel
theorem dXL_law_595 : decode code 595 = .ok (.iaload, 1) := by decide +kernel
theorem dXL_law_596 : decode code 596 = .ok (.aload_n 3, 1) := by decide +kernel
theorem dXL_law_597 : decode code 597 = .ok (.invokestatic 116, 3) := by decide +kernel
theorem dXL_law_600 : decode code 600 = .ok (.istore 5, 2) := by decide +kernel
theorem dXL_law_602 : decode code 602 = .ok (.aload_n 2, 1) := by decide +kernel
theorem dXL_law_603 : decode code 603 = .ok (.aload_n 0, 1) := by decide +kernel
theorem dXL_law_604 : decode code 604 = .ok (.iload 4, 2) := by decide +kernel
theorem dXL_law_606 : decode code 606 = .ok (.iconst 1, 1) := by decide +kernel
theorem dXL_law_607 : decode code 607 = .ok (.iadd, 1) := by decide +kernel
theorem dXL_law_608 : decode code 608 = .ok (.iaload, 1) := by decide +kernel
theorem dXL_law_609 : decode code 609 = .ok (.aload_n 0, 1) := by decide +kernel
theorem dXL_law_610 : decode code 610 = .ok (.iload 4, 2) := by decide +kernel
theorem dXL_law_612 : decode code 612 = .ok (.iconst 2, 1) := by decide +kernel
theorem dXL_law_613 : decode code 613 = .ok (.iadd, 1) := by decide +kernel
theorem dXL_law_614 : decode code 614 = .ok (.iaload, 1) := by decide +kernel
theorem dXL_law_615 : decode code 615 = .ok (.aload_n 0, 1) := by decide +kernel
theorem dXL_law_616 : decode code 616 = .ok (.iload 4, 2) := by decide +kernel
theorem dXL_law_618 : decode code 618 = .ok (.iconst 3, 1) := by decide +kernel
theorem dXL_law_619 : decode code 619 = .ok (.iadd, 1) := by decide +kernel
theorem dXL_law_620 : decode code 620 = .ok (.iaload, 1) := by decide +kernel
theorem dXL_law_621 : decode code 621 = .ok (.invokevirtual 118, 3) := by decide +kernel
theorem dXL_law_624 : decode code 624 = .ok (.istore 6, 2) := by decide +kernel
theorem dXL_law_626 : decode code 626 = .ok (.goto 70, 3) := by decide +kernel
theorem dXL_law_629 : decode code 629 = .ok (.aload_n 1, 1) := by decide +kernel
theorem dXL_law_630 : decode code 630 = .ok (.aload_n 0, 1) := by decide +kernel
theorem dXL_law_631 : decode code 631 = .ok (.iload 4, 2) := by decide +kernel
theorem dXL_law_633 : decode code 633 = .ok (.iconst 1, 1) := by decide +kernel
theorem dXL_law_634 : decode code 634 = .ok (.iadd, 1) := by decide +kernel
theorem dXL_law_635 : decode code 635 = .ok (.iaload, 1) := by decide +kernel
theorem dXL_law_636 : decode code 636 = .ok (.aload_n 3, 1) := by decide +kernel
theorem dXL_law_637 : decode code 637 = .ok (.invokestatic 119, 3) := by decide +kernel
theorem dXL_law_640 : decode code 640 = .ok (.istore 5, 2) := by decide +kernel
theorem dXL_law_642 : decode code 642 = .ok (.aload_n 2, 1) := by decide +kernel
theorem dXL_law_643 : decode code 643 = .ok (.aload_n 0, 1) := by decide +kernel
theorem dXL_law_644 : decode code 644 = .ok (.iload 4, 2) := by decide +kernel
theorem dXL_law_646 : decode code 646 = .ok (.iconst 1, 1) := by decide +kernel
theorem dXL_law_647 : decode code 647 = .ok (.iadd, 1) := by decide +kernel
theorem dXL_law_648 : decode code 648 = .ok (.iaload, 1) := by decide +kernel
theorem dXL_law_649 : decode code 649 = .ok (.invokevirtual 121, 3) := by decide +kernel
theorem dXL_law_652 : decode code 652 = .ok (.istore 6, 2) := by decide +kernel
theorem dXL_law_654 : decode code 654 = .ok (.goto 42, 3) := by decide +kernel
theorem dXL_law_657 : decode code 657 = .ok (.aload_n 1, 1) := by decide +kernel
theorem dXL_law_658 : decode code 658 = .ok (.aload_n 0, 1) := by decide +kernel
theorem dXL_law_659 : decode code 659 = .ok (.iload 4, 2) := by decide +kernel
theorem dXL_law_661 : decode code 661 = .ok (.iconst 1, 1) := by decide +kernel
theorem dXL_law_662 : decode code 662 = .ok (.iadd, 1) := by decide +kernel
theorem dXL_law_663 : decode code 663 = .ok (.iaload, 1) := by decide +kernel
theorem dXL_law_664 : decode code 664 = .ok (.aload_n 3, 1) := by decide +kernel
theorem dXL_law_665 : decode code 665 = .ok (.invokestatic 122, 3) := by decide +kernel
theorem dXL_law_668 : decode code 668 = .ok (.istore 5, 2) := by decide +kernel
theorem dXL_law_670 : decode code 670 = .ok (.aload_n 2, 1) := by decide +kernel
theorem dXL_law_671 : decode code 671 = .ok (.aload_n 0, 1) := by decide +kernel
theorem dXL_law_672 : decode code 672 = .ok (.iload 4, 2) := by decide +kernel
theorem dXL_law_674 : decode code 674 = .ok (.iconst 1, 1) := by decide +kernel
theorem dXL_law_675 : decode code 675 = .ok (.iadd, 1) := by decide +kernel
theorem dXL_law_676 : decode code 676 = .ok (.iaload, 1) := by decide +kernel
theorem dXL_law_677 : decode code 677 = .ok (.invokevirtual 124, 3) := by decide +kernel
theorem dXL_law_680 : decode code 680 = .ok (.istore 6, 2) := by decide +kernel
theorem dXL_law_682 : decode code 682 = .ok (.goto 14, 3) := by decide +kernel
theorem dXL_law_685 : decode code 685 = .ok (.aload_n 1, 1) := by decide +kernel
theorem dXL_law_686 : decode code 686 = .ok (.invokevirtual 125, 3) := by decide +kernel
theorem dXL_law_689 : decode code 689 = .ok (.aload_n 2, 1) := by decide +kernel
theorem dXL_law_690 : decode code 690 = .ok (.invokevirtual 128, 3) := by decide +kernel
theorem dXL_law_693 : decode code 693 = .ok (.goto 3, 3) := by decide +kernel
theorem dXL_law_696 : decode code 696 = .ok (.iinc 4 5, 3) := by decide +kernel
theorem dXL_law_699 : decode code 699 = .ok (.goto (-676), 3) := by decide +kernel
theorem dXL_law_702 : decode code 702 = .ok (.iconst 1, 1) := by decide +kernel
theorem dXL_law_703 : decode code 703 = .ok (.ireturn, 1) := by decide +kernel
