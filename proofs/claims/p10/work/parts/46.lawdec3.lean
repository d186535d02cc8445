theorem dXL_law_592 : decode code 592 = .ok (.iaload, 1) := by decide +kernel
theorem dXL_law_593 : decode code 593 = .ok (.invokevirtual 115, 3) := by decide +kernel
theorem dXL_law_596 : decode code 596 = .ok (.istore 6, 2) := by decide +kernel
theorem dXL_law_598 : decode code 598 = .ok (.goto 122, 3) := by decide +kernel
theorem dXL_law_601 : decode code 601 = .ok (.aload_n 1, 1) := by decide +kernel
theorem dXL_law_602 : decode code 602 = .ok (.aload_n 0, 1) := by decide +kernel
theorem dXL_law_603 : decode code 603 = .ok (.iload 4, 2) := by decide +kernel
theorem dXL_law_605 : decode code 605 = .ok (.iconst 1, 1) := by decide +kernel
theorem dXL_law_606 : decode code 606 = .ok (.iadd, 1) := by decide +kernel
theorem dXL_law_607 : decode code 607 = .ok (.iaload, 1) := by decide +kernel
theorem dXL_law_608 : decode code 608 = .ok (.aload_n 0, 1) := by decide +kernel
theorem dXL_law_609 : decode code 609 = .ok (.iload 4, 2) := by decide +kernel
theorem dXL_law_611 : decode code 611 = .ok (.iconst 2, 1) := by decide +kernel
theorem dXL_law_612 : decode code 612 = .ok (.iadd, 1) := by decide +kernel
theorem dXL_law_613 : decode code 613 = .ok (.iaload, 1) := by decide +kernel
theorem dXL_law_614 : decode code 614 = .ok (.aload_n 0, 1) := by decide +kernel
theorem dXL_law_615 : decode code 615 = .ok (.iload 4, 2) := by decide +kernel
theorem dXL_law_617 : decode code 617 = .ok (.iconst 3, 1) := by decide +kernel
theorem dXL_law_618 : decode code 618 = .ok (.iadd, 1) := by decide +kernel
theorem dXL_law_619 : decode code 619 = .ok (.iaload, 1) := by decide +kernel
theorem dXL_law_620 : decode code 620 = .ok (.aload_n 3, 1) := by decide +kernel
theorem dXL_law_621 : decode code 621 = .ok (.invokestatic 116, 3) := by decide +kernel
theorem dXL_law_624 : decode code 624 = .ok (.istore 5, 2) := by decide +kernel
theorem dXL_law_626 : decode code 626 = .ok (.aload_n 2, 1) := by decide +kernel
theorem dXL_law_627 : decode code 627 = .ok (.aload_n 0, 1) := by decide +kernel
theorem dXL_law_628 : decode code 628 = .ok (.iload 4, 2) := by decide +kernel
theorem dXL_law_630 : decode code 630 = .ok (.iconst 1, 1) := by decide +kernel
theorem dXL_law_631 : decode code 631 = .ok (.iadd, 1) := by decide +kernel
theorem dXL_law_632 : decode code 632 = .ok (.iaload, 1) := by decide +kernel
theorem dXL_law_633 : decode code 633 = .ok (.aload_n 0, 1) := by decide +kernel
theorem dXL_law_634 : decode code 634 = .ok (.iload 4, 2) := by decide +kernel
theorem dXL_law_636 : decode code 636 = .ok (.iconst 2, 1) := by decide +kernel
theorem dXL_law_637 : decode code 637 = .ok (.iadd, 1) := by decide +kernel
theorem dXL_law_638 : decode code 638 = .ok (.iaload, 1) := by decide +kernel
theorem dXL_law_639 : decode code 639 = .ok (.aload_n 0, 1) := by decide +kernel
theorem dXL_law_640 : decode code 640 = .ok (.iload 4, 2) := by decide +kernel
theorem dXL_law_642 : decode code 642 = .ok (.iconst 3, 1) := by decide +kernel
theorem dXL_law_643 : decode code 643 = .ok (.iadd, 1) := by decide +kernel
theorem dXL_law_644 : decode code 644 = .ok (.iaload, 1) := by decide +kernel
theorem dXL_law_645 : decode code 645 = .ok (.invokevirtual 118, 3) := by decide +kernel
theorem dXL_law_648 : decode code 648 = .ok (.istore 6, 2) := by decide +kernel
theorem dXL_law_650 : decode code 650 = .ok (.goto 70, 3) := by decide +kernel
theorem dXL_law_653 : decode code 653 = .ok (.aload_n 1, 1) := by decide +kernel
theorem dXL_law_654 : decode code 654 = .ok (.aload_n 0, 1) := by decide +kernel
theorem dXL_law_655 : decode code 655 = .ok (.iload 4, 2) := by decide +kernel
theorem dXL_law_657 : decode code 657 = .ok (.iconst 1, 1) := by decide +kernel
theorem dXL_law_658 : decode code 658 = .ok (.iadd, 1) := by decide +kernel
theorem dXL_law_659 : decode code 659 = .ok (.iaload, 1) := by decide +kernel
theorem dXL_law_660 : decode code 660 = .ok (.aload_n 3, 1) := by decide +kernel
theorem dXL_law_661 : decode code 661 = .ok (.invokestatic 119, 3) := by decide +kernel
theorem dXL_law_664 : decode code 664 = .ok (.istore 5, 2) := by decide +kernel
theorem dXL_law_666 : decode code 666 = .ok (.aload_n 2, 1) := by decide +kernel
theorem dXL_law_667 : decode code 667 = .ok (.aload_n 0, 1) := by decide +kernel
theorem dXL_law_668 : decode code 668 = .ok (.iload 4, 2) := by decide +kernel
theorem dXL_law_670 : decode code 670 = .ok (.iconst 1, 1) := by decide +kernel
theorem dXL_law_671 : decode code 671 = .ok (.iadd, 1) := by decide +kernel
theorem dXL_law_672 : decode code 672 = .ok (.iaload, 1) := by decide +kernel
theorem dXL_law_673 : decode code 673 = .ok (.invokevirtual 121, 3) := by decide +kernel
theorem dXL_law_676 : decode code 676 = .ok (.istore 6, 2) := by decide +kernel
theorem dXL_law_678 : decode code 678 = .ok (.goto 42, 3) := by decide +kernel
theorem dXL_law_681 : decode code 681 = .ok (.aload_n 1, 1) := by decide +kernel
theorem dXL_law_682 : decode code 682 = .ok (.aload_n 0, 1) := by decide +kernel
theorem dXL_law_683 : decode code 683 = .ok (.iload 4, 2) := by decide +kernel
theorem dXL_law_685 : decode code 685 = .ok (.iconst 1, 1) := by decide +kernel
theorem dXL_law_686 : decode code 686 = .ok (.iadd, 1) := by decide +kernel
theorem dXL_law_687 : decode code 687 = .ok (.iaload, 1) := by decide +kernel
theorem dXL_law_688 : decode code 688 = .ok (.aload_n 3, 1) := by decide +kernel
theorem dXL_law_689 : decode code 689 = .ok (.invokestatic 122, 3) := by decide +kernel
theorem dXL_law_692 : decode code 692 = .ok (.istore 5, 2) := by decide +kernel
theorem dXL_law_694 : decode code 694 = .ok (.aload_n 2, 1) := by decide +kernel
theorem dXL_law_695 : decode code 695 = .ok (.aload_n 0, 1) := by decide +kernel
theorem dXL_law_696 : decode code 696 = .ok (.iload 4, 2) := by decide +kernel
theorem dXL_law_698 : decode code 698 = .ok (.iconst 1, 1) := by decide +kernel
theorem dXL_law_699 : decode code 699 = .ok (.iadd, 1) := by decide +kernel
theorem dXL_law_700 : decode code 700 = .ok (.iaload, 1) := by decide +kernel
theorem dXL_law_701 : decode code 701 = .ok (.invokevirtual 124, 3) := by decide +kernel
theorem dXL_law_704 : decode code 704 = .ok (.istore 6, 2) := by decide +kernel
theorem dXL_law_706 : decode code 706 = .ok (.goto 14, 3) := by decide +kernel
theorem dXL_law_709 : decode code 709 = .ok (.aload_n 1, 1) := by decide +kernel
theorem dXL_law_710 : decode code 710 = .ok (.invokevirtual 125, 3) := by decide +kernel
theorem dXL_law_713 : decode code 713 = .ok (.aload_n 2, 1) := by decide +kernel
theorem dXL_law_714 : decode code 714 = .ok (.invokevirtual 128, 3) := by decide +kernel
theorem dXL_law_717 : decode code 717 = .ok (.goto 3, 3) := by decide +kernel
theorem dXL_law_720 : decode code 720 = .ok (.iinc 4 5, 3) := by decide +kernel
theorem dXL_law_723 : decode code 723 = .ok (.goto (-700), 3) := by decide +kernel
theorem dXL_law_726 : decode code 726 = .ok (.iconst 1, 1) := by decide +kernel
theorem dXL_law_727 : decode code 727 = .ok (.ireturn, 1) := by decide +kernel

