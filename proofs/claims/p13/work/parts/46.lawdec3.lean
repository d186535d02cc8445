theorem dXL_law_585 : decode code 585 = .ok (.aload_n 3, 1) := by decide +kernel
theorem dXL_law_586 : decode code 586 = .ok (.invokestatic 113, 3) := by decide +kernel
theorem dXL_law_589 : decode code 589 = .ok (.istore 5, 2) := by decide +kernel
theorem dXL_law_591 : decode code 591 = .ok (.aload_n 2, 1) := by decide +kernel
theorem dXL_law_592 : decode code 592 = .ok (.aload_n 0, 1) := by decide +kernel
theorem dXL_law_593 : decode code 593 = .ok (.iload 4, 2) := by decide +kernel
theorem dXL_law_595 : decode code 595 = .ok (.iconst 1, 1) := by decide +kernel
theorem dXL_law_596 : decode code 596 = .ok (.iadd, 1) := by decide +kernel
theorem dXL_law_597 : decode code 597 = .ok (.iaload, 1) := by decide +kernel
theorem dXL_law_598 : decode code 598 = .ok (.aload_n 0, 1) := by decide +kernel
theorem dXL_law_599 : decode code 599 = .ok (.iload 4, 2) := by decide +kernel
theorem dXL_law_601 : decode code 601 = .ok (.iconst 2, 1) := by decide +kernel
theorem dXL_law_602 : decode code 602 = .ok (.iadd, 1) := by decide +kernel
theorem dXL_law_603 : decode code 603 = .ok (.iaload, 1) := by decide +kernel
theorem dXL_law_604 : decode code 604 = .ok (.aload_n 0, 1) := by decide +kernel
theorem dXL_law_605 : decode code 605 = .ok (.iload 4, 2) := by decide +kernel
theorem dXL_law_607 : decode code 607 = .ok (.iconst 3, 1) := by decide +kernel
theorem dXL_law_608 : decode code 608 = .ok (.iadd, 1) := by decide +kernel
theorem dXL_law_609 : decode code 609 = .ok (.iaload, 1) := by decide +kernel
theorem dXL_law_610 : decode code 610 = .ok (.invokevirtual 115, 3) := by decide +kernel
theorem dXL_law_613 : decode code 613 = .ok (.istore 6, 2) := by decide +kernel
theorem dXL_law_615 : decode code 615 = .ok (.aload_n 2, 1) := by decide +kernel
theorem dXL_law_616 : decode code 616 = .ok (.invokevirtual 116, 3) := by decide +kernel
theorem dXL_law_619 : decode code 619 = .ok (.iload 5, 2) := by decide +kernel
theorem dXL_law_621 : decode code 621 = .ok (.if_icmp .eq 5, 3) := by decide +kernel
theorem dXL_law_626 : decode code 626 = .ok (.iload 5, 2) := by decide +kernel
theorem dXL_law_628 : decode code 628 = .ok (.ifCond .ne 15, 3) := by decide +kernel
theorem dXL_law_631 : decode code 631 = .ok (.aload_n 3, 1) := by decide +kernel
theorem dXL_law_632 : decode code 632 = .ok (.iconst 0, 1) := by decide +kernel
theorem dXL_law_633 : decode code 633 = .ok (.laload, 1) := by decide +kernel
theorem dXL_law_634 : decode code 634 = .ok (.iload 6, 2) := by decide +kernel
theorem dXL_law_636 : decode code 636 = .ok (.i2l, 1) := by decide +kernel
theorem dXL_law_637 : decode code 637 = .ok (.lcmp, 1) := by decide +kernel
theorem dXL_law_638 : decode code 638 = .ok (.ifCond .eq 5, 3) := by decide +kernel
theorem dXL_law_643 : decode code 643 = .ok (.goto 70, 3) := by decide +kernel
theorem dXL_law_646 : decode code 646 = .ok (.aload_n 1, 1) := by decide +kernel
theorem dXL_law_647 : decode code 647 = .ok (.aload_n 0, 1) := by decide +kernel
theorem dXL_law_648 : decode code 648 = .ok (.iload 4, 2) := by decide +kernel
theorem dXL_law_650 : decode code 650 = .ok (.iconst 1, 1) := by decide +kernel
theorem dXL_law_651 : decode code 651 = .ok (.iadd, 1) := by decide +kernel
theorem dXL_law_652 : decode code 652 = .ok (.iaload, 1) := by decide +kernel
theorem dXL_law_653 : decode code 653 = .ok (.aload_n 3, 1) := by decide +kernel
theorem dXL_law_654 : decode code 654 = .ok (.invokestatic 119, 3) := by decide +kernel
theorem dXL_law_657 : decode code 657 = .ok (.istore 5, 2) := by decide +kernel
theorem dXL_law_659 : decode code 659 = .ok (.aload_n 2, 1) := by decide +kernel
theorem dXL_law_660 : decode code 660 = .ok (.aload_n 0, 1) := by decide +kernel
theorem dXL_law_661 : decode code 661 = .ok (.iload 4, 2) := by decide +kernel
theorem dXL_law_663 : decode code 663 = .ok (.iconst 1, 1) := by decide +kernel
theorem dXL_law_664 : decode code 664 = .ok (.iadd, 1) := by decide +kernel
theorem dXL_law_665 : decode code 665 = .ok (.iaload, 1) := by decide +kernel
theorem dXL_law_666 : decode code 666 = .ok (.invokevirtual 121, 3) := by decide +kernel
theorem dXL_law_669 : decode code 669 = .ok (.istore 6, 2) := by decide +kernel
theorem dXL_law_671 : decode code 671 = .ok (.goto 42, 3) := by decide +kernel
theorem dXL_law_674 : decode code 674 = .ok (.aload_n 1, 1) := by decide +kernel
theorem dXL_law_675 : decode code 675 = .ok (.aload_n 0, 1) := by decide +kernel
theorem dXL_law_676 : decode code 676 = .ok (.iload 4, 2) := by decide +kernel
theorem dXL_law_678 : decode code 678 = .ok (.iconst 1, 1) := by decide +kernel
theorem dXL_law_679 : decode code 679 = .ok (.iadd, 1) := by decide +kernel
theorem dXL_law_680 : decode code 680 = .ok (.iaload, 1) := by decide +kernel
theorem dXL_law_681 : decode code 681 = .ok (.aload_n 3, 1) := by decide +kernel
theorem dXL_law_682 : decode code 682 = .ok (.invokestatic 122, 3) := by decide +kernel
theorem dXL_law_685 : decode code 685 = .ok (.istore 5, 2) := by decide +kernel
theorem dXL_law_687 : decode code 687 = .ok (.aload_n 2, 1) := by decide +kernel
theorem dXL_law_688 : decode code 688 = .ok (.aload_n 0, 1) := by decide +kernel
theorem dXL_law_689 : decode code 689 = .ok (.iload 4, 2) := by decide +kernel
theorem dXL_law_691 : decode code 691 = .ok (.iconst 1, 1) := by decide +kernel
theorem dXL_law_692 : decode code 692 = .ok (.iadd, 1) := by decide +kernel
theorem dXL_law_693 : decode code 693 = .ok (.iaload, 1) := by decide +kernel
theorem dXL_law_694 : decode code 694 = .ok (.invokevirtual 124, 3) := by decide +kernel
theorem dXL_law_697 : decode code 697 = .ok (.istore 6, 2) := by decide +kernel
theorem dXL_law_699 : decode code 699 = .ok (.goto 14, 3) := by decide +kernel
theorem dXL_law_702 : decode code 702 = .ok (.aload_n 1, 1) := by decide +kernel
theorem dXL_law_703 : decode code 703 = .ok (.invokevirtual 125, 3) := by decide +kernel
theorem dXL_law_706 : decode code 706 = .ok (.aload_n 2, 1) := by decide +kernel
theorem dXL_law_707 : decode code 707 = .ok (.invokevirtual 128, 3) := by decide +kernel
theorem dXL_law_710 : decode code 710 = .ok (.goto 3, 3) := by decide +kernel
theorem dXL_law_713 : decode code 713 = .ok (.iinc 4 5, 3) := by decide +kernel
theorem dXL_law_716 : decode code 716 = .ok (.goto (-693), 3) := by decide +kernel
theorem dXL_law_719 : decode code 719 = .ok (.iconst 1, 1) := by decide +kernel
theorem dXL_law_720 : decode code 720 = .ok (.ireturn, 1) := by decide +kernel

