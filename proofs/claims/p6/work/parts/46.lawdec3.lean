theorem dXL_law_593 : decode code 593 = .ok (.aload_n 1, 1) := by decide +kernel
theorem dXL_law_594 : decode code 594 = .ok (.aload_n 0, 1) := by decide +kernel
theorem dXL_law_595 : decode code 595 = .ok (.iload 4, 2) := by decide +kernel
theorem dXL_law_597 : decode code 597 = .ok (.iconst 1, 1) := by decide +kernel
theorem dXL_law_598 : decode code 598 = .ok (.iadd, 1) := by decide +kernel
theorem dXL_law_599 : decode code 599 = .ok (.iaload, 1) := by decide +kernel
theorem dXL_law_600 : decode code 600 = .ok (.aload_n 0, 1) := by decide +kernel
theorem dXL_law_601 : decode code 601 = .ok (.iload 4, 2) := by decide +kernel
theorem dXL_law_603 : decode code 603 = .ok (.iconst 2, 1) := by decide +kernel
theorem dXL_law_604 : decode code 604 = .ok (.iadd, 1) := by decide +kernel
theorem dXL_law_605 : decode code 605 = .ok (.iaload, 1) := by decide +kernel
theorem dXL_law_606 : decode code 606 = .ok (.aload_n 0, 1) := by decide +kernel
theorem dXL_law_607 : decode code 607 = .ok (.iload 4, 2) := by decide +kernel
theorem dXL_law_609 : decode code 609 = .ok (.iconst 3, 1) := by decide +kernel
theorem dXL_law_610 : decode code 610 = .ok (.iadd, 1) := by decide +kernel
theorem dXL_law_611 : decode code 611 = .ok (.iaload, 1) := by decide +kernel
theorem dXL_law_612 : decode code 612 = .ok (.aload_n 3, 1) := by decide +kernel
theorem dXL_law_613 : decode code 613 = .ok (.invokestatic 116, 3) := by decide +kernel
theorem dXL_law_616 : decode code 616 = .ok (.istore 5, 2) := by decide +kernel
theorem dXL_law_618 : decode code 618 = .ok (.aload_n 2, 1) := by decide +kernel
theorem dXL_law_619 : decode code 619 = .ok (.aload_n 0, 1) := by decide +kernel
theorem dXL_law_620 : decode code 620 = .ok (.iload 4, 2) := by decide +kernel
theorem dXL_law_622 : decode code 622 = .ok (.iconst 1, 1) := by decide +kernel
theorem dXL_law_623 : decode code 623 = .ok (.iadd, 1) := by decide +kernel
theorem dXL_law_624 : decode code 624 = .ok (.iaload, 1) := by decide +kernel
theorem dXL_law_625 : decode code 625 = .ok (.aload_n 0, 1) := by decide +kernel
theorem dXL_law_626 : decode code 626 = .ok (.iload 4, 2) := by decide +kernel
theorem dXL_law_628 : decode code 628 = .ok (.iconst 2, 1) := by decide +kernel
theorem dXL_law_629 : decode code 629 = .ok (.iadd, 1) := by decide +kernel
theorem dXL_law_630 : decode code 630 = .ok (.iaload, 1) := by decide +kernel
theorem dXL_law_631 : decode code 631 = .ok (.aload_n 0, 1) := by decide +kernel
theorem dXL_law_632 : decode code 632 = .ok (.iload 4, 2) := by decide +kernel
theorem dXL_law_634 : decode code 634 = .ok (.iconst 3, 1) := by decide +kernel
theorem dXL_law_635 : decode code 635 = .ok (.iadd, 1) := by decide +kernel
theorem dXL_law_636 : decode code 636 = .ok (.iaload, 1) := by decide +kernel
theorem dXL_law_637 : decode code 637 = .ok (.invokevirtual 118, 3) := by decide +kernel
theorem dXL_law_640 : decode code 640 = .ok (.istore 6, 2) := by decide +kernel
theorem dXL_law_642 : decode code 642 = .ok (.goto 70, 3) := by decide +kernel
theorem dXL_law_645 : decode code 645 = .ok (.aload_n 1, 1) := by decide +kernel
theorem dXL_law_646 : decode code 646 = .ok (.aload_n 0, 1) := by decide +kernel
theorem dXL_law_647 : decode code 647 = .ok (.iload 4, 2) := by decide +kernel
theorem dXL_law_649 : decode code 649 = .ok (.iconst 1, 1) := by decide +kernel
theorem dXL_law_650 : decode code 650 = .ok (.iadd, 1) := by decide +kernel
theorem dXL_law_651 : decode code 651 = .ok (.iaload, 1) := by decide +kernel
theorem dXL_law_652 : decode code 652 = .ok (.aload_n 3, 1) := by decide +kernel
theorem dXL_law_653 : decode code 653 = .ok (.invokestatic 119, 3) := by decide +kernel
theorem dXL_law_656 : decode code 656 = .ok (.istore 5, 2) := by decide +kernel
theorem dXL_law_658 : decode code 658 = .ok (.aload_n 2, 1) := by decide +kernel
theorem dXL_law_659 : decode code 659 = .ok (.aload_n 0, 1) := by decide +kernel
theorem dXL_law_660 : decode code 660 = .ok (.iload 4, 2) := by decide +kernel
theorem dXL_law_662 : decode code 662 = .ok (.iconst 1, 1) := by decide +kernel
theorem dXL_law_663 : decode code 663 = .ok (.iadd, 1) := by decide +kernel
theorem dXL_law_664 : decode code 664 = .ok (.iaload, 1) := by decide +kernel
theorem dXL_law_665 : decode code 665 = .ok (.invokevirtual 121, 3) := by decide +kernel
theorem dXL_law_668 : decode code 668 = .ok (.istore 6, 2) := by decide +kernel
theorem dXL_law_670 : decode code 670 = .ok (.goto 42, 3) := by decide +kernel
theorem dXL_law_673 : decode code 673 = .ok (.aload_n 1, 1) := by decide +kernel
theorem dXL_law_674 : decode code 674 = .ok (.aload_n 0, 1) := by decide +kernel
theorem dXL_law_675 : decode code 675 = .ok (.iload 4, 2) := by decide +kernel
theorem dXL_law_677 : decode code 677 = .ok (.iconst 1, 1) := by decide +kernel
theorem dXL_law_678 : decode code 678 = .ok (.iadd, 1) := by decide +kernel
theorem dXL_law_679 : decode code 679 = .ok (.iaload, 1) := by decide +kernel
theorem dXL_law_680 : decode code 680 = .ok (.aload_n 3, 1) := by decide +kernel
theorem dXL_law_681 : decode code 681 = .ok (.invokestatic 122, 3) := by decide +kernel
theorem dXL_law_684 : decode code 684 = .ok (.istore 5, 2) := by decide +kernel
theorem dXL_law_686 : decode code 686 = .ok (.aload_n 2, 1) := by decide +kernel
theorem dXL_law_687 : decode code 687 = .ok (.aload_n 0, 1) := by decide +kernel
theorem dXL_law_688 : decode code 688 = .ok (.iload 4, 2) := by decide +kernel
theorem dXL_law_690 : decode code 690 = .ok (.iconst 1, 1) := by decide +kernel
theorem dXL_law_691 : decode code 691 = .ok (.iadd, 1) := by decide +kernel
theorem dXL_law_692 : decode code 692 = .ok (.iaload, 1) := by decide +kernel
theorem dXL_law_693 : decode code 693 = .ok (.invokevirtual 124, 3) := by decide +kernel
theorem dXL_law_696 : decode code 696 = .ok (.istore 6, 2) := by decide +kernel
theorem dXL_law_698 : decode code 698 = .ok (.goto 14, 3) := by decide +kernel
theorem dXL_law_701 : decode code 701 = .ok (.aload_n 1, 1) := by decide +kernel
theorem dXL_law_702 : decode code 702 = .ok (.invokevirtual 125, 3) := by decide +kernel
theorem dXL_law_705 : decode code 705 = .ok (.aload_n 2, 1) := by decide +kernel
theorem dXL_law_706 : decode code 706 = .ok (.invokevirtual 128, 3) := by decide +kernel
theorem dXL_law_709 : decode code 709 = .ok (.goto 3, 3) := by decide +kernel
theorem dXL_law_712 : decode code 712 = .ok (.iinc 4 5, 3) := by decide +kernel
theorem dXL_law_715 : decode code 715 = .ok (.goto (-692), 3) := by decide +kernel
theorem dXL_law_718 : decode code 718 = .ok (.iconst 1, 1) := by decide +kernel
theorem dXL_law_719 : decode code 719 = .ok (.ireturn, 1) := by decide +kernel

