theorem dXL_law_608 : decode code 608 = .ok (.iload 5, 2) := by decide +kernel
theorem dXL_law_610 : decode code 610 = .ok (.if_icmp .eq 5, 3) := by decide +kernel
theorem dXL_law_613 : decode code 613 = .ok (.iconst 0, 1) := by decide +kernel
theorem dXL_law_614 : decode code 614 = .ok (.ireturn, 1) := by decide +kernel
theorem dXL_law_615 : decode code 615 = .ok (.iload 5, 2) := by decide +kernel
theorem dXL_law_617 : decode code 617 = .ok (.ifCond .ne 15, 3) := by decide +kernel
theorem dXL_law_620 : decode code 620 = .ok (.aload_n 3, 1) := by decide +kernel
theorem dXL_law_621 : decode code 621 = .ok (.iconst 0, 1) := by decide +kernel
theorem dXL_law_622 : decode code 622 = .ok (.laload, 1) := by decide +kernel
theorem dXL_law_623 : decode code 623 = .ok (.iload 6, 2) := by decide +kernel
theorem dXL_law_625 : decode code 625 = .ok (.i2l, 1) := by decide +kernel
theorem dXL_law_626 : decode code 626 = .ok (.lcmp, 1) := by decide +kernel
theorem dXL_law_627 : decode code 627 = .ok (.ifCond .eq 5, 3) := by decide +kernel
theorem dXL_law_630 : decode code 630 = .ok (.iconst 0, 1) := by decide +kernel
theorem dXL_law_631 : decode code 631 = .ok (.ireturn, 1) := by decide +kernel
theorem dXL_law_632 : decode code 632 = .ok (.goto 405, 3) := by decide +kernel
theorem dXL_law_635 : decode code 635 = .ok (.aload_n 1, 1) := by decide +kernel
theorem dXL_law_636 : decode code 636 = .ok (.aload_n 0, 1) := by decide +kernel
theorem dXL_law_637 : decode code 637 = .ok (.iload 4, 2) := by decide +kernel
theorem dXL_law_639 : decode code 639 = .ok (.iconst 1, 1) := by decide +kernel
theorem dXL_law_640 : decode code 640 = .ok (.iadd, 1) := by decide +kernel
theorem dXL_law_641 : decode code 641 = .ok (.iaload, 1) := by decide +kernel
theorem dXL_law_642 : decode code 642 = .ok (.aload_n 0, 1) := by decide +kernel
theorem dXL_law_643 : decode code 643 = .ok (.iload 4, 2) := by decide +kernel
theorem dXL_law_645 : decode code 645 = .ok (.iconst 2, 1) := by decide +kernel
theorem dXL_law_646 : decode code 646 = .ok (.iadd, 1) := by decide +kernel
theorem dXL_law_647 : decode code 647 = .ok (.iaload, 1) := by decide +kernel
theorem dXL_law_648 : decode code 648 = .ok (.aload_n 3, 1) := by decide +kernel
theorem dXL_law_649 : decode code 649 = .ok (.invokestatic 107, 3) := by decide +kernel
theorem dXL_law_652 : decode code 652 = .ok (.istore 5, 2) := by decide +kernel
theorem dXL_law_654 : decode code 654 = .ok (.aload_n 2, 1) := by decide +kernel
theorem dXL_law_655 : decode code 655 = .ok (.aload_n 0, 1) := by decide +kernel
theorem dXL_law_656 : decode code 656 = .ok (.iload 4, 2) := by decide +kernel
theorem dXL_law_658 : decode code 658 = .ok (.iconst 1, 1) := by decide +kernel
theorem dXL_law_659 : decode code 659 = .ok (.iadd, 1) := by decide +kernel
theorem dXL_law_660 : decode code 660 = .ok (.iaload, 1) := by decide +kernel
theorem dXL_law_661 : decode code 661 = .ok (.aload_n 0, 1) := by decide +kernel
theorem dXL_law_662 : decode code 662 = .ok (.iload 4, 2) := by decide +kernel
theorem dXL_law_664 : decode code 664 = .ok (.iconst 2, 1) := by decide +kernel
theorem dXL_law_665 : decode code 665 = .ok (.iadd, 1) := by decide +kernel
theorem dXL_law_666 : decode code 666 = .ok (.iaload, 1) := by decide +kernel
theorem dXL_law_667 : decode code 667 = .ok (.invokevirtual 109, 3) := by decide +kernel
theorem dXL_law_670 : decode code 670 = .ok (.istore 6, 2) := by decide +kernel
theorem dXL_law_672 : decode code 672 = .ok (.aload_n 2, 1) := by decide +kernel
theorem dXL_law_673 : decode code 673 = .ok (.invokevirtual 76, 3) := by decide +kernel
theorem dXL_law_676 : decode code 676 = .ok (.iload 5, 2) := by decide +kernel
theorem dXL_law_678 : decode code 678 = .ok (.if_icmp .eq 5, 3) := by decide +kernel
theorem dXL_law_681 : decode code 681 = .ok (.iconst 0, 1) := by decide +kernel
theorem dXL_law_682 : decode code 682 = .ok (.ireturn, 1) := by decide +kernel
theorem dXL_law_683 : decode code 683 = .ok (.iload 5, 2) := by decide +kernel
theorem dXL_law_685 : decode code 685 = .ok (.ifCond .ne 22, 3) := by decide +kernel
theorem dXL_law_688 : decode code 688 = .ok (.aload_n 3, 1) := by decide +kernel
theorem dXL_law_689 : decode code 689 = .ok (.iconst 0, 1) := by decide +kernel
theorem dXL_law_690 : decode code 690 = .ok (.laload, 1) := by decide +kernel
theorem dXL_law_691 : decode code 691 = .ok (.iload 6, 2) := by decide +kernel
theorem dXL_law_693 : decode code 693 = .ok (.ifCond .eq 7, 3) := by decide +kernel
theorem dXL_law_696 : decode code 696 = .ok (.lconst 1, 1) := by decide +kernel
theorem dXL_law_697 : decode code 697 = .ok (.goto 4, 3) := by decide +kernel
theorem dXL_law_700 : decode code 700 = .ok (.lconst 0, 1) := by decide +kernel
theorem dXL_law_701 : decode code 701 = .ok (.lcmp, 1) := by decide +kernel
theorem dXL_law_702 : decode code 702 = .ok (.ifCond .eq 5, 3) := by decide +kernel
theorem dXL_law_705 : decode code 705 = .ok (.iconst 0, 1) := by decide +kernel
theorem dXL_law_706 : decode code 706 = .ok (.ireturn, 1) := by decide +kernel
theorem dXL_law_707 : decode code 707 = .ok (.goto 330, 3) := by decide +kernel
theorem dXL_law_710 : decode code 710 = .ok (.aload_n 1, 1) := by decide +kernel
theorem dXL_law_711 : decode code 711 = .ok (.aload_n 0, 1) := by decide +kernel
theorem dXL_law_712 : decode code 712 = .ok (.iload 4, 2) := by decide +kernel
theorem dXL_law_714 : decode code 714 = .ok (.iconst 1, 1) := by decide +kernel
theorem dXL_law_715 : decode code 715 = .ok (.iadd, 1) := by decide +kernel
theorem dXL_law_716 : decode code 716 = .ok (.iaload, 1) := by decide +kernel
theorem dXL_law_717 : decode code 717 = .ok (.aload_n 3, 1) := by decide +kernel
theorem dXL_law_718 : decode code 718 = .ok (.invokestatic 110, 3) := by decide +kernel
theorem dXL_law_721 : decode code 721 = .ok (.istore 5, 2) := by decide +kernel
theorem dXL_law_723 : decode code 723 = .ok (.aload_n 2, 1) := by decide +kernel
theorem dXL_law_724 : decode code 724 = .ok (.aload_n 0, 1) := by decide +kernel
theorem dXL_law_725 : decode code 725 = .ok (.iload 4, 2) := by decide +kernel
theorem dXL_law_727 : decode code 727 = .ok (.iconst 1, 1) := by decide +kernel
theorem dXL_law_728 : decode code 728 = .ok (.iadd, 1) := by decide +kernel
theorem dXL_law_729 : decode code 729 = .ok (.iaload, 1) := by decide +kernel
theorem dXL_law_730 : decode code 730 = .ok (.invokevirtual 112, 3) := by decide +kernel
theorem dXL_law_733 : decode code 733 = .ok (.istore 6, 2) := by decide +kernel
theorem dXL_law_735 : decode code 735 = .ok (.aload_n 2, 1) := by decide +kernel
theorem dXL_law_736 : decode code 736 = .ok (.invokevirtual 76, 3) := by decide +kernel
theorem dXL_law_739 : decode code 739 = .ok (.iload 5, 2) := by decide +kernel
theorem dXL_law_741 : decode code 741 = .ok (.if_icmp .eq 5, 3) := by decide +kernel
theorem dXL_law_744 : decode code 744 = .ok (.iconst 0, 1) := by decide +kernel
theorem dXL_law_745 : decode code 745 = .ok (.ireturn, 1) := by decide +kernel
theorem dXL_law_746 : decode code 746 = .ok (.iload 5, 2) := by decide +kernel
theorem dXL_law_748 : decode code 748 = .ok (.ifCond .ne 15, 3) := by decide +kernel
theorem dXL_law_751 : decode code 751 = .ok (.aload_n 3, 1) := by decide +kernel
theorem dXL_law_752 : decode code 752 = .ok (.iconst 0, 1) := by decide +kernel
theorem dXL_law_753 : decode code 753 = .ok (.laload, 1) := by decide +kernel
theorem dXL_law_754 : decode code 754 = .ok (.iload 6, 2) := by decide +kernel
theorem dXL_law_756 : decode code 756 = .ok (.i2l, 1) := by decide +kernel
theorem dXL_law_757 : decode code 757 = .ok (.lcmp, 1) := by decide +kernel
theorem dXL_law_758 : decode code 758 = .ok (.ifCond .eq 5, 3) := by decide +kernel
theorem dXL_law_761 : decode code 761 = .ok (.iconst 0, 1) := by decide +kernel
theorem dXL_law_762 : decode code 762 = .ok (.ireturn, 1) := by decide +kernel
theorem dXL_law_763 : decode code 763 = .ok (.goto 274, 3) := by decide +kernel
theorem dXL_law_766 : decode code 766 = .ok (.aload_n 1, 1) := by decide +kernel
theorem dXL_law_767 : decode code 767 = .ok (.aload_n 0, 1) := by decide +kernel
theorem dXL_law_768 : decode code 768 = .ok (.iload 4, 2) := by decide +kernel
theorem dXL_law_770 : decode code 770 = .ok (.iconst 1, 1) := by decide +kernel
theorem dXL_law_771 : decode code 771 = .ok (.iadd, 1) := by decide +kernel
theorem dXL_law_772 : decode code 772 = .ok (.iaload, 1) := by decide +kernel
theorem dXL_law_773 : decode code 773 = .ok (.aload_n 0, 1) := by decide +kernel
theorem dXL_law_774 : decode code 774 = .ok (.iload 4, 2) := by decide +kernel
theorem dXL_law_776 : decode code 776 = .ok (.iconst 2, 1) := by decide +kernel
theorem dXL_law_777 : decode code 777 = .ok (.iadd, 1) := by decide +kernel
theorem dXL_law_778 : decode code 778 = .ok (.iaload, 1) := by decide +kernel
theorem dXL_law_779 : decode code 779 = .ok (.aload_n 3, 1) := by decide +kernel
theorem dXL_law_780 : decode code 780 = .ok (.invokestatic 113, 3) := by decide +kernel
theorem dXL_law_783 : decode code 783 = .ok (.istore 5, 2) := by decide +kernel
theorem dXL_law_785 : decode code 785 = .ok (.aload_n 2, 1) := by decide +kernel
theorem dXL_law_786 : decode code 786 = .ok (.aload_n 0, 1) := by decide +kernel
theorem dXL_law_787 : decode code 787 = .ok (.iload 4, 2) := by decide +kernel
theorem dXL_law_789 : decode code 789 = .ok (.iconst 1, 1) := by decide +kernel
theorem dXL_law_790 : decode code 790 = .ok (.iadd, 1) := by decide +kernel
theorem dXL_law_791 : decode code 791 = .ok (.iaload, 1) := by decide +kernel
theorem dXL_law_792 : decode code 792 = .ok (.aload_n 0, 1) := by decide +kernel
