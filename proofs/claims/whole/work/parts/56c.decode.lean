/-! the law, its instructions -/
theorem dL_588 : decode code 588 = .ok (.invokevirtual 55, 3) := by decide +kernel
theorem dL_591 : decode code 591 = .ok (.if_icmp .eq 1161, 3) := by decide +kernel
theorem dL_596 : decode code 596 = .ok (.aload_n 1, 1) := by decide +kernel
theorem dL_597 : decode code 597 = .ok (.aload_n 0, 1) := by decide +kernel
theorem dL_598 : decode code 598 = .ok (.iload_n 3, 1) := by decide +kernel
theorem dL_599 : decode code 599 = .ok (.iconst 1, 1) := by decide +kernel
theorem dL_600 : decode code 600 = .ok (.iadd, 1) := by decide +kernel
theorem dL_601 : decode code 601 = .ok (.iaload, 1) := by decide +kernel
theorem dL_602 : decode code 602 = .ok (.invokevirtual 56, 3) := by decide +kernel
theorem dL_605 : decode code 605 = .ok (.aload_n 2, 1) := by decide +kernel
theorem dL_606 : decode code 606 = .ok (.aload_n 0, 1) := by decide +kernel
theorem dL_607 : decode code 607 = .ok (.iload_n 3, 1) := by decide +kernel
theorem dL_608 : decode code 608 = .ok (.iconst 1, 1) := by decide +kernel
theorem dL_609 : decode code 609 = .ok (.iadd, 1) := by decide +kernel
theorem dL_610 : decode code 610 = .ok (.iaload, 1) := by decide +kernel
theorem dL_611 : decode code 611 = .ok (.invokevirtual 59, 3) := by decide +kernel
theorem dL_614 : decode code 614 = .ok (.if_icmp .eq 1138, 3) := by decide +kernel
theorem dL_619 : decode code 619 = .ok (.aload_n 1, 1) := by decide +kernel
theorem dL_620 : decode code 620 = .ok (.aload_n 0, 1) := by decide +kernel
theorem dL_621 : decode code 621 = .ok (.iload_n 3, 1) := by decide +kernel
theorem dL_622 : decode code 622 = .ok (.iconst 1, 1) := by decide +kernel
theorem dL_623 : decode code 623 = .ok (.iadd, 1) := by decide +kernel
theorem dL_624 : decode code 624 = .ok (.iaload, 1) := by decide +kernel
theorem dL_625 : decode code 625 = .ok (.aload_n 0, 1) := by decide +kernel
theorem dL_626 : decode code 626 = .ok (.iload_n 3, 1) := by decide +kernel
theorem dL_627 : decode code 627 = .ok (.iconst 2, 1) := by decide +kernel
theorem dL_628 : decode code 628 = .ok (.iadd, 1) := by decide +kernel
theorem dL_629 : decode code 629 = .ok (.iaload, 1) := by decide +kernel
theorem dL_630 : decode code 630 = .ok (.invokevirtual 60, 3) := by decide +kernel
theorem dL_633 : decode code 633 = .ok (.aload_n 2, 1) := by decide +kernel
theorem dL_634 : decode code 634 = .ok (.aload_n 0, 1) := by decide +kernel
theorem dL_635 : decode code 635 = .ok (.iload_n 3, 1) := by decide +kernel
theorem dL_636 : decode code 636 = .ok (.iconst 1, 1) := by decide +kernel
theorem dL_637 : decode code 637 = .ok (.iadd, 1) := by decide +kernel
theorem dL_638 : decode code 638 = .ok (.iaload, 1) := by decide +kernel
theorem dL_639 : decode code 639 = .ok (.aload_n 0, 1) := by decide +kernel
theorem dL_640 : decode code 640 = .ok (.iload_n 3, 1) := by decide +kernel
theorem dL_641 : decode code 641 = .ok (.iconst 2, 1) := by decide +kernel
theorem dL_642 : decode code 642 = .ok (.iadd, 1) := by decide +kernel
theorem dL_643 : decode code 643 = .ok (.iaload, 1) := by decide +kernel
theorem dL_644 : decode code 644 = .ok (.invokevirtual 63, 3) := by decide +kernel
theorem dL_647 : decode code 647 = .ok (.if_icmp .eq 1105, 3) := by decide +kernel
theorem dL_652 : decode code 652 = .ok (.aload_n 1, 1) := by decide +kernel
theorem dL_653 : decode code 653 = .ok (.aload_n 0, 1) := by decide +kernel
theorem dL_654 : decode code 654 = .ok (.iload_n 3, 1) := by decide +kernel
theorem dL_655 : decode code 655 = .ok (.iconst 1, 1) := by decide +kernel
theorem dL_656 : decode code 656 = .ok (.iadd, 1) := by decide +kernel
theorem dL_657 : decode code 657 = .ok (.iaload, 1) := by decide +kernel
theorem dL_658 : decode code 658 = .ok (.invokevirtual 64, 3) := by decide +kernel
theorem dL_661 : decode code 661 = .ok (.aload_n 2, 1) := by decide +kernel
theorem dL_662 : decode code 662 = .ok (.aload_n 0, 1) := by decide +kernel
theorem dL_663 : decode code 663 = .ok (.iload_n 3, 1) := by decide +kernel
theorem dL_664 : decode code 664 = .ok (.iconst 1, 1) := by decide +kernel
theorem dL_665 : decode code 665 = .ok (.iadd, 1) := by decide +kernel
theorem dL_666 : decode code 666 = .ok (.iaload, 1) := by decide +kernel
theorem dL_667 : decode code 667 = .ok (.invokevirtual 67, 3) := by decide +kernel
theorem dL_670 : decode code 670 = .ok (.if_icmp .eq 1082, 3) := by decide +kernel
theorem dL_675 : decode code 675 = .ok (.aload_n 1, 1) := by decide +kernel
theorem dL_676 : decode code 676 = .ok (.aload_n 0, 1) := by decide +kernel
theorem dL_677 : decode code 677 = .ok (.iload_n 3, 1) := by decide +kernel
theorem dL_678 : decode code 678 = .ok (.iconst 1, 1) := by decide +kernel
theorem dL_679 : decode code 679 = .ok (.iadd, 1) := by decide +kernel
theorem dL_680 : decode code 680 = .ok (.iaload, 1) := by decide +kernel
theorem dL_681 : decode code 681 = .ok (.invokevirtual 68, 3) := by decide +kernel
theorem dL_684 : decode code 684 = .ok (.aload_n 2, 1) := by decide +kernel
theorem dL_685 : decode code 685 = .ok (.aload_n 0, 1) := by decide +kernel
theorem dL_686 : decode code 686 = .ok (.iload_n 3, 1) := by decide +kernel
theorem dL_687 : decode code 687 = .ok (.iconst 1, 1) := by decide +kernel
theorem dL_688 : decode code 688 = .ok (.iadd, 1) := by decide +kernel
theorem dL_689 : decode code 689 = .ok (.iaload, 1) := by decide +kernel
theorem dL_690 : decode code 690 = .ok (.invokevirtual 71, 3) := by decide +kernel
theorem dL_693 : decode code 693 = .ok (.if_icmp .eq 1059, 3) := by decide +kernel
theorem dL_698 : decode code 698 = .ok (.aload_n 1, 1) := by decide +kernel
theorem dL_699 : decode code 699 = .ok (.aload_n 0, 1) := by decide +kernel
theorem dL_700 : decode code 700 = .ok (.iload_n 3, 1) := by decide +kernel
theorem dL_701 : decode code 701 = .ok (.iconst 1, 1) := by decide +kernel
theorem dL_702 : decode code 702 = .ok (.iadd, 1) := by decide +kernel
theorem dL_703 : decode code 703 = .ok (.iaload, 1) := by decide +kernel
theorem dL_704 : decode code 704 = .ok (.aload_n 0, 1) := by decide +kernel
theorem dL_705 : decode code 705 = .ok (.iload_n 3, 1) := by decide +kernel
theorem dL_706 : decode code 706 = .ok (.iconst 2, 1) := by decide +kernel
theorem dL_707 : decode code 707 = .ok (.iadd, 1) := by decide +kernel
theorem dL_708 : decode code 708 = .ok (.iaload, 1) := by decide +kernel
theorem dL_709 : decode code 709 = .ok (.invokevirtual 72, 3) := by decide +kernel
theorem dL_712 : decode code 712 = .ok (.aload_n 2, 1) := by decide +kernel
theorem dL_713 : decode code 713 = .ok (.aload_n 0, 1) := by decide +kernel
theorem dL_714 : decode code 714 = .ok (.iload_n 3, 1) := by decide +kernel
theorem dL_715 : decode code 715 = .ok (.iconst 1, 1) := by decide +kernel
theorem dL_716 : decode code 716 = .ok (.iadd, 1) := by decide +kernel
theorem dL_717 : decode code 717 = .ok (.iaload, 1) := by decide +kernel
theorem dL_718 : decode code 718 = .ok (.aload_n 0, 1) := by decide +kernel
theorem dL_719 : decode code 719 = .ok (.iload_n 3, 1) := by decide +kernel
theorem dL_720 : decode code 720 = .ok (.iconst 2, 1) := by decide +kernel
theorem dL_721 : decode code 721 = .ok (.iadd, 1) := by decide +kernel
theorem dL_722 : decode code 722 = .ok (.iaload, 1) := by decide +kernel
theorem dL_723 : decode code 723 = .ok (.invokevirtual 75, 3) := by decide +kernel
theorem dL_726 : decode code 726 = .ok (.if_icmp .eq 1026, 3) := by decide +kernel
theorem dL_731 : decode code 731 = .ok (.aload_n 1, 1) := by decide +kernel
theorem dL_732 : decode code 732 = .ok (.aload_n 0, 1) := by decide +kernel
theorem dL_733 : decode code 733 = .ok (.iload_n 3, 1) := by decide +kernel
theorem dL_734 : decode code 734 = .ok (.iconst 1, 1) := by decide +kernel
theorem dL_735 : decode code 735 = .ok (.iadd, 1) := by decide +kernel
theorem dL_736 : decode code 736 = .ok (.iaload, 1) := by decide +kernel
theorem dL_737 : decode code 737 = .ok (.invokevirtual 76, 3) := by decide +kernel
theorem dL_740 : decode code 740 = .ok (.aload_n 2, 1) := by decide +kernel
theorem dL_741 : decode code 741 = .ok (.aload_n 0, 1) := by decide +kernel
theorem dL_742 : decode code 742 = .ok (.iload_n 3, 1) := by decide +kernel
theorem dL_743 : decode code 743 = .ok (.iconst 1, 1) := by decide +kernel
theorem dL_744 : decode code 744 = .ok (.iadd, 1) := by decide +kernel
theorem dL_745 : decode code 745 = .ok (.iaload, 1) := by decide +kernel
theorem dL_746 : decode code 746 = .ok (.invokevirtual 79, 3) := by decide +kernel
theorem dL_749 : decode code 749 = .ok (.if_icmp .eq 1003, 3) := by decide +kernel
theorem dL_754 : decode code 754 = .ok (.aload_n 1, 1) := by decide +kernel
theorem dL_755 : decode code 755 = .ok (.invokevirtual 80, 3) := by decide +kernel
theorem dL_758 : decode code 758 = .ok (.aload_n 2, 1) := by decide +kernel
theorem dL_759 : decode code 759 = .ok (.invokevirtual 84, 3) := by decide +kernel
theorem dL_762 : decode code 762 = .ok (.if_icmp .eq 990, 3) := by decide +kernel
theorem dL_767 : decode code 767 = .ok (.aload_n 1, 1) := by decide +kernel
theorem dL_768 : decode code 768 = .ok (.aload_n 0, 1) := by decide +kernel
theorem dL_769 : decode code 769 = .ok (.iload_n 3, 1) := by decide +kernel
theorem dL_770 : decode code 770 = .ok (.iconst 1, 1) := by decide +kernel
theorem dL_771 : decode code 771 = .ok (.iadd, 1) := by decide +kernel
theorem dL_772 : decode code 772 = .ok (.iaload, 1) := by decide +kernel
theorem dL_773 : decode code 773 = .ok (.invokevirtual 85, 3) := by decide +kernel
theorem dL_776 : decode code 776 = .ok (.aload_n 2, 1) := by decide +kernel
theorem dL_777 : decode code 777 = .ok (.aload_n 0, 1) := by decide +kernel
theorem dL_778 : decode code 778 = .ok (.iload_n 3, 1) := by decide +kernel
theorem dL_779 : decode code 779 = .ok (.iconst 1, 1) := by decide +kernel
theorem dL_780 : decode code 780 = .ok (.iadd, 1) := by decide +kernel
theorem dL_781 : decode code 781 = .ok (.iaload, 1) := by decide +kernel
theorem dL_782 : decode code 782 = .ok (.invokevirtual 88, 3) := by decide +kernel
theorem dL_785 : decode code 785 = .ok (.if_icmp .eq 967, 3) := by decide +kernel
theorem dL_790 : decode code 790 = .ok (.aload_n 1, 1) := by decide +kernel
theorem dL_791 : decode code 791 = .ok (.aload_n 0, 1) := by decide +kernel
theorem dL_792 : decode code 792 = .ok (.iload_n 3, 1) := by decide +kernel
theorem dL_793 : decode code 793 = .ok (.iconst 1, 1) := by decide +kernel
theorem dL_794 : decode code 794 = .ok (.iadd, 1) := by decide +kernel
theorem dL_795 : decode code 795 = .ok (.iaload, 1) := by decide +kernel
theorem dL_796 : decode code 796 = .ok (.invokevirtual 89, 3) := by decide +kernel
theorem dL_799 : decode code 799 = .ok (.aload_n 2, 1) := by decide +kernel
