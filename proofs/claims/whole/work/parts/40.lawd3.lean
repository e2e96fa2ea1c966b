theorem d_LW_law_594 : decode M_LW_law.2.1 594 = .ok (.invokevirtual 75, 3) := by decide +kernel
theorem d_LW_law_597 : decode M_LW_law.2.1 597 = .ok (.if_icmp .eq 429, 3) := by decide +kernel
theorem d_LW_law_600 : decode M_LW_law.2.1 600 = .ok (.iconst 0, 1) := by decide +kernel
theorem d_LW_law_601 : decode M_LW_law.2.1 601 = .ok (.ireturn, 1) := by decide +kernel
theorem d_LW_law_602 : decode M_LW_law.2.1 602 = .ok (.aload_n 1, 1) := by decide +kernel
theorem d_LW_law_603 : decode M_LW_law.2.1 603 = .ok (.aload_n 0, 1) := by decide +kernel
theorem d_LW_law_604 : decode M_LW_law.2.1 604 = .ok (.iload_n 3, 1) := by decide +kernel
theorem d_LW_law_605 : decode M_LW_law.2.1 605 = .ok (.iconst 1, 1) := by decide +kernel
theorem d_LW_law_606 : decode M_LW_law.2.1 606 = .ok (.iadd, 1) := by decide +kernel
theorem d_LW_law_607 : decode M_LW_law.2.1 607 = .ok (.iaload, 1) := by decide +kernel
theorem d_LW_law_608 : decode M_LW_law.2.1 608 = .ok (.invokevirtual 76, 3) := by decide +kernel
theorem d_LW_law_611 : decode M_LW_law.2.1 611 = .ok (.aload_n 2, 1) := by decide +kernel
theorem d_LW_law_612 : decode M_LW_law.2.1 612 = .ok (.aload_n 0, 1) := by decide +kernel
theorem d_LW_law_613 : decode M_LW_law.2.1 613 = .ok (.iload_n 3, 1) := by decide +kernel
theorem d_LW_law_614 : decode M_LW_law.2.1 614 = .ok (.iconst 1, 1) := by decide +kernel
theorem d_LW_law_615 : decode M_LW_law.2.1 615 = .ok (.iadd, 1) := by decide +kernel
theorem d_LW_law_616 : decode M_LW_law.2.1 616 = .ok (.iaload, 1) := by decide +kernel
theorem d_LW_law_617 : decode M_LW_law.2.1 617 = .ok (.invokevirtual 79, 3) := by decide +kernel
theorem d_LW_law_620 : decode M_LW_law.2.1 620 = .ok (.if_icmp .eq 406, 3) := by decide +kernel
theorem d_LW_law_623 : decode M_LW_law.2.1 623 = .ok (.iconst 0, 1) := by decide +kernel
theorem d_LW_law_624 : decode M_LW_law.2.1 624 = .ok (.ireturn, 1) := by decide +kernel
theorem d_LW_law_625 : decode M_LW_law.2.1 625 = .ok (.aload_n 1, 1) := by decide +kernel
theorem d_LW_law_626 : decode M_LW_law.2.1 626 = .ok (.invokevirtual 80, 3) := by decide +kernel
theorem d_LW_law_629 : decode M_LW_law.2.1 629 = .ok (.aload_n 2, 1) := by decide +kernel
theorem d_LW_law_630 : decode M_LW_law.2.1 630 = .ok (.invokevirtual 84, 3) := by decide +kernel
theorem d_LW_law_633 : decode M_LW_law.2.1 633 = .ok (.if_icmp .eq 393, 3) := by decide +kernel
theorem d_LW_law_636 : decode M_LW_law.2.1 636 = .ok (.iconst 0, 1) := by decide +kernel
theorem d_LW_law_637 : decode M_LW_law.2.1 637 = .ok (.ireturn, 1) := by decide +kernel
theorem d_LW_law_638 : decode M_LW_law.2.1 638 = .ok (.aload_n 1, 1) := by decide +kernel
theorem d_LW_law_639 : decode M_LW_law.2.1 639 = .ok (.aload_n 0, 1) := by decide +kernel
theorem d_LW_law_640 : decode M_LW_law.2.1 640 = .ok (.iload_n 3, 1) := by decide +kernel
theorem d_LW_law_641 : decode M_LW_law.2.1 641 = .ok (.iconst 1, 1) := by decide +kernel
theorem d_LW_law_642 : decode M_LW_law.2.1 642 = .ok (.iadd, 1) := by decide +kernel
theorem d_LW_law_643 : decode M_LW_law.2.1 643 = .ok (.iaload, 1) := by decide +kernel
theorem d_LW_law_644 : decode M_LW_law.2.1 644 = .ok (.aload_n 0, 1) := by decide +kernel
theorem d_LW_law_645 : decode M_LW_law.2.1 645 = .ok (.iload_n 3, 1) := by decide +kernel
theorem d_LW_law_646 : decode M_LW_law.2.1 646 = .ok (.iconst 2, 1) := by decide +kernel
theorem d_LW_law_647 : decode M_LW_law.2.1 647 = .ok (.iadd, 1) := by decide +kernel
theorem d_LW_law_648 : decode M_LW_law.2.1 648 = .ok (.iaload, 1) := by decide +kernel
theorem d_LW_law_649 : decode M_LW_law.2.1 649 = .ok (.invokevirtual 85, 3) := by decide +kernel
theorem d_LW_law_652 : decode M_LW_law.2.1 652 = .ok (.aload_n 2, 1) := by decide +kernel
theorem d_LW_law_653 : decode M_LW_law.2.1 653 = .ok (.aload_n 0, 1) := by decide +kernel
theorem d_LW_law_654 : decode M_LW_law.2.1 654 = .ok (.iload_n 3, 1) := by decide +kernel
theorem d_LW_law_655 : decode M_LW_law.2.1 655 = .ok (.iconst 1, 1) := by decide +kernel
theorem d_LW_law_656 : decode M_LW_law.2.1 656 = .ok (.iadd, 1) := by decide +kernel
theorem d_LW_law_657 : decode M_LW_law.2.1 657 = .ok (.iaload, 1) := by decide +kernel
theorem d_LW_law_658 : decode M_LW_law.2.1 658 = .ok (.aload_n 0, 1) := by decide +kernel
theorem d_LW_law_659 : decode M_LW_law.2.1 659 = .ok (.iload_n 3, 1) := by decide +kernel
theorem d_LW_law_660 : decode M_LW_law.2.1 660 = .ok (.iconst 2, 1) := by decide +kernel
theorem d_LW_law_661 : decode M_LW_law.2.1 661 = .ok (.iadd, 1) := by decide +kernel
theorem d_LW_law_662 : decode M_LW_law.2.1 662 = .ok (.iaload, 1) := by decide +kernel
theorem d_LW_law_663 : decode M_LW_law.2.1 663 = .ok (.invokevirtual 88, 3) := by decide +kernel
theorem d_LW_law_666 : decode M_LW_law.2.1 666 = .ok (.if_icmp .eq 360, 3) := by decide +kernel
theorem d_LW_law_669 : decode M_LW_law.2.1 669 = .ok (.iconst 0, 1) := by decide +kernel
theorem d_LW_law_670 : decode M_LW_law.2.1 670 = .ok (.ireturn, 1) := by decide +kernel
theorem d_LW_law_671 : decode M_LW_law.2.1 671 = .ok (.aload_n 1, 1) := by decide +kernel
theorem d_LW_law_672 : decode M_LW_law.2.1 672 = .ok (.invokevirtual 89, 3) := by decide +kernel
theorem d_LW_law_675 : decode M_LW_law.2.1 675 = .ok (.aload_n 2, 1) := by decide +kernel
theorem d_LW_law_676 : decode M_LW_law.2.1 676 = .ok (.invokevirtual 92, 3) := by decide +kernel
theorem d_LW_law_679 : decode M_LW_law.2.1 679 = .ok (.if_icmp .eq 347, 3) := by decide +kernel
theorem d_LW_law_682 : decode M_LW_law.2.1 682 = .ok (.iconst 0, 1) := by decide +kernel
theorem d_LW_law_683 : decode M_LW_law.2.1 683 = .ok (.ireturn, 1) := by decide +kernel
theorem d_LW_law_684 : decode M_LW_law.2.1 684 = .ok (.aload_n 1, 1) := by decide +kernel
theorem d_LW_law_685 : decode M_LW_law.2.1 685 = .ok (.aload_n 0, 1) := by decide +kernel
theorem d_LW_law_686 : decode M_LW_law.2.1 686 = .ok (.iload_n 3, 1) := by decide +kernel
theorem d_LW_law_687 : decode M_LW_law.2.1 687 = .ok (.iconst 1, 1) := by decide +kernel
theorem d_LW_law_688 : decode M_LW_law.2.1 688 = .ok (.iadd, 1) := by decide +kernel
theorem d_LW_law_689 : decode M_LW_law.2.1 689 = .ok (.iaload, 1) := by decide +kernel
theorem d_LW_law_690 : decode M_LW_law.2.1 690 = .ok (.invokevirtual 93, 3) := by decide +kernel
theorem d_LW_law_693 : decode M_LW_law.2.1 693 = .ok (.aload_n 2, 1) := by decide +kernel
theorem d_LW_law_694 : decode M_LW_law.2.1 694 = .ok (.aload_n 0, 1) := by decide +kernel
theorem d_LW_law_695 : decode M_LW_law.2.1 695 = .ok (.iload_n 3, 1) := by decide +kernel
theorem d_LW_law_696 : decode M_LW_law.2.1 696 = .ok (.iconst 1, 1) := by decide +kernel
theorem d_LW_law_697 : decode M_LW_law.2.1 697 = .ok (.iadd, 1) := by decide +kernel
theorem d_LW_law_698 : decode M_LW_law.2.1 698 = .ok (.iaload, 1) := by decide +kernel
theorem d_LW_law_699 : decode M_LW_law.2.1 699 = .ok (.invokevirtual 96, 3) := by decide +kernel
theorem d_LW_law_702 : decode M_LW_law.2.1 702 = .ok (.if_icmp .eq 324, 3) := by decide +kernel
theorem d_LW_law_705 : decode M_LW_law.2.1 705 = .ok (.iconst 0, 1) := by decide +kernel
theorem d_LW_law_706 : decode M_LW_law.2.1 706 = .ok (.ireturn, 1) := by decide +kernel
theorem d_LW_law_707 : decode M_LW_law.2.1 707 = .ok (.aload_n 1, 1) := by decide +kernel
theorem d_LW_law_708 : decode M_LW_law.2.1 708 = .ok (.aload_n 0, 1) := by decide +kernel
theorem d_LW_law_709 : decode M_LW_law.2.1 709 = .ok (.iload_n 3, 1) := by decide +kernel
theorem d_LW_law_710 : decode M_LW_law.2.1 710 = .ok (.iconst 1, 1) := by decide +kernel
theorem d_LW_law_711 : decode M_LW_law.2.1 711 = .ok (.iadd, 1) := by decide +kernel
theorem d_LW_law_712 : decode M_LW_law.2.1 712 = .ok (.iaload, 1) := by decide +kernel
theorem d_LW_law_713 : decode M_LW_law.2.1 713 = .ok (.invokevirtual 97, 3) := by decide +kernel
theorem d_LW_law_716 : decode M_LW_law.2.1 716 = .ok (.aload_n 2, 1) := by decide +kernel
theorem d_LW_law_717 : decode M_LW_law.2.1 717 = .ok (.aload_n 0, 1) := by decide +kernel
theorem d_LW_law_718 : decode M_LW_law.2.1 718 = .ok (.iload_n 3, 1) := by decide +kernel
theorem d_LW_law_719 : decode M_LW_law.2.1 719 = .ok (.iconst 1, 1) := by decide +kernel
theorem d_LW_law_720 : decode M_LW_law.2.1 720 = .ok (.iadd, 1) := by decide +kernel
theorem d_LW_law_721 : decode M_LW_law.2.1 721 = .ok (.iaload, 1) := by decide +kernel
theorem d_LW_law_722 : decode M_LW_law.2.1 722 = .ok (.invokevirtual 100, 3) := by decide +kernel
theorem d_LW_law_725 : decode M_LW_law.2.1 725 = .ok (.if_icmp .eq 301, 3) := by decide +kernel
theorem d_LW_law_728 : decode M_LW_law.2.1 728 = .ok (.iconst 0, 1) := by decide +kernel
theorem d_LW_law_729 : decode M_LW_law.2.1 729 = .ok (.ireturn, 1) := by decide +kernel
theorem d_LW_law_730 : decode M_LW_law.2.1 730 = .ok (.aload_n 1, 1) := by decide +kernel
theorem d_LW_law_731 : decode M_LW_law.2.1 731 = .ok (.aload_n 0, 1) := by decide +kernel
theorem d_LW_law_732 : decode M_LW_law.2.1 732 = .ok (.iload_n 3, 1) := by decide +kernel
theorem d_LW_law_733 : decode M_LW_law.2.1 733 = .ok (.iconst 1, 1) := by decide +kernel
theorem d_LW_law_734 : decode M_LW_law.2.1 734 = .ok (.iadd, 1) := by decide +kernel
theorem d_LW_law_735 : decode M_LW_law.2.1 735 = .ok (.iaload, 1) := by decide +kernel
theorem d_LW_law_736 : decode M_LW_law.2.1 736 = .ok (.ifCond .eq 7, 3) := by decide +kernel
theorem d_LW_law_739 : decode M_LW_law.2.1 739 = .ok (.iconst 1, 1) := by decide +kernel
theorem d_LW_law_740 : decode M_LW_law.2.1 740 = .ok (.goto 4, 3) := by decide +kernel
theorem d_LW_law_743 : decode M_LW_law.2.1 743 = .ok (.iconst 0, 1) := by decide +kernel
theorem d_LW_law_744 : decode M_LW_law.2.1 744 = .ok (.aload_n 0, 1) := by decide +kernel
theorem d_LW_law_745 : decode M_LW_law.2.1 745 = .ok (.iload_n 3, 1) := by decide +kernel
theorem d_LW_law_746 : decode M_LW_law.2.1 746 = .ok (.iconst 2, 1) := by decide +kernel
theorem d_LW_law_747 : decode M_LW_law.2.1 747 = .ok (.iadd, 1) := by decide +kernel
theorem d_LW_law_748 : decode M_LW_law.2.1 748 = .ok (.iaload, 1) := by decide +kernel
theorem d_LW_law_749 : decode M_LW_law.2.1 749 = .ok (.aload_n 0, 1) := by decide +kernel
theorem d_LW_law_750 : decode M_LW_law.2.1 750 = .ok (.iload_n 3, 1) := by decide +kernel
theorem d_LW_law_751 : decode M_LW_law.2.1 751 = .ok (.iconst 3, 1) := by decide +kernel
theorem d_LW_law_752 : decode M_LW_law.2.1 752 = .ok (.iadd, 1) := by decide +kernel
theorem d_LW_law_753 : decode M_LW_law.2.1 753 = .ok (.iaload, 1) := by decide +kernel
theorem d_LW_law_754 : decode M_LW_law.2.1 754 = .ok (.invokevirtual 101, 3) := by decide +kernel
theorem d_LW_law_757 : decode M_LW_law.2.1 757 = .ok (.aload_n 2, 1) := by decide +kernel
theorem d_LW_law_758 : decode M_LW_law.2.1 758 = .ok (.aload_n 0, 1) := by decide +kernel
theorem d_LW_law_759 : decode M_LW_law.2.1 759 = .ok (.iload_n 3, 1) := by decide +kernel
