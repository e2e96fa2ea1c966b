theorem d_LW_law_760 : decode M_LW_law.2.1 760 = .ok (.iconst 1, 1) := by decide +kernel
theorem d_LW_law_761 : decode M_LW_law.2.1 761 = .ok (.iadd, 1) := by decide +kernel
theorem d_LW_law_762 : decode M_LW_law.2.1 762 = .ok (.iaload, 1) := by decide +kernel
theorem d_LW_law_763 : decode M_LW_law.2.1 763 = .ok (.ifCond .eq 7, 3) := by decide +kernel
theorem d_LW_law_766 : decode M_LW_law.2.1 766 = .ok (.iconst 1, 1) := by decide +kernel
theorem d_LW_law_767 : decode M_LW_law.2.1 767 = .ok (.goto 4, 3) := by decide +kernel
theorem d_LW_law_770 : decode M_LW_law.2.1 770 = .ok (.iconst 0, 1) := by decide +kernel
theorem d_LW_law_771 : decode M_LW_law.2.1 771 = .ok (.aload_n 0, 1) := by decide +kernel
theorem d_LW_law_772 : decode M_LW_law.2.1 772 = .ok (.iload_n 3, 1) := by decide +kernel
theorem d_LW_law_773 : decode M_LW_law.2.1 773 = .ok (.iconst 2, 1) := by decide +kernel
theorem d_LW_law_774 : decode M_LW_law.2.1 774 = .ok (.iadd, 1) := by decide +kernel
theorem d_LW_law_775 : decode M_LW_law.2.1 775 = .ok (.iaload, 1) := by decide +kernel
theorem d_LW_law_776 : decode M_LW_law.2.1 776 = .ok (.aload_n 0, 1) := by decide +kernel
theorem d_LW_law_777 : decode M_LW_law.2.1 777 = .ok (.iload_n 3, 1) := by decide +kernel
theorem d_LW_law_778 : decode M_LW_law.2.1 778 = .ok (.iconst 3, 1) := by decide +kernel
theorem d_LW_law_779 : decode M_LW_law.2.1 779 = .ok (.iadd, 1) := by decide +kernel
theorem d_LW_law_780 : decode M_LW_law.2.1 780 = .ok (.iaload, 1) := by decide +kernel
theorem d_LW_law_781 : decode M_LW_law.2.1 781 = .ok (.invokevirtual 105, 3) := by decide +kernel
theorem d_LW_law_784 : decode M_LW_law.2.1 784 = .ok (.if_icmp .eq 242, 3) := by decide +kernel
theorem d_LW_law_787 : decode M_LW_law.2.1 787 = .ok (.iconst 0, 1) := by decide +kernel
theorem d_LW_law_788 : decode M_LW_law.2.1 788 = .ok (.ireturn, 1) := by decide +kernel
theorem d_LW_law_789 : decode M_LW_law.2.1 789 = .ok (.aload_n 1, 1) := by decide +kernel
theorem d_LW_law_790 : decode M_LW_law.2.1 790 = .ok (.aload_n 0, 1) := by decide +kernel
theorem d_LW_law_791 : decode M_LW_law.2.1 791 = .ok (.iload_n 3, 1) := by decide +kernel
theorem d_LW_law_792 : decode M_LW_law.2.1 792 = .ok (.iconst 1, 1) := by decide +kernel
theorem d_LW_law_793 : decode M_LW_law.2.1 793 = .ok (.iadd, 1) := by decide +kernel
theorem d_LW_law_794 : decode M_LW_law.2.1 794 = .ok (.iaload, 1) := by decide +kernel
theorem d_LW_law_795 : decode M_LW_law.2.1 795 = .ok (.invokevirtual 106, 3) := by decide +kernel
theorem d_LW_law_798 : decode M_LW_law.2.1 798 = .ok (.aload_n 2, 1) := by decide +kernel
theorem d_LW_law_799 : decode M_LW_law.2.1 799 = .ok (.aload_n 0, 1) := by decide +kernel
theorem d_LW_law_800 : decode M_LW_law.2.1 800 = .ok (.iload_n 3, 1) := by decide +kernel
theorem d_LW_law_801 : decode M_LW_law.2.1 801 = .ok (.iconst 1, 1) := by decide +kernel
theorem d_LW_law_802 : decode M_LW_law.2.1 802 = .ok (.iadd, 1) := by decide +kernel
theorem d_LW_law_803 : decode M_LW_law.2.1 803 = .ok (.iaload, 1) := by decide +kernel
theorem d_LW_law_804 : decode M_LW_law.2.1 804 = .ok (.invokevirtual 109, 3) := by decide +kernel
theorem d_LW_law_807 : decode M_LW_law.2.1 807 = .ok (.if_icmp .eq 219, 3) := by decide +kernel
theorem d_LW_law_810 : decode M_LW_law.2.1 810 = .ok (.iconst 0, 1) := by decide +kernel
theorem d_LW_law_811 : decode M_LW_law.2.1 811 = .ok (.ireturn, 1) := by decide +kernel
theorem d_LW_law_812 : decode M_LW_law.2.1 812 = .ok (.aload_n 1, 1) := by decide +kernel
theorem d_LW_law_813 : decode M_LW_law.2.1 813 = .ok (.aload_n 0, 1) := by decide +kernel
theorem d_LW_law_814 : decode M_LW_law.2.1 814 = .ok (.iload_n 3, 1) := by decide +kernel
theorem d_LW_law_815 : decode M_LW_law.2.1 815 = .ok (.iconst 1, 1) := by decide +kernel
theorem d_LW_law_816 : decode M_LW_law.2.1 816 = .ok (.iadd, 1) := by decide +kernel
theorem d_LW_law_817 : decode M_LW_law.2.1 817 = .ok (.iaload, 1) := by decide +kernel
theorem d_LW_law_818 : decode M_LW_law.2.1 818 = .ok (.aload_n 0, 1) := by decide +kernel
theorem d_LW_law_819 : decode M_LW_law.2.1 819 = .ok (.iload_n 3, 1) := by decide +kernel
theorem d_LW_law_820 : decode M_LW_law.2.1 820 = .ok (.iconst 2, 1) := by decide +kernel
theorem d_LW_law_821 : decode M_LW_law.2.1 821 = .ok (.iadd, 1) := by decide +kernel
theorem d_LW_law_822 : decode M_LW_law.2.1 822 = .ok (.iaload, 1) := by decide +kernel
theorem d_LW_law_823 : decode M_LW_law.2.1 823 = .ok (.aload_n 0, 1) := by decide +kernel
theorem d_LW_law_824 : decode M_LW_law.2.1 824 = .ok (.iload_n 3, 1) := by decide +kernel
theorem d_LW_law_825 : decode M_LW_law.2.1 825 = .ok (.iconst 3, 1) := by decide +kernel
theorem d_LW_law_826 : decode M_LW_law.2.1 826 = .ok (.iadd, 1) := by decide +kernel
theorem d_LW_law_827 : decode M_LW_law.2.1 827 = .ok (.iaload, 1) := by decide +kernel
theorem d_LW_law_828 : decode M_LW_law.2.1 828 = .ok (.invokevirtual 110, 3) := by decide +kernel
theorem d_LW_law_831 : decode M_LW_law.2.1 831 = .ok (.aload_n 2, 1) := by decide +kernel
theorem d_LW_law_832 : decode M_LW_law.2.1 832 = .ok (.aload_n 0, 1) := by decide +kernel
theorem d_LW_law_833 : decode M_LW_law.2.1 833 = .ok (.iload_n 3, 1) := by decide +kernel
theorem d_LW_law_834 : decode M_LW_law.2.1 834 = .ok (.iconst 1, 1) := by decide +kernel
theorem d_LW_law_835 : decode M_LW_law.2.1 835 = .ok (.iadd, 1) := by decide +kernel
theorem d_LW_law_836 : decode M_LW_law.2.1 836 = .ok (.iaload, 1) := by decide +kernel
theorem d_LW_law_837 : decode M_LW_law.2.1 837 = .ok (.aload_n 0, 1) := by decide +kernel
theorem d_LW_law_838 : decode M_LW_law.2.1 838 = .ok (.iload_n 3, 1) := by decide +kernel
theorem d_LW_law_839 : decode M_LW_law.2.1 839 = .ok (.iconst 2, 1) := by decide +kernel
theorem d_LW_law_840 : decode M_LW_law.2.1 840 = .ok (.iadd, 1) := by decide +kernel
theorem d_LW_law_841 : decode M_LW_law.2.1 841 = .ok (.iaload, 1) := by decide +kernel
theorem d_LW_law_842 : decode M_LW_law.2.1 842 = .ok (.aload_n 0, 1) := by decide +kernel
theorem d_LW_law_843 : decode M_LW_law.2.1 843 = .ok (.iload_n 3, 1) := by decide +kernel
theorem d_LW_law_844 : decode M_LW_law.2.1 844 = .ok (.iconst 3, 1) := by decide +kernel
theorem d_LW_law_845 : decode M_LW_law.2.1 845 = .ok (.iadd, 1) := by decide +kernel
theorem d_LW_law_846 : decode M_LW_law.2.1 846 = .ok (.iaload, 1) := by decide +kernel
theorem d_LW_law_847 : decode M_LW_law.2.1 847 = .ok (.invokevirtual 113, 3) := by decide +kernel
theorem d_LW_law_850 : decode M_LW_law.2.1 850 = .ok (.if_icmp .eq 176, 3) := by decide +kernel
theorem d_LW_law_853 : decode M_LW_law.2.1 853 = .ok (.iconst 0, 1) := by decide +kernel
theorem d_LW_law_854 : decode M_LW_law.2.1 854 = .ok (.ireturn, 1) := by decide +kernel
theorem d_LW_law_855 : decode M_LW_law.2.1 855 = .ok (.aload_n 1, 1) := by decide +kernel
theorem d_LW_law_856 : decode M_LW_law.2.1 856 = .ok (.aload_n 0, 1) := by decide +kernel
theorem d_LW_law_857 : decode M_LW_law.2.1 857 = .ok (.iload_n 3, 1) := by decide +kernel
theorem d_LW_law_858 : decode M_LW_law.2.1 858 = .ok (.iconst 1, 1) := by decide +kernel
theorem d_LW_law_859 : decode M_LW_law.2.1 859 = .ok (.iadd, 1) := by decide +kernel
theorem d_LW_law_860 : decode M_LW_law.2.1 860 = .ok (.iaload, 1) := by decide +kernel
theorem d_LW_law_861 : decode M_LW_law.2.1 861 = .ok (.aload_n 0, 1) := by decide +kernel
theorem d_LW_law_862 : decode M_LW_law.2.1 862 = .ok (.iload_n 3, 1) := by decide +kernel
theorem d_LW_law_863 : decode M_LW_law.2.1 863 = .ok (.iconst 2, 1) := by decide +kernel
theorem d_LW_law_864 : decode M_LW_law.2.1 864 = .ok (.iadd, 1) := by decide +kernel
theorem d_LW_law_865 : decode M_LW_law.2.1 865 = .ok (.iaload, 1) := by decide +kernel
theorem d_LW_law_866 : decode M_LW_law.2.1 866 = .ok (.aload_n 0, 1) := by decide +kernel
theorem d_LW_law_867 : decode M_LW_law.2.1 867 = .ok (.iload_n 3, 1) := by decide +kernel
theorem d_LW_law_868 : decode M_LW_law.2.1 868 = .ok (.iconst 3, 1) := by decide +kernel
theorem d_LW_law_869 : decode M_LW_law.2.1 869 = .ok (.iadd, 1) := by decide +kernel
theorem d_LW_law_870 : decode M_LW_law.2.1 870 = .ok (.iaload, 1) := by decide +kernel
theorem d_LW_law_871 : decode M_LW_law.2.1 871 = .ok (.invokevirtual 114, 3) := by decide +kernel
theorem d_LW_law_874 : decode M_LW_law.2.1 874 = .ok (.aload_n 2, 1) := by decide +kernel
theorem d_LW_law_875 : decode M_LW_law.2.1 875 = .ok (.aload_n 0, 1) := by decide +kernel
theorem d_LW_law_876 : decode M_LW_law.2.1 876 = .ok (.iload_n 3, 1) := by decide +kernel
theorem d_LW_law_877 : decode M_LW_law.2.1 877 = .ok (.iconst 1, 1) := by decide +kernel
theorem d_LW_law_878 : decode M_LW_law.2.1 878 = .ok (.iadd, 1) := by decide +kernel
theorem d_LW_law_879 : decode M_LW_law.2.1 879 = .ok (.iaload, 1) := by decide +kernel
theorem d_LW_law_880 : decode M_LW_law.2.1 880 = .ok (.aload_n 0, 1) := by decide +kernel
theorem d_LW_law_881 : decode M_LW_law.2.1 881 = .ok (.iload_n 3, 1) := by decide +kernel
theorem d_LW_law_882 : decode M_LW_law.2.1 882 = .ok (.iconst 2, 1) := by decide +kernel
theorem d_LW_law_883 : decode M_LW_law.2.1 883 = .ok (.iadd, 1) := by decide +kernel
theorem d_LW_law_884 : decode M_LW_law.2.1 884 = .ok (.iaload, 1) := by decide +kernel
theorem d_LW_law_885 : decode M_LW_law.2.1 885 = .ok (.aload_n 0, 1) := by decide +kernel
theorem d_LW_law_886 : decode M_LW_law.2.1 886 = .ok (.iload_n 3, 1) := by decide +kernel
theorem d_LW_law_887 : decode M_LW_law.2.1 887 = .ok (.iconst 3, 1) := by decide +kernel
theorem d_LW_law_888 : decode M_LW_law.2.1 888 = .ok (.iadd, 1) := by decide +kernel
theorem d_LW_law_889 : decode M_LW_law.2.1 889 = .ok (.iaload, 1) := by decide +kernel
theorem d_LW_law_890 : decode M_LW_law.2.1 890 = .ok (.invokevirtual 117, 3) := by decide +kernel
theorem d_LW_law_893 : decode M_LW_law.2.1 893 = .ok (.if_icmp .eq 133, 3) := by decide +kernel
theorem d_LW_law_896 : decode M_LW_law.2.1 896 = .ok (.iconst 0, 1) := by decide +kernel
theorem d_LW_law_897 : decode M_LW_law.2.1 897 = .ok (.ireturn, 1) := by decide +kernel
theorem d_LW_law_898 : decode M_LW_law.2.1 898 = .ok (.aload_n 1, 1) := by decide +kernel
theorem d_LW_law_899 : decode M_LW_law.2.1 899 = .ok (.aload_n 0, 1) := by decide +kernel
theorem d_LW_law_900 : decode M_LW_law.2.1 900 = .ok (.iload_n 3, 1) := by decide +kernel
theorem d_LW_law_901 : decode M_LW_law.2.1 901 = .ok (.iconst 1, 1) := by decide +kernel
theorem d_LW_law_902 : decode M_LW_law.2.1 902 = .ok (.iadd, 1) := by decide +kernel
theorem d_LW_law_903 : decode M_LW_law.2.1 903 = .ok (.iaload, 1) := by decide +kernel
theorem d_LW_law_904 : decode M_LW_law.2.1 904 = .ok (.aload_n 0, 1) := by decide +kernel
theorem d_LW_law_905 : decode M_LW_law.2.1 905 = .ok (.iload_n 3, 1) := by decide +kernel
