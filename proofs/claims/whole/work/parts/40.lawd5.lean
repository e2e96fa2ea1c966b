theorem d_LW_law_906 : decode M_LW_law.2.1 906 = .ok (.iconst 2, 1) := by decide +kernel
theorem d_LW_law_907 : decode M_LW_law.2.1 907 = .ok (.iadd, 1) := by decide +kernel
theorem d_LW_law_908 : decode M_LW_law.2.1 908 = .ok (.iaload, 1) := by decide +kernel
theorem d_LW_law_909 : decode M_LW_law.2.1 909 = .ok (.ifCond .eq 7, 3) := by decide +kernel
theorem d_LW_law_912 : decode M_LW_law.2.1 912 = .ok (.iconst 1, 1) := by decide +kernel
theorem d_LW_law_913 : decode M_LW_law.2.1 913 = .ok (.goto 4, 3) := by decide +kernel
theorem d_LW_law_916 : decode M_LW_law.2.1 916 = .ok (.iconst 0, 1) := by decide +kernel
theorem d_LW_law_917 : decode M_LW_law.2.1 917 = .ok (.invokevirtual 118, 3) := by decide +kernel
theorem d_LW_law_920 : decode M_LW_law.2.1 920 = .ok (.aload_n 2, 1) := by decide +kernel
theorem d_LW_law_921 : decode M_LW_law.2.1 921 = .ok (.aload_n 0, 1) := by decide +kernel
theorem d_LW_law_922 : decode M_LW_law.2.1 922 = .ok (.iload_n 3, 1) := by decide +kernel
theorem d_LW_law_923 : decode M_LW_law.2.1 923 = .ok (.iconst 1, 1) := by decide +kernel
theorem d_LW_law_924 : decode M_LW_law.2.1 924 = .ok (.iadd, 1) := by decide +kernel
theorem d_LW_law_925 : decode M_LW_law.2.1 925 = .ok (.iaload, 1) := by decide +kernel
theorem d_LW_law_926 : decode M_LW_law.2.1 926 = .ok (.aload_n 0, 1) := by decide +kernel
theorem d_LW_law_927 : decode M_LW_law.2.1 927 = .ok (.iload_n 3, 1) := by decide +kernel
theorem d_LW_law_928 : decode M_LW_law.2.1 928 = .ok (.iconst 2, 1) := by decide +kernel
theorem d_LW_law_929 : decode M_LW_law.2.1 929 = .ok (.iadd, 1) := by decide +kernel
theorem d_LW_law_930 : decode M_LW_law.2.1 930 = .ok (.iaload, 1) := by decide +kernel
theorem d_LW_law_931 : decode M_LW_law.2.1 931 = .ok (.ifCond .eq 7, 3) := by decide +kernel
theorem d_LW_law_934 : decode M_LW_law.2.1 934 = .ok (.iconst 1, 1) := by decide +kernel
theorem d_LW_law_935 : decode M_LW_law.2.1 935 = .ok (.goto 4, 3) := by decide +kernel
theorem d_LW_law_938 : decode M_LW_law.2.1 938 = .ok (.iconst 0, 1) := by decide +kernel
theorem d_LW_law_939 : decode M_LW_law.2.1 939 = .ok (.invokevirtual 122, 3) := by decide +kernel
theorem d_LW_law_942 : decode M_LW_law.2.1 942 = .ok (.if_icmp .eq 84, 3) := by decide +kernel
theorem d_LW_law_945 : decode M_LW_law.2.1 945 = .ok (.iconst 0, 1) := by decide +kernel
theorem d_LW_law_946 : decode M_LW_law.2.1 946 = .ok (.ireturn, 1) := by decide +kernel
theorem d_LW_law_947 : decode M_LW_law.2.1 947 = .ok (.aload_n 1, 1) := by decide +kernel
theorem d_LW_law_948 : decode M_LW_law.2.1 948 = .ok (.invokevirtual 123, 3) := by decide +kernel
theorem d_LW_law_951 : decode M_LW_law.2.1 951 = .ok (.aload_n 2, 1) := by decide +kernel
theorem d_LW_law_952 : decode M_LW_law.2.1 952 = .ok (.invokevirtual 126, 3) := by decide +kernel
theorem d_LW_law_955 : decode M_LW_law.2.1 955 = .ok (.if_icmp .eq 71, 3) := by decide +kernel
theorem d_LW_law_958 : decode M_LW_law.2.1 958 = .ok (.iconst 0, 1) := by decide +kernel
theorem d_LW_law_959 : decode M_LW_law.2.1 959 = .ok (.ireturn, 1) := by decide +kernel
theorem d_LW_law_960 : decode M_LW_law.2.1 960 = .ok (.aload_n 1, 1) := by decide +kernel
theorem d_LW_law_961 : decode M_LW_law.2.1 961 = .ok (.aload_n 0, 1) := by decide +kernel
theorem d_LW_law_962 : decode M_LW_law.2.1 962 = .ok (.iload_n 3, 1) := by decide +kernel
theorem d_LW_law_963 : decode M_LW_law.2.1 963 = .ok (.iconst 1, 1) := by decide +kernel
theorem d_LW_law_964 : decode M_LW_law.2.1 964 = .ok (.iadd, 1) := by decide +kernel
theorem d_LW_law_965 : decode M_LW_law.2.1 965 = .ok (.iaload, 1) := by decide +kernel
theorem d_LW_law_966 : decode M_LW_law.2.1 966 = .ok (.aload_n 0, 1) := by decide +kernel
theorem d_LW_law_967 : decode M_LW_law.2.1 967 = .ok (.iload_n 3, 1) := by decide +kernel
theorem d_LW_law_968 : decode M_LW_law.2.1 968 = .ok (.iconst 2, 1) := by decide +kernel
theorem d_LW_law_969 : decode M_LW_law.2.1 969 = .ok (.iadd, 1) := by decide +kernel
theorem d_LW_law_970 : decode M_LW_law.2.1 970 = .ok (.iaload, 1) := by decide +kernel
theorem d_LW_law_971 : decode M_LW_law.2.1 971 = .ok (.invokevirtual 127, 3) := by decide +kernel
theorem d_LW_law_974 : decode M_LW_law.2.1 974 = .ok (.aload_n 2, 1) := by decide +kernel
theorem d_LW_law_975 : decode M_LW_law.2.1 975 = .ok (.aload_n 0, 1) := by decide +kernel
theorem d_LW_law_976 : decode M_LW_law.2.1 976 = .ok (.iload_n 3, 1) := by decide +kernel
theorem d_LW_law_977 : decode M_LW_law.2.1 977 = .ok (.iconst 1, 1) := by decide +kernel
theorem d_LW_law_978 : decode M_LW_law.2.1 978 = .ok (.iadd, 1) := by decide +kernel
theorem d_LW_law_979 : decode M_LW_law.2.1 979 = .ok (.iaload, 1) := by decide +kernel
theorem d_LW_law_980 : decode M_LW_law.2.1 980 = .ok (.aload_n 0, 1) := by decide +kernel
theorem d_LW_law_981 : decode M_LW_law.2.1 981 = .ok (.iload_n 3, 1) := by decide +kernel
theorem d_LW_law_982 : decode M_LW_law.2.1 982 = .ok (.iconst 2, 1) := by decide +kernel
theorem d_LW_law_983 : decode M_LW_law.2.1 983 = .ok (.iadd, 1) := by decide +kernel
theorem d_LW_law_984 : decode M_LW_law.2.1 984 = .ok (.iaload, 1) := by decide +kernel
theorem d_LW_law_985 : decode M_LW_law.2.1 985 = .ok (.invokevirtual 130, 3) := by decide +kernel
theorem d_LW_law_988 : decode M_LW_law.2.1 988 = .ok (.if_icmp .eq 38, 3) := by decide +kernel
theorem d_LW_law_991 : decode M_LW_law.2.1 991 = .ok (.iconst 0, 1) := by decide +kernel
theorem d_LW_law_992 : decode M_LW_law.2.1 992 = .ok (.ireturn, 1) := by decide +kernel
theorem d_LW_law_993 : decode M_LW_law.2.1 993 = .ok (.aload_n 1, 1) := by decide +kernel
theorem d_LW_law_994 : decode M_LW_law.2.1 994 = .ok (.aload_n 0, 1) := by decide +kernel
theorem d_LW_law_995 : decode M_LW_law.2.1 995 = .ok (.iload_n 3, 1) := by decide +kernel
theorem d_LW_law_996 : decode M_LW_law.2.1 996 = .ok (.iconst 1, 1) := by decide +kernel
theorem d_LW_law_997 : decode M_LW_law.2.1 997 = .ok (.iadd, 1) := by decide +kernel
theorem d_LW_law_998 : decode M_LW_law.2.1 998 = .ok (.iaload, 1) := by decide +kernel
theorem d_LW_law_999 : decode M_LW_law.2.1 999 = .ok (.aload_n 0, 1) := by decide +kernel
theorem d_LW_law_1000 : decode M_LW_law.2.1 1000 = .ok (.iload_n 3, 1) := by decide +kernel
theorem d_LW_law_1001 : decode M_LW_law.2.1 1001 = .ok (.iconst 2, 1) := by decide +kernel
theorem d_LW_law_1002 : decode M_LW_law.2.1 1002 = .ok (.iadd, 1) := by decide +kernel
theorem d_LW_law_1003 : decode M_LW_law.2.1 1003 = .ok (.iaload, 1) := by decide +kernel
theorem d_LW_law_1004 : decode M_LW_law.2.1 1004 = .ok (.invokevirtual 131, 3) := by decide +kernel
theorem d_LW_law_1007 : decode M_LW_law.2.1 1007 = .ok (.aload_n 2, 1) := by decide +kernel
theorem d_LW_law_1008 : decode M_LW_law.2.1 1008 = .ok (.aload_n 0, 1) := by decide +kernel
theorem d_LW_law_1009 : decode M_LW_law.2.1 1009 = .ok (.iload_n 3, 1) := by decide +kernel
theorem d_LW_law_1010 : decode M_LW_law.2.1 1010 = .ok (.iconst 1, 1) := by decide +kernel
theorem d_LW_law_1011 : decode M_LW_law.2.1 1011 = .ok (.iadd, 1) := by decide +kernel
theorem d_LW_law_1012 : decode M_LW_law.2.1 1012 = .ok (.iaload, 1) := by decide +kernel
theorem d_LW_law_1013 : decode M_LW_law.2.1 1013 = .ok (.aload_n 0, 1) := by decide +kernel
theorem d_LW_law_1014 : decode M_LW_law.2.1 1014 = .ok (.iload_n 3, 1) := by decide +kernel
theorem d_LW_law_1015 : decode M_LW_law.2.1 1015 = .ok (.iconst 2, 1) := by decide +kernel
theorem d_LW_law_1016 : decode M_LW_law.2.1 1016 = .ok (.iadd, 1) := by decide +kernel
theorem d_LW_law_1017 : decode M_LW_law.2.1 1017 = .ok (.iaload, 1) := by decide +kernel
theorem d_LW_law_1018 : decode M_LW_law.2.1 1018 = .ok (.invokevirtual 134, 3) := by decide +kernel
theorem d_LW_law_1021 : decode M_LW_law.2.1 1021 = .ok (.if_icmp .eq 5, 3) := by decide +kernel
theorem d_LW_law_1024 : decode M_LW_law.2.1 1024 = .ok (.iconst 0, 1) := by decide +kernel
theorem d_LW_law_1025 : decode M_LW_law.2.1 1025 = .ok (.ireturn, 1) := by decide +kernel
theorem d_LW_law_1026 : decode M_LW_law.2.1 1026 = .ok (.iinc 3 5, 3) := by decide +kernel
theorem d_LW_law_1029 : decode M_LW_law.2.1 1029 = .ok (.goto (-1011), 3) := by decide +kernel
theorem d_LW_law_1032 : decode M_LW_law.2.1 1032 = .ok (.iconst 1, 1) := by decide +kernel
theorem d_LW_law_1033 : decode M_LW_law.2.1 1033 = .ok (.ireturn, 1) := by decide +kernel
