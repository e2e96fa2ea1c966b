theorem d_MO_isLaw_0 : decode M_MO_isLaw.2.1 0 = .ok (.iload_n 1, 1) := by decide +kernel
theorem d_MO_isLaw_1 : decode M_MO_isLaw.2.1 1 = .ok (.iconst 0, 1) := by decide +kernel
theorem d_MO_isLaw_2 : decode M_MO_isLaw.2.1 2 = .ok (.aload_n 0, 1) := by decide +kernel
theorem d_MO_isLaw_3 : decode M_MO_isLaw.2.1 3 = .ok (.getfield 120, 3) := by decide +kernel
theorem d_MO_isLaw_6 : decode M_MO_isLaw.2.1 6 = .ok (.iconst 1, 1) := by decide +kernel
theorem d_MO_isLaw_7 : decode M_MO_isLaw.2.1 7 = .ok (.isub, 1) := by decide +kernel
theorem d_MO_isLaw_8 : decode M_MO_isLaw.2.1 8 = .ok (.invokestatic 76, 3) := by decide +kernel
theorem d_MO_isLaw_11 : decode M_MO_isLaw.2.1 11 = .ok (.ireturn, 1) := by decide +kernel
theorem d_MO_change_0 : decode M_MO_change.2.1 0 = .ok (.aload_n 0, 1) := by decide +kernel
theorem d_MO_change_1 : decode M_MO_change.2.1 1 = .ok (.iload_n 1, 1) := by decide +kernel
theorem d_MO_change_2 : decode M_MO_change.2.1 2 = .ok (.invokevirtual 123, 3) := by decide +kernel
theorem d_MO_change_5 : decode M_MO_change.2.1 5 = .ok (.ifCond .ne 5, 3) := by decide +kernel
theorem d_MO_change_8 : decode M_MO_change.2.1 8 = .ok (.iconst (-1), 1) := by decide +kernel
theorem d_MO_change_9 : decode M_MO_change.2.1 9 = .ok (.ireturn, 1) := by decide +kernel
theorem d_MO_change_10 : decode M_MO_change.2.1 10 = .ok (.iload_n 2, 1) := by decide +kernel
theorem d_MO_change_11 : decode M_MO_change.2.1 11 = .ok (.iconst 1, 1) := by decide +kernel
theorem d_MO_change_12 : decode M_MO_change.2.1 12 = .ok (.iconst 4, 1) := by decide +kernel
theorem d_MO_change_13 : decode M_MO_change.2.1 13 = .ok (.invokestatic 76, 3) := by decide +kernel
theorem d_MO_change_16 : decode M_MO_change.2.1 16 = .ok (.ifCond .eq 14, 3) := by decide +kernel
theorem d_MO_change_19 : decode M_MO_change.2.1 19 = .ok (.iload_n 3, 1) := by decide +kernel
theorem d_MO_change_20 : decode M_MO_change.2.1 20 = .ok (.iconst 1, 1) := by decide +kernel
theorem d_MO_change_21 : decode M_MO_change.2.1 21 = .ok (.sipush 10000, 3) := by decide +kernel
theorem d_MO_change_24 : decode M_MO_change.2.1 24 = .ok (.invokestatic 76, 3) := by decide +kernel
theorem d_MO_change_27 : decode M_MO_change.2.1 27 = .ok (.ifCond .ne 6, 3) := by decide +kernel
theorem d_MO_change_30 : decode M_MO_change.2.1 30 = .ok (.bipush (-2), 2) := by decide +kernel
theorem d_MO_change_32 : decode M_MO_change.2.1 32 = .ok (.ireturn, 1) := by decide +kernel
theorem d_MO_change_33 : decode M_MO_change.2.1 33 = .ok (.aload_n 0, 1) := by decide +kernel
theorem d_MO_change_34 : decode M_MO_change.2.1 34 = .ok (.getfield 33, 3) := by decide +kernel
theorem d_MO_change_37 : decode M_MO_change.2.1 37 = .ok (.iload_n 1, 1) := by decide +kernel
theorem d_MO_change_38 : decode M_MO_change.2.1 38 = .ok (.iload_n 2, 1) := by decide +kernel
theorem d_MO_change_39 : decode M_MO_change.2.1 39 = .ok (.iastore, 1) := by decide +kernel
theorem d_MO_change_40 : decode M_MO_change.2.1 40 = .ok (.aload_n 0, 1) := by decide +kernel
theorem d_MO_change_41 : decode M_MO_change.2.1 41 = .ok (.getfield 39, 3) := by decide +kernel
theorem d_MO_change_44 : decode M_MO_change.2.1 44 = .ok (.iload_n 1, 1) := by decide +kernel
theorem d_MO_change_45 : decode M_MO_change.2.1 45 = .ok (.iload_n 3, 1) := by decide +kernel
theorem d_MO_change_46 : decode M_MO_change.2.1 46 = .ok (.iastore, 1) := by decide +kernel
theorem d_MO_change_47 : decode M_MO_change.2.1 47 = .ok (.iconst 1, 1) := by decide +kernel
theorem d_MO_change_48 : decode M_MO_change.2.1 48 = .ok (.ireturn, 1) := by decide +kernel
theorem d_MO_within_0 : decode M_MO_within.2.1 0 = .ok (.iconst 0, 1) := by decide +kernel
theorem d_MO_within_1 : decode M_MO_within.2.1 1 = .ok (.istore 4, 2) := by decide +kernel
theorem d_MO_within_3 : decode M_MO_within.2.1 3 = .ok (.iconst 0, 1) := by decide +kernel
theorem d_MO_within_4 : decode M_MO_within.2.1 4 = .ok (.istore 5, 2) := by decide +kernel
theorem d_MO_within_6 : decode M_MO_within.2.1 6 = .ok (.iload 5, 2) := by decide +kernel
theorem d_MO_within_8 : decode M_MO_within.2.1 8 = .ok (.aload_n 0, 1) := by decide +kernel
theorem d_MO_within_9 : decode M_MO_within.2.1 9 = .ok (.getfield 73, 3) := by decide +kernel
theorem d_MO_within_12 : decode M_MO_within.2.1 12 = .ok (.if_icmp .ge 86, 3) := by decide +kernel
theorem d_MO_within_15 : decode M_MO_within.2.1 15 = .ok (.iload_n 3, 1) := by decide +kernel
theorem d_MO_within_16 : decode M_MO_within.2.1 16 = .ok (.iconst 3, 1) := by decide +kernel
theorem d_MO_within_17 : decode M_MO_within.2.1 17 = .ok (.if_icmp .eq 38, 3) := by decide +kernel
theorem d_MO_within_20 : decode M_MO_within.2.1 20 = .ok (.iload_n 3, 1) := by decide +kernel
theorem d_MO_within_21 : decode M_MO_within.2.1 21 = .ok (.iconst 3, 1) := by decide +kernel
theorem d_MO_within_22 : decode M_MO_within.2.1 22 = .ok (.if_icmp .ge 13, 3) := by decide +kernel
theorem d_MO_within_25 : decode M_MO_within.2.1 25 = .ok (.aload_n 0, 1) := by decide +kernel
theorem d_MO_within_26 : decode M_MO_within.2.1 26 = .ok (.iload 5, 2) := by decide +kernel
theorem d_MO_within_28 : decode M_MO_within.2.1 28 = .ok (.invokevirtual 108, 3) := by decide +kernel
theorem d_MO_within_31 : decode M_MO_within.2.1 31 = .ok (.iload_n 3, 1) := by decide +kernel
theorem d_MO_within_32 : decode M_MO_within.2.1 32 = .ok (.if_icmp .eq 23, 3) := by decide +kernel
theorem d_MO_within_35 : decode M_MO_within.2.1 35 = .ok (.iload_n 3, 1) := by decide +kernel
theorem d_MO_within_36 : decode M_MO_within.2.1 36 = .ok (.bipush 100, 2) := by decide +kernel
theorem d_MO_within_38 : decode M_MO_within.2.1 38 = .ok (.if_icmp .lt 21, 3) := by decide +kernel
theorem d_MO_within_41 : decode M_MO_within.2.1 41 = .ok (.aload_n 0, 1) := by decide +kernel
theorem d_MO_within_42 : decode M_MO_within.2.1 42 = .ok (.getfield 16, 3) := by decide +kernel
theorem d_MO_within_45 : decode M_MO_within.2.1 45 = .ok (.iload 5, 2) := by decide +kernel
theorem d_MO_within_47 : decode M_MO_within.2.1 47 = .ok (.iaload, 1) := by decide +kernel
theorem d_MO_within_48 : decode M_MO_within.2.1 48 = .ok (.iload_n 3, 1) := by decide +kernel
theorem d_MO_within_49 : decode M_MO_within.2.1 49 = .ok (.bipush 100, 2) := by decide +kernel
theorem d_MO_within_51 : decode M_MO_within.2.1 51 = .ok (.isub, 1) := by decide +kernel
theorem d_MO_within_52 : decode M_MO_within.2.1 52 = .ok (.if_icmp .ne 7, 3) := by decide +kernel
theorem d_MO_within_55 : decode M_MO_within.2.1 55 = .ok (.iconst 1, 1) := by decide +kernel
theorem d_MO_within_56 : decode M_MO_within.2.1 56 = .ok (.goto 4, 3) := by decide +kernel
theorem d_MO_within_59 : decode M_MO_within.2.1 59 = .ok (.iconst 0, 1) := by decide +kernel
theorem d_MO_within_60 : decode M_MO_within.2.1 60 = .ok (.istore 6, 2) := by decide +kernel
theorem d_MO_within_62 : decode M_MO_within.2.1 62 = .ok (.iload 4, 2) := by decide +kernel
theorem d_MO_within_64 : decode M_MO_within.2.1 64 = .ok (.iload 6, 2) := by decide +kernel
theorem d_MO_within_66 : decode M_MO_within.2.1 66 = .ok (.ifCond .eq 22, 3) := by decide +kernel
theorem d_MO_within_69 : decode M_MO_within.2.1 69 = .ok (.aload_n 0, 1) := by decide +kernel
theorem d_MO_within_70 : decode M_MO_within.2.1 70 = .ok (.getfield 7, 3) := by decide +kernel
theorem d_MO_within_73 : decode M_MO_within.2.1 73 = .ok (.iload 5, 2) := by decide +kernel
theorem d_MO_within_75 : decode M_MO_within.2.1 75 = .ok (.iaload, 1) := by decide +kernel
theorem d_MO_within_76 : decode M_MO_within.2.1 76 = .ok (.iload_n 1, 1) := by decide +kernel
theorem d_MO_within_77 : decode M_MO_within.2.1 77 = .ok (.iload_n 2, 1) := by decide +kernel
theorem d_MO_within_78 : decode M_MO_within.2.1 78 = .ok (.invokestatic 76, 3) := by decide +kernel
theorem d_MO_within_81 : decode M_MO_within.2.1 81 = .ok (.ifCond .eq 7, 3) := by decide +kernel
theorem d_MO_within_84 : decode M_MO_within.2.1 84 = .ok (.iconst 1, 1) := by decide +kernel
theorem d_MO_within_85 : decode M_MO_within.2.1 85 = .ok (.goto 4, 3) := by decide +kernel
theorem d_MO_within_88 : decode M_MO_within.2.1 88 = .ok (.iconst 0, 1) := by decide +kernel
theorem d_MO_within_89 : decode M_MO_within.2.1 89 = .ok (.iadd, 1) := by decide +kernel
theorem d_MO_within_90 : decode M_MO_within.2.1 90 = .ok (.istore 4, 2) := by decide +kernel
theorem d_MO_within_92 : decode M_MO_within.2.1 92 = .ok (.iinc 5 1, 3) := by decide +kernel
theorem d_MO_within_95 : decode M_MO_within.2.1 95 = .ok (.goto (-89), 3) := by decide +kernel
theorem d_MO_within_98 : decode M_MO_within.2.1 98 = .ok (.iload 4, 2) := by decide +kernel
theorem d_MO_within_100 : decode M_MO_within.2.1 100 = .ok (.ireturn, 1) := by decide +kernel
theorem d_MO_measureOf_0 : decode M_MO_measureOf.2.1 0 = .ok (.aload_n 0, 1) := by decide +kernel
theorem d_MO_measureOf_1 : decode M_MO_measureOf.2.1 1 = .ok (.getfield 36, 3) := by decide +kernel
theorem d_MO_measureOf_4 : decode M_MO_measureOf.2.1 4 = .ok (.iload_n 1, 1) := by decide +kernel
theorem d_MO_measureOf_5 : decode M_MO_measureOf.2.1 5 = .ok (.iaload, 1) := by decide +kernel
theorem d_MO_measureOf_6 : decode M_MO_measureOf.2.1 6 = .ok (.istore_n 3, 1) := by decide +kernel
theorem d_MO_measureOf_7 : decode M_MO_measureOf.2.1 7 = .ok (.aload_n 0, 1) := by decide +kernel
theorem d_MO_measureOf_8 : decode M_MO_measureOf.2.1 8 = .ok (.getfield 42, 3) := by decide +kernel
theorem d_MO_measureOf_11 : decode M_MO_measureOf.2.1 11 = .ok (.iload_n 1, 1) := by decide +kernel
theorem d_MO_measureOf_12 : decode M_MO_measureOf.2.1 12 = .ok (.iaload, 1) := by decide +kernel
theorem d_MO_measureOf_13 : decode M_MO_measureOf.2.1 13 = .ok (.istore 4, 2) := by decide +kernel
theorem d_MO_measureOf_15 : decode M_MO_measureOf.2.1 15 = .ok (.iload_n 2, 1) := by decide +kernel
theorem d_MO_measureOf_16 : decode M_MO_measureOf.2.1 16 = .ok (.iload 4, 2) := by decide +kernel
theorem d_MO_measureOf_18 : decode M_MO_measureOf.2.1 18 = .ok (.isub, 1) := by decide +kernel
theorem d_MO_measureOf_19 : decode M_MO_measureOf.2.1 19 = .ok (.iconst 1, 1) := by decide +kernel
theorem d_MO_measureOf_20 : decode M_MO_measureOf.2.1 20 = .ok (.iadd, 1) := by decide +kernel
theorem d_MO_measureOf_21 : decode M_MO_measureOf.2.1 21 = .ok (.istore 5, 2) := by decide +kernel
theorem d_MO_measureOf_23 : decode M_MO_measureOf.2.1 23 = .ok (.iload_n 3, 1) := by decide +kernel
theorem d_MO_measureOf_24 : decode M_MO_measureOf.2.1 24 = .ok (.iconst 4, 1) := by decide +kernel
theorem d_MO_measureOf_25 : decode M_MO_measureOf.2.1 25 = .ok (.if_icmp .ge 12, 3) := by decide +kernel
theorem d_MO_measureOf_28 : decode M_MO_measureOf.2.1 28 = .ok (.aload_n 0, 1) := by decide +kernel
theorem d_MO_measureOf_29 : decode M_MO_measureOf.2.1 29 = .ok (.iload 5, 2) := by decide +kernel
theorem d_MO_measureOf_31 : decode M_MO_measureOf.2.1 31 = .ok (.iload_n 2, 1) := by decide +kernel
theorem d_MO_measureOf_32 : decode M_MO_measureOf.2.1 32 = .ok (.iload_n 3, 1) := by decide +kernel
theorem d_MO_measureOf_33 : decode M_MO_measureOf.2.1 33 = .ok (.invokevirtual 126, 3) := by decide +kernel
theorem d_MO_measureOf_36 : decode M_MO_measureOf.2.1 36 = .ok (.ireturn, 1) := by decide +kernel
theorem d_MO_measureOf_37 : decode M_MO_measureOf.2.1 37 = .ok (.iconst 0, 1) := by decide +kernel
theorem d_MO_measureOf_38 : decode M_MO_measureOf.2.1 38 = .ok (.istore 6, 2) := by decide +kernel
theorem d_MO_measureOf_40 : decode M_MO_measureOf.2.1 40 = .ok (.iload_n 3, 1) := by decide +kernel
theorem d_MO_measureOf_41 : decode M_MO_measureOf.2.1 41 = .ok (.iconst 4, 1) := by decide +kernel
theorem d_MO_measureOf_42 : decode M_MO_measureOf.2.1 42 = .ok (.if_icmp .ne 74, 3) := by decide +kernel
theorem d_MO_measureOf_45 : decode M_MO_measureOf.2.1 45 = .ok (.aload_n 0, 1) := by decide +kernel
theorem d_MO_measureOf_46 : decode M_MO_measureOf.2.1 46 = .ok (.invokevirtual 105, 3) := by decide +kernel
theorem d_MO_measureOf_49 : decode M_MO_measureOf.2.1 49 = .ok (.iconst 0, 1) := by decide +kernel
theorem d_MO_measureOf_50 : decode M_MO_measureOf.2.1 50 = .ok (.istore 7, 2) := by decide +kernel
theorem d_MO_measureOf_52 : decode M_MO_measureOf.2.1 52 = .ok (.iload 7, 2) := by decide +kernel
theorem d_MO_measureOf_54 : decode M_MO_measureOf.2.1 54 = .ok (.aload_n 0, 1) := by decide +kernel
theorem d_MO_measureOf_55 : decode M_MO_measureOf.2.1 55 = .ok (.getfield 73, 3) := by decide +kernel
theorem d_MO_measureOf_58 : decode M_MO_measureOf.2.1 58 = .ok (.if_icmp .ge 55, 3) := by decide +kernel
theorem d_MO_measureOf_61 : decode M_MO_measureOf.2.1 61 = .ok (.aload_n 0, 1) := by decide +kernel
theorem d_MO_measureOf_62 : decode M_MO_measureOf.2.1 62 = .ok (.getfield 16, 3) := by decide +kernel
theorem d_MO_measureOf_65 : decode M_MO_measureOf.2.1 65 = .ok (.iload 7, 2) := by decide +kernel
theorem d_MO_measureOf_67 : decode M_MO_measureOf.2.1 67 = .ok (.iaload, 1) := by decide +kernel
theorem d_MO_measureOf_68 : decode M_MO_measureOf.2.1 68 = .ok (.iload 7, 2) := by decide +kernel
theorem d_MO_measureOf_70 : decode M_MO_measureOf.2.1 70 = .ok (.if_icmp .ne 18, 3) := by decide +kernel
theorem d_MO_measureOf_73 : decode M_MO_measureOf.2.1 73 = .ok (.aload_n 0, 1) := by decide +kernel
theorem d_MO_measureOf_74 : decode M_MO_measureOf.2.1 74 = .ok (.iload 5, 2) := by decide +kernel
theorem d_MO_measureOf_76 : decode M_MO_measureOf.2.1 76 = .ok (.iload_n 2, 1) := by decide +kernel
theorem d_MO_measureOf_77 : decode M_MO_measureOf.2.1 77 = .ok (.bipush 100, 2) := by decide +kernel
theorem d_MO_measureOf_79 : decode M_MO_measureOf.2.1 79 = .ok (.iload 7, 2) := by decide +kernel
theorem d_MO_measureOf_81 : decode M_MO_measureOf.2.1 81 = .ok (.iadd, 1) := by decide +kernel
theorem d_MO_measureOf_82 : decode M_MO_measureOf.2.1 82 = .ok (.invokevirtual 126, 3) := by decide +kernel
theorem d_MO_measureOf_85 : decode M_MO_measureOf.2.1 85 = .ok (.goto 4, 3) := by decide +kernel
theorem d_MO_measureOf_88 : decode M_MO_measureOf.2.1 88 = .ok (.iconst 0, 1) := by decide +kernel
theorem d_MO_measureOf_89 : decode M_MO_measureOf.2.1 89 = .ok (.istore 8, 2) := by decide +kernel
theorem d_MO_measureOf_91 : decode M_MO_measureOf.2.1 91 = .ok (.iload 8, 2) := by decide +kernel
theorem d_MO_measureOf_93 : decode M_MO_measureOf.2.1 93 = .ok (.iload 6, 2) := by decide +kernel
theorem d_MO_measureOf_95 : decode M_MO_measureOf.2.1 95 = .ok (.if_icmp .le 8, 3) := by decide +kernel
theorem d_MO_measureOf_98 : decode M_MO_measureOf.2.1 98 = .ok (.iload 8, 2) := by decide +kernel
theorem d_MO_measureOf_100 : decode M_MO_measureOf.2.1 100 = .ok (.goto 5, 3) := by decide +kernel
theorem d_MO_measureOf_103 : decode M_MO_measureOf.2.1 103 = .ok (.iload 6, 2) := by decide +kernel
theorem d_MO_measureOf_105 : decode M_MO_measureOf.2.1 105 = .ok (.istore 6, 2) := by decide +kernel
theorem d_MO_measureOf_107 : decode M_MO_measureOf.2.1 107 = .ok (.iinc 7 1, 3) := by decide +kernel
theorem d_MO_measureOf_110 : decode M_MO_measureOf.2.1 110 = .ok (.goto (-58), 3) := by decide +kernel
theorem d_MO_measureOf_113 : decode M_MO_measureOf.2.1 113 = .ok (.iload 6, 2) := by decide +kernel
theorem d_MO_measureOf_115 : decode M_MO_measureOf.2.1 115 = .ok (.ireturn, 1) := by decide +kernel
theorem d_MO_measureOf_116 : decode M_MO_measureOf.2.1 116 = .ok (.iload_n 3, 1) := by decide +kernel
theorem d_MO_measureOf_117 : decode M_MO_measureOf.2.1 117 = .ok (.iconst 5, 1) := by decide +kernel
theorem d_MO_measureOf_118 : decode M_MO_measureOf.2.1 118 = .ok (.if_icmp .ne 75, 3) := by decide +kernel
theorem d_MO_measureOf_121 : decode M_MO_measureOf.2.1 121 = .ok (.aload_n 0, 1) := by decide +kernel
theorem d_MO_measureOf_122 : decode M_MO_measureOf.2.1 122 = .ok (.iload_n 2, 1) := by decide +kernel
theorem d_MO_measureOf_123 : decode M_MO_measureOf.2.1 123 = .ok (.invokevirtual 116, 3) := by decide +kernel
theorem d_MO_measureOf_126 : decode M_MO_measureOf.2.1 126 = .ok (.istore 7, 2) := by decide +kernel
theorem d_MO_measureOf_128 : decode M_MO_measureOf.2.1 128 = .ok (.iload_n 2, 1) := by decide +kernel
theorem d_MO_measureOf_129 : decode M_MO_measureOf.2.1 129 = .ok (.iload 4, 2) := by decide +kernel
theorem d_MO_measureOf_131 : decode M_MO_measureOf.2.1 131 = .ok (.if_icmp .ge 7, 3) := by decide +kernel
theorem d_MO_measureOf_134 : decode M_MO_measureOf.2.1 134 = .ok (.iconst (-1), 1) := by decide +kernel
theorem d_MO_measureOf_135 : decode M_MO_measureOf.2.1 135 = .ok (.goto 11, 3) := by decide +kernel
theorem d_MO_measureOf_138 : decode M_MO_measureOf.2.1 138 = .ok (.aload_n 0, 1) := by decide +kernel
theorem d_MO_measureOf_139 : decode M_MO_measureOf.2.1 139 = .ok (.iload_n 2, 1) := by decide +kernel
theorem d_MO_measureOf_140 : decode M_MO_measureOf.2.1 140 = .ok (.iload 4, 2) := by decide +kernel
theorem d_MO_measureOf_142 : decode M_MO_measureOf.2.1 142 = .ok (.isub, 1) := by decide +kernel
theorem d_MO_measureOf_143 : decode M_MO_measureOf.2.1 143 = .ok (.invokevirtual 116, 3) := by decide +kernel
theorem d_MO_measureOf_146 : decode M_MO_measureOf.2.1 146 = .ok (.istore 8, 2) := by decide +kernel
theorem d_MO_measureOf_148 : decode M_MO_measureOf.2.1 148 = .ok (.iload 7, 2) := by decide +kernel
theorem d_MO_measureOf_150 : decode M_MO_measureOf.2.1 150 = .ok (.ifCond .lt 8, 3) := by decide +kernel
theorem d_MO_measureOf_153 : decode M_MO_measureOf.2.1 153 = .ok (.iload 8, 2) := by decide +kernel
theorem d_MO_measureOf_155 : decode M_MO_measureOf.2.1 155 = .ok (.ifCond .ge 7, 3) := by decide +kernel
theorem d_MO_measureOf_158 : decode M_MO_measureOf.2.1 158 = .ok (.iconst 0, 1) := by decide +kernel
theorem d_MO_measureOf_159 : decode M_MO_measureOf.2.1 159 = .ok (.goto 18, 3) := by decide +kernel
theorem d_MO_measureOf_162 : decode M_MO_measureOf.2.1 162 = .ok (.aload_n 0, 1) := by decide +kernel
theorem d_MO_measureOf_163 : decode M_MO_measureOf.2.1 163 = .ok (.getfield 27, 3) := by decide +kernel
theorem d_MO_measureOf_166 : decode M_MO_measureOf.2.1 166 = .ok (.iload 7, 2) := by decide +kernel
theorem d_MO_measureOf_168 : decode M_MO_measureOf.2.1 168 = .ok (.iaload, 1) := by decide +kernel
theorem d_MO_measureOf_169 : decode M_MO_measureOf.2.1 169 = .ok (.aload_n 0, 1) := by decide +kernel
theorem d_MO_measureOf_170 : decode M_MO_measureOf.2.1 170 = .ok (.getfield 27, 3) := by decide +kernel
theorem d_MO_measureOf_173 : decode M_MO_measureOf.2.1 173 = .ok (.iload 8, 2) := by decide +kernel
theorem d_MO_measureOf_175 : decode M_MO_measureOf.2.1 175 = .ok (.iaload, 1) := by decide +kernel
theorem d_MO_measureOf_176 : decode M_MO_measureOf.2.1 176 = .ok (.isub, 1) := by decide +kernel
theorem d_MO_measureOf_177 : decode M_MO_measureOf.2.1 177 = .ok (.istore 9, 2) := by decide +kernel
theorem d_MO_measureOf_179 : decode M_MO_measureOf.2.1 179 = .ok (.iload 9, 2) := by decide +kernel
theorem d_MO_measureOf_181 : decode M_MO_measureOf.2.1 181 = .ok (.ifCond .ge 9, 3) := by decide +kernel
theorem d_MO_measureOf_184 : decode M_MO_measureOf.2.1 184 = .ok (.iload 9, 2) := by decide +kernel
theorem d_MO_measureOf_186 : decode M_MO_measureOf.2.1 186 = .ok (.ineg, 1) := by decide +kernel
theorem d_MO_measureOf_187 : decode M_MO_measureOf.2.1 187 = .ok (.goto 5, 3) := by decide +kernel
theorem d_MO_measureOf_190 : decode M_MO_measureOf.2.1 190 = .ok (.iload 9, 2) := by decide +kernel
theorem d_MO_measureOf_192 : decode M_MO_measureOf.2.1 192 = .ok (.ireturn, 1) := by decide +kernel
theorem d_MO_measureOf_193 : decode M_MO_measureOf.2.1 193 = .ok (.iload 5, 2) := by decide +kernel
theorem d_MO_measureOf_195 : decode M_MO_measureOf.2.1 195 = .ok (.ifCond .ge 7, 3) := by decide +kernel
theorem d_MO_measureOf_198 : decode M_MO_measureOf.2.1 198 = .ok (.iconst 0, 1) := by decide +kernel
theorem d_MO_measureOf_199 : decode M_MO_measureOf.2.1 199 = .ok (.goto 5, 3) := by decide +kernel
theorem d_MO_measureOf_202 : decode M_MO_measureOf.2.1 202 = .ok (.iload 5, 2) := by decide +kernel
theorem d_MO_measureOf_204 : decode M_MO_measureOf.2.1 204 = .ok (.istore 7, 2) := by decide +kernel
theorem d_MO_measureOf_206 : decode M_MO_measureOf.2.1 206 = .ok (.iload 7, 2) := by decide +kernel
theorem d_MO_measureOf_208 : decode M_MO_measureOf.2.1 208 = .ok (.iload_n 2, 1) := by decide +kernel
theorem d_MO_measureOf_209 : decode M_MO_measureOf.2.1 209 = .ok (.if_icmp .gt 21, 3) := by decide +kernel
theorem d_MO_measureOf_212 : decode M_MO_measureOf.2.1 212 = .ok (.iload 6, 2) := by decide +kernel
theorem d_MO_measureOf_214 : decode M_MO_measureOf.2.1 214 = .ok (.aload_n 0, 1) := by decide +kernel
theorem d_MO_measureOf_215 : decode M_MO_measureOf.2.1 215 = .ok (.getfield 30, 3) := by decide +kernel
theorem d_MO_measureOf_218 : decode M_MO_measureOf.2.1 218 = .ok (.iload 7, 2) := by decide +kernel
theorem d_MO_measureOf_220 : decode M_MO_measureOf.2.1 220 = .ok (.iaload, 1) := by decide +kernel
theorem d_MO_measureOf_221 : decode M_MO_measureOf.2.1 221 = .ok (.iadd, 1) := by decide +kernel
theorem d_MO_measureOf_222 : decode M_MO_measureOf.2.1 222 = .ok (.istore 6, 2) := by decide +kernel
theorem d_MO_measureOf_224 : decode M_MO_measureOf.2.1 224 = .ok (.iinc 7 1, 3) := by decide +kernel
theorem d_MO_measureOf_227 : decode M_MO_measureOf.2.1 227 = .ok (.goto (-21), 3) := by decide +kernel
theorem d_MO_measureOf_230 : decode M_MO_measureOf.2.1 230 = .ok (.iload 6, 2) := by decide +kernel
theorem d_MO_measureOf_232 : decode M_MO_measureOf.2.1 232 = .ok (.ireturn, 1) := by decide +kernel
theorem d_MO_holdsOn_0 : decode M_MO_holdsOn.2.1 0 = .ok (.aload_n 0, 1) := by decide +kernel
theorem d_MO_holdsOn_1 : decode M_MO_holdsOn.2.1 1 = .ok (.iload_n 1, 1) := by decide +kernel
theorem d_MO_holdsOn_2 : decode M_MO_holdsOn.2.1 2 = .ok (.iload_n 2, 1) := by decide +kernel
theorem d_MO_holdsOn_3 : decode M_MO_holdsOn.2.1 3 = .ok (.invokevirtual 130, 3) := by decide +kernel
theorem d_MO_holdsOn_6 : decode M_MO_holdsOn.2.1 6 = .ok (.aload_n 0, 1) := by decide +kernel
theorem d_MO_holdsOn_7 : decode M_MO_holdsOn.2.1 7 = .ok (.getfield 39, 3) := by decide +kernel
theorem d_MO_holdsOn_10 : decode M_MO_holdsOn.2.1 10 = .ok (.iload_n 1, 1) := by decide +kernel
theorem d_MO_holdsOn_11 : decode M_MO_holdsOn.2.1 11 = .ok (.iaload, 1) := by decide +kernel
theorem d_MO_holdsOn_12 : decode M_MO_holdsOn.2.1 12 = .ok (.if_icmp .lt 7, 3) := by decide +kernel
theorem d_MO_holdsOn_15 : decode M_MO_holdsOn.2.1 15 = .ok (.iconst 1, 1) := by decide +kernel
theorem d_MO_holdsOn_16 : decode M_MO_holdsOn.2.1 16 = .ok (.goto 4, 3) := by decide +kernel
theorem d_MO_holdsOn_19 : decode M_MO_holdsOn.2.1 19 = .ok (.iconst 0, 1) := by decide +kernel
theorem d_MO_holdsOn_20 : decode M_MO_holdsOn.2.1 20 = .ok (.ireturn, 1) := by decide +kernel
theorem d_MO_measure_0 : decode M_MO_measure.2.1 0 = .ok (.aload_n 0, 1) := by decide +kernel
theorem d_MO_measure_1 : decode M_MO_measure.2.1 1 = .ok (.iload_n 1, 1) := by decide +kernel
theorem d_MO_measure_2 : decode M_MO_measure.2.1 2 = .ok (.invokevirtual 123, 3) := by decide +kernel
theorem d_MO_measure_5 : decode M_MO_measure.2.1 5 = .ok (.ifCond .eq 20, 3) := by decide +kernel
theorem d_MO_measure_8 : decode M_MO_measure.2.1 8 = .ok (.aload_n 0, 1) := by decide +kernel
theorem d_MO_measure_9 : decode M_MO_measure.2.1 9 = .ok (.iload_n 2, 1) := by decide +kernel
theorem d_MO_measure_10 : decode M_MO_measure.2.1 10 = .ok (.invokevirtual 112, 3) := by decide +kernel
theorem d_MO_measure_13 : decode M_MO_measure.2.1 13 = .ok (.ifCond .eq 12, 3) := by decide +kernel
theorem d_MO_measure_16 : decode M_MO_measure.2.1 16 = .ok (.aload_n 0, 1) := by decide +kernel
theorem d_MO_measure_17 : decode M_MO_measure.2.1 17 = .ok (.iload_n 1, 1) := by decide +kernel
theorem d_MO_measure_18 : decode M_MO_measure.2.1 18 = .ok (.iload_n 2, 1) := by decide +kernel
theorem d_MO_measure_19 : decode M_MO_measure.2.1 19 = .ok (.invokevirtual 130, 3) := by decide +kernel
theorem d_MO_measure_22 : decode M_MO_measure.2.1 22 = .ok (.goto 4, 3) := by decide +kernel
theorem d_MO_measure_25 : decode M_MO_measure.2.1 25 = .ok (.iconst (-1), 1) := by decide +kernel
theorem d_MO_measure_26 : decode M_MO_measure.2.1 26 = .ok (.ireturn, 1) := by decide +kernel
theorem d_MO_isTrue_0 : decode M_MO_isTrue.2.1 0 = .ok (.aload_n 0, 1) := by decide +kernel
theorem d_MO_isTrue_1 : decode M_MO_isTrue.2.1 1 = .ok (.iload_n 1, 1) := by decide +kernel
theorem d_MO_isTrue_2 : decode M_MO_isTrue.2.1 2 = .ok (.invokevirtual 123, 3) := by decide +kernel
theorem d_MO_isTrue_5 : decode M_MO_isTrue.2.1 5 = .ok (.ifCond .eq 28, 3) := by decide +kernel
theorem d_MO_isTrue_8 : decode M_MO_isTrue.2.1 8 = .ok (.aload_n 0, 1) := by decide +kernel
theorem d_MO_isTrue_9 : decode M_MO_isTrue.2.1 9 = .ok (.iload_n 2, 1) := by decide +kernel
theorem d_MO_isTrue_10 : decode M_MO_isTrue.2.1 10 = .ok (.invokevirtual 112, 3) := by decide +kernel
theorem d_MO_isTrue_13 : decode M_MO_isTrue.2.1 13 = .ok (.ifCond .eq 20, 3) := by decide +kernel
theorem d_MO_isTrue_16 : decode M_MO_isTrue.2.1 16 = .ok (.aload_n 0, 1) := by decide +kernel
theorem d_MO_isTrue_17 : decode M_MO_isTrue.2.1 17 = .ok (.iload_n 1, 1) := by decide +kernel
theorem d_MO_isTrue_18 : decode M_MO_isTrue.2.1 18 = .ok (.iload_n 2, 1) := by decide +kernel
theorem d_MO_isTrue_19 : decode M_MO_isTrue.2.1 19 = .ok (.invokevirtual 134, 3) := by decide +kernel
theorem d_MO_isTrue_22 : decode M_MO_isTrue.2.1 22 = .ok (.ifCond .eq 7, 3) := by decide +kernel
theorem d_MO_isTrue_25 : decode M_MO_isTrue.2.1 25 = .ok (.iconst 1, 1) := by decide +kernel
theorem d_MO_isTrue_26 : decode M_MO_isTrue.2.1 26 = .ok (.goto 8, 3) := by decide +kernel
theorem d_MO_isTrue_29 : decode M_MO_isTrue.2.1 29 = .ok (.iconst 0, 1) := by decide +kernel
theorem d_MO_isTrue_30 : decode M_MO_isTrue.2.1 30 = .ok (.goto 4, 3) := by decide +kernel
theorem d_MO_isTrue_33 : decode M_MO_isTrue.2.1 33 = .ok (.iconst (-1), 1) := by decide +kernel
theorem d_MO_isTrue_34 : decode M_MO_isTrue.2.1 34 = .ok (.ireturn, 1) := by decide +kernel
theorem d_MO_rest_0 : decode M_MO_rest.2.1 0 = .ok (.iload_n 1, 1) := by decide +kernel
theorem d_MO_rest_1 : decode M_MO_rest.2.1 1 = .ok (.iconst 1, 1) := by decide +kernel
theorem d_MO_rest_2 : decode M_MO_rest.2.1 2 = .ok (.bipush 30, 2) := by decide +kernel
theorem d_MO_rest_4 : decode M_MO_rest.2.1 4 = .ok (.invokestatic 76, 3) := by decide +kernel
theorem d_MO_rest_7 : decode M_MO_rest.2.1 7 = .ok (.ifCond .ne 6, 3) := by decide +kernel
theorem d_MO_rest_10 : decode M_MO_rest.2.1 10 = .ok (.bipush (-2), 2) := by decide +kernel
theorem d_MO_rest_12 : decode M_MO_rest.2.1 12 = .ok (.ireturn, 1) := by decide +kernel
theorem d_MO_rest_13 : decode M_MO_rest.2.1 13 = .ok (.aload_n 0, 1) := by decide +kernel
theorem d_MO_rest_14 : decode M_MO_rest.2.1 14 = .ok (.getfield 45, 3) := by decide +kernel
theorem d_MO_rest_17 : decode M_MO_rest.2.1 17 = .ok (.istore_n 2, 1) := by decide +kernel
theorem d_MO_rest_18 : decode M_MO_rest.2.1 18 = .ok (.aload_n 0, 1) := by decide +kernel
theorem d_MO_rest_19 : decode M_MO_rest.2.1 19 = .ok (.iload_n 1, 1) := by decide +kernel
theorem d_MO_rest_20 : decode M_MO_rest.2.1 20 = .ok (.putfield 45, 3) := by decide +kernel
theorem d_MO_rest_23 : decode M_MO_rest.2.1 23 = .ok (.iload_n 2, 1) := by decide +kernel
theorem d_MO_rest_24 : decode M_MO_rest.2.1 24 = .ok (.ireturn, 1) := by decide +kernel
theorem d_MO_holdNow_0 : decode M_MO_holdNow.2.1 0 = .ok (.aload_n 0, 1) := by decide +kernel
theorem d_MO_holdNow_1 : decode M_MO_holdNow.2.1 1 = .ok (.getfield 84, 3) := by decide +kernel
theorem d_MO_holdNow_4 : decode M_MO_holdNow.2.1 4 = .ok (.aload_n 0, 1) := by decide +kernel
theorem d_MO_holdNow_5 : decode M_MO_holdNow.2.1 5 = .ok (.getfield 137, 3) := by decide +kernel
theorem d_MO_holdNow_8 : decode M_MO_holdNow.2.1 8 = .ok (.if_icmp .ge 10, 3) := by decide +kernel
theorem d_MO_holdNow_11 : decode M_MO_holdNow.2.1 11 = .ok (.aload_n 0, 1) := by decide +kernel
theorem d_MO_holdNow_12 : decode M_MO_holdNow.2.1 12 = .ok (.getfield 140, 3) := by decide +kernel
theorem d_MO_holdNow_15 : decode M_MO_holdNow.2.1 15 = .ok (.goto 4, 3) := by decide +kernel
theorem d_MO_holdNow_18 : decode M_MO_holdNow.2.1 18 = .ok (.iconst 0, 1) := by decide +kernel
theorem d_MO_holdNow_19 : decode M_MO_holdNow.2.1 19 = .ok (.ireturn, 1) := by decide +kernel
theorem d_MO_wanted_0 : decode M_MO_wanted.2.1 0 = .ok (.aload_n 0, 1) := by decide +kernel
theorem d_MO_wanted_1 : decode M_MO_wanted.2.1 1 = .ok (.invokevirtual 143, 3) := by decide +kernel
theorem d_MO_wanted_4 : decode M_MO_wanted.2.1 4 = .ok (.istore_n 1, 1) := by decide +kernel
theorem d_MO_wanted_5 : decode M_MO_wanted.2.1 5 = .ok (.iconst 0, 1) := by decide +kernel
theorem d_MO_wanted_6 : decode M_MO_wanted.2.1 6 = .ok (.istore_n 2, 1) := by decide +kernel
theorem d_MO_wanted_7 : decode M_MO_wanted.2.1 7 = .ok (.iload_n 2, 1) := by decide +kernel
theorem d_MO_wanted_8 : decode M_MO_wanted.2.1 8 = .ok (.aload_n 0, 1) := by decide +kernel
theorem d_MO_wanted_9 : decode M_MO_wanted.2.1 9 = .ok (.getfield 120, 3) := by decide +kernel
theorem d_MO_wanted_12 : decode M_MO_wanted.2.1 12 = .ok (.if_icmp .ge 42, 3) := by decide +kernel
theorem d_MO_wanted_15 : decode M_MO_wanted.2.1 15 = .ok (.aload_n 0, 1) := by decide +kernel
theorem d_MO_wanted_16 : decode M_MO_wanted.2.1 16 = .ok (.getfield 33, 3) := by decide +kernel
theorem d_MO_wanted_19 : decode M_MO_wanted.2.1 19 = .ok (.iload_n 2, 1) := by decide +kernel
theorem d_MO_wanted_20 : decode M_MO_wanted.2.1 20 = .ok (.iaload, 1) := by decide +kernel
theorem d_MO_wanted_21 : decode M_MO_wanted.2.1 21 = .ok (.iload_n 1, 1) := by decide +kernel
theorem d_MO_wanted_22 : decode M_MO_wanted.2.1 22 = .ok (.if_icmp .le 24, 3) := by decide +kernel
theorem d_MO_wanted_25 : decode M_MO_wanted.2.1 25 = .ok (.aload_n 0, 1) := by decide +kernel
theorem d_MO_wanted_26 : decode M_MO_wanted.2.1 26 = .ok (.iload_n 2, 1) := by decide +kernel
theorem d_MO_wanted_27 : decode M_MO_wanted.2.1 27 = .ok (.aload_n 0, 1) := by decide +kernel
theorem d_MO_wanted_28 : decode M_MO_wanted.2.1 28 = .ok (.getfield 84, 3) := by decide +kernel
theorem d_MO_wanted_31 : decode M_MO_wanted.2.1 31 = .ok (.invokevirtual 134, 3) := by decide +kernel
theorem d_MO_wanted_34 : decode M_MO_wanted.2.1 34 = .ok (.ifCond .eq 12, 3) := by decide +kernel
theorem d_MO_wanted_37 : decode M_MO_wanted.2.1 37 = .ok (.aload_n 0, 1) := by decide +kernel
theorem d_MO_wanted_38 : decode M_MO_wanted.2.1 38 = .ok (.getfield 33, 3) := by decide +kernel
theorem d_MO_wanted_41 : decode M_MO_wanted.2.1 41 = .ok (.iload_n 2, 1) := by decide +kernel
theorem d_MO_wanted_42 : decode M_MO_wanted.2.1 42 = .ok (.iaload, 1) := by decide +kernel
theorem d_MO_wanted_43 : decode M_MO_wanted.2.1 43 = .ok (.goto 4, 3) := by decide +kernel
theorem d_MO_wanted_46 : decode M_MO_wanted.2.1 46 = .ok (.iload_n 1, 1) := by decide +kernel
theorem d_MO_wanted_47 : decode M_MO_wanted.2.1 47 = .ok (.istore_n 1, 1) := by decide +kernel
theorem d_MO_wanted_48 : decode M_MO_wanted.2.1 48 = .ok (.iinc 2 1, 3) := by decide +kernel
theorem d_MO_wanted_51 : decode M_MO_wanted.2.1 51 = .ok (.goto (-44), 3) := by decide +kernel
theorem d_MO_wanted_54 : decode M_MO_wanted.2.1 54 = .ok (.iload_n 1, 1) := by decide +kernel
theorem d_MO_wanted_55 : decode M_MO_wanted.2.1 55 = .ok (.ireturn, 1) := by decide +kernel
theorem d_MO_tells_0 : decode M_MO_tells.2.1 0 = .ok (.aload_n 0, 1) := by decide +kernel
theorem d_MO_tells_1 : decode M_MO_tells.2.1 1 = .ok (.getfield 147, 3) := by decide +kernel
theorem d_MO_tells_4 : decode M_MO_tells.2.1 4 = .ok (.sipush 200, 3) := by decide +kernel
theorem d_MO_tells_7 : decode M_MO_tells.2.1 7 = .ok (.if_icmp .ge 85, 3) := by decide +kernel
theorem d_MO_tells_10 : decode M_MO_tells.2.1 10 = .ok (.aload_n 0, 1) := by decide +kernel
theorem d_MO_tells_11 : decode M_MO_tells.2.1 11 = .ok (.getfield 48, 3) := by decide +kernel
theorem d_MO_tells_14 : decode M_MO_tells.2.1 14 = .ok (.iconst 5, 1) := by decide +kernel
theorem d_MO_tells_15 : decode M_MO_tells.2.1 15 = .ok (.aload_n 0, 1) := by decide +kernel
theorem d_MO_tells_16 : decode M_MO_tells.2.1 16 = .ok (.getfield 147, 3) := by decide +kernel
theorem d_MO_tells_19 : decode M_MO_tells.2.1 19 = .ok (.imul, 1) := by decide +kernel
theorem d_MO_tells_20 : decode M_MO_tells.2.1 20 = .ok (.iload_n 1, 1) := by decide +kernel
theorem d_MO_tells_21 : decode M_MO_tells.2.1 21 = .ok (.iastore, 1) := by decide +kernel
theorem d_MO_tells_22 : decode M_MO_tells.2.1 22 = .ok (.aload_n 0, 1) := by decide +kernel
theorem d_MO_tells_23 : decode M_MO_tells.2.1 23 = .ok (.getfield 48, 3) := by decide +kernel
theorem d_MO_tells_26 : decode M_MO_tells.2.1 26 = .ok (.iconst 5, 1) := by decide +kernel
theorem d_MO_tells_27 : decode M_MO_tells.2.1 27 = .ok (.aload_n 0, 1) := by decide +kernel
theorem d_MO_tells_28 : decode M_MO_tells.2.1 28 = .ok (.getfield 147, 3) := by decide +kernel
theorem d_MO_tells_31 : decode M_MO_tells.2.1 31 = .ok (.imul, 1) := by decide +kernel
theorem d_MO_tells_32 : decode M_MO_tells.2.1 32 = .ok (.iconst 1, 1) := by decide +kernel
theorem d_MO_tells_33 : decode M_MO_tells.2.1 33 = .ok (.iadd, 1) := by decide +kernel
theorem d_MO_tells_34 : decode M_MO_tells.2.1 34 = .ok (.iload_n 2, 1) := by decide +kernel
theorem d_MO_tells_35 : decode M_MO_tells.2.1 35 = .ok (.iastore, 1) := by decide +kernel
theorem d_MO_tells_36 : decode M_MO_tells.2.1 36 = .ok (.aload_n 0, 1) := by decide +kernel
theorem d_MO_tells_37 : decode M_MO_tells.2.1 37 = .ok (.getfield 48, 3) := by decide +kernel
theorem d_MO_tells_40 : decode M_MO_tells.2.1 40 = .ok (.iconst 5, 1) := by decide +kernel
theorem d_MO_tells_41 : decode M_MO_tells.2.1 41 = .ok (.aload_n 0, 1) := by decide +kernel
theorem d_MO_tells_42 : decode M_MO_tells.2.1 42 = .ok (.getfield 147, 3) := by decide +kernel
theorem d_MO_tells_45 : decode M_MO_tells.2.1 45 = .ok (.imul, 1) := by decide +kernel
theorem d_MO_tells_46 : decode M_MO_tells.2.1 46 = .ok (.iconst 2, 1) := by decide +kernel
theorem d_MO_tells_47 : decode M_MO_tells.2.1 47 = .ok (.iadd, 1) := by decide +kernel
theorem d_MO_tells_48 : decode M_MO_tells.2.1 48 = .ok (.aload_n 0, 1) := by decide +kernel
theorem d_MO_tells_49 : decode M_MO_tells.2.1 49 = .ok (.getfield 84, 3) := by decide +kernel
theorem d_MO_tells_52 : decode M_MO_tells.2.1 52 = .ok (.iastore, 1) := by decide +kernel
theorem d_MO_tells_53 : decode M_MO_tells.2.1 53 = .ok (.aload_n 0, 1) := by decide +kernel
theorem d_MO_tells_54 : decode M_MO_tells.2.1 54 = .ok (.getfield 48, 3) := by decide +kernel
theorem d_MO_tells_57 : decode M_MO_tells.2.1 57 = .ok (.iconst 5, 1) := by decide +kernel
theorem d_MO_tells_58 : decode M_MO_tells.2.1 58 = .ok (.aload_n 0, 1) := by decide +kernel
theorem d_MO_tells_59 : decode M_MO_tells.2.1 59 = .ok (.getfield 147, 3) := by decide +kernel
theorem d_MO_tells_62 : decode M_MO_tells.2.1 62 = .ok (.imul, 1) := by decide +kernel
theorem d_MO_tells_63 : decode M_MO_tells.2.1 63 = .ok (.iconst 3, 1) := by decide +kernel
theorem d_MO_tells_64 : decode M_MO_tells.2.1 64 = .ok (.iadd, 1) := by decide +kernel
theorem d_MO_tells_65 : decode M_MO_tells.2.1 65 = .ok (.iload_n 3, 1) := by decide +kernel
theorem d_MO_tells_66 : decode M_MO_tells.2.1 66 = .ok (.iastore, 1) := by decide +kernel
theorem d_MO_tells_67 : decode M_MO_tells.2.1 67 = .ok (.aload_n 0, 1) := by decide +kernel
theorem d_MO_tells_68 : decode M_MO_tells.2.1 68 = .ok (.getfield 48, 3) := by decide +kernel
theorem d_MO_tells_71 : decode M_MO_tells.2.1 71 = .ok (.iconst 5, 1) := by decide +kernel
theorem d_MO_tells_72 : decode M_MO_tells.2.1 72 = .ok (.aload_n 0, 1) := by decide +kernel
theorem d_MO_tells_73 : decode M_MO_tells.2.1 73 = .ok (.getfield 147, 3) := by decide +kernel
theorem d_MO_tells_76 : decode M_MO_tells.2.1 76 = .ok (.imul, 1) := by decide +kernel
theorem d_MO_tells_77 : decode M_MO_tells.2.1 77 = .ok (.iconst 4, 1) := by decide +kernel
theorem d_MO_tells_78 : decode M_MO_tells.2.1 78 = .ok (.iadd, 1) := by decide +kernel
theorem d_MO_tells_79 : decode M_MO_tells.2.1 79 = .ok (.iload 4, 2) := by decide +kernel
theorem d_MO_tells_81 : decode M_MO_tells.2.1 81 = .ok (.iastore, 1) := by decide +kernel
theorem d_MO_tells_82 : decode M_MO_tells.2.1 82 = .ok (.aload_n 0, 1) := by decide +kernel
theorem d_MO_tells_83 : decode M_MO_tells.2.1 83 = .ok (.dup, 1) := by decide +kernel
theorem d_MO_tells_84 : decode M_MO_tells.2.1 84 = .ok (.getfield 147, 3) := by decide +kernel
theorem d_MO_tells_87 : decode M_MO_tells.2.1 87 = .ok (.iconst 1, 1) := by decide +kernel
theorem d_MO_tells_88 : decode M_MO_tells.2.1 88 = .ok (.iadd, 1) := by decide +kernel
theorem d_MO_tells_89 : decode M_MO_tells.2.1 89 = .ok (.putfield 147, 3) := by decide +kernel
theorem d_MO_tells_92 : decode M_MO_tells.2.1 92 = .ok (.return_, 1) := by decide +kernel
theorem d_MO_turns_0 : decode M_MO_turns.2.1 0 = .ok (.aload_n 0, 1) := by decide +kernel
theorem d_MO_turns_1 : decode M_MO_turns.2.1 1 = .ok (.iload_n 1, 1) := by decide +kernel
theorem d_MO_turns_2 : decode M_MO_turns.2.1 2 = .ok (.putfield 150, 3) := by decide +kernel
theorem d_MO_turns_5 : decode M_MO_turns.2.1 5 = .ok (.aload_n 0, 1) := by decide +kernel
theorem d_MO_turns_6 : decode M_MO_turns.2.1 6 = .ok (.iconst 0, 1) := by decide +kernel
theorem d_MO_turns_7 : decode M_MO_turns.2.1 7 = .ok (.putfield 153, 3) := by decide +kernel
theorem d_MO_turns_10 : decode M_MO_turns.2.1 10 = .ok (.aload_n 0, 1) := by decide +kernel
theorem d_MO_turns_11 : decode M_MO_turns.2.1 11 = .ok (.dup, 1) := by decide +kernel
theorem d_MO_turns_12 : decode M_MO_turns.2.1 12 = .ok (.getfield 156, 3) := by decide +kernel
theorem d_MO_turns_15 : decode M_MO_turns.2.1 15 = .ok (.iconst 1, 1) := by decide +kernel
theorem d_MO_turns_16 : decode M_MO_turns.2.1 16 = .ok (.iadd, 1) := by decide +kernel
theorem d_MO_turns_17 : decode M_MO_turns.2.1 17 = .ok (.putfield 156, 3) := by decide +kernel
theorem d_MO_turns_20 : decode M_MO_turns.2.1 20 = .ok (.aload_n 0, 1) := by decide +kernel
theorem d_MO_turns_21 : decode M_MO_turns.2.1 21 = .ok (.iconst 0, 1) := by decide +kernel
theorem d_MO_turns_22 : decode M_MO_turns.2.1 22 = .ok (.aload_n 0, 1) := by decide +kernel
theorem d_MO_turns_23 : decode M_MO_turns.2.1 23 = .ok (.getfield 156, 3) := by decide +kernel
theorem d_MO_turns_26 : decode M_MO_turns.2.1 26 = .ok (.iload_n 1, 1) := by decide +kernel
theorem d_MO_turns_27 : decode M_MO_turns.2.1 27 = .ok (.iload_n 2, 1) := by decide +kernel
theorem d_MO_turns_28 : decode M_MO_turns.2.1 28 = .ok (.invokevirtual 159, 3) := by decide +kernel
theorem d_MO_turns_31 : decode M_MO_turns.2.1 31 = .ok (.aload_n 0, 1) := by decide +kernel
theorem d_MO_turns_32 : decode M_MO_turns.2.1 32 = .ok (.getfield 156, 3) := by decide +kernel
theorem d_MO_turns_35 : decode M_MO_turns.2.1 35 = .ok (.ireturn, 1) := by decide +kernel
theorem d_MO_next_0 : decode M_MO_next.2.1 0 = .ok (.aload_n 0, 1) := by decide +kernel
theorem d_MO_next_1 : decode M_MO_next.2.1 1 = .ok (.getfield 84, 3) := by decide +kernel
theorem d_MO_next_4 : decode M_MO_next.2.1 4 = .ok (.sipush 999, 3) := by decide +kernel
theorem d_MO_next_7 : decode M_MO_next.2.1 7 = .ok (.if_icmp .ne 6, 3) := by decide +kernel
theorem d_MO_next_10 : decode M_MO_next.2.1 10 = .ok (.bipush (-3), 2) := by decide +kernel
theorem d_MO_next_12 : decode M_MO_next.2.1 12 = .ok (.ireturn, 1) := by decide +kernel
theorem d_MO_next_13 : decode M_MO_next.2.1 13 = .ok (.aload_n 0, 1) := by decide +kernel
theorem d_MO_next_14 : decode M_MO_next.2.1 14 = .ok (.invokevirtual 163, 3) := by decide +kernel
theorem d_MO_next_17 : decode M_MO_next.2.1 17 = .ok (.istore_n 1, 1) := by decide +kernel
theorem d_MO_next_18 : decode M_MO_next.2.1 18 = .ok (.iload_n 1, 1) := by decide +kernel
theorem d_MO_next_19 : decode M_MO_next.2.1 19 = .ok (.aload_n 0, 1) := by decide +kernel
theorem d_MO_next_20 : decode M_MO_next.2.1 20 = .ok (.getfield 150, 3) := by decide +kernel
theorem d_MO_next_23 : decode M_MO_next.2.1 23 = .ok (.if_icmp .le 61, 3) := by decide +kernel
theorem d_MO_next_26 : decode M_MO_next.2.1 26 = .ok (.bipush 20, 2) := by decide +kernel
theorem d_MO_next_28 : decode M_MO_next.2.1 28 = .ok (.istore_n 2, 1) := by decide +kernel
theorem d_MO_next_29 : decode M_MO_next.2.1 29 = .ok (.aload_n 0, 1) := by decide +kernel
theorem d_MO_next_30 : decode M_MO_next.2.1 30 = .ok (.getfield 120, 3) := by decide +kernel
theorem d_MO_next_33 : decode M_MO_next.2.1 33 = .ok (.iconst 1, 1) := by decide +kernel
theorem d_MO_next_34 : decode M_MO_next.2.1 34 = .ok (.isub, 1) := by decide +kernel
theorem d_MO_next_35 : decode M_MO_next.2.1 35 = .ok (.istore_n 3, 1) := by decide +kernel
theorem d_MO_next_36 : decode M_MO_next.2.1 36 = .ok (.iload_n 3, 1) := by decide +kernel
theorem d_MO_next_37 : decode M_MO_next.2.1 37 = .ok (.ifCond .lt 37, 3) := by decide +kernel
theorem d_MO_next_40 : decode M_MO_next.2.1 40 = .ok (.aload_n 0, 1) := by decide +kernel
theorem d_MO_next_41 : decode M_MO_next.2.1 41 = .ok (.getfield 33, 3) := by decide +kernel
theorem d_MO_next_44 : decode M_MO_next.2.1 44 = .ok (.iload_n 3, 1) := by decide +kernel
theorem d_MO_next_45 : decode M_MO_next.2.1 45 = .ok (.iaload, 1) := by decide +kernel
theorem d_MO_next_46 : decode M_MO_next.2.1 46 = .ok (.iload_n 1, 1) := by decide +kernel
theorem d_MO_next_47 : decode M_MO_next.2.1 47 = .ok (.if_icmp .ne 19, 3) := by decide +kernel
theorem d_MO_next_50 : decode M_MO_next.2.1 50 = .ok (.aload_n 0, 1) := by decide +kernel
theorem d_MO_next_51 : decode M_MO_next.2.1 51 = .ok (.iload_n 3, 1) := by decide +kernel
theorem d_MO_next_52 : decode M_MO_next.2.1 52 = .ok (.aload_n 0, 1) := by decide +kernel
theorem d_MO_next_53 : decode M_MO_next.2.1 53 = .ok (.getfield 84, 3) := by decide +kernel
theorem d_MO_next_56 : decode M_MO_next.2.1 56 = .ok (.invokevirtual 134, 3) := by decide +kernel
theorem d_MO_next_59 : decode M_MO_next.2.1 59 = .ok (.ifCond .eq 7, 3) := by decide +kernel
theorem d_MO_next_62 : decode M_MO_next.2.1 62 = .ok (.iload_n 3, 1) := by decide +kernel
theorem d_MO_next_63 : decode M_MO_next.2.1 63 = .ok (.goto 4, 3) := by decide +kernel
theorem d_MO_next_66 : decode M_MO_next.2.1 66 = .ok (.iload_n 2, 1) := by decide +kernel
theorem d_MO_next_67 : decode M_MO_next.2.1 67 = .ok (.istore_n 2, 1) := by decide +kernel
theorem d_MO_next_68 : decode M_MO_next.2.1 68 = .ok (.iinc 3 (-1), 3) := by decide +kernel
theorem d_MO_next_71 : decode M_MO_next.2.1 71 = .ok (.goto (-35), 3) := by decide +kernel
theorem d_MO_next_74 : decode M_MO_next.2.1 74 = .ok (.aload_n 0, 1) := by decide +kernel
theorem d_MO_next_75 : decode M_MO_next.2.1 75 = .ok (.iload_n 1, 1) := by decide +kernel
theorem d_MO_next_76 : decode M_MO_next.2.1 76 = .ok (.iload_n 2, 1) := by decide +kernel
theorem d_MO_next_77 : decode M_MO_next.2.1 77 = .ok (.invokevirtual 166, 3) := by decide +kernel
theorem d_MO_next_80 : decode M_MO_next.2.1 80 = .ok (.istore_n 3, 1) := by decide +kernel
theorem d_MO_next_81 : decode M_MO_next.2.1 81 = .ok (.goto 56, 3) := by decide +kernel
theorem d_MO_next_84 : decode M_MO_next.2.1 84 = .ok (.aload_n 0, 1) := by decide +kernel
theorem d_MO_next_85 : decode M_MO_next.2.1 85 = .ok (.iload_n 1, 1) := by decide +kernel
theorem d_MO_next_86 : decode M_MO_next.2.1 86 = .ok (.aload_n 0, 1) := by decide +kernel
theorem d_MO_next_87 : decode M_MO_next.2.1 87 = .ok (.getfield 150, 3) := by decide +kernel
theorem d_MO_next_90 : decode M_MO_next.2.1 90 = .ok (.if_icmp .ge 12, 3) := by decide +kernel
theorem d_MO_next_93 : decode M_MO_next.2.1 93 = .ok (.aload_n 0, 1) := by decide +kernel
theorem d_MO_next_94 : decode M_MO_next.2.1 94 = .ok (.getfield 153, 3) := by decide +kernel
theorem d_MO_next_97 : decode M_MO_next.2.1 97 = .ok (.iconst 1, 1) := by decide +kernel
theorem d_MO_next_98 : decode M_MO_next.2.1 98 = .ok (.iadd, 1) := by decide +kernel
theorem d_MO_next_99 : decode M_MO_next.2.1 99 = .ok (.goto 4, 3) := by decide +kernel
theorem d_MO_next_102 : decode M_MO_next.2.1 102 = .ok (.iconst 0, 1) := by decide +kernel
theorem d_MO_next_103 : decode M_MO_next.2.1 103 = .ok (.putfield 153, 3) := by decide +kernel
theorem d_MO_next_106 : decode M_MO_next.2.1 106 = .ok (.aload_n 0, 1) := by decide +kernel
theorem d_MO_next_107 : decode M_MO_next.2.1 107 = .ok (.getfield 153, 3) := by decide +kernel
theorem d_MO_next_110 : decode M_MO_next.2.1 110 = .ok (.aload_n 0, 1) := by decide +kernel
theorem d_MO_next_111 : decode M_MO_next.2.1 111 = .ok (.getfield 45, 3) := by decide +kernel
theorem d_MO_next_114 : decode M_MO_next.2.1 114 = .ok (.if_icmp .lt 23, 3) := by decide +kernel
theorem d_MO_next_117 : decode M_MO_next.2.1 117 = .ok (.aload_n 0, 1) := by decide +kernel
theorem d_MO_next_118 : decode M_MO_next.2.1 118 = .ok (.getfield 150, 3) := by decide +kernel
theorem d_MO_next_121 : decode M_MO_next.2.1 121 = .ok (.ifCond .le 16, 3) := by decide +kernel
theorem d_MO_next_124 : decode M_MO_next.2.1 124 = .ok (.aload_n 0, 1) := by decide +kernel
theorem d_MO_next_125 : decode M_MO_next.2.1 125 = .ok (.aload_n 0, 1) := by decide +kernel
theorem d_MO_next_126 : decode M_MO_next.2.1 126 = .ok (.getfield 150, 3) := by decide +kernel
theorem d_MO_next_129 : decode M_MO_next.2.1 129 = .ok (.iconst 1, 1) := by decide +kernel
theorem d_MO_next_130 : decode M_MO_next.2.1 130 = .ok (.isub, 1) := by decide +kernel
theorem d_MO_next_131 : decode M_MO_next.2.1 131 = .ok (.bipush 21, 2) := by decide +kernel
theorem d_MO_next_133 : decode M_MO_next.2.1 133 = .ok (.invokevirtual 166, 3) := by decide +kernel
theorem d_MO_next_136 : decode M_MO_next.2.1 136 = .ok (.istore_n 2, 1) := by decide +kernel
theorem d_MO_next_137 : decode M_MO_next.2.1 137 = .ok (.aload_n 0, 1) := by decide +kernel
theorem d_MO_next_138 : decode M_MO_next.2.1 138 = .ok (.dup, 1) := by decide +kernel
theorem d_MO_next_139 : decode M_MO_next.2.1 139 = .ok (.getfield 84, 3) := by decide +kernel
theorem d_MO_next_142 : decode M_MO_next.2.1 142 = .ok (.iconst 1, 1) := by decide +kernel
theorem d_MO_next_143 : decode M_MO_next.2.1 143 = .ok (.iadd, 1) := by decide +kernel
theorem d_MO_next_144 : decode M_MO_next.2.1 144 = .ok (.putfield 84, 3) := by decide +kernel
theorem d_MO_next_147 : decode M_MO_next.2.1 147 = .ok (.aload_n 0, 1) := by decide +kernel
theorem d_MO_next_148 : decode M_MO_next.2.1 148 = .ok (.getfield 150, 3) := by decide +kernel
theorem d_MO_next_151 : decode M_MO_next.2.1 151 = .ok (.ireturn, 1) := by decide +kernel
theorem d_MO_hold_0 : decode M_MO_hold.2.1 0 = .ok (.iload_n 1, 1) := by decide +kernel
theorem d_MO_hold_1 : decode M_MO_hold.2.1 1 = .ok (.iconst 1, 1) := by decide +kernel
theorem d_MO_hold_2 : decode M_MO_hold.2.1 2 = .ok (.iconst 4, 1) := by decide +kernel
theorem d_MO_hold_3 : decode M_MO_hold.2.1 3 = .ok (.invokestatic 76, 3) := by decide +kernel
theorem d_MO_hold_6 : decode M_MO_hold.2.1 6 = .ok (.ifCond .eq 13, 3) := by decide +kernel
theorem d_MO_hold_9 : decode M_MO_hold.2.1 9 = .ok (.iload_n 2, 1) := by decide +kernel
theorem d_MO_hold_10 : decode M_MO_hold.2.1 10 = .ok (.iconst 1, 1) := by decide +kernel
theorem d_MO_hold_11 : decode M_MO_hold.2.1 11 = .ok (.bipush 100, 2) := by decide +kernel
theorem d_MO_hold_13 : decode M_MO_hold.2.1 13 = .ok (.invokestatic 76, 3) := by decide +kernel
theorem d_MO_hold_16 : decode M_MO_hold.2.1 16 = .ok (.ifCond .ne 6, 3) := by decide +kernel
theorem d_MO_hold_19 : decode M_MO_hold.2.1 19 = .ok (.bipush (-2), 2) := by decide +kernel
theorem d_MO_hold_21 : decode M_MO_hold.2.1 21 = .ok (.ireturn, 1) := by decide +kernel
theorem d_MO_hold_22 : decode M_MO_hold.2.1 22 = .ok (.aload_n 0, 1) := by decide +kernel
theorem d_MO_hold_23 : decode M_MO_hold.2.1 23 = .ok (.iload_n 1, 1) := by decide +kernel
theorem d_MO_hold_24 : decode M_MO_hold.2.1 24 = .ok (.putfield 140, 3) := by decide +kernel
theorem d_MO_hold_27 : decode M_MO_hold.2.1 27 = .ok (.aload_n 0, 1) := by decide +kernel
theorem d_MO_hold_28 : decode M_MO_hold.2.1 28 = .ok (.aload_n 0, 1) := by decide +kernel
theorem d_MO_hold_29 : decode M_MO_hold.2.1 29 = .ok (.getfield 84, 3) := by decide +kernel
theorem d_MO_hold_32 : decode M_MO_hold.2.1 32 = .ok (.iload_n 2, 1) := by decide +kernel
theorem d_MO_hold_33 : decode M_MO_hold.2.1 33 = .ok (.iadd, 1) := by decide +kernel
theorem d_MO_hold_34 : decode M_MO_hold.2.1 34 = .ok (.putfield 137, 3) := by decide +kernel
theorem d_MO_hold_37 : decode M_MO_hold.2.1 37 = .ok (.aload_n 0, 1) := by decide +kernel
theorem d_MO_hold_38 : decode M_MO_hold.2.1 38 = .ok (.getfield 137, 3) := by decide +kernel
theorem d_MO_hold_41 : decode M_MO_hold.2.1 41 = .ok (.ireturn, 1) := by decide +kernel
theorem d_MO_release_0 : decode M_MO_release.2.1 0 = .ok (.aload_n 0, 1) := by decide +kernel
theorem d_MO_release_1 : decode M_MO_release.2.1 1 = .ok (.invokevirtual 143, 3) := by decide +kernel
theorem d_MO_release_4 : decode M_MO_release.2.1 4 = .ok (.istore_n 1, 1) := by decide +kernel
theorem d_MO_release_5 : decode M_MO_release.2.1 5 = .ok (.aload_n 0, 1) := by decide +kernel
theorem d_MO_release_6 : decode M_MO_release.2.1 6 = .ok (.iconst 0, 1) := by decide +kernel
theorem d_MO_release_7 : decode M_MO_release.2.1 7 = .ok (.putfield 140, 3) := by decide +kernel
theorem d_MO_release_10 : decode M_MO_release.2.1 10 = .ok (.aload_n 0, 1) := by decide +kernel
theorem d_MO_release_11 : decode M_MO_release.2.1 11 = .ok (.iconst 0, 1) := by decide +kernel
theorem d_MO_release_12 : decode M_MO_release.2.1 12 = .ok (.putfield 137, 3) := by decide +kernel
theorem d_MO_release_15 : decode M_MO_release.2.1 15 = .ok (.iload_n 1, 1) := by decide +kernel
theorem d_MO_release_16 : decode M_MO_release.2.1 16 = .ok (.ireturn, 1) := by decide +kernel
theorem d_MO_word_0 : decode M_MO_word.2.1 0 = .ok (.iload_n 1, 1) := by decide +kernel
theorem d_MO_word_1 : decode M_MO_word.2.1 1 = .ok (.iconst 0, 1) := by decide +kernel
theorem d_MO_word_2 : decode M_MO_word.2.1 2 = .ok (.iconst 4, 1) := by decide +kernel
theorem d_MO_word_3 : decode M_MO_word.2.1 3 = .ok (.invokestatic 76, 3) := by decide +kernel
theorem d_MO_word_6 : decode M_MO_word.2.1 6 = .ok (.ifCond .eq 13, 3) := by decide +kernel
theorem d_MO_word_9 : decode M_MO_word.2.1 9 = .ok (.aload_n 0, 1) := by decide +kernel
theorem d_MO_word_10 : decode M_MO_word.2.1 10 = .ok (.iload_n 1, 1) := by decide +kernel
theorem d_MO_word_11 : decode M_MO_word.2.1 11 = .ok (.bipush 22, 2) := by decide +kernel
theorem d_MO_word_13 : decode M_MO_word.2.1 13 = .ok (.invokevirtual 166, 3) := by decide +kernel
theorem d_MO_word_16 : decode M_MO_word.2.1 16 = .ok (.goto 5, 3) := by decide +kernel
theorem d_MO_word_19 : decode M_MO_word.2.1 19 = .ok (.bipush (-2), 2) := by decide +kernel
theorem d_MO_word_21 : decode M_MO_word.2.1 21 = .ok (.ireturn, 1) := by decide +kernel
theorem d_MO_drill_0 : decode M_MO_drill.2.1 0 = .ok (.iload_n 1, 1) := by decide +kernel
theorem d_MO_drill_1 : decode M_MO_drill.2.1 1 = .ok (.iconst 0, 1) := by decide +kernel
theorem d_MO_drill_2 : decode M_MO_drill.2.1 2 = .ok (.iconst 4, 1) := by decide +kernel
theorem d_MO_drill_3 : decode M_MO_drill.2.1 3 = .ok (.invokestatic 76, 3) := by decide +kernel
theorem d_MO_drill_6 : decode M_MO_drill.2.1 6 = .ok (.ifCond .ne 6, 3) := by decide +kernel
theorem d_MO_drill_9 : decode M_MO_drill.2.1 9 = .ok (.bipush (-2), 2) := by decide +kernel
theorem d_MO_drill_11 : decode M_MO_drill.2.1 11 = .ok (.ireturn, 1) := by decide +kernel
theorem d_MO_drill_12 : decode M_MO_drill.2.1 12 = .ok (.aload_n 0, 1) := by decide +kernel
theorem d_MO_drill_13 : decode M_MO_drill.2.1 13 = .ok (.iload_n 1, 1) := by decide +kernel
theorem d_MO_drill_14 : decode M_MO_drill.2.1 14 = .ok (.putfield 169, 3) := by decide +kernel
theorem d_MO_drill_17 : decode M_MO_drill.2.1 17 = .ok (.aload_n 0, 1) := by decide +kernel
theorem d_MO_drill_18 : decode M_MO_drill.2.1 18 = .ok (.dup, 1) := by decide +kernel
theorem d_MO_drill_19 : decode M_MO_drill.2.1 19 = .ok (.getfield 172, 3) := by decide +kernel
theorem d_MO_drill_22 : decode M_MO_drill.2.1 22 = .ok (.iconst 1, 1) := by decide +kernel
theorem d_MO_drill_23 : decode M_MO_drill.2.1 23 = .ok (.iadd, 1) := by decide +kernel
theorem d_MO_drill_24 : decode M_MO_drill.2.1 24 = .ok (.putfield 172, 3) := by decide +kernel
theorem d_MO_drill_27 : decode M_MO_drill.2.1 27 = .ok (.aload_n 0, 1) := by decide +kernel
theorem d_MO_drill_28 : decode M_MO_drill.2.1 28 = .ok (.iconst 1, 1) := by decide +kernel
theorem d_MO_drill_29 : decode M_MO_drill.2.1 29 = .ok (.aload_n 0, 1) := by decide +kernel
theorem d_MO_drill_30 : decode M_MO_drill.2.1 30 = .ok (.getfield 172, 3) := by decide +kernel
theorem d_MO_drill_33 : decode M_MO_drill.2.1 33 = .ok (.iload_n 1, 1) := by decide +kernel
theorem d_MO_drill_34 : decode M_MO_drill.2.1 34 = .ok (.bipush 23, 2) := by decide +kernel
theorem d_MO_drill_36 : decode M_MO_drill.2.1 36 = .ok (.invokevirtual 159, 3) := by decide +kernel
theorem d_MO_drill_39 : decode M_MO_drill.2.1 39 = .ok (.aload_n 0, 1) := by decide +kernel
theorem d_MO_drill_40 : decode M_MO_drill.2.1 40 = .ok (.getfield 172, 3) := by decide +kernel
theorem d_MO_drill_43 : decode M_MO_drill.2.1 43 = .ok (.ireturn, 1) := by decide +kernel
theorem d_MO_message_0 : decode M_MO_message.2.1 0 = .ok (.bipush (-6), 2) := by decide +kernel
theorem d_MO_message_2 : decode M_MO_message.2.1 2 = .ok (.istore 4, 2) := by decide +kernel
theorem d_MO_message_4 : decode M_MO_message.2.1 4 = .ok (.iconst 0, 1) := by decide +kernel
theorem d_MO_message_5 : decode M_MO_message.2.1 5 = .ok (.istore 5, 2) := by decide +kernel
theorem d_MO_message_7 : decode M_MO_message.2.1 7 = .ok (.iload 5, 2) := by decide +kernel
theorem d_MO_message_9 : decode M_MO_message.2.1 9 = .ok (.aload_n 0, 1) := by decide +kernel
theorem d_MO_message_10 : decode M_MO_message.2.1 10 = .ok (.getfield 147, 3) := by decide +kernel
theorem d_MO_message_13 : decode M_MO_message.2.1 13 = .ok (.if_icmp .ge 54, 3) := by decide +kernel
theorem d_MO_message_16 : decode M_MO_message.2.1 16 = .ok (.aload_n 0, 1) := by decide +kernel
theorem d_MO_message_17 : decode M_MO_message.2.1 17 = .ok (.getfield 48, 3) := by decide +kernel
theorem d_MO_message_20 : decode M_MO_message.2.1 20 = .ok (.iconst 5, 1) := by decide +kernel
theorem d_MO_message_21 : decode M_MO_message.2.1 21 = .ok (.iload 5, 2) := by decide +kernel
theorem d_MO_message_23 : decode M_MO_message.2.1 23 = .ok (.imul, 1) := by decide +kernel
theorem d_MO_message_24 : decode M_MO_message.2.1 24 = .ok (.iaload, 1) := by decide +kernel
theorem d_MO_message_25 : decode M_MO_message.2.1 25 = .ok (.iload_n 1, 1) := by decide +kernel
theorem d_MO_message_26 : decode M_MO_message.2.1 26 = .ok (.ifCond .eq 7, 3) := by decide +kernel
theorem d_MO_message_29 : decode M_MO_message.2.1 29 = .ok (.iconst 1, 1) := by decide +kernel
theorem d_MO_message_30 : decode M_MO_message.2.1 30 = .ok (.goto 4, 3) := by decide +kernel
theorem d_MO_message_33 : decode M_MO_message.2.1 33 = .ok (.iconst 0, 1) := by decide +kernel
theorem d_MO_message_34 : decode M_MO_message.2.1 34 = .ok (.if_icmp .ne 23, 3) := by decide +kernel
theorem d_MO_message_37 : decode M_MO_message.2.1 37 = .ok (.aload_n 0, 1) := by decide +kernel
theorem d_MO_message_38 : decode M_MO_message.2.1 38 = .ok (.getfield 48, 3) := by decide +kernel
theorem d_MO_message_41 : decode M_MO_message.2.1 41 = .ok (.iconst 5, 1) := by decide +kernel
theorem d_MO_message_42 : decode M_MO_message.2.1 42 = .ok (.iload 5, 2) := by decide +kernel
theorem d_MO_message_44 : decode M_MO_message.2.1 44 = .ok (.imul, 1) := by decide +kernel
theorem d_MO_message_45 : decode M_MO_message.2.1 45 = .ok (.iconst 1, 1) := by decide +kernel
theorem d_MO_message_46 : decode M_MO_message.2.1 46 = .ok (.iadd, 1) := by decide +kernel
theorem d_MO_message_47 : decode M_MO_message.2.1 47 = .ok (.iaload, 1) := by decide +kernel
theorem d_MO_message_48 : decode M_MO_message.2.1 48 = .ok (.iload_n 2, 1) := by decide +kernel
theorem d_MO_message_49 : decode M_MO_message.2.1 49 = .ok (.if_icmp .ne 8, 3) := by decide +kernel
theorem d_MO_message_52 : decode M_MO_message.2.1 52 = .ok (.iload 5, 2) := by decide +kernel
theorem d_MO_message_54 : decode M_MO_message.2.1 54 = .ok (.goto 5, 3) := by decide +kernel
theorem d_MO_message_57 : decode M_MO_message.2.1 57 = .ok (.iload 4, 2) := by decide +kernel
theorem d_MO_message_59 : decode M_MO_message.2.1 59 = .ok (.istore 4, 2) := by decide +kernel
theorem d_MO_message_61 : decode M_MO_message.2.1 61 = .ok (.iinc 5 1, 3) := by decide +kernel
theorem d_MO_message_64 : decode M_MO_message.2.1 64 = .ok (.goto (-57), 3) := by decide +kernel
theorem d_MO_message_67 : decode M_MO_message.2.1 67 = .ok (.iload 4, 2) := by decide +kernel
theorem d_MO_message_69 : decode M_MO_message.2.1 69 = .ok (.ifCond .ge 5, 3) := by decide +kernel
theorem d_MO_message_72 : decode M_MO_message.2.1 72 = .ok (.iconst (-1), 1) := by decide +kernel
theorem d_MO_message_73 : decode M_MO_message.2.1 73 = .ok (.ireturn, 1) := by decide +kernel
theorem d_MO_message_74 : decode M_MO_message.2.1 74 = .ok (.iload_n 3, 1) := by decide +kernel
theorem d_MO_message_75 : decode M_MO_message.2.1 75 = .ok (.iconst 0, 1) := by decide +kernel
theorem d_MO_message_76 : decode M_MO_message.2.1 76 = .ok (.iconst 2, 1) := by decide +kernel
theorem d_MO_message_77 : decode M_MO_message.2.1 77 = .ok (.invokestatic 76, 3) := by decide +kernel
theorem d_MO_message_80 : decode M_MO_message.2.1 80 = .ok (.ifCond .eq 19, 3) := by decide +kernel
theorem d_MO_message_83 : decode M_MO_message.2.1 83 = .ok (.aload_n 0, 1) := by decide +kernel
theorem d_MO_message_84 : decode M_MO_message.2.1 84 = .ok (.getfield 48, 3) := by decide +kernel
theorem d_MO_message_87 : decode M_MO_message.2.1 87 = .ok (.iconst 5, 1) := by decide +kernel
theorem d_MO_message_88 : decode M_MO_message.2.1 88 = .ok (.iload 4, 2) := by decide +kernel
theorem d_MO_message_90 : decode M_MO_message.2.1 90 = .ok (.imul, 1) := by decide +kernel
theorem d_MO_message_91 : decode M_MO_message.2.1 91 = .ok (.iconst 2, 1) := by decide +kernel
theorem d_MO_message_92 : decode M_MO_message.2.1 92 = .ok (.iadd, 1) := by decide +kernel
theorem d_MO_message_93 : decode M_MO_message.2.1 93 = .ok (.iload_n 3, 1) := by decide +kernel
theorem d_MO_message_94 : decode M_MO_message.2.1 94 = .ok (.iadd, 1) := by decide +kernel
theorem d_MO_message_95 : decode M_MO_message.2.1 95 = .ok (.iaload, 1) := by decide +kernel
theorem d_MO_message_96 : decode M_MO_message.2.1 96 = .ok (.goto 5, 3) := by decide +kernel
theorem d_MO_message_99 : decode M_MO_message.2.1 99 = .ok (.bipush (-2), 2) := by decide +kernel
theorem d_MO_message_101 : decode M_MO_message.2.1 101 = .ok (.ireturn, 1) := by decide +kernel
section Sfmodel2
variable {D : va_G} {ad : Nat → Nat} {ca : Nat → ClassId} {sc : SC} {h : Hp} {Q : Option Value → Hp → Prop}
theorem F_MO_isLaw_0 (v1 : Int) (g1 : InR v1) (hF : WP D ad ca none M_MO_in 0 [(0, vI v1), (1, vI 0), (2, vI ((h 28 10) - 1))] [] h (RI (fun r3 h2 => (r3 = 0 ∨ r3 = 1) ∧ Q (some (vI r3)) h2))) : WP D ad ca sc M_MO_isLaw 0 [(0, .ref (ad 28)), (1, vI v1)] [] h Q := by
  refine P_iload_n 1 d_MO_isLaw_0 rfl rfl ?_
  refine P_iconst d_MO_isLaw_1 ?_
  refine P_aload_n 0 d_MO_isLaw_2 rfl rfl ?_
  refine G_MO_laws tw_568 d_MO_isLaw_3 (fun i1 => ?_)
  refine P_iconst d_MO_isLaw_6 ?_
  refine P_isub d_MO_isLaw_7 ?_
  refine V_MO_in tw_670 d_MO_isLaw_8 (by decide) (Nat.le_of_ble_eq_true rfl) hF (fun r3 h2 i4 hF => ?_)
  obtain ⟨b5, hF⟩ := hF
  exact P_zret d_MO_isLaw_11 rfl b5 hF
theorem F_MO_change_0 (v1 v2 v3 : Int) (g1 : InR v1) (g2 : InR v2) (g3 : InR v3) (hF : WP D ad ca none M_MO_isLaw 0 [(0, .ref (ad 28)), (1, vI v1)] [] h (RI (fun r2 h1 => ((¬ r2 = 0 → WP D ad ca none M_MO_in 0 [(0, vI v2), (1, vI 1), (2, vI 4)] [] h1 (RI (fun r5 h4 => ((r5 = 0 → Q (some (vI (-2))) h4) ∧ (¬ r5 = 0 → WP D ad ca none M_MO_in 0 [(0, vI v3), (1, vI 1), (2, vI 10000)] [] h4 (RI (fun r8 h7 => ((¬ r8 = 0 → (0 ≤ v1 ∧ v1 < 8) ∧ (0 ≤ v1 ∧ v1 < 8) ∧ Q (some (vI 1)) (up (up h7 35 v1 v2) 37 v1 v3)) ∧ (r8 = 0 → Q (some (vI (-2))) h7))))))))) ∧ (r2 = 0 → Q (some (vI (-1))) h1))))) : WP D ad ca sc M_MO_change 0 [(0, .ref (ad 28)), (1, vI v1), (2, vI v2), (3, vI v3)] [] h Q := by
  refine P_aload_n 0 d_MO_change_0 rfl rfl ?_
  refine P_iload_n 1 d_MO_change_1 rfl rfl ?_
  refine V_MO_isLaw tw_740 d_MO_change_2 (by decide) (Nat.le_of_ble_eq_true rfl) hF (fun r2 h1 i3 hF => ?_)
  refine P_if_ne 10 d_MO_change_5 (by decide) i3 (fun c => ?_) (fun c => ?_)
  · have hF := hF.1 c
    refine P_iload_n 2 d_MO_change_10 rfl rfl ?_
    refine P_iconst d_MO_change_11 ?_
    refine P_iconst d_MO_change_12 ?_
    refine V_MO_in tw_670 d_MO_change_13 (by decide) (Nat.le_of_ble_eq_true rfl) hF (fun r5 h4 i6 hF => ?_)
    refine P_if_eq 30 d_MO_change_16 (by decide) i6 (fun c => ?_) (fun c => ?_)
    · have hF := hF.1 c
      refine P_bipush d_MO_change_30 (by decide) ?_
      exact P_iret d_MO_change_32 rfl hF
    · have hF := hF.2 c
      refine P_iload_n 3 d_MO_change_19 rfl rfl ?_
      refine P_iconst d_MO_change_20 ?_
      refine P_sipush d_MO_change_21 (by decide) ?_
      refine V_MO_in tw_670 d_MO_change_24 (by decide) (Nat.le_of_ble_eq_true rfl) hF (fun r8 h7 i9 hF => ?_)
      refine P_if_ne 33 d_MO_change_27 (by decide) i9 (fun c => ?_) (fun c => ?_)
      · have hF := hF.1 c
        refine P_aload_n 0 d_MO_change_33 rfl rfl ?_
        refine G_MO_lawLevel tw_569 d_MO_change_34 ?_
        refine P_iload_n 1 d_MO_change_37 rfl rfl ?_
        refine P_iload_n 2 d_MO_change_38 rfl rfl ?_
        obtain ⟨b10, hF⟩ := hF
        refine T_35 d_MO_change_39 b10 g2 ?_
        refine P_aload_n 0 d_MO_change_40 rfl rfl ?_
        refine G_MO_lawNumber tw_571 d_MO_change_41 ?_
        refine P_iload_n 1 d_MO_change_44 rfl rfl ?_
        refine P_iload_n 3 d_MO_change_45 rfl rfl ?_
        obtain ⟨b11, hF⟩ := hF
        refine T_37 d_MO_change_46 b11 g3 ?_
        refine P_iconst d_MO_change_47 ?_
        exact P_iret d_MO_change_48 rfl hF
      · have hF := hF.2 c
        refine P_bipush d_MO_change_30 (by decide) ?_
        exact P_iret d_MO_change_32 rfl hF
  · have hF := hF.2 c
    refine P_iconst d_MO_change_8 ?_
    exact P_iret d_MO_change_9 rfl hF
theorem F_MO_within_0 (v1 v2 v3 : Int) (g1 : InR v1) (g2 : InR v2) (g3 : InR v3) (hF : WP D ad ca sc M_MO_within 6 [(0, .ref (ad 28)), (1, vI v1), (2, vI v2), (3, vI v3), (4, vI 0), (5, vI 0)] [] h Q) : WP D ad ca sc M_MO_within 0 [(0, .ref (ad 28)), (1, vI v1), (2, vI v2), (3, vI v3)] [] h Q := by
  refine P_iconst d_MO_within_0 ?_
  refine P_istore (lv' := [(0, .ref (ad 28)), (1, vI v1), (2, vI v2), (3, vI v3), (4, vI 0)]) [1, 2, 3, 4, 0] d_MO_within_1 (by decide) rfl ?_
  refine P_iconst d_MO_within_3 ?_
  refine P_istore (lv' := [(0, .ref (ad 28)), (1, vI v1), (2, vI v2), (3, vI v3), (4, vI 0), (5, vI 0)]) [1, 2, 3, 4, 5, 0] d_MO_within_4 (by decide) rfl ?_
  refine P_sub (lv' := [(0, .ref (ad 28)), (1, vI v1), (2, vI v2), (3, vI v3), (4, vI 0), (5, vI 0)]) [0, 1, 2, 3, 4, 5] rfl ?_
  exact hF
theorem F_MO_within_6 (v1 v2 v3 v4 v5 : Int) (g1 : InR v1) (g2 : InR v2) (g3 : InR v3) (g4 : InR v4) (g5 : InR v5) (hF : (((h 28 1) ≤ v5 → Q (some (vI v4)) h) ∧ (v5 < (h 28 1) → ((v3 = 3 → WP D ad ca sc M_MO_within 55 [(0, .ref (ad 28)), (1, vI v1), (2, vI v2), (3, vI v3), (4, vI v4), (5, vI v5)] [] h Q) ∧ (¬ v3 = 3 → ((3 ≤ v3 → WP D ad ca sc M_MO_within 35 [(0, .ref (ad 28)), (1, vI v1), (2, vI v2), (3, vI v3), (4, vI v4), (5, vI v5)] [] h Q) ∧ (v3 < 3 → WP D ad ca none M_MO_kindOf 0 [(0, .ref (ad 28)), (1, vI v5)] [] h (RI (fun r3 h2 => ((r3 = v3 → WP D ad ca sc M_MO_within 55 [(0, .ref (ad 28)), (1, vI v1), (2, vI v2), (3, vI v3), (4, vI v4), (5, vI v5)] [] h2 Q) ∧ (¬ r3 = v3 → WP D ad ca sc M_MO_within 35 [(0, .ref (ad 28)), (1, vI v1), (2, vI v2), (3, vI v3), (4, vI v4), (5, vI v5)] [] h2 Q))))))))))) : WP D ad ca sc M_MO_within 6 [(0, .ref (ad 28)), (1, vI v1), (2, vI v2), (3, vI v3), (4, vI v4), (5, vI v5)] [] h Q := by
  refine P_iload 5 d_MO_within_6 rfl ?_
  refine P_aload_n 0 d_MO_within_8 rfl rfl ?_
  refine G_MO_shakes tw_559 d_MO_within_9 (fun i1 => ?_)
  refine P_icmp_ge 98 d_MO_within_12 (by decide) g5 i1 (fun c => ?_) (fun c => ?_)
  · have hF := hF.1 c
    refine P_iload 4 d_MO_within_98 rfl ?_
    exact P_iret d_MO_within_100 rfl hF
  · have hF := hF.2 (Int.not_le.mp c)
    refine P_iload_n 3 d_MO_within_15 rfl rfl ?_
    refine P_iconst d_MO_within_16 ?_
    refine P_icmp_eq 55 d_MO_within_17 (by decide) g3 ⟨by decide, by decide⟩ (fun c => ?_) (fun c => ?_)
    · have hF := hF.1 c
      refine P_sub (lv' := [(0, .ref (ad 28)), (1, vI v1), (2, vI v2), (3, vI v3), (4, vI v4), (5, vI v5)]) [0, 1, 2, 3, 4, 5] rfl ?_
      exact hF
    · have hF := hF.2 c
      refine P_iload_n 3 d_MO_within_20 rfl rfl ?_
      refine P_iconst d_MO_within_21 ?_
      refine P_icmp_ge 35 d_MO_within_22 (by decide) g3 ⟨by decide, by decide⟩ (fun c => ?_) (fun c => ?_)
      · have hF := hF.1 c
        refine P_sub (lv' := [(0, .ref (ad 28)), (1, vI v1), (2, vI v2), (3, vI v3), (4, vI v4), (5, vI v5)]) [0, 1, 2, 3, 4, 5] rfl ?_
        exact hF
      · have hF := hF.2 (Int.not_le.mp c)
        refine P_aload_n 0 d_MO_within_25 rfl rfl ?_
        refine P_iload 5 d_MO_within_26 rfl ?_
        refine V_MO_kindOf tw_686 d_MO_within_28 (by decide) (Nat.le_of_ble_eq_true rfl) hF (fun r3 h2 i4 hF => ?_)
        refine P_iload_n 3 d_MO_within_31 rfl rfl ?_
        refine P_icmp_eq 55 d_MO_within_32 (by decide) i4 g3 (fun c => ?_) (fun c => ?_)
        · have hF := hF.1 c
          refine P_sub (lv' := [(0, .ref (ad 28)), (1, vI v1), (2, vI v2), (3, vI v3), (4, vI v4), (5, vI v5)]) [0, 1, 2, 3, 4, 5] rfl ?_
          exact hF
        · have hF := hF.2 c
          refine P_sub (lv' := [(0, .ref (ad 28)), (1, vI v1), (2, vI v2), (3, vI v3), (4, vI v4), (5, vI v5)]) [0, 1, 2, 3, 4, 5] rfl ?_
          exact hF
theorem F_MO_within_55 (v1 v2 v3 v4 v5 : Int) (g1 : InR v1) (g2 : InR v2) (g3 : InR v3) (g4 : InR v4) (g5 : InR v5) (hF : WP D ad ca sc M_MO_within 60 [(0, .ref (ad 28)), (1, vI v1), (2, vI v2), (3, vI v3), (4, vI v4), (5, vI v5)] [vI 1] h Q) : WP D ad ca sc M_MO_within 55 [(0, .ref (ad 28)), (1, vI v1), (2, vI v2), (3, vI v3), (4, vI v4), (5, vI v5)] [] h Q := by
  refine P_iconst d_MO_within_55 ?_
  refine P_goto 60 d_MO_within_56 (by decide) ?_
  refine P_sub (lv' := [(0, .ref (ad 28)), (1, vI v1), (2, vI v2), (3, vI v3), (4, vI v4), (5, vI v5)]) [0, 1, 2, 3, 4, 5] rfl ?_
  exact hF
theorem F_MO_within_35 (v1 v2 v3 v4 v5 : Int) (g1 : InR v1) (g2 : InR v2) (g3 : InR v3) (g4 : InR v4) (g5 : InR v5) (hF : ((v3 < 100 → WP D ad ca sc M_MO_within 59 [(0, .ref (ad 28)), (1, vI v1), (2, vI v2), (3, vI v3), (4, vI v4), (5, vI v5)] [] h Q) ∧ (100 ≤ v3 → (0 ≤ v5 ∧ v5 < 80) ∧ (InR (v3 - 100)) ∧ ((¬ (h 31 v5) = (v3 - 100) → WP D ad ca sc M_MO_within 59 [(0, .ref (ad 28)), (1, vI v1), (2, vI v2), (3, vI v3), (4, vI v4), (5, vI v5)] [] h Q) ∧ ((h 31 v5) = (v3 - 100) → WP D ad ca sc M_MO_within 55 [(0, .ref (ad 28)), (1, vI v1), (2, vI v2), (3, vI v3), (4, vI v4), (5, vI v5)] [] h Q))))) : WP D ad ca sc M_MO_within 35 [(0, .ref (ad 28)), (1, vI v1), (2, vI v2), (3, vI v3), (4, vI v4), (5, vI v5)] [] h Q := by
  refine P_iload_n 3 d_MO_within_35 rfl rfl ?_
  refine P_bipush d_MO_within_36 (by decide) ?_
  refine P_icmp_lt 59 d_MO_within_38 (by decide) g3 ⟨by decide, by decide⟩ (fun c => ?_) (fun c => ?_)
  · have hF := hF.1 c
    refine P_sub (lv' := [(0, .ref (ad 28)), (1, vI v1), (2, vI v2), (3, vI v3), (4, vI v4), (5, vI v5)]) [0, 1, 2, 3, 4, 5] rfl ?_
    exact hF
  · have hF := hF.2 (Int.not_lt.mp c)
    refine P_aload_n 0 d_MO_within_41 rfl rfl ?_
    refine G_MO_family tw_562 d_MO_within_42 ?_
    refine P_iload 5 d_MO_within_45 rfl ?_
    obtain ⟨b1, hF⟩ := hF
    refine L_31 d_MO_within_47 b1 (fun i2 => ?_)
    refine P_iload_n 3 d_MO_within_48 rfl rfl ?_
    refine P_bipush d_MO_within_49 (by decide) ?_
    refine P_isub d_MO_within_51 ?_
    obtain ⟨b3, hF⟩ := hF
    refine P_icmp_ne 59 d_MO_within_52 (by decide) i2 b3 (fun c => ?_) (fun c => ?_)
    · have hF := hF.1 c
      refine P_sub (lv' := [(0, .ref (ad 28)), (1, vI v1), (2, vI v2), (3, vI v3), (4, vI v4), (5, vI v5)]) [0, 1, 2, 3, 4, 5] rfl ?_
      exact hF
    · have hF := hF.2 c
      refine P_sub (lv' := [(0, .ref (ad 28)), (1, vI v1), (2, vI v2), (3, vI v3), (4, vI v4), (5, vI v5)]) [0, 1, 2, 3, 4, 5] rfl ?_
      exact hF
theorem F_MO_within_60 (v1 v2 v3 v4 v5 s0 : Int) (g1 : InR v1) (g2 : InR v2) (g3 : InR v3) (g4 : InR v4) (g5 : InR v5) (q0 : InR s0) (hF : ((s0 = 0 → WP D ad ca sc M_MO_within 6 [(0, .ref (ad 28)), (1, vI v1), (2, vI v2), (3, vI v3), (4, vI (v4 + 0)), (5, vI (v5 + 1))] [] h Q) ∧ (¬ s0 = 0 → (0 ≤ v5 ∧ v5 < 80) ∧ WP D ad ca none M_MO_in 0 [(0, vI (h 29 v5)), (1, vI v1), (2, vI v2)] [] h (RI (fun r4 h3 => ((r4 = 0 → WP D ad ca sc M_MO_within 6 [(0, .ref (ad 28)), (1, vI v1), (2, vI v2), (3, vI v3), (4, vI (v4 + 0)), (5, vI (v5 + 1))] [] h3 Q) ∧ (¬ r4 = 0 → WP D ad ca sc M_MO_within 6 [(0, .ref (ad 28)), (1, vI v1), (2, vI v2), (3, vI v3), (4, vI (v4 + 1)), (5, vI (v5 + 1))] [] h3 Q))))))) : WP D ad ca sc M_MO_within 60 [(0, .ref (ad 28)), (1, vI v1), (2, vI v2), (3, vI v3), (4, vI v4), (5, vI v5)] [vI s0] h Q := by
  refine P_istore (lv' := [(0, .ref (ad 28)), (1, vI v1), (2, vI v2), (3, vI v3), (4, vI v4), (5, vI v5), (6, vI s0)]) [1, 2, 3, 4, 5, 6, 0] d_MO_within_60 (by decide) rfl ?_
  refine P_iload 4 d_MO_within_62 rfl ?_
  refine P_iload 6 d_MO_within_64 rfl ?_
  refine P_if_eq 88 d_MO_within_66 (by decide) q0 (fun c => ?_) (fun c => ?_)
  · have hF := hF.1 c
    refine P_iconst d_MO_within_88 ?_
    refine P_iadd d_MO_within_89 ?_
    refine P_istore (lv' := [(0, .ref (ad 28)), (1, vI v1), (2, vI v2), (3, vI v3), (4, vI (v4 + 0)), (5, vI v5), (6, vI s0)]) [1, 2, 3, 4, 0, 5, 6] d_MO_within_90 (by decide) rfl ?_
    refine P_iinc (lv' := [(0, .ref (ad 28)), (1, vI v1), (2, vI v2), (3, vI v3), (4, vI (v4 + 0)), (5, vI (v5 + 1)), (6, vI s0)]) 5 [1, 2, 3, 4, 5, 0, 6] d_MO_within_92 rfl (by decide) rfl ?_
    refine P_goto 6 d_MO_within_95 (by decide) ?_
    refine P_sub (lv' := [(0, .ref (ad 28)), (1, vI v1), (2, vI v2), (3, vI v3), (4, vI (v4 + 0)), (5, vI (v5 + 1))]) [0, 1, 2, 3, 4, 5] rfl ?_
    exact hF
  · have hF := hF.2 c
    refine P_aload_n 0 d_MO_within_69 rfl rfl ?_
    refine G_MO_dayOf tw_560 d_MO_within_70 ?_
    refine P_iload 5 d_MO_within_73 rfl ?_
    obtain ⟨b1, hF⟩ := hF
    refine L_29 d_MO_within_75 b1 (fun i2 => ?_)
    refine P_iload_n 1 d_MO_within_76 rfl rfl ?_
    refine P_iload_n 2 d_MO_within_77 rfl rfl ?_
    refine V_MO_in tw_670 d_MO_within_78 (by decide) (Nat.le_of_ble_eq_true rfl) hF (fun r4 h3 i5 hF => ?_)
    refine P_if_eq 88 d_MO_within_81 (by decide) i5 (fun c => ?_) (fun c => ?_)
    · have hF := hF.1 c
      refine P_iconst d_MO_within_88 ?_
      refine P_iadd d_MO_within_89 ?_
      refine P_istore (lv' := [(0, .ref (ad 28)), (1, vI v1), (2, vI v2), (3, vI v3), (4, vI (v4 + 0)), (5, vI v5), (6, vI s0)]) [1, 2, 3, 4, 0, 5, 6] d_MO_within_90 (by decide) rfl ?_
      refine P_iinc (lv' := [(0, .ref (ad 28)), (1, vI v1), (2, vI v2), (3, vI v3), (4, vI (v4 + 0)), (5, vI (v5 + 1)), (6, vI s0)]) 5 [1, 2, 3, 4, 5, 0, 6] d_MO_within_92 rfl (by decide) rfl ?_
      refine P_goto 6 d_MO_within_95 (by decide) ?_
      refine P_sub (lv' := [(0, .ref (ad 28)), (1, vI v1), (2, vI v2), (3, vI v3), (4, vI (v4 + 0)), (5, vI (v5 + 1))]) [0, 1, 2, 3, 4, 5] rfl ?_
      exact hF
    · have hF := hF.2 c
      refine P_iconst d_MO_within_84 ?_
      refine P_goto 89 d_MO_within_85 (by decide) ?_
      refine P_iadd d_MO_within_89 ?_
      refine P_istore (lv' := [(0, .ref (ad 28)), (1, vI v1), (2, vI v2), (3, vI v3), (4, vI (v4 + 1)), (5, vI v5), (6, vI s0)]) [1, 2, 3, 4, 0, 5, 6] d_MO_within_90 (by decide) rfl ?_
      refine P_iinc (lv' := [(0, .ref (ad 28)), (1, vI v1), (2, vI v2), (3, vI v3), (4, vI (v4 + 1)), (5, vI (v5 + 1)), (6, vI s0)]) 5 [1, 2, 3, 4, 5, 0, 6] d_MO_within_92 rfl (by decide) rfl ?_
      refine P_goto 6 d_MO_within_95 (by decide) ?_
      refine P_sub (lv' := [(0, .ref (ad 28)), (1, vI v1), (2, vI v2), (3, vI v3), (4, vI (v4 + 1)), (5, vI (v5 + 1))]) [0, 1, 2, 3, 4, 5] rfl ?_
      exact hF
theorem F_MO_within_59 (v1 v2 v3 v4 v5 : Int) (g1 : InR v1) (g2 : InR v2) (g3 : InR v3) (g4 : InR v4) (g5 : InR v5) (hF : WP D ad ca sc M_MO_within 60 [(0, .ref (ad 28)), (1, vI v1), (2, vI v2), (3, vI v3), (4, vI v4), (5, vI v5)] [vI 0] h Q) : WP D ad ca sc M_MO_within 59 [(0, .ref (ad 28)), (1, vI v1), (2, vI v2), (3, vI v3), (4, vI v4), (5, vI v5)] [] h Q := by
  refine P_iconst d_MO_within_59 ?_
  refine P_sub (lv' := [(0, .ref (ad 28)), (1, vI v1), (2, vI v2), (3, vI v3), (4, vI v4), (5, vI v5)]) [0, 1, 2, 3, 4, 5] rfl ?_
  exact hF
theorem F_MO_measureOf_0 (v1 v2 : Int) (g1 : InR v1) (g2 : InR v2) (hF : (0 ≤ v1 ∧ v1 < 8) ∧ (0 ≤ v1 ∧ v1 < 8) ∧ ((4 ≤ (h 36 v1) → ((¬ (h 36 v1) = 4 → ((¬ (h 36 v1) = 5 → (InR ((v2 - (h 38 v1)) + 1)) ∧ ((0 ≤ ((v2 - (h 38 v1)) + 1) → WP D ad ca sc M_MO_measureOf 206 [(0, .ref (ad 28)), (2, vI v2), (6, vI 0), (7, vI ((v2 - (h 38 v1)) + 1))] [] h Q) ∧ (((v2 - (h 38 v1)) + 1) < 0 → WP D ad ca sc M_MO_measureOf 206 [(0, .ref (ad 28)), (2, vI v2), (6, vI 0), (7, vI 0)] [] h Q))) ∧ ((h 36 v1) = 5 → WP D ad ca none M_MO_tiltDay 0 [(0, .ref (ad 28)), (1, vI v2)] [] h (RI (fun r7 h6 => (((h 38 v1) ≤ v2 → WP D ad ca none M_MO_tiltDay 0 [(0, .ref (ad 28)), (1, vI (v2 - (h 38 v1)))] [] h6 (RI (fun r10 h9 => WP D ad ca sc M_MO_measureOf 146 [(0, .ref (ad 28)), (7, vI r7)] [vI r10] h9 Q))) ∧ (v2 < (h 38 v1) → WP D ad ca sc M_MO_measureOf 146 [(0, .ref (ad 28)), (7, vI r7)] [vI (-1)] h6 Q))))))) ∧ ((h 36 v1) = 4 → WP D ad ca none M_MO_mark 0 [(0, .ref (ad 28))] [] h (RV (fun h12 => WP D ad ca sc M_MO_measureOf 52 [(0, .ref (ad 28)), (2, vI v2), (5, vI ((v2 - (h 38 v1)) + 1)), (6, vI 0), (7, vI 0)] [] h12 Q))))) ∧ ((h 36 v1) < 4 → WP D ad ca none M_MO_within 0 [(0, .ref (ad 28)), (1, vI ((v2 - (h 38 v1)) + 1)), (2, vI v2), (3, vI (h 36 v1))] [] h (RI (fun r14 h13 => Q (some (vI r14)) h13))))) : WP D ad ca sc M_MO_measureOf 0 [(0, .ref (ad 28)), (1, vI v1), (2, vI v2)] [] h Q := by
  refine P_aload_n 0 d_MO_measureOf_0 rfl rfl ?_
  refine G_MO_lawMeasure tw_570 d_MO_measureOf_1 ?_
  refine P_iload_n 1 d_MO_measureOf_4 rfl rfl ?_
  obtain ⟨b1, hF⟩ := hF
  refine L_36 d_MO_measureOf_5 b1 (fun i2 => ?_)
  refine P_istore_n (lv' := [(0, .ref (ad 28)), (1, vI v1), (2, vI v2), (3, vI (h 36 v1))]) [1, 2, 3, 0] d_MO_measureOf_6 rfl (by decide) rfl ?_
  refine P_aload_n 0 d_MO_measureOf_7 rfl rfl ?_
  refine G_MO_lawSpan tw_572 d_MO_measureOf_8 ?_
  refine P_iload_n 1 d_MO_measureOf_11 rfl rfl ?_
  obtain ⟨b3, hF⟩ := hF
  refine L_38 d_MO_measureOf_12 b3 (fun i4 => ?_)
  refine P_istore (lv' := [(0, .ref (ad 28)), (1, vI v1), (2, vI v2), (3, vI (h 36 v1)), (4, vI (h 38 v1))]) [1, 2, 3, 4, 0] d_MO_measureOf_13 (by decide) rfl ?_
  refine P_iload_n 2 d_MO_measureOf_15 rfl rfl ?_
  refine P_iload 4 d_MO_measureOf_16 rfl ?_
  refine P_isub d_MO_measureOf_18 ?_
  refine P_iconst d_MO_measureOf_19 ?_
  refine P_iadd d_MO_measureOf_20 ?_
  refine P_istore (lv' := [(0, .ref (ad 28)), (1, vI v1), (2, vI v2), (3, vI (h 36 v1)), (4, vI (h 38 v1)), (5, vI ((v2 - (h 38 v1)) + 1))]) [1, 2, 3, 4, 5, 0] d_MO_measureOf_21 (by decide) rfl ?_
  refine P_iload_n 3 d_MO_measureOf_23 rfl rfl ?_
  refine P_iconst d_MO_measureOf_24 ?_
  refine P_icmp_ge 37 d_MO_measureOf_25 (by decide) i2 ⟨by decide, by decide⟩ (fun c => ?_) (fun c => ?_)
  · have hF := hF.1 c
    refine P_iconst d_MO_measureOf_37 ?_
    refine P_istore (lv' := [(0, .ref (ad 28)), (1, vI v1), (2, vI v2), (3, vI (h 36 v1)), (4, vI (h 38 v1)), (5, vI ((v2 - (h 38 v1)) + 1)), (6, vI 0)]) [1, 2, 3, 4, 5, 6, 0] d_MO_measureOf_38 (by decide) rfl ?_
    refine P_iload_n 3 d_MO_measureOf_40 rfl rfl ?_
    refine P_iconst d_MO_measureOf_41 ?_
    refine P_icmp_ne 116 d_MO_measureOf_42 (by decide) i2 ⟨by decide, by decide⟩ (fun c => ?_) (fun c => ?_)
    · have hF := hF.1 c
      refine P_iload_n 3 d_MO_measureOf_116 rfl rfl ?_
      refine P_iconst d_MO_measureOf_117 ?_
      refine P_icmp_ne 193 d_MO_measureOf_118 (by decide) i2 ⟨by decide, by decide⟩ (fun c => ?_) (fun c => ?_)
      · have hF := hF.1 c
        refine P_iload 5 d_MO_measureOf_193 rfl ?_
        obtain ⟨b5, hF⟩ := hF
        refine P_if_ge 202 d_MO_measureOf_195 (by decide) b5 (fun c => ?_) (fun c => ?_)
        · have hF := hF.1 c
          refine P_iload 5 d_MO_measureOf_202 rfl ?_
          refine P_istore (lv' := [(0, .ref (ad 28)), (1, vI v1), (2, vI v2), (3, vI (h 36 v1)), (4, vI (h 38 v1)), (5, vI ((v2 - (h 38 v1)) + 1)), (6, vI 0), (7, vI ((v2 - (h 38 v1)) + 1))]) [1, 2, 3, 4, 5, 6, 7, 0] d_MO_measureOf_204 (by decide) rfl ?_
          refine P_sub (lv' := [(0, .ref (ad 28)), (2, vI v2), (6, vI 0), (7, vI ((v2 - (h 38 v1)) + 1))]) [0, 2, 6, 7] rfl ?_
          exact hF
        · have hF := hF.2 (Int.not_le.mp c)
          refine P_iconst d_MO_measureOf_198 ?_
          refine P_goto 204 d_MO_measureOf_199 (by decide) ?_
          refine P_istore (lv' := [(0, .ref (ad 28)), (1, vI v1), (2, vI v2), (3, vI (h 36 v1)), (4, vI (h 38 v1)), (5, vI ((v2 - (h 38 v1)) + 1)), (6, vI 0), (7, vI 0)]) [1, 2, 3, 4, 5, 6, 7, 0] d_MO_measureOf_204 (by decide) rfl ?_
          refine P_sub (lv' := [(0, .ref (ad 28)), (2, vI v2), (6, vI 0), (7, vI 0)]) [0, 2, 6, 7] rfl ?_
          exact hF
      · have hF := hF.2 c
        refine P_aload_n 0 d_MO_measureOf_121 rfl rfl ?_
        refine P_iload_n 2 d_MO_measureOf_122 rfl rfl ?_
        refine V_MO_tiltDay tw_723 d_MO_measureOf_123 (by decide) (Nat.le_of_ble_eq_true rfl) hF (fun r7 h6 i8 hF => ?_)
        refine P_istore (lv' := [(0, .ref (ad 28)), (1, vI v1), (2, vI v2), (3, vI (h 36 v1)), (4, vI (h 38 v1)), (5, vI ((v2 - (h 38 v1)) + 1)), (6, vI 0), (7, vI r7)]) [1, 2, 3, 4, 5, 6, 7, 0] d_MO_measureOf_126 (by decide) rfl ?_
        refine P_iload_n 2 d_MO_measureOf_128 rfl rfl ?_
        refine P_iload 4 d_MO_measureOf_129 rfl ?_
        refine P_icmp_ge 138 d_MO_measureOf_131 (by decide) g2 i4 (fun c => ?_) (fun c => ?_)
        · have hF := hF.1 c
          refine P_aload_n 0 d_MO_measureOf_138 rfl rfl ?_
          refine P_iload_n 2 d_MO_measureOf_139 rfl rfl ?_
          refine P_iload 4 d_MO_measureOf_140 rfl ?_
          refine P_isub d_MO_measureOf_142 ?_
          refine V_MO_tiltDay tw_723 d_MO_measureOf_143 (by decide) (Nat.le_of_ble_eq_true rfl) hF (fun r10 h9 i11 hF => ?_)
          refine P_sub (lv' := [(0, .ref (ad 28)), (7, vI r7)]) [0, 7] rfl ?_
          exact hF
        · have hF := hF.2 (Int.not_le.mp c)
          refine P_iconst d_MO_measureOf_134 ?_
          refine P_goto 146 d_MO_measureOf_135 (by decide) ?_
          refine P_sub (lv' := [(0, .ref (ad 28)), (7, vI r7)]) [0, 7] rfl ?_
          exact hF
    · have hF := hF.2 c
      refine P_aload_n 0 d_MO_measureOf_45 rfl rfl ?_
      refine V_MO_mark tw_673 d_MO_measureOf_46 (by decide) (Nat.le_of_ble_eq_true rfl) hF (fun h12 hF => ?_)
      refine P_iconst d_MO_measureOf_49 ?_
      refine P_istore (lv' := [(0, .ref (ad 28)), (1, vI v1), (2, vI v2), (3, vI (h 36 v1)), (4, vI (h 38 v1)), (5, vI ((v2 - (h 38 v1)) + 1)), (6, vI 0), (7, vI 0)]) [1, 2, 3, 4, 5, 6, 7, 0] d_MO_measureOf_50 (by decide) rfl ?_
      refine P_sub (lv' := [(0, .ref (ad 28)), (2, vI v2), (5, vI ((v2 - (h 38 v1)) + 1)), (6, vI 0), (7, vI 0)]) [0, 2, 5, 6, 7] rfl ?_
      exact hF
  · have hF := hF.2 (Int.not_le.mp c)
    refine P_aload_n 0 d_MO_measureOf_28 rfl rfl ?_
    refine P_iload 5 d_MO_measureOf_29 rfl ?_
    refine P_iload_n 2 d_MO_measureOf_31 rfl rfl ?_
    refine P_iload_n 3 d_MO_measureOf_32 rfl rfl ?_
    refine V_MO_within tw_752 d_MO_measureOf_33 (by decide) (Nat.le_of_ble_eq_true rfl) hF (fun r14 h13 i15 hF => ?_)
    exact P_iret d_MO_measureOf_36 rfl hF
theorem F_MO_measureOf_206 (v2 v6 v7 : Int) (g2 : InR v2) (g6 : InR v6) (g7 : InR v7) (hF : ((v2 < v7 → Q (some (vI v6)) h) ∧ (v7 ≤ v2 → (0 ≤ v7 ∧ v7 < 1000) ∧ WP D ad ca sc M_MO_measureOf 206 [(0, .ref (ad 28)), (2, vI v2), (6, vI (v6 + (h 34 v7))), (7, vI (v7 + 1))] [] h Q))) : WP D ad ca sc M_MO_measureOf 206 [(0, .ref (ad 28)), (2, vI v2), (6, vI v6), (7, vI v7)] [] h Q := by
  refine P_iload 3 d_MO_measureOf_206 rfl ?_
  refine P_iload_n 1 d_MO_measureOf_208 rfl rfl ?_
  refine P_icmp_gt 230 d_MO_measureOf_209 (by decide) g7 g2 (fun c => ?_) (fun c => ?_)
  · have hF := hF.1 c
    refine P_iload 2 d_MO_measureOf_230 rfl ?_
    exact P_iret d_MO_measureOf_232 rfl hF
  · have hF := hF.2 (Int.not_lt.mp c)
    refine P_iload 2 d_MO_measureOf_212 rfl ?_
    refine P_aload_n 0 d_MO_measureOf_214 rfl rfl ?_
    refine G_MO_gas tw_567 d_MO_measureOf_215 ?_
    refine P_iload 3 d_MO_measureOf_218 rfl ?_
    obtain ⟨b1, hF⟩ := hF
    refine L_34 d_MO_measureOf_220 b1 (fun i2 => ?_)
    refine P_iadd d_MO_measureOf_221 ?_
    refine P_istore (lv' := [(0, .ref (ad 28)), (2, vI v2), (6, vI (v6 + (h 34 v7))), (7, vI v7)]) [1, 2, 0, 3] d_MO_measureOf_222 (by decide) rfl ?_
    refine P_iinc (lv' := [(0, .ref (ad 28)), (2, vI v2), (6, vI (v6 + (h 34 v7))), (7, vI (v7 + 1))]) 3 [1, 2, 3, 0] d_MO_measureOf_224 rfl (by decide) rfl ?_
    refine P_goto 206 d_MO_measureOf_227 (by decide) ?_
    refine P_sub (lv' := [(0, .ref (ad 28)), (2, vI v2), (6, vI (v6 + (h 34 v7))), (7, vI (v7 + 1))]) [0, 1, 2, 3] rfl ?_
    exact hF
theorem F_MO_measureOf_146 (v7 s0 : Int) (g7 : InR v7) (q0 : InR s0) (hF : ((v7 < 0 → WP D ad ca sc M_MO_measureOf 158 [] [] h Q) ∧ (0 ≤ v7 → ((0 ≤ s0 → (0 ≤ v7 ∧ v7 < 1000) ∧ (0 ≤ s0 ∧ s0 < 1000) ∧ (InR ((h 33 v7) - (h 33 s0))) ∧ ((0 ≤ ((h 33 v7) - (h 33 s0)) → Q (some (vI ((h 33 v7) - (h 33 s0)))) h) ∧ (((h 33 v7) - (h 33 s0)) < 0 → Q (some (vI (-((h 33 v7) - (h 33 s0))))) h))) ∧ (s0 < 0 → WP D ad ca sc M_MO_measureOf 158 [] [] h Q))))) : WP D ad ca sc M_MO_measureOf 146 [(0, .ref (ad 28)), (7, vI v7)] [vI s0] h Q := by
  refine P_istore (lv' := [(0, .ref (ad 28)), (7, vI v7), (8, vI s0)]) [1, 2, 0] d_MO_measureOf_146 (by decide) rfl ?_
  refine P_iload 1 d_MO_measureOf_148 rfl ?_
  refine P_if_lt 158 d_MO_measureOf_150 (by decide) g7 (fun c => ?_) (fun c => ?_)
  · have hF := hF.1 c
    refine P_sub (lv' := []) [] rfl ?_
    exact hF
  · have hF := hF.2 (Int.not_lt.mp c)
    refine P_iload 2 d_MO_measureOf_153 rfl ?_
    refine P_if_ge 162 d_MO_measureOf_155 (by decide) q0 (fun c => ?_) (fun c => ?_)
    · have hF := hF.1 c
      refine P_aload_n 0 d_MO_measureOf_162 rfl rfl ?_
      refine G_MO_tilt tw_566 d_MO_measureOf_163 ?_
      refine P_iload 1 d_MO_measureOf_166 rfl ?_
      obtain ⟨b1, hF⟩ := hF
      refine L_33 d_MO_measureOf_168 b1 (fun i2 => ?_)
      refine P_aload_n 0 d_MO_measureOf_169 rfl rfl ?_
      refine G_MO_tilt tw_566 d_MO_measureOf_170 ?_
      refine P_iload 2 d_MO_measureOf_173 rfl ?_
      obtain ⟨b3, hF⟩ := hF
      refine L_33 d_MO_measureOf_175 b3 (fun i4 => ?_)
      refine P_isub d_MO_measureOf_176 ?_
      refine P_istore (lv' := [(0, .ref (ad 28)), (7, vI v7), (8, vI s0), (9, vI ((h 33 v7) - (h 33 s0)))]) [1, 2, 3, 0] d_MO_measureOf_177 (by decide) rfl ?_
      refine P_iload 3 d_MO_measureOf_179 rfl ?_
      obtain ⟨b5, hF⟩ := hF
      refine P_if_ge 190 d_MO_measureOf_181 (by decide) b5 (fun c => ?_) (fun c => ?_)
      · have hF := hF.1 c
        refine P_iload 3 d_MO_measureOf_190 rfl ?_
        exact P_iret d_MO_measureOf_192 rfl hF
      · have hF := hF.2 (Int.not_le.mp c)
        refine P_iload 3 d_MO_measureOf_184 rfl ?_
        refine P_ineg d_MO_measureOf_186 ?_
        refine P_goto 192 d_MO_measureOf_187 (by decide) ?_
        exact P_iret d_MO_measureOf_192 rfl hF
    · have hF := hF.2 (Int.not_le.mp c)
      refine P_sub (lv' := []) [] rfl ?_
      exact hF
theorem F_MO_measureOf_52 (v2 v5 v6 v7 : Int) (g2 : InR v2) (g5 : InR v5) (g6 : InR v6) (g7 : InR v7) (hF : (((h 28 1) ≤ v7 → Q (some (vI v6)) h) ∧ (v7 < (h 28 1) → (0 ≤ v7 ∧ v7 < 80) ∧ ((¬ (h 31 v7) = v7 → WP D ad ca sc M_MO_measureOf 89 [(0, .ref (ad 28)), (2, vI v2), (5, vI v5), (6, vI v6), (7, vI v7)] [vI 0] h Q) ∧ ((h 31 v7) = v7 → WP D ad ca none M_MO_within 0 [(0, .ref (ad 28)), (1, vI v5), (2, vI v2), (3, vI (100 + v7))] [] h (RI (fun r5 h4 => WP D ad ca sc M_MO_measureOf 89 [(0, .ref (ad 28)), (2, vI v2), (5, vI v5), (6, vI v6), (7, vI v7)] [vI r5] h4 Q))))))) : WP D ad ca sc M_MO_measureOf 52 [(0, .ref (ad 28)), (2, vI v2), (5, vI v5), (6, vI v6), (7, vI v7)] [] h Q := by
  refine P_iload 4 d_MO_measureOf_52 rfl ?_
  refine P_aload_n 0 d_MO_measureOf_54 rfl rfl ?_
  refine G_MO_shakes tw_559 d_MO_measureOf_55 (fun i1 => ?_)
  refine P_icmp_ge 113 d_MO_measureOf_58 (by decide) g7 i1 (fun c => ?_) (fun c => ?_)
  · have hF := hF.1 c
    refine P_iload 3 d_MO_measureOf_113 rfl ?_
    exact P_iret d_MO_measureOf_115 rfl hF
  · have hF := hF.2 (Int.not_le.mp c)
    refine P_aload_n 0 d_MO_measureOf_61 rfl rfl ?_
    refine G_MO_family tw_562 d_MO_measureOf_62 ?_
    refine P_iload 4 d_MO_measureOf_65 rfl ?_
    obtain ⟨b2, hF⟩ := hF
    refine L_31 d_MO_measureOf_67 b2 (fun i3 => ?_)
    refine P_iload 4 d_MO_measureOf_68 rfl ?_
    refine P_icmp_ne 88 d_MO_measureOf_70 (by decide) i3 g7 (fun c => ?_) (fun c => ?_)
    · have hF := hF.1 c
      refine P_iconst d_MO_measureOf_88 ?_
      refine P_sub (lv' := [(0, .ref (ad 28)), (2, vI v2), (5, vI v5), (6, vI v6), (7, vI v7)]) [0, 1, 2, 3, 4] rfl ?_
      exact hF
    · have hF := hF.2 c
      refine P_aload_n 0 d_MO_measureOf_73 rfl rfl ?_
      refine P_iload 2 d_MO_measureOf_74 rfl ?_
      refine P_iload_n 1 d_MO_measureOf_76 rfl rfl ?_
      refine P_bipush d_MO_measureOf_77 (by decide) ?_
      refine P_iload 4 d_MO_measureOf_79 rfl ?_
      refine P_iadd d_MO_measureOf_81 ?_
      refine V_MO_within tw_752 d_MO_measureOf_82 (by decide) (Nat.le_of_ble_eq_true rfl) hF (fun r5 h4 i6 hF => ?_)
      refine P_goto 89 d_MO_measureOf_85 (by decide) ?_
      refine P_sub (lv' := [(0, .ref (ad 28)), (2, vI v2), (5, vI v5), (6, vI v6), (7, vI v7)]) [0, 1, 2, 3, 4] rfl ?_
      exact hF
theorem F_MO_measureOf_158  (hF : ((0 ≤ (0 : Int) → Q (some (vI 0)) h) ∧ ((0 : Int) < 0 → Q (some (vI (-0))) h))) : WP D ad ca sc M_MO_measureOf 158 [] [] h Q := by
  refine P_iconst d_MO_measureOf_158 ?_
  refine P_goto 177 d_MO_measureOf_159 (by decide) ?_
  refine P_istore (lv' := [(9, vI 0)]) [0] d_MO_measureOf_177 (by decide) rfl ?_
  refine P_iload 0 d_MO_measureOf_179 rfl ?_
  refine P_if_ge 190 d_MO_measureOf_181 (by decide) ⟨by decide, by decide⟩ (fun c => ?_) (fun c => ?_)
  · have hF := hF.1 c
    refine P_iload 0 d_MO_measureOf_190 rfl ?_
    exact P_iret d_MO_measureOf_192 rfl hF
  · have hF := hF.2 (Int.not_le.mp c)
    refine P_iload 0 d_MO_measureOf_184 rfl ?_
    refine P_ineg d_MO_measureOf_186 ?_
    refine P_goto 192 d_MO_measureOf_187 (by decide) ?_
    exact P_iret d_MO_measureOf_192 rfl hF
theorem F_MO_measureOf_89 (v2 v5 v6 v7 s0 : Int) (g2 : InR v2) (g5 : InR v5) (g6 : InR v6) (g7 : InR v7) (q0 : InR s0) (hF : ((s0 ≤ v6 → WP D ad ca sc M_MO_measureOf 52 [(0, .ref (ad 28)), (2, vI v2), (5, vI v5), (6, vI v6), (7, vI (v7 + 1))] [] h Q) ∧ (v6 < s0 → WP D ad ca sc M_MO_measureOf 52 [(0, .ref (ad 28)), (2, vI v2), (5, vI v5), (6, vI s0), (7, vI (v7 + 1))] [] h Q))) : WP D ad ca sc M_MO_measureOf 89 [(0, .ref (ad 28)), (2, vI v2), (5, vI v5), (6, vI v6), (7, vI v7)] [vI s0] h Q := by
  refine P_istore (lv' := [(0, .ref (ad 28)), (2, vI v2), (5, vI v5), (6, vI v6), (7, vI v7), (8, vI s0)]) [1, 2, 3, 4, 5, 0] d_MO_measureOf_89 (by decide) rfl ?_
  refine P_iload 5 d_MO_measureOf_91 rfl ?_
  refine P_iload 3 d_MO_measureOf_93 rfl ?_
  refine P_icmp_le 103 d_MO_measureOf_95 (by decide) q0 g6 (fun c => ?_) (fun c => ?_)
  · have hF := hF.1 c
    refine P_iload 3 d_MO_measureOf_103 rfl ?_
    refine P_istore (lv' := [(0, .ref (ad 28)), (2, vI v2), (5, vI v5), (6, vI v6), (7, vI v7), (8, vI s0)]) [1, 2, 3, 0, 4, 5] d_MO_measureOf_105 (by decide) rfl ?_
    refine P_iinc (lv' := [(0, .ref (ad 28)), (2, vI v2), (5, vI v5), (6, vI v6), (7, vI (v7 + 1)), (8, vI s0)]) 4 [1, 2, 3, 4, 0, 5] d_MO_measureOf_107 rfl (by decide) rfl ?_
    refine P_goto 52 d_MO_measureOf_110 (by decide) ?_
    refine P_sub (lv' := [(0, .ref (ad 28)), (2, vI v2), (5, vI v5), (6, vI v6), (7, vI (v7 + 1))]) [0, 1, 2, 3, 4] rfl ?_
    exact hF
  · have hF := hF.2 (Int.not_le.mp c)
    refine P_iload 5 d_MO_measureOf_98 rfl ?_
    refine P_goto 105 d_MO_measureOf_100 (by decide) ?_
    refine P_istore (lv' := [(0, .ref (ad 28)), (2, vI v2), (5, vI v5), (6, vI s0), (7, vI v7), (8, vI s0)]) [1, 2, 3, 0, 4, 5] d_MO_measureOf_105 (by decide) rfl ?_
    refine P_iinc (lv' := [(0, .ref (ad 28)), (2, vI v2), (5, vI v5), (6, vI s0), (7, vI (v7 + 1)), (8, vI s0)]) 4 [1, 2, 3, 4, 0, 5] d_MO_measureOf_107 rfl (by decide) rfl ?_
    refine P_goto 52 d_MO_measureOf_110 (by decide) ?_
    refine P_sub (lv' := [(0, .ref (ad 28)), (2, vI v2), (5, vI v5), (6, vI s0), (7, vI (v7 + 1))]) [0, 1, 2, 3, 4] rfl ?_
    exact hF
theorem F_MO_holdsOn_0 (v1 v2 : Int) (g1 : InR v1) (g2 : InR v2) (hF : WP D ad ca none M_MO_measureOf 0 [(0, .ref (ad 28)), (1, vI v1), (2, vI v2)] [] h (RI (fun r2 h1 => (0 ≤ v1 ∧ v1 < 8) ∧ ((r2 < (h1 37 v1) → Q (some (vI 0)) h1) ∧ ((h1 37 v1) ≤ r2 → Q (some (vI 1)) h1))))) : WP D ad ca sc M_MO_holdsOn 0 [(0, .ref (ad 28)), (1, vI v1), (2, vI v2)] [] h Q := by
  refine P_aload_n 0 d_MO_holdsOn_0 rfl rfl ?_
  refine P_iload_n 1 d_MO_holdsOn_1 rfl rfl ?_
  refine P_iload_n 2 d_MO_holdsOn_2 rfl rfl ?_
  refine V_MO_measureOf tw_748 d_MO_holdsOn_3 (by decide) (Nat.le_of_ble_eq_true rfl) hF (fun r2 h1 i3 hF => ?_)
  refine P_aload_n 0 d_MO_holdsOn_6 rfl rfl ?_
  refine G_MO_lawNumber tw_571 d_MO_holdsOn_7 ?_
  refine P_iload_n 1 d_MO_holdsOn_10 rfl rfl ?_
  obtain ⟨b4, hF⟩ := hF
  refine L_37 d_MO_holdsOn_11 b4 (fun i5 => ?_)
  refine P_icmp_lt 19 d_MO_holdsOn_12 (by decide) i3 i5 (fun c => ?_) (fun c => ?_)
  · have hF := hF.1 c
    refine P_iconst d_MO_holdsOn_19 ?_
    exact P_zret d_MO_holdsOn_20 rfl (Or.inl rfl) hF
  · have hF := hF.2 (Int.not_lt.mp c)
    refine P_iconst d_MO_holdsOn_15 ?_
    refine P_goto 20 d_MO_holdsOn_16 (by decide) ?_
    exact P_zret d_MO_holdsOn_20 rfl (Or.inr rfl) hF
theorem F_MO_measure_0 (v1 v2 : Int) (g1 : InR v1) (g2 : InR v2) (hF : WP D ad ca none M_MO_isLaw 0 [(0, .ref (ad 28)), (1, vI v1)] [] h (RI (fun r2 h1 => ((r2 = 0 → Q (some (vI (-1))) h1) ∧ (¬ r2 = 0 → WP D ad ca none M_MO_isDay 0 [(0, .ref (ad 28)), (1, vI v2)] [] h1 (RI (fun r5 h4 => ((r5 = 0 → Q (some (vI (-1))) h4) ∧ (¬ r5 = 0 → WP D ad ca none M_MO_measureOf 0 [(0, .ref (ad 28)), (1, vI v1), (2, vI v2)] [] h4 (RI (fun r8 h7 => Q (some (vI r8)) h7))))))))))) : WP D ad ca sc M_MO_measure 0 [(0, .ref (ad 28)), (1, vI v1), (2, vI v2)] [] h Q := by
  refine P_aload_n 0 d_MO_measure_0 rfl rfl ?_
  refine P_iload_n 1 d_MO_measure_1 rfl rfl ?_
  refine V_MO_isLaw tw_740 d_MO_measure_2 (by decide) (Nat.le_of_ble_eq_true rfl) hF (fun r2 h1 i3 hF => ?_)
  refine P_if_eq 25 d_MO_measure_5 (by decide) i3 (fun c => ?_) (fun c => ?_)
  · have hF := hF.1 c
    refine P_iconst d_MO_measure_25 ?_
    exact P_iret d_MO_measure_26 rfl hF
  · have hF := hF.2 c
    refine P_aload_n 0 d_MO_measure_8 rfl rfl ?_
    refine P_iload_n 2 d_MO_measure_9 rfl rfl ?_
    refine V_MO_isDay tw_718 d_MO_measure_10 (by decide) (Nat.le_of_ble_eq_true rfl) hF (fun r5 h4 i6 hF => ?_)
    refine P_if_eq 25 d_MO_measure_13 (by decide) i6 (fun c => ?_) (fun c => ?_)
    · have hF := hF.1 c
      refine P_iconst d_MO_measure_25 ?_
      exact P_iret d_MO_measure_26 rfl hF
    · have hF := hF.2 c
      refine P_aload_n 0 d_MO_measure_16 rfl rfl ?_
      refine P_iload_n 1 d_MO_measure_17 rfl rfl ?_
      refine P_iload_n 2 d_MO_measure_18 rfl rfl ?_
      refine V_MO_measureOf tw_748 d_MO_measure_19 (by decide) (Nat.le_of_ble_eq_true rfl) hF (fun r8 h7 i9 hF => ?_)
      refine P_goto 26 d_MO_measure_22 (by decide) ?_
      exact P_iret d_MO_measure_26 rfl hF
theorem F_MO_isTrue_0 (v1 v2 : Int) (g1 : InR v1) (g2 : InR v2) (hF : WP D ad ca none M_MO_isLaw 0 [(0, .ref (ad 28)), (1, vI v1)] [] h (RI (fun r2 h1 => ((r2 = 0 → Q (some (vI (-1))) h1) ∧ (¬ r2 = 0 → WP D ad ca none M_MO_isDay 0 [(0, .ref (ad 28)), (1, vI v2)] [] h1 (RI (fun r5 h4 => ((r5 = 0 → Q (some (vI (-1))) h4) ∧ (¬ r5 = 0 → WP D ad ca none M_MO_holdsOn 0 [(0, .ref (ad 28)), (1, vI v1), (2, vI v2)] [] h4 (RI (fun r8 h7 => ((r8 = 0 → Q (some (vI 0)) h7) ∧ (¬ r8 = 0 → Q (some (vI 1)) h7))))))))))))) : WP D ad ca sc M_MO_isTrue 0 [(0, .ref (ad 28)), (1, vI v1), (2, vI v2)] [] h Q := by
  refine P_aload_n 0 d_MO_isTrue_0 rfl rfl ?_
  refine P_iload_n 1 d_MO_isTrue_1 rfl rfl ?_
  refine V_MO_isLaw tw_740 d_MO_isTrue_2 (by decide) (Nat.le_of_ble_eq_true rfl) hF (fun r2 h1 i3 hF => ?_)
  refine P_if_eq 33 d_MO_isTrue_5 (by decide) i3 (fun c => ?_) (fun c => ?_)
  · have hF := hF.1 c
    refine P_iconst d_MO_isTrue_33 ?_
    exact P_iret d_MO_isTrue_34 rfl hF
  · have hF := hF.2 c
    refine P_aload_n 0 d_MO_isTrue_8 rfl rfl ?_
    refine P_iload_n 2 d_MO_isTrue_9 rfl rfl ?_
    refine V_MO_isDay tw_718 d_MO_isTrue_10 (by decide) (Nat.le_of_ble_eq_true rfl) hF (fun r5 h4 i6 hF => ?_)
    refine P_if_eq 33 d_MO_isTrue_13 (by decide) i6 (fun c => ?_) (fun c => ?_)
    · have hF := hF.1 c
      refine P_iconst d_MO_isTrue_33 ?_
      exact P_iret d_MO_isTrue_34 rfl hF
    · have hF := hF.2 c
      refine P_aload_n 0 d_MO_isTrue_16 rfl rfl ?_
      refine P_iload_n 1 d_MO_isTrue_17 rfl rfl ?_
      refine P_iload_n 2 d_MO_isTrue_18 rfl rfl ?_
      refine V_MO_holdsOn tw_760 d_MO_isTrue_19 (by decide) (Nat.le_of_ble_eq_true rfl) hF (fun r8 h7 i9 hF => ?_)
      refine P_if_eq 29 d_MO_isTrue_22 (by decide) i9 (fun c => ?_) (fun c => ?_)
      · have hF := hF.1 c
        refine P_iconst d_MO_isTrue_29 ?_
        refine P_goto 34 d_MO_isTrue_30 (by decide) ?_
        exact P_iret d_MO_isTrue_34 rfl hF
      · have hF := hF.2 c
        refine P_iconst d_MO_isTrue_25 ?_
        refine P_goto 34 d_MO_isTrue_26 (by decide) ?_
        exact P_iret d_MO_isTrue_34 rfl hF
theorem F_MO_rest_0 (v1 : Int) (g1 : InR v1) (hF : WP D ad ca none M_MO_in 0 [(0, vI v1), (1, vI 1), (2, vI 30)] [] h (RI (fun r2 h1 => ((¬ r2 = 0 → Q (some (vI (h1 28 15))) (up h1 28 15 v1)) ∧ (r2 = 0 → Q (some (vI (-2))) h1))))) : WP D ad ca sc M_MO_rest 0 [(0, .ref (ad 28)), (1, vI v1)] [] h Q := by
  refine P_iload_n 1 d_MO_rest_0 rfl rfl ?_
  refine P_iconst d_MO_rest_1 ?_
  refine P_bipush d_MO_rest_2 (by decide) ?_
  refine V_MO_in tw_670 d_MO_rest_4 (by decide) (Nat.le_of_ble_eq_true rfl) hF (fun r2 h1 i3 hF => ?_)
  refine P_if_ne 13 d_MO_rest_7 (by decide) i3 (fun c => ?_) (fun c => ?_)
  · have hF := hF.1 c
    refine P_aload_n 0 d_MO_rest_13 rfl rfl ?_
    refine G_MO_rest tw_573 d_MO_rest_14 (fun i4 => ?_)
    refine P_istore_n (lv' := [(0, .ref (ad 28)), (1, vI v1), (2, vI (h1 28 15))]) [1, 2, 0] d_MO_rest_17 rfl (by decide) rfl ?_
    refine P_aload_n 0 d_MO_rest_18 rfl rfl ?_
    refine P_iload_n 1 d_MO_rest_19 rfl rfl ?_
    refine S_MO_rest tw_573 d_MO_rest_20 g1 ?_
    refine P_iload_n 2 d_MO_rest_23 rfl rfl ?_
    exact P_iret d_MO_rest_24 rfl hF
  · have hF := hF.2 c
    refine P_bipush d_MO_rest_10 (by decide) ?_
    exact P_iret d_MO_rest_12 rfl hF
theorem F_MO_holdNow_0  (hF : (((h 28 19) ≤ (h 28 0) → Q (some (vI 0)) h) ∧ ((h 28 0) < (h 28 19) → Q (some (vI (h 28 18))) h))) : WP D ad ca sc M_MO_holdNow 0 [(0, .ref (ad 28))] [] h Q := by
  refine P_aload_n 0 d_MO_holdNow_0 rfl rfl ?_
  refine G_MO_today tw_558 d_MO_holdNow_1 (fun i1 => ?_)
  refine P_aload_n 0 d_MO_holdNow_4 rfl rfl ?_
  refine G_MO_holdEnd tw_577 d_MO_holdNow_5 (fun i2 => ?_)
  refine P_icmp_ge 18 d_MO_holdNow_8 (by decide) i1 i2 (fun c => ?_) (fun c => ?_)
  · have hF := hF.1 c
    refine P_iconst d_MO_holdNow_18 ?_
    exact P_iret d_MO_holdNow_19 rfl hF
  · have hF := hF.2 (Int.not_le.mp c)
    refine P_aload_n 0 d_MO_holdNow_11 rfl rfl ?_
    refine G_MO_holdLevel tw_576 d_MO_holdNow_12 (fun i3 => ?_)
    refine P_goto 19 d_MO_holdNow_15 (by decide) ?_
    exact P_iret d_MO_holdNow_19 rfl hF
theorem F_MO_wanted_0  (hF : WP D ad ca none M_MO_holdNow 0 [(0, .ref (ad 28))] [] h (RI (fun r2 h1 => WP D ad ca sc M_MO_wanted 7 [(0, .ref (ad 28)), (1, vI r2), (2, vI 0)] [] h1 Q))) : WP D ad ca sc M_MO_wanted 0 [(0, .ref (ad 28))] [] h Q := by
  refine P_aload_n 0 d_MO_wanted_0 rfl rfl ?_
  refine V_MO_holdNow tw_776 d_MO_wanted_1 (by decide) (Nat.le_of_ble_eq_true rfl) hF (fun r2 h1 i3 hF => ?_)
  refine P_istore_n (lv' := [(0, .ref (ad 28)), (1, vI r2)]) [1, 0] d_MO_wanted_4 rfl (by decide) rfl ?_
  refine P_iconst d_MO_wanted_5 ?_
  refine P_istore_n (lv' := [(0, .ref (ad 28)), (1, vI r2), (2, vI 0)]) [1, 2, 0] d_MO_wanted_6 rfl (by decide) rfl ?_
  refine P_sub (lv' := [(0, .ref (ad 28)), (1, vI r2), (2, vI 0)]) [0, 1, 2] rfl ?_
  exact hF
theorem F_MO_wanted_7 (v1 v2 : Int) (g1 : InR v1) (g2 : InR v2) (hF : (((h 28 10) ≤ v2 → Q (some (vI v1)) h) ∧ (v2 < (h 28 10) → (0 ≤ v2 ∧ v2 < 8) ∧ (((h 35 v2) ≤ v1 → WP D ad ca sc M_MO_wanted 7 [(0, .ref (ad 28)), (1, vI v1), (2, vI (v2 + 1))] [] h Q) ∧ (v1 < (h 35 v2) → WP D ad ca none M_MO_holdsOn 0 [(0, .ref (ad 28)), (1, vI v2), (2, vI (h 28 0))] [] h (RI (fun r6 h5 => ((r6 = 0 → WP D ad ca sc M_MO_wanted 7 [(0, .ref (ad 28)), (1, vI v1), (2, vI (v2 + 1))] [] h5 Q) ∧ (¬ r6 = 0 → (0 ≤ v2 ∧ v2 < 8) ∧ WP D ad ca sc M_MO_wanted 7 [(0, .ref (ad 28)), (1, vI (h5 35 v2)), (2, vI (v2 + 1))] [] h5 Q))))))))) : WP D ad ca sc M_MO_wanted 7 [(0, .ref (ad 28)), (1, vI v1), (2, vI v2)] [] h Q := by
  refine P_iload_n 2 d_MO_wanted_7 rfl rfl ?_
  refine P_aload_n 0 d_MO_wanted_8 rfl rfl ?_
  refine G_MO_laws tw_568 d_MO_wanted_9 (fun i1 => ?_)
  refine P_icmp_ge 54 d_MO_wanted_12 (by decide) g2 i1 (fun c => ?_) (fun c => ?_)
  · have hF := hF.1 c
    refine P_iload_n 1 d_MO_wanted_54 rfl rfl ?_
    exact P_iret d_MO_wanted_55 rfl hF
  · have hF := hF.2 (Int.not_le.mp c)
    refine P_aload_n 0 d_MO_wanted_15 rfl rfl ?_
    refine G_MO_lawLevel tw_569 d_MO_wanted_16 ?_
    refine P_iload_n 2 d_MO_wanted_19 rfl rfl ?_
    obtain ⟨b2, hF⟩ := hF
    refine L_35 d_MO_wanted_20 b2 (fun i3 => ?_)
    refine P_iload_n 1 d_MO_wanted_21 rfl rfl ?_
    refine P_icmp_le 46 d_MO_wanted_22 (by decide) i3 g1 (fun c => ?_) (fun c => ?_)
    · have hF := hF.1 c
      refine P_iload_n 1 d_MO_wanted_46 rfl rfl ?_
      refine P_istore_n (lv' := [(0, .ref (ad 28)), (1, vI v1), (2, vI v2)]) [1, 0, 2] d_MO_wanted_47 rfl (by decide) rfl ?_
      refine P_iinc (lv' := [(0, .ref (ad 28)), (1, vI v1), (2, vI (v2 + 1))]) 2 [1, 2, 0] d_MO_wanted_48 rfl (by decide) rfl ?_
      refine P_goto 7 d_MO_wanted_51 (by decide) ?_
      refine P_sub (lv' := [(0, .ref (ad 28)), (1, vI v1), (2, vI (v2 + 1))]) [0, 1, 2] rfl ?_
      exact hF
    · have hF := hF.2 (Int.not_le.mp c)
      refine P_aload_n 0 d_MO_wanted_25 rfl rfl ?_
      refine P_iload_n 2 d_MO_wanted_26 rfl rfl ?_
      refine P_aload_n 0 d_MO_wanted_27 rfl rfl ?_
      refine G_MO_today tw_558 d_MO_wanted_28 (fun i4 => ?_)
      refine V_MO_holdsOn tw_760 d_MO_wanted_31 (by decide) (Nat.le_of_ble_eq_true rfl) hF (fun r6 h5 i7 hF => ?_)
      refine P_if_eq 46 d_MO_wanted_34 (by decide) i7 (fun c => ?_) (fun c => ?_)
      · have hF := hF.1 c
        refine P_iload_n 1 d_MO_wanted_46 rfl rfl ?_
        refine P_istore_n (lv' := [(0, .ref (ad 28)), (1, vI v1), (2, vI v2)]) [1, 0, 2] d_MO_wanted_47 rfl (by decide) rfl ?_
        refine P_iinc (lv' := [(0, .ref (ad 28)), (1, vI v1), (2, vI (v2 + 1))]) 2 [1, 2, 0] d_MO_wanted_48 rfl (by decide) rfl ?_
        refine P_goto 7 d_MO_wanted_51 (by decide) ?_
        refine P_sub (lv' := [(0, .ref (ad 28)), (1, vI v1), (2, vI (v2 + 1))]) [0, 1, 2] rfl ?_
        exact hF
      · have hF := hF.2 c
        refine P_aload_n 0 d_MO_wanted_37 rfl rfl ?_
        refine G_MO_lawLevel tw_569 d_MO_wanted_38 ?_
        refine P_iload_n 2 d_MO_wanted_41 rfl rfl ?_
        obtain ⟨b8, hF⟩ := hF
        refine L_35 d_MO_wanted_42 b8 (fun i9 => ?_)
        refine P_goto 47 d_MO_wanted_43 (by decide) ?_
        refine P_istore_n (lv' := [(0, .ref (ad 28)), (1, vI (h5 35 v2)), (2, vI v2)]) [1, 0, 2] d_MO_wanted_47 rfl (by decide) rfl ?_
        refine P_iinc (lv' := [(0, .ref (ad 28)), (1, vI (h5 35 v2)), (2, vI (v2 + 1))]) 2 [1, 2, 0] d_MO_wanted_48 rfl (by decide) rfl ?_
        refine P_goto 7 d_MO_wanted_51 (by decide) ?_
        refine P_sub (lv' := [(0, .ref (ad 28)), (1, vI (h5 35 v2)), (2, vI (v2 + 1))]) [0, 1, 2] rfl ?_
        exact hF
theorem F_MO_tells_0 (v1 v2 v3 v4 : Int) (g1 : InR v1) (g2 : InR v2) (g3 : InR v3) (g4 : InR v4) (hF : ((200 ≤ (h 28 20) → Q none h) ∧ ((h 28 20) < 200 → (0 ≤ (5 * (h 28 20)) ∧ (5 * (h 28 20)) < 1000) ∧ (0 ≤ ((5 * (h 28 20)) + 1) ∧ ((5 * (h 28 20)) + 1) < 1000) ∧ (0 ≤ ((5 * (h 28 20)) + 2) ∧ ((5 * (h 28 20)) + 2) < 1000) ∧ (0 ≤ ((5 * (h 28 20)) + 3) ∧ ((5 * (h 28 20)) + 3) < 1000) ∧ (0 ≤ ((5 * (h 28 20)) + 4) ∧ ((5 * (h 28 20)) + 4) < 1000) ∧ (InR ((h 28 20) + 1)) ∧ Q none (up (up (up (up (up (up h 39 (5 * (h 28 20)) v1) 39 ((5 * (h 28 20)) + 1) v2) 39 ((5 * (h 28 20)) + 2) (h 28 0)) 39 ((5 * (h 28 20)) + 3) v3) 39 ((5 * (h 28 20)) + 4) v4) 28 20 ((h 28 20) + 1))))) : WP D ad ca sc M_MO_tells 0 [(0, .ref (ad 28)), (1, vI v1), (2, vI v2), (3, vI v3), (4, vI v4)] [] h Q := by
  refine P_aload_n 0 d_MO_tells_0 rfl rfl ?_
  refine G_MO_kept tw_578 d_MO_tells_1 (fun i1 => ?_)
  refine P_sipush d_MO_tells_4 (by decide) ?_
  refine P_icmp_ge 92 d_MO_tells_7 (by decide) i1 ⟨by decide, by decide⟩ (fun c => ?_) (fun c => ?_)
  · have hF := hF.1 c
    exact P_vret d_MO_tells_92 rfl hF
  · have hF := hF.2 (Int.not_le.mp c)
    refine P_aload_n 0 d_MO_tells_10 rfl rfl ?_
    refine G_MO_message tw_579 d_MO_tells_11 ?_
    refine P_iconst d_MO_tells_14 ?_
    refine P_aload_n 0 d_MO_tells_15 rfl rfl ?_
    refine G_MO_kept tw_578 d_MO_tells_16 (fun i2 => ?_)
    refine P_imul d_MO_tells_19 ?_
    refine P_iload_n 1 d_MO_tells_20 rfl rfl ?_
    obtain ⟨b3, hF⟩ := hF
    refine T_39 d_MO_tells_21 b3 g1 ?_
    refine P_aload_n 0 d_MO_tells_22 rfl rfl ?_
    refine G_MO_message tw_579 d_MO_tells_23 ?_
    refine P_iconst d_MO_tells_26 ?_
    refine P_aload_n 0 d_MO_tells_27 rfl rfl ?_
    refine G_MO_kept tw_578 d_MO_tells_28 (fun i4 => ?_)
    refine P_imul d_MO_tells_31 ?_
    refine P_iconst d_MO_tells_32 ?_
    refine P_iadd d_MO_tells_33 ?_
    refine P_iload_n 2 d_MO_tells_34 rfl rfl ?_
    obtain ⟨b5, hF⟩ := hF
    refine T_39 d_MO_tells_35 b5 g2 ?_
    refine P_aload_n 0 d_MO_tells_36 rfl rfl ?_
    refine G_MO_message tw_579 d_MO_tells_37 ?_
    refine P_iconst d_MO_tells_40 ?_
    refine P_aload_n 0 d_MO_tells_41 rfl rfl ?_
    refine G_MO_kept tw_578 d_MO_tells_42 (fun i6 => ?_)
    refine P_imul d_MO_tells_45 ?_
    refine P_iconst d_MO_tells_46 ?_
    refine P_iadd d_MO_tells_47 ?_
    refine P_aload_n 0 d_MO_tells_48 rfl rfl ?_
    refine G_MO_today tw_558 d_MO_tells_49 (fun i7 => ?_)
    obtain ⟨b8, hF⟩ := hF
    refine T_39 d_MO_tells_52 b8 i7 ?_
    refine P_aload_n 0 d_MO_tells_53 rfl rfl ?_
    refine G_MO_message tw_579 d_MO_tells_54 ?_
    refine P_iconst d_MO_tells_57 ?_
    refine P_aload_n 0 d_MO_tells_58 rfl rfl ?_
    refine G_MO_kept tw_578 d_MO_tells_59 (fun i9 => ?_)
    refine P_imul d_MO_tells_62 ?_
    refine P_iconst d_MO_tells_63 ?_
    refine P_iadd d_MO_tells_64 ?_
    refine P_iload_n 3 d_MO_tells_65 rfl rfl ?_
    obtain ⟨b10, hF⟩ := hF
    refine T_39 d_MO_tells_66 b10 g3 ?_
    refine P_aload_n 0 d_MO_tells_67 rfl rfl ?_
    refine G_MO_message tw_579 d_MO_tells_68 ?_
    refine P_iconst d_MO_tells_71 ?_
    refine P_aload_n 0 d_MO_tells_72 rfl rfl ?_
    refine G_MO_kept tw_578 d_MO_tells_73 (fun i11 => ?_)
    refine P_imul d_MO_tells_76 ?_
    refine P_iconst d_MO_tells_77 ?_
    refine P_iadd d_MO_tells_78 ?_
    refine P_iload 4 d_MO_tells_79 rfl ?_
    obtain ⟨b12, hF⟩ := hF
    refine T_39 d_MO_tells_81 b12 g4 ?_
    refine P_aload_n 0 d_MO_tells_82 rfl rfl ?_
    refine P_dup d_MO_tells_83 rfl ?_
    refine G_MO_kept tw_578 d_MO_tells_84 (fun i13 => ?_)
    refine P_iconst d_MO_tells_87 ?_
    refine P_iadd d_MO_tells_88 ?_
    obtain ⟨b14, hF⟩ := hF
    refine S_MO_kept tw_578 d_MO_tells_89 b14 ?_
    exact P_vret d_MO_tells_92 rfl hF
theorem F_MO_turns_0 (v1 v2 : Int) (g1 : InR v1) (g2 : InR v2) (hF : (InR ((h 28 22) + 1)) ∧ WP D ad ca none M_MO_tells 0 [(0, .ref (ad 28)), (1, vI 0), (2, vI ((h 28 22) + 1)), (3, vI v1), (4, vI v2)] [] (up (up (up h 28 16 v1) 28 17 0) 28 22 ((h 28 22) + 1)) (RV (fun h4 => Q (some (vI (h4 28 22))) h4))) : WP D ad ca sc M_MO_turns 0 [(0, .ref (ad 28)), (1, vI v1), (2, vI v2)] [] h Q := by
  refine P_aload_n 0 d_MO_turns_0 rfl rfl ?_
  refine P_iload_n 1 d_MO_turns_1 rfl rfl ?_
  refine S_MO_level tw_574 d_MO_turns_2 g1 ?_
  refine P_aload_n 0 d_MO_turns_5 rfl rfl ?_
  refine P_iconst d_MO_turns_6 ?_
  refine S_MO_calm tw_575 d_MO_turns_7 ⟨by decide, by decide⟩ ?_
  refine P_aload_n 0 d_MO_turns_10 rfl rfl ?_
  refine P_dup d_MO_turns_11 rfl ?_
  refine G_MO_messages tw_580 d_MO_turns_12 (fun i1 => ?_)
  refine P_iconst d_MO_turns_15 ?_
  refine P_iadd d_MO_turns_16 ?_
  obtain ⟨b2, hF⟩ := hF
  refine S_MO_messages tw_580 d_MO_turns_17 b2 ?_
  refine P_aload_n 0 d_MO_turns_20 rfl rfl ?_
  refine P_iconst d_MO_turns_21 ?_
  refine P_aload_n 0 d_MO_turns_22 rfl rfl ?_
  refine G_MO_messages tw_580 d_MO_turns_23 (fun i3 => ?_)
  refine P_iload_n 1 d_MO_turns_26 rfl rfl ?_
  refine P_iload_n 2 d_MO_turns_27 rfl rfl ?_
  refine V_MO_tells tw_784 d_MO_turns_28 (by decide) (Nat.le_of_ble_eq_true rfl) hF (fun h4 hF => ?_)
  refine P_aload_n 0 d_MO_turns_31 rfl rfl ?_
  refine G_MO_messages tw_580 d_MO_turns_32 (fun i5 => ?_)
  exact P_iret d_MO_turns_35 rfl hF
theorem F_MO_next_0  (hF : ((¬ (h 28 0) = 999 → WP D ad ca none M_MO_wanted 0 [(0, .ref (ad 28))] [] h (RI (fun r3 h2 => ((r3 ≤ (h2 28 16) → (((h2 28 16) ≤ r3 → WP D ad ca sc M_MO_next 103 [(0, .ref (ad 28))] [vI 0, .ref (ad 28)] h2 Q) ∧ (r3 < (h2 28 16) → WP D ad ca sc M_MO_next 103 [(0, .ref (ad 28))] [vI ((h2 28 17) + 1), .ref (ad 28)] h2 Q))) ∧ ((h2 28 16) < r3 → WP D ad ca sc M_MO_next 36 [(0, .ref (ad 28)), (1, vI r3), (2, vI 20), (3, vI ((h2 28 10) - 1))] [] h2 Q))))) ∧ ((h 28 0) = 999 → Q (some (vI (-3))) h))) : WP D ad ca sc M_MO_next 0 [(0, .ref (ad 28))] [] h Q := by
  refine P_aload_n 0 d_MO_next_0 rfl rfl ?_
  refine G_MO_today tw_558 d_MO_next_1 (fun i1 => ?_)
  refine P_sipush d_MO_next_4 (by decide) ?_
  refine P_icmp_ne 13 d_MO_next_7 (by decide) i1 ⟨by decide, by decide⟩ (fun c => ?_) (fun c => ?_)
  · have hF := hF.1 c
    refine P_aload_n 0 d_MO_next_13 rfl rfl ?_
    refine V_MO_wanted tw_772 d_MO_next_14 (by decide) (Nat.le_of_ble_eq_true rfl) hF (fun r3 h2 i4 hF => ?_)
    refine P_istore_n (lv' := [(0, .ref (ad 28)), (1, vI r3)]) [1, 0] d_MO_next_17 rfl (by decide) rfl ?_
    refine P_iload_n 1 d_MO_next_18 rfl rfl ?_
    refine P_aload_n 0 d_MO_next_19 rfl rfl ?_
    refine G_MO_level tw_574 d_MO_next_20 (fun i5 => ?_)
    refine P_icmp_le 84 d_MO_next_23 (by decide) i4 i5 (fun c => ?_) (fun c => ?_)
    · have hF := hF.1 c
      refine P_aload_n 0 d_MO_next_84 rfl rfl ?_
      refine P_iload_n 1 d_MO_next_85 rfl rfl ?_
      refine P_aload_n 0 d_MO_next_86 rfl rfl ?_
      refine G_MO_level tw_574 d_MO_next_87 (fun i6 => ?_)
      refine P_icmp_ge 102 d_MO_next_90 (by decide) i4 i6 (fun c => ?_) (fun c => ?_)
      · have hF := hF.1 c
        refine P_iconst d_MO_next_102 ?_
        refine P_sub (lv' := [(0, .ref (ad 28))]) [0] rfl ?_
        exact hF
      · have hF := hF.2 (Int.not_le.mp c)
        refine P_aload_n 0 d_MO_next_93 rfl rfl ?_
        refine G_MO_calm tw_575 d_MO_next_94 (fun i7 => ?_)
        refine P_iconst d_MO_next_97 ?_
        refine P_iadd d_MO_next_98 ?_
        refine P_goto 103 d_MO_next_99 (by decide) ?_
        refine P_sub (lv' := [(0, .ref (ad 28))]) [0] rfl ?_
        exact hF
    · have hF := hF.2 (Int.not_le.mp c)
      refine P_bipush d_MO_next_26 (by decide) ?_
      refine P_istore_n (lv' := [(0, .ref (ad 28)), (1, vI r3), (2, vI 20)]) [1, 2, 0] d_MO_next_28 rfl (by decide) rfl ?_
      refine P_aload_n 0 d_MO_next_29 rfl rfl ?_
      refine G_MO_laws tw_568 d_MO_next_30 (fun i8 => ?_)
      refine P_iconst d_MO_next_33 ?_
      refine P_isub d_MO_next_34 ?_
      refine P_istore_n (lv' := [(0, .ref (ad 28)), (1, vI r3), (2, vI 20), (3, vI ((h2 28 10) - 1))]) [1, 2, 3, 0] d_MO_next_35 rfl (by decide) rfl ?_
      refine P_sub (lv' := [(0, .ref (ad 28)), (1, vI r3), (2, vI 20), (3, vI ((h2 28 10) - 1))]) [0, 1, 2, 3] rfl ?_
      exact hF
  · have hF := hF.2 c
    refine P_bipush d_MO_next_10 (by decide) ?_
    exact P_iret d_MO_next_12 rfl hF
theorem F_MO_next_103 (s0 : Int) (q0 : InR s0) (hF : ((s0 < (h 28 15) → (InR ((h 28 0) + 1)) ∧ Q (some (vI (h 28 16))) (up (up h 28 17 s0) 28 0 ((h 28 0) + 1))) ∧ ((h 28 15) ≤ s0 → (((h 28 16) ≤ 0 → (InR ((h 28 0) + 1)) ∧ Q (some (vI (h 28 16))) (up (up h 28 17 s0) 28 0 ((h 28 0) + 1))) ∧ (0 < (h 28 16) → WP D ad ca none M_MO_turns 0 [(0, .ref (ad 28)), (1, vI ((h 28 16) - 1)), (2, vI 21)] [] (up h 28 17 s0) (RI (fun r12 h11 => (InR ((h11 28 0) + 1)) ∧ Q (some (vI (h11 28 16))) (up h11 28 0 ((h11 28 0) + 1))))))))) : WP D ad ca sc M_MO_next 103 [(0, .ref (ad 28))] [vI s0, .ref (ad 28)] h Q := by
  refine S_MO_calm tw_575 d_MO_next_103 q0 ?_
  refine P_aload_n 0 d_MO_next_106 rfl rfl ?_
  refine G_MO_calm tw_575 d_MO_next_107 (fun i1 => ?_)
  refine P_aload_n 0 d_MO_next_110 rfl rfl ?_
  refine G_MO_rest tw_573 d_MO_next_111 (fun i2 => ?_)
  refine P_icmp_lt 137 d_MO_next_114 (by decide) i1 i2 (fun c => ?_) (fun c => ?_)
  · have hF := hF.1 c
    refine P_aload_n 0 d_MO_next_137 rfl rfl ?_
    refine P_dup d_MO_next_138 rfl ?_
    refine G_MO_today tw_558 d_MO_next_139 (fun i3 => ?_)
    refine P_iconst d_MO_next_142 ?_
    refine P_iadd d_MO_next_143 ?_
    obtain ⟨b4, hF⟩ := hF
    refine S_MO_today tw_558 d_MO_next_144 b4 ?_
    refine P_aload_n 0 d_MO_next_147 rfl rfl ?_
    refine G_MO_level tw_574 d_MO_next_148 (fun i5 => ?_)
    exact P_iret d_MO_next_151 rfl hF
  · have hF := hF.2 (Int.not_lt.mp c)
    refine P_aload_n 0 d_MO_next_117 rfl rfl ?_
    refine G_MO_level tw_574 d_MO_next_118 (fun i6 => ?_)
    refine P_if_le 137 d_MO_next_121 (by decide) i6 (fun c => ?_) (fun c => ?_)
    · have hF := hF.1 c
      refine P_aload_n 0 d_MO_next_137 rfl rfl ?_
      refine P_dup d_MO_next_138 rfl ?_
      refine G_MO_today tw_558 d_MO_next_139 (fun i7 => ?_)
      refine P_iconst d_MO_next_142 ?_
      refine P_iadd d_MO_next_143 ?_
      obtain ⟨b8, hF⟩ := hF
      refine S_MO_today tw_558 d_MO_next_144 b8 ?_
      refine P_aload_n 0 d_MO_next_147 rfl rfl ?_
      refine G_MO_level tw_574 d_MO_next_148 (fun i9 => ?_)
      exact P_iret d_MO_next_151 rfl hF
    · have hF := hF.2 (Int.not_le.mp c)
      refine P_aload_n 0 d_MO_next_124 rfl rfl ?_
      refine P_aload_n 0 d_MO_next_125 rfl rfl ?_
      refine G_MO_level tw_574 d_MO_next_126 (fun i10 => ?_)
      refine P_iconst d_MO_next_129 ?_
      refine P_isub d_MO_next_130 ?_
      refine P_bipush d_MO_next_131 (by decide) ?_
      refine V_MO_turns tw_780 d_MO_next_133 (by decide) (Nat.le_of_ble_eq_true rfl) hF (fun r12 h11 i13 hF => ?_)
      refine P_istore_n (lv' := [(0, .ref (ad 28)), (2, vI r12)]) [1, 0] d_MO_next_136 rfl (by decide) rfl ?_
      refine P_aload_n 0 d_MO_next_137 rfl rfl ?_
      refine P_dup d_MO_next_138 rfl ?_
      refine G_MO_today tw_558 d_MO_next_139 (fun i14 => ?_)
      refine P_iconst d_MO_next_142 ?_
      refine P_iadd d_MO_next_143 ?_
      obtain ⟨b15, hF⟩ := hF
      refine S_MO_today tw_558 d_MO_next_144 b15 ?_
      refine P_aload_n 0 d_MO_next_147 rfl rfl ?_
      refine G_MO_level tw_574 d_MO_next_148 (fun i16 => ?_)
      exact P_iret d_MO_next_151 rfl hF
theorem F_MO_next_36 (v1 v2 v3 : Int) (g1 : InR v1) (g2 : InR v2) (g3 : InR v3) (hF : ((v3 < 0 → WP D ad ca none M_MO_turns 0 [(0, .ref (ad 28)), (1, vI v1), (2, vI v2)] [] h (RI (fun r2 h1 => (InR ((h1 28 0) + 1)) ∧ Q (some (vI (h1 28 16))) (up h1 28 0 ((h1 28 0) + 1))))) ∧ (0 ≤ v3 → (0 ≤ v3 ∧ v3 < 8) ∧ ((¬ (h 35 v3) = v1 → WP D ad ca sc M_MO_next 36 [(0, .ref (ad 28)), (1, vI v1), (2, vI v2), (3, vI (v3 + (-1)))] [] h Q) ∧ ((h 35 v3) = v1 → WP D ad ca none M_MO_holdsOn 0 [(0, .ref (ad 28)), (1, vI v3), (2, vI (h 28 0))] [] h (RI (fun r11 h10 => ((r11 = 0 → WP D ad ca sc M_MO_next 36 [(0, .ref (ad 28)), (1, vI v1), (2, vI v2), (3, vI (v3 + (-1)))] [] h10 Q) ∧ (¬ r11 = 0 → WP D ad ca sc M_MO_next 36 [(0, .ref (ad 28)), (1, vI v1), (2, vI v3), (3, vI (v3 + (-1)))] [] h10 Q))))))))) : WP D ad ca sc M_MO_next 36 [(0, .ref (ad 28)), (1, vI v1), (2, vI v2), (3, vI v3)] [] h Q := by
  refine P_iload_n 3 d_MO_next_36 rfl rfl ?_
  refine P_if_lt 74 d_MO_next_37 (by decide) g3 (fun c => ?_) (fun c => ?_)
  · have hF := hF.1 c
    refine P_aload_n 0 d_MO_next_74 rfl rfl ?_
    refine P_iload_n 1 d_MO_next_75 rfl rfl ?_
    refine P_iload_n 2 d_MO_next_76 rfl rfl ?_
    refine V_MO_turns tw_780 d_MO_next_77 (by decide) (Nat.le_of_ble_eq_true rfl) hF (fun r2 h1 i3 hF => ?_)
    refine P_istore_n (lv' := [(0, .ref (ad 28)), (1, vI v1), (2, vI v2), (3, vI r2)]) [1, 2, 3, 0] d_MO_next_80 rfl (by decide) rfl ?_
    refine P_goto 137 d_MO_next_81 (by decide) ?_
    refine P_aload_n 0 d_MO_next_137 rfl rfl ?_
    refine P_dup d_MO_next_138 rfl ?_
    refine G_MO_today tw_558 d_MO_next_139 (fun i4 => ?_)
    refine P_iconst d_MO_next_142 ?_
    refine P_iadd d_MO_next_143 ?_
    obtain ⟨b5, hF⟩ := hF
    refine S_MO_today tw_558 d_MO_next_144 b5 ?_
    refine P_aload_n 0 d_MO_next_147 rfl rfl ?_
    refine G_MO_level tw_574 d_MO_next_148 (fun i6 => ?_)
    exact P_iret d_MO_next_151 rfl hF
  · have hF := hF.2 (Int.not_lt.mp c)
    refine P_aload_n 0 d_MO_next_40 rfl rfl ?_
    refine G_MO_lawLevel tw_569 d_MO_next_41 ?_
    refine P_iload_n 3 d_MO_next_44 rfl rfl ?_
    obtain ⟨b7, hF⟩ := hF
    refine L_35 d_MO_next_45 b7 (fun i8 => ?_)
    refine P_iload_n 1 d_MO_next_46 rfl rfl ?_
    refine P_icmp_ne 66 d_MO_next_47 (by decide) i8 g1 (fun c => ?_) (fun c => ?_)
    · have hF := hF.1 c
      refine P_iload_n 2 d_MO_next_66 rfl rfl ?_
      refine P_istore_n (lv' := [(0, .ref (ad 28)), (1, vI v1), (2, vI v2), (3, vI v3)]) [1, 2, 0, 3] d_MO_next_67 rfl (by decide) rfl ?_
      refine P_iinc (lv' := [(0, .ref (ad 28)), (1, vI v1), (2, vI v2), (3, vI (v3 + (-1)))]) 3 [1, 2, 3, 0] d_MO_next_68 rfl (by decide) rfl ?_
      refine P_goto 36 d_MO_next_71 (by decide) ?_
      refine P_sub (lv' := [(0, .ref (ad 28)), (1, vI v1), (2, vI v2), (3, vI (v3 + (-1)))]) [0, 1, 2, 3] rfl ?_
      exact hF
    · have hF := hF.2 c
      refine P_aload_n 0 d_MO_next_50 rfl rfl ?_
      refine P_iload_n 3 d_MO_next_51 rfl rfl ?_
      refine P_aload_n 0 d_MO_next_52 rfl rfl ?_
      refine G_MO_today tw_558 d_MO_next_53 (fun i9 => ?_)
      refine V_MO_holdsOn tw_760 d_MO_next_56 (by decide) (Nat.le_of_ble_eq_true rfl) hF (fun r11 h10 i12 hF => ?_)
      refine P_if_eq 66 d_MO_next_59 (by decide) i12 (fun c => ?_) (fun c => ?_)
      · have hF := hF.1 c
        refine P_iload_n 2 d_MO_next_66 rfl rfl ?_
        refine P_istore_n (lv' := [(0, .ref (ad 28)), (1, vI v1), (2, vI v2), (3, vI v3)]) [1, 2, 0, 3] d_MO_next_67 rfl (by decide) rfl ?_
        refine P_iinc (lv' := [(0, .ref (ad 28)), (1, vI v1), (2, vI v2), (3, vI (v3 + (-1)))]) 3 [1, 2, 3, 0] d_MO_next_68 rfl (by decide) rfl ?_
        refine P_goto 36 d_MO_next_71 (by decide) ?_
        refine P_sub (lv' := [(0, .ref (ad 28)), (1, vI v1), (2, vI v2), (3, vI (v3 + (-1)))]) [0, 1, 2, 3] rfl ?_
        exact hF
      · have hF := hF.2 c
        refine P_iload_n 3 d_MO_next_62 rfl rfl ?_
        refine P_goto 67 d_MO_next_63 (by decide) ?_
        refine P_istore_n (lv' := [(0, .ref (ad 28)), (1, vI v1), (2, vI v3), (3, vI v3)]) [1, 2, 0, 3] d_MO_next_67 rfl (by decide) rfl ?_
        refine P_iinc (lv' := [(0, .ref (ad 28)), (1, vI v1), (2, vI v3), (3, vI (v3 + (-1)))]) 3 [1, 2, 3, 0] d_MO_next_68 rfl (by decide) rfl ?_
        refine P_goto 36 d_MO_next_71 (by decide) ?_
        refine P_sub (lv' := [(0, .ref (ad 28)), (1, vI v1), (2, vI v3), (3, vI (v3 + (-1)))]) [0, 1, 2, 3] rfl ?_
        exact hF
theorem F_MO_hold_0 (v1 v2 : Int) (g1 : InR v1) (g2 : InR v2) (hF : WP D ad ca none M_MO_in 0 [(0, vI v1), (1, vI 1), (2, vI 4)] [] h (RI (fun r2 h1 => ((r2 = 0 → Q (some (vI (-2))) h1) ∧ (¬ r2 = 0 → WP D ad ca none M_MO_in 0 [(0, vI v2), (1, vI 1), (2, vI 100)] [] h1 (RI (fun r5 h4 => ((¬ r5 = 0 → (InR ((h4 28 0) + v2)) ∧ Q (some (vI ((h4 28 0) + v2))) (up (up h4 28 18 v1) 28 19 ((h4 28 0) + v2))) ∧ (r5 = 0 → Q (some (vI (-2))) h4))))))))) : WP D ad ca sc M_MO_hold 0 [(0, .ref (ad 28)), (1, vI v1), (2, vI v2)] [] h Q := by
  refine P_iload_n 1 d_MO_hold_0 rfl rfl ?_
  refine P_iconst d_MO_hold_1 ?_
  refine P_iconst d_MO_hold_2 ?_
  refine V_MO_in tw_670 d_MO_hold_3 (by decide) (Nat.le_of_ble_eq_true rfl) hF (fun r2 h1 i3 hF => ?_)
  refine P_if_eq 19 d_MO_hold_6 (by decide) i3 (fun c => ?_) (fun c => ?_)
  · have hF := hF.1 c
    refine P_bipush d_MO_hold_19 (by decide) ?_
    exact P_iret d_MO_hold_21 rfl hF
  · have hF := hF.2 c
    refine P_iload_n 2 d_MO_hold_9 rfl rfl ?_
    refine P_iconst d_MO_hold_10 ?_
    refine P_bipush d_MO_hold_11 (by decide) ?_
    refine V_MO_in tw_670 d_MO_hold_13 (by decide) (Nat.le_of_ble_eq_true rfl) hF (fun r5 h4 i6 hF => ?_)
    refine P_if_ne 22 d_MO_hold_16 (by decide) i6 (fun c => ?_) (fun c => ?_)
    · have hF := hF.1 c
      refine P_aload_n 0 d_MO_hold_22 rfl rfl ?_
      refine P_iload_n 1 d_MO_hold_23 rfl rfl ?_
      refine S_MO_holdLevel tw_576 d_MO_hold_24 g1 ?_
      refine P_aload_n 0 d_MO_hold_27 rfl rfl ?_
      refine P_aload_n 0 d_MO_hold_28 rfl rfl ?_
      refine G_MO_today tw_558 d_MO_hold_29 (fun i7 => ?_)
      refine P_iload_n 2 d_MO_hold_32 rfl rfl ?_
      refine P_iadd d_MO_hold_33 ?_
      obtain ⟨b8, hF⟩ := hF
      refine S_MO_holdEnd tw_577 d_MO_hold_34 b8 ?_
      refine P_aload_n 0 d_MO_hold_37 rfl rfl ?_
      refine G_MO_holdEnd tw_577 d_MO_hold_38 (fun i9 => ?_)
      exact P_iret d_MO_hold_41 rfl hF
    · have hF := hF.2 c
      refine P_bipush d_MO_hold_19 (by decide) ?_
      exact P_iret d_MO_hold_21 rfl hF
theorem F_MO_release_0  (hF : WP D ad ca none M_MO_holdNow 0 [(0, .ref (ad 28))] [] h (RI (fun r2 h1 => Q (some (vI r2)) (up (up h1 28 18 0) 28 19 0)))) : WP D ad ca sc M_MO_release 0 [(0, .ref (ad 28))] [] h Q := by
  refine P_aload_n 0 d_MO_release_0 rfl rfl ?_
  refine V_MO_holdNow tw_776 d_MO_release_1 (by decide) (Nat.le_of_ble_eq_true rfl) hF (fun r2 h1 i3 hF => ?_)
  refine P_istore_n (lv' := [(0, .ref (ad 28)), (1, vI r2)]) [1, 0] d_MO_release_4 rfl (by decide) rfl ?_
  refine P_aload_n 0 d_MO_release_5 rfl rfl ?_
  refine P_iconst d_MO_release_6 ?_
  refine S_MO_holdLevel tw_576 d_MO_release_7 ⟨by decide, by decide⟩ ?_
  refine P_aload_n 0 d_MO_release_10 rfl rfl ?_
  refine P_iconst d_MO_release_11 ?_
  refine S_MO_holdEnd tw_577 d_MO_release_12 ⟨by decide, by decide⟩ ?_
  refine P_iload_n 1 d_MO_release_15 rfl rfl ?_
  exact P_iret d_MO_release_16 rfl hF
theorem F_MO_word_0 (v1 : Int) (g1 : InR v1) (hF : WP D ad ca none M_MO_in 0 [(0, vI v1), (1, vI 0), (2, vI 4)] [] h (RI (fun r2 h1 => ((r2 = 0 → Q (some (vI (-2))) h1) ∧ (¬ r2 = 0 → WP D ad ca none M_MO_turns 0 [(0, .ref (ad 28)), (1, vI v1), (2, vI 22)] [] h1 (RI (fun r5 h4 => Q (some (vI r5)) h4))))))) : WP D ad ca sc M_MO_word 0 [(0, .ref (ad 28)), (1, vI v1)] [] h Q := by
  refine P_iload_n 1 d_MO_word_0 rfl rfl ?_
  refine P_iconst d_MO_word_1 ?_
  refine P_iconst d_MO_word_2 ?_
  refine V_MO_in tw_670 d_MO_word_3 (by decide) (Nat.le_of_ble_eq_true rfl) hF (fun r2 h1 i3 hF => ?_)
  refine P_if_eq 19 d_MO_word_6 (by decide) i3 (fun c => ?_) (fun c => ?_)
  · have hF := hF.1 c
    refine P_bipush d_MO_word_19 (by decide) ?_
    exact P_iret d_MO_word_21 rfl hF
  · have hF := hF.2 c
    refine P_aload_n 0 d_MO_word_9 rfl rfl ?_
    refine P_iload_n 1 d_MO_word_10 rfl rfl ?_
    refine P_bipush d_MO_word_11 (by decide) ?_
    refine V_MO_turns tw_780 d_MO_word_13 (by decide) (Nat.le_of_ble_eq_true rfl) hF (fun r5 h4 i6 hF => ?_)
    refine P_goto 21 d_MO_word_16 (by decide) ?_
    exact P_iret d_MO_word_21 rfl hF
theorem F_MO_drill_0 (v1 : Int) (g1 : InR v1) (hF : WP D ad ca none M_MO_in 0 [(0, vI v1), (1, vI 0), (2, vI 4)] [] h (RI (fun r2 h1 => ((¬ r2 = 0 → (InR ((h1 28 23) + 1)) ∧ WP D ad ca none M_MO_tells 0 [(0, .ref (ad 28)), (1, vI 1), (2, vI ((h1 28 23) + 1)), (3, vI v1), (4, vI 23)] [] (up (up h1 28 24 v1) 28 23 ((h1 28 23) + 1)) (RV (fun h7 => Q (some (vI (h7 28 23))) h7))) ∧ (r2 = 0 → Q (some (vI (-2))) h1))))) : WP D ad ca sc M_MO_drill 0 [(0, .ref (ad 28)), (1, vI v1)] [] h Q := by
  refine P_iload_n 1 d_MO_drill_0 rfl rfl ?_
  refine P_iconst d_MO_drill_1 ?_
  refine P_iconst d_MO_drill_2 ?_
  refine V_MO_in tw_670 d_MO_drill_3 (by decide) (Nat.le_of_ble_eq_true rfl) hF (fun r2 h1 i3 hF => ?_)
  refine P_if_ne 12 d_MO_drill_6 (by decide) i3 (fun c => ?_) (fun c => ?_)
  · have hF := hF.1 c
    refine P_aload_n 0 d_MO_drill_12 rfl rfl ?_
    refine P_iload_n 1 d_MO_drill_13 rfl rfl ?_
    refine S_MO_drillLevel tw_582 d_MO_drill_14 g1 ?_
    refine P_aload_n 0 d_MO_drill_17 rfl rfl ?_
    refine P_dup d_MO_drill_18 rfl ?_
    refine G_MO_drills tw_581 d_MO_drill_19 (fun i4 => ?_)
    refine P_iconst d_MO_drill_22 ?_
    refine P_iadd d_MO_drill_23 ?_
    obtain ⟨b5, hF⟩ := hF
    refine S_MO_drills tw_581 d_MO_drill_24 b5 ?_
    refine P_aload_n 0 d_MO_drill_27 rfl rfl ?_
    refine P_iconst d_MO_drill_28 ?_
    refine P_aload_n 0 d_MO_drill_29 rfl rfl ?_
    refine G_MO_drills tw_581 d_MO_drill_30 (fun i6 => ?_)
    refine P_iload_n 1 d_MO_drill_33 rfl rfl ?_
    refine P_bipush d_MO_drill_34 (by decide) ?_
    refine V_MO_tells tw_784 d_MO_drill_36 (by decide) (Nat.le_of_ble_eq_true rfl) hF (fun h7 hF => ?_)
    refine P_aload_n 0 d_MO_drill_39 rfl rfl ?_
    refine G_MO_drills tw_581 d_MO_drill_40 (fun i8 => ?_)
    exact P_iret d_MO_drill_43 rfl hF
  · have hF := hF.2 c
    refine P_bipush d_MO_drill_9 (by decide) ?_
    exact P_iret d_MO_drill_11 rfl hF
theorem F_MO_message_0 (v1 v2 v3 : Int) (g1 : InR v1) (g2 : InR v2) (g3 : InR v3) (hF : WP D ad ca sc M_MO_message 7 [(0, .ref (ad 28)), (1, vI v1), (2, vI v2), (3, vI v3), (4, vI (-6)), (5, vI 0)] [] h Q) : WP D ad ca sc M_MO_message 0 [(0, .ref (ad 28)), (1, vI v1), (2, vI v2), (3, vI v3)] [] h Q := by
  refine P_bipush d_MO_message_0 (by decide) ?_
  refine P_istore (lv' := [(0, .ref (ad 28)), (1, vI v1), (2, vI v2), (3, vI v3), (4, vI (-6))]) [1, 2, 3, 4, 0] d_MO_message_2 (by decide) rfl ?_
  refine P_iconst d_MO_message_4 ?_
  refine P_istore (lv' := [(0, .ref (ad 28)), (1, vI v1), (2, vI v2), (3, vI v3), (4, vI (-6)), (5, vI 0)]) [1, 2, 3, 4, 5, 0] d_MO_message_5 (by decide) rfl ?_
  refine P_sub (lv' := [(0, .ref (ad 28)), (1, vI v1), (2, vI v2), (3, vI v3), (4, vI (-6)), (5, vI 0)]) [0, 1, 2, 3, 4, 5] rfl ?_
  exact hF
theorem F_MO_message_7 (v1 v2 v3 v4 v5 : Int) (g1 : InR v1) (g2 : InR v2) (g3 : InR v3) (g4 : InR v4) (g5 : InR v5) (hF : (((h 28 20) ≤ v5 → ((0 ≤ v4 → WP D ad ca none M_MO_in 0 [(0, vI v3), (1, vI 0), (2, vI 2)] [] h (RI (fun r3 h2 => ((r3 = 0 → Q (some (vI (-2))) h2) ∧ (¬ r3 = 0 → (0 ≤ (((5 * v4) + 2) + v3) ∧ (((5 * v4) + 2) + v3) < 1000) ∧ Q (some (vI (h2 39 (((5 * v4) + 2) + v3)))) h2))))) ∧ (v4 < 0 → Q (some (vI (-1))) h))) ∧ (v5 < (h 28 20) → (0 ≤ (5 * v5) ∧ (5 * v5) < 1000) ∧ ((v1 = 0 → WP D ad ca sc M_MO_message 34 [(0, .ref (ad 28)), (1, vI v1), (2, vI v2), (3, vI v3), (4, vI v4), (5, vI v5)] [vI 0, vI (h 39 (5 * v5))] h Q) ∧ (¬ v1 = 0 → WP D ad ca sc M_MO_message 34 [(0, .ref (ad 28)), (1, vI v1), (2, vI v2), (3, vI v3), (4, vI v4), (5, vI v5)] [vI 1, vI (h 39 (5 * v5))] h Q))))) : WP D ad ca sc M_MO_message 7 [(0, .ref (ad 28)), (1, vI v1), (2, vI v2), (3, vI v3), (4, vI v4), (5, vI v5)] [] h Q := by
  refine P_iload 5 d_MO_message_7 rfl ?_
  refine P_aload_n 0 d_MO_message_9 rfl rfl ?_
  refine G_MO_kept tw_578 d_MO_message_10 (fun i1 => ?_)
  refine P_icmp_ge 67 d_MO_message_13 (by decide) g5 i1 (fun c => ?_) (fun c => ?_)
  · have hF := hF.1 c
    refine P_iload 4 d_MO_message_67 rfl ?_
    refine P_if_ge 74 d_MO_message_69 (by decide) g4 (fun c => ?_) (fun c => ?_)
    · have hF := hF.1 c
      refine P_iload_n 3 d_MO_message_74 rfl rfl ?_
      refine P_iconst d_MO_message_75 ?_
      refine P_iconst d_MO_message_76 ?_
      refine V_MO_in tw_670 d_MO_message_77 (by decide) (Nat.le_of_ble_eq_true rfl) hF (fun r3 h2 i4 hF => ?_)
      refine P_if_eq 99 d_MO_message_80 (by decide) i4 (fun c => ?_) (fun c => ?_)
      · have hF := hF.1 c
        refine P_bipush d_MO_message_99 (by decide) ?_
        exact P_iret d_MO_message_101 rfl hF
      · have hF := hF.2 c
        refine P_aload_n 0 d_MO_message_83 rfl rfl ?_
        refine G_MO_message tw_579 d_MO_message_84 ?_
        refine P_iconst d_MO_message_87 ?_
        refine P_iload 4 d_MO_message_88 rfl ?_
        refine P_imul d_MO_message_90 ?_
        refine P_iconst d_MO_message_91 ?_
        refine P_iadd d_MO_message_92 ?_
        refine P_iload_n 3 d_MO_message_93 rfl rfl ?_
        refine P_iadd d_MO_message_94 ?_
        obtain ⟨b5, hF⟩ := hF
        refine L_39 d_MO_message_95 b5 (fun i6 => ?_)
        refine P_goto 101 d_MO_message_96 (by decide) ?_
        exact P_iret d_MO_message_101 rfl hF
    · have hF := hF.2 (Int.not_le.mp c)
      refine P_iconst d_MO_message_72 ?_
      exact P_iret d_MO_message_73 rfl hF
  · have hF := hF.2 (Int.not_le.mp c)
    refine P_aload_n 0 d_MO_message_16 rfl rfl ?_
    refine G_MO_message tw_579 d_MO_message_17 ?_
    refine P_iconst d_MO_message_20 ?_
    refine P_iload 5 d_MO_message_21 rfl ?_
    refine P_imul d_MO_message_23 ?_
    obtain ⟨b7, hF⟩ := hF
    refine L_39 d_MO_message_24 b7 (fun i8 => ?_)
    refine P_iload_n 1 d_MO_message_25 rfl rfl ?_
    refine P_if_eq 33 d_MO_message_26 (by decide) g1 (fun c => ?_) (fun c => ?_)
    · have hF := hF.1 c
      refine P_iconst d_MO_message_33 ?_
      refine P_sub (lv' := [(0, .ref (ad 28)), (1, vI v1), (2, vI v2), (3, vI v3), (4, vI v4), (5, vI v5)]) [0, 1, 2, 3, 4, 5] rfl ?_
      exact hF
    · have hF := hF.2 c
      refine P_iconst d_MO_message_29 ?_
      refine P_goto 34 d_MO_message_30 (by decide) ?_
      refine P_sub (lv' := [(0, .ref (ad 28)), (1, vI v1), (2, vI v2), (3, vI v3), (4, vI v4), (5, vI v5)]) [0, 1, 2, 3, 4, 5] rfl ?_
      exact hF
theorem F_MO_message_34 (v1 v2 v3 v4 v5 s0 s1 : Int) (g1 : InR v1) (g2 : InR v2) (g3 : InR v3) (g4 : InR v4) (g5 : InR v5) (q0 : InR s0) (q1 : InR s1) (hF : ((¬ s1 = s0 → WP D ad ca sc M_MO_message 7 [(0, .ref (ad 28)), (1, vI v1), (2, vI v2), (3, vI v3), (4, vI v4), (5, vI (v5 + 1))] [] h Q) ∧ (s1 = s0 → (0 ≤ ((5 * v5) + 1) ∧ ((5 * v5) + 1) < 1000) ∧ ((¬ (h 39 ((5 * v5) + 1)) = v2 → WP D ad ca sc M_MO_message 7 [(0, .ref (ad 28)), (1, vI v1), (2, vI v2), (3, vI v3), (4, vI v4), (5, vI (v5 + 1))] [] h Q) ∧ ((h 39 ((5 * v5) + 1)) = v2 → WP D ad ca sc M_MO_message 7 [(0, .ref (ad 28)), (1, vI v1), (2, vI v2), (3, vI v3), (4, vI v5), (5, vI (v5 + 1))] [] h Q))))) : WP D ad ca sc M_MO_message 34 [(0, .ref (ad 28)), (1, vI v1), (2, vI v2), (3, vI v3), (4, vI v4), (5, vI v5)] [vI s0, vI s1] h Q := by
  refine P_icmp_ne 57 d_MO_message_34 (by decide) q1 q0 (fun c => ?_) (fun c => ?_)
  · have hF := hF.1 c
    refine P_iload 4 d_MO_message_57 rfl ?_
    refine P_istore (lv' := [(0, .ref (ad 28)), (1, vI v1), (2, vI v2), (3, vI v3), (4, vI v4), (5, vI v5)]) [1, 2, 3, 4, 0, 5] d_MO_message_59 (by decide) rfl ?_
    refine P_iinc (lv' := [(0, .ref (ad 28)), (1, vI v1), (2, vI v2), (3, vI v3), (4, vI v4), (5, vI (v5 + 1))]) 5 [1, 2, 3, 4, 5, 0] d_MO_message_61 rfl (by decide) rfl ?_
    refine P_goto 7 d_MO_message_64 (by decide) ?_
    refine P_sub (lv' := [(0, .ref (ad 28)), (1, vI v1), (2, vI v2), (3, vI v3), (4, vI v4), (5, vI (v5 + 1))]) [0, 1, 2, 3, 4, 5] rfl ?_
    exact hF
  · have hF := hF.2 c
    refine P_aload_n 0 d_MO_message_37 rfl rfl ?_
    refine G_MO_message tw_579 d_MO_message_38 ?_
    refine P_iconst d_MO_message_41 ?_
    refine P_iload 5 d_MO_message_42 rfl ?_
    refine P_imul d_MO_message_44 ?_
    refine P_iconst d_MO_message_45 ?_
    refine P_iadd d_MO_message_46 ?_
    obtain ⟨b1, hF⟩ := hF
    refine L_39 d_MO_message_47 b1 (fun i2 => ?_)
    refine P_iload_n 2 d_MO_message_48 rfl rfl ?_
    refine P_icmp_ne 57 d_MO_message_49 (by decide) i2 g2 (fun c => ?_) (fun c => ?_)
    · have hF := hF.1 c
      refine P_iload 4 d_MO_message_57 rfl ?_
      refine P_istore (lv' := [(0, .ref (ad 28)), (1, vI v1), (2, vI v2), (3, vI v3), (4, vI v4), (5, vI v5)]) [1, 2, 3, 4, 0, 5] d_MO_message_59 (by decide) rfl ?_
      refine P_iinc (lv' := [(0, .ref (ad 28)), (1, vI v1), (2, vI v2), (3, vI v3), (4, vI v4), (5, vI (v5 + 1))]) 5 [1, 2, 3, 4, 5, 0] d_MO_message_61 rfl (by decide) rfl ?_
      refine P_goto 7 d_MO_message_64 (by decide) ?_
      refine P_sub (lv' := [(0, .ref (ad 28)), (1, vI v1), (2, vI v2), (3, vI v3), (4, vI v4), (5, vI (v5 + 1))]) [0, 1, 2, 3, 4, 5] rfl ?_
      exact hF
    · have hF := hF.2 c
      refine P_iload 5 d_MO_message_52 rfl ?_
      refine P_goto 59 d_MO_message_54 (by decide) ?_
      refine P_istore (lv' := [(0, .ref (ad 28)), (1, vI v1), (2, vI v2), (3, vI v3), (4, vI v5), (5, vI v5)]) [1, 2, 3, 4, 0, 5] d_MO_message_59 (by decide) rfl ?_
      refine P_iinc (lv' := [(0, .ref (ad 28)), (1, vI v1), (2, vI v2), (3, vI v3), (4, vI v5), (5, vI (v5 + 1))]) 5 [1, 2, 3, 4, 5, 0] d_MO_message_61 rfl (by decide) rfl ?_
      refine P_goto 7 d_MO_message_64 (by decide) ?_
      refine P_sub (lv' := [(0, .ref (ad 28)), (1, vI v1), (2, vI v2), (3, vI v3), (4, vI v5), (5, vI (v5 + 1))]) [0, 1, 2, 3, 4, 5] rfl ?_
      exact hF
end Sfmodel2
