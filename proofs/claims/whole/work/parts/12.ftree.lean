theorem d_TR_has_0 : decode M_TR_has.2.1 0 = .ok (.iload_n 1, 1) := by decide +kernel
theorem d_TR_has_1 : decode M_TR_has.2.1 1 = .ok (.ifCond .lt 15, 3) := by decide +kernel
theorem d_TR_has_4 : decode M_TR_has.2.1 4 = .ok (.iload_n 1, 1) := by decide +kernel
theorem d_TR_has_5 : decode M_TR_has.2.1 5 = .ok (.aload_n 0, 1) := by decide +kernel
theorem d_TR_has_6 : decode M_TR_has.2.1 6 = .ok (.getfield 37, 3) := by decide +kernel
theorem d_TR_has_9 : decode M_TR_has.2.1 9 = .ok (.if_icmp .ge 7, 3) := by decide +kernel
theorem d_TR_has_12 : decode M_TR_has.2.1 12 = .ok (.iconst 1, 1) := by decide +kernel
theorem d_TR_has_13 : decode M_TR_has.2.1 13 = .ok (.goto 4, 3) := by decide +kernel
theorem d_TR_has_16 : decode M_TR_has.2.1 16 = .ok (.iconst 0, 1) := by decide +kernel
theorem d_TR_has_17 : decode M_TR_has.2.1 17 = .ok (.ireturn, 1) := by decide +kernel
theorem d_TR_takesChild_0 : decode M_TR_takesChild.2.1 0 = .ok (.aload_n 0, 1) := by decide +kernel
theorem d_TR_takesChild_1 : decode M_TR_takesChild.2.1 1 = .ok (.getfield 21, 3) := by decide +kernel
theorem d_TR_takesChild_4 : decode M_TR_takesChild.2.1 4 = .ok (.iload_n 1, 1) := by decide +kernel
theorem d_TR_takesChild_5 : decode M_TR_takesChild.2.1 5 = .ok (.iaload, 1) := by decide +kernel
theorem d_TR_takesChild_6 : decode M_TR_takesChild.2.1 6 = .ok (.iconst 4, 1) := by decide +kernel
theorem d_TR_takesChild_7 : decode M_TR_takesChild.2.1 7 = .ok (.if_icmp .ge 18, 3) := by decide +kernel
theorem d_TR_takesChild_10 : decode M_TR_takesChild.2.1 10 = .ok (.aload_n 0, 1) := by decide +kernel
theorem d_TR_takesChild_11 : decode M_TR_takesChild.2.1 11 = .ok (.getfield 24, 3) := by decide +kernel
theorem d_TR_takesChild_14 : decode M_TR_takesChild.2.1 14 = .ok (.iload_n 1, 1) := by decide +kernel
theorem d_TR_takesChild_15 : decode M_TR_takesChild.2.1 15 = .ok (.iaload, 1) := by decide +kernel
theorem d_TR_takesChild_16 : decode M_TR_takesChild.2.1 16 = .ok (.bipush 6, 2) := by decide +kernel
theorem d_TR_takesChild_18 : decode M_TR_takesChild.2.1 18 = .ok (.if_icmp .ge 7, 3) := by decide +kernel
theorem d_TR_takesChild_21 : decode M_TR_takesChild.2.1 21 = .ok (.iconst 1, 1) := by decide +kernel
theorem d_TR_takesChild_22 : decode M_TR_takesChild.2.1 22 = .ok (.goto 4, 3) := by decide +kernel
theorem d_TR_takesChild_25 : decode M_TR_takesChild.2.1 25 = .ok (.iconst 0, 1) := by decide +kernel
theorem d_TR_takesChild_26 : decode M_TR_takesChild.2.1 26 = .ok (.ireturn, 1) := by decide +kernel
theorem d_TR_add_0 : decode M_TR_add.2.1 0 = .ok (.aload_n 0, 1) := by decide +kernel
theorem d_TR_add_1 : decode M_TR_add.2.1 1 = .ok (.getfield 37, 3) := by decide +kernel
theorem d_TR_add_4 : decode M_TR_add.2.1 4 = .ok (.istore 4, 2) := by decide +kernel
theorem d_TR_add_6 : decode M_TR_add.2.1 6 = .ok (.aload_n 0, 1) := by decide +kernel
theorem d_TR_add_7 : decode M_TR_add.2.1 7 = .ok (.getfield 11, 3) := by decide +kernel
theorem d_TR_add_10 : decode M_TR_add.2.1 10 = .ok (.iload 4, 2) := by decide +kernel
theorem d_TR_add_12 : decode M_TR_add.2.1 12 = .ok (.iload_n 1, 1) := by decide +kernel
theorem d_TR_add_13 : decode M_TR_add.2.1 13 = .ok (.iastore, 1) := by decide +kernel
theorem d_TR_add_14 : decode M_TR_add.2.1 14 = .ok (.aload_n 0, 1) := by decide +kernel
theorem d_TR_add_15 : decode M_TR_add.2.1 15 = .ok (.getfield 15, 3) := by decide +kernel
theorem d_TR_add_18 : decode M_TR_add.2.1 18 = .ok (.iload 4, 2) := by decide +kernel
theorem d_TR_add_20 : decode M_TR_add.2.1 20 = .ok (.iload_n 2, 1) := by decide +kernel
theorem d_TR_add_21 : decode M_TR_add.2.1 21 = .ok (.iastore, 1) := by decide +kernel
theorem d_TR_add_22 : decode M_TR_add.2.1 22 = .ok (.aload_n 0, 1) := by decide +kernel
theorem d_TR_add_23 : decode M_TR_add.2.1 23 = .ok (.getfield 18, 3) := by decide +kernel
theorem d_TR_add_26 : decode M_TR_add.2.1 26 = .ok (.iload 4, 2) := by decide +kernel
theorem d_TR_add_28 : decode M_TR_add.2.1 28 = .ok (.iload_n 3, 1) := by decide +kernel
theorem d_TR_add_29 : decode M_TR_add.2.1 29 = .ok (.iastore, 1) := by decide +kernel
theorem d_TR_add_30 : decode M_TR_add.2.1 30 = .ok (.aload_n 0, 1) := by decide +kernel
theorem d_TR_add_31 : decode M_TR_add.2.1 31 = .ok (.getfield 21, 3) := by decide +kernel
theorem d_TR_add_34 : decode M_TR_add.2.1 34 = .ok (.iload 4, 2) := by decide +kernel
theorem d_TR_add_36 : decode M_TR_add.2.1 36 = .ok (.aload_n 0, 1) := by decide +kernel
theorem d_TR_add_37 : decode M_TR_add.2.1 37 = .ok (.getfield 21, 3) := by decide +kernel
theorem d_TR_add_40 : decode M_TR_add.2.1 40 = .ok (.iload_n 1, 1) := by decide +kernel
theorem d_TR_add_41 : decode M_TR_add.2.1 41 = .ok (.iaload, 1) := by decide +kernel
theorem d_TR_add_42 : decode M_TR_add.2.1 42 = .ok (.iconst 1, 1) := by decide +kernel
theorem d_TR_add_43 : decode M_TR_add.2.1 43 = .ok (.iadd, 1) := by decide +kernel
theorem d_TR_add_44 : decode M_TR_add.2.1 44 = .ok (.iastore, 1) := by decide +kernel
theorem d_TR_add_45 : decode M_TR_add.2.1 45 = .ok (.aload_n 0, 1) := by decide +kernel
theorem d_TR_add_46 : decode M_TR_add.2.1 46 = .ok (.getfield 24, 3) := by decide +kernel
theorem d_TR_add_49 : decode M_TR_add.2.1 49 = .ok (.iload_n 1, 1) := by decide +kernel
theorem d_TR_add_50 : decode M_TR_add.2.1 50 = .ok (.dup2, 1) := by decide +kernel
theorem d_TR_add_51 : decode M_TR_add.2.1 51 = .ok (.iaload, 1) := by decide +kernel
theorem d_TR_add_52 : decode M_TR_add.2.1 52 = .ok (.iconst 1, 1) := by decide +kernel
theorem d_TR_add_53 : decode M_TR_add.2.1 53 = .ok (.iadd, 1) := by decide +kernel
theorem d_TR_add_54 : decode M_TR_add.2.1 54 = .ok (.iastore, 1) := by decide +kernel
theorem d_TR_add_55 : decode M_TR_add.2.1 55 = .ok (.aload_n 0, 1) := by decide +kernel
theorem d_TR_add_56 : decode M_TR_add.2.1 56 = .ok (.iload 4, 2) := by decide +kernel
theorem d_TR_add_58 : decode M_TR_add.2.1 58 = .ok (.iconst 1, 1) := by decide +kernel
theorem d_TR_add_59 : decode M_TR_add.2.1 59 = .ok (.iadd, 1) := by decide +kernel
theorem d_TR_add_60 : decode M_TR_add.2.1 60 = .ok (.putfield 37, 3) := by decide +kernel
theorem d_TR_add_63 : decode M_TR_add.2.1 63 = .ok (.iload 4, 2) := by decide +kernel
theorem d_TR_add_65 : decode M_TR_add.2.1 65 = .ok (.ireturn, 1) := by decide +kernel
theorem d_TR_isSound_0 : decode M_TR_isSound.2.1 0 = .ok (.iconst 0, 1) := by decide +kernel
theorem d_TR_isSound_1 : decode M_TR_isSound.2.1 1 = .ok (.istore_n 1, 1) := by decide +kernel
theorem d_TR_isSound_2 : decode M_TR_isSound.2.1 2 = .ok (.iload_n 1, 1) := by decide +kernel
theorem d_TR_isSound_3 : decode M_TR_isSound.2.1 3 = .ok (.aload_n 0, 1) := by decide +kernel
theorem d_TR_isSound_4 : decode M_TR_isSound.2.1 4 = .ok (.getfield 37, 3) := by decide +kernel
theorem d_TR_isSound_7 : decode M_TR_isSound.2.1 7 = .ok (.if_icmp .ge 28, 3) := by decide +kernel
theorem d_TR_isSound_10 : decode M_TR_isSound.2.1 10 = .ok (.aload_n 0, 1) := by decide +kernel
theorem d_TR_isSound_11 : decode M_TR_isSound.2.1 11 = .ok (.getfield 24, 3) := by decide +kernel
theorem d_TR_isSound_14 : decode M_TR_isSound.2.1 14 = .ok (.iload_n 1, 1) := by decide +kernel
theorem d_TR_isSound_15 : decode M_TR_isSound.2.1 15 = .ok (.iaload, 1) := by decide +kernel
theorem d_TR_isSound_16 : decode M_TR_isSound.2.1 16 = .ok (.ifCond .le 13, 3) := by decide +kernel
theorem d_TR_isSound_19 : decode M_TR_isSound.2.1 19 = .ok (.aload_n 0, 1) := by decide +kernel
theorem d_TR_isSound_20 : decode M_TR_isSound.2.1 20 = .ok (.iload_n 1, 1) := by decide +kernel
theorem d_TR_isSound_21 : decode M_TR_isSound.2.1 21 = .ok (.invokevirtual 41, 3) := by decide +kernel
theorem d_TR_isSound_24 : decode M_TR_isSound.2.1 24 = .ok (.ifCond .ne 5, 3) := by decide +kernel
theorem d_TR_isSound_27 : decode M_TR_isSound.2.1 27 = .ok (.iconst 0, 1) := by decide +kernel
theorem d_TR_isSound_28 : decode M_TR_isSound.2.1 28 = .ok (.ireturn, 1) := by decide +kernel
theorem d_TR_isSound_29 : decode M_TR_isSound.2.1 29 = .ok (.iinc 1 1, 3) := by decide +kernel
theorem d_TR_isSound_32 : decode M_TR_isSound.2.1 32 = .ok (.goto (-30), 3) := by decide +kernel
theorem d_TR_isSound_35 : decode M_TR_isSound.2.1 35 = .ok (.iconst 1, 1) := by decide +kernel
theorem d_TR_isSound_36 : decode M_TR_isSound.2.1 36 = .ok (.ireturn, 1) := by decide +kernel
theorem d_TR_hasShares_0 : decode M_TR_hasShares.2.1 0 = .ok (.iconst 0, 1) := by decide +kernel
theorem d_TR_hasShares_1 : decode M_TR_hasShares.2.1 1 = .ok (.istore_n 2, 1) := by decide +kernel
theorem d_TR_hasShares_2 : decode M_TR_hasShares.2.1 2 = .ok (.iconst 0, 1) := by decide +kernel
theorem d_TR_hasShares_3 : decode M_TR_hasShares.2.1 3 = .ok (.istore_n 3, 1) := by decide +kernel
theorem d_TR_hasShares_4 : decode M_TR_hasShares.2.1 4 = .ok (.iload_n 1, 1) := by decide +kernel
theorem d_TR_hasShares_5 : decode M_TR_hasShares.2.1 5 = .ok (.iconst 1, 1) := by decide +kernel
theorem d_TR_hasShares_6 : decode M_TR_hasShares.2.1 6 = .ok (.iadd, 1) := by decide +kernel
theorem d_TR_hasShares_7 : decode M_TR_hasShares.2.1 7 = .ok (.istore 4, 2) := by decide +kernel
theorem d_TR_hasShares_9 : decode M_TR_hasShares.2.1 9 = .ok (.iload 4, 2) := by decide +kernel
theorem d_TR_hasShares_11 : decode M_TR_hasShares.2.1 11 = .ok (.aload_n 0, 1) := by decide +kernel
theorem d_TR_hasShares_12 : decode M_TR_hasShares.2.1 12 = .ok (.getfield 37, 3) := by decide +kernel
theorem d_TR_hasShares_15 : decode M_TR_hasShares.2.1 15 = .ok (.if_icmp .ge 40, 3) := by decide +kernel
theorem d_TR_hasShares_18 : decode M_TR_hasShares.2.1 18 = .ok (.aload_n 0, 1) := by decide +kernel
theorem d_TR_hasShares_19 : decode M_TR_hasShares.2.1 19 = .ok (.getfield 11, 3) := by decide +kernel
theorem d_TR_hasShares_22 : decode M_TR_hasShares.2.1 22 = .ok (.iload 4, 2) := by decide +kernel
theorem d_TR_hasShares_24 : decode M_TR_hasShares.2.1 24 = .ok (.iaload, 1) := by decide +kernel
theorem d_TR_hasShares_25 : decode M_TR_hasShares.2.1 25 = .ok (.iload_n 1, 1) := by decide +kernel
theorem d_TR_hasShares_26 : decode M_TR_hasShares.2.1 26 = .ok (.if_icmp .ne 23, 3) := by decide +kernel
theorem d_TR_hasShares_29 : decode M_TR_hasShares.2.1 29 = .ok (.iload_n 2, 1) := by decide +kernel
theorem d_TR_hasShares_30 : decode M_TR_hasShares.2.1 30 = .ok (.aload_n 0, 1) := by decide +kernel
theorem d_TR_hasShares_31 : decode M_TR_hasShares.2.1 31 = .ok (.getfield 15, 3) := by decide +kernel
theorem d_TR_hasShares_34 : decode M_TR_hasShares.2.1 34 = .ok (.iload 4, 2) := by decide +kernel
theorem d_TR_hasShares_36 : decode M_TR_hasShares.2.1 36 = .ok (.iaload, 1) := by decide +kernel
theorem d_TR_hasShares_37 : decode M_TR_hasShares.2.1 37 = .ok (.iadd, 1) := by decide +kernel
theorem d_TR_hasShares_38 : decode M_TR_hasShares.2.1 38 = .ok (.istore_n 2, 1) := by decide +kernel
theorem d_TR_hasShares_39 : decode M_TR_hasShares.2.1 39 = .ok (.iload_n 3, 1) := by decide +kernel
theorem d_TR_hasShares_40 : decode M_TR_hasShares.2.1 40 = .ok (.aload_n 0, 1) := by decide +kernel
theorem d_TR_hasShares_41 : decode M_TR_hasShares.2.1 41 = .ok (.getfield 18, 3) := by decide +kernel
theorem d_TR_hasShares_44 : decode M_TR_hasShares.2.1 44 = .ok (.iload 4, 2) := by decide +kernel
theorem d_TR_hasShares_46 : decode M_TR_hasShares.2.1 46 = .ok (.iaload, 1) := by decide +kernel
theorem d_TR_hasShares_47 : decode M_TR_hasShares.2.1 47 = .ok (.iadd, 1) := by decide +kernel
theorem d_TR_hasShares_48 : decode M_TR_hasShares.2.1 48 = .ok (.istore_n 3, 1) := by decide +kernel
theorem d_TR_hasShares_49 : decode M_TR_hasShares.2.1 49 = .ok (.iinc 4 1, 3) := by decide +kernel
theorem d_TR_hasShares_52 : decode M_TR_hasShares.2.1 52 = .ok (.goto (-43), 3) := by decide +kernel
theorem d_TR_hasShares_55 : decode M_TR_hasShares.2.1 55 = .ok (.iload_n 2, 1) := by decide +kernel
theorem d_TR_hasShares_56 : decode M_TR_hasShares.2.1 56 = .ok (.bipush 100, 2) := by decide +kernel
theorem d_TR_hasShares_58 : decode M_TR_hasShares.2.1 58 = .ok (.if_icmp .gt 13, 3) := by decide +kernel
theorem d_TR_hasShares_61 : decode M_TR_hasShares.2.1 61 = .ok (.iload_n 3, 1) := by decide +kernel
theorem d_TR_hasShares_62 : decode M_TR_hasShares.2.1 62 = .ok (.bipush 100, 2) := by decide +kernel
theorem d_TR_hasShares_64 : decode M_TR_hasShares.2.1 64 = .ok (.if_icmp .lt 7, 3) := by decide +kernel
theorem d_TR_hasShares_67 : decode M_TR_hasShares.2.1 67 = .ok (.iconst 1, 1) := by decide +kernel
theorem d_TR_hasShares_68 : decode M_TR_hasShares.2.1 68 = .ok (.goto 4, 3) := by decide +kernel
theorem d_TR_hasShares_71 : decode M_TR_hasShares.2.1 71 = .ok (.iconst 0, 1) := by decide +kernel
theorem d_TR_hasShares_72 : decode M_TR_hasShares.2.1 72 = .ok (.ireturn, 1) := by decide +kernel
theorem d_TR_chanceOf_0 : decode M_TR_chanceOf.2.1 0 = .ok (.aload_n 0, 1) := by decide +kernel
theorem d_TR_chanceOf_1 : decode M_TR_chanceOf.2.1 1 = .ok (.getfield 37, 3) := by decide +kernel
theorem d_TR_chanceOf_4 : decode M_TR_chanceOf.2.1 4 = .ok (.iconst 1, 1) := by decide +kernel
theorem d_TR_chanceOf_5 : decode M_TR_chanceOf.2.1 5 = .ok (.isub, 1) := by decide +kernel
theorem d_TR_chanceOf_6 : decode M_TR_chanceOf.2.1 6 = .ok (.istore_n 3, 1) := by decide +kernel
theorem d_TR_chanceOf_7 : decode M_TR_chanceOf.2.1 7 = .ok (.iload_n 3, 1) := by decide +kernel
theorem d_TR_chanceOf_8 : decode M_TR_chanceOf.2.1 8 = .ok (.iload_n 1, 1) := by decide +kernel
theorem d_TR_chanceOf_9 : decode M_TR_chanceOf.2.1 9 = .ok (.if_icmp .lt 54, 3) := by decide +kernel
theorem d_TR_chanceOf_12 : decode M_TR_chanceOf.2.1 12 = .ok (.aload_n 0, 1) := by decide +kernel
theorem d_TR_chanceOf_13 : decode M_TR_chanceOf.2.1 13 = .ok (.getfield 24, 3) := by decide +kernel
theorem d_TR_chanceOf_16 : decode M_TR_chanceOf.2.1 16 = .ok (.iload_n 3, 1) := by decide +kernel
theorem d_TR_chanceOf_17 : decode M_TR_chanceOf.2.1 17 = .ok (.iaload, 1) := by decide +kernel
theorem d_TR_chanceOf_18 : decode M_TR_chanceOf.2.1 18 = .ok (.ifCond .le 18, 3) := by decide +kernel
theorem d_TR_chanceOf_21 : decode M_TR_chanceOf.2.1 21 = .ok (.aload_n 0, 1) := by decide +kernel
theorem d_TR_chanceOf_22 : decode M_TR_chanceOf.2.1 22 = .ok (.getfield 31, 3) := by decide +kernel
theorem d_TR_chanceOf_25 : decode M_TR_chanceOf.2.1 25 = .ok (.iload_n 3, 1) := by decide +kernel
theorem d_TR_chanceOf_26 : decode M_TR_chanceOf.2.1 26 = .ok (.aload_n 0, 1) := by decide +kernel
theorem d_TR_chanceOf_27 : decode M_TR_chanceOf.2.1 27 = .ok (.iload_n 3, 1) := by decide +kernel
theorem d_TR_chanceOf_28 : decode M_TR_chanceOf.2.1 28 = .ok (.iload_n 2, 1) := by decide +kernel
theorem d_TR_chanceOf_29 : decode M_TR_chanceOf.2.1 29 = .ok (.invokevirtual 45, 3) := by decide +kernel
theorem d_TR_chanceOf_32 : decode M_TR_chanceOf.2.1 32 = .ok (.iastore, 1) := by decide +kernel
theorem d_TR_chanceOf_33 : decode M_TR_chanceOf.2.1 33 = .ok (.goto 24, 3) := by decide +kernel
theorem d_TR_chanceOf_36 : decode M_TR_chanceOf.2.1 36 = .ok (.aload_n 0, 1) := by decide +kernel
theorem d_TR_chanceOf_37 : decode M_TR_chanceOf.2.1 37 = .ok (.getfield 31, 3) := by decide +kernel
theorem d_TR_chanceOf_40 : decode M_TR_chanceOf.2.1 40 = .ok (.iload_n 3, 1) := by decide +kernel
theorem d_TR_chanceOf_41 : decode M_TR_chanceOf.2.1 41 = .ok (.aload_n 0, 1) := by decide +kernel
theorem d_TR_chanceOf_42 : decode M_TR_chanceOf.2.1 42 = .ok (.getfield 27, 3) := by decide +kernel
theorem d_TR_chanceOf_45 : decode M_TR_chanceOf.2.1 45 = .ok (.iload_n 3, 1) := by decide +kernel
theorem d_TR_chanceOf_46 : decode M_TR_chanceOf.2.1 46 = .ok (.baload, 1) := by decide +kernel
theorem d_TR_chanceOf_47 : decode M_TR_chanceOf.2.1 47 = .ok (.ifCond .eq 8, 3) := by decide +kernel
theorem d_TR_chanceOf_50 : decode M_TR_chanceOf.2.1 50 = .ok (.ldc 49, 2) := by decide +kernel
theorem d_TR_chanceOf_52 : decode M_TR_chanceOf.2.1 52 = .ok (.goto 4, 3) := by decide +kernel
theorem d_TR_chanceOf_55 : decode M_TR_chanceOf.2.1 55 = .ok (.iconst 0, 1) := by decide +kernel
theorem d_TR_chanceOf_56 : decode M_TR_chanceOf.2.1 56 = .ok (.iastore, 1) := by decide +kernel
theorem d_TR_chanceOf_57 : decode M_TR_chanceOf.2.1 57 = .ok (.iinc 3 (-1), 3) := by decide +kernel
theorem d_TR_chanceOf_60 : decode M_TR_chanceOf.2.1 60 = .ok (.goto (-53), 3) := by decide +kernel
theorem d_TR_chanceOf_63 : decode M_TR_chanceOf.2.1 63 = .ok (.aload_n 0, 1) := by decide +kernel
theorem d_TR_chanceOf_64 : decode M_TR_chanceOf.2.1 64 = .ok (.getfield 31, 3) := by decide +kernel
theorem d_TR_chanceOf_67 : decode M_TR_chanceOf.2.1 67 = .ok (.iload_n 1, 1) := by decide +kernel
theorem d_TR_chanceOf_68 : decode M_TR_chanceOf.2.1 68 = .ok (.iaload, 1) := by decide +kernel
theorem d_TR_chanceOf_69 : decode M_TR_chanceOf.2.1 69 = .ok (.ireturn, 1) := by decide +kernel
theorem d_TR_chanceByShares_0 : decode M_TR_chanceByShares.2.1 0 = .ok (.bipush 100, 2) := by decide +kernel
theorem d_TR_chanceByShares_2 : decode M_TR_chanceByShares.2.1 2 = .ok (.istore_n 3, 1) := by decide +kernel
theorem d_TR_chanceByShares_3 : decode M_TR_chanceByShares.2.1 3 = .ok (.lconst 0, 1) := by decide +kernel
theorem d_TR_chanceByShares_4 : decode M_TR_chanceByShares.2.1 4 = .ok (.lstore 4, 2) := by decide +kernel
theorem d_TR_chanceByShares_6 : decode M_TR_chanceByShares.2.1 6 = .ok (.iload_n 1, 1) := by decide +kernel
theorem d_TR_chanceByShares_7 : decode M_TR_chanceByShares.2.1 7 = .ok (.iconst 1, 1) := by decide +kernel
theorem d_TR_chanceByShares_8 : decode M_TR_chanceByShares.2.1 8 = .ok (.iadd, 1) := by decide +kernel
theorem d_TR_chanceByShares_9 : decode M_TR_chanceByShares.2.1 9 = .ok (.istore 6, 2) := by decide +kernel
theorem d_TR_chanceByShares_11 : decode M_TR_chanceByShares.2.1 11 = .ok (.iload 6, 2) := by decide +kernel
theorem d_TR_chanceByShares_13 : decode M_TR_chanceByShares.2.1 13 = .ok (.aload_n 0, 1) := by decide +kernel
theorem d_TR_chanceByShares_14 : decode M_TR_chanceByShares.2.1 14 = .ok (.getfield 37, 3) := by decide +kernel
theorem d_TR_chanceByShares_17 : decode M_TR_chanceByShares.2.1 17 = .ok (.if_icmp .ge 60, 3) := by decide +kernel
theorem d_TR_chanceByShares_20 : decode M_TR_chanceByShares.2.1 20 = .ok (.aload_n 0, 1) := by decide +kernel
theorem d_TR_chanceByShares_21 : decode M_TR_chanceByShares.2.1 21 = .ok (.getfield 11, 3) := by decide +kernel
theorem d_TR_chanceByShares_24 : decode M_TR_chanceByShares.2.1 24 = .ok (.iload 6, 2) := by decide +kernel
theorem d_TR_chanceByShares_26 : decode M_TR_chanceByShares.2.1 26 = .ok (.iaload, 1) := by decide +kernel
theorem d_TR_chanceByShares_27 : decode M_TR_chanceByShares.2.1 27 = .ok (.iload_n 1, 1) := by decide +kernel
theorem d_TR_chanceByShares_28 : decode M_TR_chanceByShares.2.1 28 = .ok (.if_icmp .ne 43, 3) := by decide +kernel
theorem d_TR_chanceByShares_31 : decode M_TR_chanceByShares.2.1 31 = .ok (.aload_n 0, 1) := by decide +kernel
theorem d_TR_chanceByShares_32 : decode M_TR_chanceByShares.2.1 32 = .ok (.getfield 34, 3) := by decide +kernel
theorem d_TR_chanceByShares_35 : decode M_TR_chanceByShares.2.1 35 = .ok (.iload 6, 2) := by decide +kernel
theorem d_TR_chanceByShares_37 : decode M_TR_chanceByShares.2.1 37 = .ok (.iconst 0, 1) := by decide +kernel
theorem d_TR_chanceByShares_38 : decode M_TR_chanceByShares.2.1 38 = .ok (.bastore, 1) := by decide +kernel
theorem d_TR_chanceByShares_39 : decode M_TR_chanceByShares.2.1 39 = .ok (.iload_n 3, 1) := by decide +kernel
theorem d_TR_chanceByShares_40 : decode M_TR_chanceByShares.2.1 40 = .ok (.aload_n 0, 1) := by decide +kernel
theorem d_TR_chanceByShares_41 : decode M_TR_chanceByShares.2.1 41 = .ok (.getfield 15, 3) := by decide +kernel
theorem d_TR_chanceByShares_44 : decode M_TR_chanceByShares.2.1 44 = .ok (.iload 6, 2) := by decide +kernel
theorem d_TR_chanceByShares_46 : decode M_TR_chanceByShares.2.1 46 = .ok (.iaload, 1) := by decide +kernel
theorem d_TR_chanceByShares_47 : decode M_TR_chanceByShares.2.1 47 = .ok (.isub, 1) := by decide +kernel
theorem d_TR_chanceByShares_48 : decode M_TR_chanceByShares.2.1 48 = .ok (.istore_n 3, 1) := by decide +kernel
theorem d_TR_chanceByShares_49 : decode M_TR_chanceByShares.2.1 49 = .ok (.lload 4, 2) := by decide +kernel
theorem d_TR_chanceByShares_51 : decode M_TR_chanceByShares.2.1 51 = .ok (.aload_n 0, 1) := by decide +kernel
theorem d_TR_chanceByShares_52 : decode M_TR_chanceByShares.2.1 52 = .ok (.getfield 15, 3) := by decide +kernel
theorem d_TR_chanceByShares_55 : decode M_TR_chanceByShares.2.1 55 = .ok (.iload 6, 2) := by decide +kernel
theorem d_TR_chanceByShares_57 : decode M_TR_chanceByShares.2.1 57 = .ok (.iaload, 1) := by decide +kernel
theorem d_TR_chanceByShares_58 : decode M_TR_chanceByShares.2.1 58 = .ok (.i2l, 1) := by decide +kernel
theorem d_TR_chanceByShares_59 : decode M_TR_chanceByShares.2.1 59 = .ok (.aload_n 0, 1) := by decide +kernel
theorem d_TR_chanceByShares_60 : decode M_TR_chanceByShares.2.1 60 = .ok (.getfield 31, 3) := by decide +kernel
theorem d_TR_chanceByShares_63 : decode M_TR_chanceByShares.2.1 63 = .ok (.iload 6, 2) := by decide +kernel
theorem d_TR_chanceByShares_65 : decode M_TR_chanceByShares.2.1 65 = .ok (.iaload, 1) := by decide +kernel
theorem d_TR_chanceByShares_66 : decode M_TR_chanceByShares.2.1 66 = .ok (.i2l, 1) := by decide +kernel
theorem d_TR_chanceByShares_67 : decode M_TR_chanceByShares.2.1 67 = .ok (.lmul, 1) := by decide +kernel
theorem d_TR_chanceByShares_68 : decode M_TR_chanceByShares.2.1 68 = .ok (.ladd, 1) := by decide +kernel
theorem d_TR_chanceByShares_69 : decode M_TR_chanceByShares.2.1 69 = .ok (.lstore 4, 2) := by decide +kernel
theorem d_TR_chanceByShares_71 : decode M_TR_chanceByShares.2.1 71 = .ok (.iinc 6 1, 3) := by decide +kernel
theorem d_TR_chanceByShares_74 : decode M_TR_chanceByShares.2.1 74 = .ok (.goto (-63), 3) := by decide +kernel
theorem d_TR_chanceByShares_77 : decode M_TR_chanceByShares.2.1 77 = .ok (.iconst 0, 1) := by decide +kernel
theorem d_TR_chanceByShares_78 : decode M_TR_chanceByShares.2.1 78 = .ok (.istore 6, 2) := by decide +kernel
theorem d_TR_chanceByShares_80 : decode M_TR_chanceByShares.2.1 80 = .ok (.iload 6, 2) := by decide +kernel
theorem d_TR_chanceByShares_82 : decode M_TR_chanceByShares.2.1 82 = .ok (.aload_n 0, 1) := by decide +kernel
theorem d_TR_chanceByShares_83 : decode M_TR_chanceByShares.2.1 83 = .ok (.getfield 24, 3) := by decide +kernel
theorem d_TR_chanceByShares_86 : decode M_TR_chanceByShares.2.1 86 = .ok (.iload_n 1, 1) := by decide +kernel
theorem d_TR_chanceByShares_87 : decode M_TR_chanceByShares.2.1 87 = .ok (.iaload, 1) := by decide +kernel
theorem d_TR_chanceByShares_88 : decode M_TR_chanceByShares.2.1 88 = .ok (.if_icmp .ge 77, 3) := by decide +kernel
theorem d_TR_chanceByShares_91 : decode M_TR_chanceByShares.2.1 91 = .ok (.iload_n 3, 1) := by decide +kernel
theorem d_TR_chanceByShares_92 : decode M_TR_chanceByShares.2.1 92 = .ok (.ifCond .le 73, 3) := by decide +kernel
theorem d_TR_chanceByShares_95 : decode M_TR_chanceByShares.2.1 95 = .ok (.aload_n 0, 1) := by decide +kernel
theorem d_TR_chanceByShares_96 : decode M_TR_chanceByShares.2.1 96 = .ok (.iload_n 1, 1) := by decide +kernel
theorem d_TR_chanceByShares_97 : decode M_TR_chanceByShares.2.1 97 = .ok (.iload_n 2, 1) := by decide +kernel
theorem d_TR_chanceByShares_98 : decode M_TR_chanceByShares.2.1 98 = .ok (.invokevirtual 50, 3) := by decide +kernel
theorem d_TR_chanceByShares_101 : decode M_TR_chanceByShares.2.1 101 = .ok (.istore 7, 2) := by decide +kernel
theorem d_TR_chanceByShares_103 : decode M_TR_chanceByShares.2.1 103 = .ok (.iload 7, 2) := by decide +kernel
theorem d_TR_chanceByShares_105 : decode M_TR_chanceByShares.2.1 105 = .ok (.ifCond .le 54, 3) := by decide +kernel
theorem d_TR_chanceByShares_108 : decode M_TR_chanceByShares.2.1 108 = .ok (.iload_n 3, 1) := by decide +kernel
theorem d_TR_chanceByShares_109 : decode M_TR_chanceByShares.2.1 109 = .ok (.aload_n 0, 1) := by decide +kernel
theorem d_TR_chanceByShares_110 : decode M_TR_chanceByShares.2.1 110 = .ok (.getfield 18, 3) := by decide +kernel
theorem d_TR_chanceByShares_113 : decode M_TR_chanceByShares.2.1 113 = .ok (.iload 7, 2) := by decide +kernel
theorem d_TR_chanceByShares_115 : decode M_TR_chanceByShares.2.1 115 = .ok (.iaload, 1) := by decide +kernel
theorem d_TR_chanceByShares_116 : decode M_TR_chanceByShares.2.1 116 = .ok (.aload_n 0, 1) := by decide +kernel
theorem d_TR_chanceByShares_117 : decode M_TR_chanceByShares.2.1 117 = .ok (.getfield 15, 3) := by decide +kernel
theorem d_TR_chanceByShares_120 : decode M_TR_chanceByShares.2.1 120 = .ok (.iload 7, 2) := by decide +kernel
theorem d_TR_chanceByShares_122 : decode M_TR_chanceByShares.2.1 122 = .ok (.iaload, 1) := by decide +kernel
theorem d_TR_chanceByShares_123 : decode M_TR_chanceByShares.2.1 123 = .ok (.isub, 1) := by decide +kernel
theorem d_TR_chanceByShares_124 : decode M_TR_chanceByShares.2.1 124 = .ok (.invokestatic 53, 3) := by decide +kernel
theorem d_TR_chanceByShares_127 : decode M_TR_chanceByShares.2.1 127 = .ok (.istore 8, 2) := by decide +kernel
theorem d_TR_chanceByShares_129 : decode M_TR_chanceByShares.2.1 129 = .ok (.aload_n 0, 1) := by decide +kernel
theorem d_TR_chanceByShares_130 : decode M_TR_chanceByShares.2.1 130 = .ok (.getfield 34, 3) := by decide +kernel
theorem d_TR_chanceByShares_133 : decode M_TR_chanceByShares.2.1 133 = .ok (.iload 7, 2) := by decide +kernel
theorem d_TR_chanceByShares_135 : decode M_TR_chanceByShares.2.1 135 = .ok (.iconst 1, 1) := by decide +kernel
theorem d_TR_chanceByShares_136 : decode M_TR_chanceByShares.2.1 136 = .ok (.bastore, 1) := by decide +kernel
theorem d_TR_chanceByShares_137 : decode M_TR_chanceByShares.2.1 137 = .ok (.iload_n 3, 1) := by decide +kernel
theorem d_TR_chanceByShares_138 : decode M_TR_chanceByShares.2.1 138 = .ok (.iload 8, 2) := by decide +kernel
theorem d_TR_chanceByShares_140 : decode M_TR_chanceByShares.2.1 140 = .ok (.isub, 1) := by decide +kernel
theorem d_TR_chanceByShares_141 : decode M_TR_chanceByShares.2.1 141 = .ok (.istore_n 3, 1) := by decide +kernel
theorem d_TR_chanceByShares_142 : decode M_TR_chanceByShares.2.1 142 = .ok (.lload 4, 2) := by decide +kernel
theorem d_TR_chanceByShares_144 : decode M_TR_chanceByShares.2.1 144 = .ok (.iload 8, 2) := by decide +kernel
theorem d_TR_chanceByShares_146 : decode M_TR_chanceByShares.2.1 146 = .ok (.i2l, 1) := by decide +kernel
theorem d_TR_chanceByShares_147 : decode M_TR_chanceByShares.2.1 147 = .ok (.aload_n 0, 1) := by decide +kernel
theorem d_TR_chanceByShares_148 : decode M_TR_chanceByShares.2.1 148 = .ok (.getfield 31, 3) := by decide +kernel
theorem d_TR_chanceByShares_151 : decode M_TR_chanceByShares.2.1 151 = .ok (.iload 7, 2) := by decide +kernel
theorem d_TR_chanceByShares_153 : decode M_TR_chanceByShares.2.1 153 = .ok (.iaload, 1) := by decide +kernel
theorem d_TR_chanceByShares_154 : decode M_TR_chanceByShares.2.1 154 = .ok (.i2l, 1) := by decide +kernel
theorem d_TR_chanceByShares_155 : decode M_TR_chanceByShares.2.1 155 = .ok (.lmul, 1) := by decide +kernel
theorem d_TR_chanceByShares_156 : decode M_TR_chanceByShares.2.1 156 = .ok (.ladd, 1) := by decide +kernel
theorem d_TR_chanceByShares_157 : decode M_TR_chanceByShares.2.1 157 = .ok (.lstore 4, 2) := by decide +kernel
theorem d_TR_chanceByShares_159 : decode M_TR_chanceByShares.2.1 159 = .ok (.iinc 6 1, 3) := by decide +kernel
theorem d_TR_chanceByShares_162 : decode M_TR_chanceByShares.2.1 162 = .ok (.goto (-82), 3) := by decide +kernel
theorem d_TR_chanceByShares_165 : decode M_TR_chanceByShares.2.1 165 = .ok (.lload 4, 2) := by decide +kernel
theorem d_TR_chanceByShares_167 : decode M_TR_chanceByShares.2.1 167 = .ok (.ldc2_w 59, 3) := by decide +kernel
theorem d_TR_chanceByShares_170 : decode M_TR_chanceByShares.2.1 170 = .ok (.ldiv, 1) := by decide +kernel
theorem d_TR_chanceByShares_171 : decode M_TR_chanceByShares.2.1 171 = .ok (.l2i, 1) := by decide +kernel
theorem d_TR_chanceByShares_172 : decode M_TR_chanceByShares.2.1 172 = .ok (.ireturn, 1) := by decide +kernel
theorem d_TR_bestUnserved_0 : decode M_TR_bestUnserved.2.1 0 = .ok (.iconst 0, 1) := by decide +kernel
theorem d_TR_bestUnserved_1 : decode M_TR_bestUnserved.2.1 1 = .ok (.istore_n 3, 1) := by decide +kernel
theorem d_TR_bestUnserved_2 : decode M_TR_bestUnserved.2.1 2 = .ok (.iload_n 1, 1) := by decide +kernel
theorem d_TR_bestUnserved_3 : decode M_TR_bestUnserved.2.1 3 = .ok (.iconst 1, 1) := by decide +kernel
theorem d_TR_bestUnserved_4 : decode M_TR_bestUnserved.2.1 4 = .ok (.iadd, 1) := by decide +kernel
theorem d_TR_bestUnserved_5 : decode M_TR_bestUnserved.2.1 5 = .ok (.istore 4, 2) := by decide +kernel
theorem d_TR_bestUnserved_7 : decode M_TR_bestUnserved.2.1 7 = .ok (.iload 4, 2) := by decide +kernel
theorem d_TR_bestUnserved_9 : decode M_TR_bestUnserved.2.1 9 = .ok (.aload_n 0, 1) := by decide +kernel
theorem d_TR_bestUnserved_10 : decode M_TR_bestUnserved.2.1 10 = .ok (.getfield 37, 3) := by decide +kernel
theorem d_TR_bestUnserved_13 : decode M_TR_bestUnserved.2.1 13 = .ok (.if_icmp .ge 57, 3) := by decide +kernel
theorem d_TR_bestUnserved_16 : decode M_TR_bestUnserved.2.1 16 = .ok (.aload_n 0, 1) := by decide +kernel
theorem d_TR_bestUnserved_17 : decode M_TR_bestUnserved.2.1 17 = .ok (.getfield 11, 3) := by decide +kernel
theorem d_TR_bestUnserved_20 : decode M_TR_bestUnserved.2.1 20 = .ok (.iload 4, 2) := by decide +kernel
theorem d_TR_bestUnserved_22 : decode M_TR_bestUnserved.2.1 22 = .ok (.iaload, 1) := by decide +kernel
theorem d_TR_bestUnserved_23 : decode M_TR_bestUnserved.2.1 23 = .ok (.iload_n 1, 1) := by decide +kernel
theorem d_TR_bestUnserved_24 : decode M_TR_bestUnserved.2.1 24 = .ok (.if_icmp .ne 40, 3) := by decide +kernel
theorem d_TR_bestUnserved_27 : decode M_TR_bestUnserved.2.1 27 = .ok (.aload_n 0, 1) := by decide +kernel
theorem d_TR_bestUnserved_28 : decode M_TR_bestUnserved.2.1 28 = .ok (.getfield 34, 3) := by decide +kernel
theorem d_TR_bestUnserved_31 : decode M_TR_bestUnserved.2.1 31 = .ok (.iload 4, 2) := by decide +kernel
theorem d_TR_bestUnserved_33 : decode M_TR_bestUnserved.2.1 33 = .ok (.baload, 1) := by decide +kernel
theorem d_TR_bestUnserved_34 : decode M_TR_bestUnserved.2.1 34 = .ok (.ifCond .ne 30, 3) := by decide +kernel
theorem d_TR_bestUnserved_37 : decode M_TR_bestUnserved.2.1 37 = .ok (.iload_n 3, 1) := by decide +kernel
theorem d_TR_bestUnserved_38 : decode M_TR_bestUnserved.2.1 38 = .ok (.ifCond .eq 23, 3) := by decide +kernel
theorem d_TR_bestUnserved_41 : decode M_TR_bestUnserved.2.1 41 = .ok (.aload_n 0, 1) := by decide +kernel
theorem d_TR_bestUnserved_42 : decode M_TR_bestUnserved.2.1 42 = .ok (.getfield 31, 3) := by decide +kernel
theorem d_TR_bestUnserved_45 : decode M_TR_bestUnserved.2.1 45 = .ok (.iload 4, 2) := by decide +kernel
theorem d_TR_bestUnserved_47 : decode M_TR_bestUnserved.2.1 47 = .ok (.iaload, 1) := by decide +kernel
theorem d_TR_bestUnserved_48 : decode M_TR_bestUnserved.2.1 48 = .ok (.aload_n 0, 1) := by decide +kernel
theorem d_TR_bestUnserved_49 : decode M_TR_bestUnserved.2.1 49 = .ok (.getfield 31, 3) := by decide +kernel
theorem d_TR_bestUnserved_52 : decode M_TR_bestUnserved.2.1 52 = .ok (.iload_n 3, 1) := by decide +kernel
theorem d_TR_bestUnserved_53 : decode M_TR_bestUnserved.2.1 53 = .ok (.iaload, 1) := by decide +kernel
theorem d_TR_bestUnserved_54 : decode M_TR_bestUnserved.2.1 54 = .ok (.iload_n 2, 1) := by decide +kernel
theorem d_TR_bestUnserved_55 : decode M_TR_bestUnserved.2.1 55 = .ok (.invokestatic 61, 3) := by decide +kernel
theorem d_TR_bestUnserved_58 : decode M_TR_bestUnserved.2.1 58 = .ok (.ifCond .eq 6, 3) := by decide +kernel
theorem d_TR_bestUnserved_61 : decode M_TR_bestUnserved.2.1 61 = .ok (.iload 4, 2) := by decide +kernel
theorem d_TR_bestUnserved_63 : decode M_TR_bestUnserved.2.1 63 = .ok (.istore_n 3, 1) := by decide +kernel
theorem d_TR_bestUnserved_64 : decode M_TR_bestUnserved.2.1 64 = .ok (.iinc 4 1, 3) := by decide +kernel
theorem d_TR_bestUnserved_67 : decode M_TR_bestUnserved.2.1 67 = .ok (.goto (-60), 3) := by decide +kernel
theorem d_TR_bestUnserved_70 : decode M_TR_bestUnserved.2.1 70 = .ok (.iload_n 3, 1) := by decide +kernel
theorem d_TR_bestUnserved_71 : decode M_TR_bestUnserved.2.1 71 = .ok (.ireturn, 1) := by decide +kernel
theorem d_TR_isBetter_0 : decode M_TR_isBetter.2.1 0 = .ok (.iload_n 2, 1) := by decide +kernel
theorem d_TR_isBetter_1 : decode M_TR_isBetter.2.1 1 = .ok (.ifCond .eq 16, 3) := by decide +kernel
theorem d_TR_isBetter_4 : decode M_TR_isBetter.2.1 4 = .ok (.iload_n 0, 1) := by decide +kernel
theorem d_TR_isBetter_5 : decode M_TR_isBetter.2.1 5 = .ok (.iload_n 1, 1) := by decide +kernel
theorem d_TR_isBetter_6 : decode M_TR_isBetter.2.1 6 = .ok (.if_icmp .le 7, 3) := by decide +kernel
theorem d_TR_isBetter_9 : decode M_TR_isBetter.2.1 9 = .ok (.iconst 1, 1) := by decide +kernel
theorem d_TR_isBetter_10 : decode M_TR_isBetter.2.1 10 = .ok (.goto 17, 3) := by decide +kernel
theorem d_TR_isBetter_13 : decode M_TR_isBetter.2.1 13 = .ok (.iconst 0, 1) := by decide +kernel
theorem d_TR_isBetter_14 : decode M_TR_isBetter.2.1 14 = .ok (.goto 13, 3) := by decide +kernel
theorem d_TR_isBetter_17 : decode M_TR_isBetter.2.1 17 = .ok (.iload_n 0, 1) := by decide +kernel
theorem d_TR_isBetter_18 : decode M_TR_isBetter.2.1 18 = .ok (.iload_n 1, 1) := by decide +kernel
theorem d_TR_isBetter_19 : decode M_TR_isBetter.2.1 19 = .ok (.if_icmp .ge 7, 3) := by decide +kernel
theorem d_TR_isBetter_22 : decode M_TR_isBetter.2.1 22 = .ok (.iconst 1, 1) := by decide +kernel
theorem d_TR_isBetter_23 : decode M_TR_isBetter.2.1 23 = .ok (.goto 4, 3) := by decide +kernel
theorem d_TR_isBetter_26 : decode M_TR_isBetter.2.1 26 = .ok (.iconst 0, 1) := by decide +kernel
theorem d_TR_isBetter_27 : decode M_TR_isBetter.2.1 27 = .ok (.ireturn, 1) := by decide +kernel
section Sftree
variable {D : va_G} {ad : Nat → Nat} {ca : Nat → ClassId} {sc : SC} {h : Hp} {Q : Option Value → Hp → Prop}
theorem F_TR_has_0 (v1 : Int) (g1 : InR v1) (hF : ((v1 < 0 → Q (some (vI 0)) h) ∧ (0 ≤ v1 → (((h 19 8) ≤ v1 → Q (some (vI 0)) h) ∧ (v1 < (h 19 8) → Q (some (vI 1)) h))))) : WP D ad ca sc M_TR_has 0 [(0, .ref (ad 19)), (1, vI v1)] [] h Q := by
  refine P_iload_n 1 d_TR_has_0 rfl rfl ?_
  refine P_if_lt 16 d_TR_has_1 (by decide) g1 (fun c => ?_) (fun c => ?_)
  · have hF := hF.1 c
    refine P_iconst d_TR_has_16 ?_
    exact P_zret d_TR_has_17 rfl (Or.inl rfl) hF
  · have hF := hF.2 (Int.not_lt.mp c)
    refine P_iload_n 1 d_TR_has_4 rfl rfl ?_
    refine P_aload_n 0 d_TR_has_5 rfl rfl ?_
    refine G_TR_count tw_176 d_TR_has_6 (fun i1 => ?_)
    refine P_icmp_ge 16 d_TR_has_9 (by decide) g1 i1 (fun c => ?_) (fun c => ?_)
    · have hF := hF.1 c
      refine P_iconst d_TR_has_16 ?_
      exact P_zret d_TR_has_17 rfl (Or.inl rfl) hF
    · have hF := hF.2 (Int.not_le.mp c)
      refine P_iconst d_TR_has_12 ?_
      refine P_goto 17 d_TR_has_13 (by decide) ?_
      exact P_zret d_TR_has_17 rfl (Or.inr rfl) hF
theorem F_TR_takesChild_0 (v1 : Int) (g1 : InR v1) (hF : (0 ≤ v1 ∧ v1 < 24) ∧ ((4 ≤ (h 23 v1) → Q (some (vI 0)) h) ∧ ((h 23 v1) < 4 → (0 ≤ v1 ∧ v1 < 24) ∧ ((6 ≤ (h 24 v1) → Q (some (vI 0)) h) ∧ ((h 24 v1) < 6 → Q (some (vI 1)) h))))) : WP D ad ca sc M_TR_takesChild 0 [(0, .ref (ad 19)), (1, vI v1)] [] h Q := by
  refine P_aload_n 0 d_TR_takesChild_0 rfl rfl ?_
  refine G_TR_depths tw_168 d_TR_takesChild_1 ?_
  refine P_iload_n 1 d_TR_takesChild_4 rfl rfl ?_
  obtain ⟨b1, hF⟩ := hF
  refine L_23 d_TR_takesChild_5 b1 (fun i2 => ?_)
  refine P_iconst d_TR_takesChild_6 ?_
  refine P_icmp_ge 25 d_TR_takesChild_7 (by decide) i2 ⟨by decide, by decide⟩ (fun c => ?_) (fun c => ?_)
  · have hF := hF.1 c
    refine P_iconst d_TR_takesChild_25 ?_
    exact P_zret d_TR_takesChild_26 rfl (Or.inl rfl) hF
  · have hF := hF.2 (Int.not_le.mp c)
    refine P_aload_n 0 d_TR_takesChild_10 rfl rfl ?_
    refine G_TR_childCounts tw_170 d_TR_takesChild_11 ?_
    refine P_iload_n 1 d_TR_takesChild_14 rfl rfl ?_
    obtain ⟨b3, hF⟩ := hF
    refine L_24 d_TR_takesChild_15 b3 (fun i4 => ?_)
    refine P_bipush d_TR_takesChild_16 (by decide) ?_
    refine P_icmp_ge 25 d_TR_takesChild_18 (by decide) i4 ⟨by decide, by decide⟩ (fun c => ?_) (fun c => ?_)
    · have hF := hF.1 c
      refine P_iconst d_TR_takesChild_25 ?_
      exact P_zret d_TR_takesChild_26 rfl (Or.inl rfl) hF
    · have hF := hF.2 (Int.not_le.mp c)
      refine P_iconst d_TR_takesChild_21 ?_
      refine P_goto 26 d_TR_takesChild_22 (by decide) ?_
      exact P_zret d_TR_takesChild_26 rfl (Or.inr rfl) hF
theorem F_TR_add_0 (v1 v2 v3 : Int) (g1 : InR v1) (g2 : InR v2) (g3 : InR v3) (hF : (0 ≤ (h 19 8) ∧ (h 19 8) < 24) ∧ (0 ≤ (h 19 8) ∧ (h 19 8) < 24) ∧ (0 ≤ (h 19 8) ∧ (h 19 8) < 24) ∧ (0 ≤ v1 ∧ v1 < 24) ∧ (0 ≤ (h 19 8) ∧ (h 19 8) < 24) ∧ (InR ((h 23 v1) + 1)) ∧ (0 ≤ v1 ∧ v1 < 24) ∧ (0 ≤ v1 ∧ v1 < 24) ∧ (InR ((h 24 v1) + 1)) ∧ (InR ((h 19 8) + 1)) ∧ Q (some (vI (h 19 8))) (up (up (up (up (up (up h 20 (h 19 8) v1) 21 (h 19 8) v2) 22 (h 19 8) v3) 23 (h 19 8) ((h 23 v1) + 1)) 24 v1 ((h 24 v1) + 1)) 19 8 ((h 19 8) + 1))) : WP D ad ca sc M_TR_add 0 [(0, .ref (ad 19)), (1, vI v1), (2, vI v2), (3, vI v3)] [] h Q := by
  refine P_aload_n 0 d_TR_add_0 rfl rfl ?_
  refine G_TR_count tw_176 d_TR_add_1 (fun i1 => ?_)
  refine P_istore (lv' := [(0, .ref (ad 19)), (1, vI v1), (2, vI v2), (3, vI v3), (4, vI (h 19 8))]) [1, 2, 3, 4, 0] d_TR_add_4 (by decide) rfl ?_
  refine P_aload_n 0 d_TR_add_6 rfl rfl ?_
  refine G_TR_parents tw_162 d_TR_add_7 ?_
  refine P_iload 4 d_TR_add_10 rfl ?_
  refine P_iload_n 1 d_TR_add_12 rfl rfl ?_
  obtain ⟨b2, hF⟩ := hF
  refine T_20 d_TR_add_13 b2 g1 ?_
  refine P_aload_n 0 d_TR_add_14 rfl rfl ?_
  refine G_TR_lows tw_164 d_TR_add_15 ?_
  refine P_iload 4 d_TR_add_18 rfl ?_
  refine P_iload_n 2 d_TR_add_20 rfl rfl ?_
  obtain ⟨b3, hF⟩ := hF
  refine T_21 d_TR_add_21 b3 g2 ?_
  refine P_aload_n 0 d_TR_add_22 rfl rfl ?_
  refine G_TR_highs tw_166 d_TR_add_23 ?_
  refine P_iload 4 d_TR_add_26 rfl ?_
  refine P_iload_n 3 d_TR_add_28 rfl rfl ?_
  obtain ⟨b4, hF⟩ := hF
  refine T_22 d_TR_add_29 b4 g3 ?_
  refine P_aload_n 0 d_TR_add_30 rfl rfl ?_
  refine G_TR_depths tw_168 d_TR_add_31 ?_
  refine P_iload 4 d_TR_add_34 rfl ?_
  refine P_aload_n 0 d_TR_add_36 rfl rfl ?_
  refine G_TR_depths tw_168 d_TR_add_37 ?_
  refine P_iload_n 1 d_TR_add_40 rfl rfl ?_
  obtain ⟨b5, hF⟩ := hF
  refine L_23 d_TR_add_41 b5 (fun i6 => ?_)
  refine P_iconst d_TR_add_42 ?_
  refine P_iadd d_TR_add_43 ?_
  obtain ⟨b7, hF⟩ := hF
  obtain ⟨b8, hF⟩ := hF
  refine T_23 d_TR_add_44 b7 b8 ?_
  refine P_aload_n 0 d_TR_add_45 rfl rfl ?_
  refine G_TR_childCounts tw_170 d_TR_add_46 ?_
  refine P_iload_n 1 d_TR_add_49 rfl rfl ?_
  refine P_dup2 d_TR_add_50 rfl rfl ?_
  obtain ⟨b9, hF⟩ := hF
  refine L_24 d_TR_add_51 b9 (fun i10 => ?_)
  refine P_iconst d_TR_add_52 ?_
  refine P_iadd d_TR_add_53 ?_
  obtain ⟨b11, hF⟩ := hF
  obtain ⟨b12, hF⟩ := hF
  refine T_24 d_TR_add_54 b11 b12 ?_
  refine P_aload_n 0 d_TR_add_55 rfl rfl ?_
  refine P_iload 4 d_TR_add_56 rfl ?_
  refine P_iconst d_TR_add_58 ?_
  refine P_iadd d_TR_add_59 ?_
  obtain ⟨b13, hF⟩ := hF
  refine S_TR_count tw_176 d_TR_add_60 b13 ?_
  refine P_iload 4 d_TR_add_63 rfl ?_
  exact P_iret d_TR_add_65 rfl hF
theorem F_TR_isSound_0  (hF : WP D ad ca sc M_TR_isSound 2 [(0, .ref (ad 19)), (1, vI 0)] [] h Q) : WP D ad ca sc M_TR_isSound 0 [(0, .ref (ad 19))] [] h Q := by
  refine P_iconst d_TR_isSound_0 ?_
  refine P_istore_n (lv' := [(0, .ref (ad 19)), (1, vI 0)]) [1, 0] d_TR_isSound_1 rfl (by decide) rfl ?_
  refine P_sub (lv' := [(0, .ref (ad 19)), (1, vI 0)]) [0, 1] rfl ?_
  exact hF
theorem F_TR_isSound_2 (v1 : Int) (g1 : InR v1) (hF : (((h 19 8) ≤ v1 → Q (some (vI 1)) h) ∧ (v1 < (h 19 8) → (0 ≤ v1 ∧ v1 < 24) ∧ (((h 24 v1) ≤ 0 → WP D ad ca sc M_TR_isSound 2 [(0, .ref (ad 19)), (1, vI (v1 + 1))] [] h Q) ∧ (0 < (h 24 v1) → WP D ad ca none M_TR_hasShares 0 [(0, .ref (ad 19)), (1, vI v1)] [] h (RI (fun r5 h4 => ((¬ r5 = 0 → WP D ad ca sc M_TR_isSound 2 [(0, .ref (ad 19)), (1, vI (v1 + 1))] [] h4 Q) ∧ (r5 = 0 → Q (some (vI 0)) h4))))))))) : WP D ad ca sc M_TR_isSound 2 [(0, .ref (ad 19)), (1, vI v1)] [] h Q := by
  refine P_iload_n 1 d_TR_isSound_2 rfl rfl ?_
  refine P_aload_n 0 d_TR_isSound_3 rfl rfl ?_
  refine G_TR_count tw_176 d_TR_isSound_4 (fun i1 => ?_)
  refine P_icmp_ge 35 d_TR_isSound_7 (by decide) g1 i1 (fun c => ?_) (fun c => ?_)
  · have hF := hF.1 c
    refine P_iconst d_TR_isSound_35 ?_
    exact P_zret d_TR_isSound_36 rfl (Or.inr rfl) hF
  · have hF := hF.2 (Int.not_le.mp c)
    refine P_aload_n 0 d_TR_isSound_10 rfl rfl ?_
    refine G_TR_childCounts tw_170 d_TR_isSound_11 ?_
    refine P_iload_n 1 d_TR_isSound_14 rfl rfl ?_
    obtain ⟨b2, hF⟩ := hF
    refine L_24 d_TR_isSound_15 b2 (fun i3 => ?_)
    refine P_if_le 29 d_TR_isSound_16 (by decide) i3 (fun c => ?_) (fun c => ?_)
    · have hF := hF.1 c
      refine P_iinc (lv' := [(0, .ref (ad 19)), (1, vI (v1 + 1))]) 1 [1, 0] d_TR_isSound_29 rfl (by decide) rfl ?_
      refine P_goto 2 d_TR_isSound_32 (by decide) ?_
      refine P_sub (lv' := [(0, .ref (ad 19)), (1, vI (v1 + 1))]) [0, 1] rfl ?_
      exact hF
    · have hF := hF.2 (Int.not_le.mp c)
      refine P_aload_n 0 d_TR_isSound_19 rfl rfl ?_
      refine P_iload_n 1 d_TR_isSound_20 rfl rfl ?_
      refine V_TR_hasShares tw_522 d_TR_isSound_21 (by decide) (Nat.le_of_ble_eq_true rfl) hF (fun r5 h4 i6 hF => ?_)
      refine P_if_ne 29 d_TR_isSound_24 (by decide) i6 (fun c => ?_) (fun c => ?_)
      · have hF := hF.1 c
        refine P_iinc (lv' := [(0, .ref (ad 19)), (1, vI (v1 + 1))]) 1 [1, 0] d_TR_isSound_29 rfl (by decide) rfl ?_
        refine P_goto 2 d_TR_isSound_32 (by decide) ?_
        refine P_sub (lv' := [(0, .ref (ad 19)), (1, vI (v1 + 1))]) [0, 1] rfl ?_
        exact hF
      · have hF := hF.2 c
        refine P_iconst d_TR_isSound_27 ?_
        exact P_zret d_TR_isSound_28 rfl (Or.inl rfl) hF
theorem F_TR_hasShares_0 (v1 : Int) (g1 : InR v1) (hF : WP D ad ca sc M_TR_hasShares 9 [(0, .ref (ad 19)), (1, vI v1), (2, vI 0), (3, vI 0), (4, vI (v1 + 1))] [] h Q) : WP D ad ca sc M_TR_hasShares 0 [(0, .ref (ad 19)), (1, vI v1)] [] h Q := by
  refine P_iconst d_TR_hasShares_0 ?_
  refine P_istore_n (lv' := [(0, .ref (ad 19)), (1, vI v1), (2, vI 0)]) [1, 2, 0] d_TR_hasShares_1 rfl (by decide) rfl ?_
  refine P_iconst d_TR_hasShares_2 ?_
  refine P_istore_n (lv' := [(0, .ref (ad 19)), (1, vI v1), (2, vI 0), (3, vI 0)]) [1, 2, 3, 0] d_TR_hasShares_3 rfl (by decide) rfl ?_
  refine P_iload_n 1 d_TR_hasShares_4 rfl rfl ?_
  refine P_iconst d_TR_hasShares_5 ?_
  refine P_iadd d_TR_hasShares_6 ?_
  refine P_istore (lv' := [(0, .ref (ad 19)), (1, vI v1), (2, vI 0), (3, vI 0), (4, vI (v1 + 1))]) [1, 2, 3, 4, 0] d_TR_hasShares_7 (by decide) rfl ?_
  refine P_sub (lv' := [(0, .ref (ad 19)), (1, vI v1), (2, vI 0), (3, vI 0), (4, vI (v1 + 1))]) [0, 1, 2, 3, 4] rfl ?_
  exact hF
theorem F_TR_hasShares_9 (v1 v2 v3 v4 : Int) (g1 : InR v1) (g2 : InR v2) (g3 : InR v3) (g4 : InR v4) (hF : (((h 19 8) ≤ v4 → ((100 < v2 → Q (some (vI 0)) h) ∧ (v2 ≤ 100 → ((v3 < 100 → Q (some (vI 0)) h) ∧ (100 ≤ v3 → Q (some (vI 1)) h))))) ∧ (v4 < (h 19 8) → (0 ≤ v4 ∧ v4 < 24) ∧ ((¬ (h 20 v4) = v1 → WP D ad ca sc M_TR_hasShares 9 [(0, .ref (ad 19)), (1, vI v1), (2, vI v2), (3, vI v3), (4, vI (v4 + 1))] [] h Q) ∧ ((h 20 v4) = v1 → (0 ≤ v4 ∧ v4 < 24) ∧ (0 ≤ v4 ∧ v4 < 24) ∧ WP D ad ca sc M_TR_hasShares 9 [(0, .ref (ad 19)), (1, vI v1), (2, vI (v2 + (h 21 v4))), (3, vI (v3 + (h 22 v4))), (4, vI (v4 + 1))] [] h Q))))) : WP D ad ca sc M_TR_hasShares 9 [(0, .ref (ad 19)), (1, vI v1), (2, vI v2), (3, vI v3), (4, vI v4)] [] h Q := by
  refine P_iload 4 d_TR_hasShares_9 rfl ?_
  refine P_aload_n 0 d_TR_hasShares_11 rfl rfl ?_
  refine G_TR_count tw_176 d_TR_hasShares_12 (fun i1 => ?_)
  refine P_icmp_ge 55 d_TR_hasShares_15 (by decide) g4 i1 (fun c => ?_) (fun c => ?_)
  · have hF := hF.1 c
    refine P_iload_n 2 d_TR_hasShares_55 rfl rfl ?_
    refine P_bipush d_TR_hasShares_56 (by decide) ?_
    refine P_icmp_gt 71 d_TR_hasShares_58 (by decide) g2 ⟨by decide, by decide⟩ (fun c => ?_) (fun c => ?_)
    · have hF := hF.1 c
      refine P_iconst d_TR_hasShares_71 ?_
      exact P_zret d_TR_hasShares_72 rfl (Or.inl rfl) hF
    · have hF := hF.2 (Int.not_lt.mp c)
      refine P_iload_n 3 d_TR_hasShares_61 rfl rfl ?_
      refine P_bipush d_TR_hasShares_62 (by decide) ?_
      refine P_icmp_lt 71 d_TR_hasShares_64 (by decide) g3 ⟨by decide, by decide⟩ (fun c => ?_) (fun c => ?_)
      · have hF := hF.1 c
        refine P_iconst d_TR_hasShares_71 ?_
        exact P_zret d_TR_hasShares_72 rfl (Or.inl rfl) hF
      · have hF := hF.2 (Int.not_lt.mp c)
        refine P_iconst d_TR_hasShares_67 ?_
        refine P_goto 72 d_TR_hasShares_68 (by decide) ?_
        exact P_zret d_TR_hasShares_72 rfl (Or.inr rfl) hF
  · have hF := hF.2 (Int.not_le.mp c)
    refine P_aload_n 0 d_TR_hasShares_18 rfl rfl ?_
    refine G_TR_parents tw_162 d_TR_hasShares_19 ?_
    refine P_iload 4 d_TR_hasShares_22 rfl ?_
    obtain ⟨b2, hF⟩ := hF
    refine L_20 d_TR_hasShares_24 b2 (fun i3 => ?_)
    refine P_iload_n 1 d_TR_hasShares_25 rfl rfl ?_
    refine P_icmp_ne 49 d_TR_hasShares_26 (by decide) i3 g1 (fun c => ?_) (fun c => ?_)
    · have hF := hF.1 c
      refine P_iinc (lv' := [(0, .ref (ad 19)), (1, vI v1), (2, vI v2), (3, vI v3), (4, vI (v4 + 1))]) 4 [1, 2, 3, 4, 0] d_TR_hasShares_49 rfl (by decide) rfl ?_
      refine P_goto 9 d_TR_hasShares_52 (by decide) ?_
      refine P_sub (lv' := [(0, .ref (ad 19)), (1, vI v1), (2, vI v2), (3, vI v3), (4, vI (v4 + 1))]) [0, 1, 2, 3, 4] rfl ?_
      exact hF
    · have hF := hF.2 c
      refine P_iload_n 2 d_TR_hasShares_29 rfl rfl ?_
      refine P_aload_n 0 d_TR_hasShares_30 rfl rfl ?_
      refine G_TR_lows tw_164 d_TR_hasShares_31 ?_
      refine P_iload 4 d_TR_hasShares_34 rfl ?_
      obtain ⟨b4, hF⟩ := hF
      refine L_21 d_TR_hasShares_36 b4 (fun i5 => ?_)
      refine P_iadd d_TR_hasShares_37 ?_
      refine P_istore_n (lv' := [(0, .ref (ad 19)), (1, vI v1), (2, vI (v2 + (h 21 v4))), (3, vI v3), (4, vI v4)]) [1, 2, 0, 3, 4] d_TR_hasShares_38 rfl (by decide) rfl ?_
      refine P_iload_n 3 d_TR_hasShares_39 rfl rfl ?_
      refine P_aload_n 0 d_TR_hasShares_40 rfl rfl ?_
      refine G_TR_highs tw_166 d_TR_hasShares_41 ?_
      refine P_iload 4 d_TR_hasShares_44 rfl ?_
      obtain ⟨b6, hF⟩ := hF
      refine L_22 d_TR_hasShares_46 b6 (fun i7 => ?_)
      refine P_iadd d_TR_hasShares_47 ?_
      refine P_istore_n (lv' := [(0, .ref (ad 19)), (1, vI v1), (2, vI (v2 + (h 21 v4))), (3, vI (v3 + (h 22 v4))), (4, vI v4)]) [1, 2, 3, 0, 4] d_TR_hasShares_48 rfl (by decide) rfl ?_
      refine P_iinc (lv' := [(0, .ref (ad 19)), (1, vI v1), (2, vI (v2 + (h 21 v4))), (3, vI (v3 + (h 22 v4))), (4, vI (v4 + 1))]) 4 [1, 2, 3, 4, 0] d_TR_hasShares_49 rfl (by decide) rfl ?_
      refine P_goto 9 d_TR_hasShares_52 (by decide) ?_
      refine P_sub (lv' := [(0, .ref (ad 19)), (1, vI v1), (2, vI (v2 + (h 21 v4))), (3, vI (v3 + (h 22 v4))), (4, vI (v4 + 1))]) [0, 1, 2, 3, 4] rfl ?_
      exact hF
theorem F_TR_chanceOf_0 (v1 v2 : Int) (g1 : InR v1) (g2 : InR v2) (hF : WP D ad ca sc M_TR_chanceOf 7 [(0, .ref (ad 19)), (1, vI v1), (2, vI v2), (3, vI ((h 19 8) - 1))] [] h Q) : WP D ad ca sc M_TR_chanceOf 0 [(0, .ref (ad 19)), (1, vI v1), (2, vI v2)] [] h Q := by
  refine P_aload_n 0 d_TR_chanceOf_0 rfl rfl ?_
  refine G_TR_count tw_176 d_TR_chanceOf_1 (fun i1 => ?_)
  refine P_iconst d_TR_chanceOf_4 ?_
  refine P_isub d_TR_chanceOf_5 ?_
  refine P_istore_n (lv' := [(0, .ref (ad 19)), (1, vI v1), (2, vI v2), (3, vI ((h 19 8) - 1))]) [1, 2, 3, 0] d_TR_chanceOf_6 rfl (by decide) rfl ?_
  refine P_sub (lv' := [(0, .ref (ad 19)), (1, vI v1), (2, vI v2), (3, vI ((h 19 8) - 1))]) [0, 1, 2, 3] rfl ?_
  exact hF
theorem F_TR_chanceOf_7 (v1 v2 v3 : Int) (g1 : InR v1) (g2 : InR v2) (g3 : InR v3) (hF : ((v3 < v1 → (0 ≤ v1 ∧ v1 < 24) ∧ Q (some (vI (h 26 v1))) h) ∧ (v1 ≤ v3 → (0 ≤ v3 ∧ v3 < 24) ∧ (((h 24 v3) ≤ 0 → (0 ≤ v3 ∧ v3 < 24) ∧ (((h 25 v3) = 0 → (0 ≤ v3 ∧ v3 < 24) ∧ WP D ad ca sc M_TR_chanceOf 7 [(0, .ref (ad 19)), (1, vI v1), (2, vI v2), (3, vI (v3 + (-1)))] [] (up h 26 v3 0) Q) ∧ (¬ (h 25 v3) = 0 → (0 ≤ v3 ∧ v3 < 24) ∧ WP D ad ca sc M_TR_chanceOf 7 [(0, .ref (ad 19)), (1, vI v1), (2, vI v2), (3, vI (v3 + (-1)))] [] (up h 26 v3 100000000) Q))) ∧ (0 < (h 24 v3) → WP D ad ca none M_TR_chanceByShares 0 [(0, .ref (ad 19)), (1, vI v3), (2, vI v2)] [] h (RI (fun r10 h9 => (0 ≤ v3 ∧ v3 < 24) ∧ WP D ad ca sc M_TR_chanceOf 7 [(0, .ref (ad 19)), (1, vI v1), (2, vI v2), (3, vI (v3 + (-1)))] [] (up h9 26 v3 r10) Q))))))) : WP D ad ca sc M_TR_chanceOf 7 [(0, .ref (ad 19)), (1, vI v1), (2, vI v2), (3, vI v3)] [] h Q := by
  refine P_iload_n 3 d_TR_chanceOf_7 rfl rfl ?_
  refine P_iload_n 1 d_TR_chanceOf_8 rfl rfl ?_
  refine P_icmp_lt 63 d_TR_chanceOf_9 (by decide) g3 g1 (fun c => ?_) (fun c => ?_)
  · have hF := hF.1 c
    refine P_aload_n 0 d_TR_chanceOf_63 rfl rfl ?_
    refine G_TR_chances tw_174 d_TR_chanceOf_64 ?_
    refine P_iload_n 1 d_TR_chanceOf_67 rfl rfl ?_
    obtain ⟨b1, hF⟩ := hF
    refine L_26 d_TR_chanceOf_68 b1 (fun i2 => ?_)
    exact P_iret d_TR_chanceOf_69 rfl hF
  · have hF := hF.2 (Int.not_lt.mp c)
    refine P_aload_n 0 d_TR_chanceOf_12 rfl rfl ?_
    refine G_TR_childCounts tw_170 d_TR_chanceOf_13 ?_
    refine P_iload_n 3 d_TR_chanceOf_16 rfl rfl ?_
    obtain ⟨b3, hF⟩ := hF
    refine L_24 d_TR_chanceOf_17 b3 (fun i4 => ?_)
    refine P_if_le 36 d_TR_chanceOf_18 (by decide) i4 (fun c => ?_) (fun c => ?_)
    · have hF := hF.1 c
      refine P_aload_n 0 d_TR_chanceOf_36 rfl rfl ?_
      refine G_TR_chances tw_174 d_TR_chanceOf_37 ?_
      refine P_iload_n 3 d_TR_chanceOf_40 rfl rfl ?_
      refine P_aload_n 0 d_TR_chanceOf_41 rfl rfl ?_
      refine G_TR_feared tw_172 d_TR_chanceOf_42 ?_
      refine P_iload_n 3 d_TR_chanceOf_45 rfl rfl ?_
      obtain ⟨b5, hF⟩ := hF
      refine L_25 d_TR_chanceOf_46 b5 (fun i6 => ?_)
      refine P_if_eq 55 d_TR_chanceOf_47 (by decide) i6 (fun c => ?_) (fun c => ?_)
      · have hF := hF.1 c
        refine P_iconst d_TR_chanceOf_55 ?_
        obtain ⟨b7, hF⟩ := hF
        refine T_26 d_TR_chanceOf_56 b7 ⟨by decide, by decide⟩ ?_
        refine P_iinc (lv' := [(0, .ref (ad 19)), (1, vI v1), (2, vI v2), (3, vI (v3 + (-1)))]) 3 [1, 2, 3, 0] d_TR_chanceOf_57 rfl (by decide) rfl ?_
        refine P_goto 7 d_TR_chanceOf_60 (by decide) ?_
        refine P_sub (lv' := [(0, .ref (ad 19)), (1, vI v1), (2, vI v2), (3, vI (v3 + (-1)))]) [0, 1, 2, 3] rfl ?_
        exact hF
      · have hF := hF.2 c
        refine P_ldc (n := 100000000) tw_547 (by decide) d_TR_chanceOf_50 ?_
        refine P_goto 56 d_TR_chanceOf_52 (by decide) ?_
        obtain ⟨b8, hF⟩ := hF
        refine T_26 d_TR_chanceOf_56 b8 ⟨by decide, by decide⟩ ?_
        refine P_iinc (lv' := [(0, .ref (ad 19)), (1, vI v1), (2, vI v2), (3, vI (v3 + (-1)))]) 3 [1, 2, 3, 0] d_TR_chanceOf_57 rfl (by decide) rfl ?_
        refine P_goto 7 d_TR_chanceOf_60 (by decide) ?_
        refine P_sub (lv' := [(0, .ref (ad 19)), (1, vI v1), (2, vI v2), (3, vI (v3 + (-1)))]) [0, 1, 2, 3] rfl ?_
        exact hF
    · have hF := hF.2 (Int.not_le.mp c)
      refine P_aload_n 0 d_TR_chanceOf_21 rfl rfl ?_
      refine G_TR_chances tw_174 d_TR_chanceOf_22 ?_
      refine P_iload_n 3 d_TR_chanceOf_25 rfl rfl ?_
      refine P_aload_n 0 d_TR_chanceOf_26 rfl rfl ?_
      refine P_iload_n 3 d_TR_chanceOf_27 rfl rfl ?_
      refine P_iload_n 2 d_TR_chanceOf_28 rfl rfl ?_
      refine V_TR_chanceByShares tw_534 d_TR_chanceOf_29 (by decide) (Nat.le_of_ble_eq_true rfl) hF (fun r10 h9 i11 hF => ?_)
      obtain ⟨b12, hF⟩ := hF
      refine T_26 d_TR_chanceOf_32 b12 i11 ?_
      refine P_goto 57 d_TR_chanceOf_33 (by decide) ?_
      refine P_iinc (lv' := [(0, .ref (ad 19)), (1, vI v1), (2, vI v2), (3, vI (v3 + (-1)))]) 3 [1, 2, 3, 0] d_TR_chanceOf_57 rfl (by decide) rfl ?_
      refine P_goto 7 d_TR_chanceOf_60 (by decide) ?_
      refine P_sub (lv' := [(0, .ref (ad 19)), (1, vI v1), (2, vI v2), (3, vI (v3 + (-1)))]) [0, 1, 2, 3] rfl ?_
      exact hF
theorem F_TR_chanceByShares_0 (v1 v2 : Int) (g1 : InR v1) (g2 : InR v2) (hF : WP D ad ca sc M_TR_chanceByShares 11 [(0, .ref (ad 19)), (1, vI v1), (2, vI v2), (3, vI 100), (4, vL 0), (6, vI (v1 + 1))] [] h Q) : WP D ad ca sc M_TR_chanceByShares 0 [(0, .ref (ad 19)), (1, vI v1), (2, vI v2)] [] h Q := by
  refine P_bipush d_TR_chanceByShares_0 (by decide) ?_
  refine P_istore_n (lv' := [(0, .ref (ad 19)), (1, vI v1), (2, vI v2), (3, vI 100)]) [1, 2, 3, 0] d_TR_chanceByShares_2 rfl (by decide) rfl ?_
  refine P_lconst (i := 0) d_TR_chanceByShares_3 (by decide) ?_
  refine P_lstore (lv' := [(0, .ref (ad 19)), (1, vI v1), (2, vI v2), (3, vI 100), (4, vL 0)]) [1, 2, 3, 4, 0] d_TR_chanceByShares_4 (by decide) rfl ?_
  refine P_iload_n 1 d_TR_chanceByShares_6 rfl rfl ?_
  refine P_iconst d_TR_chanceByShares_7 ?_
  refine P_iadd d_TR_chanceByShares_8 ?_
  refine P_istore (lv' := [(0, .ref (ad 19)), (1, vI v1), (2, vI v2), (3, vI 100), (4, vL 0), (6, vI (v1 + 1))]) [1, 2, 3, 4, 5, 0] d_TR_chanceByShares_9 (by decide) rfl ?_
  refine P_sub (lv' := [(0, .ref (ad 19)), (1, vI v1), (2, vI v2), (3, vI 100), (4, vL 0), (6, vI (v1 + 1))]) [0, 1, 2, 3, 4, 5] rfl ?_
  exact hF
theorem F_TR_chanceByShares_11 (v1 v2 v3 v4 v6 : Int) (g1 : InR v1) (g2 : InR v2) (g3 : InR v3) (g6 : InR v6) (hF : (((h 19 8) ≤ v6 → WP D ad ca sc M_TR_chanceByShares 80 [(0, .ref (ad 19)), (1, vI v1), (2, vI v2), (3, vI v3), (4, vL v4), (6, vI 0)] [] h Q) ∧ (v6 < (h 19 8) → (0 ≤ v6 ∧ v6 < 24) ∧ ((¬ (h 20 v6) = v1 → WP D ad ca sc M_TR_chanceByShares 11 [(0, .ref (ad 19)), (1, vI v1), (2, vI v2), (3, vI v3), (4, vL v4), (6, vI (v6 + 1))] [] h Q) ∧ ((h 20 v6) = v1 → (0 ≤ v6 ∧ v6 < 24) ∧ (0 ≤ v6 ∧ v6 < 24) ∧ (0 ≤ v6 ∧ v6 < 24) ∧ (0 ≤ v6 ∧ v6 < 24) ∧ WP D ad ca sc M_TR_chanceByShares 11 [(0, .ref (ad 19)), (1, vI v1), (2, vI v2), (3, vI (v3 - (h 21 v6))), (4, vL (v4 + ((h 21 v6) * (h 26 v6)))), (6, vI (v6 + 1))] [] (up h 27 v6 0) Q))))) : WP D ad ca sc M_TR_chanceByShares 11 [(0, .ref (ad 19)), (1, vI v1), (2, vI v2), (3, vI v3), (4, vL v4), (6, vI v6)] [] h Q := by
  refine P_iload 5 d_TR_chanceByShares_11 rfl ?_
  refine P_aload_n 0 d_TR_chanceByShares_13 rfl rfl ?_
  refine G_TR_count tw_176 d_TR_chanceByShares_14 (fun i1 => ?_)
  refine P_icmp_ge 77 d_TR_chanceByShares_17 (by decide) g6 i1 (fun c => ?_) (fun c => ?_)
  · have hF := hF.1 c
    refine P_iconst d_TR_chanceByShares_77 ?_
    refine P_istore (lv' := [(0, .ref (ad 19)), (1, vI v1), (2, vI v2), (3, vI v3), (4, vL v4), (6, vI 0)]) [1, 2, 3, 4, 5, 0] d_TR_chanceByShares_78 (by decide) rfl ?_
    refine P_sub (lv' := [(0, .ref (ad 19)), (1, vI v1), (2, vI v2), (3, vI v3), (4, vL v4), (6, vI 0)]) [0, 1, 2, 3, 4, 5] rfl ?_
    exact hF
  · have hF := hF.2 (Int.not_le.mp c)
    refine P_aload_n 0 d_TR_chanceByShares_20 rfl rfl ?_
    refine G_TR_parents tw_162 d_TR_chanceByShares_21 ?_
    refine P_iload 5 d_TR_chanceByShares_24 rfl ?_
    obtain ⟨b2, hF⟩ := hF
    refine L_20 d_TR_chanceByShares_26 b2 (fun i3 => ?_)
    refine P_iload_n 1 d_TR_chanceByShares_27 rfl rfl ?_
    refine P_icmp_ne 71 d_TR_chanceByShares_28 (by decide) i3 g1 (fun c => ?_) (fun c => ?_)
    · have hF := hF.1 c
      refine P_iinc (lv' := [(0, .ref (ad 19)), (1, vI v1), (2, vI v2), (3, vI v3), (4, vL v4), (6, vI (v6 + 1))]) 5 [1, 2, 3, 4, 5, 0] d_TR_chanceByShares_71 rfl (by decide) rfl ?_
      refine P_goto 11 d_TR_chanceByShares_74 (by decide) ?_
      refine P_sub (lv' := [(0, .ref (ad 19)), (1, vI v1), (2, vI v2), (3, vI v3), (4, vL v4), (6, vI (v6 + 1))]) [0, 1, 2, 3, 4, 5] rfl ?_
      exact hF
    · have hF := hF.2 c
      refine P_aload_n 0 d_TR_chanceByShares_31 rfl rfl ?_
      refine G_TR_served tw_175 d_TR_chanceByShares_32 ?_
      refine P_iload 5 d_TR_chanceByShares_35 rfl ?_
      refine P_iconst d_TR_chanceByShares_37 ?_
      obtain ⟨b4, hF⟩ := hF
      refine T_27 d_TR_chanceByShares_38 b4 (Or.inl rfl) ?_
      refine P_iload_n 3 d_TR_chanceByShares_39 rfl rfl ?_
      refine P_aload_n 0 d_TR_chanceByShares_40 rfl rfl ?_
      refine G_TR_lows tw_164 d_TR_chanceByShares_41 ?_
      refine P_iload 5 d_TR_chanceByShares_44 rfl ?_
      obtain ⟨b5, hF⟩ := hF
      refine L_21 d_TR_chanceByShares_46 b5 (fun i6 => ?_)
      refine P_isub d_TR_chanceByShares_47 ?_
      refine P_istore_n (lv' := [(0, .ref (ad 19)), (1, vI v1), (2, vI v2), (3, vI (v3 - (h 21 v6))), (4, vL v4), (6, vI v6)]) [1, 2, 3, 0, 4, 5] d_TR_chanceByShares_48 rfl (by decide) rfl ?_
      refine P_lload 4 d_TR_chanceByShares_49 rfl ?_
      refine P_aload_n 0 d_TR_chanceByShares_51 rfl rfl ?_
      refine G_TR_lows tw_164 d_TR_chanceByShares_52 ?_
      refine P_iload 5 d_TR_chanceByShares_55 rfl ?_
      obtain ⟨b7, hF⟩ := hF
      refine L_21 d_TR_chanceByShares_57 b7 (fun i8 => ?_)
      refine P_i2l i8 d_TR_chanceByShares_58 ?_
      refine P_aload_n 0 d_TR_chanceByShares_59 rfl rfl ?_
      refine G_TR_chances tw_174 d_TR_chanceByShares_60 ?_
      refine P_iload 5 d_TR_chanceByShares_63 rfl ?_
      obtain ⟨b9, hF⟩ := hF
      refine L_26 d_TR_chanceByShares_65 b9 (fun i10 => ?_)
      refine P_i2l i10 d_TR_chanceByShares_66 ?_
      refine P_lmul d_TR_chanceByShares_67 ?_
      refine P_ladd d_TR_chanceByShares_68 ?_
      refine P_lstore (lv' := [(0, .ref (ad 19)), (1, vI v1), (2, vI v2), (3, vI (v3 - (h 21 v6))), (4, vL (v4 + ((h 21 v6) * (h 26 v6)))), (6, vI v6)]) [1, 2, 3, 4, 0, 5] d_TR_chanceByShares_69 (by decide) rfl ?_
      refine P_iinc (lv' := [(0, .ref (ad 19)), (1, vI v1), (2, vI v2), (3, vI (v3 - (h 21 v6))), (4, vL (v4 + ((h 21 v6) * (h 26 v6)))), (6, vI (v6 + 1))]) 5 [1, 2, 3, 4, 5, 0] d_TR_chanceByShares_71 rfl (by decide) rfl ?_
      refine P_goto 11 d_TR_chanceByShares_74 (by decide) ?_
      refine P_sub (lv' := [(0, .ref (ad 19)), (1, vI v1), (2, vI v2), (3, vI (v3 - (h 21 v6))), (4, vL (v4 + ((h 21 v6) * (h 26 v6)))), (6, vI (v6 + 1))]) [0, 1, 2, 3, 4, 5] rfl ?_
      exact hF
theorem F_TR_chanceByShares_80 (v1 v2 v3 v4 v6 : Int) (g1 : InR v1) (g2 : InR v2) (g3 : InR v3) (g6 : InR v6) (hF : (0 ≤ v1 ∧ v1 < 24) ∧ (((h 24 v1) ≤ v6 → (0 ≤ v4 ∧ InL v4) ∧ Q (some (vI (v4 / 100))) h) ∧ (v6 < (h 24 v1) → ((v3 ≤ 0 → (0 ≤ v4 ∧ InL v4) ∧ Q (some (vI (v4 / 100))) h) ∧ (0 < v3 → WP D ad ca none M_TR_bestUnserved 0 [(0, .ref (ad 19)), (1, vI v1), (2, vI v2)] [] h (RI (fun r6 h5 => ((r6 ≤ 0 → WP D ad ca sc M_TR_chanceByShares 80 [(0, .ref (ad 19)), (1, vI v1), (2, vI v2), (3, vI v3), (4, vL v4), (6, vI (v6 + 1))] [] h5 Q) ∧ (0 < r6 → (0 ≤ r6 ∧ r6 < 24) ∧ (0 ≤ r6 ∧ r6 < 24) ∧ (InR ((h5 22 r6) - (h5 21 r6))) ∧ (0 ≤ r6 ∧ r6 < 24) ∧ (0 ≤ r6 ∧ r6 < 24) ∧ WP D ad ca sc M_TR_chanceByShares 80 [(0, .ref (ad 19)), (1, vI v1), (2, vI v2), (3, vI (v3 - (min v3 ((h5 22 r6) - (h5 21 r6))))), (4, vL (v4 + ((min v3 ((h5 22 r6) - (h5 21 r6))) * (h5 26 r6)))), (6, vI (v6 + 1))] [] (up h5 27 r6 1) Q))))))))) : WP D ad ca sc M_TR_chanceByShares 80 [(0, .ref (ad 19)), (1, vI v1), (2, vI v2), (3, vI v3), (4, vL v4), (6, vI v6)] [] h Q := by
  refine P_iload 5 d_TR_chanceByShares_80 rfl ?_
  refine P_aload_n 0 d_TR_chanceByShares_82 rfl rfl ?_
  refine G_TR_childCounts tw_170 d_TR_chanceByShares_83 ?_
  refine P_iload_n 1 d_TR_chanceByShares_86 rfl rfl ?_
  obtain ⟨b1, hF⟩ := hF
  refine L_24 d_TR_chanceByShares_87 b1 (fun i2 => ?_)
  refine P_icmp_ge 165 d_TR_chanceByShares_88 (by decide) g6 i2 (fun c => ?_) (fun c => ?_)
  · have hF := hF.1 c
    refine P_lload 4 d_TR_chanceByShares_165 rfl ?_
    refine P_ldc2 (n := 100) tw_546 (by decide) d_TR_chanceByShares_167 ?_
    obtain ⟨b3, hF⟩ := hF
    refine P_ldiv b3 ⟨by decide, by decide, by decide⟩ d_TR_chanceByShares_170 ?_
    refine P_l2i d_TR_chanceByShares_171 ?_
    exact P_iret d_TR_chanceByShares_172 rfl hF
  · have hF := hF.2 (Int.not_le.mp c)
    refine P_iload_n 3 d_TR_chanceByShares_91 rfl rfl ?_
    refine P_if_le 165 d_TR_chanceByShares_92 (by decide) g3 (fun c => ?_) (fun c => ?_)
    · have hF := hF.1 c
      refine P_lload 4 d_TR_chanceByShares_165 rfl ?_
      refine P_ldc2 (n := 100) tw_546 (by decide) d_TR_chanceByShares_167 ?_
      obtain ⟨b4, hF⟩ := hF
      refine P_ldiv b4 ⟨by decide, by decide, by decide⟩ d_TR_chanceByShares_170 ?_
      refine P_l2i d_TR_chanceByShares_171 ?_
      exact P_iret d_TR_chanceByShares_172 rfl hF
    · have hF := hF.2 (Int.not_le.mp c)
      refine P_aload_n 0 d_TR_chanceByShares_95 rfl rfl ?_
      refine P_iload_n 1 d_TR_chanceByShares_96 rfl rfl ?_
      refine P_iload_n 2 d_TR_chanceByShares_97 rfl rfl ?_
      refine V_TR_bestUnserved tw_538 d_TR_chanceByShares_98 (by decide) (Nat.le_of_ble_eq_true rfl) hF (fun r6 h5 i7 hF => ?_)
      refine P_istore (lv' := [(0, .ref (ad 19)), (1, vI v1), (2, vI v2), (3, vI v3), (4, vL v4), (6, vI v6), (7, vI r6)]) [1, 2, 3, 4, 5, 6, 0] d_TR_chanceByShares_101 (by decide) rfl ?_
      refine P_iload 6 d_TR_chanceByShares_103 rfl ?_
      refine P_if_le 159 d_TR_chanceByShares_105 (by decide) i7 (fun c => ?_) (fun c => ?_)
      · have hF := hF.1 c
        refine P_iinc (lv' := [(0, .ref (ad 19)), (1, vI v1), (2, vI v2), (3, vI v3), (4, vL v4), (6, vI (v6 + 1)), (7, vI r6)]) 5 [1, 2, 3, 4, 5, 0, 6] d_TR_chanceByShares_159 rfl (by decide) rfl ?_
        refine P_goto 80 d_TR_chanceByShares_162 (by decide) ?_
        refine P_sub (lv' := [(0, .ref (ad 19)), (1, vI v1), (2, vI v2), (3, vI v3), (4, vL v4), (6, vI (v6 + 1))]) [0, 1, 2, 3, 4, 5] rfl ?_
        exact hF
      · have hF := hF.2 (Int.not_le.mp c)
        refine P_iload_n 3 d_TR_chanceByShares_108 rfl rfl ?_
        refine P_aload_n 0 d_TR_chanceByShares_109 rfl rfl ?_
        refine G_TR_highs tw_166 d_TR_chanceByShares_110 ?_
        refine P_iload 6 d_TR_chanceByShares_113 rfl ?_
        obtain ⟨b8, hF⟩ := hF
        refine L_22 d_TR_chanceByShares_115 b8 (fun i9 => ?_)
        refine P_aload_n 0 d_TR_chanceByShares_116 rfl rfl ?_
        refine G_TR_lows tw_164 d_TR_chanceByShares_117 ?_
        refine P_iload 6 d_TR_chanceByShares_120 rfl ?_
        obtain ⟨b10, hF⟩ := hF
        refine L_21 d_TR_chanceByShares_122 b10 (fun i11 => ?_)
        refine P_isub d_TR_chanceByShares_123 ?_
        obtain ⟨b12, hF⟩ := hF
        refine V_Math_min tw_545 d_TR_chanceByShares_124 (by decide) (Nat.le_of_ble_eq_true rfl) g3 b12 ?_
        refine P_istore (lv' := [(0, .ref (ad 19)), (1, vI v1), (2, vI v2), (3, vI v3), (4, vL v4), (6, vI v6), (7, vI r6), (8, vI (min v3 ((h5 22 r6) - (h5 21 r6))))]) [1, 2, 3, 4, 5, 6, 7, 0] d_TR_chanceByShares_127 (by decide) rfl ?_
        refine P_aload_n 0 d_TR_chanceByShares_129 rfl rfl ?_
        refine G_TR_served tw_175 d_TR_chanceByShares_130 ?_
        refine P_iload 6 d_TR_chanceByShares_133 rfl ?_
        refine P_iconst d_TR_chanceByShares_135 ?_
        obtain ⟨b13, hF⟩ := hF
        refine T_27 d_TR_chanceByShares_136 b13 (Or.inr rfl) ?_
        refine P_iload_n 3 d_TR_chanceByShares_137 rfl rfl ?_
        refine P_iload 7 d_TR_chanceByShares_138 rfl ?_
        refine P_isub d_TR_chanceByShares_140 ?_
        refine P_istore_n (lv' := [(0, .ref (ad 19)), (1, vI v1), (2, vI v2), (3, vI (v3 - (min v3 ((h5 22 r6) - (h5 21 r6))))), (4, vL v4), (6, vI v6), (7, vI r6), (8, vI (min v3 ((h5 22 r6) - (h5 21 r6))))]) [1, 2, 3, 0, 4, 5, 6, 7] d_TR_chanceByShares_141 rfl (by decide) rfl ?_
        refine P_lload 4 d_TR_chanceByShares_142 rfl ?_
        refine P_iload 7 d_TR_chanceByShares_144 rfl ?_
        refine P_i2l (inR_min g3 b12) d_TR_chanceByShares_146 ?_
        refine P_aload_n 0 d_TR_chanceByShares_147 rfl rfl ?_
        refine G_TR_chances tw_174 d_TR_chanceByShares_148 ?_
        refine P_iload 6 d_TR_chanceByShares_151 rfl ?_
        obtain ⟨b14, hF⟩ := hF
        refine L_26 d_TR_chanceByShares_153 b14 (fun i15 => ?_)
        refine P_i2l i15 d_TR_chanceByShares_154 ?_
        refine P_lmul d_TR_chanceByShares_155 ?_
        refine P_ladd d_TR_chanceByShares_156 ?_
        refine P_lstore (lv' := [(0, .ref (ad 19)), (1, vI v1), (2, vI v2), (3, vI (v3 - (min v3 ((h5 22 r6) - (h5 21 r6))))), (4, vL (v4 + ((min v3 ((h5 22 r6) - (h5 21 r6))) * (h5 26 r6)))), (6, vI v6), (7, vI r6), (8, vI (min v3 ((h5 22 r6) - (h5 21 r6))))]) [1, 2, 3, 4, 0, 5, 6, 7] d_TR_chanceByShares_157 (by decide) rfl ?_
        refine P_iinc (lv' := [(0, .ref (ad 19)), (1, vI v1), (2, vI v2), (3, vI (v3 - (min v3 ((h5 22 r6) - (h5 21 r6))))), (4, vL (v4 + ((min v3 ((h5 22 r6) - (h5 21 r6))) * (h5 26 r6)))), (6, vI (v6 + 1)), (7, vI r6), (8, vI (min v3 ((h5 22 r6) - (h5 21 r6))))]) 5 [1, 2, 3, 4, 5, 0, 6, 7] d_TR_chanceByShares_159 rfl (by decide) rfl ?_
        refine P_goto 80 d_TR_chanceByShares_162 (by decide) ?_
        refine P_sub (lv' := [(0, .ref (ad 19)), (1, vI v1), (2, vI v2), (3, vI (v3 - (min v3 ((h5 22 r6) - (h5 21 r6))))), (4, vL (v4 + ((min v3 ((h5 22 r6) - (h5 21 r6))) * (h5 26 r6)))), (6, vI (v6 + 1))]) [0, 1, 2, 3, 4, 5] rfl ?_
        exact hF
theorem F_TR_bestUnserved_0 (v1 v2 : Int) (g1 : InR v1) (g2 : InR v2) (hF : WP D ad ca sc M_TR_bestUnserved 7 [(0, .ref (ad 19)), (1, vI v1), (2, vI v2), (3, vI 0), (4, vI (v1 + 1))] [] h Q) : WP D ad ca sc M_TR_bestUnserved 0 [(0, .ref (ad 19)), (1, vI v1), (2, vI v2)] [] h Q := by
  refine P_iconst d_TR_bestUnserved_0 ?_
  refine P_istore_n (lv' := [(0, .ref (ad 19)), (1, vI v1), (2, vI v2), (3, vI 0)]) [1, 2, 3, 0] d_TR_bestUnserved_1 rfl (by decide) rfl ?_
  refine P_iload_n 1 d_TR_bestUnserved_2 rfl rfl ?_
  refine P_iconst d_TR_bestUnserved_3 ?_
  refine P_iadd d_TR_bestUnserved_4 ?_
  refine P_istore (lv' := [(0, .ref (ad 19)), (1, vI v1), (2, vI v2), (3, vI 0), (4, vI (v1 + 1))]) [1, 2, 3, 4, 0] d_TR_bestUnserved_5 (by decide) rfl ?_
  refine P_sub (lv' := [(0, .ref (ad 19)), (1, vI v1), (2, vI v2), (3, vI 0), (4, vI (v1 + 1))]) [0, 1, 2, 3, 4] rfl ?_
  exact hF
theorem F_TR_bestUnserved_7 (v1 v2 v3 v4 : Int) (g1 : InR v1) (g2 : InR v2) (g3 : InR v3) (g4 : InR v4) (hF : (((h 19 8) ≤ v4 → Q (some (vI v3)) h) ∧ (v4 < (h 19 8) → (0 ≤ v4 ∧ v4 < 24) ∧ ((¬ (h 20 v4) = v1 → WP D ad ca sc M_TR_bestUnserved 7 [(0, .ref (ad 19)), (1, vI v1), (2, vI v2), (3, vI v3), (4, vI (v4 + 1))] [] h Q) ∧ ((h 20 v4) = v1 → (0 ≤ v4 ∧ v4 < 24) ∧ ((¬ (h 27 v4) = 0 → WP D ad ca sc M_TR_bestUnserved 7 [(0, .ref (ad 19)), (1, vI v1), (2, vI v2), (3, vI v3), (4, vI (v4 + 1))] [] h Q) ∧ ((h 27 v4) = 0 → ((v3 = 0 → WP D ad ca sc M_TR_bestUnserved 7 [(0, .ref (ad 19)), (1, vI v1), (2, vI v2), (3, vI v4), (4, vI (v4 + 1))] [] h Q) ∧ (¬ v3 = 0 → (0 ≤ v4 ∧ v4 < 24) ∧ (0 ≤ v3 ∧ v3 < 24) ∧ WP D ad ca none M_TR_isBetter 0 [(0, vI (h 26 v4)), (1, vI (h 26 v3)), (2, vI v2)] [] h (RI (fun r11 h10 => ((r11 = 0 → WP D ad ca sc M_TR_bestUnserved 7 [(0, .ref (ad 19)), (1, vI v1), (2, vI v2), (3, vI v3), (4, vI (v4 + 1))] [] h10 Q) ∧ (¬ r11 = 0 → WP D ad ca sc M_TR_bestUnserved 7 [(0, .ref (ad 19)), (1, vI v1), (2, vI v2), (3, vI v4), (4, vI (v4 + 1))] [] h10 Q))))))))))))) : WP D ad ca sc M_TR_bestUnserved 7 [(0, .ref (ad 19)), (1, vI v1), (2, vI v2), (3, vI v3), (4, vI v4)] [] h Q := by
  refine P_iload 4 d_TR_bestUnserved_7 rfl ?_
  refine P_aload_n 0 d_TR_bestUnserved_9 rfl rfl ?_
  refine G_TR_count tw_176 d_TR_bestUnserved_10 (fun i1 => ?_)
  refine P_icmp_ge 70 d_TR_bestUnserved_13 (by decide) g4 i1 (fun c => ?_) (fun c => ?_)
  · have hF := hF.1 c
    refine P_iload_n 3 d_TR_bestUnserved_70 rfl rfl ?_
    exact P_iret d_TR_bestUnserved_71 rfl hF
  · have hF := hF.2 (Int.not_le.mp c)
    refine P_aload_n 0 d_TR_bestUnserved_16 rfl rfl ?_
    refine G_TR_parents tw_162 d_TR_bestUnserved_17 ?_
    refine P_iload 4 d_TR_bestUnserved_20 rfl ?_
    obtain ⟨b2, hF⟩ := hF
    refine L_20 d_TR_bestUnserved_22 b2 (fun i3 => ?_)
    refine P_iload_n 1 d_TR_bestUnserved_23 rfl rfl ?_
    refine P_icmp_ne 64 d_TR_bestUnserved_24 (by decide) i3 g1 (fun c => ?_) (fun c => ?_)
    · have hF := hF.1 c
      refine P_iinc (lv' := [(0, .ref (ad 19)), (1, vI v1), (2, vI v2), (3, vI v3), (4, vI (v4 + 1))]) 4 [1, 2, 3, 4, 0] d_TR_bestUnserved_64 rfl (by decide) rfl ?_
      refine P_goto 7 d_TR_bestUnserved_67 (by decide) ?_
      refine P_sub (lv' := [(0, .ref (ad 19)), (1, vI v1), (2, vI v2), (3, vI v3), (4, vI (v4 + 1))]) [0, 1, 2, 3, 4] rfl ?_
      exact hF
    · have hF := hF.2 c
      refine P_aload_n 0 d_TR_bestUnserved_27 rfl rfl ?_
      refine G_TR_served tw_175 d_TR_bestUnserved_28 ?_
      refine P_iload 4 d_TR_bestUnserved_31 rfl ?_
      obtain ⟨b4, hF⟩ := hF
      refine L_27 d_TR_bestUnserved_33 b4 (fun i5 => ?_)
      refine P_if_ne 64 d_TR_bestUnserved_34 (by decide) i5 (fun c => ?_) (fun c => ?_)
      · have hF := hF.1 c
        refine P_iinc (lv' := [(0, .ref (ad 19)), (1, vI v1), (2, vI v2), (3, vI v3), (4, vI (v4 + 1))]) 4 [1, 2, 3, 4, 0] d_TR_bestUnserved_64 rfl (by decide) rfl ?_
        refine P_goto 7 d_TR_bestUnserved_67 (by decide) ?_
        refine P_sub (lv' := [(0, .ref (ad 19)), (1, vI v1), (2, vI v2), (3, vI v3), (4, vI (v4 + 1))]) [0, 1, 2, 3, 4] rfl ?_
        exact hF
      · have hF := hF.2 c
        refine P_iload_n 3 d_TR_bestUnserved_37 rfl rfl ?_
        refine P_if_eq 61 d_TR_bestUnserved_38 (by decide) g3 (fun c => ?_) (fun c => ?_)
        · have hF := hF.1 c
          refine P_iload 4 d_TR_bestUnserved_61 rfl ?_
          refine P_istore_n (lv' := [(0, .ref (ad 19)), (1, vI v1), (2, vI v2), (3, vI v4), (4, vI v4)]) [1, 2, 3, 0, 4] d_TR_bestUnserved_63 rfl (by decide) rfl ?_
          refine P_iinc (lv' := [(0, .ref (ad 19)), (1, vI v1), (2, vI v2), (3, vI v4), (4, vI (v4 + 1))]) 4 [1, 2, 3, 4, 0] d_TR_bestUnserved_64 rfl (by decide) rfl ?_
          refine P_goto 7 d_TR_bestUnserved_67 (by decide) ?_
          refine P_sub (lv' := [(0, .ref (ad 19)), (1, vI v1), (2, vI v2), (3, vI v4), (4, vI (v4 + 1))]) [0, 1, 2, 3, 4] rfl ?_
          exact hF
        · have hF := hF.2 c
          refine P_aload_n 0 d_TR_bestUnserved_41 rfl rfl ?_
          refine G_TR_chances tw_174 d_TR_bestUnserved_42 ?_
          refine P_iload 4 d_TR_bestUnserved_45 rfl ?_
          obtain ⟨b6, hF⟩ := hF
          refine L_26 d_TR_bestUnserved_47 b6 (fun i7 => ?_)
          refine P_aload_n 0 d_TR_bestUnserved_48 rfl rfl ?_
          refine G_TR_chances tw_174 d_TR_bestUnserved_49 ?_
          refine P_iload_n 3 d_TR_bestUnserved_52 rfl rfl ?_
          obtain ⟨b8, hF⟩ := hF
          refine L_26 d_TR_bestUnserved_53 b8 (fun i9 => ?_)
          refine P_iload_n 2 d_TR_bestUnserved_54 rfl rfl ?_
          refine V_TR_isBetter tw_542 d_TR_bestUnserved_55 (by decide) (Nat.le_of_ble_eq_true rfl) hF (fun r11 h10 i12 hF => ?_)
          refine P_if_eq 64 d_TR_bestUnserved_58 (by decide) i12 (fun c => ?_) (fun c => ?_)
          · have hF := hF.1 c
            refine P_iinc (lv' := [(0, .ref (ad 19)), (1, vI v1), (2, vI v2), (3, vI v3), (4, vI (v4 + 1))]) 4 [1, 2, 3, 4, 0] d_TR_bestUnserved_64 rfl (by decide) rfl ?_
            refine P_goto 7 d_TR_bestUnserved_67 (by decide) ?_
            refine P_sub (lv' := [(0, .ref (ad 19)), (1, vI v1), (2, vI v2), (3, vI v3), (4, vI (v4 + 1))]) [0, 1, 2, 3, 4] rfl ?_
            exact hF
          · have hF := hF.2 c
            refine P_iload 4 d_TR_bestUnserved_61 rfl ?_
            refine P_istore_n (lv' := [(0, .ref (ad 19)), (1, vI v1), (2, vI v2), (3, vI v4), (4, vI v4)]) [1, 2, 3, 0, 4] d_TR_bestUnserved_63 rfl (by decide) rfl ?_
            refine P_iinc (lv' := [(0, .ref (ad 19)), (1, vI v1), (2, vI v2), (3, vI v4), (4, vI (v4 + 1))]) 4 [1, 2, 3, 4, 0] d_TR_bestUnserved_64 rfl (by decide) rfl ?_
            refine P_goto 7 d_TR_bestUnserved_67 (by decide) ?_
            refine P_sub (lv' := [(0, .ref (ad 19)), (1, vI v1), (2, vI v2), (3, vI v4), (4, vI (v4 + 1))]) [0, 1, 2, 3, 4] rfl ?_
            exact hF
theorem F_TR_isBetter_0 (v0 v1 v2 : Int) (g0 : InR v0) (g1 : InR v1) (g2 : InR v2) (hF : ((v2 = 0 → ((v1 ≤ v0 → Q (some (vI 0)) h) ∧ (v0 < v1 → Q (some (vI 1)) h))) ∧ (¬ v2 = 0 → ((v0 ≤ v1 → Q (some (vI 0)) h) ∧ (v1 < v0 → Q (some (vI 1)) h))))) : WP D ad ca sc M_TR_isBetter 0 [(0, vI v0), (1, vI v1), (2, vI v2)] [] h Q := by
  refine P_iload_n 2 d_TR_isBetter_0 rfl rfl ?_
  refine P_if_eq 17 d_TR_isBetter_1 (by decide) g2 (fun c => ?_) (fun c => ?_)
  · have hF := hF.1 c
    refine P_iload_n 0 d_TR_isBetter_17 rfl rfl ?_
    refine P_iload_n 1 d_TR_isBetter_18 rfl rfl ?_
    refine P_icmp_ge 26 d_TR_isBetter_19 (by decide) g0 g1 (fun c => ?_) (fun c => ?_)
    · have hF := hF.1 c
      refine P_iconst d_TR_isBetter_26 ?_
      exact P_zret d_TR_isBetter_27 rfl (Or.inl rfl) hF
    · have hF := hF.2 (Int.not_le.mp c)
      refine P_iconst d_TR_isBetter_22 ?_
      refine P_goto 27 d_TR_isBetter_23 (by decide) ?_
      exact P_zret d_TR_isBetter_27 rfl (Or.inr rfl) hF
  · have hF := hF.2 c
    refine P_iload_n 0 d_TR_isBetter_4 rfl rfl ?_
    refine P_iload_n 1 d_TR_isBetter_5 rfl rfl ?_
    refine P_icmp_le 13 d_TR_isBetter_6 (by decide) g0 g1 (fun c => ?_) (fun c => ?_)
    · have hF := hF.1 c
      refine P_iconst d_TR_isBetter_13 ?_
      refine P_goto 27 d_TR_isBetter_14 (by decide) ?_
      exact P_zret d_TR_isBetter_27 rfl (Or.inl rfl) hF
    · have hF := hF.2 (Int.not_le.mp c)
      refine P_iconst d_TR_isBetter_9 ?_
      refine P_goto 27 d_TR_isBetter_10 (by decide) ?_
      exact P_zret d_TR_isBetter_27 rfl (Or.inr rfl) hF
end Sftree
