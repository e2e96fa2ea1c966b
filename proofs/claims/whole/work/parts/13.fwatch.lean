theorem d_MW_shake_0 : decode M_MW_shake.2.1 0 = .ok (.lload_n 1, 1) := by decide +kernel
theorem d_MW_shake_1 : decode M_MW_shake.2.1 1 = .ok (.lconst 1, 1) := by decide +kernel
theorem d_MW_shake_2 : decode M_MW_shake.2.1 2 = .ok (.lcmp, 1) := by decide +kernel
theorem d_MW_shake_3 : decode M_MW_shake.2.1 3 = .ok (.ifCond .lt 11, 3) := by decide +kernel
theorem d_MW_shake_6 : decode M_MW_shake.2.1 6 = .ok (.lload_n 1, 1) := by decide +kernel
theorem d_MW_shake_7 : decode M_MW_shake.2.1 7 = .ok (.ldc2_w 48, 3) := by decide +kernel
theorem d_MW_shake_10 : decode M_MW_shake.2.1 10 = .ok (.lcmp, 1) := by decide +kernel
theorem d_MW_shake_11 : decode M_MW_shake.2.1 11 = .ok (.ifCond .le 6, 3) := by decide +kernel
theorem d_MW_shake_14 : decode M_MW_shake.2.1 14 = .ok (.bipush (-2), 2) := by decide +kernel
theorem d_MW_shake_16 : decode M_MW_shake.2.1 16 = .ok (.ireturn, 1) := by decide +kernel
theorem d_MW_shake_17 : decode M_MW_shake.2.1 17 = .ok (.aload_n 0, 1) := by decide +kernel
theorem d_MW_shake_18 : decode M_MW_shake.2.1 18 = .ok (.getfield 10, 3) := by decide +kernel
theorem d_MW_shake_21 : decode M_MW_shake.2.1 21 = .ok (.getfield 50, 3) := by decide +kernel
theorem d_MW_shake_24 : decode M_MW_shake.2.1 24 = .ok (.bipush 80, 2) := by decide +kernel
theorem d_MW_shake_26 : decode M_MW_shake.2.1 26 = .ok (.if_icmp .lt 6, 3) := by decide +kernel
theorem d_MW_shake_29 : decode M_MW_shake.2.1 29 = .ok (.bipush (-4), 2) := by decide +kernel
theorem d_MW_shake_31 : decode M_MW_shake.2.1 31 = .ok (.ireturn, 1) := by decide +kernel
theorem d_MW_shake_32 : decode M_MW_shake.2.1 32 = .ok (.aload_n 0, 1) := by decide +kernel
theorem d_MW_shake_33 : decode M_MW_shake.2.1 33 = .ok (.getfield 10, 3) := by decide +kernel
theorem d_MW_shake_36 : decode M_MW_shake.2.1 36 = .ok (.lload_n 1, 1) := by decide +kernel
theorem d_MW_shake_37 : decode M_MW_shake.2.1 37 = .ok (.aload_n 0, 1) := by decide +kernel
theorem d_MW_shake_38 : decode M_MW_shake.2.1 38 = .ok (.getfield 53, 3) := by decide +kernel
theorem d_MW_shake_41 : decode M_MW_shake.2.1 41 = .ok (.invokevirtual 56, 3) := by decide +kernel
theorem d_MW_shake_44 : decode M_MW_shake.2.1 44 = .ok (.ireturn, 1) := by decide +kernel
theorem d_MW_about_0 : decode M_MW_about.2.1 0 = .ok (.aload_n 0, 1) := by decide +kernel
theorem d_MW_about_1 : decode M_MW_about.2.1 1 = .ok (.getfield 10, 3) := by decide +kernel
theorem d_MW_about_4 : decode M_MW_about.2.1 4 = .ok (.iload_n 1, 1) := by decide +kernel
theorem d_MW_about_5 : decode M_MW_about.2.1 5 = .ok (.invokevirtual 60, 3) := by decide +kernel
theorem d_MW_about_8 : decode M_MW_about.2.1 8 = .ok (.ifCond .ne 5, 3) := by decide +kernel
theorem d_MW_about_11 : decode M_MW_about.2.1 11 = .ok (.iconst (-1), 1) := by decide +kernel
theorem d_MW_about_12 : decode M_MW_about.2.1 12 = .ok (.ireturn, 1) := by decide +kernel
theorem d_MW_about_13 : decode M_MW_about.2.1 13 = .ok (.iload_n 2, 1) := by decide +kernel
theorem d_MW_about_14 : decode M_MW_about.2.1 14 = .ok (.bipush 10, 2) := by decide +kernel
theorem d_MW_about_16 : decode M_MW_about.2.1 16 = .ok (.bipush 15, 2) := by decide +kernel
theorem d_MW_about_18 : decode M_MW_about.2.1 18 = .ok (.invokestatic 64, 3) := by decide +kernel
theorem d_MW_about_21 : decode M_MW_about.2.1 21 = .ok (.ifCond .eq 16, 3) := by decide +kernel
theorem d_MW_about_24 : decode M_MW_about.2.1 24 = .ok (.aload_n 0, 1) := by decide +kernel
theorem d_MW_about_25 : decode M_MW_about.2.1 25 = .ok (.getfield 10, 3) := by decide +kernel
theorem d_MW_about_28 : decode M_MW_about.2.1 28 = .ok (.iload_n 1, 1) := by decide +kernel
theorem d_MW_about_29 : decode M_MW_about.2.1 29 = .ok (.iload_n 2, 1) := by decide +kernel
theorem d_MW_about_30 : decode M_MW_about.2.1 30 = .ok (.bipush 10, 2) := by decide +kernel
theorem d_MW_about_32 : decode M_MW_about.2.1 32 = .ok (.isub, 1) := by decide +kernel
theorem d_MW_about_33 : decode M_MW_about.2.1 33 = .ok (.invokevirtual 68, 3) := by decide +kernel
theorem d_MW_about_36 : decode M_MW_about.2.1 36 = .ok (.ireturn, 1) := by decide +kernel
theorem d_MW_about_37 : decode M_MW_about.2.1 37 = .ok (.iload_n 2, 1) := by decide +kernel
theorem d_MW_about_38 : decode M_MW_about.2.1 38 = .ok (.tableswitch 56 0 2 #[26, 36, 46], 26) := by decide +kernel
theorem d_MW_about_64 : decode M_MW_about.2.1 64 = .ok (.aload_n 0, 1) := by decide +kernel
theorem d_MW_about_65 : decode M_MW_about.2.1 65 = .ok (.getfield 10, 3) := by decide +kernel
theorem d_MW_about_68 : decode M_MW_about.2.1 68 = .ok (.getfield 72, 3) := by decide +kernel
theorem d_MW_about_71 : decode M_MW_about.2.1 71 = .ok (.iload_n 1, 1) := by decide +kernel
theorem d_MW_about_72 : decode M_MW_about.2.1 72 = .ok (.iaload, 1) := by decide +kernel
theorem d_MW_about_73 : decode M_MW_about.2.1 73 = .ok (.ireturn, 1) := by decide +kernel
theorem d_MW_about_74 : decode M_MW_about.2.1 74 = .ok (.aload_n 0, 1) := by decide +kernel
theorem d_MW_about_75 : decode M_MW_about.2.1 75 = .ok (.getfield 10, 3) := by decide +kernel
theorem d_MW_about_78 : decode M_MW_about.2.1 78 = .ok (.getfield 76, 3) := by decide +kernel
theorem d_MW_about_81 : decode M_MW_about.2.1 81 = .ok (.iload_n 1, 1) := by decide +kernel
theorem d_MW_about_82 : decode M_MW_about.2.1 82 = .ok (.iaload, 1) := by decide +kernel
theorem d_MW_about_83 : decode M_MW_about.2.1 83 = .ok (.ireturn, 1) := by decide +kernel
theorem d_MW_about_84 : decode M_MW_about.2.1 84 = .ok (.aload_n 0, 1) := by decide +kernel
theorem d_MW_about_85 : decode M_MW_about.2.1 85 = .ok (.getfield 10, 3) := by decide +kernel
theorem d_MW_about_88 : decode M_MW_about.2.1 88 = .ok (.getfield 79, 3) := by decide +kernel
theorem d_MW_about_91 : decode M_MW_about.2.1 91 = .ok (.iload_n 1, 1) := by decide +kernel
theorem d_MW_about_92 : decode M_MW_about.2.1 92 = .ok (.iaload, 1) := by decide +kernel
theorem d_MW_about_93 : decode M_MW_about.2.1 93 = .ok (.ireturn, 1) := by decide +kernel
theorem d_MW_about_94 : decode M_MW_about.2.1 94 = .ok (.bipush (-2), 2) := by decide +kernel
theorem d_MW_about_96 : decode M_MW_about.2.1 96 = .ok (.ireturn, 1) := by decide +kernel
theorem d_MW_alike_0 : decode M_MW_alike.2.1 0 = .ok (.aload_n 0, 1) := by decide +kernel
theorem d_MW_alike_1 : decode M_MW_alike.2.1 1 = .ok (.getfield 10, 3) := by decide +kernel
theorem d_MW_alike_4 : decode M_MW_alike.2.1 4 = .ok (.iload_n 1, 1) := by decide +kernel
theorem d_MW_alike_5 : decode M_MW_alike.2.1 5 = .ok (.invokevirtual 60, 3) := by decide +kernel
theorem d_MW_alike_8 : decode M_MW_alike.2.1 8 = .ok (.ifCond .eq 14, 3) := by decide +kernel
theorem d_MW_alike_11 : decode M_MW_alike.2.1 11 = .ok (.aload_n 0, 1) := by decide +kernel
theorem d_MW_alike_12 : decode M_MW_alike.2.1 12 = .ok (.getfield 10, 3) := by decide +kernel
theorem d_MW_alike_15 : decode M_MW_alike.2.1 15 = .ok (.iload_n 2, 1) := by decide +kernel
theorem d_MW_alike_16 : decode M_MW_alike.2.1 16 = .ok (.invokevirtual 60, 3) := by decide +kernel
theorem d_MW_alike_19 : decode M_MW_alike.2.1 19 = .ok (.ifCond .ne 5, 3) := by decide +kernel
theorem d_MW_alike_22 : decode M_MW_alike.2.1 22 = .ok (.iconst (-1), 1) := by decide +kernel
theorem d_MW_alike_23 : decode M_MW_alike.2.1 23 = .ok (.ireturn, 1) := by decide +kernel
theorem d_MW_alike_24 : decode M_MW_alike.2.1 24 = .ok (.aload_n 0, 1) := by decide +kernel
theorem d_MW_alike_25 : decode M_MW_alike.2.1 25 = .ok (.getfield 10, 3) := by decide +kernel
theorem d_MW_alike_28 : decode M_MW_alike.2.1 28 = .ok (.iload_n 1, 1) := by decide +kernel
theorem d_MW_alike_29 : decode M_MW_alike.2.1 29 = .ok (.iload_n 2, 1) := by decide +kernel
theorem d_MW_alike_30 : decode M_MW_alike.2.1 30 = .ok (.invokevirtual 82, 3) := by decide +kernel
theorem d_MW_alike_33 : decode M_MW_alike.2.1 33 = .ok (.invokestatic 86, 3) := by decide +kernel
theorem d_MW_alike_36 : decode M_MW_alike.2.1 36 = .ok (.ireturn, 1) := by decide +kernel
theorem d_MW_likeness_0 : decode M_MW_likeness.2.1 0 = .ok (.iload_n 1, 1) := by decide +kernel
theorem d_MW_likeness_1 : decode M_MW_likeness.2.1 1 = .ok (.iconst 1, 1) := by decide +kernel
theorem d_MW_likeness_2 : decode M_MW_likeness.2.1 2 = .ok (.bipush 100, 2) := by decide +kernel
theorem d_MW_likeness_4 : decode M_MW_likeness.2.1 4 = .ok (.invokestatic 64, 3) := by decide +kernel
theorem d_MW_likeness_7 : decode M_MW_likeness.2.1 7 = .ok (.ifCond .ne 6, 3) := by decide +kernel
theorem d_MW_likeness_10 : decode M_MW_likeness.2.1 10 = .ok (.bipush (-2), 2) := by decide +kernel
theorem d_MW_likeness_12 : decode M_MW_likeness.2.1 12 = .ok (.ireturn, 1) := by decide +kernel
theorem d_MW_likeness_13 : decode M_MW_likeness.2.1 13 = .ok (.aload_n 0, 1) := by decide +kernel
theorem d_MW_likeness_14 : decode M_MW_likeness.2.1 14 = .ok (.getfield 10, 3) := by decide +kernel
theorem d_MW_likeness_17 : decode M_MW_likeness.2.1 17 = .ok (.getfield 90, 3) := by decide +kernel
theorem d_MW_likeness_20 : decode M_MW_likeness.2.1 20 = .ok (.istore_n 2, 1) := by decide +kernel
theorem d_MW_likeness_21 : decode M_MW_likeness.2.1 21 = .ok (.aload_n 0, 1) := by decide +kernel
theorem d_MW_likeness_22 : decode M_MW_likeness.2.1 22 = .ok (.getfield 10, 3) := by decide +kernel
theorem d_MW_likeness_25 : decode M_MW_likeness.2.1 25 = .ok (.iload_n 1, 1) := by decide +kernel
theorem d_MW_likeness_26 : decode M_MW_likeness.2.1 26 = .ok (.invokevirtual 93, 3) := by decide +kernel
theorem d_MW_likeness_29 : decode M_MW_likeness.2.1 29 = .ok (.iload_n 2, 1) := by decide +kernel
theorem d_MW_likeness_30 : decode M_MW_likeness.2.1 30 = .ok (.ireturn, 1) := by decide +kernel
theorem d_MW_family_0 : decode M_MW_family.2.1 0 = .ok (.iload_n 1, 1) := by decide +kernel
theorem d_MW_family_1 : decode M_MW_family.2.1 1 = .ok (.iconst (-1), 1) := by decide +kernel
theorem d_MW_family_2 : decode M_MW_family.2.1 2 = .ok (.if_icmp .ne 13, 3) := by decide +kernel
theorem d_MW_family_5 : decode M_MW_family.2.1 5 = .ok (.aload_n 0, 1) := by decide +kernel
theorem d_MW_family_6 : decode M_MW_family.2.1 6 = .ok (.getfield 10, 3) := by decide +kernel
theorem d_MW_family_9 : decode M_MW_family.2.1 9 = .ok (.invokevirtual 97, 3) := by decide +kernel
theorem d_MW_family_12 : decode M_MW_family.2.1 12 = .ok (.goto 11, 3) := by decide +kernel
theorem d_MW_family_15 : decode M_MW_family.2.1 15 = .ok (.aload_n 0, 1) := by decide +kernel
theorem d_MW_family_16 : decode M_MW_family.2.1 16 = .ok (.getfield 10, 3) := by decide +kernel
theorem d_MW_family_19 : decode M_MW_family.2.1 19 = .ok (.iload_n 1, 1) := by decide +kernel
theorem d_MW_family_20 : decode M_MW_family.2.1 20 = .ok (.invokevirtual 101, 3) := by decide +kernel
theorem d_MW_family_23 : decode M_MW_family.2.1 23 = .ok (.ireturn, 1) := by decide +kernel
theorem d_MW_kin_0 : decode M_MW_kin.2.1 0 = .ok (.aload_n 0, 1) := by decide +kernel
theorem d_MW_kin_1 : decode M_MW_kin.2.1 1 = .ok (.getfield 10, 3) := by decide +kernel
theorem d_MW_kin_4 : decode M_MW_kin.2.1 4 = .ok (.iload_n 1, 1) := by decide +kernel
theorem d_MW_kin_5 : decode M_MW_kin.2.1 5 = .ok (.invokevirtual 60, 3) := by decide +kernel
theorem d_MW_kin_8 : decode M_MW_kin.2.1 8 = .ok (.ifCond .eq 14, 3) := by decide +kernel
theorem d_MW_kin_11 : decode M_MW_kin.2.1 11 = .ok (.aload_n 0, 1) := by decide +kernel
theorem d_MW_kin_12 : decode M_MW_kin.2.1 12 = .ok (.getfield 10, 3) := by decide +kernel
theorem d_MW_kin_15 : decode M_MW_kin.2.1 15 = .ok (.iload_n 1, 1) := by decide +kernel
theorem d_MW_kin_16 : decode M_MW_kin.2.1 16 = .ok (.invokevirtual 105, 3) := by decide +kernel
theorem d_MW_kin_19 : decode M_MW_kin.2.1 19 = .ok (.goto 4, 3) := by decide +kernel
theorem d_MW_kin_22 : decode M_MW_kin.2.1 22 = .ok (.iconst (-1), 1) := by decide +kernel
theorem d_MW_kin_23 : decode M_MW_kin.2.1 23 = .ok (.ireturn, 1) := by decide +kernel
theorem d_MW_tilt_0 : decode M_MW_tilt.2.1 0 = .ok (.iload_n 1, 1) := by decide +kernel
theorem d_MW_tilt_1 : decode M_MW_tilt.2.1 1 = .ok (.sipush (-10000), 3) := by decide +kernel
theorem d_MW_tilt_4 : decode M_MW_tilt.2.1 4 = .ok (.sipush 10000, 3) := by decide +kernel
theorem d_MW_tilt_7 : decode M_MW_tilt.2.1 7 = .ok (.invokestatic 64, 3) := by decide +kernel
theorem d_MW_tilt_10 : decode M_MW_tilt.2.1 10 = .ok (.ifCond .ne 6, 3) := by decide +kernel
theorem d_MW_tilt_13 : decode M_MW_tilt.2.1 13 = .ok (.bipush (-2), 2) := by decide +kernel
theorem d_MW_tilt_15 : decode M_MW_tilt.2.1 15 = .ok (.ireturn, 1) := by decide +kernel
theorem d_MW_tilt_16 : decode M_MW_tilt.2.1 16 = .ok (.aload_n 0, 1) := by decide +kernel
theorem d_MW_tilt_17 : decode M_MW_tilt.2.1 17 = .ok (.getfield 19, 3) := by decide +kernel
theorem d_MW_tilt_20 : decode M_MW_tilt.2.1 20 = .ok (.getfield 108, 3) := by decide +kernel
theorem d_MW_tilt_23 : decode M_MW_tilt.2.1 23 = .ok (.aload_n 0, 1) := by decide +kernel
theorem d_MW_tilt_24 : decode M_MW_tilt.2.1 24 = .ok (.getfield 53, 3) := by decide +kernel
theorem d_MW_tilt_27 : decode M_MW_tilt.2.1 27 = .ok (.iload_n 1, 1) := by decide +kernel
theorem d_MW_tilt_28 : decode M_MW_tilt.2.1 28 = .ok (.iastore, 1) := by decide +kernel
theorem d_MW_tilt_29 : decode M_MW_tilt.2.1 29 = .ok (.iconst 1, 1) := by decide +kernel
theorem d_MW_tilt_30 : decode M_MW_tilt.2.1 30 = .ok (.ireturn, 1) := by decide +kernel
theorem d_MW_gas_0 : decode M_MW_gas.2.1 0 = .ok (.iload_n 1, 1) := by decide +kernel
theorem d_MW_gas_1 : decode M_MW_gas.2.1 1 = .ok (.iconst 0, 1) := by decide +kernel
theorem d_MW_gas_2 : decode M_MW_gas.2.1 2 = .ok (.sipush 10000, 3) := by decide +kernel
theorem d_MW_gas_5 : decode M_MW_gas.2.1 5 = .ok (.invokestatic 64, 3) := by decide +kernel
theorem d_MW_gas_8 : decode M_MW_gas.2.1 8 = .ok (.ifCond .ne 6, 3) := by decide +kernel
theorem d_MW_gas_11 : decode M_MW_gas.2.1 11 = .ok (.bipush (-2), 2) := by decide +kernel
theorem d_MW_gas_13 : decode M_MW_gas.2.1 13 = .ok (.ireturn, 1) := by decide +kernel
theorem d_MW_gas_14 : decode M_MW_gas.2.1 14 = .ok (.aload_n 0, 1) := by decide +kernel
theorem d_MW_gas_15 : decode M_MW_gas.2.1 15 = .ok (.getfield 19, 3) := by decide +kernel
theorem d_MW_gas_18 : decode M_MW_gas.2.1 18 = .ok (.getfield 111, 3) := by decide +kernel
theorem d_MW_gas_21 : decode M_MW_gas.2.1 21 = .ok (.aload_n 0, 1) := by decide +kernel
theorem d_MW_gas_22 : decode M_MW_gas.2.1 22 = .ok (.getfield 53, 3) := by decide +kernel
theorem d_MW_gas_25 : decode M_MW_gas.2.1 25 = .ok (.iload_n 1, 1) := by decide +kernel
theorem d_MW_gas_26 : decode M_MW_gas.2.1 26 = .ok (.iastore, 1) := by decide +kernel
theorem d_MW_gas_27 : decode M_MW_gas.2.1 27 = .ok (.iconst 1, 1) := by decide +kernel
theorem d_MW_gas_28 : decode M_MW_gas.2.1 28 = .ok (.ireturn, 1) := by decide +kernel
theorem d_MW_tiltAt_0 : decode M_MW_tiltAt.2.1 0 = .ok (.aload_n 0, 1) := by decide +kernel
theorem d_MW_tiltAt_1 : decode M_MW_tiltAt.2.1 1 = .ok (.iload_n 1, 1) := by decide +kernel
theorem d_MW_tiltAt_2 : decode M_MW_tiltAt.2.1 2 = .ok (.invokevirtual 114, 3) := by decide +kernel
theorem d_MW_tiltAt_5 : decode M_MW_tiltAt.2.1 5 = .ok (.ifCond .eq 15, 3) := by decide +kernel
theorem d_MW_tiltAt_8 : decode M_MW_tiltAt.2.1 8 = .ok (.aload_n 0, 1) := by decide +kernel
theorem d_MW_tiltAt_9 : decode M_MW_tiltAt.2.1 9 = .ok (.getfield 19, 3) := by decide +kernel
theorem d_MW_tiltAt_12 : decode M_MW_tiltAt.2.1 12 = .ok (.getfield 108, 3) := by decide +kernel
theorem d_MW_tiltAt_15 : decode M_MW_tiltAt.2.1 15 = .ok (.iload_n 1, 1) := by decide +kernel
theorem d_MW_tiltAt_16 : decode M_MW_tiltAt.2.1 16 = .ok (.iaload, 1) := by decide +kernel
theorem d_MW_tiltAt_17 : decode M_MW_tiltAt.2.1 17 = .ok (.goto 5, 3) := by decide +kernel
theorem d_MW_tiltAt_20 : decode M_MW_tiltAt.2.1 20 = .ok (.ldc 117, 2) := by decide +kernel
theorem d_MW_tiltAt_22 : decode M_MW_tiltAt.2.1 22 = .ok (.ireturn, 1) := by decide +kernel
theorem d_MW_gasOf_0 : decode M_MW_gasOf.2.1 0 = .ok (.aload_n 0, 1) := by decide +kernel
theorem d_MW_gasOf_1 : decode M_MW_gasOf.2.1 1 = .ok (.iload_n 1, 1) := by decide +kernel
theorem d_MW_gasOf_2 : decode M_MW_gasOf.2.1 2 = .ok (.invokevirtual 114, 3) := by decide +kernel
theorem d_MW_gasOf_5 : decode M_MW_gasOf.2.1 5 = .ok (.ifCond .eq 15, 3) := by decide +kernel
theorem d_MW_gasOf_8 : decode M_MW_gasOf.2.1 8 = .ok (.aload_n 0, 1) := by decide +kernel
theorem d_MW_gasOf_9 : decode M_MW_gasOf.2.1 9 = .ok (.getfield 19, 3) := by decide +kernel
theorem d_MW_gasOf_12 : decode M_MW_gasOf.2.1 12 = .ok (.getfield 111, 3) := by decide +kernel
theorem d_MW_gasOf_15 : decode M_MW_gasOf.2.1 15 = .ok (.iload_n 1, 1) := by decide +kernel
theorem d_MW_gasOf_16 : decode M_MW_gasOf.2.1 16 = .ok (.iaload, 1) := by decide +kernel
theorem d_MW_gasOf_17 : decode M_MW_gasOf.2.1 17 = .ok (.goto 4, 3) := by decide +kernel
theorem d_MW_gasOf_20 : decode M_MW_gasOf.2.1 20 = .ok (.iconst (-1), 1) := by decide +kernel
theorem d_MW_gasOf_21 : decode M_MW_gasOf.2.1 21 = .ok (.ireturn, 1) := by decide +kernel
theorem d_MW_law_0 : decode M_MW_law.2.1 0 = .ok (.iload_n 1, 1) := by decide +kernel
theorem d_MW_law_1 : decode M_MW_law.2.1 1 = .ok (.invokestatic 118, 3) := by decide +kernel
theorem d_MW_law_4 : decode M_MW_law.2.1 4 = .ok (.ifCond .eq 35, 3) := by decide +kernel
theorem d_MW_law_7 : decode M_MW_law.2.1 7 = .ok (.iload_n 2, 1) := by decide +kernel
theorem d_MW_law_8 : decode M_MW_law.2.1 8 = .ok (.iconst 0, 1) := by decide +kernel
theorem d_MW_law_9 : decode M_MW_law.2.1 9 = .ok (.bipush 6, 2) := by decide +kernel
theorem d_MW_law_11 : decode M_MW_law.2.1 11 = .ok (.invokestatic 64, 3) := by decide +kernel
theorem d_MW_law_14 : decode M_MW_law.2.1 14 = .ok (.ifCond .eq 25, 3) := by decide +kernel
theorem d_MW_law_17 : decode M_MW_law.2.1 17 = .ok (.iload_n 3, 1) := by decide +kernel
theorem d_MW_law_18 : decode M_MW_law.2.1 18 = .ok (.iconst 1, 1) := by decide +kernel
theorem d_MW_law_19 : decode M_MW_law.2.1 19 = .ok (.sipush 10000, 3) := by decide +kernel
theorem d_MW_law_22 : decode M_MW_law.2.1 22 = .ok (.invokestatic 64, 3) := by decide +kernel
theorem d_MW_law_25 : decode M_MW_law.2.1 25 = .ok (.ifCond .eq 14, 3) := by decide +kernel
theorem d_MW_law_28 : decode M_MW_law.2.1 28 = .ok (.iload 4, 2) := by decide +kernel
theorem d_MW_law_30 : decode M_MW_law.2.1 30 = .ok (.iconst 1, 1) := by decide +kernel
theorem d_MW_law_31 : decode M_MW_law.2.1 31 = .ok (.bipush 30, 2) := by decide +kernel
theorem d_MW_law_33 : decode M_MW_law.2.1 33 = .ok (.invokestatic 64, 3) := by decide +kernel
theorem d_MW_law_36 : decode M_MW_law.2.1 36 = .ok (.ifCond .ne 6, 3) := by decide +kernel
theorem d_MW_law_39 : decode M_MW_law.2.1 39 = .ok (.bipush (-2), 2) := by decide +kernel
theorem d_MW_law_41 : decode M_MW_law.2.1 41 = .ok (.ireturn, 1) := by decide +kernel
theorem d_MW_law_42 : decode M_MW_law.2.1 42 = .ok (.aload_n 0, 1) := by decide +kernel
theorem d_MW_law_43 : decode M_MW_law.2.1 43 = .ok (.getfield 26, 3) := by decide +kernel
theorem d_MW_law_46 : decode M_MW_law.2.1 46 = .ok (.getfield 121, 3) := by decide +kernel
theorem d_MW_law_49 : decode M_MW_law.2.1 49 = .ok (.bipush 8, 2) := by decide +kernel
theorem d_MW_law_51 : decode M_MW_law.2.1 51 = .ok (.if_icmp .lt 6, 3) := by decide +kernel
theorem d_MW_law_54 : decode M_MW_law.2.1 54 = .ok (.bipush (-4), 2) := by decide +kernel
theorem d_MW_law_56 : decode M_MW_law.2.1 56 = .ok (.ireturn, 1) := by decide +kernel
theorem d_MW_law_57 : decode M_MW_law.2.1 57 = .ok (.aload_n 0, 1) := by decide +kernel
theorem d_MW_law_58 : decode M_MW_law.2.1 58 = .ok (.getfield 26, 3) := by decide +kernel
theorem d_MW_law_61 : decode M_MW_law.2.1 61 = .ok (.iload_n 1, 1) := by decide +kernel
theorem d_MW_law_62 : decode M_MW_law.2.1 62 = .ok (.iload_n 2, 1) := by decide +kernel
theorem d_MW_law_63 : decode M_MW_law.2.1 63 = .ok (.iload_n 3, 1) := by decide +kernel
theorem d_MW_law_64 : decode M_MW_law.2.1 64 = .ok (.iload 4, 2) := by decide +kernel
theorem d_MW_law_66 : decode M_MW_law.2.1 66 = .ok (.invokevirtual 122, 3) := by decide +kernel
theorem d_MW_law_69 : decode M_MW_law.2.1 69 = .ok (.ireturn, 1) := by decide +kernel
theorem d_MW_change_0 : decode M_MW_change.2.1 0 = .ok (.aload_n 0, 1) := by decide +kernel
theorem d_MW_change_1 : decode M_MW_change.2.1 1 = .ok (.getfield 26, 3) := by decide +kernel
theorem d_MW_change_4 : decode M_MW_change.2.1 4 = .ok (.iload_n 1, 1) := by decide +kernel
theorem d_MW_change_5 : decode M_MW_change.2.1 5 = .ok (.invokevirtual 125, 3) := by decide +kernel
theorem d_MW_change_8 : decode M_MW_change.2.1 8 = .ok (.ifCond .ne 5, 3) := by decide +kernel
theorem d_MW_change_11 : decode M_MW_change.2.1 11 = .ok (.iconst (-1), 1) := by decide +kernel
theorem d_MW_change_12 : decode M_MW_change.2.1 12 = .ok (.ireturn, 1) := by decide +kernel
theorem d_MW_change_13 : decode M_MW_change.2.1 13 = .ok (.iload_n 2, 1) := by decide +kernel
theorem d_MW_change_14 : decode M_MW_change.2.1 14 = .ok (.invokestatic 118, 3) := by decide +kernel
theorem d_MW_change_17 : decode M_MW_change.2.1 17 = .ok (.ifCond .eq 14, 3) := by decide +kernel
theorem d_MW_change_20 : decode M_MW_change.2.1 20 = .ok (.iload_n 3, 1) := by decide +kernel
theorem d_MW_change_21 : decode M_MW_change.2.1 21 = .ok (.iconst 1, 1) := by decide +kernel
theorem d_MW_change_22 : decode M_MW_change.2.1 22 = .ok (.sipush 10000, 3) := by decide +kernel
theorem d_MW_change_25 : decode M_MW_change.2.1 25 = .ok (.invokestatic 64, 3) := by decide +kernel
theorem d_MW_change_28 : decode M_MW_change.2.1 28 = .ok (.ifCond .ne 6, 3) := by decide +kernel
theorem d_MW_change_31 : decode M_MW_change.2.1 31 = .ok (.bipush (-2), 2) := by decide +kernel
theorem d_MW_change_33 : decode M_MW_change.2.1 33 = .ok (.ireturn, 1) := by decide +kernel
theorem d_MW_change_34 : decode M_MW_change.2.1 34 = .ok (.aload_n 0, 1) := by decide +kernel
theorem d_MW_change_35 : decode M_MW_change.2.1 35 = .ok (.getfield 26, 3) := by decide +kernel
theorem d_MW_change_38 : decode M_MW_change.2.1 38 = .ok (.getfield 126, 3) := by decide +kernel
theorem d_MW_change_41 : decode M_MW_change.2.1 41 = .ok (.iload_n 1, 1) := by decide +kernel
theorem d_MW_change_42 : decode M_MW_change.2.1 42 = .ok (.iload_n 2, 1) := by decide +kernel
theorem d_MW_change_43 : decode M_MW_change.2.1 43 = .ok (.iastore, 1) := by decide +kernel
theorem d_MW_change_44 : decode M_MW_change.2.1 44 = .ok (.aload_n 0, 1) := by decide +kernel
theorem d_MW_change_45 : decode M_MW_change.2.1 45 = .ok (.getfield 26, 3) := by decide +kernel
theorem d_MW_change_48 : decode M_MW_change.2.1 48 = .ok (.getfield 129, 3) := by decide +kernel
theorem d_MW_change_51 : decode M_MW_change.2.1 51 = .ok (.iload_n 1, 1) := by decide +kernel
theorem d_MW_change_52 : decode M_MW_change.2.1 52 = .ok (.iload_n 3, 1) := by decide +kernel
theorem d_MW_change_53 : decode M_MW_change.2.1 53 = .ok (.iastore, 1) := by decide +kernel
theorem d_MW_change_54 : decode M_MW_change.2.1 54 = .ok (.iconst 1, 1) := by decide +kernel
theorem d_MW_change_55 : decode M_MW_change.2.1 55 = .ok (.ireturn, 1) := by decide +kernel
theorem d_MW_measure_0 : decode M_MW_measure.2.1 0 = .ok (.aload_n 0, 1) := by decide +kernel
theorem d_MW_measure_1 : decode M_MW_measure.2.1 1 = .ok (.getfield 26, 3) := by decide +kernel
theorem d_MW_measure_4 : decode M_MW_measure.2.1 4 = .ok (.iload_n 1, 1) := by decide +kernel
theorem d_MW_measure_5 : decode M_MW_measure.2.1 5 = .ok (.invokevirtual 125, 3) := by decide +kernel
theorem d_MW_measure_8 : decode M_MW_measure.2.1 8 = .ok (.ifCond .eq 20, 3) := by decide +kernel
theorem d_MW_measure_11 : decode M_MW_measure.2.1 11 = .ok (.aload_n 0, 1) := by decide +kernel
theorem d_MW_measure_12 : decode M_MW_measure.2.1 12 = .ok (.iload_n 2, 1) := by decide +kernel
theorem d_MW_measure_13 : decode M_MW_measure.2.1 13 = .ok (.invokevirtual 114, 3) := by decide +kernel
theorem d_MW_measure_16 : decode M_MW_measure.2.1 16 = .ok (.ifCond .eq 12, 3) := by decide +kernel
theorem d_MW_measure_19 : decode M_MW_measure.2.1 19 = .ok (.aload_n 0, 1) := by decide +kernel
theorem d_MW_measure_20 : decode M_MW_measure.2.1 20 = .ok (.iload_n 1, 1) := by decide +kernel
theorem d_MW_measure_21 : decode M_MW_measure.2.1 21 = .ok (.iload_n 2, 1) := by decide +kernel
theorem d_MW_measure_22 : decode M_MW_measure.2.1 22 = .ok (.invokevirtual 132, 3) := by decide +kernel
theorem d_MW_measure_25 : decode M_MW_measure.2.1 25 = .ok (.goto 4, 3) := by decide +kernel
theorem d_MW_measure_28 : decode M_MW_measure.2.1 28 = .ok (.iconst (-1), 1) := by decide +kernel
theorem d_MW_measure_29 : decode M_MW_measure.2.1 29 = .ok (.ireturn, 1) := by decide +kernel
theorem d_MW_isTrue_0 : decode M_MW_isTrue.2.1 0 = .ok (.aload_n 0, 1) := by decide +kernel
theorem d_MW_isTrue_1 : decode M_MW_isTrue.2.1 1 = .ok (.getfield 26, 3) := by decide +kernel
theorem d_MW_isTrue_4 : decode M_MW_isTrue.2.1 4 = .ok (.iload_n 1, 1) := by decide +kernel
theorem d_MW_isTrue_5 : decode M_MW_isTrue.2.1 5 = .ok (.invokevirtual 125, 3) := by decide +kernel
theorem d_MW_isTrue_8 : decode M_MW_isTrue.2.1 8 = .ok (.ifCond .eq 23, 3) := by decide +kernel
theorem d_MW_isTrue_11 : decode M_MW_isTrue.2.1 11 = .ok (.aload_n 0, 1) := by decide +kernel
theorem d_MW_isTrue_12 : decode M_MW_isTrue.2.1 12 = .ok (.iload_n 2, 1) := by decide +kernel
theorem d_MW_isTrue_13 : decode M_MW_isTrue.2.1 13 = .ok (.invokevirtual 114, 3) := by decide +kernel
theorem d_MW_isTrue_16 : decode M_MW_isTrue.2.1 16 = .ok (.ifCond .eq 15, 3) := by decide +kernel
theorem d_MW_isTrue_19 : decode M_MW_isTrue.2.1 19 = .ok (.aload_n 0, 1) := by decide +kernel
theorem d_MW_isTrue_20 : decode M_MW_isTrue.2.1 20 = .ok (.iload_n 1, 1) := by decide +kernel
theorem d_MW_isTrue_21 : decode M_MW_isTrue.2.1 21 = .ok (.iload_n 2, 1) := by decide +kernel
theorem d_MW_isTrue_22 : decode M_MW_isTrue.2.1 22 = .ok (.invokevirtual 135, 3) := by decide +kernel
theorem d_MW_isTrue_25 : decode M_MW_isTrue.2.1 25 = .ok (.invokestatic 86, 3) := by decide +kernel
theorem d_MW_isTrue_28 : decode M_MW_isTrue.2.1 28 = .ok (.goto 4, 3) := by decide +kernel
theorem d_MW_isTrue_31 : decode M_MW_isTrue.2.1 31 = .ok (.iconst (-1), 1) := by decide +kernel
theorem d_MW_isTrue_32 : decode M_MW_isTrue.2.1 32 = .ok (.ireturn, 1) := by decide +kernel
theorem d_MW_rest_0 : decode M_MW_rest.2.1 0 = .ok (.iload_n 1, 1) := by decide +kernel
theorem d_MW_rest_1 : decode M_MW_rest.2.1 1 = .ok (.iconst 1, 1) := by decide +kernel
theorem d_MW_rest_2 : decode M_MW_rest.2.1 2 = .ok (.bipush 30, 2) := by decide +kernel
theorem d_MW_rest_4 : decode M_MW_rest.2.1 4 = .ok (.invokestatic 64, 3) := by decide +kernel
theorem d_MW_rest_7 : decode M_MW_rest.2.1 7 = .ok (.ifCond .ne 6, 3) := by decide +kernel
theorem d_MW_rest_10 : decode M_MW_rest.2.1 10 = .ok (.bipush (-2), 2) := by decide +kernel
theorem d_MW_rest_12 : decode M_MW_rest.2.1 12 = .ok (.ireturn, 1) := by decide +kernel
theorem d_MW_rest_13 : decode M_MW_rest.2.1 13 = .ok (.aload_n 0, 1) := by decide +kernel
theorem d_MW_rest_14 : decode M_MW_rest.2.1 14 = .ok (.getfield 44, 3) := by decide +kernel
theorem d_MW_rest_17 : decode M_MW_rest.2.1 17 = .ok (.istore_n 2, 1) := by decide +kernel
theorem d_MW_rest_18 : decode M_MW_rest.2.1 18 = .ok (.aload_n 0, 1) := by decide +kernel
theorem d_MW_rest_19 : decode M_MW_rest.2.1 19 = .ok (.iload_n 1, 1) := by decide +kernel
theorem d_MW_rest_20 : decode M_MW_rest.2.1 20 = .ok (.putfield 44, 3) := by decide +kernel
theorem d_MW_rest_23 : decode M_MW_rest.2.1 23 = .ok (.iload_n 2, 1) := by decide +kernel
theorem d_MW_rest_24 : decode M_MW_rest.2.1 24 = .ok (.ireturn, 1) := by decide +kernel
theorem d_MW_next_0 : decode M_MW_next.2.1 0 = .ok (.aload_n 0, 1) := by decide +kernel
theorem d_MW_next_1 : decode M_MW_next.2.1 1 = .ok (.getfield 53, 3) := by decide +kernel
theorem d_MW_next_4 : decode M_MW_next.2.1 4 = .ok (.sipush 999, 3) := by decide +kernel
theorem d_MW_next_7 : decode M_MW_next.2.1 7 = .ok (.if_icmp .lt 6, 3) := by decide +kernel
theorem d_MW_next_10 : decode M_MW_next.2.1 10 = .ok (.bipush (-3), 2) := by decide +kernel
theorem d_MW_next_12 : decode M_MW_next.2.1 12 = .ok (.ireturn, 1) := by decide +kernel
theorem d_MW_next_13 : decode M_MW_next.2.1 13 = .ok (.aload_n 0, 1) := by decide +kernel
theorem d_MW_next_14 : decode M_MW_next.2.1 14 = .ok (.invokevirtual 138, 3) := by decide +kernel
theorem d_MW_next_17 : decode M_MW_next.2.1 17 = .ok (.aload_n 0, 1) := by decide +kernel
theorem d_MW_next_18 : decode M_MW_next.2.1 18 = .ok (.dup, 1) := by decide +kernel
theorem d_MW_next_19 : decode M_MW_next.2.1 19 = .ok (.getfield 53, 3) := by decide +kernel
theorem d_MW_next_22 : decode M_MW_next.2.1 22 = .ok (.iconst 1, 1) := by decide +kernel
theorem d_MW_next_23 : decode M_MW_next.2.1 23 = .ok (.iadd, 1) := by decide +kernel
theorem d_MW_next_24 : decode M_MW_next.2.1 24 = .ok (.putfield 53, 3) := by decide +kernel
theorem d_MW_next_27 : decode M_MW_next.2.1 27 = .ok (.aload_n 0, 1) := by decide +kernel
theorem d_MW_next_28 : decode M_MW_next.2.1 28 = .ok (.getfield 19, 3) := by decide +kernel
theorem d_MW_next_31 : decode M_MW_next.2.1 31 = .ok (.aload_n 0, 1) := by decide +kernel
theorem d_MW_next_32 : decode M_MW_next.2.1 32 = .ok (.getfield 53, 3) := by decide +kernel
theorem d_MW_next_35 : decode M_MW_next.2.1 35 = .ok (.invokevirtual 141, 3) := by decide +kernel
theorem d_MW_next_38 : decode M_MW_next.2.1 38 = .ok (.aload_n 0, 1) := by decide +kernel
theorem d_MW_next_39 : decode M_MW_next.2.1 39 = .ok (.getfield 144, 3) := by decide +kernel
theorem d_MW_next_42 : decode M_MW_next.2.1 42 = .ok (.ireturn, 1) := by decide +kernel
theorem d_MW_hold_0 : decode M_MW_hold.2.1 0 = .ok (.iload_n 1, 1) := by decide +kernel
theorem d_MW_hold_1 : decode M_MW_hold.2.1 1 = .ok (.invokestatic 118, 3) := by decide +kernel
theorem d_MW_hold_4 : decode M_MW_hold.2.1 4 = .ok (.ifCond .eq 13, 3) := by decide +kernel
theorem d_MW_hold_7 : decode M_MW_hold.2.1 7 = .ok (.iload_n 2, 1) := by decide +kernel
theorem d_MW_hold_8 : decode M_MW_hold.2.1 8 = .ok (.iconst 1, 1) := by decide +kernel
theorem d_MW_hold_9 : decode M_MW_hold.2.1 9 = .ok (.bipush 100, 2) := by decide +kernel
theorem d_MW_hold_11 : decode M_MW_hold.2.1 11 = .ok (.invokestatic 64, 3) := by decide +kernel
theorem d_MW_hold_14 : decode M_MW_hold.2.1 14 = .ok (.ifCond .ne 6, 3) := by decide +kernel
theorem d_MW_hold_17 : decode M_MW_hold.2.1 17 = .ok (.bipush (-2), 2) := by decide +kernel
theorem d_MW_hold_19 : decode M_MW_hold.2.1 19 = .ok (.ireturn, 1) := by decide +kernel
theorem d_MW_hold_20 : decode M_MW_hold.2.1 20 = .ok (.aload_n 0, 1) := by decide +kernel
theorem d_MW_hold_21 : decode M_MW_hold.2.1 21 = .ok (.iload_n 1, 1) := by decide +kernel
theorem d_MW_hold_22 : decode M_MW_hold.2.1 22 = .ok (.putfield 147, 3) := by decide +kernel
theorem d_MW_hold_25 : decode M_MW_hold.2.1 25 = .ok (.aload_n 0, 1) := by decide +kernel
theorem d_MW_hold_26 : decode M_MW_hold.2.1 26 = .ok (.aload_n 0, 1) := by decide +kernel
theorem d_MW_hold_27 : decode M_MW_hold.2.1 27 = .ok (.getfield 53, 3) := by decide +kernel
theorem d_MW_hold_30 : decode M_MW_hold.2.1 30 = .ok (.iload_n 2, 1) := by decide +kernel
theorem d_MW_hold_31 : decode M_MW_hold.2.1 31 = .ok (.iadd, 1) := by decide +kernel
theorem d_MW_hold_32 : decode M_MW_hold.2.1 32 = .ok (.putfield 150, 3) := by decide +kernel
theorem d_MW_hold_35 : decode M_MW_hold.2.1 35 = .ok (.aload_n 0, 1) := by decide +kernel
theorem d_MW_hold_36 : decode M_MW_hold.2.1 36 = .ok (.getfield 150, 3) := by decide +kernel
theorem d_MW_hold_39 : decode M_MW_hold.2.1 39 = .ok (.ireturn, 1) := by decide +kernel
theorem d_MW_release_0 : decode M_MW_release.2.1 0 = .ok (.aload_n 0, 1) := by decide +kernel
theorem d_MW_release_1 : decode M_MW_release.2.1 1 = .ok (.invokevirtual 153, 3) := by decide +kernel
theorem d_MW_release_4 : decode M_MW_release.2.1 4 = .ok (.istore_n 1, 1) := by decide +kernel
theorem d_MW_release_5 : decode M_MW_release.2.1 5 = .ok (.aload_n 0, 1) := by decide +kernel
theorem d_MW_release_6 : decode M_MW_release.2.1 6 = .ok (.iconst 0, 1) := by decide +kernel
theorem d_MW_release_7 : decode M_MW_release.2.1 7 = .ok (.putfield 147, 3) := by decide +kernel
theorem d_MW_release_10 : decode M_MW_release.2.1 10 = .ok (.iload_n 1, 1) := by decide +kernel
theorem d_MW_release_11 : decode M_MW_release.2.1 11 = .ok (.ireturn, 1) := by decide +kernel
theorem d_MW_word_0 : decode M_MW_word.2.1 0 = .ok (.iload_n 1, 1) := by decide +kernel
theorem d_MW_word_1 : decode M_MW_word.2.1 1 = .ok (.invokestatic 156, 3) := by decide +kernel
theorem d_MW_word_4 : decode M_MW_word.2.1 4 = .ok (.ifCond .eq 13, 3) := by decide +kernel
theorem d_MW_word_7 : decode M_MW_word.2.1 7 = .ok (.aload_n 0, 1) := by decide +kernel
theorem d_MW_word_8 : decode M_MW_word.2.1 8 = .ok (.iload_n 1, 1) := by decide +kernel
theorem d_MW_word_9 : decode M_MW_word.2.1 9 = .ok (.bipush 22, 2) := by decide +kernel
theorem d_MW_word_11 : decode M_MW_word.2.1 11 = .ok (.invokevirtual 159, 3) := by decide +kernel
theorem d_MW_word_14 : decode M_MW_word.2.1 14 = .ok (.goto 5, 3) := by decide +kernel
theorem d_MW_word_17 : decode M_MW_word.2.1 17 = .ok (.bipush (-2), 2) := by decide +kernel
theorem d_MW_word_19 : decode M_MW_word.2.1 19 = .ok (.ireturn, 1) := by decide +kernel
theorem d_MW_drill_0 : decode M_MW_drill.2.1 0 = .ok (.iload_n 1, 1) := by decide +kernel
theorem d_MW_drill_1 : decode M_MW_drill.2.1 1 = .ok (.invokestatic 156, 3) := by decide +kernel
theorem d_MW_drill_4 : decode M_MW_drill.2.1 4 = .ok (.ifCond .ne 6, 3) := by decide +kernel
theorem d_MW_drill_7 : decode M_MW_drill.2.1 7 = .ok (.bipush (-2), 2) := by decide +kernel
theorem d_MW_drill_9 : decode M_MW_drill.2.1 9 = .ok (.ireturn, 1) := by decide +kernel
theorem d_MW_drill_10 : decode M_MW_drill.2.1 10 = .ok (.aload_n 0, 1) := by decide +kernel
theorem d_MW_drill_11 : decode M_MW_drill.2.1 11 = .ok (.iload_n 1, 1) := by decide +kernel
theorem d_MW_drill_12 : decode M_MW_drill.2.1 12 = .ok (.putfield 162, 3) := by decide +kernel
theorem d_MW_drill_15 : decode M_MW_drill.2.1 15 = .ok (.aload_n 0, 1) := by decide +kernel
theorem d_MW_drill_16 : decode M_MW_drill.2.1 16 = .ok (.getfield 33, 3) := by decide +kernel
theorem d_MW_drill_19 : decode M_MW_drill.2.1 19 = .ok (.iconst 1, 1) := by decide +kernel
theorem d_MW_drill_20 : decode M_MW_drill.2.1 20 = .ok (.aload_n 0, 1) := by decide +kernel
theorem d_MW_drill_21 : decode M_MW_drill.2.1 21 = .ok (.getfield 53, 3) := by decide +kernel
theorem d_MW_drill_24 : decode M_MW_drill.2.1 24 = .ok (.iload_n 1, 1) := by decide +kernel
theorem d_MW_drill_25 : decode M_MW_drill.2.1 25 = .ok (.bipush 23, 2) := by decide +kernel
theorem d_MW_drill_27 : decode M_MW_drill.2.1 27 = .ok (.invokevirtual 165, 3) := by decide +kernel
theorem d_MW_drill_30 : decode M_MW_drill.2.1 30 = .ok (.ireturn, 1) := by decide +kernel
theorem d_MW_message_0 : decode M_MW_message.2.1 0 = .ok (.aload_n 0, 1) := by decide +kernel
theorem d_MW_message_1 : decode M_MW_message.2.1 1 = .ok (.getfield 33, 3) := by decide +kernel
theorem d_MW_message_4 : decode M_MW_message.2.1 4 = .ok (.iload_n 1, 1) := by decide +kernel
theorem d_MW_message_5 : decode M_MW_message.2.1 5 = .ok (.iload_n 2, 1) := by decide +kernel
theorem d_MW_message_6 : decode M_MW_message.2.1 6 = .ok (.invokevirtual 168, 3) := by decide +kernel
theorem d_MW_message_9 : decode M_MW_message.2.1 9 = .ok (.ifCond .ne 5, 3) := by decide +kernel
theorem d_MW_message_12 : decode M_MW_message.2.1 12 = .ok (.iconst (-1), 1) := by decide +kernel
theorem d_MW_message_13 : decode M_MW_message.2.1 13 = .ok (.ireturn, 1) := by decide +kernel
theorem d_MW_message_14 : decode M_MW_message.2.1 14 = .ok (.iload_n 1, 1) := by decide +kernel
theorem d_MW_message_15 : decode M_MW_message.2.1 15 = .ok (.iload_n 2, 1) := by decide +kernel
theorem d_MW_message_16 : decode M_MW_message.2.1 16 = .ok (.invokestatic 172, 3) := by decide +kernel
theorem d_MW_message_19 : decode M_MW_message.2.1 19 = .ok (.istore 4, 2) := by decide +kernel
theorem d_MW_message_21 : decode M_MW_message.2.1 21 = .ok (.iload_n 3, 1) := by decide +kernel
theorem d_MW_message_22 : decode M_MW_message.2.1 22 = .ok (.tableswitch 59 0 2 #[26, 37, 48], 26) := by decide +kernel
theorem d_MW_message_48 : decode M_MW_message.2.1 48 = .ok (.aload_n 0, 1) := by decide +kernel
theorem d_MW_message_49 : decode M_MW_message.2.1 49 = .ok (.getfield 33, 3) := by decide +kernel
theorem d_MW_message_52 : decode M_MW_message.2.1 52 = .ok (.getfield 176, 3) := by decide +kernel
theorem d_MW_message_55 : decode M_MW_message.2.1 55 = .ok (.iload 4, 2) := by decide +kernel
theorem d_MW_message_57 : decode M_MW_message.2.1 57 = .ok (.iaload, 1) := by decide +kernel
theorem d_MW_message_58 : decode M_MW_message.2.1 58 = .ok (.ireturn, 1) := by decide +kernel
theorem d_MW_message_59 : decode M_MW_message.2.1 59 = .ok (.aload_n 0, 1) := by decide +kernel
theorem d_MW_message_60 : decode M_MW_message.2.1 60 = .ok (.getfield 33, 3) := by decide +kernel
theorem d_MW_message_63 : decode M_MW_message.2.1 63 = .ok (.getfield 177, 3) := by decide +kernel
theorem d_MW_message_66 : decode M_MW_message.2.1 66 = .ok (.iload 4, 2) := by decide +kernel
theorem d_MW_message_68 : decode M_MW_message.2.1 68 = .ok (.iaload, 1) := by decide +kernel
theorem d_MW_message_69 : decode M_MW_message.2.1 69 = .ok (.ireturn, 1) := by decide +kernel
theorem d_MW_message_70 : decode M_MW_message.2.1 70 = .ok (.aload_n 0, 1) := by decide +kernel
theorem d_MW_message_71 : decode M_MW_message.2.1 71 = .ok (.getfield 33, 3) := by decide +kernel
theorem d_MW_message_74 : decode M_MW_message.2.1 74 = .ok (.getfield 178, 3) := by decide +kernel
theorem d_MW_message_77 : decode M_MW_message.2.1 77 = .ok (.iload 4, 2) := by decide +kernel
theorem d_MW_message_79 : decode M_MW_message.2.1 79 = .ok (.iaload, 1) := by decide +kernel
theorem d_MW_message_80 : decode M_MW_message.2.1 80 = .ok (.ireturn, 1) := by decide +kernel
theorem d_MW_message_81 : decode M_MW_message.2.1 81 = .ok (.bipush (-2), 2) := by decide +kernel
theorem d_MW_message_83 : decode M_MW_message.2.1 83 = .ok (.ireturn, 1) := by decide +kernel
theorem d_MW_told_0 : decode M_MW_told.2.1 0 = .ok (.iload_n 1, 1) := by decide +kernel
theorem d_MW_told_1 : decode M_MW_told.2.1 1 = .ok (.tableswitch 129 0 10 #[59, 64, 69, 74, 79, 87, 95, 100, 108, 116, 124], 59) := by decide +kernel
theorem d_MW_told_60 : decode M_MW_told.2.1 60 = .ok (.aload_n 0, 1) := by decide +kernel
theorem d_MW_told_61 : decode M_MW_told.2.1 61 = .ok (.getfield 53, 3) := by decide +kernel
theorem d_MW_told_64 : decode M_MW_told.2.1 64 = .ok (.ireturn, 1) := by decide +kernel
theorem d_MW_told_65 : decode M_MW_told.2.1 65 = .ok (.aload_n 0, 1) := by decide +kernel
theorem d_MW_told_66 : decode M_MW_told.2.1 66 = .ok (.getfield 144, 3) := by decide +kernel
theorem d_MW_told_69 : decode M_MW_told.2.1 69 = .ok (.ireturn, 1) := by decide +kernel
theorem d_MW_told_70 : decode M_MW_told.2.1 70 = .ok (.aload_n 0, 1) := by decide +kernel
theorem d_MW_told_71 : decode M_MW_told.2.1 71 = .ok (.getfield 181, 3) := by decide +kernel
theorem d_MW_told_74 : decode M_MW_told.2.1 74 = .ok (.ireturn, 1) := by decide +kernel
theorem d_MW_told_75 : decode M_MW_told.2.1 75 = .ok (.aload_n 0, 1) := by decide +kernel
theorem d_MW_told_76 : decode M_MW_told.2.1 76 = .ok (.invokevirtual 184, 3) := by decide +kernel
theorem d_MW_told_79 : decode M_MW_told.2.1 79 = .ok (.ireturn, 1) := by decide +kernel
theorem d_MW_told_80 : decode M_MW_told.2.1 80 = .ok (.aload_n 0, 1) := by decide +kernel
theorem d_MW_told_81 : decode M_MW_told.2.1 81 = .ok (.getfield 33, 3) := by decide +kernel
theorem d_MW_told_84 : decode M_MW_told.2.1 84 = .ok (.getfield 187, 3) := by decide +kernel
theorem d_MW_told_87 : decode M_MW_told.2.1 87 = .ok (.ireturn, 1) := by decide +kernel
theorem d_MW_told_88 : decode M_MW_told.2.1 88 = .ok (.aload_n 0, 1) := by decide +kernel
theorem d_MW_told_89 : decode M_MW_told.2.1 89 = .ok (.getfield 33, 3) := by decide +kernel
theorem d_MW_told_92 : decode M_MW_told.2.1 92 = .ok (.getfield 188, 3) := by decide +kernel
theorem d_MW_told_95 : decode M_MW_told.2.1 95 = .ok (.ireturn, 1) := by decide +kernel
theorem d_MW_told_96 : decode M_MW_told.2.1 96 = .ok (.aload_n 0, 1) := by decide +kernel
theorem d_MW_told_97 : decode M_MW_told.2.1 97 = .ok (.invokevirtual 153, 3) := by decide +kernel
theorem d_MW_told_100 : decode M_MW_told.2.1 100 = .ok (.ireturn, 1) := by decide +kernel
theorem d_MW_told_101 : decode M_MW_told.2.1 101 = .ok (.aload_n 0, 1) := by decide +kernel
theorem d_MW_told_102 : decode M_MW_told.2.1 102 = .ok (.getfield 10, 3) := by decide +kernel
theorem d_MW_told_105 : decode M_MW_told.2.1 105 = .ok (.getfield 50, 3) := by decide +kernel
theorem d_MW_told_108 : decode M_MW_told.2.1 108 = .ok (.ireturn, 1) := by decide +kernel
theorem d_MW_told_109 : decode M_MW_told.2.1 109 = .ok (.aload_n 0, 1) := by decide +kernel
theorem d_MW_told_110 : decode M_MW_told.2.1 110 = .ok (.getfield 26, 3) := by decide +kernel
theorem d_MW_told_113 : decode M_MW_told.2.1 113 = .ok (.getfield 121, 3) := by decide +kernel
theorem d_MW_told_116 : decode M_MW_told.2.1 116 = .ok (.ireturn, 1) := by decide +kernel
theorem d_MW_told_117 : decode M_MW_told.2.1 117 = .ok (.aload_n 0, 1) := by decide +kernel
theorem d_MW_told_118 : decode M_MW_told.2.1 118 = .ok (.getfield 40, 3) := by decide +kernel
theorem d_MW_told_121 : decode M_MW_told.2.1 121 = .ok (.getfield 191, 3) := by decide +kernel
theorem d_MW_told_124 : decode M_MW_told.2.1 124 = .ok (.ireturn, 1) := by decide +kernel
theorem d_MW_told_125 : decode M_MW_told.2.1 125 = .ok (.aload_n 0, 1) := by decide +kernel
theorem d_MW_told_126 : decode M_MW_told.2.1 126 = .ok (.getfield 162, 3) := by decide +kernel
theorem d_MW_told_129 : decode M_MW_told.2.1 129 = .ok (.ireturn, 1) := by decide +kernel
theorem d_MW_told_130 : decode M_MW_told.2.1 130 = .ok (.bipush (-2), 2) := by decide +kernel
theorem d_MW_told_132 : decode M_MW_told.2.1 132 = .ok (.ireturn, 1) := by decide +kernel
theorem d_MW_node_0 : decode M_MW_node.2.1 0 = .ok (.aload_n 0, 1) := by decide +kernel
theorem d_MW_node_1 : decode M_MW_node.2.1 1 = .ok (.getfield 40, 3) := by decide +kernel
theorem d_MW_node_4 : decode M_MW_node.2.1 4 = .ok (.iload_n 1, 1) := by decide +kernel
theorem d_MW_node_5 : decode M_MW_node.2.1 5 = .ok (.invokevirtual 192, 3) := by decide +kernel
theorem d_MW_node_8 : decode M_MW_node.2.1 8 = .ok (.ifCond .ne 5, 3) := by decide +kernel
theorem d_MW_node_11 : decode M_MW_node.2.1 11 = .ok (.iconst (-1), 1) := by decide +kernel
theorem d_MW_node_12 : decode M_MW_node.2.1 12 = .ok (.ireturn, 1) := by decide +kernel
theorem d_MW_node_13 : decode M_MW_node.2.1 13 = .ok (.iload_n 2, 1) := by decide +kernel
theorem d_MW_node_14 : decode M_MW_node.2.1 14 = .ok (.iload_n 3, 1) := by decide +kernel
theorem d_MW_node_15 : decode M_MW_node.2.1 15 = .ok (.invokestatic 193, 3) := by decide +kernel
theorem d_MW_node_18 : decode M_MW_node.2.1 18 = .ok (.ifCond .ne 6, 3) := by decide +kernel
theorem d_MW_node_21 : decode M_MW_node.2.1 21 = .ok (.bipush (-2), 2) := by decide +kernel
theorem d_MW_node_23 : decode M_MW_node.2.1 23 = .ok (.ireturn, 1) := by decide +kernel
theorem d_MW_node_24 : decode M_MW_node.2.1 24 = .ok (.aload_n 0, 1) := by decide +kernel
theorem d_MW_node_25 : decode M_MW_node.2.1 25 = .ok (.getfield 40, 3) := by decide +kernel
theorem d_MW_node_28 : decode M_MW_node.2.1 28 = .ok (.getfield 191, 3) := by decide +kernel
theorem d_MW_node_31 : decode M_MW_node.2.1 31 = .ok (.bipush 24, 2) := by decide +kernel
theorem d_MW_node_33 : decode M_MW_node.2.1 33 = .ok (.if_icmp .lt 6, 3) := by decide +kernel
theorem d_MW_node_36 : decode M_MW_node.2.1 36 = .ok (.bipush (-4), 2) := by decide +kernel
theorem d_MW_node_38 : decode M_MW_node.2.1 38 = .ok (.ireturn, 1) := by decide +kernel
theorem d_MW_node_39 : decode M_MW_node.2.1 39 = .ok (.aload_n 0, 1) := by decide +kernel
theorem d_MW_node_40 : decode M_MW_node.2.1 40 = .ok (.getfield 40, 3) := by decide +kernel
theorem d_MW_node_43 : decode M_MW_node.2.1 43 = .ok (.iload_n 1, 1) := by decide +kernel
theorem d_MW_node_44 : decode M_MW_node.2.1 44 = .ok (.invokevirtual 196, 3) := by decide +kernel
theorem d_MW_node_47 : decode M_MW_node.2.1 47 = .ok (.ifCond .ne 6, 3) := by decide +kernel
theorem d_MW_node_50 : decode M_MW_node.2.1 50 = .ok (.bipush (-5), 2) := by decide +kernel
theorem d_MW_node_52 : decode M_MW_node.2.1 52 = .ok (.ireturn, 1) := by decide +kernel
theorem d_MW_node_53 : decode M_MW_node.2.1 53 = .ok (.aload_n 0, 1) := by decide +kernel
theorem d_MW_node_54 : decode M_MW_node.2.1 54 = .ok (.getfield 40, 3) := by decide +kernel
theorem d_MW_node_57 : decode M_MW_node.2.1 57 = .ok (.iload_n 1, 1) := by decide +kernel
theorem d_MW_node_58 : decode M_MW_node.2.1 58 = .ok (.iload_n 2, 1) := by decide +kernel
theorem d_MW_node_59 : decode M_MW_node.2.1 59 = .ok (.iload_n 3, 1) := by decide +kernel
theorem d_MW_node_60 : decode M_MW_node.2.1 60 = .ok (.invokevirtual 199, 3) := by decide +kernel
theorem d_MW_node_63 : decode M_MW_node.2.1 63 = .ok (.ireturn, 1) := by decide +kernel
theorem d_MW_share_0 : decode M_MW_share.2.1 0 = .ok (.iload_n 1, 1) := by decide +kernel
theorem d_MW_share_1 : decode M_MW_share.2.1 1 = .ok (.ifCond .eq 14, 3) := by decide +kernel
theorem d_MW_share_4 : decode M_MW_share.2.1 4 = .ok (.aload_n 0, 1) := by decide +kernel
theorem d_MW_share_5 : decode M_MW_share.2.1 5 = .ok (.getfield 40, 3) := by decide +kernel
theorem d_MW_share_8 : decode M_MW_share.2.1 8 = .ok (.iload_n 1, 1) := by decide +kernel
theorem d_MW_share_9 : decode M_MW_share.2.1 9 = .ok (.invokevirtual 192, 3) := by decide +kernel
theorem d_MW_share_12 : decode M_MW_share.2.1 12 = .ok (.ifCond .ne 5, 3) := by decide +kernel
theorem d_MW_share_15 : decode M_MW_share.2.1 15 = .ok (.iconst (-1), 1) := by decide +kernel
theorem d_MW_share_16 : decode M_MW_share.2.1 16 = .ok (.ireturn, 1) := by decide +kernel
theorem d_MW_share_17 : decode M_MW_share.2.1 17 = .ok (.iload_n 2, 1) := by decide +kernel
theorem d_MW_share_18 : decode M_MW_share.2.1 18 = .ok (.iload_n 3, 1) := by decide +kernel
theorem d_MW_share_19 : decode M_MW_share.2.1 19 = .ok (.invokestatic 193, 3) := by decide +kernel
theorem d_MW_share_22 : decode M_MW_share.2.1 22 = .ok (.ifCond .ne 6, 3) := by decide +kernel
theorem d_MW_share_25 : decode M_MW_share.2.1 25 = .ok (.bipush (-2), 2) := by decide +kernel
theorem d_MW_share_27 : decode M_MW_share.2.1 27 = .ok (.ireturn, 1) := by decide +kernel
theorem d_MW_share_28 : decode M_MW_share.2.1 28 = .ok (.aload_n 0, 1) := by decide +kernel
theorem d_MW_share_29 : decode M_MW_share.2.1 29 = .ok (.getfield 40, 3) := by decide +kernel
theorem d_MW_share_32 : decode M_MW_share.2.1 32 = .ok (.getfield 202, 3) := by decide +kernel
theorem d_MW_share_35 : decode M_MW_share.2.1 35 = .ok (.iload_n 1, 1) := by decide +kernel
theorem d_MW_share_36 : decode M_MW_share.2.1 36 = .ok (.iload_n 2, 1) := by decide +kernel
theorem d_MW_share_37 : decode M_MW_share.2.1 37 = .ok (.iastore, 1) := by decide +kernel
theorem d_MW_share_38 : decode M_MW_share.2.1 38 = .ok (.aload_n 0, 1) := by decide +kernel
theorem d_MW_share_39 : decode M_MW_share.2.1 39 = .ok (.getfield 40, 3) := by decide +kernel
theorem d_MW_share_42 : decode M_MW_share.2.1 42 = .ok (.getfield 205, 3) := by decide +kernel
theorem d_MW_share_45 : decode M_MW_share.2.1 45 = .ok (.iload_n 1, 1) := by decide +kernel
theorem d_MW_share_46 : decode M_MW_share.2.1 46 = .ok (.iload_n 3, 1) := by decide +kernel
theorem d_MW_share_47 : decode M_MW_share.2.1 47 = .ok (.iastore, 1) := by decide +kernel
theorem d_MW_share_48 : decode M_MW_share.2.1 48 = .ok (.iconst 1, 1) := by decide +kernel
theorem d_MW_share_49 : decode M_MW_share.2.1 49 = .ok (.ireturn, 1) := by decide +kernel
theorem d_MW_fear_0 : decode M_MW_fear.2.1 0 = .ok (.aload_n 0, 1) := by decide +kernel
theorem d_MW_fear_1 : decode M_MW_fear.2.1 1 = .ok (.getfield 40, 3) := by decide +kernel
theorem d_MW_fear_4 : decode M_MW_fear.2.1 4 = .ok (.iload_n 1, 1) := by decide +kernel
theorem d_MW_fear_5 : decode M_MW_fear.2.1 5 = .ok (.invokevirtual 192, 3) := by decide +kernel
theorem d_MW_fear_8 : decode M_MW_fear.2.1 8 = .ok (.ifCond .ne 5, 3) := by decide +kernel
theorem d_MW_fear_11 : decode M_MW_fear.2.1 11 = .ok (.iconst (-1), 1) := by decide +kernel
theorem d_MW_fear_12 : decode M_MW_fear.2.1 12 = .ok (.ireturn, 1) := by decide +kernel
theorem d_MW_fear_13 : decode M_MW_fear.2.1 13 = .ok (.aload_n 0, 1) := by decide +kernel
theorem d_MW_fear_14 : decode M_MW_fear.2.1 14 = .ok (.getfield 40, 3) := by decide +kernel
theorem d_MW_fear_17 : decode M_MW_fear.2.1 17 = .ok (.getfield 208, 3) := by decide +kernel
theorem d_MW_fear_20 : decode M_MW_fear.2.1 20 = .ok (.iload_n 1, 1) := by decide +kernel
theorem d_MW_fear_21 : decode M_MW_fear.2.1 21 = .ok (.baload, 1) := by decide +kernel
theorem d_MW_fear_22 : decode M_MW_fear.2.1 22 = .ok (.invokestatic 86, 3) := by decide +kernel
theorem d_MW_fear_25 : decode M_MW_fear.2.1 25 = .ok (.istore_n 3, 1) := by decide +kernel
theorem d_MW_fear_26 : decode M_MW_fear.2.1 26 = .ok (.aload_n 0, 1) := by decide +kernel
theorem d_MW_fear_27 : decode M_MW_fear.2.1 27 = .ok (.getfield 40, 3) := by decide +kernel
theorem d_MW_fear_30 : decode M_MW_fear.2.1 30 = .ok (.getfield 208, 3) := by decide +kernel
theorem d_MW_fear_33 : decode M_MW_fear.2.1 33 = .ok (.iload_n 1, 1) := by decide +kernel
theorem d_MW_fear_34 : decode M_MW_fear.2.1 34 = .ok (.iload_n 2, 1) := by decide +kernel
theorem d_MW_fear_35 : decode M_MW_fear.2.1 35 = .ok (.bastore, 1) := by decide +kernel
theorem d_MW_fear_36 : decode M_MW_fear.2.1 36 = .ok (.iload_n 3, 1) := by decide +kernel
theorem d_MW_fear_37 : decode M_MW_fear.2.1 37 = .ok (.ireturn, 1) := by decide +kernel
theorem d_MW_sound_0 : decode M_MW_sound.2.1 0 = .ok (.aload_n 0, 1) := by decide +kernel
theorem d_MW_sound_1 : decode M_MW_sound.2.1 1 = .ok (.getfield 40, 3) := by decide +kernel
theorem d_MW_sound_4 : decode M_MW_sound.2.1 4 = .ok (.invokevirtual 212, 3) := by decide +kernel
theorem d_MW_sound_7 : decode M_MW_sound.2.1 7 = .ok (.invokestatic 86, 3) := by decide +kernel
theorem d_MW_sound_10 : decode M_MW_sound.2.1 10 = .ok (.ireturn, 1) := by decide +kernel
theorem d_MW_chance_0 : decode M_MW_chance.2.1 0 = .ok (.aload_n 0, 1) := by decide +kernel
theorem d_MW_chance_1 : decode M_MW_chance.2.1 1 = .ok (.getfield 40, 3) := by decide +kernel
theorem d_MW_chance_4 : decode M_MW_chance.2.1 4 = .ok (.iload_n 1, 1) := by decide +kernel
theorem d_MW_chance_5 : decode M_MW_chance.2.1 5 = .ok (.invokevirtual 192, 3) := by decide +kernel
theorem d_MW_chance_8 : decode M_MW_chance.2.1 8 = .ok (.ifCond .ne 5, 3) := by decide +kernel
theorem d_MW_chance_11 : decode M_MW_chance.2.1 11 = .ok (.iconst (-1), 1) := by decide +kernel
theorem d_MW_chance_12 : decode M_MW_chance.2.1 12 = .ok (.ireturn, 1) := by decide +kernel
theorem d_MW_chance_13 : decode M_MW_chance.2.1 13 = .ok (.iload_n 2, 1) := by decide +kernel
theorem d_MW_chance_14 : decode M_MW_chance.2.1 14 = .ok (.iconst 0, 1) := by decide +kernel
theorem d_MW_chance_15 : decode M_MW_chance.2.1 15 = .ok (.iconst 1, 1) := by decide +kernel
theorem d_MW_chance_16 : decode M_MW_chance.2.1 16 = .ok (.invokestatic 64, 3) := by decide +kernel
theorem d_MW_chance_19 : decode M_MW_chance.2.1 19 = .ok (.ifCond .ne 6, 3) := by decide +kernel
theorem d_MW_chance_22 : decode M_MW_chance.2.1 22 = .ok (.bipush (-2), 2) := by decide +kernel
theorem d_MW_chance_24 : decode M_MW_chance.2.1 24 = .ok (.ireturn, 1) := by decide +kernel
theorem d_MW_chance_25 : decode M_MW_chance.2.1 25 = .ok (.aload_n 0, 1) := by decide +kernel
theorem d_MW_chance_26 : decode M_MW_chance.2.1 26 = .ok (.getfield 40, 3) := by decide +kernel
theorem d_MW_chance_29 : decode M_MW_chance.2.1 29 = .ok (.invokevirtual 212, 3) := by decide +kernel
theorem d_MW_chance_32 : decode M_MW_chance.2.1 32 = .ok (.ifCond .ne 6, 3) := by decide +kernel
theorem d_MW_chance_35 : decode M_MW_chance.2.1 35 = .ok (.bipush (-5), 2) := by decide +kernel
theorem d_MW_chance_37 : decode M_MW_chance.2.1 37 = .ok (.ireturn, 1) := by decide +kernel
theorem d_MW_chance_38 : decode M_MW_chance.2.1 38 = .ok (.aload_n 0, 1) := by decide +kernel
theorem d_MW_chance_39 : decode M_MW_chance.2.1 39 = .ok (.getfield 40, 3) := by decide +kernel
theorem d_MW_chance_42 : decode M_MW_chance.2.1 42 = .ok (.iload_n 1, 1) := by decide +kernel
theorem d_MW_chance_43 : decode M_MW_chance.2.1 43 = .ok (.iload_n 2, 1) := by decide +kernel
theorem d_MW_chance_44 : decode M_MW_chance.2.1 44 = .ok (.iconst 1, 1) := by decide +kernel
theorem d_MW_chance_45 : decode M_MW_chance.2.1 45 = .ok (.if_icmp .ne 7, 3) := by decide +kernel
theorem d_MW_chance_48 : decode M_MW_chance.2.1 48 = .ok (.iconst 1, 1) := by decide +kernel
theorem d_MW_chance_49 : decode M_MW_chance.2.1 49 = .ok (.goto 4, 3) := by decide +kernel
theorem d_MW_chance_52 : decode M_MW_chance.2.1 52 = .ok (.iconst 0, 1) := by decide +kernel
theorem d_MW_chance_53 : decode M_MW_chance.2.1 53 = .ok (.invokevirtual 216, 3) := by decide +kernel
theorem d_MW_chance_56 : decode M_MW_chance.2.1 56 = .ok (.ireturn, 1) := by decide +kernel
theorem d_MW_ofNode_0 : decode M_MW_ofNode.2.1 0 = .ok (.aload_n 0, 1) := by decide +kernel
theorem d_MW_ofNode_1 : decode M_MW_ofNode.2.1 1 = .ok (.getfield 40, 3) := by decide +kernel
theorem d_MW_ofNode_4 : decode M_MW_ofNode.2.1 4 = .ok (.iload_n 1, 1) := by decide +kernel
theorem d_MW_ofNode_5 : decode M_MW_ofNode.2.1 5 = .ok (.invokevirtual 192, 3) := by decide +kernel
theorem d_MW_ofNode_8 : decode M_MW_ofNode.2.1 8 = .ok (.ifCond .ne 5, 3) := by decide +kernel
theorem d_MW_ofNode_11 : decode M_MW_ofNode.2.1 11 = .ok (.iconst (-1), 1) := by decide +kernel
theorem d_MW_ofNode_12 : decode M_MW_ofNode.2.1 12 = .ok (.ireturn, 1) := by decide +kernel
theorem d_MW_ofNode_13 : decode M_MW_ofNode.2.1 13 = .ok (.iload_n 2, 1) := by decide +kernel
theorem d_MW_ofNode_14 : decode M_MW_ofNode.2.1 14 = .ok (.tableswitch 101 0 5 #[38, 48, 58, 68, 81, 91], 38) := by decide +kernel
theorem d_MW_ofNode_52 : decode M_MW_ofNode.2.1 52 = .ok (.aload_n 0, 1) := by decide +kernel
theorem d_MW_ofNode_53 : decode M_MW_ofNode.2.1 53 = .ok (.getfield 40, 3) := by decide +kernel
theorem d_MW_ofNode_56 : decode M_MW_ofNode.2.1 56 = .ok (.getfield 220, 3) := by decide +kernel
theorem d_MW_ofNode_59 : decode M_MW_ofNode.2.1 59 = .ok (.iload_n 1, 1) := by decide +kernel
theorem d_MW_ofNode_60 : decode M_MW_ofNode.2.1 60 = .ok (.iaload, 1) := by decide +kernel
theorem d_MW_ofNode_61 : decode M_MW_ofNode.2.1 61 = .ok (.ireturn, 1) := by decide +kernel
theorem d_MW_ofNode_62 : decode M_MW_ofNode.2.1 62 = .ok (.aload_n 0, 1) := by decide +kernel
theorem d_MW_ofNode_63 : decode M_MW_ofNode.2.1 63 = .ok (.getfield 40, 3) := by decide +kernel
theorem d_MW_ofNode_66 : decode M_MW_ofNode.2.1 66 = .ok (.getfield 202, 3) := by decide +kernel
theorem d_MW_ofNode_69 : decode M_MW_ofNode.2.1 69 = .ok (.iload_n 1, 1) := by decide +kernel
theorem d_MW_ofNode_70 : decode M_MW_ofNode.2.1 70 = .ok (.iaload, 1) := by decide +kernel
theorem d_MW_ofNode_71 : decode M_MW_ofNode.2.1 71 = .ok (.ireturn, 1) := by decide +kernel
theorem d_MW_ofNode_72 : decode M_MW_ofNode.2.1 72 = .ok (.aload_n 0, 1) := by decide +kernel
theorem d_MW_ofNode_73 : decode M_MW_ofNode.2.1 73 = .ok (.getfield 40, 3) := by decide +kernel
theorem d_MW_ofNode_76 : decode M_MW_ofNode.2.1 76 = .ok (.getfield 205, 3) := by decide +kernel
theorem d_MW_ofNode_79 : decode M_MW_ofNode.2.1 79 = .ok (.iload_n 1, 1) := by decide +kernel
theorem d_MW_ofNode_80 : decode M_MW_ofNode.2.1 80 = .ok (.iaload, 1) := by decide +kernel
theorem d_MW_ofNode_81 : decode M_MW_ofNode.2.1 81 = .ok (.ireturn, 1) := by decide +kernel
theorem d_MW_ofNode_82 : decode M_MW_ofNode.2.1 82 = .ok (.aload_n 0, 1) := by decide +kernel
theorem d_MW_ofNode_83 : decode M_MW_ofNode.2.1 83 = .ok (.getfield 40, 3) := by decide +kernel
theorem d_MW_ofNode_86 : decode M_MW_ofNode.2.1 86 = .ok (.getfield 208, 3) := by decide +kernel
theorem d_MW_ofNode_89 : decode M_MW_ofNode.2.1 89 = .ok (.iload_n 1, 1) := by decide +kernel
theorem d_MW_ofNode_90 : decode M_MW_ofNode.2.1 90 = .ok (.baload, 1) := by decide +kernel
theorem d_MW_ofNode_91 : decode M_MW_ofNode.2.1 91 = .ok (.invokestatic 86, 3) := by decide +kernel
theorem d_MW_ofNode_94 : decode M_MW_ofNode.2.1 94 = .ok (.ireturn, 1) := by decide +kernel
theorem d_MW_ofNode_95 : decode M_MW_ofNode.2.1 95 = .ok (.aload_n 0, 1) := by decide +kernel
theorem d_MW_ofNode_96 : decode M_MW_ofNode.2.1 96 = .ok (.getfield 40, 3) := by decide +kernel
theorem d_MW_ofNode_99 : decode M_MW_ofNode.2.1 99 = .ok (.getfield 223, 3) := by decide +kernel
theorem d_MW_ofNode_102 : decode M_MW_ofNode.2.1 102 = .ok (.iload_n 1, 1) := by decide +kernel
theorem d_MW_ofNode_103 : decode M_MW_ofNode.2.1 103 = .ok (.iaload, 1) := by decide +kernel
theorem d_MW_ofNode_104 : decode M_MW_ofNode.2.1 104 = .ok (.ireturn, 1) := by decide +kernel
theorem d_MW_ofNode_105 : decode M_MW_ofNode.2.1 105 = .ok (.aload_n 0, 1) := by decide +kernel
theorem d_MW_ofNode_106 : decode M_MW_ofNode.2.1 106 = .ok (.getfield 40, 3) := by decide +kernel
theorem d_MW_ofNode_109 : decode M_MW_ofNode.2.1 109 = .ok (.getfield 226, 3) := by decide +kernel
theorem d_MW_ofNode_112 : decode M_MW_ofNode.2.1 112 = .ok (.iload_n 1, 1) := by decide +kernel
theorem d_MW_ofNode_113 : decode M_MW_ofNode.2.1 113 = .ok (.iaload, 1) := by decide +kernel
theorem d_MW_ofNode_114 : decode M_MW_ofNode.2.1 114 = .ok (.ireturn, 1) := by decide +kernel
theorem d_MW_ofNode_115 : decode M_MW_ofNode.2.1 115 = .ok (.bipush (-2), 2) := by decide +kernel
theorem d_MW_ofNode_117 : decode M_MW_ofNode.2.1 117 = .ok (.ireturn, 1) := by decide +kernel
theorem d_MW_isWithin_0 : decode M_MW_isWithin.2.1 0 = .ok (.iload_n 0, 1) := by decide +kernel
theorem d_MW_isWithin_1 : decode M_MW_isWithin.2.1 1 = .ok (.iload_n 1, 1) := by decide +kernel
theorem d_MW_isWithin_2 : decode M_MW_isWithin.2.1 2 = .ok (.if_icmp .lt 12, 3) := by decide +kernel
theorem d_MW_isWithin_5 : decode M_MW_isWithin.2.1 5 = .ok (.iload_n 0, 1) := by decide +kernel
theorem d_MW_isWithin_6 : decode M_MW_isWithin.2.1 6 = .ok (.iload_n 2, 1) := by decide +kernel
theorem d_MW_isWithin_7 : decode M_MW_isWithin.2.1 7 = .ok (.if_icmp .gt 7, 3) := by decide +kernel
theorem d_MW_isWithin_10 : decode M_MW_isWithin.2.1 10 = .ok (.iconst 1, 1) := by decide +kernel
theorem d_MW_isWithin_11 : decode M_MW_isWithin.2.1 11 = .ok (.goto 4, 3) := by decide +kernel
theorem d_MW_isWithin_14 : decode M_MW_isWithin.2.1 14 = .ok (.iconst 0, 1) := by decide +kernel
theorem d_MW_isWithin_15 : decode M_MW_isWithin.2.1 15 = .ok (.ireturn, 1) := by decide +kernel
theorem d_MW_oneIf_0 : decode M_MW_oneIf.2.1 0 = .ok (.iload_n 0, 1) := by decide +kernel
theorem d_MW_oneIf_1 : decode M_MW_oneIf.2.1 1 = .ok (.ifCond .eq 7, 3) := by decide +kernel
theorem d_MW_oneIf_4 : decode M_MW_oneIf.2.1 4 = .ok (.iconst 1, 1) := by decide +kernel
theorem d_MW_oneIf_5 : decode M_MW_oneIf.2.1 5 = .ok (.goto 4, 3) := by decide +kernel
theorem d_MW_oneIf_8 : decode M_MW_oneIf.2.1 8 = .ok (.iconst 0, 1) := by decide +kernel
theorem d_MW_oneIf_9 : decode M_MW_oneIf.2.1 9 = .ok (.ireturn, 1) := by decide +kernel
theorem d_MW_isLevel_0 : decode M_MW_isLevel.2.1 0 = .ok (.iload_n 0, 1) := by decide +kernel
theorem d_MW_isLevel_1 : decode M_MW_isLevel.2.1 1 = .ok (.iconst 0, 1) := by decide +kernel
theorem d_MW_isLevel_2 : decode M_MW_isLevel.2.1 2 = .ok (.iconst 4, 1) := by decide +kernel
theorem d_MW_isLevel_3 : decode M_MW_isLevel.2.1 3 = .ok (.invokestatic 64, 3) := by decide +kernel
theorem d_MW_isLevel_6 : decode M_MW_isLevel.2.1 6 = .ok (.ireturn, 1) := by decide +kernel
theorem d_MW_isLawLevel_0 : decode M_MW_isLawLevel.2.1 0 = .ok (.iload_n 0, 1) := by decide +kernel
theorem d_MW_isLawLevel_1 : decode M_MW_isLawLevel.2.1 1 = .ok (.iconst 1, 1) := by decide +kernel
theorem d_MW_isLawLevel_2 : decode M_MW_isLawLevel.2.1 2 = .ok (.iconst 4, 1) := by decide +kernel
theorem d_MW_isLawLevel_3 : decode M_MW_isLawLevel.2.1 3 = .ok (.invokestatic 64, 3) := by decide +kernel
theorem d_MW_isLawLevel_6 : decode M_MW_isLawLevel.2.1 6 = .ok (.ireturn, 1) := by decide +kernel
theorem d_MW_areBounds_0 : decode M_MW_areBounds.2.1 0 = .ok (.iload_n 0, 1) := by decide +kernel
theorem d_MW_areBounds_1 : decode M_MW_areBounds.2.1 1 = .ok (.ifCond .lt 18, 3) := by decide +kernel
theorem d_MW_areBounds_4 : decode M_MW_areBounds.2.1 4 = .ok (.iload_n 0, 1) := by decide +kernel
theorem d_MW_areBounds_5 : decode M_MW_areBounds.2.1 5 = .ok (.iload_n 1, 1) := by decide +kernel
theorem d_MW_areBounds_6 : decode M_MW_areBounds.2.1 6 = .ok (.if_icmp .gt 13, 3) := by decide +kernel
theorem d_MW_areBounds_9 : decode M_MW_areBounds.2.1 9 = .ok (.iload_n 1, 1) := by decide +kernel
theorem d_MW_areBounds_10 : decode M_MW_areBounds.2.1 10 = .ok (.bipush 100, 2) := by decide +kernel
theorem d_MW_areBounds_12 : decode M_MW_areBounds.2.1 12 = .ok (.if_icmp .gt 7, 3) := by decide +kernel
theorem d_MW_areBounds_15 : decode M_MW_areBounds.2.1 15 = .ok (.iconst 1, 1) := by decide +kernel
theorem d_MW_areBounds_16 : decode M_MW_areBounds.2.1 16 = .ok (.goto 4, 3) := by decide +kernel
theorem d_MW_areBounds_19 : decode M_MW_areBounds.2.1 19 = .ok (.iconst 0, 1) := by decide +kernel
theorem d_MW_areBounds_20 : decode M_MW_areBounds.2.1 20 = .ok (.ireturn, 1) := by decide +kernel
theorem d_MW_isDay_0 : decode M_MW_isDay.2.1 0 = .ok (.iload_n 1, 1) := by decide +kernel
theorem d_MW_isDay_1 : decode M_MW_isDay.2.1 1 = .ok (.iconst 0, 1) := by decide +kernel
theorem d_MW_isDay_2 : decode M_MW_isDay.2.1 2 = .ok (.aload_n 0, 1) := by decide +kernel
theorem d_MW_isDay_3 : decode M_MW_isDay.2.1 3 = .ok (.getfield 53, 3) := by decide +kernel
theorem d_MW_isDay_6 : decode M_MW_isDay.2.1 6 = .ok (.invokestatic 64, 3) := by decide +kernel
theorem d_MW_isDay_9 : decode M_MW_isDay.2.1 9 = .ok (.ireturn, 1) := by decide +kernel
theorem d_MW_measured_0 : decode M_MW_measured.2.1 0 = .ok (.aload_n 0, 1) := by decide +kernel
theorem d_MW_measured_1 : decode M_MW_measured.2.1 1 = .ok (.getfield 26, 3) := by decide +kernel
theorem d_MW_measured_4 : decode M_MW_measured.2.1 4 = .ok (.getfield 229, 3) := by decide +kernel
theorem d_MW_measured_7 : decode M_MW_measured.2.1 7 = .ok (.iload_n 1, 1) := by decide +kernel
theorem d_MW_measured_8 : decode M_MW_measured.2.1 8 = .ok (.iaload, 1) := by decide +kernel
theorem d_MW_measured_9 : decode M_MW_measured.2.1 9 = .ok (.istore_n 3, 1) := by decide +kernel
theorem d_MW_measured_10 : decode M_MW_measured.2.1 10 = .ok (.iconst 0, 1) := by decide +kernel
theorem d_MW_measured_11 : decode M_MW_measured.2.1 11 = .ok (.iload_n 2, 1) := by decide +kernel
theorem d_MW_measured_12 : decode M_MW_measured.2.1 12 = .ok (.iload_n 3, 1) := by decide +kernel
theorem d_MW_measured_13 : decode M_MW_measured.2.1 13 = .ok (.isub, 1) := by decide +kernel
theorem d_MW_measured_14 : decode M_MW_measured.2.1 14 = .ok (.iconst 1, 1) := by decide +kernel
theorem d_MW_measured_15 : decode M_MW_measured.2.1 15 = .ok (.iadd, 1) := by decide +kernel
theorem d_MW_measured_16 : decode M_MW_measured.2.1 16 = .ok (.invokestatic 232, 3) := by decide +kernel
theorem d_MW_measured_19 : decode M_MW_measured.2.1 19 = .ok (.istore 4, 2) := by decide +kernel
theorem d_MW_measured_21 : decode M_MW_measured.2.1 21 = .ok (.aload_n 0, 1) := by decide +kernel
theorem d_MW_measured_22 : decode M_MW_measured.2.1 22 = .ok (.getfield 26, 3) := by decide +kernel
theorem d_MW_measured_25 : decode M_MW_measured.2.1 25 = .ok (.getfield 237, 3) := by decide +kernel
theorem d_MW_measured_28 : decode M_MW_measured.2.1 28 = .ok (.iload_n 1, 1) := by decide +kernel
theorem d_MW_measured_29 : decode M_MW_measured.2.1 29 = .ok (.iaload, 1) := by decide +kernel
theorem d_MW_measured_30 : decode M_MW_measured.2.1 30 = .ok (.istore 5, 2) := by decide +kernel
theorem d_MW_measured_32 : decode M_MW_measured.2.1 32 = .ok (.iload 5, 2) := by decide +kernel
theorem d_MW_measured_34 : decode M_MW_measured.2.1 34 = .ok (.tableswitch 73 3 6 #[30, 41, 52, 62], 30) := by decide +kernel
theorem d_MW_measured_64 : decode M_MW_measured.2.1 64 = .ok (.aload_n 0, 1) := by decide +kernel
theorem d_MW_measured_65 : decode M_MW_measured.2.1 65 = .ok (.getfield 10, 3) := by decide +kernel
theorem d_MW_measured_68 : decode M_MW_measured.2.1 68 = .ok (.iload 4, 2) := by decide +kernel
theorem d_MW_measured_70 : decode M_MW_measured.2.1 70 = .ok (.iload_n 2, 1) := by decide +kernel
theorem d_MW_measured_71 : decode M_MW_measured.2.1 71 = .ok (.invokevirtual 240, 3) := by decide +kernel
theorem d_MW_measured_74 : decode M_MW_measured.2.1 74 = .ok (.ireturn, 1) := by decide +kernel
theorem d_MW_measured_75 : decode M_MW_measured.2.1 75 = .ok (.aload_n 0, 1) := by decide +kernel
theorem d_MW_measured_76 : decode M_MW_measured.2.1 76 = .ok (.getfield 10, 3) := by decide +kernel
theorem d_MW_measured_79 : decode M_MW_measured.2.1 79 = .ok (.iload 4, 2) := by decide +kernel
theorem d_MW_measured_81 : decode M_MW_measured.2.1 81 = .ok (.iload_n 2, 1) := by decide +kernel
theorem d_MW_measured_82 : decode M_MW_measured.2.1 82 = .ok (.invokevirtual 243, 3) := by decide +kernel
theorem d_MW_measured_85 : decode M_MW_measured.2.1 85 = .ok (.ireturn, 1) := by decide +kernel
theorem d_MW_measured_86 : decode M_MW_measured.2.1 86 = .ok (.aload_n 0, 1) := by decide +kernel
theorem d_MW_measured_87 : decode M_MW_measured.2.1 87 = .ok (.getfield 19, 3) := by decide +kernel
theorem d_MW_measured_90 : decode M_MW_measured.2.1 90 = .ok (.iload_n 2, 1) := by decide +kernel
theorem d_MW_measured_91 : decode M_MW_measured.2.1 91 = .ok (.iload_n 3, 1) := by decide +kernel
theorem d_MW_measured_92 : decode M_MW_measured.2.1 92 = .ok (.invokevirtual 246, 3) := by decide +kernel
theorem d_MW_measured_95 : decode M_MW_measured.2.1 95 = .ok (.ireturn, 1) := by decide +kernel
theorem d_MW_measured_96 : decode M_MW_measured.2.1 96 = .ok (.aload_n 0, 1) := by decide +kernel
theorem d_MW_measured_97 : decode M_MW_measured.2.1 97 = .ok (.getfield 19, 3) := by decide +kernel
theorem d_MW_measured_100 : decode M_MW_measured.2.1 100 = .ok (.iload 4, 2) := by decide +kernel
theorem d_MW_measured_102 : decode M_MW_measured.2.1 102 = .ok (.iload_n 2, 1) := by decide +kernel
theorem d_MW_measured_103 : decode M_MW_measured.2.1 103 = .ok (.invokevirtual 249, 3) := by decide +kernel
theorem d_MW_measured_106 : decode M_MW_measured.2.1 106 = .ok (.ireturn, 1) := by decide +kernel
theorem d_MW_measured_107 : decode M_MW_measured.2.1 107 = .ok (.aload_n 0, 1) := by decide +kernel
theorem d_MW_measured_108 : decode M_MW_measured.2.1 108 = .ok (.getfield 10, 3) := by decide +kernel
theorem d_MW_measured_111 : decode M_MW_measured.2.1 111 = .ok (.iload 5, 2) := by decide +kernel
theorem d_MW_measured_113 : decode M_MW_measured.2.1 113 = .ok (.iload 4, 2) := by decide +kernel
theorem d_MW_measured_115 : decode M_MW_measured.2.1 115 = .ok (.iload_n 2, 1) := by decide +kernel
theorem d_MW_measured_116 : decode M_MW_measured.2.1 116 = .ok (.invokevirtual 252, 3) := by decide +kernel
theorem d_MW_measured_119 : decode M_MW_measured.2.1 119 = .ok (.ireturn, 1) := by decide +kernel
theorem d_MW_holdsTrue_0 : decode M_MW_holdsTrue.2.1 0 = .ok (.aload_n 0, 1) := by decide +kernel
theorem d_MW_holdsTrue_1 : decode M_MW_holdsTrue.2.1 1 = .ok (.iload_n 1, 1) := by decide +kernel
theorem d_MW_holdsTrue_2 : decode M_MW_holdsTrue.2.1 2 = .ok (.iload_n 2, 1) := by decide +kernel
theorem d_MW_holdsTrue_3 : decode M_MW_holdsTrue.2.1 3 = .ok (.invokevirtual 132, 3) := by decide +kernel
theorem d_MW_holdsTrue_6 : decode M_MW_holdsTrue.2.1 6 = .ok (.aload_n 0, 1) := by decide +kernel
theorem d_MW_holdsTrue_7 : decode M_MW_holdsTrue.2.1 7 = .ok (.getfield 26, 3) := by decide +kernel
theorem d_MW_holdsTrue_10 : decode M_MW_holdsTrue.2.1 10 = .ok (.getfield 129, 3) := by decide +kernel
theorem d_MW_holdsTrue_13 : decode M_MW_holdsTrue.2.1 13 = .ok (.iload_n 1, 1) := by decide +kernel
theorem d_MW_holdsTrue_14 : decode M_MW_holdsTrue.2.1 14 = .ok (.iaload, 1) := by decide +kernel
theorem d_MW_holdsTrue_15 : decode M_MW_holdsTrue.2.1 15 = .ok (.if_icmp .lt 7, 3) := by decide +kernel
theorem d_MW_holdsTrue_18 : decode M_MW_holdsTrue.2.1 18 = .ok (.iconst 1, 1) := by decide +kernel
theorem d_MW_holdsTrue_19 : decode M_MW_holdsTrue.2.1 19 = .ok (.goto 4, 3) := by decide +kernel
theorem d_MW_holdsTrue_22 : decode M_MW_holdsTrue.2.1 22 = .ok (.iconst 0, 1) := by decide +kernel
theorem d_MW_holdsTrue_23 : decode M_MW_holdsTrue.2.1 23 = .ok (.ireturn, 1) := by decide +kernel
theorem d_MW_heldToday_0 : decode M_MW_heldToday.2.1 0 = .ok (.aload_n 0, 1) := by decide +kernel
theorem d_MW_heldToday_1 : decode M_MW_heldToday.2.1 1 = .ok (.getfield 53, 3) := by decide +kernel
theorem d_MW_heldToday_4 : decode M_MW_heldToday.2.1 4 = .ok (.aload_n 0, 1) := by decide +kernel
theorem d_MW_heldToday_5 : decode M_MW_heldToday.2.1 5 = .ok (.getfield 150, 3) := by decide +kernel
theorem d_MW_heldToday_8 : decode M_MW_heldToday.2.1 8 = .ok (.if_icmp .ge 10, 3) := by decide +kernel
theorem d_MW_heldToday_11 : decode M_MW_heldToday.2.1 11 = .ok (.aload_n 0, 1) := by decide +kernel
theorem d_MW_heldToday_12 : decode M_MW_heldToday.2.1 12 = .ok (.getfield 147, 3) := by decide +kernel
theorem d_MW_heldToday_15 : decode M_MW_heldToday.2.1 15 = .ok (.goto 4, 3) := by decide +kernel
theorem d_MW_heldToday_18 : decode M_MW_heldToday.2.1 18 = .ok (.iconst 0, 1) := by decide +kernel
theorem d_MW_heldToday_19 : decode M_MW_heldToday.2.1 19 = .ok (.ireturn, 1) := by decide +kernel
theorem d_MW_wantedToday_0 : decode M_MW_wantedToday.2.1 0 = .ok (.aload_n 0, 1) := by decide +kernel
theorem d_MW_wantedToday_1 : decode M_MW_wantedToday.2.1 1 = .ok (.invokevirtual 153, 3) := by decide +kernel
theorem d_MW_wantedToday_4 : decode M_MW_wantedToday.2.1 4 = .ok (.istore_n 1, 1) := by decide +kernel
theorem d_MW_wantedToday_5 : decode M_MW_wantedToday.2.1 5 = .ok (.iconst 0, 1) := by decide +kernel
theorem d_MW_wantedToday_6 : decode M_MW_wantedToday.2.1 6 = .ok (.istore_n 2, 1) := by decide +kernel
theorem d_MW_wantedToday_7 : decode M_MW_wantedToday.2.1 7 = .ok (.iload_n 2, 1) := by decide +kernel
theorem d_MW_wantedToday_8 : decode M_MW_wantedToday.2.1 8 = .ok (.aload_n 0, 1) := by decide +kernel
theorem d_MW_wantedToday_9 : decode M_MW_wantedToday.2.1 9 = .ok (.getfield 26, 3) := by decide +kernel
theorem d_MW_wantedToday_12 : decode M_MW_wantedToday.2.1 12 = .ok (.getfield 121, 3) := by decide +kernel
theorem d_MW_wantedToday_15 : decode M_MW_wantedToday.2.1 15 = .ok (.if_icmp .ge 44, 3) := by decide +kernel
theorem d_MW_wantedToday_18 : decode M_MW_wantedToday.2.1 18 = .ok (.aload_n 0, 1) := by decide +kernel
theorem d_MW_wantedToday_19 : decode M_MW_wantedToday.2.1 19 = .ok (.getfield 26, 3) := by decide +kernel
theorem d_MW_wantedToday_22 : decode M_MW_wantedToday.2.1 22 = .ok (.getfield 126, 3) := by decide +kernel
theorem d_MW_wantedToday_25 : decode M_MW_wantedToday.2.1 25 = .ok (.iload_n 2, 1) := by decide +kernel
theorem d_MW_wantedToday_26 : decode M_MW_wantedToday.2.1 26 = .ok (.iaload, 1) := by decide +kernel
theorem d_MW_wantedToday_27 : decode M_MW_wantedToday.2.1 27 = .ok (.iload_n 1, 1) := by decide +kernel
theorem d_MW_wantedToday_28 : decode M_MW_wantedToday.2.1 28 = .ok (.if_icmp .le 25, 3) := by decide +kernel
theorem d_MW_wantedToday_31 : decode M_MW_wantedToday.2.1 31 = .ok (.aload_n 0, 1) := by decide +kernel
theorem d_MW_wantedToday_32 : decode M_MW_wantedToday.2.1 32 = .ok (.iload_n 2, 1) := by decide +kernel
theorem d_MW_wantedToday_33 : decode M_MW_wantedToday.2.1 33 = .ok (.aload_n 0, 1) := by decide +kernel
theorem d_MW_wantedToday_34 : decode M_MW_wantedToday.2.1 34 = .ok (.getfield 53, 3) := by decide +kernel
theorem d_MW_wantedToday_37 : decode M_MW_wantedToday.2.1 37 = .ok (.invokevirtual 135, 3) := by decide +kernel
theorem d_MW_wantedToday_40 : decode M_MW_wantedToday.2.1 40 = .ok (.ifCond .eq 13, 3) := by decide +kernel
theorem d_MW_wantedToday_43 : decode M_MW_wantedToday.2.1 43 = .ok (.aload_n 0, 1) := by decide +kernel
theorem d_MW_wantedToday_44 : decode M_MW_wantedToday.2.1 44 = .ok (.getfield 26, 3) := by decide +kernel
theorem d_MW_wantedToday_47 : decode M_MW_wantedToday.2.1 47 = .ok (.getfield 126, 3) := by decide +kernel
theorem d_MW_wantedToday_50 : decode M_MW_wantedToday.2.1 50 = .ok (.iload_n 2, 1) := by decide +kernel
theorem d_MW_wantedToday_51 : decode M_MW_wantedToday.2.1 51 = .ok (.iaload, 1) := by decide +kernel
theorem d_MW_wantedToday_52 : decode M_MW_wantedToday.2.1 52 = .ok (.istore_n 1, 1) := by decide +kernel
theorem d_MW_wantedToday_53 : decode M_MW_wantedToday.2.1 53 = .ok (.iinc 2 1, 3) := by decide +kernel
theorem d_MW_wantedToday_56 : decode M_MW_wantedToday.2.1 56 = .ok (.goto (-49), 3) := by decide +kernel
theorem d_MW_wantedToday_59 : decode M_MW_wantedToday.2.1 59 = .ok (.iload_n 1, 1) := by decide +kernel
theorem d_MW_wantedToday_60 : decode M_MW_wantedToday.2.1 60 = .ok (.ireturn, 1) := by decide +kernel
theorem d_MW_reasonToRaise_0 : decode M_MW_reasonToRaise.2.1 0 = .ok (.iconst 0, 1) := by decide +kernel
theorem d_MW_reasonToRaise_1 : decode M_MW_reasonToRaise.2.1 1 = .ok (.istore_n 2, 1) := by decide +kernel
theorem d_MW_reasonToRaise_2 : decode M_MW_reasonToRaise.2.1 2 = .ok (.iload_n 2, 1) := by decide +kernel
theorem d_MW_reasonToRaise_3 : decode M_MW_reasonToRaise.2.1 3 = .ok (.aload_n 0, 1) := by decide +kernel
theorem d_MW_reasonToRaise_4 : decode M_MW_reasonToRaise.2.1 4 = .ok (.getfield 26, 3) := by decide +kernel
theorem d_MW_reasonToRaise_7 : decode M_MW_reasonToRaise.2.1 7 = .ok (.getfield 121, 3) := by decide +kernel
theorem d_MW_reasonToRaise_10 : decode M_MW_reasonToRaise.2.1 10 = .ok (.if_icmp .ge 36, 3) := by decide +kernel
theorem d_MW_reasonToRaise_13 : decode M_MW_reasonToRaise.2.1 13 = .ok (.aload_n 0, 1) := by decide +kernel
theorem d_MW_reasonToRaise_14 : decode M_MW_reasonToRaise.2.1 14 = .ok (.getfield 26, 3) := by decide +kernel
theorem d_MW_reasonToRaise_17 : decode M_MW_reasonToRaise.2.1 17 = .ok (.getfield 126, 3) := by decide +kernel
theorem d_MW_reasonToRaise_20 : decode M_MW_reasonToRaise.2.1 20 = .ok (.iload_n 2, 1) := by decide +kernel
theorem d_MW_reasonToRaise_21 : decode M_MW_reasonToRaise.2.1 21 = .ok (.iaload, 1) := by decide +kernel
theorem d_MW_reasonToRaise_22 : decode M_MW_reasonToRaise.2.1 22 = .ok (.iload_n 1, 1) := by decide +kernel
theorem d_MW_reasonToRaise_23 : decode M_MW_reasonToRaise.2.1 23 = .ok (.if_icmp .ne 17, 3) := by decide +kernel
theorem d_MW_reasonToRaise_26 : decode M_MW_reasonToRaise.2.1 26 = .ok (.aload_n 0, 1) := by decide +kernel
theorem d_MW_reasonToRaise_27 : decode M_MW_reasonToRaise.2.1 27 = .ok (.iload_n 2, 1) := by decide +kernel
theorem d_MW_reasonToRaise_28 : decode M_MW_reasonToRaise.2.1 28 = .ok (.aload_n 0, 1) := by decide +kernel
theorem d_MW_reasonToRaise_29 : decode M_MW_reasonToRaise.2.1 29 = .ok (.getfield 53, 3) := by decide +kernel
theorem d_MW_reasonToRaise_32 : decode M_MW_reasonToRaise.2.1 32 = .ok (.invokevirtual 135, 3) := by decide +kernel
theorem d_MW_reasonToRaise_35 : decode M_MW_reasonToRaise.2.1 35 = .ok (.ifCond .eq 5, 3) := by decide +kernel
theorem d_MW_reasonToRaise_38 : decode M_MW_reasonToRaise.2.1 38 = .ok (.iload_n 2, 1) := by decide +kernel
theorem d_MW_reasonToRaise_39 : decode M_MW_reasonToRaise.2.1 39 = .ok (.ireturn, 1) := by decide +kernel
theorem d_MW_reasonToRaise_40 : decode M_MW_reasonToRaise.2.1 40 = .ok (.iinc 2 1, 3) := by decide +kernel
theorem d_MW_reasonToRaise_43 : decode M_MW_reasonToRaise.2.1 43 = .ok (.goto (-41), 3) := by decide +kernel
theorem d_MW_reasonToRaise_46 : decode M_MW_reasonToRaise.2.1 46 = .ok (.bipush 20, 2) := by decide +kernel
theorem d_MW_reasonToRaise_48 : decode M_MW_reasonToRaise.2.1 48 = .ok (.ireturn, 1) := by decide +kernel
theorem d_MW_endToday_0 : decode M_MW_endToday.2.1 0 = .ok (.aload_n 0, 1) := by decide +kernel
theorem d_MW_endToday_1 : decode M_MW_endToday.2.1 1 = .ok (.invokevirtual 184, 3) := by decide +kernel
theorem d_MW_endToday_4 : decode M_MW_endToday.2.1 4 = .ok (.istore_n 1, 1) := by decide +kernel
theorem d_MW_endToday_5 : decode M_MW_endToday.2.1 5 = .ok (.iload_n 1, 1) := by decide +kernel
theorem d_MW_endToday_6 : decode M_MW_endToday.2.1 6 = .ok (.aload_n 0, 1) := by decide +kernel
theorem d_MW_endToday_7 : decode M_MW_endToday.2.1 7 = .ok (.getfield 144, 3) := by decide +kernel
theorem d_MW_endToday_10 : decode M_MW_endToday.2.1 10 = .ok (.if_icmp .le 15, 3) := by decide +kernel
theorem d_MW_endToday_13 : decode M_MW_endToday.2.1 13 = .ok (.aload_n 0, 1) := by decide +kernel
theorem d_MW_endToday_14 : decode M_MW_endToday.2.1 14 = .ok (.iload_n 1, 1) := by decide +kernel
theorem d_MW_endToday_15 : decode M_MW_endToday.2.1 15 = .ok (.aload_n 0, 1) := by decide +kernel
theorem d_MW_endToday_16 : decode M_MW_endToday.2.1 16 = .ok (.iload_n 1, 1) := by decide +kernel
theorem d_MW_endToday_17 : decode M_MW_endToday.2.1 17 = .ok (.invokevirtual 255, 3) := by decide +kernel
theorem d_MW_endToday_20 : decode M_MW_endToday.2.1 20 = .ok (.invokevirtual 159, 3) := by decide +kernel
theorem d_MW_endToday_23 : decode M_MW_endToday.2.1 23 = .ok (.pop, 1) := by decide +kernel
theorem d_MW_endToday_24 : decode M_MW_endToday.2.1 24 = .ok (.return_, 1) := by decide +kernel
theorem d_MW_endToday_25 : decode M_MW_endToday.2.1 25 = .ok (.aload_n 0, 1) := by decide +kernel
theorem d_MW_endToday_26 : decode M_MW_endToday.2.1 26 = .ok (.iload_n 1, 1) := by decide +kernel
theorem d_MW_endToday_27 : decode M_MW_endToday.2.1 27 = .ok (.aload_n 0, 1) := by decide +kernel
theorem d_MW_endToday_28 : decode M_MW_endToday.2.1 28 = .ok (.getfield 144, 3) := by decide +kernel
theorem d_MW_endToday_31 : decode M_MW_endToday.2.1 31 = .ok (.if_icmp .ge 12, 3) := by decide +kernel
theorem d_MW_endToday_34 : decode M_MW_endToday.2.1 34 = .ok (.aload_n 0, 1) := by decide +kernel
theorem d_MW_endToday_35 : decode M_MW_endToday.2.1 35 = .ok (.getfield 181, 3) := by decide +kernel
theorem d_MW_endToday_38 : decode M_MW_endToday.2.1 38 = .ok (.iconst 1, 1) := by decide +kernel
theorem d_MW_endToday_39 : decode M_MW_endToday.2.1 39 = .ok (.iadd, 1) := by decide +kernel
theorem d_MW_endToday_40 : decode M_MW_endToday.2.1 40 = .ok (.goto 4, 3) := by decide +kernel
theorem d_MW_endToday_43 : decode M_MW_endToday.2.1 43 = .ok (.iconst 0, 1) := by decide +kernel
theorem d_MW_endToday_44 : decode M_MW_endToday.2.1 44 = .ok (.putfield 181, 3) := by decide +kernel
theorem d_MW_endToday_47 : decode M_MW_endToday.2.1 47 = .ok (.aload_n 0, 1) := by decide +kernel
theorem d_MW_endToday_48 : decode M_MW_endToday.2.1 48 = .ok (.getfield 181, 3) := by decide +kernel
theorem d_MW_endToday_51 : decode M_MW_endToday.2.1 51 = .ok (.aload_n 0, 1) := by decide +kernel
theorem d_MW_endToday_52 : decode M_MW_endToday.2.1 52 = .ok (.getfield 44, 3) := by decide +kernel
theorem d_MW_endToday_55 : decode M_MW_endToday.2.1 55 = .ok (.if_icmp .lt 23, 3) := by decide +kernel
theorem d_MW_endToday_58 : decode M_MW_endToday.2.1 58 = .ok (.aload_n 0, 1) := by decide +kernel
theorem d_MW_endToday_59 : decode M_MW_endToday.2.1 59 = .ok (.getfield 144, 3) := by decide +kernel
theorem d_MW_endToday_62 : decode M_MW_endToday.2.1 62 = .ok (.ifCond .le 16, 3) := by decide +kernel
theorem d_MW_endToday_65 : decode M_MW_endToday.2.1 65 = .ok (.aload_n 0, 1) := by decide +kernel
theorem d_MW_endToday_66 : decode M_MW_endToday.2.1 66 = .ok (.aload_n 0, 1) := by decide +kernel
theorem d_MW_endToday_67 : decode M_MW_endToday.2.1 67 = .ok (.getfield 144, 3) := by decide +kernel
theorem d_MW_endToday_70 : decode M_MW_endToday.2.1 70 = .ok (.iconst 1, 1) := by decide +kernel
theorem d_MW_endToday_71 : decode M_MW_endToday.2.1 71 = .ok (.isub, 1) := by decide +kernel
theorem d_MW_endToday_72 : decode M_MW_endToday.2.1 72 = .ok (.bipush 21, 2) := by decide +kernel
theorem d_MW_endToday_74 : decode M_MW_endToday.2.1 74 = .ok (.invokevirtual 159, 3) := by decide +kernel
theorem d_MW_endToday_77 : decode M_MW_endToday.2.1 77 = .ok (.pop, 1) := by decide +kernel
theorem d_MW_endToday_78 : decode M_MW_endToday.2.1 78 = .ok (.return_, 1) := by decide +kernel
theorem d_MW_setLevel_0 : decode M_MW_setLevel.2.1 0 = .ok (.aload_n 0, 1) := by decide +kernel
theorem d_MW_setLevel_1 : decode M_MW_setLevel.2.1 1 = .ok (.iload_n 1, 1) := by decide +kernel
theorem d_MW_setLevel_2 : decode M_MW_setLevel.2.1 2 = .ok (.putfield 144, 3) := by decide +kernel
theorem d_MW_setLevel_5 : decode M_MW_setLevel.2.1 5 = .ok (.aload_n 0, 1) := by decide +kernel
theorem d_MW_setLevel_6 : decode M_MW_setLevel.2.1 6 = .ok (.iconst 0, 1) := by decide +kernel
theorem d_MW_setLevel_7 : decode M_MW_setLevel.2.1 7 = .ok (.putfield 181, 3) := by decide +kernel
theorem d_MW_setLevel_10 : decode M_MW_setLevel.2.1 10 = .ok (.aload_n 0, 1) := by decide +kernel
theorem d_MW_setLevel_11 : decode M_MW_setLevel.2.1 11 = .ok (.getfield 33, 3) := by decide +kernel
theorem d_MW_setLevel_14 : decode M_MW_setLevel.2.1 14 = .ok (.iconst 0, 1) := by decide +kernel
theorem d_MW_setLevel_15 : decode M_MW_setLevel.2.1 15 = .ok (.aload_n 0, 1) := by decide +kernel
theorem d_MW_setLevel_16 : decode M_MW_setLevel.2.1 16 = .ok (.getfield 53, 3) := by decide +kernel
theorem d_MW_setLevel_19 : decode M_MW_setLevel.2.1 19 = .ok (.iload_n 1, 1) := by decide +kernel
theorem d_MW_setLevel_20 : decode M_MW_setLevel.2.1 20 = .ok (.iload_n 2, 1) := by decide +kernel
theorem d_MW_setLevel_21 : decode M_MW_setLevel.2.1 21 = .ok (.invokevirtual 165, 3) := by decide +kernel
theorem d_MW_setLevel_24 : decode M_MW_setLevel.2.1 24 = .ok (.ireturn, 1) := by decide +kernel
section Sfwatch
variable {D : va_G} {ad : Nat → Nat} {ca : Nat → ClassId} {sc : SC} {h : Hp} {Q : Option Value → Hp → Prop}
theorem F_MW_shake_0 (v1 : Int) (g1 : InL v1) (hF : ((v1 < 1 → Q (some (vI (-2))) h) ∧ (1 ≤ v1 → ((v1 ≤ 1061520150600 → (((h 1 5) < 80 → WP D ad ca none M_SH_add 0 [(0, .ref (ad 1)), (1, vL v1), (3, vI (h 0 5))] [] h (RI (fun r4 h3 => Q (some (vI r4)) h3))) ∧ (80 ≤ (h 1 5) → Q (some (vI (-4))) h))) ∧ (1061520150600 < v1 → Q (some (vI (-2))) h))))) : WP D ad ca sc M_MW_shake 0 [(0, .ref (ad 0)), (1, vL v1)] [] h Q := by
  refine P_lload_n 1 d_MW_shake_0 rfl rfl ?_
  refine P_lconst (i := 1) d_MW_shake_1 (by decide) ?_
  refine P_lcmp g1 ⟨by decide, by decide⟩ d_MW_shake_2 ?_
  refine P_if_lt 14 d_MW_shake_3 (by decide) (lc_R _ _) (fun c => ?_) (fun c => ?_)
  · have hF := hF.1 (lc_lt.mp c)
    refine P_bipush d_MW_shake_14 (by decide) ?_
    exact P_iret d_MW_shake_16 rfl hF
  · have hF := hF.2 (lc_ge.mp (Int.not_lt.mp c))
    refine P_lload_n 1 d_MW_shake_6 rfl rfl ?_
    refine P_ldc2 (n := 1061520150600) tw_239 (by decide) d_MW_shake_7 ?_
    refine P_lcmp g1 ⟨by decide, by decide⟩ d_MW_shake_10 ?_
    refine P_if_le 17 d_MW_shake_11 (by decide) (lc_R _ _) (fun c => ?_) (fun c => ?_)
    · have hF := hF.1 (lc_le.mp c)
      refine P_aload_n 0 d_MW_shake_17 rfl rfl ?_
      refine G_MW_shakes tw_198 d_MW_shake_18 ?_
      refine G_SH_count tw_61 d_MW_shake_21 (fun i1 => ?_)
      refine P_bipush d_MW_shake_24 (by decide) ?_
      refine P_icmp_lt 32 d_MW_shake_26 (by decide) i1 ⟨by decide, by decide⟩ (fun c => ?_) (fun c => ?_)
      · have hF := hF.1 c
        refine P_aload_n 0 d_MW_shake_32 rfl rfl ?_
        refine G_MW_shakes tw_198 d_MW_shake_33 ?_
        refine P_lload_n 1 d_MW_shake_36 rfl rfl ?_
        refine P_aload_n 0 d_MW_shake_37 rfl rfl ?_
        refine G_MW_today tw_203 d_MW_shake_38 (fun i2 => ?_)
        refine V_SH_add tw_240 d_MW_shake_41 (by decide) (Nat.le_of_ble_eq_true rfl) hF (fun r4 h3 i5 hF => ?_)
        exact P_iret d_MW_shake_44 rfl hF
      · have hF := hF.2 (Int.not_lt.mp c)
        refine P_bipush d_MW_shake_29 (by decide) ?_
        exact P_iret d_MW_shake_31 rfl hF
    · have hF := hF.2 (lc_gt.mp (Int.not_le.mp c))
      refine P_bipush d_MW_shake_14 (by decide) ?_
      exact P_iret d_MW_shake_16 rfl hF
theorem F_MW_about_0 (v1 v2 : Int) (g1 : InR v1) (g2 : InR v2) (hF : WP D ad ca none M_SH_has 0 [(0, .ref (ad 1)), (1, vI v1)] [] h (RI (fun r2 h1 => ((¬ r2 = 0 → WP D ad ca none M_MW_isWithin 0 [(0, vI v2), (1, vI 10), (2, vI 15)] [] h1 (RI (fun r5 h4 => ((r5 = 0 → ((v2 = 0 → (0 ≤ v1 ∧ v1 < 80) ∧ Q (some (vI (h4 3 v1))) h4) ∧ (v2 = 1 → (0 ≤ v1 ∧ v1 < 80) ∧ Q (some (vI (h4 4 v1))) h4) ∧ (v2 = 2 → (0 ≤ v1 ∧ v1 < 80) ∧ Q (some (vI (h4 5 v1))) h4) ∧ (v2 < 0 ∨ 2 < v2 → Q (some (vI (-2))) h4))) ∧ (¬ r5 = 0 → WP D ad ca none M_SH_band 0 [(0, .ref (ad 1)), (1, vI v1), (2, vI (v2 - 10))] [] h4 (RI (fun r14 h13 => Q (some (vI r14)) h13))))))) ∧ (r2 = 0 → Q (some (vI (-1))) h1))))) : WP D ad ca sc M_MW_about 0 [(0, .ref (ad 0)), (1, vI v1), (2, vI v2)] [] h Q := by
  refine P_aload_n 0 d_MW_about_0 rfl rfl ?_
  refine G_MW_shakes tw_198 d_MW_about_1 ?_
  refine P_iload_n 1 d_MW_about_4 rfl rfl ?_
  refine V_SH_has tw_277 d_MW_about_5 (by decide) (Nat.le_of_ble_eq_true rfl) hF (fun r2 h1 i3 hF => ?_)
  refine P_if_ne 13 d_MW_about_8 (by decide) i3 (fun c => ?_) (fun c => ?_)
  · have hF := hF.1 c
    refine P_iload_n 2 d_MW_about_13 rfl rfl ?_
    refine P_bipush d_MW_about_14 (by decide) ?_
    refine P_bipush d_MW_about_16 (by decide) ?_
    refine V_MW_isWithin tw_281 d_MW_about_18 (by decide) (Nat.le_of_ble_eq_true rfl) hF (fun r5 h4 i6 hF => ?_)
    refine P_if_eq 37 d_MW_about_21 (by decide) i6 (fun c => ?_) (fun c => ?_)
    · have hF := hF.1 c
      refine P_iload_n 2 d_MW_about_37 rfl rfl ?_
      by_cases c0 : v2 = 0
      · have hF := hF.1 c0
        refine P_tabIn 64 0 d_MW_about_38 c0 ⟨by decide, by decide⟩ (by decide) (by decide) rfl (by decide) ?_
        refine P_aload_n 0 d_MW_about_64 rfl rfl ?_
        refine G_MW_shakes tw_198 d_MW_about_65 ?_
        refine G_SH_days tw_54 d_MW_about_68 ?_
        refine P_iload_n 1 d_MW_about_71 rfl rfl ?_
        obtain ⟨b7, hF⟩ := hF
        refine L_3 d_MW_about_72 b7 (fun i8 => ?_)
        exact P_iret d_MW_about_73 rfl hF
      by_cases c1 : v2 = 1
      · have hF := hF.2.1 c1
        refine P_tabIn 74 1 d_MW_about_38 c1 ⟨by decide, by decide⟩ (by decide) (by decide) rfl (by decide) ?_
        refine P_aload_n 0 d_MW_about_74 rfl rfl ?_
        refine G_MW_shakes tw_198 d_MW_about_75 ?_
        refine G_SH_kinds tw_56 d_MW_about_78 ?_
        refine P_iload_n 1 d_MW_about_81 rfl rfl ?_
        obtain ⟨b9, hF⟩ := hF
        refine L_4 d_MW_about_82 b9 (fun i10 => ?_)
        exact P_iret d_MW_about_83 rfl hF
      by_cases c2 : v2 = 2
      · have hF := hF.2.2.1 c2
        refine P_tabIn 84 2 d_MW_about_38 c2 ⟨by decide, by decide⟩ (by decide) (by decide) rfl (by decide) ?_
        refine P_aload_n 0 d_MW_about_84 rfl rfl ?_
        refine G_MW_shakes tw_198 d_MW_about_85 ?_
        refine G_SH_families tw_58 d_MW_about_88 ?_
        refine P_iload_n 1 d_MW_about_91 rfl rfl ?_
        obtain ⟨b11, hF⟩ := hF
        refine L_5 d_MW_about_92 b11 (fun i12 => ?_)
        exact P_iret d_MW_about_93 rfl hF
      have hF := hF.2.2.2 (by omega)
      refine P_tabOut 94 d_MW_about_38 g2 (by omega) (by decide) ?_
      refine P_bipush d_MW_about_94 (by decide) ?_
      exact P_iret d_MW_about_96 rfl hF
    · have hF := hF.2 c
      refine P_aload_n 0 d_MW_about_24 rfl rfl ?_
      refine G_MW_shakes tw_198 d_MW_about_25 ?_
      refine P_iload_n 1 d_MW_about_28 rfl rfl ?_
      refine P_iload_n 2 d_MW_about_29 rfl rfl ?_
      refine P_bipush d_MW_about_30 (by decide) ?_
      refine P_isub d_MW_about_32 ?_
      refine V_SH_band tw_284 d_MW_about_33 (by decide) (Nat.le_of_ble_eq_true rfl) hF (fun r14 h13 i15 hF => ?_)
      exact P_iret d_MW_about_36 rfl hF
  · have hF := hF.2 c
    refine P_iconst d_MW_about_11 ?_
    exact P_iret d_MW_about_12 rfl hF
theorem F_MW_alike_0 (v1 v2 : Int) (g1 : InR v1) (g2 : InR v2) (hF : WP D ad ca none M_SH_has 0 [(0, .ref (ad 1)), (1, vI v1)] [] h (RI (fun r2 h1 => ((r2 = 0 → Q (some (vI (-1))) h1) ∧ (¬ r2 = 0 → WP D ad ca none M_SH_has 0 [(0, .ref (ad 1)), (1, vI v2)] [] h1 (RI (fun r5 h4 => ((¬ r5 = 0 → WP D ad ca none M_SH_areAlike 0 [(0, .ref (ad 1)), (1, vI v1), (2, vI v2)] [] h4 (RI (fun r8 h7 => WP D ad ca none M_MW_oneIf 0 [(0, vI r8)] [] h7 (RI (fun r11 h10 => Q (some (vI r11)) h10))))) ∧ (r5 = 0 → Q (some (vI (-1))) h4))))))))) : WP D ad ca sc M_MW_alike 0 [(0, .ref (ad 0)), (1, vI v1), (2, vI v2)] [] h Q := by
  refine P_aload_n 0 d_MW_alike_0 rfl rfl ?_
  refine G_MW_shakes tw_198 d_MW_alike_1 ?_
  refine P_iload_n 1 d_MW_alike_4 rfl rfl ?_
  refine V_SH_has tw_277 d_MW_alike_5 (by decide) (Nat.le_of_ble_eq_true rfl) hF (fun r2 h1 i3 hF => ?_)
  refine P_if_eq 22 d_MW_alike_8 (by decide) i3 (fun c => ?_) (fun c => ?_)
  · have hF := hF.1 c
    refine P_iconst d_MW_alike_22 ?_
    exact P_iret d_MW_alike_23 rfl hF
  · have hF := hF.2 c
    refine P_aload_n 0 d_MW_alike_11 rfl rfl ?_
    refine G_MW_shakes tw_198 d_MW_alike_12 ?_
    refine P_iload_n 2 d_MW_alike_15 rfl rfl ?_
    refine V_SH_has tw_277 d_MW_alike_16 (by decide) (Nat.le_of_ble_eq_true rfl) hF (fun r5 h4 i6 hF => ?_)
    refine P_if_ne 24 d_MW_alike_19 (by decide) i6 (fun c => ?_) (fun c => ?_)
    · have hF := hF.1 c
      refine P_aload_n 0 d_MW_alike_24 rfl rfl ?_
      refine G_MW_shakes tw_198 d_MW_alike_25 ?_
      refine P_iload_n 1 d_MW_alike_28 rfl rfl ?_
      refine P_iload_n 2 d_MW_alike_29 rfl rfl ?_
      refine V_SH_areAlike tw_289 d_MW_alike_30 (by decide) (Nat.le_of_ble_eq_true rfl) hF (fun r8 h7 i9 hF => ?_)
      refine V_MW_oneIf tw_290 d_MW_alike_33 (by decide) (Nat.le_of_ble_eq_true rfl) hF (fun r11 h10 i12 hF => ?_)
      exact P_iret d_MW_alike_36 rfl hF
    · have hF := hF.2 c
      refine P_iconst d_MW_alike_22 ?_
      exact P_iret d_MW_alike_23 rfl hF
theorem F_MW_likeness_0 (v1 : Int) (g1 : InR v1) (hF : WP D ad ca none M_MW_isWithin 0 [(0, vI v1), (1, vI 1), (2, vI 100)] [] h (RI (fun r2 h1 => ((¬ r2 = 0 → WP D ad ca none M_SH_askLikeness 0 [(0, .ref (ad 1)), (1, vI v1)] [] h1 (RV (fun h5 => Q (some (vI (h1 1 6))) h5))) ∧ (r2 = 0 → Q (some (vI (-2))) h1))))) : WP D ad ca sc M_MW_likeness 0 [(0, .ref (ad 0)), (1, vI v1)] [] h Q := by
  refine P_iload_n 1 d_MW_likeness_0 rfl rfl ?_
  refine P_iconst d_MW_likeness_1 ?_
  refine P_bipush d_MW_likeness_2 (by decide) ?_
  refine V_MW_isWithin tw_281 d_MW_likeness_4 (by decide) (Nat.le_of_ble_eq_true rfl) hF (fun r2 h1 i3 hF => ?_)
  refine P_if_ne 13 d_MW_likeness_7 (by decide) i3 (fun c => ?_) (fun c => ?_)
  · have hF := hF.1 c
    refine P_aload_n 0 d_MW_likeness_13 rfl rfl ?_
    refine G_MW_shakes tw_198 d_MW_likeness_14 ?_
    refine G_SH_asked tw_63 d_MW_likeness_17 (fun i4 => ?_)
    refine P_istore_n (lv' := [(0, .ref (ad 0)), (1, vI v1), (2, vI (h1 1 6))]) [1, 2, 0] d_MW_likeness_20 rfl (by decide) rfl ?_
    refine P_aload_n 0 d_MW_likeness_21 rfl rfl ?_
    refine G_MW_shakes tw_198 d_MW_likeness_22 ?_
    refine P_iload_n 1 d_MW_likeness_25 rfl rfl ?_
    refine V_SH_askLikeness tw_297 d_MW_likeness_26 (by decide) (Nat.le_of_ble_eq_true rfl) hF (fun h5 hF => ?_)
    refine P_iload_n 2 d_MW_likeness_29 rfl rfl ?_
    exact P_iret d_MW_likeness_30 rfl hF
  · have hF := hF.2 c
    refine P_bipush d_MW_likeness_10 (by decide) ?_
    exact P_iret d_MW_likeness_12 rfl hF
theorem F_MW_family_0 (v1 : Int) (g1 : InR v1) (hF : ((¬ v1 = (-1) → WP D ad ca none M_SH_familyByOrder 0 [(0, .ref (ad 1)), (1, vI v1)] [] h (RI (fun r2 h1 => Q (some (vI r2)) h1))) ∧ (v1 = (-1) → WP D ad ca none M_SH_countFamilies 0 [(0, .ref (ad 1))] [] h (RI (fun r5 h4 => Q (some (vI r5)) h4))))) : WP D ad ca sc M_MW_family 0 [(0, .ref (ad 0)), (1, vI v1)] [] h Q := by
  refine P_iload_n 1 d_MW_family_0 rfl rfl ?_
  refine P_iconst d_MW_family_1 ?_
  refine P_icmp_ne 15 d_MW_family_2 (by decide) g1 ⟨by decide, by decide⟩ (fun c => ?_) (fun c => ?_)
  · have hF := hF.1 c
    refine P_aload_n 0 d_MW_family_15 rfl rfl ?_
    refine G_MW_shakes tw_198 d_MW_family_16 ?_
    refine P_iload_n 1 d_MW_family_19 rfl rfl ?_
    refine V_SH_familyByOrder tw_309 d_MW_family_20 (by decide) (Nat.le_of_ble_eq_true rfl) hF (fun r2 h1 i3 hF => ?_)
    exact P_iret d_MW_family_23 rfl hF
  · have hF := hF.2 c
    refine P_aload_n 0 d_MW_family_5 rfl rfl ?_
    refine G_MW_shakes tw_198 d_MW_family_6 ?_
    refine V_SH_countFamilies tw_305 d_MW_family_9 (by decide) (Nat.le_of_ble_eq_true rfl) hF (fun r5 h4 i6 hF => ?_)
    refine P_goto 23 d_MW_family_12 (by decide) ?_
    exact P_iret d_MW_family_23 rfl hF
theorem F_MW_kin_0 (v1 : Int) (g1 : InR v1) (hF : WP D ad ca none M_SH_has 0 [(0, .ref (ad 1)), (1, vI v1)] [] h (RI (fun r2 h1 => ((r2 = 0 → Q (some (vI (-1))) h1) ∧ (¬ r2 = 0 → WP D ad ca none M_SH_countKin 0 [(0, .ref (ad 1)), (1, vI v1)] [] h1 (RI (fun r5 h4 => Q (some (vI r5)) h4))))))) : WP D ad ca sc M_MW_kin 0 [(0, .ref (ad 0)), (1, vI v1)] [] h Q := by
  refine P_aload_n 0 d_MW_kin_0 rfl rfl ?_
  refine G_MW_shakes tw_198 d_MW_kin_1 ?_
  refine P_iload_n 1 d_MW_kin_4 rfl rfl ?_
  refine V_SH_has tw_277 d_MW_kin_5 (by decide) (Nat.le_of_ble_eq_true rfl) hF (fun r2 h1 i3 hF => ?_)
  refine P_if_eq 22 d_MW_kin_8 (by decide) i3 (fun c => ?_) (fun c => ?_)
  · have hF := hF.1 c
    refine P_iconst d_MW_kin_22 ?_
    exact P_iret d_MW_kin_23 rfl hF
  · have hF := hF.2 c
    refine P_aload_n 0 d_MW_kin_11 rfl rfl ?_
    refine G_MW_shakes tw_198 d_MW_kin_12 ?_
    refine P_iload_n 1 d_MW_kin_15 rfl rfl ?_
    refine V_SH_countKin tw_317 d_MW_kin_16 (by decide) (Nat.le_of_ble_eq_true rfl) hF (fun r5 h4 i6 hF => ?_)
    refine P_goto 23 d_MW_kin_19 (by decide) ?_
    exact P_iret d_MW_kin_23 rfl hF
theorem F_MW_tilt_0 (v1 : Int) (g1 : InR v1) (hF : WP D ad ca none M_MW_isWithin 0 [(0, vI v1), (1, vI (-10000)), (2, vI 10000)] [] h (RI (fun r2 h1 => ((¬ r2 = 0 → (0 ≤ (h1 0 5) ∧ (h1 0 5) < 1000) ∧ Q (some (vI 1)) (up h1 8 (h1 0 5) v1)) ∧ (r2 = 0 → Q (some (vI (-2))) h1))))) : WP D ad ca sc M_MW_tilt 0 [(0, .ref (ad 0)), (1, vI v1)] [] h Q := by
  refine P_iload_n 1 d_MW_tilt_0 rfl rfl ?_
  refine P_sipush d_MW_tilt_1 (by decide) ?_
  refine P_sipush d_MW_tilt_4 (by decide) ?_
  refine V_MW_isWithin tw_281 d_MW_tilt_7 (by decide) (Nat.le_of_ble_eq_true rfl) hF (fun r2 h1 i3 hF => ?_)
  refine P_if_ne 16 d_MW_tilt_10 (by decide) i3 (fun c => ?_) (fun c => ?_)
  · have hF := hF.1 c
    refine P_aload_n 0 d_MW_tilt_16 rfl rfl ?_
    refine G_MW_readings tw_199 d_MW_tilt_17 ?_
    refine G_RE_tilts tw_88 d_MW_tilt_20 ?_
    refine P_aload_n 0 d_MW_tilt_23 rfl rfl ?_
    refine G_MW_today tw_203 d_MW_tilt_24 (fun i4 => ?_)
    refine P_iload_n 1 d_MW_tilt_27 rfl rfl ?_
    obtain ⟨b5, hF⟩ := hF
    refine T_8 d_MW_tilt_28 b5 g1 ?_
    refine P_iconst d_MW_tilt_29 ?_
    exact P_iret d_MW_tilt_30 rfl hF
  · have hF := hF.2 c
    refine P_bipush d_MW_tilt_13 (by decide) ?_
    exact P_iret d_MW_tilt_15 rfl hF
theorem F_MW_gas_0 (v1 : Int) (g1 : InR v1) (hF : WP D ad ca none M_MW_isWithin 0 [(0, vI v1), (1, vI 0), (2, vI 10000)] [] h (RI (fun r2 h1 => ((¬ r2 = 0 → (0 ≤ (h1 0 5) ∧ (h1 0 5) < 1000) ∧ Q (some (vI 1)) (up h1 9 (h1 0 5) v1)) ∧ (r2 = 0 → Q (some (vI (-2))) h1))))) : WP D ad ca sc M_MW_gas 0 [(0, .ref (ad 0)), (1, vI v1)] [] h Q := by
  refine P_iload_n 1 d_MW_gas_0 rfl rfl ?_
  refine P_iconst d_MW_gas_1 ?_
  refine P_sipush d_MW_gas_2 (by decide) ?_
  refine V_MW_isWithin tw_281 d_MW_gas_5 (by decide) (Nat.le_of_ble_eq_true rfl) hF (fun r2 h1 i3 hF => ?_)
  refine P_if_ne 14 d_MW_gas_8 (by decide) i3 (fun c => ?_) (fun c => ?_)
  · have hF := hF.1 c
    refine P_aload_n 0 d_MW_gas_14 rfl rfl ?_
    refine G_MW_readings tw_199 d_MW_gas_15 ?_
    refine G_RE_gases tw_90 d_MW_gas_18 ?_
    refine P_aload_n 0 d_MW_gas_21 rfl rfl ?_
    refine G_MW_today tw_203 d_MW_gas_22 (fun i4 => ?_)
    refine P_iload_n 1 d_MW_gas_25 rfl rfl ?_
    obtain ⟨b5, hF⟩ := hF
    refine T_9 d_MW_gas_26 b5 g1 ?_
    refine P_iconst d_MW_gas_27 ?_
    exact P_iret d_MW_gas_28 rfl hF
  · have hF := hF.2 c
    refine P_bipush d_MW_gas_11 (by decide) ?_
    exact P_iret d_MW_gas_13 rfl hF
theorem F_MW_tiltAt_0 (v1 : Int) (g1 : InR v1) (hF : WP D ad ca none M_MW_isDay 0 [(0, .ref (ad 0)), (1, vI v1)] [] h (RI (fun r2 h1 => ((r2 = 0 → Q (some (vI (-1000001))) h1) ∧ (¬ r2 = 0 → (0 ≤ v1 ∧ v1 < 1000) ∧ Q (some (vI (h1 8 v1))) h1))))) : WP D ad ca sc M_MW_tiltAt 0 [(0, .ref (ad 0)), (1, vI v1)] [] h Q := by
  refine P_aload_n 0 d_MW_tiltAt_0 rfl rfl ?_
  refine P_iload_n 1 d_MW_tiltAt_1 rfl rfl ?_
  refine V_MW_isDay tw_333 d_MW_tiltAt_2 (by decide) (Nat.le_of_ble_eq_true rfl) hF (fun r2 h1 i3 hF => ?_)
  refine P_if_eq 20 d_MW_tiltAt_5 (by decide) i3 (fun c => ?_) (fun c => ?_)
  · have hF := hF.1 c
    refine P_ldc (n := (-1000001)) tw_337 (by decide) d_MW_tiltAt_20 ?_
    exact P_iret d_MW_tiltAt_22 rfl hF
  · have hF := hF.2 c
    refine P_aload_n 0 d_MW_tiltAt_8 rfl rfl ?_
    refine G_MW_readings tw_199 d_MW_tiltAt_9 ?_
    refine G_RE_tilts tw_88 d_MW_tiltAt_12 ?_
    refine P_iload_n 1 d_MW_tiltAt_15 rfl rfl ?_
    obtain ⟨b4, hF⟩ := hF
    refine L_8 d_MW_tiltAt_16 b4 (fun i5 => ?_)
    refine P_goto 22 d_MW_tiltAt_17 (by decide) ?_
    exact P_iret d_MW_tiltAt_22 rfl hF
theorem F_MW_gasOf_0 (v1 : Int) (g1 : InR v1) (hF : WP D ad ca none M_MW_isDay 0 [(0, .ref (ad 0)), (1, vI v1)] [] h (RI (fun r2 h1 => ((r2 = 0 → Q (some (vI (-1))) h1) ∧ (¬ r2 = 0 → (0 ≤ v1 ∧ v1 < 1000) ∧ Q (some (vI (h1 9 v1))) h1))))) : WP D ad ca sc M_MW_gasOf 0 [(0, .ref (ad 0)), (1, vI v1)] [] h Q := by
  refine P_aload_n 0 d_MW_gasOf_0 rfl rfl ?_
  refine P_iload_n 1 d_MW_gasOf_1 rfl rfl ?_
  refine V_MW_isDay tw_333 d_MW_gasOf_2 (by decide) (Nat.le_of_ble_eq_true rfl) hF (fun r2 h1 i3 hF => ?_)
  refine P_if_eq 20 d_MW_gasOf_5 (by decide) i3 (fun c => ?_) (fun c => ?_)
  · have hF := hF.1 c
    refine P_iconst d_MW_gasOf_20 ?_
    exact P_iret d_MW_gasOf_21 rfl hF
  · have hF := hF.2 c
    refine P_aload_n 0 d_MW_gasOf_8 rfl rfl ?_
    refine G_MW_readings tw_199 d_MW_gasOf_9 ?_
    refine G_RE_gases tw_90 d_MW_gasOf_12 ?_
    refine P_iload_n 1 d_MW_gasOf_15 rfl rfl ?_
    obtain ⟨b4, hF⟩ := hF
    refine L_9 d_MW_gasOf_16 b4 (fun i5 => ?_)
    refine P_goto 21 d_MW_gasOf_17 (by decide) ?_
    exact P_iret d_MW_gasOf_21 rfl hF
theorem F_MW_law_0 (v1 v2 v3 v4 : Int) (g1 : InR v1) (g2 : InR v2) (g3 : InR v3) (g4 : InR v4) (hF : WP D ad ca none M_MW_isLawLevel 0 [(0, vI v1)] [] h (RI (fun r2 h1 => ((r2 = 0 → Q (some (vI (-2))) h1) ∧ (¬ r2 = 0 → WP D ad ca none M_MW_isWithin 0 [(0, vI v2), (1, vI 0), (2, vI 6)] [] h1 (RI (fun r5 h4 => ((r5 = 0 → Q (some (vI (-2))) h4) ∧ (¬ r5 = 0 → WP D ad ca none M_MW_isWithin 0 [(0, vI v3), (1, vI 1), (2, vI 10000)] [] h4 (RI (fun r8 h7 => ((r8 = 0 → Q (some (vI (-2))) h7) ∧ (¬ r8 = 0 → WP D ad ca none M_MW_isWithin 0 [(0, vI v4), (1, vI 1), (2, vI 30)] [] h7 (RI (fun r11 h10 => ((¬ r11 = 0 → (((h10 10 4) < 8 → WP D ad ca none M_LA_add 0 [(0, .ref (ad 10)), (1, vI v1), (2, vI v2), (3, vI v3), (4, vI v4)] [] h10 (RI (fun r15 h14 => Q (some (vI r15)) h14))) ∧ (8 ≤ (h10 10 4) → Q (some (vI (-4))) h10))) ∧ (r11 = 0 → Q (some (vI (-2))) h10))))))))))))))))) : WP D ad ca sc M_MW_law 0 [(0, .ref (ad 0)), (1, vI v1), (2, vI v2), (3, vI v3), (4, vI v4)] [] h Q := by
  refine P_iload_n 1 d_MW_law_0 rfl rfl ?_
  refine V_MW_isLawLevel tw_346 d_MW_law_1 (by decide) (Nat.le_of_ble_eq_true rfl) hF (fun r2 h1 i3 hF => ?_)
  refine P_if_eq 39 d_MW_law_4 (by decide) i3 (fun c => ?_) (fun c => ?_)
  · have hF := hF.1 c
    refine P_bipush d_MW_law_39 (by decide) ?_
    exact P_iret d_MW_law_41 rfl hF
  · have hF := hF.2 c
    refine P_iload_n 2 d_MW_law_7 rfl rfl ?_
    refine P_iconst d_MW_law_8 ?_
    refine P_bipush d_MW_law_9 (by decide) ?_
    refine V_MW_isWithin tw_281 d_MW_law_11 (by decide) (Nat.le_of_ble_eq_true rfl) hF (fun r5 h4 i6 hF => ?_)
    refine P_if_eq 39 d_MW_law_14 (by decide) i6 (fun c => ?_) (fun c => ?_)
    · have hF := hF.1 c
      refine P_bipush d_MW_law_39 (by decide) ?_
      exact P_iret d_MW_law_41 rfl hF
    · have hF := hF.2 c
      refine P_iload_n 3 d_MW_law_17 rfl rfl ?_
      refine P_iconst d_MW_law_18 ?_
      refine P_sipush d_MW_law_19 (by decide) ?_
      refine V_MW_isWithin tw_281 d_MW_law_22 (by decide) (Nat.le_of_ble_eq_true rfl) hF (fun r8 h7 i9 hF => ?_)
      refine P_if_eq 39 d_MW_law_25 (by decide) i9 (fun c => ?_) (fun c => ?_)
      · have hF := hF.1 c
        refine P_bipush d_MW_law_39 (by decide) ?_
        exact P_iret d_MW_law_41 rfl hF
      · have hF := hF.2 c
        refine P_iload 4 d_MW_law_28 rfl ?_
        refine P_iconst d_MW_law_30 ?_
        refine P_bipush d_MW_law_31 (by decide) ?_
        refine V_MW_isWithin tw_281 d_MW_law_33 (by decide) (Nat.le_of_ble_eq_true rfl) hF (fun r11 h10 i12 hF => ?_)
        refine P_if_ne 42 d_MW_law_36 (by decide) i12 (fun c => ?_) (fun c => ?_)
        · have hF := hF.1 c
          refine P_aload_n 0 d_MW_law_42 rfl rfl ?_
          refine G_MW_laws tw_200 d_MW_law_43 ?_
          refine G_LA_count tw_111 d_MW_law_46 (fun i13 => ?_)
          refine P_bipush d_MW_law_49 (by decide) ?_
          refine P_icmp_lt 57 d_MW_law_51 (by decide) i13 ⟨by decide, by decide⟩ (fun c => ?_) (fun c => ?_)
          · have hF := hF.1 c
            refine P_aload_n 0 d_MW_law_57 rfl rfl ?_
            refine G_MW_laws tw_200 d_MW_law_58 ?_
            refine P_iload_n 1 d_MW_law_61 rfl rfl ?_
            refine P_iload_n 2 d_MW_law_62 rfl rfl ?_
            refine P_iload_n 3 d_MW_law_63 rfl rfl ?_
            refine P_iload 4 d_MW_law_64 rfl ?_
            refine V_LA_add tw_349 d_MW_law_66 (by decide) (Nat.le_of_ble_eq_true rfl) hF (fun r15 h14 i16 hF => ?_)
            exact P_iret d_MW_law_69 rfl hF
          · have hF := hF.2 (Int.not_lt.mp c)
            refine P_bipush d_MW_law_54 (by decide) ?_
            exact P_iret d_MW_law_56 rfl hF
        · have hF := hF.2 c
          refine P_bipush d_MW_law_39 (by decide) ?_
          exact P_iret d_MW_law_41 rfl hF
theorem F_MW_change_0 (v1 v2 v3 : Int) (g1 : InR v1) (g2 : InR v2) (g3 : InR v3) (hF : WP D ad ca none M_LA_has 0 [(0, .ref (ad 10)), (1, vI v1)] [] h (RI (fun r2 h1 => ((¬ r2 = 0 → WP D ad ca none M_MW_isLawLevel 0 [(0, vI v2)] [] h1 (RI (fun r5 h4 => ((r5 = 0 → Q (some (vI (-2))) h4) ∧ (¬ r5 = 0 → WP D ad ca none M_MW_isWithin 0 [(0, vI v3), (1, vI 1), (2, vI 10000)] [] h4 (RI (fun r8 h7 => ((¬ r8 = 0 → (0 ≤ v1 ∧ v1 < 8) ∧ (0 ≤ v1 ∧ v1 < 8) ∧ Q (some (vI 1)) (up (up h7 11 v1 v2) 13 v1 v3)) ∧ (r8 = 0 → Q (some (vI (-2))) h7))))))))) ∧ (r2 = 0 → Q (some (vI (-1))) h1))))) : WP D ad ca sc M_MW_change 0 [(0, .ref (ad 0)), (1, vI v1), (2, vI v2), (3, vI v3)] [] h Q := by
  refine P_aload_n 0 d_MW_change_0 rfl rfl ?_
  refine G_MW_laws tw_200 d_MW_change_1 ?_
  refine P_iload_n 1 d_MW_change_4 rfl rfl ?_
  refine V_LA_has tw_357 d_MW_change_5 (by decide) (Nat.le_of_ble_eq_true rfl) hF (fun r2 h1 i3 hF => ?_)
  refine P_if_ne 13 d_MW_change_8 (by decide) i3 (fun c => ?_) (fun c => ?_)
  · have hF := hF.1 c
    refine P_iload_n 2 d_MW_change_13 rfl rfl ?_
    refine V_MW_isLawLevel tw_346 d_MW_change_14 (by decide) (Nat.le_of_ble_eq_true rfl) hF (fun r5 h4 i6 hF => ?_)
    refine P_if_eq 31 d_MW_change_17 (by decide) i6 (fun c => ?_) (fun c => ?_)
    · have hF := hF.1 c
      refine P_bipush d_MW_change_31 (by decide) ?_
      exact P_iret d_MW_change_33 rfl hF
    · have hF := hF.2 c
      refine P_iload_n 3 d_MW_change_20 rfl rfl ?_
      refine P_iconst d_MW_change_21 ?_
      refine P_sipush d_MW_change_22 (by decide) ?_
      refine V_MW_isWithin tw_281 d_MW_change_25 (by decide) (Nat.le_of_ble_eq_true rfl) hF (fun r8 h7 i9 hF => ?_)
      refine P_if_ne 34 d_MW_change_28 (by decide) i9 (fun c => ?_) (fun c => ?_)
      · have hF := hF.1 c
        refine P_aload_n 0 d_MW_change_34 rfl rfl ?_
        refine G_MW_laws tw_200 d_MW_change_35 ?_
        refine G_LA_levels tw_103 d_MW_change_38 ?_
        refine P_iload_n 1 d_MW_change_41 rfl rfl ?_
        refine P_iload_n 2 d_MW_change_42 rfl rfl ?_
        obtain ⟨b10, hF⟩ := hF
        refine T_11 d_MW_change_43 b10 g2 ?_
        refine P_aload_n 0 d_MW_change_44 rfl rfl ?_
        refine G_MW_laws tw_200 d_MW_change_45 ?_
        refine G_LA_numbers tw_107 d_MW_change_48 ?_
        refine P_iload_n 1 d_MW_change_51 rfl rfl ?_
        refine P_iload_n 3 d_MW_change_52 rfl rfl ?_
        obtain ⟨b11, hF⟩ := hF
        refine T_13 d_MW_change_53 b11 g3 ?_
        refine P_iconst d_MW_change_54 ?_
        exact P_iret d_MW_change_55 rfl hF
      · have hF := hF.2 c
        refine P_bipush d_MW_change_31 (by decide) ?_
        exact P_iret d_MW_change_33 rfl hF
  · have hF := hF.2 c
    refine P_iconst d_MW_change_11 ?_
    exact P_iret d_MW_change_12 rfl hF
theorem F_MW_measure_0 (v1 v2 : Int) (g1 : InR v1) (g2 : InR v2) (hF : WP D ad ca none M_LA_has 0 [(0, .ref (ad 10)), (1, vI v1)] [] h (RI (fun r2 h1 => ((r2 = 0 → Q (some (vI (-1))) h1) ∧ (¬ r2 = 0 → WP D ad ca none M_MW_isDay 0 [(0, .ref (ad 0)), (1, vI v2)] [] h1 (RI (fun r5 h4 => ((r5 = 0 → Q (some (vI (-1))) h4) ∧ (¬ r5 = 0 → WP D ad ca none M_MW_measured 0 [(0, .ref (ad 0)), (1, vI v1), (2, vI v2)] [] h4 (RI (fun r8 h7 => Q (some (vI r8)) h7))))))))))) : WP D ad ca sc M_MW_measure 0 [(0, .ref (ad 0)), (1, vI v1), (2, vI v2)] [] h Q := by
  refine P_aload_n 0 d_MW_measure_0 rfl rfl ?_
  refine G_MW_laws tw_200 d_MW_measure_1 ?_
  refine P_iload_n 1 d_MW_measure_4 rfl rfl ?_
  refine V_LA_has tw_357 d_MW_measure_5 (by decide) (Nat.le_of_ble_eq_true rfl) hF (fun r2 h1 i3 hF => ?_)
  refine P_if_eq 28 d_MW_measure_8 (by decide) i3 (fun c => ?_) (fun c => ?_)
  · have hF := hF.1 c
    refine P_iconst d_MW_measure_28 ?_
    exact P_iret d_MW_measure_29 rfl hF
  · have hF := hF.2 c
    refine P_aload_n 0 d_MW_measure_11 rfl rfl ?_
    refine P_iload_n 2 d_MW_measure_12 rfl rfl ?_
    refine V_MW_isDay tw_333 d_MW_measure_13 (by decide) (Nat.le_of_ble_eq_true rfl) hF (fun r5 h4 i6 hF => ?_)
    refine P_if_eq 28 d_MW_measure_16 (by decide) i6 (fun c => ?_) (fun c => ?_)
    · have hF := hF.1 c
      refine P_iconst d_MW_measure_28 ?_
      exact P_iret d_MW_measure_29 rfl hF
    · have hF := hF.2 c
      refine P_aload_n 0 d_MW_measure_19 rfl rfl ?_
      refine P_iload_n 1 d_MW_measure_20 rfl rfl ?_
      refine P_iload_n 2 d_MW_measure_21 rfl rfl ?_
      refine V_MW_measured tw_365 d_MW_measure_22 (by decide) (Nat.le_of_ble_eq_true rfl) hF (fun r8 h7 i9 hF => ?_)
      refine P_goto 29 d_MW_measure_25 (by decide) ?_
      exact P_iret d_MW_measure_29 rfl hF
theorem F_MW_isTrue_0 (v1 v2 : Int) (g1 : InR v1) (g2 : InR v2) (hF : WP D ad ca none M_LA_has 0 [(0, .ref (ad 10)), (1, vI v1)] [] h (RI (fun r2 h1 => ((r2 = 0 → Q (some (vI (-1))) h1) ∧ (¬ r2 = 0 → WP D ad ca none M_MW_isDay 0 [(0, .ref (ad 0)), (1, vI v2)] [] h1 (RI (fun r5 h4 => ((r5 = 0 → Q (some (vI (-1))) h4) ∧ (¬ r5 = 0 → WP D ad ca none M_MW_holdsTrue 0 [(0, .ref (ad 0)), (1, vI v1), (2, vI v2)] [] h4 (RI (fun r8 h7 => WP D ad ca none M_MW_oneIf 0 [(0, vI r8)] [] h7 (RI (fun r11 h10 => Q (some (vI r11)) h10))))))))))))) : WP D ad ca sc M_MW_isTrue 0 [(0, .ref (ad 0)), (1, vI v1), (2, vI v2)] [] h Q := by
  refine P_aload_n 0 d_MW_isTrue_0 rfl rfl ?_
  refine G_MW_laws tw_200 d_MW_isTrue_1 ?_
  refine P_iload_n 1 d_MW_isTrue_4 rfl rfl ?_
  refine V_LA_has tw_357 d_MW_isTrue_5 (by decide) (Nat.le_of_ble_eq_true rfl) hF (fun r2 h1 i3 hF => ?_)
  refine P_if_eq 31 d_MW_isTrue_8 (by decide) i3 (fun c => ?_) (fun c => ?_)
  · have hF := hF.1 c
    refine P_iconst d_MW_isTrue_31 ?_
    exact P_iret d_MW_isTrue_32 rfl hF
  · have hF := hF.2 c
    refine P_aload_n 0 d_MW_isTrue_11 rfl rfl ?_
    refine P_iload_n 2 d_MW_isTrue_12 rfl rfl ?_
    refine V_MW_isDay tw_333 d_MW_isTrue_13 (by decide) (Nat.le_of_ble_eq_true rfl) hF (fun r5 h4 i6 hF => ?_)
    refine P_if_eq 31 d_MW_isTrue_16 (by decide) i6 (fun c => ?_) (fun c => ?_)
    · have hF := hF.1 c
      refine P_iconst d_MW_isTrue_31 ?_
      exact P_iret d_MW_isTrue_32 rfl hF
    · have hF := hF.2 c
      refine P_aload_n 0 d_MW_isTrue_19 rfl rfl ?_
      refine P_iload_n 1 d_MW_isTrue_20 rfl rfl ?_
      refine P_iload_n 2 d_MW_isTrue_21 rfl rfl ?_
      refine V_MW_holdsTrue tw_404 d_MW_isTrue_22 (by decide) (Nat.le_of_ble_eq_true rfl) hF (fun r8 h7 i9 hF => ?_)
      refine V_MW_oneIf tw_290 d_MW_isTrue_25 (by decide) (Nat.le_of_ble_eq_true rfl) hF (fun r11 h10 i12 hF => ?_)
      refine P_goto 32 d_MW_isTrue_28 (by decide) ?_
      exact P_iret d_MW_isTrue_32 rfl hF
theorem F_MW_rest_0 (v1 : Int) (g1 : InR v1) (hF : WP D ad ca none M_MW_isWithin 0 [(0, vI v1), (1, vI 1), (2, vI 30)] [] h (RI (fun r2 h1 => ((¬ r2 = 0 → Q (some (vI (h1 0 8))) (up h1 0 8 v1)) ∧ (r2 = 0 → Q (some (vI (-2))) h1))))) : WP D ad ca sc M_MW_rest 0 [(0, .ref (ad 0)), (1, vI v1)] [] h Q := by
  refine P_iload_n 1 d_MW_rest_0 rfl rfl ?_
  refine P_iconst d_MW_rest_1 ?_
  refine P_bipush d_MW_rest_2 (by decide) ?_
  refine V_MW_isWithin tw_281 d_MW_rest_4 (by decide) (Nat.le_of_ble_eq_true rfl) hF (fun r2 h1 i3 hF => ?_)
  refine P_if_ne 13 d_MW_rest_7 (by decide) i3 (fun c => ?_) (fun c => ?_)
  · have hF := hF.1 c
    refine P_aload_n 0 d_MW_rest_13 rfl rfl ?_
    refine G_MW_restDays tw_206 d_MW_rest_14 (fun i4 => ?_)
    refine P_istore_n (lv' := [(0, .ref (ad 0)), (1, vI v1), (2, vI (h1 0 8))]) [1, 2, 0] d_MW_rest_17 rfl (by decide) rfl ?_
    refine P_aload_n 0 d_MW_rest_18 rfl rfl ?_
    refine P_iload_n 1 d_MW_rest_19 rfl rfl ?_
    refine S_MW_restDays tw_206 d_MW_rest_20 g1 ?_
    refine P_iload_n 2 d_MW_rest_23 rfl rfl ?_
    exact P_iret d_MW_rest_24 rfl hF
  · have hF := hF.2 c
    refine P_bipush d_MW_rest_10 (by decide) ?_
    exact P_iret d_MW_rest_12 rfl hF
theorem F_MW_next_0  (hF : (((h 0 5) < 999 → WP D ad ca none M_MW_endToday 0 [(0, .ref (ad 0))] [] h (RV (fun h2 => (InR ((h2 0 5) + 1)) ∧ WP D ad ca none M_RE_carryTiltTo 0 [(0, .ref (ad 7)), (1, vI ((h2 0 5) + 1))] [] (up h2 0 5 ((h2 0 5) + 1)) (RV (fun h6 => Q (some (vI (h6 0 6))) h6))))) ∧ (999 ≤ (h 0 5) → Q (some (vI (-3))) h))) : WP D ad ca sc M_MW_next 0 [(0, .ref (ad 0))] [] h Q := by
  refine P_aload_n 0 d_MW_next_0 rfl rfl ?_
  refine G_MW_today tw_203 d_MW_next_1 (fun i1 => ?_)
  refine P_sipush d_MW_next_4 (by decide) ?_
  refine P_icmp_lt 13 d_MW_next_7 (by decide) i1 ⟨by decide, by decide⟩ (fun c => ?_) (fun c => ?_)
  · have hF := hF.1 c
    refine P_aload_n 0 d_MW_next_13 rfl rfl ?_
    refine V_MW_endToday tw_416 d_MW_next_14 (by decide) (Nat.le_of_ble_eq_true rfl) hF (fun h2 hF => ?_)
    refine P_aload_n 0 d_MW_next_17 rfl rfl ?_
    refine P_dup d_MW_next_18 rfl ?_
    refine G_MW_today tw_203 d_MW_next_19 (fun i3 => ?_)
    refine P_iconst d_MW_next_22 ?_
    refine P_iadd d_MW_next_23 ?_
    obtain ⟨b4, hF⟩ := hF
    refine S_MW_today tw_203 d_MW_next_24 b4 ?_
    refine P_aload_n 0 d_MW_next_27 rfl rfl ?_
    refine G_MW_readings tw_199 d_MW_next_28 ?_
    refine P_aload_n 0 d_MW_next_31 rfl rfl ?_
    refine G_MW_today tw_203 d_MW_next_32 (fun i5 => ?_)
    refine V_RE_carryTiltTo tw_451 d_MW_next_35 (by decide) (Nat.le_of_ble_eq_true rfl) hF (fun h6 hF => ?_)
    refine P_aload_n 0 d_MW_next_38 rfl rfl ?_
    refine G_MW_level tw_204 d_MW_next_39 (fun i7 => ?_)
    exact P_iret d_MW_next_42 rfl hF
  · have hF := hF.2 (Int.not_lt.mp c)
    refine P_bipush d_MW_next_10 (by decide) ?_
    exact P_iret d_MW_next_12 rfl hF
theorem F_MW_hold_0 (v1 v2 : Int) (g1 : InR v1) (g2 : InR v2) (hF : WP D ad ca none M_MW_isLawLevel 0 [(0, vI v1)] [] h (RI (fun r2 h1 => ((r2 = 0 → Q (some (vI (-2))) h1) ∧ (¬ r2 = 0 → WP D ad ca none M_MW_isWithin 0 [(0, vI v2), (1, vI 1), (2, vI 100)] [] h1 (RI (fun r5 h4 => ((¬ r5 = 0 → (InR ((h4 0 5) + v2)) ∧ Q (some (vI ((h4 0 5) + v2))) (up (up h4 0 9 v1) 0 10 ((h4 0 5) + v2))) ∧ (r5 = 0 → Q (some (vI (-2))) h4))))))))) : WP D ad ca sc M_MW_hold 0 [(0, .ref (ad 0)), (1, vI v1), (2, vI v2)] [] h Q := by
  refine P_iload_n 1 d_MW_hold_0 rfl rfl ?_
  refine V_MW_isLawLevel tw_346 d_MW_hold_1 (by decide) (Nat.le_of_ble_eq_true rfl) hF (fun r2 h1 i3 hF => ?_)
  refine P_if_eq 17 d_MW_hold_4 (by decide) i3 (fun c => ?_) (fun c => ?_)
  · have hF := hF.1 c
    refine P_bipush d_MW_hold_17 (by decide) ?_
    exact P_iret d_MW_hold_19 rfl hF
  · have hF := hF.2 c
    refine P_iload_n 2 d_MW_hold_7 rfl rfl ?_
    refine P_iconst d_MW_hold_8 ?_
    refine P_bipush d_MW_hold_9 (by decide) ?_
    refine V_MW_isWithin tw_281 d_MW_hold_11 (by decide) (Nat.le_of_ble_eq_true rfl) hF (fun r5 h4 i6 hF => ?_)
    refine P_if_ne 20 d_MW_hold_14 (by decide) i6 (fun c => ?_) (fun c => ?_)
    · have hF := hF.1 c
      refine P_aload_n 0 d_MW_hold_20 rfl rfl ?_
      refine P_iload_n 1 d_MW_hold_21 rfl rfl ?_
      refine S_MW_holdLevel tw_207 d_MW_hold_22 g1 ?_
      refine P_aload_n 0 d_MW_hold_25 rfl rfl ?_
      refine P_aload_n 0 d_MW_hold_26 rfl rfl ?_
      refine G_MW_today tw_203 d_MW_hold_27 (fun i7 => ?_)
      refine P_iload_n 2 d_MW_hold_30 rfl rfl ?_
      refine P_iadd d_MW_hold_31 ?_
      obtain ⟨b8, hF⟩ := hF
      refine S_MW_holdEnd tw_208 d_MW_hold_32 b8 ?_
      refine P_aload_n 0 d_MW_hold_35 rfl rfl ?_
      refine G_MW_holdEnd tw_208 d_MW_hold_36 (fun i9 => ?_)
      exact P_iret d_MW_hold_39 rfl hF
    · have hF := hF.2 c
      refine P_bipush d_MW_hold_17 (by decide) ?_
      exact P_iret d_MW_hold_19 rfl hF
theorem F_MW_release_0  (hF : WP D ad ca none M_MW_heldToday 0 [(0, .ref (ad 0))] [] h (RI (fun r2 h1 => Q (some (vI r2)) (up h1 0 9 0)))) : WP D ad ca sc M_MW_release 0 [(0, .ref (ad 0))] [] h Q := by
  refine P_aload_n 0 d_MW_release_0 rfl rfl ?_
  refine V_MW_heldToday tw_424 d_MW_release_1 (by decide) (Nat.le_of_ble_eq_true rfl) hF (fun r2 h1 i3 hF => ?_)
  refine P_istore_n (lv' := [(0, .ref (ad 0)), (1, vI r2)]) [1, 0] d_MW_release_4 rfl (by decide) rfl ?_
  refine P_aload_n 0 d_MW_release_5 rfl rfl ?_
  refine P_iconst d_MW_release_6 ?_
  refine S_MW_holdLevel tw_207 d_MW_release_7 ⟨by decide, by decide⟩ ?_
  refine P_iload_n 1 d_MW_release_10 rfl rfl ?_
  exact P_iret d_MW_release_11 rfl hF
theorem F_MW_word_0 (v1 : Int) (g1 : InR v1) (hF : WP D ad ca none M_MW_isLevel 0 [(0, vI v1)] [] h (RI (fun r2 h1 => ((r2 = 0 → Q (some (vI (-2))) h1) ∧ (¬ r2 = 0 → WP D ad ca none M_MW_setLevel 0 [(0, .ref (ad 0)), (1, vI v1), (2, vI 22)] [] h1 (RI (fun r5 h4 => Q (some (vI r5)) h4))))))) : WP D ad ca sc M_MW_word 0 [(0, .ref (ad 0)), (1, vI v1)] [] h Q := by
  refine P_iload_n 1 d_MW_word_0 rfl rfl ?_
  refine V_MW_isLevel tw_467 d_MW_word_1 (by decide) (Nat.le_of_ble_eq_true rfl) hF (fun r2 h1 i3 hF => ?_)
  refine P_if_eq 17 d_MW_word_4 (by decide) i3 (fun c => ?_) (fun c => ?_)
  · have hF := hF.1 c
    refine P_bipush d_MW_word_17 (by decide) ?_
    exact P_iret d_MW_word_19 rfl hF
  · have hF := hF.2 c
    refine P_aload_n 0 d_MW_word_7 rfl rfl ?_
    refine P_iload_n 1 d_MW_word_8 rfl rfl ?_
    refine P_bipush d_MW_word_9 (by decide) ?_
    refine V_MW_setLevel tw_432 d_MW_word_11 (by decide) (Nat.le_of_ble_eq_true rfl) hF (fun r5 h4 i6 hF => ?_)
    refine P_goto 19 d_MW_word_14 (by decide) ?_
    exact P_iret d_MW_word_19 rfl hF
theorem F_MW_drill_0 (v1 : Int) (g1 : InR v1) (hF : WP D ad ca none M_MW_isLevel 0 [(0, vI v1)] [] h (RI (fun r2 h1 => ((¬ r2 = 0 → WP D ad ca none M_ME_add 0 [(0, .ref (ad 15)), (1, vI 1), (2, vI (h1 0 5)), (3, vI v1), (4, vI 23)] [] (up h1 0 11 v1) (RI (fun r6 h5 => Q (some (vI r6)) h5))) ∧ (r2 = 0 → Q (some (vI (-2))) h1))))) : WP D ad ca sc M_MW_drill 0 [(0, .ref (ad 0)), (1, vI v1)] [] h Q := by
  refine P_iload_n 1 d_MW_drill_0 rfl rfl ?_
  refine V_MW_isLevel tw_467 d_MW_drill_1 (by decide) (Nat.le_of_ble_eq_true rfl) hF (fun r2 h1 i3 hF => ?_)
  refine P_if_ne 10 d_MW_drill_4 (by decide) i3 (fun c => ?_) (fun c => ?_)
  · have hF := hF.1 c
    refine P_aload_n 0 d_MW_drill_10 rfl rfl ?_
    refine P_iload_n 1 d_MW_drill_11 rfl rfl ?_
    refine S_MW_drillLevel tw_209 d_MW_drill_12 g1 ?_
    refine P_aload_n 0 d_MW_drill_15 rfl rfl ?_
    refine G_MW_messages tw_201 d_MW_drill_16 ?_
    refine P_iconst d_MW_drill_19 ?_
    refine P_aload_n 0 d_MW_drill_20 rfl rfl ?_
    refine G_MW_today tw_203 d_MW_drill_21 (fun i4 => ?_)
    refine P_iload_n 1 d_MW_drill_24 rfl rfl ?_
    refine P_bipush d_MW_drill_25 (by decide) ?_
    refine V_ME_add tw_436 d_MW_drill_27 (by decide) (Nat.le_of_ble_eq_true rfl) hF (fun r6 h5 i7 hF => ?_)
    exact P_iret d_MW_drill_30 rfl hF
  · have hF := hF.2 c
    refine P_bipush d_MW_drill_7 (by decide) ?_
    exact P_iret d_MW_drill_9 rfl hF
theorem F_MW_message_0 (v1 v2 v3 : Int) (g1 : InR v1) (g2 : InR v2) (g3 : InR v3) (hF : WP D ad ca none M_ME_isKept 0 [(0, .ref (ad 15)), (1, vI v1), (2, vI v2)] [] h (RI (fun r2 h1 => ((¬ r2 = 0 → WP D ad ca none M_ME_place 0 [(0, vI v1), (1, vI v2)] [] h1 (RI (fun r5 h4 => ((v3 = 0 → (0 ≤ r5 ∧ r5 < 200) ∧ Q (some (vI (h4 16 r5))) h4) ∧ (v3 = 1 → (0 ≤ r5 ∧ r5 < 200) ∧ Q (some (vI (h4 17 r5))) h4) ∧ (v3 = 2 → (0 ≤ r5 ∧ r5 < 200) ∧ Q (some (vI (h4 18 r5))) h4) ∧ (v3 < 0 ∨ 2 < v3 → Q (some (vI (-2))) h4))))) ∧ (r2 = 0 → Q (some (vI (-1))) h1))))) : WP D ad ca sc M_MW_message 0 [(0, .ref (ad 0)), (1, vI v1), (2, vI v2), (3, vI v3)] [] h Q := by
  refine P_aload_n 0 d_MW_message_0 rfl rfl ?_
  refine G_MW_messages tw_201 d_MW_message_1 ?_
  refine P_iload_n 1 d_MW_message_4 rfl rfl ?_
  refine P_iload_n 2 d_MW_message_5 rfl rfl ?_
  refine V_ME_isKept tw_478 d_MW_message_6 (by decide) (Nat.le_of_ble_eq_true rfl) hF (fun r2 h1 i3 hF => ?_)
  refine P_if_ne 14 d_MW_message_9 (by decide) i3 (fun c => ?_) (fun c => ?_)
  · have hF := hF.1 c
    refine P_iload_n 1 d_MW_message_14 rfl rfl ?_
    refine P_iload_n 2 d_MW_message_15 rfl rfl ?_
    refine V_ME_place tw_482 d_MW_message_16 (by decide) (Nat.le_of_ble_eq_true rfl) hF (fun r5 h4 i6 hF => ?_)
    refine P_istore (lv' := [(0, .ref (ad 0)), (1, vI v1), (2, vI v2), (3, vI v3), (4, vI r5)]) [1, 2, 3, 4, 0] d_MW_message_19 (by decide) rfl ?_
    refine P_iload_n 3 d_MW_message_21 rfl rfl ?_
    by_cases c0 : v3 = 0
    · have hF := hF.1 c0
      refine P_tabIn 48 0 d_MW_message_22 c0 ⟨by decide, by decide⟩ (by decide) (by decide) rfl (by decide) ?_
      refine P_aload_n 0 d_MW_message_48 rfl rfl ?_
      refine G_MW_messages tw_201 d_MW_message_49 ?_
      refine G_ME_days tw_130 d_MW_message_52 ?_
      refine P_iload 4 d_MW_message_55 rfl ?_
      obtain ⟨b7, hF⟩ := hF
      refine L_16 d_MW_message_57 b7 (fun i8 => ?_)
      exact P_iret d_MW_message_58 rfl hF
    by_cases c1 : v3 = 1
    · have hF := hF.2.1 c1
      refine P_tabIn 59 1 d_MW_message_22 c1 ⟨by decide, by decide⟩ (by decide) (by decide) rfl (by decide) ?_
      refine P_aload_n 0 d_MW_message_59 rfl rfl ?_
      refine G_MW_messages tw_201 d_MW_message_60 ?_
      refine G_ME_levels tw_132 d_MW_message_63 ?_
      refine P_iload 4 d_MW_message_66 rfl ?_
      obtain ⟨b9, hF⟩ := hF
      refine L_17 d_MW_message_68 b9 (fun i10 => ?_)
      exact P_iret d_MW_message_69 rfl hF
    by_cases c2 : v3 = 2
    · have hF := hF.2.2.1 c2
      refine P_tabIn 70 2 d_MW_message_22 c2 ⟨by decide, by decide⟩ (by decide) (by decide) rfl (by decide) ?_
      refine P_aload_n 0 d_MW_message_70 rfl rfl ?_
      refine G_MW_messages tw_201 d_MW_message_71 ?_
      refine G_ME_reasons tw_134 d_MW_message_74 ?_
      refine P_iload 4 d_MW_message_77 rfl ?_
      obtain ⟨b11, hF⟩ := hF
      refine L_18 d_MW_message_79 b11 (fun i12 => ?_)
      exact P_iret d_MW_message_80 rfl hF
    have hF := hF.2.2.2 (by omega)
    refine P_tabOut 81 d_MW_message_22 g3 (by omega) (by decide) ?_
    refine P_bipush d_MW_message_81 (by decide) ?_
    exact P_iret d_MW_message_83 rfl hF
  · have hF := hF.2 c
    refine P_iconst d_MW_message_12 ?_
    exact P_iret d_MW_message_13 rfl hF
theorem F_MW_told_0 (v1 : Int) (g1 : InR v1) (hF : ((v1 = 0 → Q (some (vI (h 0 5))) h) ∧ (v1 = 1 → Q (some (vI (h 0 6))) h) ∧ (v1 = 2 → Q (some (vI (h 0 7))) h) ∧ (v1 = 3 → WP D ad ca none M_MW_wantedToday 0 [(0, .ref (ad 0))] [] h (RI (fun r5 h4 => Q (some (vI r5)) h4))) ∧ (v1 = 4 → Q (some (vI (h 15 3))) h) ∧ (v1 = 5 → Q (some (vI (h 15 4))) h) ∧ (v1 = 6 → WP D ad ca none M_MW_heldToday 0 [(0, .ref (ad 0))] [] h (RI (fun r10 h9 => Q (some (vI r10)) h9))) ∧ (v1 = 7 → Q (some (vI (h 1 5))) h) ∧ (v1 = 8 → Q (some (vI (h 10 4))) h) ∧ (v1 = 9 → Q (some (vI (h 19 8))) h) ∧ (v1 = 10 → Q (some (vI (h 0 11))) h) ∧ (v1 < 0 ∨ 10 < v1 → Q (some (vI (-2))) h))) : WP D ad ca sc M_MW_told 0 [(0, .ref (ad 0)), (1, vI v1)] [] h Q := by
  refine P_iload_n 1 d_MW_told_0 rfl rfl ?_
  by_cases c0 : v1 = 0
  · have hF := hF.1 c0
    refine P_tabIn 60 0 d_MW_told_1 c0 ⟨by decide, by decide⟩ (by decide) (by decide) rfl (by decide) ?_
    refine P_aload_n 0 d_MW_told_60 rfl rfl ?_
    refine G_MW_today tw_203 d_MW_told_61 (fun i1 => ?_)
    exact P_iret d_MW_told_64 rfl hF
  by_cases c1 : v1 = 1
  · have hF := hF.2.1 c1
    refine P_tabIn 65 1 d_MW_told_1 c1 ⟨by decide, by decide⟩ (by decide) (by decide) rfl (by decide) ?_
    refine P_aload_n 0 d_MW_told_65 rfl rfl ?_
    refine G_MW_level tw_204 d_MW_told_66 (fun i2 => ?_)
    exact P_iret d_MW_told_69 rfl hF
  by_cases c2 : v1 = 2
  · have hF := hF.2.2.1 c2
    refine P_tabIn 70 2 d_MW_told_1 c2 ⟨by decide, by decide⟩ (by decide) (by decide) rfl (by decide) ?_
    refine P_aload_n 0 d_MW_told_70 rfl rfl ?_
    refine G_MW_calm tw_205 d_MW_told_71 (fun i3 => ?_)
    exact P_iret d_MW_told_74 rfl hF
  by_cases c3 : v1 = 3
  · have hF := hF.2.2.2.1 c3
    refine P_tabIn 75 3 d_MW_told_1 c3 ⟨by decide, by decide⟩ (by decide) (by decide) rfl (by decide) ?_
    refine P_aload_n 0 d_MW_told_75 rfl rfl ?_
    refine V_MW_wantedToday tw_420 d_MW_told_76 (by decide) (Nat.le_of_ble_eq_true rfl) hF (fun r5 h4 i6 hF => ?_)
    exact P_iret d_MW_told_79 rfl hF
  by_cases c4 : v1 = 4
  · have hF := hF.2.2.2.2.1 c4
    refine P_tabIn 80 4 d_MW_told_1 c4 ⟨by decide, by decide⟩ (by decide) (by decide) rfl (by decide) ?_
    refine P_aload_n 0 d_MW_told_80 rfl rfl ?_
    refine G_MW_messages tw_201 d_MW_told_81 ?_
    refine G_ME_count tw_136 d_MW_told_84 (fun i7 => ?_)
    exact P_iret d_MW_told_87 rfl hF
  by_cases c5 : v1 = 5
  · have hF := hF.2.2.2.2.2.1 c5
    refine P_tabIn 88 5 d_MW_told_1 c5 ⟨by decide, by decide⟩ (by decide) (by decide) rfl (by decide) ?_
    refine P_aload_n 0 d_MW_told_88 rfl rfl ?_
    refine G_MW_messages tw_201 d_MW_told_89 ?_
    refine G_ME_drillCount tw_138 d_MW_told_92 (fun i8 => ?_)
    exact P_iret d_MW_told_95 rfl hF
  by_cases c6 : v1 = 6
  · have hF := hF.2.2.2.2.2.2.1 c6
    refine P_tabIn 96 6 d_MW_told_1 c6 ⟨by decide, by decide⟩ (by decide) (by decide) rfl (by decide) ?_
    refine P_aload_n 0 d_MW_told_96 rfl rfl ?_
    refine V_MW_heldToday tw_424 d_MW_told_97 (by decide) (Nat.le_of_ble_eq_true rfl) hF (fun r10 h9 i11 hF => ?_)
    exact P_iret d_MW_told_100 rfl hF
  by_cases c7 : v1 = 7
  · have hF := hF.2.2.2.2.2.2.2.1 c7
    refine P_tabIn 101 7 d_MW_told_1 c7 ⟨by decide, by decide⟩ (by decide) (by decide) rfl (by decide) ?_
    refine P_aload_n 0 d_MW_told_101 rfl rfl ?_
    refine G_MW_shakes tw_198 d_MW_told_102 ?_
    refine G_SH_count tw_61 d_MW_told_105 (fun i12 => ?_)
    exact P_iret d_MW_told_108 rfl hF
  by_cases c8 : v1 = 8
  · have hF := hF.2.2.2.2.2.2.2.2.1 c8
    refine P_tabIn 109 8 d_MW_told_1 c8 ⟨by decide, by decide⟩ (by decide) (by decide) rfl (by decide) ?_
    refine P_aload_n 0 d_MW_told_109 rfl rfl ?_
    refine G_MW_laws tw_200 d_MW_told_110 ?_
    refine G_LA_count tw_111 d_MW_told_113 (fun i13 => ?_)
    exact P_iret d_MW_told_116 rfl hF
  by_cases c9 : v1 = 9
  · have hF := hF.2.2.2.2.2.2.2.2.2.1 c9
    refine P_tabIn 117 9 d_MW_told_1 c9 ⟨by decide, by decide⟩ (by decide) (by decide) rfl (by decide) ?_
    refine P_aload_n 0 d_MW_told_117 rfl rfl ?_
    refine G_MW_tree tw_202 d_MW_told_118 ?_
    refine G_TR_count tw_177 d_MW_told_121 (fun i14 => ?_)
    exact P_iret d_MW_told_124 rfl hF
  by_cases c10 : v1 = 10
  · have hF := hF.2.2.2.2.2.2.2.2.2.2.1 c10
    refine P_tabIn 125 10 d_MW_told_1 c10 ⟨by decide, by decide⟩ (by decide) (by decide) rfl (by decide) ?_
    refine P_aload_n 0 d_MW_told_125 rfl rfl ?_
    refine G_MW_drillLevel tw_209 d_MW_told_126 (fun i15 => ?_)
    exact P_iret d_MW_told_129 rfl hF
  have hF := hF.2.2.2.2.2.2.2.2.2.2.2 (by omega)
  refine P_tabOut 130 d_MW_told_1 g1 (by omega) (by decide) ?_
  refine P_bipush d_MW_told_130 (by decide) ?_
  exact P_iret d_MW_told_132 rfl hF
theorem F_MW_node_0 (v1 v2 v3 : Int) (g1 : InR v1) (g2 : InR v2) (g3 : InR v3) (hF : WP D ad ca none M_TR_has 0 [(0, .ref (ad 19)), (1, vI v1)] [] h (RI (fun r2 h1 => ((¬ r2 = 0 → WP D ad ca none M_MW_areBounds 0 [(0, vI v2), (1, vI v3)] [] h1 (RI (fun r5 h4 => ((¬ r5 = 0 → (((h4 19 8) < 24 → WP D ad ca none M_TR_takesChild 0 [(0, .ref (ad 19)), (1, vI v1)] [] h4 (RI (fun r9 h8 => ((¬ r9 = 0 → WP D ad ca none M_TR_add 0 [(0, .ref (ad 19)), (1, vI v1), (2, vI v2), (3, vI v3)] [] h8 (RI (fun r12 h11 => Q (some (vI r12)) h11))) ∧ (r9 = 0 → Q (some (vI (-5))) h8))))) ∧ (24 ≤ (h4 19 8) → Q (some (vI (-4))) h4))) ∧ (r5 = 0 → Q (some (vI (-2))) h4))))) ∧ (r2 = 0 → Q (some (vI (-1))) h1))))) : WP D ad ca sc M_MW_node 0 [(0, .ref (ad 0)), (1, vI v1), (2, vI v2), (3, vI v3)] [] h Q := by
  refine P_aload_n 0 d_MW_node_0 rfl rfl ?_
  refine G_MW_tree tw_202 d_MW_node_1 ?_
  refine P_iload_n 1 d_MW_node_4 rfl rfl ?_
  refine V_TR_has tw_491 d_MW_node_5 (by decide) (Nat.le_of_ble_eq_true rfl) hF (fun r2 h1 i3 hF => ?_)
  refine P_if_ne 13 d_MW_node_8 (by decide) i3 (fun c => ?_) (fun c => ?_)
  · have hF := hF.1 c
    refine P_iload_n 2 d_MW_node_13 rfl rfl ?_
    refine P_iload_n 3 d_MW_node_14 rfl rfl ?_
    refine V_MW_areBounds tw_495 d_MW_node_15 (by decide) (Nat.le_of_ble_eq_true rfl) hF (fun r5 h4 i6 hF => ?_)
    refine P_if_ne 24 d_MW_node_18 (by decide) i6 (fun c => ?_) (fun c => ?_)
    · have hF := hF.1 c
      refine P_aload_n 0 d_MW_node_24 rfl rfl ?_
      refine G_MW_tree tw_202 d_MW_node_25 ?_
      refine G_TR_count tw_177 d_MW_node_28 (fun i7 => ?_)
      refine P_bipush d_MW_node_31 (by decide) ?_
      refine P_icmp_lt 39 d_MW_node_33 (by decide) i7 ⟨by decide, by decide⟩ (fun c => ?_) (fun c => ?_)
      · have hF := hF.1 c
        refine P_aload_n 0 d_MW_node_39 rfl rfl ?_
        refine G_MW_tree tw_202 d_MW_node_40 ?_
        refine P_iload_n 1 d_MW_node_43 rfl rfl ?_
        refine V_TR_takesChild tw_498 d_MW_node_44 (by decide) (Nat.le_of_ble_eq_true rfl) hF (fun r9 h8 i10 hF => ?_)
        refine P_if_ne 53 d_MW_node_47 (by decide) i10 (fun c => ?_) (fun c => ?_)
        · have hF := hF.1 c
          refine P_aload_n 0 d_MW_node_53 rfl rfl ?_
          refine G_MW_tree tw_202 d_MW_node_54 ?_
          refine P_iload_n 1 d_MW_node_57 rfl rfl ?_
          refine P_iload_n 2 d_MW_node_58 rfl rfl ?_
          refine P_iload_n 3 d_MW_node_59 rfl rfl ?_
          refine V_TR_add tw_502 d_MW_node_60 (by decide) (Nat.le_of_ble_eq_true rfl) hF (fun r12 h11 i13 hF => ?_)
          exact P_iret d_MW_node_63 rfl hF
        · have hF := hF.2 c
          refine P_bipush d_MW_node_50 (by decide) ?_
          exact P_iret d_MW_node_52 rfl hF
      · have hF := hF.2 (Int.not_lt.mp c)
        refine P_bipush d_MW_node_36 (by decide) ?_
        exact P_iret d_MW_node_38 rfl hF
    · have hF := hF.2 c
      refine P_bipush d_MW_node_21 (by decide) ?_
      exact P_iret d_MW_node_23 rfl hF
  · have hF := hF.2 c
    refine P_iconst d_MW_node_11 ?_
    exact P_iret d_MW_node_12 rfl hF
theorem F_MW_share_0 (v1 v2 v3 : Int) (g1 : InR v1) (g2 : InR v2) (g3 : InR v3) (hF : ((v1 = 0 → Q (some (vI (-1))) h) ∧ (¬ v1 = 0 → WP D ad ca none M_TR_has 0 [(0, .ref (ad 19)), (1, vI v1)] [] h (RI (fun r2 h1 => ((¬ r2 = 0 → WP D ad ca none M_MW_areBounds 0 [(0, vI v2), (1, vI v3)] [] h1 (RI (fun r5 h4 => ((¬ r5 = 0 → (0 ≤ v1 ∧ v1 < 24) ∧ (0 ≤ v1 ∧ v1 < 24) ∧ Q (some (vI 1)) (up (up h4 21 v1 v2) 22 v1 v3)) ∧ (r5 = 0 → Q (some (vI (-2))) h4))))) ∧ (r2 = 0 → Q (some (vI (-1))) h1))))))) : WP D ad ca sc M_MW_share 0 [(0, .ref (ad 0)), (1, vI v1), (2, vI v2), (3, vI v3)] [] h Q := by
  refine P_iload_n 1 d_MW_share_0 rfl rfl ?_
  refine P_if_eq 15 d_MW_share_1 (by decide) g1 (fun c => ?_) (fun c => ?_)
  · have hF := hF.1 c
    refine P_iconst d_MW_share_15 ?_
    exact P_iret d_MW_share_16 rfl hF
  · have hF := hF.2 c
    refine P_aload_n 0 d_MW_share_4 rfl rfl ?_
    refine G_MW_tree tw_202 d_MW_share_5 ?_
    refine P_iload_n 1 d_MW_share_8 rfl rfl ?_
    refine V_TR_has tw_491 d_MW_share_9 (by decide) (Nat.le_of_ble_eq_true rfl) hF (fun r2 h1 i3 hF => ?_)
    refine P_if_ne 17 d_MW_share_12 (by decide) i3 (fun c => ?_) (fun c => ?_)
    · have hF := hF.1 c
      refine P_iload_n 2 d_MW_share_17 rfl rfl ?_
      refine P_iload_n 3 d_MW_share_18 rfl rfl ?_
      refine V_MW_areBounds tw_495 d_MW_share_19 (by decide) (Nat.le_of_ble_eq_true rfl) hF (fun r5 h4 i6 hF => ?_)
      refine P_if_ne 28 d_MW_share_22 (by decide) i6 (fun c => ?_) (fun c => ?_)
      · have hF := hF.1 c
        refine P_aload_n 0 d_MW_share_28 rfl rfl ?_
        refine G_MW_tree tw_202 d_MW_share_29 ?_
        refine G_TR_lows tw_165 d_MW_share_32 ?_
        refine P_iload_n 1 d_MW_share_35 rfl rfl ?_
        refine P_iload_n 2 d_MW_share_36 rfl rfl ?_
        obtain ⟨b7, hF⟩ := hF
        refine T_21 d_MW_share_37 b7 g2 ?_
        refine P_aload_n 0 d_MW_share_38 rfl rfl ?_
        refine G_MW_tree tw_202 d_MW_share_39 ?_
        refine G_TR_highs tw_167 d_MW_share_42 ?_
        refine P_iload_n 1 d_MW_share_45 rfl rfl ?_
        refine P_iload_n 3 d_MW_share_46 rfl rfl ?_
        obtain ⟨b8, hF⟩ := hF
        refine T_22 d_MW_share_47 b8 g3 ?_
        refine P_iconst d_MW_share_48 ?_
        exact P_iret d_MW_share_49 rfl hF
      · have hF := hF.2 c
        refine P_bipush d_MW_share_25 (by decide) ?_
        exact P_iret d_MW_share_27 rfl hF
    · have hF := hF.2 c
      refine P_iconst d_MW_share_15 ?_
      exact P_iret d_MW_share_16 rfl hF
theorem F_MW_fear_0 (v1 v2 : Int) (g1 : InR v1) (g2 : InR v2) (hF : WP D ad ca none M_TR_has 0 [(0, .ref (ad 19)), (1, vI v1)] [] h (RI (fun r2 h1 => ((¬ r2 = 0 → (0 ≤ v1 ∧ v1 < 24) ∧ WP D ad ca none M_MW_oneIf 0 [(0, vI (h1 25 v1))] [] h1 (RI (fun r7 h6 => (0 ≤ v1 ∧ v1 < 24) ∧ (v2 = 0 ∨ v2 = 1) ∧ Q (some (vI r7)) (up h6 25 v1 v2)))) ∧ (r2 = 0 → Q (some (vI (-1))) h1))))) : WP D ad ca sc M_MW_fear 0 [(0, .ref (ad 0)), (1, vI v1), (2, vI v2)] [] h Q := by
  refine P_aload_n 0 d_MW_fear_0 rfl rfl ?_
  refine G_MW_tree tw_202 d_MW_fear_1 ?_
  refine P_iload_n 1 d_MW_fear_4 rfl rfl ?_
  refine V_TR_has tw_491 d_MW_fear_5 (by decide) (Nat.le_of_ble_eq_true rfl) hF (fun r2 h1 i3 hF => ?_)
  refine P_if_ne 13 d_MW_fear_8 (by decide) i3 (fun c => ?_) (fun c => ?_)
  · have hF := hF.1 c
    refine P_aload_n 0 d_MW_fear_13 rfl rfl ?_
    refine G_MW_tree tw_202 d_MW_fear_14 ?_
    refine G_TR_feared tw_173 d_MW_fear_17 ?_
    refine P_iload_n 1 d_MW_fear_20 rfl rfl ?_
    obtain ⟨b4, hF⟩ := hF
    refine L_25 d_MW_fear_21 b4 (fun i5 => ?_)
    refine V_MW_oneIf tw_290 d_MW_fear_22 (by decide) (Nat.le_of_ble_eq_true rfl) hF (fun r7 h6 i8 hF => ?_)
    refine P_istore_n (lv' := [(0, .ref (ad 0)), (1, vI v1), (2, vI v2), (3, vI r7)]) [1, 2, 3, 0] d_MW_fear_25 rfl (by decide) rfl ?_
    refine P_aload_n 0 d_MW_fear_26 rfl rfl ?_
    refine G_MW_tree tw_202 d_MW_fear_27 ?_
    refine G_TR_feared tw_173 d_MW_fear_30 ?_
    refine P_iload_n 1 d_MW_fear_33 rfl rfl ?_
    refine P_iload_n 2 d_MW_fear_34 rfl rfl ?_
    obtain ⟨b9, hF⟩ := hF
    obtain ⟨b10, hF⟩ := hF
    refine T_25 d_MW_fear_35 b9 b10 ?_
    refine P_iload_n 3 d_MW_fear_36 rfl rfl ?_
    exact P_iret d_MW_fear_37 rfl hF
  · have hF := hF.2 c
    refine P_iconst d_MW_fear_11 ?_
    exact P_iret d_MW_fear_12 rfl hF
theorem F_MW_sound_0  (hF : WP D ad ca none M_TR_isSound 0 [(0, .ref (ad 19))] [] h (RI (fun r2 h1 => WP D ad ca none M_MW_oneIf 0 [(0, vI r2)] [] h1 (RI (fun r5 h4 => Q (some (vI r5)) h4))))) : WP D ad ca sc M_MW_sound 0 [(0, .ref (ad 0))] [] h Q := by
  refine P_aload_n 0 d_MW_sound_0 rfl rfl ?_
  refine G_MW_tree tw_202 d_MW_sound_1 ?_
  refine V_TR_isSound tw_518 d_MW_sound_4 (by decide) (Nat.le_of_ble_eq_true rfl) hF (fun r2 h1 i3 hF => ?_)
  refine V_MW_oneIf tw_290 d_MW_sound_7 (by decide) (Nat.le_of_ble_eq_true rfl) hF (fun r5 h4 i6 hF => ?_)
  exact P_iret d_MW_sound_10 rfl hF
theorem F_MW_chance_0 (v1 v2 : Int) (g1 : InR v1) (g2 : InR v2) (hF : WP D ad ca none M_TR_has 0 [(0, .ref (ad 19)), (1, vI v1)] [] h (RI (fun r2 h1 => ((¬ r2 = 0 → WP D ad ca none M_MW_isWithin 0 [(0, vI v2), (1, vI 0), (2, vI 1)] [] h1 (RI (fun r5 h4 => ((¬ r5 = 0 → WP D ad ca none M_TR_isSound 0 [(0, .ref (ad 19))] [] h4 (RI (fun r8 h7 => ((¬ r8 = 0 → ((¬ v2 = 1 → WP D ad ca none M_TR_chanceOf 0 [(0, .ref (ad 19)), (1, vI v1), (2, vI 0)] [] h7 (RI (fun r11 h10 => Q (some (vI r11)) h10))) ∧ (v2 = 1 → WP D ad ca none M_TR_chanceOf 0 [(0, .ref (ad 19)), (1, vI v1), (2, vI 1)] [] h7 (RI (fun r14 h13 => Q (some (vI r14)) h13))))) ∧ (r8 = 0 → Q (some (vI (-5))) h7))))) ∧ (r5 = 0 → Q (some (vI (-2))) h4))))) ∧ (r2 = 0 → Q (some (vI (-1))) h1))))) : WP D ad ca sc M_MW_chance 0 [(0, .ref (ad 0)), (1, vI v1), (2, vI v2)] [] h Q := by
  refine P_aload_n 0 d_MW_chance_0 rfl rfl ?_
  refine G_MW_tree tw_202 d_MW_chance_1 ?_
  refine P_iload_n 1 d_MW_chance_4 rfl rfl ?_
  refine V_TR_has tw_491 d_MW_chance_5 (by decide) (Nat.le_of_ble_eq_true rfl) hF (fun r2 h1 i3 hF => ?_)
  refine P_if_ne 13 d_MW_chance_8 (by decide) i3 (fun c => ?_) (fun c => ?_)
  · have hF := hF.1 c
    refine P_iload_n 2 d_MW_chance_13 rfl rfl ?_
    refine P_iconst d_MW_chance_14 ?_
    refine P_iconst d_MW_chance_15 ?_
    refine V_MW_isWithin tw_281 d_MW_chance_16 (by decide) (Nat.le_of_ble_eq_true rfl) hF (fun r5 h4 i6 hF => ?_)
    refine P_if_ne 25 d_MW_chance_19 (by decide) i6 (fun c => ?_) (fun c => ?_)
    · have hF := hF.1 c
      refine P_aload_n 0 d_MW_chance_25 rfl rfl ?_
      refine G_MW_tree tw_202 d_MW_chance_26 ?_
      refine V_TR_isSound tw_518 d_MW_chance_29 (by decide) (Nat.le_of_ble_eq_true rfl) hF (fun r8 h7 i9 hF => ?_)
      refine P_if_ne 38 d_MW_chance_32 (by decide) i9 (fun c => ?_) (fun c => ?_)
      · have hF := hF.1 c
        refine P_aload_n 0 d_MW_chance_38 rfl rfl ?_
        refine G_MW_tree tw_202 d_MW_chance_39 ?_
        refine P_iload_n 1 d_MW_chance_42 rfl rfl ?_
        refine P_iload_n 2 d_MW_chance_43 rfl rfl ?_
        refine P_iconst d_MW_chance_44 ?_
        refine P_icmp_ne 52 d_MW_chance_45 (by decide) g2 ⟨by decide, by decide⟩ (fun c => ?_) (fun c => ?_)
        · have hF := hF.1 c
          refine P_iconst d_MW_chance_52 ?_
          refine V_TR_chanceOf tw_530 d_MW_chance_53 (by decide) (Nat.le_of_ble_eq_true rfl) hF (fun r11 h10 i12 hF => ?_)
          exact P_iret d_MW_chance_56 rfl hF
        · have hF := hF.2 c
          refine P_iconst d_MW_chance_48 ?_
          refine P_goto 53 d_MW_chance_49 (by decide) ?_
          refine V_TR_chanceOf tw_530 d_MW_chance_53 (by decide) (Nat.le_of_ble_eq_true rfl) hF (fun r14 h13 i15 hF => ?_)
          exact P_iret d_MW_chance_56 rfl hF
      · have hF := hF.2 c
        refine P_bipush d_MW_chance_35 (by decide) ?_
        exact P_iret d_MW_chance_37 rfl hF
    · have hF := hF.2 c
      refine P_bipush d_MW_chance_22 (by decide) ?_
      exact P_iret d_MW_chance_24 rfl hF
  · have hF := hF.2 c
    refine P_iconst d_MW_chance_11 ?_
    exact P_iret d_MW_chance_12 rfl hF
theorem F_MW_ofNode_0 (v1 v2 : Int) (g1 : InR v1) (g2 : InR v2) (hF : WP D ad ca none M_TR_has 0 [(0, .ref (ad 19)), (1, vI v1)] [] h (RI (fun r2 h1 => ((¬ r2 = 0 → ((v2 = 0 → (0 ≤ v1 ∧ v1 < 24) ∧ Q (some (vI (h1 20 v1))) h1) ∧ (v2 = 1 → (0 ≤ v1 ∧ v1 < 24) ∧ Q (some (vI (h1 21 v1))) h1) ∧ (v2 = 2 → (0 ≤ v1 ∧ v1 < 24) ∧ Q (some (vI (h1 22 v1))) h1) ∧ (v2 = 3 → (0 ≤ v1 ∧ v1 < 24) ∧ WP D ad ca none M_MW_oneIf 0 [(0, vI (h1 25 v1))] [] h1 (RI (fun r13 h12 => Q (some (vI r13)) h12))) ∧ (v2 = 4 → (0 ≤ v1 ∧ v1 < 24) ∧ Q (some (vI (h1 24 v1))) h1) ∧ (v2 = 5 → (0 ≤ v1 ∧ v1 < 24) ∧ Q (some (vI (h1 23 v1))) h1) ∧ (v2 < 0 ∨ 5 < v2 → Q (some (vI (-2))) h1))) ∧ (r2 = 0 → Q (some (vI (-1))) h1))))) : WP D ad ca sc M_MW_ofNode 0 [(0, .ref (ad 0)), (1, vI v1), (2, vI v2)] [] h Q := by
  refine P_aload_n 0 d_MW_ofNode_0 rfl rfl ?_
  refine G_MW_tree tw_202 d_MW_ofNode_1 ?_
  refine P_iload_n 1 d_MW_ofNode_4 rfl rfl ?_
  refine V_TR_has tw_491 d_MW_ofNode_5 (by decide) (Nat.le_of_ble_eq_true rfl) hF (fun r2 h1 i3 hF => ?_)
  refine P_if_ne 13 d_MW_ofNode_8 (by decide) i3 (fun c => ?_) (fun c => ?_)
  · have hF := hF.1 c
    refine P_iload_n 2 d_MW_ofNode_13 rfl rfl ?_
    by_cases c0 : v2 = 0
    · have hF := hF.1 c0
      refine P_tabIn 52 0 d_MW_ofNode_14 c0 ⟨by decide, by decide⟩ (by decide) (by decide) rfl (by decide) ?_
      refine P_aload_n 0 d_MW_ofNode_52 rfl rfl ?_
      refine G_MW_tree tw_202 d_MW_ofNode_53 ?_
      refine G_TR_parents tw_163 d_MW_ofNode_56 ?_
      refine P_iload_n 1 d_MW_ofNode_59 rfl rfl ?_
      obtain ⟨b4, hF⟩ := hF
      refine L_20 d_MW_ofNode_60 b4 (fun i5 => ?_)
      exact P_iret d_MW_ofNode_61 rfl hF
    by_cases c1 : v2 = 1
    · have hF := hF.2.1 c1
      refine P_tabIn 62 1 d_MW_ofNode_14 c1 ⟨by decide, by decide⟩ (by decide) (by decide) rfl (by decide) ?_
      refine P_aload_n 0 d_MW_ofNode_62 rfl rfl ?_
      refine G_MW_tree tw_202 d_MW_ofNode_63 ?_
      refine G_TR_lows tw_165 d_MW_ofNode_66 ?_
      refine P_iload_n 1 d_MW_ofNode_69 rfl rfl ?_
      obtain ⟨b6, hF⟩ := hF
      refine L_21 d_MW_ofNode_70 b6 (fun i7 => ?_)
      exact P_iret d_MW_ofNode_71 rfl hF
    by_cases c2 : v2 = 2
    · have hF := hF.2.2.1 c2
      refine P_tabIn 72 2 d_MW_ofNode_14 c2 ⟨by decide, by decide⟩ (by decide) (by decide) rfl (by decide) ?_
      refine P_aload_n 0 d_MW_ofNode_72 rfl rfl ?_
      refine G_MW_tree tw_202 d_MW_ofNode_73 ?_
      refine G_TR_highs tw_167 d_MW_ofNode_76 ?_
      refine P_iload_n 1 d_MW_ofNode_79 rfl rfl ?_
      obtain ⟨b8, hF⟩ := hF
      refine L_22 d_MW_ofNode_80 b8 (fun i9 => ?_)
      exact P_iret d_MW_ofNode_81 rfl hF
    by_cases c3 : v2 = 3
    · have hF := hF.2.2.2.1 c3
      refine P_tabIn 82 3 d_MW_ofNode_14 c3 ⟨by decide, by decide⟩ (by decide) (by decide) rfl (by decide) ?_
      refine P_aload_n 0 d_MW_ofNode_82 rfl rfl ?_
      refine G_MW_tree tw_202 d_MW_ofNode_83 ?_
      refine G_TR_feared tw_173 d_MW_ofNode_86 ?_
      refine P_iload_n 1 d_MW_ofNode_89 rfl rfl ?_
      obtain ⟨b10, hF⟩ := hF
      refine L_25 d_MW_ofNode_90 b10 (fun i11 => ?_)
      refine V_MW_oneIf tw_290 d_MW_ofNode_91 (by decide) (Nat.le_of_ble_eq_true rfl) hF (fun r13 h12 i14 hF => ?_)
      exact P_iret d_MW_ofNode_94 rfl hF
    by_cases c4 : v2 = 4
    · have hF := hF.2.2.2.2.1 c4
      refine P_tabIn 95 4 d_MW_ofNode_14 c4 ⟨by decide, by decide⟩ (by decide) (by decide) rfl (by decide) ?_
      refine P_aload_n 0 d_MW_ofNode_95 rfl rfl ?_
      refine G_MW_tree tw_202 d_MW_ofNode_96 ?_
      refine G_TR_childCounts tw_171 d_MW_ofNode_99 ?_
      refine P_iload_n 1 d_MW_ofNode_102 rfl rfl ?_
      obtain ⟨b15, hF⟩ := hF
      refine L_24 d_MW_ofNode_103 b15 (fun i16 => ?_)
      exact P_iret d_MW_ofNode_104 rfl hF
    by_cases c5 : v2 = 5
    · have hF := hF.2.2.2.2.2.1 c5
      refine P_tabIn 105 5 d_MW_ofNode_14 c5 ⟨by decide, by decide⟩ (by decide) (by decide) rfl (by decide) ?_
      refine P_aload_n 0 d_MW_ofNode_105 rfl rfl ?_
      refine G_MW_tree tw_202 d_MW_ofNode_106 ?_
      refine G_TR_depths tw_169 d_MW_ofNode_109 ?_
      refine P_iload_n 1 d_MW_ofNode_112 rfl rfl ?_
      obtain ⟨b17, hF⟩ := hF
      refine L_23 d_MW_ofNode_113 b17 (fun i18 => ?_)
      exact P_iret d_MW_ofNode_114 rfl hF
    have hF := hF.2.2.2.2.2.2 (by omega)
    refine P_tabOut 115 d_MW_ofNode_14 g2 (by omega) (by decide) ?_
    refine P_bipush d_MW_ofNode_115 (by decide) ?_
    exact P_iret d_MW_ofNode_117 rfl hF
  · have hF := hF.2 c
    refine P_iconst d_MW_ofNode_11 ?_
    exact P_iret d_MW_ofNode_12 rfl hF
theorem F_MW_isWithin_0 (v0 v1 v2 : Int) (g0 : InR v0) (g1 : InR v1) (g2 : InR v2) (hF : ((v0 < v1 → Q (some (vI 0)) h) ∧ (v1 ≤ v0 → ((v2 < v0 → Q (some (vI 0)) h) ∧ (v0 ≤ v2 → Q (some (vI 1)) h))))) : WP D ad ca sc M_MW_isWithin 0 [(0, vI v0), (1, vI v1), (2, vI v2)] [] h Q := by
  refine P_iload_n 0 d_MW_isWithin_0 rfl rfl ?_
  refine P_iload_n 1 d_MW_isWithin_1 rfl rfl ?_
  refine P_icmp_lt 14 d_MW_isWithin_2 (by decide) g0 g1 (fun c => ?_) (fun c => ?_)
  · have hF := hF.1 c
    refine P_iconst d_MW_isWithin_14 ?_
    exact P_zret d_MW_isWithin_15 rfl (Or.inl rfl) hF
  · have hF := hF.2 (Int.not_lt.mp c)
    refine P_iload_n 0 d_MW_isWithin_5 rfl rfl ?_
    refine P_iload_n 2 d_MW_isWithin_6 rfl rfl ?_
    refine P_icmp_gt 14 d_MW_isWithin_7 (by decide) g0 g2 (fun c => ?_) (fun c => ?_)
    · have hF := hF.1 c
      refine P_iconst d_MW_isWithin_14 ?_
      exact P_zret d_MW_isWithin_15 rfl (Or.inl rfl) hF
    · have hF := hF.2 (Int.not_lt.mp c)
      refine P_iconst d_MW_isWithin_10 ?_
      refine P_goto 15 d_MW_isWithin_11 (by decide) ?_
      exact P_zret d_MW_isWithin_15 rfl (Or.inr rfl) hF
theorem F_MW_oneIf_0 (v0 : Int) (g0 : InR v0) (hF : ((v0 = 0 → Q (some (vI 0)) h) ∧ (¬ v0 = 0 → Q (some (vI 1)) h))) : WP D ad ca sc M_MW_oneIf 0 [(0, vI v0)] [] h Q := by
  refine P_iload_n 0 d_MW_oneIf_0 rfl rfl ?_
  refine P_if_eq 8 d_MW_oneIf_1 (by decide) g0 (fun c => ?_) (fun c => ?_)
  · have hF := hF.1 c
    refine P_iconst d_MW_oneIf_8 ?_
    exact P_iret d_MW_oneIf_9 rfl hF
  · have hF := hF.2 c
    refine P_iconst d_MW_oneIf_4 ?_
    refine P_goto 9 d_MW_oneIf_5 (by decide) ?_
    exact P_iret d_MW_oneIf_9 rfl hF
theorem F_MW_isLevel_0 (v0 : Int) (g0 : InR v0) (hF : WP D ad ca none M_MW_isWithin 0 [(0, vI v0), (1, vI 0), (2, vI 4)] [] h (RI (fun r2 h1 => (r2 = 0 ∨ r2 = 1) ∧ Q (some (vI r2)) h1))) : WP D ad ca sc M_MW_isLevel 0 [(0, vI v0)] [] h Q := by
  refine P_iload_n 0 d_MW_isLevel_0 rfl rfl ?_
  refine P_iconst d_MW_isLevel_1 ?_
  refine P_iconst d_MW_isLevel_2 ?_
  refine V_MW_isWithin tw_281 d_MW_isLevel_3 (by decide) (Nat.le_of_ble_eq_true rfl) hF (fun r2 h1 i3 hF => ?_)
  obtain ⟨b4, hF⟩ := hF
  exact P_zret d_MW_isLevel_6 rfl b4 hF
theorem F_MW_isLawLevel_0 (v0 : Int) (g0 : InR v0) (hF : WP D ad ca none M_MW_isWithin 0 [(0, vI v0), (1, vI 1), (2, vI 4)] [] h (RI (fun r2 h1 => (r2 = 0 ∨ r2 = 1) ∧ Q (some (vI r2)) h1))) : WP D ad ca sc M_MW_isLawLevel 0 [(0, vI v0)] [] h Q := by
  refine P_iload_n 0 d_MW_isLawLevel_0 rfl rfl ?_
  refine P_iconst d_MW_isLawLevel_1 ?_
  refine P_iconst d_MW_isLawLevel_2 ?_
  refine V_MW_isWithin tw_281 d_MW_isLawLevel_3 (by decide) (Nat.le_of_ble_eq_true rfl) hF (fun r2 h1 i3 hF => ?_)
  obtain ⟨b4, hF⟩ := hF
  exact P_zret d_MW_isLawLevel_6 rfl b4 hF
theorem F_MW_areBounds_0 (v0 v1 : Int) (g0 : InR v0) (g1 : InR v1) (hF : ((v0 < 0 → Q (some (vI 0)) h) ∧ (0 ≤ v0 → ((v1 < v0 → Q (some (vI 0)) h) ∧ (v0 ≤ v1 → ((100 < v1 → Q (some (vI 0)) h) ∧ (v1 ≤ 100 → Q (some (vI 1)) h))))))) : WP D ad ca sc M_MW_areBounds 0 [(0, vI v0), (1, vI v1)] [] h Q := by
  refine P_iload_n 0 d_MW_areBounds_0 rfl rfl ?_
  refine P_if_lt 19 d_MW_areBounds_1 (by decide) g0 (fun c => ?_) (fun c => ?_)
  · have hF := hF.1 c
    refine P_iconst d_MW_areBounds_19 ?_
    exact P_zret d_MW_areBounds_20 rfl (Or.inl rfl) hF
  · have hF := hF.2 (Int.not_lt.mp c)
    refine P_iload_n 0 d_MW_areBounds_4 rfl rfl ?_
    refine P_iload_n 1 d_MW_areBounds_5 rfl rfl ?_
    refine P_icmp_gt 19 d_MW_areBounds_6 (by decide) g0 g1 (fun c => ?_) (fun c => ?_)
    · have hF := hF.1 c
      refine P_iconst d_MW_areBounds_19 ?_
      exact P_zret d_MW_areBounds_20 rfl (Or.inl rfl) hF
    · have hF := hF.2 (Int.not_lt.mp c)
      refine P_iload_n 1 d_MW_areBounds_9 rfl rfl ?_
      refine P_bipush d_MW_areBounds_10 (by decide) ?_
      refine P_icmp_gt 19 d_MW_areBounds_12 (by decide) g1 ⟨by decide, by decide⟩ (fun c => ?_) (fun c => ?_)
      · have hF := hF.1 c
        refine P_iconst d_MW_areBounds_19 ?_
        exact P_zret d_MW_areBounds_20 rfl (Or.inl rfl) hF
      · have hF := hF.2 (Int.not_lt.mp c)
        refine P_iconst d_MW_areBounds_15 ?_
        refine P_goto 20 d_MW_areBounds_16 (by decide) ?_
        exact P_zret d_MW_areBounds_20 rfl (Or.inr rfl) hF
theorem F_MW_isDay_0 (v1 : Int) (g1 : InR v1) (hF : WP D ad ca none M_MW_isWithin 0 [(0, vI v1), (1, vI 0), (2, vI (h 0 5))] [] h (RI (fun r3 h2 => (r3 = 0 ∨ r3 = 1) ∧ Q (some (vI r3)) h2))) : WP D ad ca sc M_MW_isDay 0 [(0, .ref (ad 0)), (1, vI v1)] [] h Q := by
  refine P_iload_n 1 d_MW_isDay_0 rfl rfl ?_
  refine P_iconst d_MW_isDay_1 ?_
  refine P_aload_n 0 d_MW_isDay_2 rfl rfl ?_
  refine G_MW_today tw_203 d_MW_isDay_3 (fun i1 => ?_)
  refine V_MW_isWithin tw_281 d_MW_isDay_6 (by decide) (Nat.le_of_ble_eq_true rfl) hF (fun r3 h2 i4 hF => ?_)
  obtain ⟨b5, hF⟩ := hF
  exact P_zret d_MW_isDay_9 rfl b5 hF
theorem F_MW_measured_0 (v1 v2 : Int) (g1 : InR v1) (g2 : InR v2) (hF : (0 ≤ v1 ∧ v1 < 8) ∧ (InR ((v2 - (h 14 v1)) + 1)) ∧ (0 ≤ v1 ∧ v1 < 8) ∧ (((h 12 v1) = 3 → WP D ad ca none M_SH_countOfDays 0 [(0, .ref (ad 1)), (1, vI (max 0 ((v2 - (h 14 v1)) + 1))), (2, vI v2)] [] h (RI (fun r7 h6 => Q (some (vI r7)) h6))) ∧ ((h 12 v1) = 4 → WP D ad ca none M_SH_countOfGreatestFamily 0 [(0, .ref (ad 1)), (1, vI (max 0 ((v2 - (h 14 v1)) + 1))), (2, vI v2)] [] h (RI (fun r10 h9 => Q (some (vI r10)) h9))) ∧ ((h 12 v1) = 5 → WP D ad ca none M_RE_tiltMove 0 [(0, .ref (ad 7)), (1, vI v2), (2, vI (h 14 v1))] [] h (RI (fun r13 h12 => Q (some (vI r13)) h12))) ∧ ((h 12 v1) = 6 → WP D ad ca none M_RE_gasOfDays 0 [(0, .ref (ad 7)), (1, vI (max 0 ((v2 - (h 14 v1)) + 1))), (2, vI v2)] [] h (RI (fun r16 h15 => Q (some (vI r16)) h15))) ∧ ((h 12 v1) < 3 ∨ 6 < (h 12 v1) → WP D ad ca none M_SH_countOfKind 0 [(0, .ref (ad 1)), (1, vI (h 12 v1)), (2, vI (max 0 ((v2 - (h 14 v1)) + 1))), (3, vI v2)] [] h (RI (fun r19 h18 => Q (some (vI r19)) h18))))) : WP D ad ca sc M_MW_measured 0 [(0, .ref (ad 0)), (1, vI v1), (2, vI v2)] [] h Q := by
  refine P_aload_n 0 d_MW_measured_0 rfl rfl ?_
  refine G_MW_laws tw_200 d_MW_measured_1 ?_
  refine G_LA_spans tw_109 d_MW_measured_4 ?_
  refine P_iload_n 1 d_MW_measured_7 rfl rfl ?_
  obtain ⟨b1, hF⟩ := hF
  refine L_14 d_MW_measured_8 b1 (fun i2 => ?_)
  refine P_istore_n (lv' := [(0, .ref (ad 0)), (1, vI v1), (2, vI v2), (3, vI (h 14 v1))]) [1, 2, 3, 0] d_MW_measured_9 rfl (by decide) rfl ?_
  refine P_iconst d_MW_measured_10 ?_
  refine P_iload_n 2 d_MW_measured_11 rfl rfl ?_
  refine P_iload_n 3 d_MW_measured_12 rfl rfl ?_
  refine P_isub d_MW_measured_13 ?_
  refine P_iconst d_MW_measured_14 ?_
  refine P_iadd d_MW_measured_15 ?_
  obtain ⟨b3, hF⟩ := hF
  refine V_Math_max tw_369 d_MW_measured_16 (by decide) (Nat.le_of_ble_eq_true rfl) ⟨by decide, by decide⟩ b3 ?_
  refine P_istore (lv' := [(0, .ref (ad 0)), (1, vI v1), (2, vI v2), (3, vI (h 14 v1)), (4, vI (max 0 ((v2 - (h 14 v1)) + 1)))]) [1, 2, 3, 4, 0] d_MW_measured_19 (by decide) rfl ?_
  refine P_aload_n 0 d_MW_measured_21 rfl rfl ?_
  refine G_MW_laws tw_200 d_MW_measured_22 ?_
  refine G_LA_measures tw_105 d_MW_measured_25 ?_
  refine P_iload_n 1 d_MW_measured_28 rfl rfl ?_
  obtain ⟨b4, hF⟩ := hF
  refine L_12 d_MW_measured_29 b4 (fun i5 => ?_)
  refine P_istore (lv' := [(0, .ref (ad 0)), (1, vI v1), (2, vI v2), (3, vI (h 14 v1)), (4, vI (max 0 ((v2 - (h 14 v1)) + 1))), (5, vI (h 12 v1))]) [1, 2, 3, 4, 5, 0] d_MW_measured_30 (by decide) rfl ?_
  refine P_iload 5 d_MW_measured_32 rfl ?_
  by_cases c3 : (h 12 v1) = 3
  · have hF := hF.1 c3
    refine P_tabIn 64 3 d_MW_measured_34 c3 ⟨by decide, by decide⟩ (by decide) (by decide) rfl (by decide) ?_
    refine P_aload_n 0 d_MW_measured_64 rfl rfl ?_
    refine G_MW_shakes tw_198 d_MW_measured_65 ?_
    refine P_iload 4 d_MW_measured_68 rfl ?_
    refine P_iload_n 2 d_MW_measured_70 rfl rfl ?_
    refine V_SH_countOfDays tw_372 d_MW_measured_71 (by decide) (Nat.le_of_ble_eq_true rfl) hF (fun r7 h6 i8 hF => ?_)
    exact P_iret d_MW_measured_74 rfl hF
  by_cases c4 : (h 12 v1) = 4
  · have hF := hF.2.1 c4
    refine P_tabIn 75 4 d_MW_measured_34 c4 ⟨by decide, by decide⟩ (by decide) (by decide) rfl (by decide) ?_
    refine P_aload_n 0 d_MW_measured_75 rfl rfl ?_
    refine G_MW_shakes tw_198 d_MW_measured_76 ?_
    refine P_iload 4 d_MW_measured_79 rfl ?_
    refine P_iload_n 2 d_MW_measured_81 rfl rfl ?_
    refine V_SH_countOfGreatestFamily tw_380 d_MW_measured_82 (by decide) (Nat.le_of_ble_eq_true rfl) hF (fun r10 h9 i11 hF => ?_)
    exact P_iret d_MW_measured_85 rfl hF
  by_cases c5 : (h 12 v1) = 5
  · have hF := hF.2.2.1 c5
    refine P_tabIn 86 5 d_MW_measured_34 c5 ⟨by decide, by decide⟩ (by decide) (by decide) rfl (by decide) ?_
    refine P_aload_n 0 d_MW_measured_86 rfl rfl ?_
    refine G_MW_readings tw_199 d_MW_measured_87 ?_
    refine P_iload_n 2 d_MW_measured_90 rfl rfl ?_
    refine P_iload_n 3 d_MW_measured_91 rfl rfl ?_
    refine V_RE_tiltMove tw_385 d_MW_measured_92 (by decide) (Nat.le_of_ble_eq_true rfl) hF (fun r13 h12 i14 hF => ?_)
    exact P_iret d_MW_measured_95 rfl hF
  by_cases c6 : (h 12 v1) = 6
  · have hF := hF.2.2.2.1 c6
    refine P_tabIn 96 6 d_MW_measured_34 c6 ⟨by decide, by decide⟩ (by decide) (by decide) rfl (by decide) ?_
    refine P_aload_n 0 d_MW_measured_96 rfl rfl ?_
    refine G_MW_readings tw_199 d_MW_measured_97 ?_
    refine P_iload 4 d_MW_measured_100 rfl ?_
    refine P_iload_n 2 d_MW_measured_102 rfl rfl ?_
    refine V_RE_gasOfDays tw_392 d_MW_measured_103 (by decide) (Nat.le_of_ble_eq_true rfl) hF (fun r16 h15 i17 hF => ?_)
    exact P_iret d_MW_measured_106 rfl hF
  have hF := hF.2.2.2.2 (by omega)
  refine P_tabOut 107 d_MW_measured_34 i5 (by omega) (by decide) ?_
  refine P_aload_n 0 d_MW_measured_107 rfl rfl ?_
  refine G_MW_shakes tw_198 d_MW_measured_108 ?_
  refine P_iload 5 d_MW_measured_111 rfl ?_
  refine P_iload 4 d_MW_measured_113 rfl ?_
  refine P_iload_n 2 d_MW_measured_115 rfl rfl ?_
  refine V_SH_countOfKind tw_396 d_MW_measured_116 (by decide) (Nat.le_of_ble_eq_true rfl) hF (fun r19 h18 i20 hF => ?_)
  exact P_iret d_MW_measured_119 rfl hF
theorem F_MW_holdsTrue_0 (v1 v2 : Int) (g1 : InR v1) (g2 : InR v2) (hF : WP D ad ca none M_MW_measured 0 [(0, .ref (ad 0)), (1, vI v1), (2, vI v2)] [] h (RI (fun r2 h1 => (0 ≤ v1 ∧ v1 < 8) ∧ ((r2 < (h1 13 v1) → Q (some (vI 0)) h1) ∧ ((h1 13 v1) ≤ r2 → Q (some (vI 1)) h1))))) : WP D ad ca sc M_MW_holdsTrue 0 [(0, .ref (ad 0)), (1, vI v1), (2, vI v2)] [] h Q := by
  refine P_aload_n 0 d_MW_holdsTrue_0 rfl rfl ?_
  refine P_iload_n 1 d_MW_holdsTrue_1 rfl rfl ?_
  refine P_iload_n 2 d_MW_holdsTrue_2 rfl rfl ?_
  refine V_MW_measured tw_365 d_MW_holdsTrue_3 (by decide) (Nat.le_of_ble_eq_true rfl) hF (fun r2 h1 i3 hF => ?_)
  refine P_aload_n 0 d_MW_holdsTrue_6 rfl rfl ?_
  refine G_MW_laws tw_200 d_MW_holdsTrue_7 ?_
  refine G_LA_numbers tw_107 d_MW_holdsTrue_10 ?_
  refine P_iload_n 1 d_MW_holdsTrue_13 rfl rfl ?_
  obtain ⟨b4, hF⟩ := hF
  refine L_13 d_MW_holdsTrue_14 b4 (fun i5 => ?_)
  refine P_icmp_lt 22 d_MW_holdsTrue_15 (by decide) i3 i5 (fun c => ?_) (fun c => ?_)
  · have hF := hF.1 c
    refine P_iconst d_MW_holdsTrue_22 ?_
    exact P_zret d_MW_holdsTrue_23 rfl (Or.inl rfl) hF
  · have hF := hF.2 (Int.not_lt.mp c)
    refine P_iconst d_MW_holdsTrue_18 ?_
    refine P_goto 23 d_MW_holdsTrue_19 (by decide) ?_
    exact P_zret d_MW_holdsTrue_23 rfl (Or.inr rfl) hF
theorem F_MW_heldToday_0  (hF : (((h 0 10) ≤ (h 0 5) → Q (some (vI 0)) h) ∧ ((h 0 5) < (h 0 10) → Q (some (vI (h 0 9))) h))) : WP D ad ca sc M_MW_heldToday 0 [(0, .ref (ad 0))] [] h Q := by
  refine P_aload_n 0 d_MW_heldToday_0 rfl rfl ?_
  refine G_MW_today tw_203 d_MW_heldToday_1 (fun i1 => ?_)
  refine P_aload_n 0 d_MW_heldToday_4 rfl rfl ?_
  refine G_MW_holdEnd tw_208 d_MW_heldToday_5 (fun i2 => ?_)
  refine P_icmp_ge 18 d_MW_heldToday_8 (by decide) i1 i2 (fun c => ?_) (fun c => ?_)
  · have hF := hF.1 c
    refine P_iconst d_MW_heldToday_18 ?_
    exact P_iret d_MW_heldToday_19 rfl hF
  · have hF := hF.2 (Int.not_le.mp c)
    refine P_aload_n 0 d_MW_heldToday_11 rfl rfl ?_
    refine G_MW_holdLevel tw_207 d_MW_heldToday_12 (fun i3 => ?_)
    refine P_goto 19 d_MW_heldToday_15 (by decide) ?_
    exact P_iret d_MW_heldToday_19 rfl hF
theorem F_MW_wantedToday_0  (hF : WP D ad ca none M_MW_heldToday 0 [(0, .ref (ad 0))] [] h (RI (fun r2 h1 => WP D ad ca sc M_MW_wantedToday 7 [(0, .ref (ad 0)), (1, vI r2), (2, vI 0)] [] h1 Q))) : WP D ad ca sc M_MW_wantedToday 0 [(0, .ref (ad 0))] [] h Q := by
  refine P_aload_n 0 d_MW_wantedToday_0 rfl rfl ?_
  refine V_MW_heldToday tw_424 d_MW_wantedToday_1 (by decide) (Nat.le_of_ble_eq_true rfl) hF (fun r2 h1 i3 hF => ?_)
  refine P_istore_n (lv' := [(0, .ref (ad 0)), (1, vI r2)]) [1, 0] d_MW_wantedToday_4 rfl (by decide) rfl ?_
  refine P_iconst d_MW_wantedToday_5 ?_
  refine P_istore_n (lv' := [(0, .ref (ad 0)), (1, vI r2), (2, vI 0)]) [1, 2, 0] d_MW_wantedToday_6 rfl (by decide) rfl ?_
  refine P_sub (lv' := [(0, .ref (ad 0)), (1, vI r2), (2, vI 0)]) [0, 1, 2] rfl ?_
  exact hF
theorem F_MW_wantedToday_7 (v1 v2 : Int) (g1 : InR v1) (g2 : InR v2) (hF : (((h 10 4) ≤ v2 → Q (some (vI v1)) h) ∧ (v2 < (h 10 4) → (0 ≤ v2 ∧ v2 < 8) ∧ (((h 11 v2) ≤ v1 → WP D ad ca sc M_MW_wantedToday 7 [(0, .ref (ad 0)), (1, vI v1), (2, vI (v2 + 1))] [] h Q) ∧ (v1 < (h 11 v2) → WP D ad ca none M_MW_holdsTrue 0 [(0, .ref (ad 0)), (1, vI v2), (2, vI (h 0 5))] [] h (RI (fun r6 h5 => ((r6 = 0 → WP D ad ca sc M_MW_wantedToday 7 [(0, .ref (ad 0)), (1, vI v1), (2, vI (v2 + 1))] [] h5 Q) ∧ (¬ r6 = 0 → (0 ≤ v2 ∧ v2 < 8) ∧ WP D ad ca sc M_MW_wantedToday 7 [(0, .ref (ad 0)), (1, vI (h5 11 v2)), (2, vI (v2 + 1))] [] h5 Q))))))))) : WP D ad ca sc M_MW_wantedToday 7 [(0, .ref (ad 0)), (1, vI v1), (2, vI v2)] [] h Q := by
  refine P_iload_n 2 d_MW_wantedToday_7 rfl rfl ?_
  refine P_aload_n 0 d_MW_wantedToday_8 rfl rfl ?_
  refine G_MW_laws tw_200 d_MW_wantedToday_9 ?_
  refine G_LA_count tw_111 d_MW_wantedToday_12 (fun i1 => ?_)
  refine P_icmp_ge 59 d_MW_wantedToday_15 (by decide) g2 i1 (fun c => ?_) (fun c => ?_)
  · have hF := hF.1 c
    refine P_iload_n 1 d_MW_wantedToday_59 rfl rfl ?_
    exact P_iret d_MW_wantedToday_60 rfl hF
  · have hF := hF.2 (Int.not_le.mp c)
    refine P_aload_n 0 d_MW_wantedToday_18 rfl rfl ?_
    refine G_MW_laws tw_200 d_MW_wantedToday_19 ?_
    refine G_LA_levels tw_103 d_MW_wantedToday_22 ?_
    refine P_iload_n 2 d_MW_wantedToday_25 rfl rfl ?_
    obtain ⟨b2, hF⟩ := hF
    refine L_11 d_MW_wantedToday_26 b2 (fun i3 => ?_)
    refine P_iload_n 1 d_MW_wantedToday_27 rfl rfl ?_
    refine P_icmp_le 53 d_MW_wantedToday_28 (by decide) i3 g1 (fun c => ?_) (fun c => ?_)
    · have hF := hF.1 c
      refine P_iinc (lv' := [(0, .ref (ad 0)), (1, vI v1), (2, vI (v2 + 1))]) 2 [1, 2, 0] d_MW_wantedToday_53 rfl (by decide) rfl ?_
      refine P_goto 7 d_MW_wantedToday_56 (by decide) ?_
      refine P_sub (lv' := [(0, .ref (ad 0)), (1, vI v1), (2, vI (v2 + 1))]) [0, 1, 2] rfl ?_
      exact hF
    · have hF := hF.2 (Int.not_le.mp c)
      refine P_aload_n 0 d_MW_wantedToday_31 rfl rfl ?_
      refine P_iload_n 2 d_MW_wantedToday_32 rfl rfl ?_
      refine P_aload_n 0 d_MW_wantedToday_33 rfl rfl ?_
      refine G_MW_today tw_203 d_MW_wantedToday_34 (fun i4 => ?_)
      refine V_MW_holdsTrue tw_404 d_MW_wantedToday_37 (by decide) (Nat.le_of_ble_eq_true rfl) hF (fun r6 h5 i7 hF => ?_)
      refine P_if_eq 53 d_MW_wantedToday_40 (by decide) i7 (fun c => ?_) (fun c => ?_)
      · have hF := hF.1 c
        refine P_iinc (lv' := [(0, .ref (ad 0)), (1, vI v1), (2, vI (v2 + 1))]) 2 [1, 2, 0] d_MW_wantedToday_53 rfl (by decide) rfl ?_
        refine P_goto 7 d_MW_wantedToday_56 (by decide) ?_
        refine P_sub (lv' := [(0, .ref (ad 0)), (1, vI v1), (2, vI (v2 + 1))]) [0, 1, 2] rfl ?_
        exact hF
      · have hF := hF.2 c
        refine P_aload_n 0 d_MW_wantedToday_43 rfl rfl ?_
        refine G_MW_laws tw_200 d_MW_wantedToday_44 ?_
        refine G_LA_levels tw_103 d_MW_wantedToday_47 ?_
        refine P_iload_n 2 d_MW_wantedToday_50 rfl rfl ?_
        obtain ⟨b8, hF⟩ := hF
        refine L_11 d_MW_wantedToday_51 b8 (fun i9 => ?_)
        refine P_istore_n (lv' := [(0, .ref (ad 0)), (1, vI (h5 11 v2)), (2, vI v2)]) [1, 0, 2] d_MW_wantedToday_52 rfl (by decide) rfl ?_
        refine P_iinc (lv' := [(0, .ref (ad 0)), (1, vI (h5 11 v2)), (2, vI (v2 + 1))]) 2 [1, 2, 0] d_MW_wantedToday_53 rfl (by decide) rfl ?_
        refine P_goto 7 d_MW_wantedToday_56 (by decide) ?_
        refine P_sub (lv' := [(0, .ref (ad 0)), (1, vI (h5 11 v2)), (2, vI (v2 + 1))]) [0, 1, 2] rfl ?_
        exact hF
theorem F_MW_reasonToRaise_0 (v1 : Int) (g1 : InR v1) (hF : WP D ad ca sc M_MW_reasonToRaise 2 [(0, .ref (ad 0)), (1, vI v1), (2, vI 0)] [] h Q) : WP D ad ca sc M_MW_reasonToRaise 0 [(0, .ref (ad 0)), (1, vI v1)] [] h Q := by
  refine P_iconst d_MW_reasonToRaise_0 ?_
  refine P_istore_n (lv' := [(0, .ref (ad 0)), (1, vI v1), (2, vI 0)]) [1, 2, 0] d_MW_reasonToRaise_1 rfl (by decide) rfl ?_
  refine P_sub (lv' := [(0, .ref (ad 0)), (1, vI v1), (2, vI 0)]) [0, 1, 2] rfl ?_
  exact hF
theorem F_MW_reasonToRaise_2 (v1 v2 : Int) (g1 : InR v1) (g2 : InR v2) (hF : (((h 10 4) ≤ v2 → Q (some (vI 20)) h) ∧ (v2 < (h 10 4) → (0 ≤ v2 ∧ v2 < 8) ∧ ((¬ (h 11 v2) = v1 → WP D ad ca sc M_MW_reasonToRaise 2 [(0, .ref (ad 0)), (1, vI v1), (2, vI (v2 + 1))] [] h Q) ∧ ((h 11 v2) = v1 → WP D ad ca none M_MW_holdsTrue 0 [(0, .ref (ad 0)), (1, vI v2), (2, vI (h 0 5))] [] h (RI (fun r6 h5 => ((r6 = 0 → WP D ad ca sc M_MW_reasonToRaise 2 [(0, .ref (ad 0)), (1, vI v1), (2, vI (v2 + 1))] [] h5 Q) ∧ (¬ r6 = 0 → Q (some (vI v2)) h5))))))))) : WP D ad ca sc M_MW_reasonToRaise 2 [(0, .ref (ad 0)), (1, vI v1), (2, vI v2)] [] h Q := by
  refine P_iload_n 2 d_MW_reasonToRaise_2 rfl rfl ?_
  refine P_aload_n 0 d_MW_reasonToRaise_3 rfl rfl ?_
  refine G_MW_laws tw_200 d_MW_reasonToRaise_4 ?_
  refine G_LA_count tw_111 d_MW_reasonToRaise_7 (fun i1 => ?_)
  refine P_icmp_ge 46 d_MW_reasonToRaise_10 (by decide) g2 i1 (fun c => ?_) (fun c => ?_)
  · have hF := hF.1 c
    refine P_bipush d_MW_reasonToRaise_46 (by decide) ?_
    exact P_iret d_MW_reasonToRaise_48 rfl hF
  · have hF := hF.2 (Int.not_le.mp c)
    refine P_aload_n 0 d_MW_reasonToRaise_13 rfl rfl ?_
    refine G_MW_laws tw_200 d_MW_reasonToRaise_14 ?_
    refine G_LA_levels tw_103 d_MW_reasonToRaise_17 ?_
    refine P_iload_n 2 d_MW_reasonToRaise_20 rfl rfl ?_
    obtain ⟨b2, hF⟩ := hF
    refine L_11 d_MW_reasonToRaise_21 b2 (fun i3 => ?_)
    refine P_iload_n 1 d_MW_reasonToRaise_22 rfl rfl ?_
    refine P_icmp_ne 40 d_MW_reasonToRaise_23 (by decide) i3 g1 (fun c => ?_) (fun c => ?_)
    · have hF := hF.1 c
      refine P_iinc (lv' := [(0, .ref (ad 0)), (1, vI v1), (2, vI (v2 + 1))]) 2 [1, 2, 0] d_MW_reasonToRaise_40 rfl (by decide) rfl ?_
      refine P_goto 2 d_MW_reasonToRaise_43 (by decide) ?_
      refine P_sub (lv' := [(0, .ref (ad 0)), (1, vI v1), (2, vI (v2 + 1))]) [0, 1, 2] rfl ?_
      exact hF
    · have hF := hF.2 c
      refine P_aload_n 0 d_MW_reasonToRaise_26 rfl rfl ?_
      refine P_iload_n 2 d_MW_reasonToRaise_27 rfl rfl ?_
      refine P_aload_n 0 d_MW_reasonToRaise_28 rfl rfl ?_
      refine G_MW_today tw_203 d_MW_reasonToRaise_29 (fun i4 => ?_)
      refine V_MW_holdsTrue tw_404 d_MW_reasonToRaise_32 (by decide) (Nat.le_of_ble_eq_true rfl) hF (fun r6 h5 i7 hF => ?_)
      refine P_if_eq 40 d_MW_reasonToRaise_35 (by decide) i7 (fun c => ?_) (fun c => ?_)
      · have hF := hF.1 c
        refine P_iinc (lv' := [(0, .ref (ad 0)), (1, vI v1), (2, vI (v2 + 1))]) 2 [1, 2, 0] d_MW_reasonToRaise_40 rfl (by decide) rfl ?_
        refine P_goto 2 d_MW_reasonToRaise_43 (by decide) ?_
        refine P_sub (lv' := [(0, .ref (ad 0)), (1, vI v1), (2, vI (v2 + 1))]) [0, 1, 2] rfl ?_
        exact hF
      · have hF := hF.2 c
        refine P_iload_n 2 d_MW_reasonToRaise_38 rfl rfl ?_
        exact P_iret d_MW_reasonToRaise_39 rfl hF
theorem F_MW_endToday_0  (hF : WP D ad ca none M_MW_wantedToday 0 [(0, .ref (ad 0))] [] h (RI (fun r2 h1 => ((r2 ≤ (h1 0 6) → (((h1 0 6) ≤ r2 → WP D ad ca sc M_MW_endToday 44 [(0, .ref (ad 0))] [vI 0, .ref (ad 0)] h1 Q) ∧ (r2 < (h1 0 6) → WP D ad ca sc M_MW_endToday 44 [(0, .ref (ad 0))] [vI ((h1 0 7) + 1), .ref (ad 0)] h1 Q))) ∧ ((h1 0 6) < r2 → WP D ad ca none M_MW_reasonToRaise 0 [(0, .ref (ad 0)), (1, vI r2)] [] h1 (RI (fun r8 h7 => WP D ad ca none M_MW_setLevel 0 [(0, .ref (ad 0)), (1, vI r2), (2, vI r8)] [] h7 (RI (fun r11 h10 => Q none h10))))))))) : WP D ad ca sc M_MW_endToday 0 [(0, .ref (ad 0))] [] h Q := by
  refine P_aload_n 0 d_MW_endToday_0 rfl rfl ?_
  refine V_MW_wantedToday tw_420 d_MW_endToday_1 (by decide) (Nat.le_of_ble_eq_true rfl) hF (fun r2 h1 i3 hF => ?_)
  refine P_istore_n (lv' := [(0, .ref (ad 0)), (1, vI r2)]) [1, 0] d_MW_endToday_4 rfl (by decide) rfl ?_
  refine P_iload_n 1 d_MW_endToday_5 rfl rfl ?_
  refine P_aload_n 0 d_MW_endToday_6 rfl rfl ?_
  refine G_MW_level tw_204 d_MW_endToday_7 (fun i4 => ?_)
  refine P_icmp_le 25 d_MW_endToday_10 (by decide) i3 i4 (fun c => ?_) (fun c => ?_)
  · have hF := hF.1 c
    refine P_aload_n 0 d_MW_endToday_25 rfl rfl ?_
    refine P_iload_n 1 d_MW_endToday_26 rfl rfl ?_
    refine P_aload_n 0 d_MW_endToday_27 rfl rfl ?_
    refine G_MW_level tw_204 d_MW_endToday_28 (fun i5 => ?_)
    refine P_icmp_ge 43 d_MW_endToday_31 (by decide) i3 i5 (fun c => ?_) (fun c => ?_)
    · have hF := hF.1 c
      refine P_iconst d_MW_endToday_43 ?_
      refine P_sub (lv' := [(0, .ref (ad 0))]) [0] rfl ?_
      exact hF
    · have hF := hF.2 (Int.not_le.mp c)
      refine P_aload_n 0 d_MW_endToday_34 rfl rfl ?_
      refine G_MW_calm tw_205 d_MW_endToday_35 (fun i6 => ?_)
      refine P_iconst d_MW_endToday_38 ?_
      refine P_iadd d_MW_endToday_39 ?_
      refine P_goto 44 d_MW_endToday_40 (by decide) ?_
      refine P_sub (lv' := [(0, .ref (ad 0))]) [0] rfl ?_
      exact hF
  · have hF := hF.2 (Int.not_le.mp c)
    refine P_aload_n 0 d_MW_endToday_13 rfl rfl ?_
    refine P_iload_n 1 d_MW_endToday_14 rfl rfl ?_
    refine P_aload_n 0 d_MW_endToday_15 rfl rfl ?_
    refine P_iload_n 1 d_MW_endToday_16 rfl rfl ?_
    refine V_MW_reasonToRaise tw_428 d_MW_endToday_17 (by decide) (Nat.le_of_ble_eq_true rfl) hF (fun r8 h7 i9 hF => ?_)
    refine V_MW_setLevel tw_432 d_MW_endToday_20 (by decide) (Nat.le_of_ble_eq_true rfl) hF (fun r11 h10 i12 hF => ?_)
    refine P_pop d_MW_endToday_23 rfl ?_
    exact P_vret d_MW_endToday_24 rfl hF
theorem F_MW_endToday_44 (s0 : Int) (q0 : InR s0) (hF : ((s0 < (h 0 8) → Q none (up h 0 7 s0)) ∧ ((h 0 8) ≤ s0 → (((h 0 6) ≤ 0 → Q none (up h 0 7 s0)) ∧ (0 < (h 0 6) → WP D ad ca none M_MW_setLevel 0 [(0, .ref (ad 0)), (1, vI ((h 0 6) - 1)), (2, vI 21)] [] (up h 0 7 s0) (RI (fun r6 h5 => Q none h5))))))) : WP D ad ca sc M_MW_endToday 44 [(0, .ref (ad 0))] [vI s0, .ref (ad 0)] h Q := by
  refine S_MW_calm tw_205 d_MW_endToday_44 q0 ?_
  refine P_aload_n 0 d_MW_endToday_47 rfl rfl ?_
  refine G_MW_calm tw_205 d_MW_endToday_48 (fun i1 => ?_)
  refine P_aload_n 0 d_MW_endToday_51 rfl rfl ?_
  refine G_MW_restDays tw_206 d_MW_endToday_52 (fun i2 => ?_)
  refine P_icmp_lt 78 d_MW_endToday_55 (by decide) i1 i2 (fun c => ?_) (fun c => ?_)
  · have hF := hF.1 c
    exact P_vret d_MW_endToday_78 rfl hF
  · have hF := hF.2 (Int.not_lt.mp c)
    refine P_aload_n 0 d_MW_endToday_58 rfl rfl ?_
    refine G_MW_level tw_204 d_MW_endToday_59 (fun i3 => ?_)
    refine P_if_le 78 d_MW_endToday_62 (by decide) i3 (fun c => ?_) (fun c => ?_)
    · have hF := hF.1 c
      exact P_vret d_MW_endToday_78 rfl hF
    · have hF := hF.2 (Int.not_le.mp c)
      refine P_aload_n 0 d_MW_endToday_65 rfl rfl ?_
      refine P_aload_n 0 d_MW_endToday_66 rfl rfl ?_
      refine G_MW_level tw_204 d_MW_endToday_67 (fun i4 => ?_)
      refine P_iconst d_MW_endToday_70 ?_
      refine P_isub d_MW_endToday_71 ?_
      refine P_bipush d_MW_endToday_72 (by decide) ?_
      refine V_MW_setLevel tw_432 d_MW_endToday_74 (by decide) (Nat.le_of_ble_eq_true rfl) hF (fun r6 h5 i7 hF => ?_)
      refine P_pop d_MW_endToday_77 rfl ?_
      exact P_vret d_MW_endToday_78 rfl hF
theorem F_MW_setLevel_0 (v1 v2 : Int) (g1 : InR v1) (g2 : InR v2) (hF : WP D ad ca none M_ME_add 0 [(0, .ref (ad 15)), (1, vI 0), (2, vI (h 0 5)), (3, vI v1), (4, vI v2)] [] (up (up h 0 6 v1) 0 7 0) (RI (fun r3 h2 => Q (some (vI r3)) h2))) : WP D ad ca sc M_MW_setLevel 0 [(0, .ref (ad 0)), (1, vI v1), (2, vI v2)] [] h Q := by
  refine P_aload_n 0 d_MW_setLevel_0 rfl rfl ?_
  refine P_iload_n 1 d_MW_setLevel_1 rfl rfl ?_
  refine S_MW_level tw_204 d_MW_setLevel_2 g1 ?_
  refine P_aload_n 0 d_MW_setLevel_5 rfl rfl ?_
  refine P_iconst d_MW_setLevel_6 ?_
  refine S_MW_calm tw_205 d_MW_setLevel_7 ⟨by decide, by decide⟩ ?_
  refine P_aload_n 0 d_MW_setLevel_10 rfl rfl ?_
  refine G_MW_messages tw_201 d_MW_setLevel_11 ?_
  refine P_iconst d_MW_setLevel_14 ?_
  refine P_aload_n 0 d_MW_setLevel_15 rfl rfl ?_
  refine G_MW_today tw_203 d_MW_setLevel_16 (fun i1 => ?_)
  refine P_iload_n 1 d_MW_setLevel_19 rfl rfl ?_
  refine P_iload_n 2 d_MW_setLevel_20 rfl rfl ?_
  refine V_ME_add tw_436 d_MW_setLevel_21 (by decide) (Nat.le_of_ble_eq_true rfl) hF (fun r3 h2 i4 hF => ?_)
  exact P_iret d_MW_setLevel_24 rfl hF
end Sfwatch
