theorem d_SH_has_0 : decode M_SH_has.2.1 0 = .ok (.iload_n 1, 1) := by decide +kernel
theorem d_SH_has_1 : decode M_SH_has.2.1 1 = .ok (.ifCond .lt 15, 3) := by decide +kernel
theorem d_SH_has_4 : decode M_SH_has.2.1 4 = .ok (.iload_n 1, 1) := by decide +kernel
theorem d_SH_has_5 : decode M_SH_has.2.1 5 = .ok (.aload_n 0, 1) := by decide +kernel
theorem d_SH_has_6 : decode M_SH_has.2.1 6 = .ok (.getfield 31, 3) := by decide +kernel
theorem d_SH_has_9 : decode M_SH_has.2.1 9 = .ok (.if_icmp .ge 7, 3) := by decide +kernel
theorem d_SH_has_12 : decode M_SH_has.2.1 12 = .ok (.iconst 1, 1) := by decide +kernel
theorem d_SH_has_13 : decode M_SH_has.2.1 13 = .ok (.goto 4, 3) := by decide +kernel
theorem d_SH_has_16 : decode M_SH_has.2.1 16 = .ok (.iconst 0, 1) := by decide +kernel
theorem d_SH_has_17 : decode M_SH_has.2.1 17 = .ok (.ireturn, 1) := by decide +kernel
theorem d_SH_band_0 : decode M_SH_band.2.1 0 = .ok (.aload_n 0, 1) := by decide +kernel
theorem d_SH_band_1 : decode M_SH_band.2.1 1 = .ok (.getfield 11, 3) := by decide +kernel
theorem d_SH_band_4 : decode M_SH_band.2.1 4 = .ok (.iload_n 1, 1) := by decide +kernel
theorem d_SH_band_5 : decode M_SH_band.2.1 5 = .ok (.bipush 6, 2) := by decide +kernel
theorem d_SH_band_7 : decode M_SH_band.2.1 7 = .ok (.imul, 1) := by decide +kernel
theorem d_SH_band_8 : decode M_SH_band.2.1 8 = .ok (.iload_n 2, 1) := by decide +kernel
theorem d_SH_band_9 : decode M_SH_band.2.1 9 = .ok (.iadd, 1) := by decide +kernel
theorem d_SH_band_10 : decode M_SH_band.2.1 10 = .ok (.iaload, 1) := by decide +kernel
theorem d_SH_band_11 : decode M_SH_band.2.1 11 = .ok (.ireturn, 1) := by decide +kernel
theorem d_SH_add_0 : decode M_SH_add.2.1 0 = .ok (.aload_n 0, 1) := by decide +kernel
theorem d_SH_add_1 : decode M_SH_add.2.1 1 = .ok (.getfield 31, 3) := by decide +kernel
theorem d_SH_add_4 : decode M_SH_add.2.1 4 = .ok (.istore 4, 2) := by decide +kernel
theorem d_SH_add_6 : decode M_SH_add.2.1 6 = .ok (.lload_n 1, 1) := by decide +kernel
theorem d_SH_add_7 : decode M_SH_add.2.1 7 = .ok (.lstore 5, 2) := by decide +kernel
theorem d_SH_add_9 : decode M_SH_add.2.1 9 = .ok (.iconst 0, 1) := by decide +kernel
theorem d_SH_add_10 : decode M_SH_add.2.1 10 = .ok (.istore 7, 2) := by decide +kernel
theorem d_SH_add_12 : decode M_SH_add.2.1 12 = .ok (.iload 7, 2) := by decide +kernel
theorem d_SH_add_14 : decode M_SH_add.2.1 14 = .ok (.bipush 6, 2) := by decide +kernel
theorem d_SH_add_16 : decode M_SH_add.2.1 16 = .ok (.if_icmp .ge 37, 3) := by decide +kernel
theorem d_SH_add_19 : decode M_SH_add.2.1 19 = .ok (.aload_n 0, 1) := by decide +kernel
theorem d_SH_add_20 : decode M_SH_add.2.1 20 = .ok (.getfield 11, 3) := by decide +kernel
theorem d_SH_add_23 : decode M_SH_add.2.1 23 = .ok (.iload 4, 2) := by decide +kernel
theorem d_SH_add_25 : decode M_SH_add.2.1 25 = .ok (.bipush 6, 2) := by decide +kernel
theorem d_SH_add_27 : decode M_SH_add.2.1 27 = .ok (.imul, 1) := by decide +kernel
theorem d_SH_add_28 : decode M_SH_add.2.1 28 = .ok (.iload 7, 2) := by decide +kernel
theorem d_SH_add_30 : decode M_SH_add.2.1 30 = .ok (.iadd, 1) := by decide +kernel
theorem d_SH_add_31 : decode M_SH_add.2.1 31 = .ok (.lload 5, 2) := by decide +kernel
theorem d_SH_add_33 : decode M_SH_add.2.1 33 = .ok (.ldc2_w 34, 3) := by decide +kernel
theorem d_SH_add_36 : decode M_SH_add.2.1 36 = .ok (.lrem, 1) := by decide +kernel
theorem d_SH_add_37 : decode M_SH_add.2.1 37 = .ok (.l2i, 1) := by decide +kernel
theorem d_SH_add_38 : decode M_SH_add.2.1 38 = .ok (.iastore, 1) := by decide +kernel
theorem d_SH_add_39 : decode M_SH_add.2.1 39 = .ok (.lload 5, 2) := by decide +kernel
theorem d_SH_add_41 : decode M_SH_add.2.1 41 = .ok (.ldc2_w 34, 3) := by decide +kernel
theorem d_SH_add_44 : decode M_SH_add.2.1 44 = .ok (.ldiv, 1) := by decide +kernel
theorem d_SH_add_45 : decode M_SH_add.2.1 45 = .ok (.lstore 5, 2) := by decide +kernel
theorem d_SH_add_47 : decode M_SH_add.2.1 47 = .ok (.iinc 7 1, 3) := by decide +kernel
theorem d_SH_add_50 : decode M_SH_add.2.1 50 = .ok (.goto (-38), 3) := by decide +kernel
theorem d_SH_add_53 : decode M_SH_add.2.1 53 = .ok (.aload_n 0, 1) := by decide +kernel
theorem d_SH_add_54 : decode M_SH_add.2.1 54 = .ok (.getfield 15, 3) := by decide +kernel
theorem d_SH_add_57 : decode M_SH_add.2.1 57 = .ok (.iload 4, 2) := by decide +kernel
theorem d_SH_add_59 : decode M_SH_add.2.1 59 = .ok (.iload_n 3, 1) := by decide +kernel
theorem d_SH_add_60 : decode M_SH_add.2.1 60 = .ok (.iastore, 1) := by decide +kernel
theorem d_SH_add_61 : decode M_SH_add.2.1 61 = .ok (.aload_n 0, 1) := by decide +kernel
theorem d_SH_add_62 : decode M_SH_add.2.1 62 = .ok (.getfield 18, 3) := by decide +kernel
theorem d_SH_add_65 : decode M_SH_add.2.1 65 = .ok (.iload 4, 2) := by decide +kernel
theorem d_SH_add_67 : decode M_SH_add.2.1 67 = .ok (.aload_n 0, 1) := by decide +kernel
theorem d_SH_add_68 : decode M_SH_add.2.1 68 = .ok (.iload 4, 2) := by decide +kernel
theorem d_SH_add_70 : decode M_SH_add.2.1 70 = .ok (.invokevirtual 36, 3) := by decide +kernel
theorem d_SH_add_73 : decode M_SH_add.2.1 73 = .ok (.iastore, 1) := by decide +kernel
theorem d_SH_add_74 : decode M_SH_add.2.1 74 = .ok (.aload_n 0, 1) := by decide +kernel
theorem d_SH_add_75 : decode M_SH_add.2.1 75 = .ok (.iload 4, 2) := by decide +kernel
theorem d_SH_add_77 : decode M_SH_add.2.1 77 = .ok (.invokevirtual 40, 3) := by decide +kernel
theorem d_SH_add_80 : decode M_SH_add.2.1 80 = .ok (.aload_n 0, 1) := by decide +kernel
theorem d_SH_add_81 : decode M_SH_add.2.1 81 = .ok (.iload 4, 2) := by decide +kernel
theorem d_SH_add_83 : decode M_SH_add.2.1 83 = .ok (.iconst 1, 1) := by decide +kernel
theorem d_SH_add_84 : decode M_SH_add.2.1 84 = .ok (.iadd, 1) := by decide +kernel
theorem d_SH_add_85 : decode M_SH_add.2.1 85 = .ok (.putfield 31, 3) := by decide +kernel
theorem d_SH_add_88 : decode M_SH_add.2.1 88 = .ok (.iload 4, 2) := by decide +kernel
theorem d_SH_add_90 : decode M_SH_add.2.1 90 = .ok (.ireturn, 1) := by decide +kernel
theorem d_SH_kindOf_0 : decode M_SH_kindOf.2.1 0 = .ok (.aload_n 0, 1) := by decide +kernel
theorem d_SH_kindOf_1 : decode M_SH_kindOf.2.1 1 = .ok (.iload_n 1, 1) := by decide +kernel
theorem d_SH_kindOf_2 : decode M_SH_kindOf.2.1 2 = .ok (.iconst 0, 1) := by decide +kernel
theorem d_SH_kindOf_3 : decode M_SH_kindOf.2.1 3 = .ok (.invokevirtual 44, 3) := by decide +kernel
theorem d_SH_kindOf_6 : decode M_SH_kindOf.2.1 6 = .ok (.aload_n 0, 1) := by decide +kernel
theorem d_SH_kindOf_7 : decode M_SH_kindOf.2.1 7 = .ok (.iload_n 1, 1) := by decide +kernel
theorem d_SH_kindOf_8 : decode M_SH_kindOf.2.1 8 = .ok (.iconst 1, 1) := by decide +kernel
theorem d_SH_kindOf_9 : decode M_SH_kindOf.2.1 9 = .ok (.invokevirtual 44, 3) := by decide +kernel
theorem d_SH_kindOf_12 : decode M_SH_kindOf.2.1 12 = .ok (.iadd, 1) := by decide +kernel
theorem d_SH_kindOf_13 : decode M_SH_kindOf.2.1 13 = .ok (.aload_n 0, 1) := by decide +kernel
theorem d_SH_kindOf_14 : decode M_SH_kindOf.2.1 14 = .ok (.iload_n 1, 1) := by decide +kernel
theorem d_SH_kindOf_15 : decode M_SH_kindOf.2.1 15 = .ok (.iconst 2, 1) := by decide +kernel
theorem d_SH_kindOf_16 : decode M_SH_kindOf.2.1 16 = .ok (.invokevirtual 44, 3) := by decide +kernel
theorem d_SH_kindOf_19 : decode M_SH_kindOf.2.1 19 = .ok (.iadd, 1) := by decide +kernel
theorem d_SH_kindOf_20 : decode M_SH_kindOf.2.1 20 = .ok (.istore_n 2, 1) := by decide +kernel
theorem d_SH_kindOf_21 : decode M_SH_kindOf.2.1 21 = .ok (.aload_n 0, 1) := by decide +kernel
theorem d_SH_kindOf_22 : decode M_SH_kindOf.2.1 22 = .ok (.iload_n 1, 1) := by decide +kernel
theorem d_SH_kindOf_23 : decode M_SH_kindOf.2.1 23 = .ok (.iconst 3, 1) := by decide +kernel
theorem d_SH_kindOf_24 : decode M_SH_kindOf.2.1 24 = .ok (.invokevirtual 44, 3) := by decide +kernel
theorem d_SH_kindOf_27 : decode M_SH_kindOf.2.1 27 = .ok (.aload_n 0, 1) := by decide +kernel
theorem d_SH_kindOf_28 : decode M_SH_kindOf.2.1 28 = .ok (.iload_n 1, 1) := by decide +kernel
theorem d_SH_kindOf_29 : decode M_SH_kindOf.2.1 29 = .ok (.iconst 4, 1) := by decide +kernel
theorem d_SH_kindOf_30 : decode M_SH_kindOf.2.1 30 = .ok (.invokevirtual 44, 3) := by decide +kernel
theorem d_SH_kindOf_33 : decode M_SH_kindOf.2.1 33 = .ok (.iadd, 1) := by decide +kernel
theorem d_SH_kindOf_34 : decode M_SH_kindOf.2.1 34 = .ok (.aload_n 0, 1) := by decide +kernel
theorem d_SH_kindOf_35 : decode M_SH_kindOf.2.1 35 = .ok (.iload_n 1, 1) := by decide +kernel
theorem d_SH_kindOf_36 : decode M_SH_kindOf.2.1 36 = .ok (.iconst 5, 1) := by decide +kernel
theorem d_SH_kindOf_37 : decode M_SH_kindOf.2.1 37 = .ok (.invokevirtual 44, 3) := by decide +kernel
theorem d_SH_kindOf_40 : decode M_SH_kindOf.2.1 40 = .ok (.iadd, 1) := by decide +kernel
theorem d_SH_kindOf_41 : decode M_SH_kindOf.2.1 41 = .ok (.istore_n 3, 1) := by decide +kernel
theorem d_SH_kindOf_42 : decode M_SH_kindOf.2.1 42 = .ok (.iload_n 2, 1) := by decide +kernel
theorem d_SH_kindOf_43 : decode M_SH_kindOf.2.1 43 = .ok (.iconst 2, 1) := by decide +kernel
theorem d_SH_kindOf_44 : decode M_SH_kindOf.2.1 44 = .ok (.iload_n 3, 1) := by decide +kernel
theorem d_SH_kindOf_45 : decode M_SH_kindOf.2.1 45 = .ok (.imul, 1) := by decide +kernel
theorem d_SH_kindOf_46 : decode M_SH_kindOf.2.1 46 = .ok (.if_icmp .lt 5, 3) := by decide +kernel
theorem d_SH_kindOf_49 : decode M_SH_kindOf.2.1 49 = .ok (.iconst 0, 1) := by decide +kernel
theorem d_SH_kindOf_50 : decode M_SH_kindOf.2.1 50 = .ok (.ireturn, 1) := by decide +kernel
theorem d_SH_kindOf_51 : decode M_SH_kindOf.2.1 51 = .ok (.iload_n 3, 1) := by decide +kernel
theorem d_SH_kindOf_52 : decode M_SH_kindOf.2.1 52 = .ok (.iconst 2, 1) := by decide +kernel
theorem d_SH_kindOf_53 : decode M_SH_kindOf.2.1 53 = .ok (.iload_n 2, 1) := by decide +kernel
theorem d_SH_kindOf_54 : decode M_SH_kindOf.2.1 54 = .ok (.imul, 1) := by decide +kernel
theorem d_SH_kindOf_55 : decode M_SH_kindOf.2.1 55 = .ok (.if_icmp .lt 7, 3) := by decide +kernel
theorem d_SH_kindOf_58 : decode M_SH_kindOf.2.1 58 = .ok (.iconst 1, 1) := by decide +kernel
theorem d_SH_kindOf_59 : decode M_SH_kindOf.2.1 59 = .ok (.goto 4, 3) := by decide +kernel
theorem d_SH_kindOf_62 : decode M_SH_kindOf.2.1 62 = .ok (.iconst 2, 1) := by decide +kernel
theorem d_SH_kindOf_63 : decode M_SH_kindOf.2.1 63 = .ok (.ireturn, 1) := by decide +kernel
theorem d_SH_product_0 : decode M_SH_product.2.1 0 = .ok (.lconst 0, 1) := by decide +kernel
theorem d_SH_product_1 : decode M_SH_product.2.1 1 = .ok (.lstore_n 3, 1) := by decide +kernel
theorem d_SH_product_2 : decode M_SH_product.2.1 2 = .ok (.iconst 0, 1) := by decide +kernel
theorem d_SH_product_3 : decode M_SH_product.2.1 3 = .ok (.istore 5, 2) := by decide +kernel
theorem d_SH_product_5 : decode M_SH_product.2.1 5 = .ok (.iload 5, 2) := by decide +kernel
theorem d_SH_product_7 : decode M_SH_product.2.1 7 = .ok (.bipush 6, 2) := by decide +kernel
theorem d_SH_product_9 : decode M_SH_product.2.1 9 = .ok (.if_icmp .ge 28, 3) := by decide +kernel
theorem d_SH_product_12 : decode M_SH_product.2.1 12 = .ok (.lload_n 3, 1) := by decide +kernel
theorem d_SH_product_13 : decode M_SH_product.2.1 13 = .ok (.aload_n 0, 1) := by decide +kernel
theorem d_SH_product_14 : decode M_SH_product.2.1 14 = .ok (.iload_n 1, 1) := by decide +kernel
theorem d_SH_product_15 : decode M_SH_product.2.1 15 = .ok (.iload 5, 2) := by decide +kernel
theorem d_SH_product_17 : decode M_SH_product.2.1 17 = .ok (.invokevirtual 44, 3) := by decide +kernel
theorem d_SH_product_20 : decode M_SH_product.2.1 20 = .ok (.aload_n 0, 1) := by decide +kernel
theorem d_SH_product_21 : decode M_SH_product.2.1 21 = .ok (.iload_n 2, 1) := by decide +kernel
theorem d_SH_product_22 : decode M_SH_product.2.1 22 = .ok (.iload 5, 2) := by decide +kernel
theorem d_SH_product_24 : decode M_SH_product.2.1 24 = .ok (.invokevirtual 44, 3) := by decide +kernel
theorem d_SH_product_27 : decode M_SH_product.2.1 27 = .ok (.imul, 1) := by decide +kernel
theorem d_SH_product_28 : decode M_SH_product.2.1 28 = .ok (.i2l, 1) := by decide +kernel
theorem d_SH_product_29 : decode M_SH_product.2.1 29 = .ok (.ladd, 1) := by decide +kernel
theorem d_SH_product_30 : decode M_SH_product.2.1 30 = .ok (.lstore_n 3, 1) := by decide +kernel
theorem d_SH_product_31 : decode M_SH_product.2.1 31 = .ok (.iinc 5 1, 3) := by decide +kernel
theorem d_SH_product_34 : decode M_SH_product.2.1 34 = .ok (.goto (-29), 3) := by decide +kernel
theorem d_SH_product_37 : decode M_SH_product.2.1 37 = .ok (.lload_n 3, 1) := by decide +kernel
theorem d_SH_product_38 : decode M_SH_product.2.1 38 = .ok (.lreturn, 1) := by decide +kernel
theorem d_SH_areAlike_0 : decode M_SH_areAlike.2.1 0 = .ok (.aload_n 0, 1) := by decide +kernel
theorem d_SH_areAlike_1 : decode M_SH_areAlike.2.1 1 = .ok (.iload_n 1, 1) := by decide +kernel
theorem d_SH_areAlike_2 : decode M_SH_areAlike.2.1 2 = .ok (.iload_n 2, 1) := by decide +kernel
theorem d_SH_areAlike_3 : decode M_SH_areAlike.2.1 3 = .ok (.invokevirtual 48, 3) := by decide +kernel
theorem d_SH_areAlike_6 : decode M_SH_areAlike.2.1 6 = .ok (.lstore_n 3, 1) := by decide +kernel
theorem d_SH_areAlike_7 : decode M_SH_areAlike.2.1 7 = .ok (.ldc2_w 52, 3) := by decide +kernel
theorem d_SH_areAlike_10 : decode M_SH_areAlike.2.1 10 = .ok (.lload_n 3, 1) := by decide +kernel
theorem d_SH_areAlike_11 : decode M_SH_areAlike.2.1 11 = .ok (.lmul, 1) := by decide +kernel
theorem d_SH_areAlike_12 : decode M_SH_areAlike.2.1 12 = .ok (.lload_n 3, 1) := by decide +kernel
theorem d_SH_areAlike_13 : decode M_SH_areAlike.2.1 13 = .ok (.lmul, 1) := by decide +kernel
theorem d_SH_areAlike_14 : decode M_SH_areAlike.2.1 14 = .ok (.aload_n 0, 1) := by decide +kernel
theorem d_SH_areAlike_15 : decode M_SH_areAlike.2.1 15 = .ok (.getfield 27, 3) := by decide +kernel
theorem d_SH_areAlike_18 : decode M_SH_areAlike.2.1 18 = .ok (.i2l, 1) := by decide +kernel
theorem d_SH_areAlike_19 : decode M_SH_areAlike.2.1 19 = .ok (.aload_n 0, 1) := by decide +kernel
theorem d_SH_areAlike_20 : decode M_SH_areAlike.2.1 20 = .ok (.iload_n 1, 1) := by decide +kernel
theorem d_SH_areAlike_21 : decode M_SH_areAlike.2.1 21 = .ok (.iload_n 1, 1) := by decide +kernel
theorem d_SH_areAlike_22 : decode M_SH_areAlike.2.1 22 = .ok (.invokevirtual 48, 3) := by decide +kernel
theorem d_SH_areAlike_25 : decode M_SH_areAlike.2.1 25 = .ok (.lmul, 1) := by decide +kernel
theorem d_SH_areAlike_26 : decode M_SH_areAlike.2.1 26 = .ok (.aload_n 0, 1) := by decide +kernel
theorem d_SH_areAlike_27 : decode M_SH_areAlike.2.1 27 = .ok (.iload_n 2, 1) := by decide +kernel
theorem d_SH_areAlike_28 : decode M_SH_areAlike.2.1 28 = .ok (.iload_n 2, 1) := by decide +kernel
theorem d_SH_areAlike_29 : decode M_SH_areAlike.2.1 29 = .ok (.invokevirtual 48, 3) := by decide +kernel
theorem d_SH_areAlike_32 : decode M_SH_areAlike.2.1 32 = .ok (.lmul, 1) := by decide +kernel
theorem d_SH_areAlike_33 : decode M_SH_areAlike.2.1 33 = .ok (.lcmp, 1) := by decide +kernel
theorem d_SH_areAlike_34 : decode M_SH_areAlike.2.1 34 = .ok (.ifCond .lt 7, 3) := by decide +kernel
theorem d_SH_areAlike_37 : decode M_SH_areAlike.2.1 37 = .ok (.iconst 1, 1) := by decide +kernel
theorem d_SH_areAlike_38 : decode M_SH_areAlike.2.1 38 = .ok (.goto 4, 3) := by decide +kernel
theorem d_SH_areAlike_41 : decode M_SH_areAlike.2.1 41 = .ok (.iconst 0, 1) := by decide +kernel
theorem d_SH_areAlike_42 : decode M_SH_areAlike.2.1 42 = .ok (.ireturn, 1) := by decide +kernel
theorem d_SH_askLikeness_0 : decode M_SH_askLikeness.2.1 0 = .ok (.aload_n 0, 1) := by decide +kernel
theorem d_SH_askLikeness_1 : decode M_SH_askLikeness.2.1 1 = .ok (.iload_n 1, 1) := by decide +kernel
theorem d_SH_askLikeness_2 : decode M_SH_askLikeness.2.1 2 = .ok (.putfield 27, 3) := by decide +kernel
theorem d_SH_askLikeness_5 : decode M_SH_askLikeness.2.1 5 = .ok (.iconst 0, 1) := by decide +kernel
theorem d_SH_askLikeness_6 : decode M_SH_askLikeness.2.1 6 = .ok (.istore_n 2, 1) := by decide +kernel
theorem d_SH_askLikeness_7 : decode M_SH_askLikeness.2.1 7 = .ok (.iload_n 2, 1) := by decide +kernel
theorem d_SH_askLikeness_8 : decode M_SH_askLikeness.2.1 8 = .ok (.aload_n 0, 1) := by decide +kernel
theorem d_SH_askLikeness_9 : decode M_SH_askLikeness.2.1 9 = .ok (.getfield 31, 3) := by decide +kernel
theorem d_SH_askLikeness_12 : decode M_SH_askLikeness.2.1 12 = .ok (.if_icmp .ge 14, 3) := by decide +kernel
theorem d_SH_askLikeness_15 : decode M_SH_askLikeness.2.1 15 = .ok (.aload_n 0, 1) := by decide +kernel
theorem d_SH_askLikeness_16 : decode M_SH_askLikeness.2.1 16 = .ok (.iload_n 2, 1) := by decide +kernel
theorem d_SH_askLikeness_17 : decode M_SH_askLikeness.2.1 17 = .ok (.invokevirtual 40, 3) := by decide +kernel
theorem d_SH_askLikeness_20 : decode M_SH_askLikeness.2.1 20 = .ok (.iinc 2 1, 3) := by decide +kernel
theorem d_SH_askLikeness_23 : decode M_SH_askLikeness.2.1 23 = .ok (.goto (-16), 3) := by decide +kernel
theorem d_SH_askLikeness_26 : decode M_SH_askLikeness.2.1 26 = .ok (.return_, 1) := by decide +kernel
theorem d_SH_joinFamilies_0 : decode M_SH_joinFamilies.2.1 0 = .ok (.aload_n 0, 1) := by decide +kernel
theorem d_SH_joinFamilies_1 : decode M_SH_joinFamilies.2.1 1 = .ok (.getfield 21, 3) := by decide +kernel
theorem d_SH_joinFamilies_4 : decode M_SH_joinFamilies.2.1 4 = .ok (.iload_n 1, 1) := by decide +kernel
theorem d_SH_joinFamilies_5 : decode M_SH_joinFamilies.2.1 5 = .ok (.iload_n 1, 1) := by decide +kernel
theorem d_SH_joinFamilies_6 : decode M_SH_joinFamilies.2.1 6 = .ok (.iastore, 1) := by decide +kernel
theorem d_SH_joinFamilies_7 : decode M_SH_joinFamilies.2.1 7 = .ok (.iconst 0, 1) := by decide +kernel
theorem d_SH_joinFamilies_8 : decode M_SH_joinFamilies.2.1 8 = .ok (.istore_n 2, 1) := by decide +kernel
theorem d_SH_joinFamilies_9 : decode M_SH_joinFamilies.2.1 9 = .ok (.iload_n 2, 1) := by decide +kernel
theorem d_SH_joinFamilies_10 : decode M_SH_joinFamilies.2.1 10 = .ok (.iload_n 1, 1) := by decide +kernel
theorem d_SH_joinFamilies_11 : decode M_SH_joinFamilies.2.1 11 = .ok (.if_icmp .ge 50, 3) := by decide +kernel
theorem d_SH_joinFamilies_14 : decode M_SH_joinFamilies.2.1 14 = .ok (.aload_n 0, 1) := by decide +kernel
theorem d_SH_joinFamilies_15 : decode M_SH_joinFamilies.2.1 15 = .ok (.getfield 21, 3) := by decide +kernel
theorem d_SH_joinFamilies_18 : decode M_SH_joinFamilies.2.1 18 = .ok (.iload_n 2, 1) := by decide +kernel
theorem d_SH_joinFamilies_19 : decode M_SH_joinFamilies.2.1 19 = .ok (.iaload, 1) := by decide +kernel
theorem d_SH_joinFamilies_20 : decode M_SH_joinFamilies.2.1 20 = .ok (.aload_n 0, 1) := by decide +kernel
theorem d_SH_joinFamilies_21 : decode M_SH_joinFamilies.2.1 21 = .ok (.getfield 21, 3) := by decide +kernel
theorem d_SH_joinFamilies_24 : decode M_SH_joinFamilies.2.1 24 = .ok (.iload_n 1, 1) := by decide +kernel
theorem d_SH_joinFamilies_25 : decode M_SH_joinFamilies.2.1 25 = .ok (.iaload, 1) := by decide +kernel
theorem d_SH_joinFamilies_26 : decode M_SH_joinFamilies.2.1 26 = .ok (.if_icmp .eq 29, 3) := by decide +kernel
theorem d_SH_joinFamilies_29 : decode M_SH_joinFamilies.2.1 29 = .ok (.aload_n 0, 1) := by decide +kernel
theorem d_SH_joinFamilies_30 : decode M_SH_joinFamilies.2.1 30 = .ok (.iload_n 2, 1) := by decide +kernel
theorem d_SH_joinFamilies_31 : decode M_SH_joinFamilies.2.1 31 = .ok (.iload_n 1, 1) := by decide +kernel
theorem d_SH_joinFamilies_32 : decode M_SH_joinFamilies.2.1 32 = .ok (.invokevirtual 54, 3) := by decide +kernel
theorem d_SH_joinFamilies_35 : decode M_SH_joinFamilies.2.1 35 = .ok (.ifCond .eq 20, 3) := by decide +kernel
theorem d_SH_joinFamilies_38 : decode M_SH_joinFamilies.2.1 38 = .ok (.aload_n 0, 1) := by decide +kernel
theorem d_SH_joinFamilies_39 : decode M_SH_joinFamilies.2.1 39 = .ok (.aload_n 0, 1) := by decide +kernel
theorem d_SH_joinFamilies_40 : decode M_SH_joinFamilies.2.1 40 = .ok (.getfield 21, 3) := by decide +kernel
theorem d_SH_joinFamilies_43 : decode M_SH_joinFamilies.2.1 43 = .ok (.iload_n 2, 1) := by decide +kernel
theorem d_SH_joinFamilies_44 : decode M_SH_joinFamilies.2.1 44 = .ok (.iaload, 1) := by decide +kernel
theorem d_SH_joinFamilies_45 : decode M_SH_joinFamilies.2.1 45 = .ok (.aload_n 0, 1) := by decide +kernel
theorem d_SH_joinFamilies_46 : decode M_SH_joinFamilies.2.1 46 = .ok (.getfield 21, 3) := by decide +kernel
theorem d_SH_joinFamilies_49 : decode M_SH_joinFamilies.2.1 49 = .ok (.iload_n 1, 1) := by decide +kernel
theorem d_SH_joinFamilies_50 : decode M_SH_joinFamilies.2.1 50 = .ok (.iaload, 1) := by decide +kernel
theorem d_SH_joinFamilies_51 : decode M_SH_joinFamilies.2.1 51 = .ok (.iload_n 1, 1) := by decide +kernel
theorem d_SH_joinFamilies_52 : decode M_SH_joinFamilies.2.1 52 = .ok (.invokevirtual 58, 3) := by decide +kernel
theorem d_SH_joinFamilies_55 : decode M_SH_joinFamilies.2.1 55 = .ok (.iinc 2 1, 3) := by decide +kernel
theorem d_SH_joinFamilies_58 : decode M_SH_joinFamilies.2.1 58 = .ok (.goto (-49), 3) := by decide +kernel
theorem d_SH_joinFamilies_61 : decode M_SH_joinFamilies.2.1 61 = .ok (.return_, 1) := by decide +kernel
theorem d_SH_mergeFamilies_0 : decode M_SH_mergeFamilies.2.1 0 = .ok (.iload_n 1, 1) := by decide +kernel
theorem d_SH_mergeFamilies_1 : decode M_SH_mergeFamilies.2.1 1 = .ok (.iload_n 2, 1) := by decide +kernel
theorem d_SH_mergeFamilies_2 : decode M_SH_mergeFamilies.2.1 2 = .ok (.invokestatic 62, 3) := by decide +kernel
theorem d_SH_mergeFamilies_5 : decode M_SH_mergeFamilies.2.1 5 = .ok (.istore 4, 2) := by decide +kernel
theorem d_SH_mergeFamilies_7 : decode M_SH_mergeFamilies.2.1 7 = .ok (.iconst 0, 1) := by decide +kernel
theorem d_SH_mergeFamilies_8 : decode M_SH_mergeFamilies.2.1 8 = .ok (.istore 5, 2) := by decide +kernel
theorem d_SH_mergeFamilies_10 : decode M_SH_mergeFamilies.2.1 10 = .ok (.iload 5, 2) := by decide +kernel
theorem d_SH_mergeFamilies_12 : decode M_SH_mergeFamilies.2.1 12 = .ok (.iload_n 3, 1) := by decide +kernel
theorem d_SH_mergeFamilies_13 : decode M_SH_mergeFamilies.2.1 13 = .ok (.if_icmp .gt 40, 3) := by decide +kernel
theorem d_SH_mergeFamilies_16 : decode M_SH_mergeFamilies.2.1 16 = .ok (.aload_n 0, 1) := by decide +kernel
theorem d_SH_mergeFamilies_17 : decode M_SH_mergeFamilies.2.1 17 = .ok (.getfield 21, 3) := by decide +kernel
theorem d_SH_mergeFamilies_20 : decode M_SH_mergeFamilies.2.1 20 = .ok (.iload 5, 2) := by decide +kernel
theorem d_SH_mergeFamilies_22 : decode M_SH_mergeFamilies.2.1 22 = .ok (.iaload, 1) := by decide +kernel
theorem d_SH_mergeFamilies_23 : decode M_SH_mergeFamilies.2.1 23 = .ok (.iload_n 1, 1) := by decide +kernel
theorem d_SH_mergeFamilies_24 : decode M_SH_mergeFamilies.2.1 24 = .ok (.if_icmp .eq 14, 3) := by decide +kernel
theorem d_SH_mergeFamilies_27 : decode M_SH_mergeFamilies.2.1 27 = .ok (.aload_n 0, 1) := by decide +kernel
theorem d_SH_mergeFamilies_28 : decode M_SH_mergeFamilies.2.1 28 = .ok (.getfield 21, 3) := by decide +kernel
theorem d_SH_mergeFamilies_31 : decode M_SH_mergeFamilies.2.1 31 = .ok (.iload 5, 2) := by decide +kernel
theorem d_SH_mergeFamilies_33 : decode M_SH_mergeFamilies.2.1 33 = .ok (.iaload, 1) := by decide +kernel
theorem d_SH_mergeFamilies_34 : decode M_SH_mergeFamilies.2.1 34 = .ok (.iload_n 2, 1) := by decide +kernel
theorem d_SH_mergeFamilies_35 : decode M_SH_mergeFamilies.2.1 35 = .ok (.if_icmp .ne 12, 3) := by decide +kernel
theorem d_SH_mergeFamilies_38 : decode M_SH_mergeFamilies.2.1 38 = .ok (.aload_n 0, 1) := by decide +kernel
theorem d_SH_mergeFamilies_39 : decode M_SH_mergeFamilies.2.1 39 = .ok (.getfield 21, 3) := by decide +kernel
theorem d_SH_mergeFamilies_42 : decode M_SH_mergeFamilies.2.1 42 = .ok (.iload 5, 2) := by decide +kernel
theorem d_SH_mergeFamilies_44 : decode M_SH_mergeFamilies.2.1 44 = .ok (.iload 4, 2) := by decide +kernel
theorem d_SH_mergeFamilies_46 : decode M_SH_mergeFamilies.2.1 46 = .ok (.iastore, 1) := by decide +kernel
theorem d_SH_mergeFamilies_47 : decode M_SH_mergeFamilies.2.1 47 = .ok (.iinc 5 1, 3) := by decide +kernel
theorem d_SH_mergeFamilies_50 : decode M_SH_mergeFamilies.2.1 50 = .ok (.goto (-40), 3) := by decide +kernel
theorem d_SH_mergeFamilies_53 : decode M_SH_mergeFamilies.2.1 53 = .ok (.return_, 1) := by decide +kernel
theorem d_SH_countFamilies_0 : decode M_SH_countFamilies.2.1 0 = .ok (.iconst 0, 1) := by decide +kernel
theorem d_SH_countFamilies_1 : decode M_SH_countFamilies.2.1 1 = .ok (.istore_n 1, 1) := by decide +kernel
theorem d_SH_countFamilies_2 : decode M_SH_countFamilies.2.1 2 = .ok (.iconst 0, 1) := by decide +kernel
theorem d_SH_countFamilies_3 : decode M_SH_countFamilies.2.1 3 = .ok (.istore_n 2, 1) := by decide +kernel
theorem d_SH_countFamilies_4 : decode M_SH_countFamilies.2.1 4 = .ok (.iload_n 2, 1) := by decide +kernel
theorem d_SH_countFamilies_5 : decode M_SH_countFamilies.2.1 5 = .ok (.aload_n 0, 1) := by decide +kernel
theorem d_SH_countFamilies_6 : decode M_SH_countFamilies.2.1 6 = .ok (.getfield 31, 3) := by decide +kernel
theorem d_SH_countFamilies_9 : decode M_SH_countFamilies.2.1 9 = .ok (.if_icmp .ge 22, 3) := by decide +kernel
theorem d_SH_countFamilies_12 : decode M_SH_countFamilies.2.1 12 = .ok (.aload_n 0, 1) := by decide +kernel
theorem d_SH_countFamilies_13 : decode M_SH_countFamilies.2.1 13 = .ok (.getfield 21, 3) := by decide +kernel
theorem d_SH_countFamilies_16 : decode M_SH_countFamilies.2.1 16 = .ok (.iload_n 2, 1) := by decide +kernel
theorem d_SH_countFamilies_17 : decode M_SH_countFamilies.2.1 17 = .ok (.iaload, 1) := by decide +kernel
theorem d_SH_countFamilies_18 : decode M_SH_countFamilies.2.1 18 = .ok (.iload_n 2, 1) := by decide +kernel
theorem d_SH_countFamilies_19 : decode M_SH_countFamilies.2.1 19 = .ok (.if_icmp .ne 6, 3) := by decide +kernel
theorem d_SH_countFamilies_22 : decode M_SH_countFamilies.2.1 22 = .ok (.iinc 1 1, 3) := by decide +kernel
theorem d_SH_countFamilies_25 : decode M_SH_countFamilies.2.1 25 = .ok (.iinc 2 1, 3) := by decide +kernel
theorem d_SH_countFamilies_28 : decode M_SH_countFamilies.2.1 28 = .ok (.goto (-24), 3) := by decide +kernel
theorem d_SH_countFamilies_31 : decode M_SH_countFamilies.2.1 31 = .ok (.iload_n 1, 1) := by decide +kernel
theorem d_SH_countFamilies_32 : decode M_SH_countFamilies.2.1 32 = .ok (.ireturn, 1) := by decide +kernel
theorem d_SH_familyByOrder_0 : decode M_SH_familyByOrder.2.1 0 = .ok (.iconst 0, 1) := by decide +kernel
theorem d_SH_familyByOrder_1 : decode M_SH_familyByOrder.2.1 1 = .ok (.istore_n 2, 1) := by decide +kernel
theorem d_SH_familyByOrder_2 : decode M_SH_familyByOrder.2.1 2 = .ok (.iconst 0, 1) := by decide +kernel
theorem d_SH_familyByOrder_3 : decode M_SH_familyByOrder.2.1 3 = .ok (.istore_n 3, 1) := by decide +kernel
theorem d_SH_familyByOrder_4 : decode M_SH_familyByOrder.2.1 4 = .ok (.iload_n 3, 1) := by decide +kernel
theorem d_SH_familyByOrder_5 : decode M_SH_familyByOrder.2.1 5 = .ok (.aload_n 0, 1) := by decide +kernel
theorem d_SH_familyByOrder_6 : decode M_SH_familyByOrder.2.1 6 = .ok (.getfield 31, 3) := by decide +kernel
theorem d_SH_familyByOrder_9 : decode M_SH_familyByOrder.2.1 9 = .ok (.if_icmp .ge 29, 3) := by decide +kernel
theorem d_SH_familyByOrder_12 : decode M_SH_familyByOrder.2.1 12 = .ok (.aload_n 0, 1) := by decide +kernel
theorem d_SH_familyByOrder_13 : decode M_SH_familyByOrder.2.1 13 = .ok (.getfield 21, 3) := by decide +kernel
theorem d_SH_familyByOrder_16 : decode M_SH_familyByOrder.2.1 16 = .ok (.iload_n 3, 1) := by decide +kernel
theorem d_SH_familyByOrder_17 : decode M_SH_familyByOrder.2.1 17 = .ok (.iaload, 1) := by decide +kernel
theorem d_SH_familyByOrder_18 : decode M_SH_familyByOrder.2.1 18 = .ok (.iload_n 3, 1) := by decide +kernel
theorem d_SH_familyByOrder_19 : decode M_SH_familyByOrder.2.1 19 = .ok (.if_icmp .ne 13, 3) := by decide +kernel
theorem d_SH_familyByOrder_22 : decode M_SH_familyByOrder.2.1 22 = .ok (.iload_n 2, 1) := by decide +kernel
theorem d_SH_familyByOrder_23 : decode M_SH_familyByOrder.2.1 23 = .ok (.iload_n 1, 1) := by decide +kernel
theorem d_SH_familyByOrder_24 : decode M_SH_familyByOrder.2.1 24 = .ok (.if_icmp .ne 5, 3) := by decide +kernel
theorem d_SH_familyByOrder_27 : decode M_SH_familyByOrder.2.1 27 = .ok (.iload_n 3, 1) := by decide +kernel
theorem d_SH_familyByOrder_28 : decode M_SH_familyByOrder.2.1 28 = .ok (.ireturn, 1) := by decide +kernel
theorem d_SH_familyByOrder_29 : decode M_SH_familyByOrder.2.1 29 = .ok (.iinc 2 1, 3) := by decide +kernel
theorem d_SH_familyByOrder_32 : decode M_SH_familyByOrder.2.1 32 = .ok (.iinc 3 1, 3) := by decide +kernel
theorem d_SH_familyByOrder_35 : decode M_SH_familyByOrder.2.1 35 = .ok (.goto (-31), 3) := by decide +kernel
theorem d_SH_familyByOrder_38 : decode M_SH_familyByOrder.2.1 38 = .ok (.bipush (-6), 2) := by decide +kernel
theorem d_SH_familyByOrder_40 : decode M_SH_familyByOrder.2.1 40 = .ok (.ireturn, 1) := by decide +kernel
theorem d_SH_countKin_0 : decode M_SH_countKin.2.1 0 = .ok (.iconst 0, 1) := by decide +kernel
theorem d_SH_countKin_1 : decode M_SH_countKin.2.1 1 = .ok (.istore_n 2, 1) := by decide +kernel
theorem d_SH_countKin_2 : decode M_SH_countKin.2.1 2 = .ok (.iconst 0, 1) := by decide +kernel
theorem d_SH_countKin_3 : decode M_SH_countKin.2.1 3 = .ok (.istore_n 3, 1) := by decide +kernel
theorem d_SH_countKin_4 : decode M_SH_countKin.2.1 4 = .ok (.iload_n 3, 1) := by decide +kernel
theorem d_SH_countKin_5 : decode M_SH_countKin.2.1 5 = .ok (.aload_n 0, 1) := by decide +kernel
theorem d_SH_countKin_6 : decode M_SH_countKin.2.1 6 = .ok (.getfield 31, 3) := by decide +kernel
theorem d_SH_countKin_9 : decode M_SH_countKin.2.1 9 = .ok (.if_icmp .ge 27, 3) := by decide +kernel
theorem d_SH_countKin_12 : decode M_SH_countKin.2.1 12 = .ok (.aload_n 0, 1) := by decide +kernel
theorem d_SH_countKin_13 : decode M_SH_countKin.2.1 13 = .ok (.getfield 21, 3) := by decide +kernel
theorem d_SH_countKin_16 : decode M_SH_countKin.2.1 16 = .ok (.iload_n 3, 1) := by decide +kernel
theorem d_SH_countKin_17 : decode M_SH_countKin.2.1 17 = .ok (.iaload, 1) := by decide +kernel
theorem d_SH_countKin_18 : decode M_SH_countKin.2.1 18 = .ok (.aload_n 0, 1) := by decide +kernel
theorem d_SH_countKin_19 : decode M_SH_countKin.2.1 19 = .ok (.getfield 21, 3) := by decide +kernel
theorem d_SH_countKin_22 : decode M_SH_countKin.2.1 22 = .ok (.iload_n 1, 1) := by decide +kernel
theorem d_SH_countKin_23 : decode M_SH_countKin.2.1 23 = .ok (.iaload, 1) := by decide +kernel
theorem d_SH_countKin_24 : decode M_SH_countKin.2.1 24 = .ok (.if_icmp .ne 6, 3) := by decide +kernel
theorem d_SH_countKin_27 : decode M_SH_countKin.2.1 27 = .ok (.iinc 2 1, 3) := by decide +kernel
theorem d_SH_countKin_30 : decode M_SH_countKin.2.1 30 = .ok (.iinc 3 1, 3) := by decide +kernel
theorem d_SH_countKin_33 : decode M_SH_countKin.2.1 33 = .ok (.goto (-29), 3) := by decide +kernel
theorem d_SH_countKin_36 : decode M_SH_countKin.2.1 36 = .ok (.iload_n 2, 1) := by decide +kernel
theorem d_SH_countKin_37 : decode M_SH_countKin.2.1 37 = .ok (.ireturn, 1) := by decide +kernel
theorem d_SH_isOfDays_0 : decode M_SH_isOfDays.2.1 0 = .ok (.aload_n 0, 1) := by decide +kernel
theorem d_SH_isOfDays_1 : decode M_SH_isOfDays.2.1 1 = .ok (.getfield 15, 3) := by decide +kernel
theorem d_SH_isOfDays_4 : decode M_SH_isOfDays.2.1 4 = .ok (.iload_n 1, 1) := by decide +kernel
theorem d_SH_isOfDays_5 : decode M_SH_isOfDays.2.1 5 = .ok (.iaload, 1) := by decide +kernel
theorem d_SH_isOfDays_6 : decode M_SH_isOfDays.2.1 6 = .ok (.iload_n 2, 1) := by decide +kernel
theorem d_SH_isOfDays_7 : decode M_SH_isOfDays.2.1 7 = .ok (.if_icmp .lt 17, 3) := by decide +kernel
theorem d_SH_isOfDays_10 : decode M_SH_isOfDays.2.1 10 = .ok (.aload_n 0, 1) := by decide +kernel
theorem d_SH_isOfDays_11 : decode M_SH_isOfDays.2.1 11 = .ok (.getfield 15, 3) := by decide +kernel
theorem d_SH_isOfDays_14 : decode M_SH_isOfDays.2.1 14 = .ok (.iload_n 1, 1) := by decide +kernel
theorem d_SH_isOfDays_15 : decode M_SH_isOfDays.2.1 15 = .ok (.iaload, 1) := by decide +kernel
theorem d_SH_isOfDays_16 : decode M_SH_isOfDays.2.1 16 = .ok (.iload_n 3, 1) := by decide +kernel
theorem d_SH_isOfDays_17 : decode M_SH_isOfDays.2.1 17 = .ok (.if_icmp .gt 7, 3) := by decide +kernel
theorem d_SH_isOfDays_20 : decode M_SH_isOfDays.2.1 20 = .ok (.iconst 1, 1) := by decide +kernel
theorem d_SH_isOfDays_21 : decode M_SH_isOfDays.2.1 21 = .ok (.goto 4, 3) := by decide +kernel
theorem d_SH_isOfDays_24 : decode M_SH_isOfDays.2.1 24 = .ok (.iconst 0, 1) := by decide +kernel
theorem d_SH_isOfDays_25 : decode M_SH_isOfDays.2.1 25 = .ok (.ireturn, 1) := by decide +kernel
theorem d_SH_countOfDays_0 : decode M_SH_countOfDays.2.1 0 = .ok (.iconst 0, 1) := by decide +kernel
theorem d_SH_countOfDays_1 : decode M_SH_countOfDays.2.1 1 = .ok (.istore_n 3, 1) := by decide +kernel
theorem d_SH_countOfDays_2 : decode M_SH_countOfDays.2.1 2 = .ok (.iconst 0, 1) := by decide +kernel
theorem d_SH_countOfDays_3 : decode M_SH_countOfDays.2.1 3 = .ok (.istore 4, 2) := by decide +kernel
theorem d_SH_countOfDays_5 : decode M_SH_countOfDays.2.1 5 = .ok (.iload 4, 2) := by decide +kernel
theorem d_SH_countOfDays_7 : decode M_SH_countOfDays.2.1 7 = .ok (.aload_n 0, 1) := by decide +kernel
theorem d_SH_countOfDays_8 : decode M_SH_countOfDays.2.1 8 = .ok (.getfield 31, 3) := by decide +kernel
theorem d_SH_countOfDays_11 : decode M_SH_countOfDays.2.1 11 = .ok (.if_icmp .ge 23, 3) := by decide +kernel
theorem d_SH_countOfDays_14 : decode M_SH_countOfDays.2.1 14 = .ok (.aload_n 0, 1) := by decide +kernel
theorem d_SH_countOfDays_15 : decode M_SH_countOfDays.2.1 15 = .ok (.iload 4, 2) := by decide +kernel
theorem d_SH_countOfDays_17 : decode M_SH_countOfDays.2.1 17 = .ok (.iload_n 1, 1) := by decide +kernel
theorem d_SH_countOfDays_18 : decode M_SH_countOfDays.2.1 18 = .ok (.iload_n 2, 1) := by decide +kernel
theorem d_SH_countOfDays_19 : decode M_SH_countOfDays.2.1 19 = .ok (.invokevirtual 67, 3) := by decide +kernel
theorem d_SH_countOfDays_22 : decode M_SH_countOfDays.2.1 22 = .ok (.ifCond .eq 6, 3) := by decide +kernel
theorem d_SH_countOfDays_25 : decode M_SH_countOfDays.2.1 25 = .ok (.iinc 3 1, 3) := by decide +kernel
theorem d_SH_countOfDays_28 : decode M_SH_countOfDays.2.1 28 = .ok (.iinc 4 1, 3) := by decide +kernel
theorem d_SH_countOfDays_31 : decode M_SH_countOfDays.2.1 31 = .ok (.goto (-26), 3) := by decide +kernel
theorem d_SH_countOfDays_34 : decode M_SH_countOfDays.2.1 34 = .ok (.iload_n 3, 1) := by decide +kernel
theorem d_SH_countOfDays_35 : decode M_SH_countOfDays.2.1 35 = .ok (.ireturn, 1) := by decide +kernel
theorem d_SH_countOfKind_0 : decode M_SH_countOfKind.2.1 0 = .ok (.iconst 0, 1) := by decide +kernel
theorem d_SH_countOfKind_1 : decode M_SH_countOfKind.2.1 1 = .ok (.istore 4, 2) := by decide +kernel
theorem d_SH_countOfKind_3 : decode M_SH_countOfKind.2.1 3 = .ok (.iconst 0, 1) := by decide +kernel
theorem d_SH_countOfKind_4 : decode M_SH_countOfKind.2.1 4 = .ok (.istore 5, 2) := by decide +kernel
theorem d_SH_countOfKind_6 : decode M_SH_countOfKind.2.1 6 = .ok (.iload 5, 2) := by decide +kernel
theorem d_SH_countOfKind_8 : decode M_SH_countOfKind.2.1 8 = .ok (.aload_n 0, 1) := by decide +kernel
theorem d_SH_countOfKind_9 : decode M_SH_countOfKind.2.1 9 = .ok (.getfield 31, 3) := by decide +kernel
theorem d_SH_countOfKind_12 : decode M_SH_countOfKind.2.1 12 = .ok (.if_icmp .ge 34, 3) := by decide +kernel
theorem d_SH_countOfKind_15 : decode M_SH_countOfKind.2.1 15 = .ok (.aload_n 0, 1) := by decide +kernel
theorem d_SH_countOfKind_16 : decode M_SH_countOfKind.2.1 16 = .ok (.getfield 18, 3) := by decide +kernel
theorem d_SH_countOfKind_19 : decode M_SH_countOfKind.2.1 19 = .ok (.iload 5, 2) := by decide +kernel
theorem d_SH_countOfKind_21 : decode M_SH_countOfKind.2.1 21 = .ok (.iaload, 1) := by decide +kernel
theorem d_SH_countOfKind_22 : decode M_SH_countOfKind.2.1 22 = .ok (.iload_n 1, 1) := by decide +kernel
theorem d_SH_countOfKind_23 : decode M_SH_countOfKind.2.1 23 = .ok (.if_icmp .ne 17, 3) := by decide +kernel
theorem d_SH_countOfKind_26 : decode M_SH_countOfKind.2.1 26 = .ok (.aload_n 0, 1) := by decide +kernel
theorem d_SH_countOfKind_27 : decode M_SH_countOfKind.2.1 27 = .ok (.iload 5, 2) := by decide +kernel
theorem d_SH_countOfKind_29 : decode M_SH_countOfKind.2.1 29 = .ok (.iload_n 2, 1) := by decide +kernel
theorem d_SH_countOfKind_30 : decode M_SH_countOfKind.2.1 30 = .ok (.iload_n 3, 1) := by decide +kernel
theorem d_SH_countOfKind_31 : decode M_SH_countOfKind.2.1 31 = .ok (.invokevirtual 67, 3) := by decide +kernel
theorem d_SH_countOfKind_34 : decode M_SH_countOfKind.2.1 34 = .ok (.ifCond .eq 6, 3) := by decide +kernel
theorem d_SH_countOfKind_37 : decode M_SH_countOfKind.2.1 37 = .ok (.iinc 4 1, 3) := by decide +kernel
theorem d_SH_countOfKind_40 : decode M_SH_countOfKind.2.1 40 = .ok (.iinc 5 1, 3) := by decide +kernel
theorem d_SH_countOfKind_43 : decode M_SH_countOfKind.2.1 43 = .ok (.goto (-37), 3) := by decide +kernel
theorem d_SH_countOfKind_46 : decode M_SH_countOfKind.2.1 46 = .ok (.iload 4, 2) := by decide +kernel
theorem d_SH_countOfKind_48 : decode M_SH_countOfKind.2.1 48 = .ok (.ireturn, 1) := by decide +kernel
theorem d_SH_countOfGreatestFamily_0 : decode M_SH_countOfGreatestFamily.2.1 0 = .ok (.iconst 0, 1) := by decide +kernel
theorem d_SH_countOfGreatestFamily_1 : decode M_SH_countOfGreatestFamily.2.1 1 = .ok (.istore_n 3, 1) := by decide +kernel
theorem d_SH_countOfGreatestFamily_2 : decode M_SH_countOfGreatestFamily.2.1 2 = .ok (.iconst 0, 1) := by decide +kernel
theorem d_SH_countOfGreatestFamily_3 : decode M_SH_countOfGreatestFamily.2.1 3 = .ok (.istore 4, 2) := by decide +kernel
theorem d_SH_countOfGreatestFamily_5 : decode M_SH_countOfGreatestFamily.2.1 5 = .ok (.iload 4, 2) := by decide +kernel
theorem d_SH_countOfGreatestFamily_7 : decode M_SH_countOfGreatestFamily.2.1 7 = .ok (.aload_n 0, 1) := by decide +kernel
theorem d_SH_countOfGreatestFamily_8 : decode M_SH_countOfGreatestFamily.2.1 8 = .ok (.getfield 31, 3) := by decide +kernel
theorem d_SH_countOfGreatestFamily_11 : decode M_SH_countOfGreatestFamily.2.1 11 = .ok (.if_icmp .ge 60, 3) := by decide +kernel
theorem d_SH_countOfGreatestFamily_14 : decode M_SH_countOfGreatestFamily.2.1 14 = .ok (.aload_n 0, 1) := by decide +kernel
theorem d_SH_countOfGreatestFamily_15 : decode M_SH_countOfGreatestFamily.2.1 15 = .ok (.getfield 24, 3) := by decide +kernel
theorem d_SH_countOfGreatestFamily_18 : decode M_SH_countOfGreatestFamily.2.1 18 = .ok (.iload 4, 2) := by decide +kernel
theorem d_SH_countOfGreatestFamily_20 : decode M_SH_countOfGreatestFamily.2.1 20 = .ok (.iconst 0, 1) := by decide +kernel
theorem d_SH_countOfGreatestFamily_21 : decode M_SH_countOfGreatestFamily.2.1 21 = .ok (.iastore, 1) := by decide +kernel
theorem d_SH_countOfGreatestFamily_22 : decode M_SH_countOfGreatestFamily.2.1 22 = .ok (.aload_n 0, 1) := by decide +kernel
theorem d_SH_countOfGreatestFamily_23 : decode M_SH_countOfGreatestFamily.2.1 23 = .ok (.iload 4, 2) := by decide +kernel
theorem d_SH_countOfGreatestFamily_25 : decode M_SH_countOfGreatestFamily.2.1 25 = .ok (.iload_n 1, 1) := by decide +kernel
theorem d_SH_countOfGreatestFamily_26 : decode M_SH_countOfGreatestFamily.2.1 26 = .ok (.iload_n 2, 1) := by decide +kernel
theorem d_SH_countOfGreatestFamily_27 : decode M_SH_countOfGreatestFamily.2.1 27 = .ok (.invokevirtual 67, 3) := by decide +kernel
theorem d_SH_countOfGreatestFamily_30 : decode M_SH_countOfGreatestFamily.2.1 30 = .ok (.ifCond .eq 35, 3) := by decide +kernel
theorem d_SH_countOfGreatestFamily_33 : decode M_SH_countOfGreatestFamily.2.1 33 = .ok (.aload_n 0, 1) := by decide +kernel
theorem d_SH_countOfGreatestFamily_34 : decode M_SH_countOfGreatestFamily.2.1 34 = .ok (.getfield 21, 3) := by decide +kernel
theorem d_SH_countOfGreatestFamily_37 : decode M_SH_countOfGreatestFamily.2.1 37 = .ok (.iload 4, 2) := by decide +kernel
theorem d_SH_countOfGreatestFamily_39 : decode M_SH_countOfGreatestFamily.2.1 39 = .ok (.iaload, 1) := by decide +kernel
theorem d_SH_countOfGreatestFamily_40 : decode M_SH_countOfGreatestFamily.2.1 40 = .ok (.istore 5, 2) := by decide +kernel
theorem d_SH_countOfGreatestFamily_42 : decode M_SH_countOfGreatestFamily.2.1 42 = .ok (.aload_n 0, 1) := by decide +kernel
theorem d_SH_countOfGreatestFamily_43 : decode M_SH_countOfGreatestFamily.2.1 43 = .ok (.getfield 24, 3) := by decide +kernel
theorem d_SH_countOfGreatestFamily_46 : decode M_SH_countOfGreatestFamily.2.1 46 = .ok (.iload 5, 2) := by decide +kernel
theorem d_SH_countOfGreatestFamily_48 : decode M_SH_countOfGreatestFamily.2.1 48 = .ok (.dup2, 1) := by decide +kernel
theorem d_SH_countOfGreatestFamily_49 : decode M_SH_countOfGreatestFamily.2.1 49 = .ok (.iaload, 1) := by decide +kernel
theorem d_SH_countOfGreatestFamily_50 : decode M_SH_countOfGreatestFamily.2.1 50 = .ok (.iconst 1, 1) := by decide +kernel
theorem d_SH_countOfGreatestFamily_51 : decode M_SH_countOfGreatestFamily.2.1 51 = .ok (.iadd, 1) := by decide +kernel
theorem d_SH_countOfGreatestFamily_52 : decode M_SH_countOfGreatestFamily.2.1 52 = .ok (.iastore, 1) := by decide +kernel
theorem d_SH_countOfGreatestFamily_53 : decode M_SH_countOfGreatestFamily.2.1 53 = .ok (.iload_n 3, 1) := by decide +kernel
theorem d_SH_countOfGreatestFamily_54 : decode M_SH_countOfGreatestFamily.2.1 54 = .ok (.aload_n 0, 1) := by decide +kernel
theorem d_SH_countOfGreatestFamily_55 : decode M_SH_countOfGreatestFamily.2.1 55 = .ok (.getfield 24, 3) := by decide +kernel
theorem d_SH_countOfGreatestFamily_58 : decode M_SH_countOfGreatestFamily.2.1 58 = .ok (.iload 5, 2) := by decide +kernel
theorem d_SH_countOfGreatestFamily_60 : decode M_SH_countOfGreatestFamily.2.1 60 = .ok (.iaload, 1) := by decide +kernel
theorem d_SH_countOfGreatestFamily_61 : decode M_SH_countOfGreatestFamily.2.1 61 = .ok (.invokestatic 71, 3) := by decide +kernel
theorem d_SH_countOfGreatestFamily_64 : decode M_SH_countOfGreatestFamily.2.1 64 = .ok (.istore_n 3, 1) := by decide +kernel
theorem d_SH_countOfGreatestFamily_65 : decode M_SH_countOfGreatestFamily.2.1 65 = .ok (.iinc 4 1, 3) := by decide +kernel
theorem d_SH_countOfGreatestFamily_68 : decode M_SH_countOfGreatestFamily.2.1 68 = .ok (.goto (-63), 3) := by decide +kernel
theorem d_SH_countOfGreatestFamily_71 : decode M_SH_countOfGreatestFamily.2.1 71 = .ok (.iload_n 3, 1) := by decide +kernel
theorem d_SH_countOfGreatestFamily_72 : decode M_SH_countOfGreatestFamily.2.1 72 = .ok (.ireturn, 1) := by decide +kernel
section Sfshakes
variable {D : va_G} {ad : Nat → Nat} {ca : Nat → ClassId} {sc : SC} {h : Hp} {Q : Option Value → Hp → Prop}
theorem F_SH_has_0 (v1 : Int) (g1 : InR v1) (hF : ((v1 < 0 → Q (some (vI 0)) h) ∧ (0 ≤ v1 → (((h 1 5) ≤ v1 → Q (some (vI 0)) h) ∧ (v1 < (h 1 5) → Q (some (vI 1)) h))))) : WP D ad ca sc M_SH_has 0 [(0, .ref (ad 1)), (1, vI v1)] [] h Q := by
  refine P_iload_n 1 d_SH_has_0 rfl rfl ?_
  refine P_if_lt 16 d_SH_has_1 (by decide) g1 (fun c => ?_) (fun c => ?_)
  · have hF := hF.1 c
    refine P_iconst d_SH_has_16 ?_
    exact P_zret d_SH_has_17 rfl (Or.inl rfl) hF
  · have hF := hF.2 (Int.not_lt.mp c)
    refine P_iload_n 1 d_SH_has_4 rfl rfl ?_
    refine P_aload_n 0 d_SH_has_5 rfl rfl ?_
    refine G_SH_count tw_60 d_SH_has_6 (fun i1 => ?_)
    refine P_icmp_ge 16 d_SH_has_9 (by decide) g1 i1 (fun c => ?_) (fun c => ?_)
    · have hF := hF.1 c
      refine P_iconst d_SH_has_16 ?_
      exact P_zret d_SH_has_17 rfl (Or.inl rfl) hF
    · have hF := hF.2 (Int.not_le.mp c)
      refine P_iconst d_SH_has_12 ?_
      refine P_goto 17 d_SH_has_13 (by decide) ?_
      exact P_zret d_SH_has_17 rfl (Or.inr rfl) hF
theorem F_SH_band_0 (v1 v2 : Int) (g1 : InR v1) (g2 : InR v2) (hF : (0 ≤ ((v1 * 6) + v2) ∧ ((v1 * 6) + v2) < 480) ∧ Q (some (vI (h 2 ((v1 * 6) + v2)))) h) : WP D ad ca sc M_SH_band 0 [(0, .ref (ad 1)), (1, vI v1), (2, vI v2)] [] h Q := by
  refine P_aload_n 0 d_SH_band_0 rfl rfl ?_
  refine G_SH_bands tw_52 d_SH_band_1 ?_
  refine P_iload_n 1 d_SH_band_4 rfl rfl ?_
  refine P_bipush d_SH_band_5 (by decide) ?_
  refine P_imul d_SH_band_7 ?_
  refine P_iload_n 2 d_SH_band_8 rfl rfl ?_
  refine P_iadd d_SH_band_9 ?_
  obtain ⟨b1, hF⟩ := hF
  refine L_2 d_SH_band_10 b1 (fun i2 => ?_)
  exact P_iret d_SH_band_11 rfl hF
theorem F_SH_add_0 (v1 v3 : Int) (g1 : InL v1) (g3 : InR v3) (hF : WP D ad ca sc M_SH_add 12 [(0, .ref (ad 1)), (3, vI v3), (4, vI (h 1 5)), (5, vL v1), (7, vI 0)] [] h Q) : WP D ad ca sc M_SH_add 0 [(0, .ref (ad 1)), (1, vL v1), (3, vI v3)] [] h Q := by
  refine P_aload_n 0 d_SH_add_0 rfl rfl ?_
  refine G_SH_count tw_60 d_SH_add_1 (fun i1 => ?_)
  refine P_istore (lv' := [(0, .ref (ad 1)), (1, vL v1), (3, vI v3), (4, vI (h 1 5))]) [1, 2, 3, 0] d_SH_add_4 (by decide) rfl ?_
  refine P_lload_n 1 d_SH_add_6 rfl rfl ?_
  refine P_lstore (lv' := [(0, .ref (ad 1)), (1, vL v1), (3, vI v3), (4, vI (h 1 5)), (5, vL v1)]) [1, 2, 3, 4, 0] d_SH_add_7 (by decide) rfl ?_
  refine P_iconst d_SH_add_9 ?_
  refine P_istore (lv' := [(0, .ref (ad 1)), (1, vL v1), (3, vI v3), (4, vI (h 1 5)), (5, vL v1), (7, vI 0)]) [1, 2, 3, 4, 5, 0] d_SH_add_10 (by decide) rfl ?_
  refine P_sub (lv' := [(0, .ref (ad 1)), (3, vI v3), (4, vI (h 1 5)), (5, vL v1), (7, vI 0)]) [0, 2, 3, 4, 5] rfl ?_
  exact hF
theorem F_SH_add_12 (v3 v4 v5 v7 : Int) (g3 : InR v3) (g4 : InR v4) (g7 : InR v7) (hF : ((6 ≤ v7 → (0 ≤ v4 ∧ v4 < 80) ∧ WP D ad ca none M_SH_kindOf 0 [(0, .ref (ad 1)), (1, vI v4)] [] (up h 3 v4 v3) (RI (fun r3 h2 => (0 ≤ v4 ∧ v4 < 80) ∧ WP D ad ca none M_SH_joinFamilies 0 [(0, .ref (ad 1)), (1, vI v4)] [] (up h2 4 v4 r3) (RV (fun h6 => (InR (v4 + 1)) ∧ Q (some (vI v4)) (up h6 1 5 (v4 + 1))))))) ∧ (v7 < 6 → (0 ≤ v5 ∧ InL v5) ∧ (0 ≤ ((v4 * 6) + v7) ∧ ((v4 * 6) + v7) < 480) ∧ (InR (v5 % 101)) ∧ (0 ≤ v5 ∧ InL v5) ∧ WP D ad ca sc M_SH_add 12 [(0, .ref (ad 1)), (3, vI v3), (4, vI v4), (5, vL (v5 / 101)), (7, vI (v7 + 1))] [] (up h 2 ((v4 * 6) + v7) (v5 % 101)) Q))) : WP D ad ca sc M_SH_add 12 [(0, .ref (ad 1)), (3, vI v3), (4, vI v4), (5, vL v5), (7, vI v7)] [] h Q := by
  refine P_iload 4 d_SH_add_12 rfl ?_
  refine P_bipush d_SH_add_14 (by decide) ?_
  refine P_icmp_ge 53 d_SH_add_16 (by decide) g7 ⟨by decide, by decide⟩ (fun c => ?_) (fun c => ?_)
  · have hF := hF.1 c
    refine P_aload_n 0 d_SH_add_53 rfl rfl ?_
    refine G_SH_days tw_53 d_SH_add_54 ?_
    refine P_iload 2 d_SH_add_57 rfl ?_
    refine P_iload_n 1 d_SH_add_59 rfl rfl ?_
    obtain ⟨b1, hF⟩ := hF
    refine T_3 d_SH_add_60 b1 g3 ?_
    refine P_aload_n 0 d_SH_add_61 rfl rfl ?_
    refine G_SH_kinds tw_55 d_SH_add_62 ?_
    refine P_iload 2 d_SH_add_65 rfl ?_
    refine P_aload_n 0 d_SH_add_67 rfl rfl ?_
    refine P_iload 2 d_SH_add_68 rfl ?_
    refine V_SH_kindOf tw_245 d_SH_add_70 (by decide) (Nat.le_of_ble_eq_true rfl) hF (fun r3 h2 i4 hF => ?_)
    obtain ⟨b5, hF⟩ := hF
    refine T_4 d_SH_add_73 b5 i4 ?_
    refine P_aload_n 0 d_SH_add_74 rfl rfl ?_
    refine P_iload 2 d_SH_add_75 rfl ?_
    refine V_SH_joinFamilies tw_253 d_SH_add_77 (by decide) (Nat.le_of_ble_eq_true rfl) hF (fun h6 hF => ?_)
    refine P_aload_n 0 d_SH_add_80 rfl rfl ?_
    refine P_iload 2 d_SH_add_81 rfl ?_
    refine P_iconst d_SH_add_83 ?_
    refine P_iadd d_SH_add_84 ?_
    obtain ⟨b7, hF⟩ := hF
    refine S_SH_count tw_60 d_SH_add_85 b7 ?_
    refine P_iload 2 d_SH_add_88 rfl ?_
    exact P_iret d_SH_add_90 rfl hF
  · have hF := hF.2 (Int.not_le.mp c)
    refine P_aload_n 0 d_SH_add_19 rfl rfl ?_
    refine G_SH_bands tw_52 d_SH_add_20 ?_
    refine P_iload 2 d_SH_add_23 rfl ?_
    refine P_bipush d_SH_add_25 (by decide) ?_
    refine P_imul d_SH_add_27 ?_
    refine P_iload 4 d_SH_add_28 rfl ?_
    refine P_iadd d_SH_add_30 ?_
    refine P_lload 3 d_SH_add_31 rfl ?_
    refine P_ldc2 (n := 101) tw_244 (by decide) d_SH_add_33 ?_
    obtain ⟨b8, hF⟩ := hF
    refine P_lrem b8 ⟨by decide, by decide, by decide⟩ d_SH_add_36 ?_
    refine P_l2i d_SH_add_37 ?_
    obtain ⟨b9, hF⟩ := hF
    obtain ⟨b10, hF⟩ := hF
    refine T_2 d_SH_add_38 b9 b10 ?_
    refine P_lload 3 d_SH_add_39 rfl ?_
    refine P_ldc2 (n := 101) tw_244 (by decide) d_SH_add_41 ?_
    obtain ⟨b11, hF⟩ := hF
    refine P_ldiv b11 ⟨by decide, by decide, by decide⟩ d_SH_add_44 ?_
    refine P_lstore (lv' := [(0, .ref (ad 1)), (3, vI v3), (4, vI v4), (5, vL (v5 / 101)), (7, vI v7)]) [1, 2, 3, 0, 4] d_SH_add_45 (by decide) rfl ?_
    refine P_iinc (lv' := [(0, .ref (ad 1)), (3, vI v3), (4, vI v4), (5, vL (v5 / 101)), (7, vI (v7 + 1))]) 4 [1, 2, 3, 4, 0] d_SH_add_47 rfl (by decide) rfl ?_
    refine P_goto 12 d_SH_add_50 (by decide) ?_
    refine P_sub (lv' := [(0, .ref (ad 1)), (3, vI v3), (4, vI v4), (5, vL (v5 / 101)), (7, vI (v7 + 1))]) [0, 1, 2, 3, 4] rfl ?_
    exact hF
theorem F_SH_kindOf_0 (v1 : Int) (g1 : InR v1) (hF : WP D ad ca none M_SH_band 0 [(0, .ref (ad 1)), (1, vI v1), (2, vI 0)] [] h (RI (fun r2 h1 => WP D ad ca none M_SH_band 0 [(0, .ref (ad 1)), (1, vI v1), (2, vI 1)] [] h1 (RI (fun r5 h4 => WP D ad ca none M_SH_band 0 [(0, .ref (ad 1)), (1, vI v1), (2, vI 2)] [] h4 (RI (fun r8 h7 => WP D ad ca none M_SH_band 0 [(0, .ref (ad 1)), (1, vI v1), (2, vI 3)] [] h7 (RI (fun r11 h10 => WP D ad ca none M_SH_band 0 [(0, .ref (ad 1)), (1, vI v1), (2, vI 4)] [] h10 (RI (fun r14 h13 => WP D ad ca none M_SH_band 0 [(0, .ref (ad 1)), (1, vI v1), (2, vI 5)] [] h13 (RI (fun r17 h16 => (InR ((r2 + r5) + r8)) ∧ (InR (2 * ((r11 + r14) + r17))) ∧ ((((r2 + r5) + r8) < (2 * ((r11 + r14) + r17)) → (InR ((r11 + r14) + r17)) ∧ (InR (2 * ((r2 + r5) + r8))) ∧ ((((r11 + r14) + r17) < (2 * ((r2 + r5) + r8)) → Q (some (vI 2)) h16) ∧ ((2 * ((r2 + r5) + r8)) ≤ ((r11 + r14) + r17) → Q (some (vI 1)) h16))) ∧ ((2 * ((r11 + r14) + r17)) ≤ ((r2 + r5) + r8) → Q (some (vI 0)) h16))))))))))))))) : WP D ad ca sc M_SH_kindOf 0 [(0, .ref (ad 1)), (1, vI v1)] [] h Q := by
  refine P_aload_n 0 d_SH_kindOf_0 rfl rfl ?_
  refine P_iload_n 1 d_SH_kindOf_1 rfl rfl ?_
  refine P_iconst d_SH_kindOf_2 ?_
  refine V_SH_band tw_249 d_SH_kindOf_3 (by decide) (Nat.le_of_ble_eq_true rfl) hF (fun r2 h1 i3 hF => ?_)
  refine P_aload_n 0 d_SH_kindOf_6 rfl rfl ?_
  refine P_iload_n 1 d_SH_kindOf_7 rfl rfl ?_
  refine P_iconst d_SH_kindOf_8 ?_
  refine V_SH_band tw_249 d_SH_kindOf_9 (by decide) (Nat.le_of_ble_eq_true rfl) hF (fun r5 h4 i6 hF => ?_)
  refine P_iadd d_SH_kindOf_12 ?_
  refine P_aload_n 0 d_SH_kindOf_13 rfl rfl ?_
  refine P_iload_n 1 d_SH_kindOf_14 rfl rfl ?_
  refine P_iconst d_SH_kindOf_15 ?_
  refine V_SH_band tw_249 d_SH_kindOf_16 (by decide) (Nat.le_of_ble_eq_true rfl) hF (fun r8 h7 i9 hF => ?_)
  refine P_iadd d_SH_kindOf_19 ?_
  refine P_istore_n (lv' := [(0, .ref (ad 1)), (1, vI v1), (2, vI ((r2 + r5) + r8))]) [1, 2, 0] d_SH_kindOf_20 rfl (by decide) rfl ?_
  refine P_aload_n 0 d_SH_kindOf_21 rfl rfl ?_
  refine P_iload_n 1 d_SH_kindOf_22 rfl rfl ?_
  refine P_iconst d_SH_kindOf_23 ?_
  refine V_SH_band tw_249 d_SH_kindOf_24 (by decide) (Nat.le_of_ble_eq_true rfl) hF (fun r11 h10 i12 hF => ?_)
  refine P_aload_n 0 d_SH_kindOf_27 rfl rfl ?_
  refine P_iload_n 1 d_SH_kindOf_28 rfl rfl ?_
  refine P_iconst d_SH_kindOf_29 ?_
  refine V_SH_band tw_249 d_SH_kindOf_30 (by decide) (Nat.le_of_ble_eq_true rfl) hF (fun r14 h13 i15 hF => ?_)
  refine P_iadd d_SH_kindOf_33 ?_
  refine P_aload_n 0 d_SH_kindOf_34 rfl rfl ?_
  refine P_iload_n 1 d_SH_kindOf_35 rfl rfl ?_
  refine P_iconst d_SH_kindOf_36 ?_
  refine V_SH_band tw_249 d_SH_kindOf_37 (by decide) (Nat.le_of_ble_eq_true rfl) hF (fun r17 h16 i18 hF => ?_)
  refine P_iadd d_SH_kindOf_40 ?_
  refine P_istore_n (lv' := [(0, .ref (ad 1)), (1, vI v1), (2, vI ((r2 + r5) + r8)), (3, vI ((r11 + r14) + r17))]) [1, 2, 3, 0] d_SH_kindOf_41 rfl (by decide) rfl ?_
  refine P_iload_n 2 d_SH_kindOf_42 rfl rfl ?_
  refine P_iconst d_SH_kindOf_43 ?_
  refine P_iload_n 3 d_SH_kindOf_44 rfl rfl ?_
  refine P_imul d_SH_kindOf_45 ?_
  obtain ⟨b19, hF⟩ := hF
  obtain ⟨b20, hF⟩ := hF
  refine P_icmp_lt 51 d_SH_kindOf_46 (by decide) b19 b20 (fun c => ?_) (fun c => ?_)
  · have hF := hF.1 c
    refine P_iload_n 3 d_SH_kindOf_51 rfl rfl ?_
    refine P_iconst d_SH_kindOf_52 ?_
    refine P_iload_n 2 d_SH_kindOf_53 rfl rfl ?_
    refine P_imul d_SH_kindOf_54 ?_
    obtain ⟨b21, hF⟩ := hF
    obtain ⟨b22, hF⟩ := hF
    refine P_icmp_lt 62 d_SH_kindOf_55 (by decide) b21 b22 (fun c => ?_) (fun c => ?_)
    · have hF := hF.1 c
      refine P_iconst d_SH_kindOf_62 ?_
      exact P_iret d_SH_kindOf_63 rfl hF
    · have hF := hF.2 (Int.not_lt.mp c)
      refine P_iconst d_SH_kindOf_58 ?_
      refine P_goto 63 d_SH_kindOf_59 (by decide) ?_
      exact P_iret d_SH_kindOf_63 rfl hF
  · have hF := hF.2 (Int.not_lt.mp c)
    refine P_iconst d_SH_kindOf_49 ?_
    exact P_iret d_SH_kindOf_50 rfl hF
theorem F_SH_product_0 (v1 v2 : Int) (g1 : InR v1) (g2 : InR v2) (hF : WP D ad ca sc M_SH_product 5 [(0, .ref (ad 1)), (1, vI v1), (2, vI v2), (3, vL 0), (5, vI 0)] [] h Q) : WP D ad ca sc M_SH_product 0 [(0, .ref (ad 1)), (1, vI v1), (2, vI v2)] [] h Q := by
  refine P_lconst (i := 0) d_SH_product_0 (by decide) ?_
  refine P_lstore_n (lv' := [(0, .ref (ad 1)), (1, vI v1), (2, vI v2), (3, vL 0)]) [1, 2, 3, 0] d_SH_product_1 rfl (by decide) rfl ?_
  refine P_iconst d_SH_product_2 ?_
  refine P_istore (lv' := [(0, .ref (ad 1)), (1, vI v1), (2, vI v2), (3, vL 0), (5, vI 0)]) [1, 2, 3, 4, 0] d_SH_product_3 (by decide) rfl ?_
  refine P_sub (lv' := [(0, .ref (ad 1)), (1, vI v1), (2, vI v2), (3, vL 0), (5, vI 0)]) [0, 1, 2, 3, 4] rfl ?_
  exact hF
theorem F_SH_product_5 (v1 v2 v3 v5 : Int) (g1 : InR v1) (g2 : InR v2) (g5 : InR v5) (hF : ((6 ≤ v5 → Q (some (vL v3)) h) ∧ (v5 < 6 → WP D ad ca none M_SH_band 0 [(0, .ref (ad 1)), (1, vI v1), (2, vI v5)] [] h (RI (fun r2 h1 => WP D ad ca none M_SH_band 0 [(0, .ref (ad 1)), (1, vI v2), (2, vI v5)] [] h1 (RI (fun r5 h4 => (InR (r2 * r5)) ∧ WP D ad ca sc M_SH_product 5 [(0, .ref (ad 1)), (1, vI v1), (2, vI v2), (3, vL (v3 + (r2 * r5))), (5, vI (v5 + 1))] [] h4 Q))))))) : WP D ad ca sc M_SH_product 5 [(0, .ref (ad 1)), (1, vI v1), (2, vI v2), (3, vL v3), (5, vI v5)] [] h Q := by
  refine P_iload 4 d_SH_product_5 rfl ?_
  refine P_bipush d_SH_product_7 (by decide) ?_
  refine P_icmp_ge 37 d_SH_product_9 (by decide) g5 ⟨by decide, by decide⟩ (fun c => ?_) (fun c => ?_)
  · have hF := hF.1 c
    refine P_lload_n 3 d_SH_product_37 rfl rfl ?_
    exact P_lret d_SH_product_38 rfl hF
  · have hF := hF.2 (Int.not_le.mp c)
    refine P_lload_n 3 d_SH_product_12 rfl rfl ?_
    refine P_aload_n 0 d_SH_product_13 rfl rfl ?_
    refine P_iload_n 1 d_SH_product_14 rfl rfl ?_
    refine P_iload 4 d_SH_product_15 rfl ?_
    refine V_SH_band tw_249 d_SH_product_17 (by decide) (Nat.le_of_ble_eq_true rfl) hF (fun r2 h1 i3 hF => ?_)
    refine P_aload_n 0 d_SH_product_20 rfl rfl ?_
    refine P_iload_n 2 d_SH_product_21 rfl rfl ?_
    refine P_iload 4 d_SH_product_22 rfl ?_
    refine V_SH_band tw_249 d_SH_product_24 (by decide) (Nat.le_of_ble_eq_true rfl) hF (fun r5 h4 i6 hF => ?_)
    refine P_imul d_SH_product_27 ?_
    obtain ⟨b7, hF⟩ := hF
    refine P_i2l b7 d_SH_product_28 ?_
    refine P_ladd d_SH_product_29 ?_
    refine P_lstore_n (lv' := [(0, .ref (ad 1)), (1, vI v1), (2, vI v2), (3, vL (v3 + (r2 * r5))), (5, vI v5)]) [1, 2, 3, 0, 4] d_SH_product_30 rfl (by decide) rfl ?_
    refine P_iinc (lv' := [(0, .ref (ad 1)), (1, vI v1), (2, vI v2), (3, vL (v3 + (r2 * r5))), (5, vI (v5 + 1))]) 4 [1, 2, 3, 4, 0] d_SH_product_31 rfl (by decide) rfl ?_
    refine P_goto 5 d_SH_product_34 (by decide) ?_
    refine P_sub (lv' := [(0, .ref (ad 1)), (1, vI v1), (2, vI v2), (3, vL (v3 + (r2 * r5))), (5, vI (v5 + 1))]) [0, 1, 2, 3, 4] rfl ?_
    exact hF
theorem F_SH_areAlike_0 (v1 v2 : Int) (g1 : InR v1) (g2 : InR v2) (hF : WP D ad ca none M_SH_product 0 [(0, .ref (ad 1)), (1, vI v1), (2, vI v2)] [] h (RL (fun r2 h1 => WP D ad ca none M_SH_product 0 [(0, .ref (ad 1)), (1, vI v1), (2, vI v1)] [] h1 (RL (fun r6 h5 => WP D ad ca none M_SH_product 0 [(0, .ref (ad 1)), (1, vI v2), (2, vI v2)] [] h5 (RL (fun r9 h8 => (InL ((100 * r2) * r2)) ∧ (InL (((h1 1 6) * r6) * r9)) ∧ ((((100 * r2) * r2) < (((h1 1 6) * r6) * r9) → Q (some (vI 0)) h8) ∧ ((((h1 1 6) * r6) * r9) ≤ ((100 * r2) * r2) → Q (some (vI 1)) h8))))))))) : WP D ad ca sc M_SH_areAlike 0 [(0, .ref (ad 1)), (1, vI v1), (2, vI v2)] [] h Q := by
  refine P_aload_n 0 d_SH_areAlike_0 rfl rfl ?_
  refine P_iload_n 1 d_SH_areAlike_1 rfl rfl ?_
  refine P_iload_n 2 d_SH_areAlike_2 rfl rfl ?_
  refine V_SH_product tw_261 d_SH_areAlike_3 (by decide) (Nat.le_of_ble_eq_true rfl) hF (fun r2 h1 i3 hF => ?_)
  refine P_lstore_n (lv' := [(0, .ref (ad 1)), (1, vI v1), (2, vI v2), (3, vL r2)]) [1, 2, 3, 0] d_SH_areAlike_6 rfl (by decide) rfl ?_
  refine P_ldc2 (n := 100) tw_265 (by decide) d_SH_areAlike_7 ?_
  refine P_lload_n 3 d_SH_areAlike_10 rfl rfl ?_
  refine P_lmul d_SH_areAlike_11 ?_
  refine P_lload_n 3 d_SH_areAlike_12 rfl rfl ?_
  refine P_lmul d_SH_areAlike_13 ?_
  refine P_aload_n 0 d_SH_areAlike_14 rfl rfl ?_
  refine G_SH_asked tw_62 d_SH_areAlike_15 (fun i4 => ?_)
  refine P_i2l i4 d_SH_areAlike_18 ?_
  refine P_aload_n 0 d_SH_areAlike_19 rfl rfl ?_
  refine P_iload_n 1 d_SH_areAlike_20 rfl rfl ?_
  refine P_iload_n 1 d_SH_areAlike_21 rfl rfl ?_
  refine V_SH_product tw_261 d_SH_areAlike_22 (by decide) (Nat.le_of_ble_eq_true rfl) hF (fun r6 h5 i7 hF => ?_)
  refine P_lmul d_SH_areAlike_25 ?_
  refine P_aload_n 0 d_SH_areAlike_26 rfl rfl ?_
  refine P_iload_n 2 d_SH_areAlike_27 rfl rfl ?_
  refine P_iload_n 2 d_SH_areAlike_28 rfl rfl ?_
  refine V_SH_product tw_261 d_SH_areAlike_29 (by decide) (Nat.le_of_ble_eq_true rfl) hF (fun r9 h8 i10 hF => ?_)
  refine P_lmul d_SH_areAlike_32 ?_
  obtain ⟨b11, hF⟩ := hF
  obtain ⟨b12, hF⟩ := hF
  refine P_lcmp b11 b12 d_SH_areAlike_33 ?_
  refine P_if_lt 41 d_SH_areAlike_34 (by decide) (lc_R _ _) (fun c => ?_) (fun c => ?_)
  · have hF := hF.1 (lc_lt.mp c)
    refine P_iconst d_SH_areAlike_41 ?_
    exact P_zret d_SH_areAlike_42 rfl (Or.inl rfl) hF
  · have hF := hF.2 (lc_ge.mp (Int.not_lt.mp c))
    refine P_iconst d_SH_areAlike_37 ?_
    refine P_goto 42 d_SH_areAlike_38 (by decide) ?_
    exact P_zret d_SH_areAlike_42 rfl (Or.inr rfl) hF
theorem F_SH_askLikeness_0 (v1 : Int) (g1 : InR v1) (hF : WP D ad ca sc M_SH_askLikeness 7 [(0, .ref (ad 1)), (2, vI 0)] [] (up h 1 6 v1) Q) : WP D ad ca sc M_SH_askLikeness 0 [(0, .ref (ad 1)), (1, vI v1)] [] h Q := by
  refine P_aload_n 0 d_SH_askLikeness_0 rfl rfl ?_
  refine P_iload_n 1 d_SH_askLikeness_1 rfl rfl ?_
  refine S_SH_asked tw_62 d_SH_askLikeness_2 g1 ?_
  refine P_iconst d_SH_askLikeness_5 ?_
  refine P_istore_n (lv' := [(0, .ref (ad 1)), (1, vI v1), (2, vI 0)]) [1, 2, 0] d_SH_askLikeness_6 rfl (by decide) rfl ?_
  refine P_sub (lv' := [(0, .ref (ad 1)), (2, vI 0)]) [0, 2] rfl ?_
  exact hF
theorem F_SH_askLikeness_7 (v2 : Int) (g2 : InR v2) (hF : (((h 1 5) ≤ v2 → Q none h) ∧ (v2 < (h 1 5) → WP D ad ca none M_SH_joinFamilies 0 [(0, .ref (ad 1)), (1, vI v2)] [] h (RV (fun h2 => WP D ad ca sc M_SH_askLikeness 7 [(0, .ref (ad 1)), (2, vI (v2 + 1))] [] h2 Q))))) : WP D ad ca sc M_SH_askLikeness 7 [(0, .ref (ad 1)), (2, vI v2)] [] h Q := by
  refine P_iload_n 1 d_SH_askLikeness_7 rfl rfl ?_
  refine P_aload_n 0 d_SH_askLikeness_8 rfl rfl ?_
  refine G_SH_count tw_60 d_SH_askLikeness_9 (fun i1 => ?_)
  refine P_icmp_ge 26 d_SH_askLikeness_12 (by decide) g2 i1 (fun c => ?_) (fun c => ?_)
  · have hF := hF.1 c
    exact P_vret d_SH_askLikeness_26 rfl hF
  · have hF := hF.2 (Int.not_le.mp c)
    refine P_aload_n 0 d_SH_askLikeness_15 rfl rfl ?_
    refine P_iload_n 1 d_SH_askLikeness_16 rfl rfl ?_
    refine V_SH_joinFamilies tw_253 d_SH_askLikeness_17 (by decide) (Nat.le_of_ble_eq_true rfl) hF (fun h2 hF => ?_)
    refine P_iinc (lv' := [(0, .ref (ad 1)), (2, vI (v2 + 1))]) 1 [1, 0] d_SH_askLikeness_20 rfl (by decide) rfl ?_
    refine P_goto 7 d_SH_askLikeness_23 (by decide) ?_
    refine P_sub (lv' := [(0, .ref (ad 1)), (2, vI (v2 + 1))]) [0, 1] rfl ?_
    exact hF
theorem F_SH_joinFamilies_0 (v1 : Int) (g1 : InR v1) (hF : (0 ≤ v1 ∧ v1 < 80) ∧ WP D ad ca sc M_SH_joinFamilies 9 [(0, .ref (ad 1)), (1, vI v1), (2, vI 0)] [] (up h 5 v1 v1) Q) : WP D ad ca sc M_SH_joinFamilies 0 [(0, .ref (ad 1)), (1, vI v1)] [] h Q := by
  refine P_aload_n 0 d_SH_joinFamilies_0 rfl rfl ?_
  refine G_SH_families tw_57 d_SH_joinFamilies_1 ?_
  refine P_iload_n 1 d_SH_joinFamilies_4 rfl rfl ?_
  refine P_iload_n 1 d_SH_joinFamilies_5 rfl rfl ?_
  obtain ⟨b1, hF⟩ := hF
  refine T_5 d_SH_joinFamilies_6 b1 g1 ?_
  refine P_iconst d_SH_joinFamilies_7 ?_
  refine P_istore_n (lv' := [(0, .ref (ad 1)), (1, vI v1), (2, vI 0)]) [1, 2, 0] d_SH_joinFamilies_8 rfl (by decide) rfl ?_
  refine P_sub (lv' := [(0, .ref (ad 1)), (1, vI v1), (2, vI 0)]) [0, 1, 2] rfl ?_
  exact hF
theorem F_SH_joinFamilies_9 (v1 v2 : Int) (g1 : InR v1) (g2 : InR v2) (hF : ((v1 ≤ v2 → Q none h) ∧ (v2 < v1 → (0 ≤ v2 ∧ v2 < 80) ∧ (0 ≤ v1 ∧ v1 < 80) ∧ (((h 5 v2) = (h 5 v1) → WP D ad ca sc M_SH_joinFamilies 9 [(0, .ref (ad 1)), (1, vI v1), (2, vI (v2 + 1))] [] h Q) ∧ (¬ (h 5 v2) = (h 5 v1) → WP D ad ca none M_SH_areAlike 0 [(0, .ref (ad 1)), (1, vI v2), (2, vI v1)] [] h (RI (fun r6 h5 => ((r6 = 0 → WP D ad ca sc M_SH_joinFamilies 9 [(0, .ref (ad 1)), (1, vI v1), (2, vI (v2 + 1))] [] h5 Q) ∧ (¬ r6 = 0 → (0 ≤ v2 ∧ v2 < 80) ∧ (0 ≤ v1 ∧ v1 < 80) ∧ WP D ad ca none M_SH_mergeFamilies 0 [(0, .ref (ad 1)), (1, vI (h5 5 v2)), (2, vI (h5 5 v1)), (3, vI v1)] [] h5 (RV (fun h12 => WP D ad ca sc M_SH_joinFamilies 9 [(0, .ref (ad 1)), (1, vI v1), (2, vI (v2 + 1))] [] h12 Q))))))))))) : WP D ad ca sc M_SH_joinFamilies 9 [(0, .ref (ad 1)), (1, vI v1), (2, vI v2)] [] h Q := by
  refine P_iload_n 2 d_SH_joinFamilies_9 rfl rfl ?_
  refine P_iload_n 1 d_SH_joinFamilies_10 rfl rfl ?_
  refine P_icmp_ge 61 d_SH_joinFamilies_11 (by decide) g2 g1 (fun c => ?_) (fun c => ?_)
  · have hF := hF.1 c
    exact P_vret d_SH_joinFamilies_61 rfl hF
  · have hF := hF.2 (Int.not_le.mp c)
    refine P_aload_n 0 d_SH_joinFamilies_14 rfl rfl ?_
    refine G_SH_families tw_57 d_SH_joinFamilies_15 ?_
    refine P_iload_n 2 d_SH_joinFamilies_18 rfl rfl ?_
    obtain ⟨b1, hF⟩ := hF
    refine L_5 d_SH_joinFamilies_19 b1 (fun i2 => ?_)
    refine P_aload_n 0 d_SH_joinFamilies_20 rfl rfl ?_
    refine G_SH_families tw_57 d_SH_joinFamilies_21 ?_
    refine P_iload_n 1 d_SH_joinFamilies_24 rfl rfl ?_
    obtain ⟨b3, hF⟩ := hF
    refine L_5 d_SH_joinFamilies_25 b3 (fun i4 => ?_)
    refine P_icmp_eq 55 d_SH_joinFamilies_26 (by decide) i2 i4 (fun c => ?_) (fun c => ?_)
    · have hF := hF.1 c
      refine P_iinc (lv' := [(0, .ref (ad 1)), (1, vI v1), (2, vI (v2 + 1))]) 2 [1, 2, 0] d_SH_joinFamilies_55 rfl (by decide) rfl ?_
      refine P_goto 9 d_SH_joinFamilies_58 (by decide) ?_
      refine P_sub (lv' := [(0, .ref (ad 1)), (1, vI v1), (2, vI (v2 + 1))]) [0, 1, 2] rfl ?_
      exact hF
    · have hF := hF.2 c
      refine P_aload_n 0 d_SH_joinFamilies_29 rfl rfl ?_
      refine P_iload_n 2 d_SH_joinFamilies_30 rfl rfl ?_
      refine P_iload_n 1 d_SH_joinFamilies_31 rfl rfl ?_
      refine V_SH_areAlike tw_257 d_SH_joinFamilies_32 (by decide) (Nat.le_of_ble_eq_true rfl) hF (fun r6 h5 i7 hF => ?_)
      refine P_if_eq 55 d_SH_joinFamilies_35 (by decide) i7 (fun c => ?_) (fun c => ?_)
      · have hF := hF.1 c
        refine P_iinc (lv' := [(0, .ref (ad 1)), (1, vI v1), (2, vI (v2 + 1))]) 2 [1, 2, 0] d_SH_joinFamilies_55 rfl (by decide) rfl ?_
        refine P_goto 9 d_SH_joinFamilies_58 (by decide) ?_
        refine P_sub (lv' := [(0, .ref (ad 1)), (1, vI v1), (2, vI (v2 + 1))]) [0, 1, 2] rfl ?_
        exact hF
      · have hF := hF.2 c
        refine P_aload_n 0 d_SH_joinFamilies_38 rfl rfl ?_
        refine P_aload_n 0 d_SH_joinFamilies_39 rfl rfl ?_
        refine G_SH_families tw_57 d_SH_joinFamilies_40 ?_
        refine P_iload_n 2 d_SH_joinFamilies_43 rfl rfl ?_
        obtain ⟨b8, hF⟩ := hF
        refine L_5 d_SH_joinFamilies_44 b8 (fun i9 => ?_)
        refine P_aload_n 0 d_SH_joinFamilies_45 rfl rfl ?_
        refine G_SH_families tw_57 d_SH_joinFamilies_46 ?_
        refine P_iload_n 1 d_SH_joinFamilies_49 rfl rfl ?_
        obtain ⟨b10, hF⟩ := hF
        refine L_5 d_SH_joinFamilies_50 b10 (fun i11 => ?_)
        refine P_iload_n 1 d_SH_joinFamilies_51 rfl rfl ?_
        refine V_SH_mergeFamilies tw_266 d_SH_joinFamilies_52 (by decide) (Nat.le_of_ble_eq_true rfl) hF (fun h12 hF => ?_)
        refine P_iinc (lv' := [(0, .ref (ad 1)), (1, vI v1), (2, vI (v2 + 1))]) 2 [1, 2, 0] d_SH_joinFamilies_55 rfl (by decide) rfl ?_
        refine P_goto 9 d_SH_joinFamilies_58 (by decide) ?_
        refine P_sub (lv' := [(0, .ref (ad 1)), (1, vI v1), (2, vI (v2 + 1))]) [0, 1, 2] rfl ?_
        exact hF
theorem F_SH_mergeFamilies_0 (v1 v2 v3 : Int) (g1 : InR v1) (g2 : InR v2) (g3 : InR v3) (hF : WP D ad ca sc M_SH_mergeFamilies 10 [(0, .ref (ad 1)), (1, vI v1), (2, vI v2), (3, vI v3), (4, vI (min v1 v2)), (5, vI 0)] [] h Q) : WP D ad ca sc M_SH_mergeFamilies 0 [(0, .ref (ad 1)), (1, vI v1), (2, vI v2), (3, vI v3)] [] h Q := by
  refine P_iload_n 1 d_SH_mergeFamilies_0 rfl rfl ?_
  refine P_iload_n 2 d_SH_mergeFamilies_1 rfl rfl ?_
  refine V_Math_min tw_270 d_SH_mergeFamilies_2 (by decide) (Nat.le_of_ble_eq_true rfl) g1 g2 ?_
  refine P_istore (lv' := [(0, .ref (ad 1)), (1, vI v1), (2, vI v2), (3, vI v3), (4, vI (min v1 v2))]) [1, 2, 3, 4, 0] d_SH_mergeFamilies_5 (by decide) rfl ?_
  refine P_iconst d_SH_mergeFamilies_7 ?_
  refine P_istore (lv' := [(0, .ref (ad 1)), (1, vI v1), (2, vI v2), (3, vI v3), (4, vI (min v1 v2)), (5, vI 0)]) [1, 2, 3, 4, 5, 0] d_SH_mergeFamilies_8 (by decide) rfl ?_
  refine P_sub (lv' := [(0, .ref (ad 1)), (1, vI v1), (2, vI v2), (3, vI v3), (4, vI (min v1 v2)), (5, vI 0)]) [0, 1, 2, 3, 4, 5] rfl ?_
  exact hF
theorem F_SH_mergeFamilies_10 (v1 v2 v3 v4 v5 : Int) (g1 : InR v1) (g2 : InR v2) (g3 : InR v3) (g4 : InR v4) (g5 : InR v5) (hF : ((v3 < v5 → Q none h) ∧ (v5 ≤ v3 → (0 ≤ v5 ∧ v5 < 80) ∧ (((h 5 v5) = v1 → (0 ≤ v5 ∧ v5 < 80) ∧ WP D ad ca sc M_SH_mergeFamilies 10 [(0, .ref (ad 1)), (1, vI v1), (2, vI v2), (3, vI v3), (4, vI v4), (5, vI (v5 + 1))] [] (up h 5 v5 v4) Q) ∧ (¬ (h 5 v5) = v1 → (0 ≤ v5 ∧ v5 < 80) ∧ ((¬ (h 5 v5) = v2 → WP D ad ca sc M_SH_mergeFamilies 10 [(0, .ref (ad 1)), (1, vI v1), (2, vI v2), (3, vI v3), (4, vI v4), (5, vI (v5 + 1))] [] h Q) ∧ ((h 5 v5) = v2 → (0 ≤ v5 ∧ v5 < 80) ∧ WP D ad ca sc M_SH_mergeFamilies 10 [(0, .ref (ad 1)), (1, vI v1), (2, vI v2), (3, vI v3), (4, vI v4), (5, vI (v5 + 1))] [] (up h 5 v5 v4) Q))))))) : WP D ad ca sc M_SH_mergeFamilies 10 [(0, .ref (ad 1)), (1, vI v1), (2, vI v2), (3, vI v3), (4, vI v4), (5, vI v5)] [] h Q := by
  refine P_iload 5 d_SH_mergeFamilies_10 rfl ?_
  refine P_iload_n 3 d_SH_mergeFamilies_12 rfl rfl ?_
  refine P_icmp_gt 53 d_SH_mergeFamilies_13 (by decide) g5 g3 (fun c => ?_) (fun c => ?_)
  · have hF := hF.1 c
    exact P_vret d_SH_mergeFamilies_53 rfl hF
  · have hF := hF.2 (Int.not_lt.mp c)
    refine P_aload_n 0 d_SH_mergeFamilies_16 rfl rfl ?_
    refine G_SH_families tw_57 d_SH_mergeFamilies_17 ?_
    refine P_iload 5 d_SH_mergeFamilies_20 rfl ?_
    obtain ⟨b1, hF⟩ := hF
    refine L_5 d_SH_mergeFamilies_22 b1 (fun i2 => ?_)
    refine P_iload_n 1 d_SH_mergeFamilies_23 rfl rfl ?_
    refine P_icmp_eq 38 d_SH_mergeFamilies_24 (by decide) i2 g1 (fun c => ?_) (fun c => ?_)
    · have hF := hF.1 c
      refine P_aload_n 0 d_SH_mergeFamilies_38 rfl rfl ?_
      refine G_SH_families tw_57 d_SH_mergeFamilies_39 ?_
      refine P_iload 5 d_SH_mergeFamilies_42 rfl ?_
      refine P_iload 4 d_SH_mergeFamilies_44 rfl ?_
      obtain ⟨b3, hF⟩ := hF
      refine T_5 d_SH_mergeFamilies_46 b3 g4 ?_
      refine P_iinc (lv' := [(0, .ref (ad 1)), (1, vI v1), (2, vI v2), (3, vI v3), (4, vI v4), (5, vI (v5 + 1))]) 5 [1, 2, 3, 4, 5, 0] d_SH_mergeFamilies_47 rfl (by decide) rfl ?_
      refine P_goto 10 d_SH_mergeFamilies_50 (by decide) ?_
      refine P_sub (lv' := [(0, .ref (ad 1)), (1, vI v1), (2, vI v2), (3, vI v3), (4, vI v4), (5, vI (v5 + 1))]) [0, 1, 2, 3, 4, 5] rfl ?_
      exact hF
    · have hF := hF.2 c
      refine P_aload_n 0 d_SH_mergeFamilies_27 rfl rfl ?_
      refine G_SH_families tw_57 d_SH_mergeFamilies_28 ?_
      refine P_iload 5 d_SH_mergeFamilies_31 rfl ?_
      obtain ⟨b4, hF⟩ := hF
      refine L_5 d_SH_mergeFamilies_33 b4 (fun i5 => ?_)
      refine P_iload_n 2 d_SH_mergeFamilies_34 rfl rfl ?_
      refine P_icmp_ne 47 d_SH_mergeFamilies_35 (by decide) i5 g2 (fun c => ?_) (fun c => ?_)
      · have hF := hF.1 c
        refine P_iinc (lv' := [(0, .ref (ad 1)), (1, vI v1), (2, vI v2), (3, vI v3), (4, vI v4), (5, vI (v5 + 1))]) 5 [1, 2, 3, 4, 5, 0] d_SH_mergeFamilies_47 rfl (by decide) rfl ?_
        refine P_goto 10 d_SH_mergeFamilies_50 (by decide) ?_
        refine P_sub (lv' := [(0, .ref (ad 1)), (1, vI v1), (2, vI v2), (3, vI v3), (4, vI v4), (5, vI (v5 + 1))]) [0, 1, 2, 3, 4, 5] rfl ?_
        exact hF
      · have hF := hF.2 c
        refine P_aload_n 0 d_SH_mergeFamilies_38 rfl rfl ?_
        refine G_SH_families tw_57 d_SH_mergeFamilies_39 ?_
        refine P_iload 5 d_SH_mergeFamilies_42 rfl ?_
        refine P_iload 4 d_SH_mergeFamilies_44 rfl ?_
        obtain ⟨b6, hF⟩ := hF
        refine T_5 d_SH_mergeFamilies_46 b6 g4 ?_
        refine P_iinc (lv' := [(0, .ref (ad 1)), (1, vI v1), (2, vI v2), (3, vI v3), (4, vI v4), (5, vI (v5 + 1))]) 5 [1, 2, 3, 4, 5, 0] d_SH_mergeFamilies_47 rfl (by decide) rfl ?_
        refine P_goto 10 d_SH_mergeFamilies_50 (by decide) ?_
        refine P_sub (lv' := [(0, .ref (ad 1)), (1, vI v1), (2, vI v2), (3, vI v3), (4, vI v4), (5, vI (v5 + 1))]) [0, 1, 2, 3, 4, 5] rfl ?_
        exact hF
theorem F_SH_countFamilies_0  (hF : WP D ad ca sc M_SH_countFamilies 4 [(0, .ref (ad 1)), (1, vI 0), (2, vI 0)] [] h Q) : WP D ad ca sc M_SH_countFamilies 0 [(0, .ref (ad 1))] [] h Q := by
  refine P_iconst d_SH_countFamilies_0 ?_
  refine P_istore_n (lv' := [(0, .ref (ad 1)), (1, vI 0)]) [1, 0] d_SH_countFamilies_1 rfl (by decide) rfl ?_
  refine P_iconst d_SH_countFamilies_2 ?_
  refine P_istore_n (lv' := [(0, .ref (ad 1)), (1, vI 0), (2, vI 0)]) [1, 2, 0] d_SH_countFamilies_3 rfl (by decide) rfl ?_
  refine P_sub (lv' := [(0, .ref (ad 1)), (1, vI 0), (2, vI 0)]) [0, 1, 2] rfl ?_
  exact hF
theorem F_SH_countFamilies_4 (v1 v2 : Int) (g1 : InR v1) (g2 : InR v2) (hF : (((h 1 5) ≤ v2 → Q (some (vI v1)) h) ∧ (v2 < (h 1 5) → (0 ≤ v2 ∧ v2 < 80) ∧ ((¬ (h 5 v2) = v2 → WP D ad ca sc M_SH_countFamilies 4 [(0, .ref (ad 1)), (1, vI v1), (2, vI (v2 + 1))] [] h Q) ∧ ((h 5 v2) = v2 → WP D ad ca sc M_SH_countFamilies 4 [(0, .ref (ad 1)), (1, vI (v1 + 1)), (2, vI (v2 + 1))] [] h Q))))) : WP D ad ca sc M_SH_countFamilies 4 [(0, .ref (ad 1)), (1, vI v1), (2, vI v2)] [] h Q := by
  refine P_iload_n 2 d_SH_countFamilies_4 rfl rfl ?_
  refine P_aload_n 0 d_SH_countFamilies_5 rfl rfl ?_
  refine G_SH_count tw_60 d_SH_countFamilies_6 (fun i1 => ?_)
  refine P_icmp_ge 31 d_SH_countFamilies_9 (by decide) g2 i1 (fun c => ?_) (fun c => ?_)
  · have hF := hF.1 c
    refine P_iload_n 1 d_SH_countFamilies_31 rfl rfl ?_
    exact P_iret d_SH_countFamilies_32 rfl hF
  · have hF := hF.2 (Int.not_le.mp c)
    refine P_aload_n 0 d_SH_countFamilies_12 rfl rfl ?_
    refine G_SH_families tw_57 d_SH_countFamilies_13 ?_
    refine P_iload_n 2 d_SH_countFamilies_16 rfl rfl ?_
    obtain ⟨b2, hF⟩ := hF
    refine L_5 d_SH_countFamilies_17 b2 (fun i3 => ?_)
    refine P_iload_n 2 d_SH_countFamilies_18 rfl rfl ?_
    refine P_icmp_ne 25 d_SH_countFamilies_19 (by decide) i3 g2 (fun c => ?_) (fun c => ?_)
    · have hF := hF.1 c
      refine P_iinc (lv' := [(0, .ref (ad 1)), (1, vI v1), (2, vI (v2 + 1))]) 2 [1, 2, 0] d_SH_countFamilies_25 rfl (by decide) rfl ?_
      refine P_goto 4 d_SH_countFamilies_28 (by decide) ?_
      refine P_sub (lv' := [(0, .ref (ad 1)), (1, vI v1), (2, vI (v2 + 1))]) [0, 1, 2] rfl ?_
      exact hF
    · have hF := hF.2 c
      refine P_iinc (lv' := [(0, .ref (ad 1)), (1, vI (v1 + 1)), (2, vI v2)]) 1 [1, 0, 2] d_SH_countFamilies_22 rfl (by decide) rfl ?_
      refine P_iinc (lv' := [(0, .ref (ad 1)), (1, vI (v1 + 1)), (2, vI (v2 + 1))]) 2 [1, 2, 0] d_SH_countFamilies_25 rfl (by decide) rfl ?_
      refine P_goto 4 d_SH_countFamilies_28 (by decide) ?_
      refine P_sub (lv' := [(0, .ref (ad 1)), (1, vI (v1 + 1)), (2, vI (v2 + 1))]) [0, 1, 2] rfl ?_
      exact hF
theorem F_SH_familyByOrder_0 (v1 : Int) (g1 : InR v1) (hF : WP D ad ca sc M_SH_familyByOrder 4 [(0, .ref (ad 1)), (1, vI v1), (2, vI 0), (3, vI 0)] [] h Q) : WP D ad ca sc M_SH_familyByOrder 0 [(0, .ref (ad 1)), (1, vI v1)] [] h Q := by
  refine P_iconst d_SH_familyByOrder_0 ?_
  refine P_istore_n (lv' := [(0, .ref (ad 1)), (1, vI v1), (2, vI 0)]) [1, 2, 0] d_SH_familyByOrder_1 rfl (by decide) rfl ?_
  refine P_iconst d_SH_familyByOrder_2 ?_
  refine P_istore_n (lv' := [(0, .ref (ad 1)), (1, vI v1), (2, vI 0), (3, vI 0)]) [1, 2, 3, 0] d_SH_familyByOrder_3 rfl (by decide) rfl ?_
  refine P_sub (lv' := [(0, .ref (ad 1)), (1, vI v1), (2, vI 0), (3, vI 0)]) [0, 1, 2, 3] rfl ?_
  exact hF
theorem F_SH_familyByOrder_4 (v1 v2 v3 : Int) (g1 : InR v1) (g2 : InR v2) (g3 : InR v3) (hF : (((h 1 5) ≤ v3 → Q (some (vI (-6))) h) ∧ (v3 < (h 1 5) → (0 ≤ v3 ∧ v3 < 80) ∧ ((¬ (h 5 v3) = v3 → WP D ad ca sc M_SH_familyByOrder 4 [(0, .ref (ad 1)), (1, vI v1), (2, vI v2), (3, vI (v3 + 1))] [] h Q) ∧ ((h 5 v3) = v3 → ((¬ v2 = v1 → WP D ad ca sc M_SH_familyByOrder 4 [(0, .ref (ad 1)), (1, vI v1), (2, vI (v2 + 1)), (3, vI (v3 + 1))] [] h Q) ∧ (v2 = v1 → Q (some (vI v3)) h))))))) : WP D ad ca sc M_SH_familyByOrder 4 [(0, .ref (ad 1)), (1, vI v1), (2, vI v2), (3, vI v3)] [] h Q := by
  refine P_iload_n 3 d_SH_familyByOrder_4 rfl rfl ?_
  refine P_aload_n 0 d_SH_familyByOrder_5 rfl rfl ?_
  refine G_SH_count tw_60 d_SH_familyByOrder_6 (fun i1 => ?_)
  refine P_icmp_ge 38 d_SH_familyByOrder_9 (by decide) g3 i1 (fun c => ?_) (fun c => ?_)
  · have hF := hF.1 c
    refine P_bipush d_SH_familyByOrder_38 (by decide) ?_
    exact P_iret d_SH_familyByOrder_40 rfl hF
  · have hF := hF.2 (Int.not_le.mp c)
    refine P_aload_n 0 d_SH_familyByOrder_12 rfl rfl ?_
    refine G_SH_families tw_57 d_SH_familyByOrder_13 ?_
    refine P_iload_n 3 d_SH_familyByOrder_16 rfl rfl ?_
    obtain ⟨b2, hF⟩ := hF
    refine L_5 d_SH_familyByOrder_17 b2 (fun i3 => ?_)
    refine P_iload_n 3 d_SH_familyByOrder_18 rfl rfl ?_
    refine P_icmp_ne 32 d_SH_familyByOrder_19 (by decide) i3 g3 (fun c => ?_) (fun c => ?_)
    · have hF := hF.1 c
      refine P_iinc (lv' := [(0, .ref (ad 1)), (1, vI v1), (2, vI v2), (3, vI (v3 + 1))]) 3 [1, 2, 3, 0] d_SH_familyByOrder_32 rfl (by decide) rfl ?_
      refine P_goto 4 d_SH_familyByOrder_35 (by decide) ?_
      refine P_sub (lv' := [(0, .ref (ad 1)), (1, vI v1), (2, vI v2), (3, vI (v3 + 1))]) [0, 1, 2, 3] rfl ?_
      exact hF
    · have hF := hF.2 c
      refine P_iload_n 2 d_SH_familyByOrder_22 rfl rfl ?_
      refine P_iload_n 1 d_SH_familyByOrder_23 rfl rfl ?_
      refine P_icmp_ne 29 d_SH_familyByOrder_24 (by decide) g2 g1 (fun c => ?_) (fun c => ?_)
      · have hF := hF.1 c
        refine P_iinc (lv' := [(0, .ref (ad 1)), (1, vI v1), (2, vI (v2 + 1)), (3, vI v3)]) 2 [1, 2, 0, 3] d_SH_familyByOrder_29 rfl (by decide) rfl ?_
        refine P_iinc (lv' := [(0, .ref (ad 1)), (1, vI v1), (2, vI (v2 + 1)), (3, vI (v3 + 1))]) 3 [1, 2, 3, 0] d_SH_familyByOrder_32 rfl (by decide) rfl ?_
        refine P_goto 4 d_SH_familyByOrder_35 (by decide) ?_
        refine P_sub (lv' := [(0, .ref (ad 1)), (1, vI v1), (2, vI (v2 + 1)), (3, vI (v3 + 1))]) [0, 1, 2, 3] rfl ?_
        exact hF
      · have hF := hF.2 c
        refine P_iload_n 3 d_SH_familyByOrder_27 rfl rfl ?_
        exact P_iret d_SH_familyByOrder_28 rfl hF
theorem F_SH_countKin_0 (v1 : Int) (g1 : InR v1) (hF : WP D ad ca sc M_SH_countKin 4 [(0, .ref (ad 1)), (1, vI v1), (2, vI 0), (3, vI 0)] [] h Q) : WP D ad ca sc M_SH_countKin 0 [(0, .ref (ad 1)), (1, vI v1)] [] h Q := by
  refine P_iconst d_SH_countKin_0 ?_
  refine P_istore_n (lv' := [(0, .ref (ad 1)), (1, vI v1), (2, vI 0)]) [1, 2, 0] d_SH_countKin_1 rfl (by decide) rfl ?_
  refine P_iconst d_SH_countKin_2 ?_
  refine P_istore_n (lv' := [(0, .ref (ad 1)), (1, vI v1), (2, vI 0), (3, vI 0)]) [1, 2, 3, 0] d_SH_countKin_3 rfl (by decide) rfl ?_
  refine P_sub (lv' := [(0, .ref (ad 1)), (1, vI v1), (2, vI 0), (3, vI 0)]) [0, 1, 2, 3] rfl ?_
  exact hF
theorem F_SH_countKin_4 (v1 v2 v3 : Int) (g1 : InR v1) (g2 : InR v2) (g3 : InR v3) (hF : (((h 1 5) ≤ v3 → Q (some (vI v2)) h) ∧ (v3 < (h 1 5) → (0 ≤ v3 ∧ v3 < 80) ∧ (0 ≤ v1 ∧ v1 < 80) ∧ ((¬ (h 5 v3) = (h 5 v1) → WP D ad ca sc M_SH_countKin 4 [(0, .ref (ad 1)), (1, vI v1), (2, vI v2), (3, vI (v3 + 1))] [] h Q) ∧ ((h 5 v3) = (h 5 v1) → WP D ad ca sc M_SH_countKin 4 [(0, .ref (ad 1)), (1, vI v1), (2, vI (v2 + 1)), (3, vI (v3 + 1))] [] h Q))))) : WP D ad ca sc M_SH_countKin 4 [(0, .ref (ad 1)), (1, vI v1), (2, vI v2), (3, vI v3)] [] h Q := by
  refine P_iload_n 3 d_SH_countKin_4 rfl rfl ?_
  refine P_aload_n 0 d_SH_countKin_5 rfl rfl ?_
  refine G_SH_count tw_60 d_SH_countKin_6 (fun i1 => ?_)
  refine P_icmp_ge 36 d_SH_countKin_9 (by decide) g3 i1 (fun c => ?_) (fun c => ?_)
  · have hF := hF.1 c
    refine P_iload_n 2 d_SH_countKin_36 rfl rfl ?_
    exact P_iret d_SH_countKin_37 rfl hF
  · have hF := hF.2 (Int.not_le.mp c)
    refine P_aload_n 0 d_SH_countKin_12 rfl rfl ?_
    refine G_SH_families tw_57 d_SH_countKin_13 ?_
    refine P_iload_n 3 d_SH_countKin_16 rfl rfl ?_
    obtain ⟨b2, hF⟩ := hF
    refine L_5 d_SH_countKin_17 b2 (fun i3 => ?_)
    refine P_aload_n 0 d_SH_countKin_18 rfl rfl ?_
    refine G_SH_families tw_57 d_SH_countKin_19 ?_
    refine P_iload_n 1 d_SH_countKin_22 rfl rfl ?_
    obtain ⟨b4, hF⟩ := hF
    refine L_5 d_SH_countKin_23 b4 (fun i5 => ?_)
    refine P_icmp_ne 30 d_SH_countKin_24 (by decide) i3 i5 (fun c => ?_) (fun c => ?_)
    · have hF := hF.1 c
      refine P_iinc (lv' := [(0, .ref (ad 1)), (1, vI v1), (2, vI v2), (3, vI (v3 + 1))]) 3 [1, 2, 3, 0] d_SH_countKin_30 rfl (by decide) rfl ?_
      refine P_goto 4 d_SH_countKin_33 (by decide) ?_
      refine P_sub (lv' := [(0, .ref (ad 1)), (1, vI v1), (2, vI v2), (3, vI (v3 + 1))]) [0, 1, 2, 3] rfl ?_
      exact hF
    · have hF := hF.2 c
      refine P_iinc (lv' := [(0, .ref (ad 1)), (1, vI v1), (2, vI (v2 + 1)), (3, vI v3)]) 2 [1, 2, 0, 3] d_SH_countKin_27 rfl (by decide) rfl ?_
      refine P_iinc (lv' := [(0, .ref (ad 1)), (1, vI v1), (2, vI (v2 + 1)), (3, vI (v3 + 1))]) 3 [1, 2, 3, 0] d_SH_countKin_30 rfl (by decide) rfl ?_
      refine P_goto 4 d_SH_countKin_33 (by decide) ?_
      refine P_sub (lv' := [(0, .ref (ad 1)), (1, vI v1), (2, vI (v2 + 1)), (3, vI (v3 + 1))]) [0, 1, 2, 3] rfl ?_
      exact hF
theorem F_SH_isOfDays_0 (v1 v2 v3 : Int) (g1 : InR v1) (g2 : InR v2) (g3 : InR v3) (hF : (0 ≤ v1 ∧ v1 < 80) ∧ (((h 3 v1) < v2 → Q (some (vI 0)) h) ∧ (v2 ≤ (h 3 v1) → (0 ≤ v1 ∧ v1 < 80) ∧ ((v3 < (h 3 v1) → Q (some (vI 0)) h) ∧ ((h 3 v1) ≤ v3 → Q (some (vI 1)) h))))) : WP D ad ca sc M_SH_isOfDays 0 [(0, .ref (ad 1)), (1, vI v1), (2, vI v2), (3, vI v3)] [] h Q := by
  refine P_aload_n 0 d_SH_isOfDays_0 rfl rfl ?_
  refine G_SH_days tw_53 d_SH_isOfDays_1 ?_
  refine P_iload_n 1 d_SH_isOfDays_4 rfl rfl ?_
  obtain ⟨b1, hF⟩ := hF
  refine L_3 d_SH_isOfDays_5 b1 (fun i2 => ?_)
  refine P_iload_n 2 d_SH_isOfDays_6 rfl rfl ?_
  refine P_icmp_lt 24 d_SH_isOfDays_7 (by decide) i2 g2 (fun c => ?_) (fun c => ?_)
  · have hF := hF.1 c
    refine P_iconst d_SH_isOfDays_24 ?_
    exact P_zret d_SH_isOfDays_25 rfl (Or.inl rfl) hF
  · have hF := hF.2 (Int.not_lt.mp c)
    refine P_aload_n 0 d_SH_isOfDays_10 rfl rfl ?_
    refine G_SH_days tw_53 d_SH_isOfDays_11 ?_
    refine P_iload_n 1 d_SH_isOfDays_14 rfl rfl ?_
    obtain ⟨b3, hF⟩ := hF
    refine L_3 d_SH_isOfDays_15 b3 (fun i4 => ?_)
    refine P_iload_n 3 d_SH_isOfDays_16 rfl rfl ?_
    refine P_icmp_gt 24 d_SH_isOfDays_17 (by decide) i4 g3 (fun c => ?_) (fun c => ?_)
    · have hF := hF.1 c
      refine P_iconst d_SH_isOfDays_24 ?_
      exact P_zret d_SH_isOfDays_25 rfl (Or.inl rfl) hF
    · have hF := hF.2 (Int.not_lt.mp c)
      refine P_iconst d_SH_isOfDays_20 ?_
      refine P_goto 25 d_SH_isOfDays_21 (by decide) ?_
      exact P_zret d_SH_isOfDays_25 rfl (Or.inr rfl) hF
theorem F_SH_countOfDays_0 (v1 v2 : Int) (g1 : InR v1) (g2 : InR v2) (hF : WP D ad ca sc M_SH_countOfDays 5 [(0, .ref (ad 1)), (1, vI v1), (2, vI v2), (3, vI 0), (4, vI 0)] [] h Q) : WP D ad ca sc M_SH_countOfDays 0 [(0, .ref (ad 1)), (1, vI v1), (2, vI v2)] [] h Q := by
  refine P_iconst d_SH_countOfDays_0 ?_
  refine P_istore_n (lv' := [(0, .ref (ad 1)), (1, vI v1), (2, vI v2), (3, vI 0)]) [1, 2, 3, 0] d_SH_countOfDays_1 rfl (by decide) rfl ?_
  refine P_iconst d_SH_countOfDays_2 ?_
  refine P_istore (lv' := [(0, .ref (ad 1)), (1, vI v1), (2, vI v2), (3, vI 0), (4, vI 0)]) [1, 2, 3, 4, 0] d_SH_countOfDays_3 (by decide) rfl ?_
  refine P_sub (lv' := [(0, .ref (ad 1)), (1, vI v1), (2, vI v2), (3, vI 0), (4, vI 0)]) [0, 1, 2, 3, 4] rfl ?_
  exact hF
theorem F_SH_countOfDays_5 (v1 v2 v3 v4 : Int) (g1 : InR v1) (g2 : InR v2) (g3 : InR v3) (g4 : InR v4) (hF : (((h 1 5) ≤ v4 → Q (some (vI v3)) h) ∧ (v4 < (h 1 5) → WP D ad ca none M_SH_isOfDays 0 [(0, .ref (ad 1)), (1, vI v4), (2, vI v1), (3, vI v2)] [] h (RI (fun r3 h2 => ((r3 = 0 → WP D ad ca sc M_SH_countOfDays 5 [(0, .ref (ad 1)), (1, vI v1), (2, vI v2), (3, vI v3), (4, vI (v4 + 1))] [] h2 Q) ∧ (¬ r3 = 0 → WP D ad ca sc M_SH_countOfDays 5 [(0, .ref (ad 1)), (1, vI v1), (2, vI v2), (3, vI (v3 + 1)), (4, vI (v4 + 1))] [] h2 Q))))))) : WP D ad ca sc M_SH_countOfDays 5 [(0, .ref (ad 1)), (1, vI v1), (2, vI v2), (3, vI v3), (4, vI v4)] [] h Q := by
  refine P_iload 4 d_SH_countOfDays_5 rfl ?_
  refine P_aload_n 0 d_SH_countOfDays_7 rfl rfl ?_
  refine G_SH_count tw_60 d_SH_countOfDays_8 (fun i1 => ?_)
  refine P_icmp_ge 34 d_SH_countOfDays_11 (by decide) g4 i1 (fun c => ?_) (fun c => ?_)
  · have hF := hF.1 c
    refine P_iload_n 3 d_SH_countOfDays_34 rfl rfl ?_
    exact P_iret d_SH_countOfDays_35 rfl hF
  · have hF := hF.2 (Int.not_le.mp c)
    refine P_aload_n 0 d_SH_countOfDays_14 rfl rfl ?_
    refine P_iload 4 d_SH_countOfDays_15 rfl ?_
    refine P_iload_n 1 d_SH_countOfDays_17 rfl rfl ?_
    refine P_iload_n 2 d_SH_countOfDays_18 rfl rfl ?_
    refine V_SH_isOfDays tw_376 d_SH_countOfDays_19 (by decide) (Nat.le_of_ble_eq_true rfl) hF (fun r3 h2 i4 hF => ?_)
    refine P_if_eq 28 d_SH_countOfDays_22 (by decide) i4 (fun c => ?_) (fun c => ?_)
    · have hF := hF.1 c
      refine P_iinc (lv' := [(0, .ref (ad 1)), (1, vI v1), (2, vI v2), (3, vI v3), (4, vI (v4 + 1))]) 4 [1, 2, 3, 4, 0] d_SH_countOfDays_28 rfl (by decide) rfl ?_
      refine P_goto 5 d_SH_countOfDays_31 (by decide) ?_
      refine P_sub (lv' := [(0, .ref (ad 1)), (1, vI v1), (2, vI v2), (3, vI v3), (4, vI (v4 + 1))]) [0, 1, 2, 3, 4] rfl ?_
      exact hF
    · have hF := hF.2 c
      refine P_iinc (lv' := [(0, .ref (ad 1)), (1, vI v1), (2, vI v2), (3, vI (v3 + 1)), (4, vI v4)]) 3 [1, 2, 3, 0, 4] d_SH_countOfDays_25 rfl (by decide) rfl ?_
      refine P_iinc (lv' := [(0, .ref (ad 1)), (1, vI v1), (2, vI v2), (3, vI (v3 + 1)), (4, vI (v4 + 1))]) 4 [1, 2, 3, 4, 0] d_SH_countOfDays_28 rfl (by decide) rfl ?_
      refine P_goto 5 d_SH_countOfDays_31 (by decide) ?_
      refine P_sub (lv' := [(0, .ref (ad 1)), (1, vI v1), (2, vI v2), (3, vI (v3 + 1)), (4, vI (v4 + 1))]) [0, 1, 2, 3, 4] rfl ?_
      exact hF
theorem F_SH_countOfKind_0 (v1 v2 v3 : Int) (g1 : InR v1) (g2 : InR v2) (g3 : InR v3) (hF : WP D ad ca sc M_SH_countOfKind 6 [(0, .ref (ad 1)), (1, vI v1), (2, vI v2), (3, vI v3), (4, vI 0), (5, vI 0)] [] h Q) : WP D ad ca sc M_SH_countOfKind 0 [(0, .ref (ad 1)), (1, vI v1), (2, vI v2), (3, vI v3)] [] h Q := by
  refine P_iconst d_SH_countOfKind_0 ?_
  refine P_istore (lv' := [(0, .ref (ad 1)), (1, vI v1), (2, vI v2), (3, vI v3), (4, vI 0)]) [1, 2, 3, 4, 0] d_SH_countOfKind_1 (by decide) rfl ?_
  refine P_iconst d_SH_countOfKind_3 ?_
  refine P_istore (lv' := [(0, .ref (ad 1)), (1, vI v1), (2, vI v2), (3, vI v3), (4, vI 0), (5, vI 0)]) [1, 2, 3, 4, 5, 0] d_SH_countOfKind_4 (by decide) rfl ?_
  refine P_sub (lv' := [(0, .ref (ad 1)), (1, vI v1), (2, vI v2), (3, vI v3), (4, vI 0), (5, vI 0)]) [0, 1, 2, 3, 4, 5] rfl ?_
  exact hF
theorem F_SH_countOfKind_6 (v1 v2 v3 v4 v5 : Int) (g1 : InR v1) (g2 : InR v2) (g3 : InR v3) (g4 : InR v4) (g5 : InR v5) (hF : (((h 1 5) ≤ v5 → Q (some (vI v4)) h) ∧ (v5 < (h 1 5) → (0 ≤ v5 ∧ v5 < 80) ∧ ((¬ (h 4 v5) = v1 → WP D ad ca sc M_SH_countOfKind 6 [(0, .ref (ad 1)), (1, vI v1), (2, vI v2), (3, vI v3), (4, vI v4), (5, vI (v5 + 1))] [] h Q) ∧ ((h 4 v5) = v1 → WP D ad ca none M_SH_isOfDays 0 [(0, .ref (ad 1)), (1, vI v5), (2, vI v2), (3, vI v3)] [] h (RI (fun r5 h4 => ((r5 = 0 → WP D ad ca sc M_SH_countOfKind 6 [(0, .ref (ad 1)), (1, vI v1), (2, vI v2), (3, vI v3), (4, vI v4), (5, vI (v5 + 1))] [] h4 Q) ∧ (¬ r5 = 0 → WP D ad ca sc M_SH_countOfKind 6 [(0, .ref (ad 1)), (1, vI v1), (2, vI v2), (3, vI v3), (4, vI (v4 + 1)), (5, vI (v5 + 1))] [] h4 Q))))))))) : WP D ad ca sc M_SH_countOfKind 6 [(0, .ref (ad 1)), (1, vI v1), (2, vI v2), (3, vI v3), (4, vI v4), (5, vI v5)] [] h Q := by
  refine P_iload 5 d_SH_countOfKind_6 rfl ?_
  refine P_aload_n 0 d_SH_countOfKind_8 rfl rfl ?_
  refine G_SH_count tw_60 d_SH_countOfKind_9 (fun i1 => ?_)
  refine P_icmp_ge 46 d_SH_countOfKind_12 (by decide) g5 i1 (fun c => ?_) (fun c => ?_)
  · have hF := hF.1 c
    refine P_iload 4 d_SH_countOfKind_46 rfl ?_
    exact P_iret d_SH_countOfKind_48 rfl hF
  · have hF := hF.2 (Int.not_le.mp c)
    refine P_aload_n 0 d_SH_countOfKind_15 rfl rfl ?_
    refine G_SH_kinds tw_55 d_SH_countOfKind_16 ?_
    refine P_iload 5 d_SH_countOfKind_19 rfl ?_
    obtain ⟨b2, hF⟩ := hF
    refine L_4 d_SH_countOfKind_21 b2 (fun i3 => ?_)
    refine P_iload_n 1 d_SH_countOfKind_22 rfl rfl ?_
    refine P_icmp_ne 40 d_SH_countOfKind_23 (by decide) i3 g1 (fun c => ?_) (fun c => ?_)
    · have hF := hF.1 c
      refine P_iinc (lv' := [(0, .ref (ad 1)), (1, vI v1), (2, vI v2), (3, vI v3), (4, vI v4), (5, vI (v5 + 1))]) 5 [1, 2, 3, 4, 5, 0] d_SH_countOfKind_40 rfl (by decide) rfl ?_
      refine P_goto 6 d_SH_countOfKind_43 (by decide) ?_
      refine P_sub (lv' := [(0, .ref (ad 1)), (1, vI v1), (2, vI v2), (3, vI v3), (4, vI v4), (5, vI (v5 + 1))]) [0, 1, 2, 3, 4, 5] rfl ?_
      exact hF
    · have hF := hF.2 c
      refine P_aload_n 0 d_SH_countOfKind_26 rfl rfl ?_
      refine P_iload 5 d_SH_countOfKind_27 rfl ?_
      refine P_iload_n 2 d_SH_countOfKind_29 rfl rfl ?_
      refine P_iload_n 3 d_SH_countOfKind_30 rfl rfl ?_
      refine V_SH_isOfDays tw_376 d_SH_countOfKind_31 (by decide) (Nat.le_of_ble_eq_true rfl) hF (fun r5 h4 i6 hF => ?_)
      refine P_if_eq 40 d_SH_countOfKind_34 (by decide) i6 (fun c => ?_) (fun c => ?_)
      · have hF := hF.1 c
        refine P_iinc (lv' := [(0, .ref (ad 1)), (1, vI v1), (2, vI v2), (3, vI v3), (4, vI v4), (5, vI (v5 + 1))]) 5 [1, 2, 3, 4, 5, 0] d_SH_countOfKind_40 rfl (by decide) rfl ?_
        refine P_goto 6 d_SH_countOfKind_43 (by decide) ?_
        refine P_sub (lv' := [(0, .ref (ad 1)), (1, vI v1), (2, vI v2), (3, vI v3), (4, vI v4), (5, vI (v5 + 1))]) [0, 1, 2, 3, 4, 5] rfl ?_
        exact hF
      · have hF := hF.2 c
        refine P_iinc (lv' := [(0, .ref (ad 1)), (1, vI v1), (2, vI v2), (3, vI v3), (4, vI (v4 + 1)), (5, vI v5)]) 4 [1, 2, 3, 4, 0, 5] d_SH_countOfKind_37 rfl (by decide) rfl ?_
        refine P_iinc (lv' := [(0, .ref (ad 1)), (1, vI v1), (2, vI v2), (3, vI v3), (4, vI (v4 + 1)), (5, vI (v5 + 1))]) 5 [1, 2, 3, 4, 5, 0] d_SH_countOfKind_40 rfl (by decide) rfl ?_
        refine P_goto 6 d_SH_countOfKind_43 (by decide) ?_
        refine P_sub (lv' := [(0, .ref (ad 1)), (1, vI v1), (2, vI v2), (3, vI v3), (4, vI (v4 + 1)), (5, vI (v5 + 1))]) [0, 1, 2, 3, 4, 5] rfl ?_
        exact hF
theorem F_SH_countOfGreatestFamily_0 (v1 v2 : Int) (g1 : InR v1) (g2 : InR v2) (hF : WP D ad ca sc M_SH_countOfGreatestFamily 5 [(0, .ref (ad 1)), (1, vI v1), (2, vI v2), (3, vI 0), (4, vI 0)] [] h Q) : WP D ad ca sc M_SH_countOfGreatestFamily 0 [(0, .ref (ad 1)), (1, vI v1), (2, vI v2)] [] h Q := by
  refine P_iconst d_SH_countOfGreatestFamily_0 ?_
  refine P_istore_n (lv' := [(0, .ref (ad 1)), (1, vI v1), (2, vI v2), (3, vI 0)]) [1, 2, 3, 0] d_SH_countOfGreatestFamily_1 rfl (by decide) rfl ?_
  refine P_iconst d_SH_countOfGreatestFamily_2 ?_
  refine P_istore (lv' := [(0, .ref (ad 1)), (1, vI v1), (2, vI v2), (3, vI 0), (4, vI 0)]) [1, 2, 3, 4, 0] d_SH_countOfGreatestFamily_3 (by decide) rfl ?_
  refine P_sub (lv' := [(0, .ref (ad 1)), (1, vI v1), (2, vI v2), (3, vI 0), (4, vI 0)]) [0, 1, 2, 3, 4] rfl ?_
  exact hF
theorem F_SH_countOfGreatestFamily_5 (v1 v2 v3 v4 : Int) (g1 : InR v1) (g2 : InR v2) (g3 : InR v3) (g4 : InR v4) (hF : (((h 1 5) ≤ v4 → Q (some (vI v3)) h) ∧ (v4 < (h 1 5) → (0 ≤ v4 ∧ v4 < 80) ∧ WP D ad ca none M_SH_isOfDays 0 [(0, .ref (ad 1)), (1, vI v4), (2, vI v1), (3, vI v2)] [] (up h 6 v4 0) (RI (fun r4 h3 => ((r4 = 0 → WP D ad ca sc M_SH_countOfGreatestFamily 5 [(0, .ref (ad 1)), (1, vI v1), (2, vI v2), (3, vI v3), (4, vI (v4 + 1))] [] h3 Q) ∧ (¬ r4 = 0 → (0 ≤ v4 ∧ v4 < 80) ∧ (0 ≤ (h3 5 v4) ∧ (h3 5 v4) < 80) ∧ (0 ≤ (h3 5 v4) ∧ (h3 5 v4) < 80) ∧ (InR ((h3 6 (h3 5 v4)) + 1)) ∧ (0 ≤ (h3 5 v4) ∧ (h3 5 v4) < 80) ∧ WP D ad ca sc M_SH_countOfGreatestFamily 5 [(0, .ref (ad 1)), (1, vI v1), (2, vI v2), (3, vI (max v3 ((upf (h3 6) (h3 5 v4) ((h3 6 (h3 5 v4)) + 1)) (h3 5 v4)))), (4, vI (v4 + 1))] [] (up h3 6 (h3 5 v4) ((h3 6 (h3 5 v4)) + 1)) Q))))))) : WP D ad ca sc M_SH_countOfGreatestFamily 5 [(0, .ref (ad 1)), (1, vI v1), (2, vI v2), (3, vI v3), (4, vI v4)] [] h Q := by
  refine P_iload 4 d_SH_countOfGreatestFamily_5 rfl ?_
  refine P_aload_n 0 d_SH_countOfGreatestFamily_7 rfl rfl ?_
  refine G_SH_count tw_60 d_SH_countOfGreatestFamily_8 (fun i1 => ?_)
  refine P_icmp_ge 71 d_SH_countOfGreatestFamily_11 (by decide) g4 i1 (fun c => ?_) (fun c => ?_)
  · have hF := hF.1 c
    refine P_iload_n 3 d_SH_countOfGreatestFamily_71 rfl rfl ?_
    exact P_iret d_SH_countOfGreatestFamily_72 rfl hF
  · have hF := hF.2 (Int.not_le.mp c)
    refine P_aload_n 0 d_SH_countOfGreatestFamily_14 rfl rfl ?_
    refine G_SH_tally tw_59 d_SH_countOfGreatestFamily_15 ?_
    refine P_iload 4 d_SH_countOfGreatestFamily_18 rfl ?_
    refine P_iconst d_SH_countOfGreatestFamily_20 ?_
    obtain ⟨b2, hF⟩ := hF
    refine T_6 d_SH_countOfGreatestFamily_21 b2 ⟨by decide, by decide⟩ ?_
    refine P_aload_n 0 d_SH_countOfGreatestFamily_22 rfl rfl ?_
    refine P_iload 4 d_SH_countOfGreatestFamily_23 rfl ?_
    refine P_iload_n 1 d_SH_countOfGreatestFamily_25 rfl rfl ?_
    refine P_iload_n 2 d_SH_countOfGreatestFamily_26 rfl rfl ?_
    refine V_SH_isOfDays tw_376 d_SH_countOfGreatestFamily_27 (by decide) (Nat.le_of_ble_eq_true rfl) hF (fun r4 h3 i5 hF => ?_)
    refine P_if_eq 65 d_SH_countOfGreatestFamily_30 (by decide) i5 (fun c => ?_) (fun c => ?_)
    · have hF := hF.1 c
      refine P_iinc (lv' := [(0, .ref (ad 1)), (1, vI v1), (2, vI v2), (3, vI v3), (4, vI (v4 + 1))]) 4 [1, 2, 3, 4, 0] d_SH_countOfGreatestFamily_65 rfl (by decide) rfl ?_
      refine P_goto 5 d_SH_countOfGreatestFamily_68 (by decide) ?_
      refine P_sub (lv' := [(0, .ref (ad 1)), (1, vI v1), (2, vI v2), (3, vI v3), (4, vI (v4 + 1))]) [0, 1, 2, 3, 4] rfl ?_
      exact hF
    · have hF := hF.2 c
      refine P_aload_n 0 d_SH_countOfGreatestFamily_33 rfl rfl ?_
      refine G_SH_families tw_57 d_SH_countOfGreatestFamily_34 ?_
      refine P_iload 4 d_SH_countOfGreatestFamily_37 rfl ?_
      obtain ⟨b6, hF⟩ := hF
      refine L_5 d_SH_countOfGreatestFamily_39 b6 (fun i7 => ?_)
      refine P_istore (lv' := [(0, .ref (ad 1)), (1, vI v1), (2, vI v2), (3, vI v3), (4, vI v4), (5, vI (h3 5 v4))]) [1, 2, 3, 4, 5, 0] d_SH_countOfGreatestFamily_40 (by decide) rfl ?_
      refine P_aload_n 0 d_SH_countOfGreatestFamily_42 rfl rfl ?_
      refine G_SH_tally tw_59 d_SH_countOfGreatestFamily_43 ?_
      refine P_iload 5 d_SH_countOfGreatestFamily_46 rfl ?_
      refine P_dup2 d_SH_countOfGreatestFamily_48 rfl rfl ?_
      obtain ⟨b8, hF⟩ := hF
      refine L_6 d_SH_countOfGreatestFamily_49 b8 (fun i9 => ?_)
      refine P_iconst d_SH_countOfGreatestFamily_50 ?_
      refine P_iadd d_SH_countOfGreatestFamily_51 ?_
      obtain ⟨b10, hF⟩ := hF
      obtain ⟨b11, hF⟩ := hF
      refine T_6 d_SH_countOfGreatestFamily_52 b10 b11 ?_
      refine P_iload_n 3 d_SH_countOfGreatestFamily_53 rfl rfl ?_
      refine P_aload_n 0 d_SH_countOfGreatestFamily_54 rfl rfl ?_
      refine G_SH_tally tw_59 d_SH_countOfGreatestFamily_55 ?_
      refine P_iload 5 d_SH_countOfGreatestFamily_58 rfl ?_
      obtain ⟨b12, hF⟩ := hF
      refine L_6 d_SH_countOfGreatestFamily_60 b12 (fun i13 => ?_)
      refine V_Math_max tw_384 d_SH_countOfGreatestFamily_61 (by decide) (Nat.le_of_ble_eq_true rfl) g3 i13 ?_
      refine P_istore_n (lv' := [(0, .ref (ad 1)), (1, vI v1), (2, vI v2), (3, vI (max v3 ((upf (h3 6) (h3 5 v4) ((h3 6 (h3 5 v4)) + 1)) (h3 5 v4)))), (4, vI v4), (5, vI (h3 5 v4))]) [1, 2, 3, 0, 4, 5] d_SH_countOfGreatestFamily_64 rfl (by decide) rfl ?_
      refine P_iinc (lv' := [(0, .ref (ad 1)), (1, vI v1), (2, vI v2), (3, vI (max v3 ((upf (h3 6) (h3 5 v4) ((h3 6 (h3 5 v4)) + 1)) (h3 5 v4)))), (4, vI (v4 + 1)), (5, vI (h3 5 v4))]) 4 [1, 2, 3, 4, 0, 5] d_SH_countOfGreatestFamily_65 rfl (by decide) rfl ?_
      refine P_goto 5 d_SH_countOfGreatestFamily_68 (by decide) ?_
      refine P_sub (lv' := [(0, .ref (ad 1)), (1, vI v1), (2, vI v2), (3, vI (max v3 ((upf (h3 6) (h3 5 v4) ((h3 6 (h3 5 v4)) + 1)) (h3 5 v4)))), (4, vI (v4 + 1))]) [0, 1, 2, 3, 4] rfl ?_
      exact hF
end Sfshakes
