theorem d_MO_in_0 : decode M_MO_in.2.1 0 = .ok (.iload_n 0, 1) := by decide +kernel
theorem d_MO_in_1 : decode M_MO_in.2.1 1 = .ok (.iload_n 1, 1) := by decide +kernel
theorem d_MO_in_2 : decode M_MO_in.2.1 2 = .ok (.if_icmp .lt 12, 3) := by decide +kernel
theorem d_MO_in_5 : decode M_MO_in.2.1 5 = .ok (.iload_n 0, 1) := by decide +kernel
theorem d_MO_in_6 : decode M_MO_in.2.1 6 = .ok (.iload_n 2, 1) := by decide +kernel
theorem d_MO_in_7 : decode M_MO_in.2.1 7 = .ok (.if_icmp .gt 7, 3) := by decide +kernel
theorem d_MO_in_10 : decode M_MO_in.2.1 10 = .ok (.iconst 1, 1) := by decide +kernel
theorem d_MO_in_11 : decode M_MO_in.2.1 11 = .ok (.goto 4, 3) := by decide +kernel
theorem d_MO_in_14 : decode M_MO_in.2.1 14 = .ok (.iconst 0, 1) := by decide +kernel
theorem d_MO_in_15 : decode M_MO_in.2.1 15 = .ok (.ireturn, 1) := by decide +kernel
theorem d_MO_isShake_0 : decode M_MO_isShake.2.1 0 = .ok (.iload_n 1, 1) := by decide +kernel
theorem d_MO_isShake_1 : decode M_MO_isShake.2.1 1 = .ok (.iconst 0, 1) := by decide +kernel
theorem d_MO_isShake_2 : decode M_MO_isShake.2.1 2 = .ok (.aload_n 0, 1) := by decide +kernel
theorem d_MO_isShake_3 : decode M_MO_isShake.2.1 3 = .ok (.getfield 73, 3) := by decide +kernel
theorem d_MO_isShake_6 : decode M_MO_isShake.2.1 6 = .ok (.iconst 1, 1) := by decide +kernel
theorem d_MO_isShake_7 : decode M_MO_isShake.2.1 7 = .ok (.isub, 1) := by decide +kernel
theorem d_MO_isShake_8 : decode M_MO_isShake.2.1 8 = .ok (.invokestatic 76, 3) := by decide +kernel
theorem d_MO_isShake_11 : decode M_MO_isShake.2.1 11 = .ok (.ireturn, 1) := by decide +kernel
theorem d_MO_shake_0 : decode M_MO_shake.2.1 0 = .ok (.lload_n 1, 1) := by decide +kernel
theorem d_MO_shake_1 : decode M_MO_shake.2.1 1 = .ok (.lconst 0, 1) := by decide +kernel
theorem d_MO_shake_2 : decode M_MO_shake.2.1 2 = .ok (.lcmp, 1) := by decide +kernel
theorem d_MO_shake_3 : decode M_MO_shake.2.1 3 = .ok (.ifCond .le 11, 3) := by decide +kernel
theorem d_MO_shake_6 : decode M_MO_shake.2.1 6 = .ok (.lload_n 1, 1) := by decide +kernel
theorem d_MO_shake_7 : decode M_MO_shake.2.1 7 = .ok (.ldc2_w 80, 3) := by decide +kernel
theorem d_MO_shake_10 : decode M_MO_shake.2.1 10 = .ok (.lcmp, 1) := by decide +kernel
theorem d_MO_shake_11 : decode M_MO_shake.2.1 11 = .ok (.ifCond .lt 6, 3) := by decide +kernel
theorem d_MO_shake_14 : decode M_MO_shake.2.1 14 = .ok (.bipush (-2), 2) := by decide +kernel
theorem d_MO_shake_16 : decode M_MO_shake.2.1 16 = .ok (.ireturn, 1) := by decide +kernel
theorem d_MO_shake_17 : decode M_MO_shake.2.1 17 = .ok (.aload_n 0, 1) := by decide +kernel
theorem d_MO_shake_18 : decode M_MO_shake.2.1 18 = .ok (.getfield 73, 3) := by decide +kernel
theorem d_MO_shake_21 : decode M_MO_shake.2.1 21 = .ok (.bipush 80, 2) := by decide +kernel
theorem d_MO_shake_23 : decode M_MO_shake.2.1 23 = .ok (.if_icmp .ne 6, 3) := by decide +kernel
theorem d_MO_shake_26 : decode M_MO_shake.2.1 26 = .ok (.bipush (-4), 2) := by decide +kernel
theorem d_MO_shake_28 : decode M_MO_shake.2.1 28 = .ok (.ireturn, 1) := by decide +kernel
theorem d_MO_shake_29 : decode M_MO_shake.2.1 29 = .ok (.lload_n 1, 1) := by decide +kernel
theorem d_MO_shake_30 : decode M_MO_shake.2.1 30 = .ok (.lstore_n 3, 1) := by decide +kernel
theorem d_MO_shake_31 : decode M_MO_shake.2.1 31 = .ok (.iconst 0, 1) := by decide +kernel
theorem d_MO_shake_32 : decode M_MO_shake.2.1 32 = .ok (.istore 5, 2) := by decide +kernel
theorem d_MO_shake_34 : decode M_MO_shake.2.1 34 = .ok (.iload 5, 2) := by decide +kernel
theorem d_MO_shake_36 : decode M_MO_shake.2.1 36 = .ok (.bipush 6, 2) := by decide +kernel
theorem d_MO_shake_38 : decode M_MO_shake.2.1 38 = .ok (.if_icmp .ge 36, 3) := by decide +kernel
theorem d_MO_shake_41 : decode M_MO_shake.2.1 41 = .ok (.aload_n 0, 1) := by decide +kernel
theorem d_MO_shake_42 : decode M_MO_shake.2.1 42 = .ok (.getfield 13, 3) := by decide +kernel
theorem d_MO_shake_45 : decode M_MO_shake.2.1 45 = .ok (.bipush 6, 2) := by decide +kernel
theorem d_MO_shake_47 : decode M_MO_shake.2.1 47 = .ok (.aload_n 0, 1) := by decide +kernel
theorem d_MO_shake_48 : decode M_MO_shake.2.1 48 = .ok (.getfield 73, 3) := by decide +kernel
theorem d_MO_shake_51 : decode M_MO_shake.2.1 51 = .ok (.imul, 1) := by decide +kernel
theorem d_MO_shake_52 : decode M_MO_shake.2.1 52 = .ok (.iload 5, 2) := by decide +kernel
theorem d_MO_shake_54 : decode M_MO_shake.2.1 54 = .ok (.iadd, 1) := by decide +kernel
theorem d_MO_shake_55 : decode M_MO_shake.2.1 55 = .ok (.lload_n 3, 1) := by decide +kernel
theorem d_MO_shake_56 : decode M_MO_shake.2.1 56 = .ok (.ldc2_w 82, 3) := by decide +kernel
theorem d_MO_shake_59 : decode M_MO_shake.2.1 59 = .ok (.lrem, 1) := by decide +kernel
theorem d_MO_shake_60 : decode M_MO_shake.2.1 60 = .ok (.l2i, 1) := by decide +kernel
theorem d_MO_shake_61 : decode M_MO_shake.2.1 61 = .ok (.iastore, 1) := by decide +kernel
theorem d_MO_shake_62 : decode M_MO_shake.2.1 62 = .ok (.lload_n 3, 1) := by decide +kernel
theorem d_MO_shake_63 : decode M_MO_shake.2.1 63 = .ok (.ldc2_w 82, 3) := by decide +kernel
theorem d_MO_shake_66 : decode M_MO_shake.2.1 66 = .ok (.ldiv, 1) := by decide +kernel
theorem d_MO_shake_67 : decode M_MO_shake.2.1 67 = .ok (.lstore_n 3, 1) := by decide +kernel
theorem d_MO_shake_68 : decode M_MO_shake.2.1 68 = .ok (.iinc 5 1, 3) := by decide +kernel
theorem d_MO_shake_71 : decode M_MO_shake.2.1 71 = .ok (.goto (-37), 3) := by decide +kernel
theorem d_MO_shake_74 : decode M_MO_shake.2.1 74 = .ok (.aload_n 0, 1) := by decide +kernel
theorem d_MO_shake_75 : decode M_MO_shake.2.1 75 = .ok (.getfield 7, 3) := by decide +kernel
theorem d_MO_shake_78 : decode M_MO_shake.2.1 78 = .ok (.aload_n 0, 1) := by decide +kernel
theorem d_MO_shake_79 : decode M_MO_shake.2.1 79 = .ok (.getfield 73, 3) := by decide +kernel
theorem d_MO_shake_82 : decode M_MO_shake.2.1 82 = .ok (.aload_n 0, 1) := by decide +kernel
theorem d_MO_shake_83 : decode M_MO_shake.2.1 83 = .ok (.getfield 84, 3) := by decide +kernel
theorem d_MO_shake_86 : decode M_MO_shake.2.1 86 = .ok (.iastore, 1) := by decide +kernel
theorem d_MO_shake_87 : decode M_MO_shake.2.1 87 = .ok (.aload_n 0, 1) := by decide +kernel
theorem d_MO_shake_88 : decode M_MO_shake.2.1 88 = .ok (.dup, 1) := by decide +kernel
theorem d_MO_shake_89 : decode M_MO_shake.2.1 89 = .ok (.getfield 73, 3) := by decide +kernel
theorem d_MO_shake_92 : decode M_MO_shake.2.1 92 = .ok (.iconst 1, 1) := by decide +kernel
theorem d_MO_shake_93 : decode M_MO_shake.2.1 93 = .ok (.iadd, 1) := by decide +kernel
theorem d_MO_shake_94 : decode M_MO_shake.2.1 94 = .ok (.putfield 73, 3) := by decide +kernel
theorem d_MO_shake_97 : decode M_MO_shake.2.1 97 = .ok (.aload_n 0, 1) := by decide +kernel
theorem d_MO_shake_98 : decode M_MO_shake.2.1 98 = .ok (.iconst 0, 1) := by decide +kernel
theorem d_MO_shake_99 : decode M_MO_shake.2.1 99 = .ok (.putfield 87, 3) := by decide +kernel
theorem d_MO_shake_102 : decode M_MO_shake.2.1 102 = .ok (.aload_n 0, 1) := by decide +kernel
theorem d_MO_shake_103 : decode M_MO_shake.2.1 103 = .ok (.getfield 73, 3) := by decide +kernel
theorem d_MO_shake_106 : decode M_MO_shake.2.1 106 = .ok (.iconst 1, 1) := by decide +kernel
theorem d_MO_shake_107 : decode M_MO_shake.2.1 107 = .ok (.isub, 1) := by decide +kernel
theorem d_MO_shake_108 : decode M_MO_shake.2.1 108 = .ok (.ireturn, 1) := by decide +kernel
theorem d_MO_kindOf_0 : decode M_MO_kindOf.2.1 0 = .ok (.aload_n 0, 1) := by decide +kernel
theorem d_MO_kindOf_1 : decode M_MO_kindOf.2.1 1 = .ok (.getfield 13, 3) := by decide +kernel
theorem d_MO_kindOf_4 : decode M_MO_kindOf.2.1 4 = .ok (.bipush 6, 2) := by decide +kernel
theorem d_MO_kindOf_6 : decode M_MO_kindOf.2.1 6 = .ok (.iload_n 1, 1) := by decide +kernel
theorem d_MO_kindOf_7 : decode M_MO_kindOf.2.1 7 = .ok (.imul, 1) := by decide +kernel
theorem d_MO_kindOf_8 : decode M_MO_kindOf.2.1 8 = .ok (.iaload, 1) := by decide +kernel
theorem d_MO_kindOf_9 : decode M_MO_kindOf.2.1 9 = .ok (.aload_n 0, 1) := by decide +kernel
theorem d_MO_kindOf_10 : decode M_MO_kindOf.2.1 10 = .ok (.getfield 13, 3) := by decide +kernel
theorem d_MO_kindOf_13 : decode M_MO_kindOf.2.1 13 = .ok (.bipush 6, 2) := by decide +kernel
theorem d_MO_kindOf_15 : decode M_MO_kindOf.2.1 15 = .ok (.iload_n 1, 1) := by decide +kernel
theorem d_MO_kindOf_16 : decode M_MO_kindOf.2.1 16 = .ok (.imul, 1) := by decide +kernel
theorem d_MO_kindOf_17 : decode M_MO_kindOf.2.1 17 = .ok (.iconst 1, 1) := by decide +kernel
theorem d_MO_kindOf_18 : decode M_MO_kindOf.2.1 18 = .ok (.iadd, 1) := by decide +kernel
theorem d_MO_kindOf_19 : decode M_MO_kindOf.2.1 19 = .ok (.iaload, 1) := by decide +kernel
theorem d_MO_kindOf_20 : decode M_MO_kindOf.2.1 20 = .ok (.iadd, 1) := by decide +kernel
theorem d_MO_kindOf_21 : decode M_MO_kindOf.2.1 21 = .ok (.aload_n 0, 1) := by decide +kernel
theorem d_MO_kindOf_22 : decode M_MO_kindOf.2.1 22 = .ok (.getfield 13, 3) := by decide +kernel
theorem d_MO_kindOf_25 : decode M_MO_kindOf.2.1 25 = .ok (.bipush 6, 2) := by decide +kernel
theorem d_MO_kindOf_27 : decode M_MO_kindOf.2.1 27 = .ok (.iload_n 1, 1) := by decide +kernel
theorem d_MO_kindOf_28 : decode M_MO_kindOf.2.1 28 = .ok (.imul, 1) := by decide +kernel
theorem d_MO_kindOf_29 : decode M_MO_kindOf.2.1 29 = .ok (.iconst 2, 1) := by decide +kernel
theorem d_MO_kindOf_30 : decode M_MO_kindOf.2.1 30 = .ok (.iadd, 1) := by decide +kernel
theorem d_MO_kindOf_31 : decode M_MO_kindOf.2.1 31 = .ok (.iaload, 1) := by decide +kernel
theorem d_MO_kindOf_32 : decode M_MO_kindOf.2.1 32 = .ok (.iadd, 1) := by decide +kernel
theorem d_MO_kindOf_33 : decode M_MO_kindOf.2.1 33 = .ok (.istore_n 2, 1) := by decide +kernel
theorem d_MO_kindOf_34 : decode M_MO_kindOf.2.1 34 = .ok (.aload_n 0, 1) := by decide +kernel
theorem d_MO_kindOf_35 : decode M_MO_kindOf.2.1 35 = .ok (.getfield 13, 3) := by decide +kernel
theorem d_MO_kindOf_38 : decode M_MO_kindOf.2.1 38 = .ok (.bipush 6, 2) := by decide +kernel
theorem d_MO_kindOf_40 : decode M_MO_kindOf.2.1 40 = .ok (.iload_n 1, 1) := by decide +kernel
theorem d_MO_kindOf_41 : decode M_MO_kindOf.2.1 41 = .ok (.imul, 1) := by decide +kernel
theorem d_MO_kindOf_42 : decode M_MO_kindOf.2.1 42 = .ok (.iconst 3, 1) := by decide +kernel
theorem d_MO_kindOf_43 : decode M_MO_kindOf.2.1 43 = .ok (.iadd, 1) := by decide +kernel
theorem d_MO_kindOf_44 : decode M_MO_kindOf.2.1 44 = .ok (.iaload, 1) := by decide +kernel
theorem d_MO_kindOf_45 : decode M_MO_kindOf.2.1 45 = .ok (.aload_n 0, 1) := by decide +kernel
theorem d_MO_kindOf_46 : decode M_MO_kindOf.2.1 46 = .ok (.getfield 13, 3) := by decide +kernel
theorem d_MO_kindOf_49 : decode M_MO_kindOf.2.1 49 = .ok (.bipush 6, 2) := by decide +kernel
theorem d_MO_kindOf_51 : decode M_MO_kindOf.2.1 51 = .ok (.iload_n 1, 1) := by decide +kernel
theorem d_MO_kindOf_52 : decode M_MO_kindOf.2.1 52 = .ok (.imul, 1) := by decide +kernel
theorem d_MO_kindOf_53 : decode M_MO_kindOf.2.1 53 = .ok (.iconst 4, 1) := by decide +kernel
theorem d_MO_kindOf_54 : decode M_MO_kindOf.2.1 54 = .ok (.iadd, 1) := by decide +kernel
theorem d_MO_kindOf_55 : decode M_MO_kindOf.2.1 55 = .ok (.iaload, 1) := by decide +kernel
theorem d_MO_kindOf_56 : decode M_MO_kindOf.2.1 56 = .ok (.iadd, 1) := by decide +kernel
theorem d_MO_kindOf_57 : decode M_MO_kindOf.2.1 57 = .ok (.aload_n 0, 1) := by decide +kernel
theorem d_MO_kindOf_58 : decode M_MO_kindOf.2.1 58 = .ok (.getfield 13, 3) := by decide +kernel
theorem d_MO_kindOf_61 : decode M_MO_kindOf.2.1 61 = .ok (.bipush 6, 2) := by decide +kernel
theorem d_MO_kindOf_63 : decode M_MO_kindOf.2.1 63 = .ok (.iload_n 1, 1) := by decide +kernel
theorem d_MO_kindOf_64 : decode M_MO_kindOf.2.1 64 = .ok (.imul, 1) := by decide +kernel
theorem d_MO_kindOf_65 : decode M_MO_kindOf.2.1 65 = .ok (.iconst 5, 1) := by decide +kernel
theorem d_MO_kindOf_66 : decode M_MO_kindOf.2.1 66 = .ok (.iadd, 1) := by decide +kernel
theorem d_MO_kindOf_67 : decode M_MO_kindOf.2.1 67 = .ok (.iaload, 1) := by decide +kernel
theorem d_MO_kindOf_68 : decode M_MO_kindOf.2.1 68 = .ok (.iadd, 1) := by decide +kernel
theorem d_MO_kindOf_69 : decode M_MO_kindOf.2.1 69 = .ok (.istore_n 3, 1) := by decide +kernel
theorem d_MO_kindOf_70 : decode M_MO_kindOf.2.1 70 = .ok (.iload_n 2, 1) := by decide +kernel
theorem d_MO_kindOf_71 : decode M_MO_kindOf.2.1 71 = .ok (.iconst 2, 1) := by decide +kernel
theorem d_MO_kindOf_72 : decode M_MO_kindOf.2.1 72 = .ok (.iload_n 3, 1) := by decide +kernel
theorem d_MO_kindOf_73 : decode M_MO_kindOf.2.1 73 = .ok (.imul, 1) := by decide +kernel
theorem d_MO_kindOf_74 : decode M_MO_kindOf.2.1 74 = .ok (.if_icmp .lt 7, 3) := by decide +kernel
theorem d_MO_kindOf_77 : decode M_MO_kindOf.2.1 77 = .ok (.iconst 0, 1) := by decide +kernel
theorem d_MO_kindOf_78 : decode M_MO_kindOf.2.1 78 = .ok (.goto 15, 3) := by decide +kernel
theorem d_MO_kindOf_81 : decode M_MO_kindOf.2.1 81 = .ok (.iload_n 3, 1) := by decide +kernel
theorem d_MO_kindOf_82 : decode M_MO_kindOf.2.1 82 = .ok (.iconst 2, 1) := by decide +kernel
theorem d_MO_kindOf_83 : decode M_MO_kindOf.2.1 83 = .ok (.iload_n 2, 1) := by decide +kernel
theorem d_MO_kindOf_84 : decode M_MO_kindOf.2.1 84 = .ok (.imul, 1) := by decide +kernel
theorem d_MO_kindOf_85 : decode M_MO_kindOf.2.1 85 = .ok (.if_icmp .lt 7, 3) := by decide +kernel
theorem d_MO_kindOf_88 : decode M_MO_kindOf.2.1 88 = .ok (.iconst 1, 1) := by decide +kernel
theorem d_MO_kindOf_89 : decode M_MO_kindOf.2.1 89 = .ok (.goto 4, 3) := by decide +kernel
theorem d_MO_kindOf_92 : decode M_MO_kindOf.2.1 92 = .ok (.iconst 2, 1) := by decide +kernel
theorem d_MO_kindOf_93 : decode M_MO_kindOf.2.1 93 = .ok (.ireturn, 1) := by decide +kernel
theorem d_MO_product_0 : decode M_MO_product.2.1 0 = .ok (.lconst 0, 1) := by decide +kernel
theorem d_MO_product_1 : decode M_MO_product.2.1 1 = .ok (.lstore_n 3, 1) := by decide +kernel
theorem d_MO_product_2 : decode M_MO_product.2.1 2 = .ok (.iconst 0, 1) := by decide +kernel
theorem d_MO_product_3 : decode M_MO_product.2.1 3 = .ok (.istore 5, 2) := by decide +kernel
theorem d_MO_product_5 : decode M_MO_product.2.1 5 = .ok (.iload 5, 2) := by decide +kernel
theorem d_MO_product_7 : decode M_MO_product.2.1 7 = .ok (.bipush 6, 2) := by decide +kernel
theorem d_MO_product_9 : decode M_MO_product.2.1 9 = .ok (.if_icmp .ge 39, 3) := by decide +kernel
theorem d_MO_product_12 : decode M_MO_product.2.1 12 = .ok (.lload_n 3, 1) := by decide +kernel
theorem d_MO_product_13 : decode M_MO_product.2.1 13 = .ok (.aload_n 0, 1) := by decide +kernel
theorem d_MO_product_14 : decode M_MO_product.2.1 14 = .ok (.getfield 13, 3) := by decide +kernel
theorem d_MO_product_17 : decode M_MO_product.2.1 17 = .ok (.bipush 6, 2) := by decide +kernel
theorem d_MO_product_19 : decode M_MO_product.2.1 19 = .ok (.iload_n 1, 1) := by decide +kernel
theorem d_MO_product_20 : decode M_MO_product.2.1 20 = .ok (.imul, 1) := by decide +kernel
theorem d_MO_product_21 : decode M_MO_product.2.1 21 = .ok (.iload 5, 2) := by decide +kernel
theorem d_MO_product_23 : decode M_MO_product.2.1 23 = .ok (.iadd, 1) := by decide +kernel
theorem d_MO_product_24 : decode M_MO_product.2.1 24 = .ok (.iaload, 1) := by decide +kernel
theorem d_MO_product_25 : decode M_MO_product.2.1 25 = .ok (.i2l, 1) := by decide +kernel
theorem d_MO_product_26 : decode M_MO_product.2.1 26 = .ok (.aload_n 0, 1) := by decide +kernel
theorem d_MO_product_27 : decode M_MO_product.2.1 27 = .ok (.getfield 13, 3) := by decide +kernel
theorem d_MO_product_30 : decode M_MO_product.2.1 30 = .ok (.bipush 6, 2) := by decide +kernel
theorem d_MO_product_32 : decode M_MO_product.2.1 32 = .ok (.iload_n 2, 1) := by decide +kernel
theorem d_MO_product_33 : decode M_MO_product.2.1 33 = .ok (.imul, 1) := by decide +kernel
theorem d_MO_product_34 : decode M_MO_product.2.1 34 = .ok (.iload 5, 2) := by decide +kernel
theorem d_MO_product_36 : decode M_MO_product.2.1 36 = .ok (.iadd, 1) := by decide +kernel
theorem d_MO_product_37 : decode M_MO_product.2.1 37 = .ok (.iaload, 1) := by decide +kernel
theorem d_MO_product_38 : decode M_MO_product.2.1 38 = .ok (.i2l, 1) := by decide +kernel
theorem d_MO_product_39 : decode M_MO_product.2.1 39 = .ok (.lmul, 1) := by decide +kernel
theorem d_MO_product_40 : decode M_MO_product.2.1 40 = .ok (.ladd, 1) := by decide +kernel
theorem d_MO_product_41 : decode M_MO_product.2.1 41 = .ok (.lstore_n 3, 1) := by decide +kernel
theorem d_MO_product_42 : decode M_MO_product.2.1 42 = .ok (.iinc 5 1, 3) := by decide +kernel
theorem d_MO_product_45 : decode M_MO_product.2.1 45 = .ok (.goto (-40), 3) := by decide +kernel
theorem d_MO_product_48 : decode M_MO_product.2.1 48 = .ok (.lload_n 3, 1) := by decide +kernel
theorem d_MO_product_49 : decode M_MO_product.2.1 49 = .ok (.lreturn, 1) := by decide +kernel
theorem d_MO_areAlike_0 : decode M_MO_areAlike.2.1 0 = .ok (.aload_n 0, 1) := by decide +kernel
theorem d_MO_areAlike_1 : decode M_MO_areAlike.2.1 1 = .ok (.iload_n 1, 1) := by decide +kernel
theorem d_MO_areAlike_2 : decode M_MO_areAlike.2.1 2 = .ok (.iload_n 2, 1) := by decide +kernel
theorem d_MO_areAlike_3 : decode M_MO_areAlike.2.1 3 = .ok (.invokevirtual 91, 3) := by decide +kernel
theorem d_MO_areAlike_6 : decode M_MO_areAlike.2.1 6 = .ok (.lstore_n 3, 1) := by decide +kernel
theorem d_MO_areAlike_7 : decode M_MO_areAlike.2.1 7 = .ok (.ldc2_w 95, 3) := by decide +kernel
theorem d_MO_areAlike_10 : decode M_MO_areAlike.2.1 10 = .ok (.lload_n 3, 1) := by decide +kernel
theorem d_MO_areAlike_11 : decode M_MO_areAlike.2.1 11 = .ok (.lmul, 1) := by decide +kernel
theorem d_MO_areAlike_12 : decode M_MO_areAlike.2.1 12 = .ok (.lload_n 3, 1) := by decide +kernel
theorem d_MO_areAlike_13 : decode M_MO_areAlike.2.1 13 = .ok (.lmul, 1) := by decide +kernel
theorem d_MO_areAlike_14 : decode M_MO_areAlike.2.1 14 = .ok (.aload_n 0, 1) := by decide +kernel
theorem d_MO_areAlike_15 : decode M_MO_areAlike.2.1 15 = .ok (.getfield 19, 3) := by decide +kernel
theorem d_MO_areAlike_18 : decode M_MO_areAlike.2.1 18 = .ok (.i2l, 1) := by decide +kernel
theorem d_MO_areAlike_19 : decode M_MO_areAlike.2.1 19 = .ok (.aload_n 0, 1) := by decide +kernel
theorem d_MO_areAlike_20 : decode M_MO_areAlike.2.1 20 = .ok (.iload_n 1, 1) := by decide +kernel
theorem d_MO_areAlike_21 : decode M_MO_areAlike.2.1 21 = .ok (.iload_n 1, 1) := by decide +kernel
theorem d_MO_areAlike_22 : decode M_MO_areAlike.2.1 22 = .ok (.invokevirtual 91, 3) := by decide +kernel
theorem d_MO_areAlike_25 : decode M_MO_areAlike.2.1 25 = .ok (.lmul, 1) := by decide +kernel
theorem d_MO_areAlike_26 : decode M_MO_areAlike.2.1 26 = .ok (.aload_n 0, 1) := by decide +kernel
theorem d_MO_areAlike_27 : decode M_MO_areAlike.2.1 27 = .ok (.iload_n 2, 1) := by decide +kernel
theorem d_MO_areAlike_28 : decode M_MO_areAlike.2.1 28 = .ok (.iload_n 2, 1) := by decide +kernel
theorem d_MO_areAlike_29 : decode M_MO_areAlike.2.1 29 = .ok (.invokevirtual 91, 3) := by decide +kernel
theorem d_MO_areAlike_32 : decode M_MO_areAlike.2.1 32 = .ok (.lmul, 1) := by decide +kernel
theorem d_MO_areAlike_33 : decode M_MO_areAlike.2.1 33 = .ok (.lcmp, 1) := by decide +kernel
theorem d_MO_areAlike_34 : decode M_MO_areAlike.2.1 34 = .ok (.ifCond .lt 7, 3) := by decide +kernel
theorem d_MO_areAlike_37 : decode M_MO_areAlike.2.1 37 = .ok (.iconst 1, 1) := by decide +kernel
theorem d_MO_areAlike_38 : decode M_MO_areAlike.2.1 38 = .ok (.goto 4, 3) := by decide +kernel
theorem d_MO_areAlike_41 : decode M_MO_areAlike.2.1 41 = .ok (.iconst 0, 1) := by decide +kernel
theorem d_MO_areAlike_42 : decode M_MO_areAlike.2.1 42 = .ok (.ireturn, 1) := by decide +kernel
theorem d_MO_mark_0 : decode M_MO_mark.2.1 0 = .ok (.aload_n 0, 1) := by decide +kernel
theorem d_MO_mark_1 : decode M_MO_mark.2.1 1 = .ok (.getfield 87, 3) := by decide +kernel
theorem d_MO_mark_4 : decode M_MO_mark.2.1 4 = .ok (.ifCond .eq 4, 3) := by decide +kernel
theorem d_MO_mark_7 : decode M_MO_mark.2.1 7 = .ok (.return_, 1) := by decide +kernel
theorem d_MO_mark_8 : decode M_MO_mark.2.1 8 = .ok (.aload_n 0, 1) := by decide +kernel
theorem d_MO_mark_9 : decode M_MO_mark.2.1 9 = .ok (.iconst 1, 1) := by decide +kernel
theorem d_MO_mark_10 : decode M_MO_mark.2.1 10 = .ok (.putfield 87, 3) := by decide +kernel
theorem d_MO_mark_13 : decode M_MO_mark.2.1 13 = .ok (.iconst 0, 1) := by decide +kernel
theorem d_MO_mark_14 : decode M_MO_mark.2.1 14 = .ok (.istore_n 1, 1) := by decide +kernel
theorem d_MO_mark_15 : decode M_MO_mark.2.1 15 = .ok (.iload_n 1, 1) := by decide +kernel
theorem d_MO_mark_16 : decode M_MO_mark.2.1 16 = .ok (.aload_n 0, 1) := by decide +kernel
theorem d_MO_mark_17 : decode M_MO_mark.2.1 17 = .ok (.getfield 73, 3) := by decide +kernel
theorem d_MO_mark_20 : decode M_MO_mark.2.1 20 = .ok (.if_icmp .ge 16, 3) := by decide +kernel
theorem d_MO_mark_23 : decode M_MO_mark.2.1 23 = .ok (.aload_n 0, 1) := by decide +kernel
theorem d_MO_mark_24 : decode M_MO_mark.2.1 24 = .ok (.getfield 16, 3) := by decide +kernel
theorem d_MO_mark_27 : decode M_MO_mark.2.1 27 = .ok (.iload_n 1, 1) := by decide +kernel
theorem d_MO_mark_28 : decode M_MO_mark.2.1 28 = .ok (.iload_n 1, 1) := by decide +kernel
theorem d_MO_mark_29 : decode M_MO_mark.2.1 29 = .ok (.iastore, 1) := by decide +kernel
theorem d_MO_mark_30 : decode M_MO_mark.2.1 30 = .ok (.iinc 1 1, 3) := by decide +kernel
theorem d_MO_mark_33 : decode M_MO_mark.2.1 33 = .ok (.goto (-18), 3) := by decide +kernel
theorem d_MO_mark_36 : decode M_MO_mark.2.1 36 = .ok (.iconst 1, 1) := by decide +kernel
theorem d_MO_mark_37 : decode M_MO_mark.2.1 37 = .ok (.istore_n 1, 1) := by decide +kernel
theorem d_MO_mark_38 : decode M_MO_mark.2.1 38 = .ok (.iload_n 1, 1) := by decide +kernel
theorem d_MO_mark_39 : decode M_MO_mark.2.1 39 = .ok (.ifCond .eq 78, 3) := by decide +kernel
theorem d_MO_mark_42 : decode M_MO_mark.2.1 42 = .ok (.iconst 0, 1) := by decide +kernel
theorem d_MO_mark_43 : decode M_MO_mark.2.1 43 = .ok (.istore_n 1, 1) := by decide +kernel
theorem d_MO_mark_44 : decode M_MO_mark.2.1 44 = .ok (.iconst 0, 1) := by decide +kernel
theorem d_MO_mark_45 : decode M_MO_mark.2.1 45 = .ok (.istore_n 2, 1) := by decide +kernel
theorem d_MO_mark_46 : decode M_MO_mark.2.1 46 = .ok (.iload_n 2, 1) := by decide +kernel
theorem d_MO_mark_47 : decode M_MO_mark.2.1 47 = .ok (.aload_n 0, 1) := by decide +kernel
theorem d_MO_mark_48 : decode M_MO_mark.2.1 48 = .ok (.getfield 73, 3) := by decide +kernel
theorem d_MO_mark_51 : decode M_MO_mark.2.1 51 = .ok (.if_icmp .ge 63, 3) := by decide +kernel
theorem d_MO_mark_54 : decode M_MO_mark.2.1 54 = .ok (.iconst 0, 1) := by decide +kernel
theorem d_MO_mark_55 : decode M_MO_mark.2.1 55 = .ok (.istore_n 3, 1) := by decide +kernel
theorem d_MO_mark_56 : decode M_MO_mark.2.1 56 = .ok (.iload_n 3, 1) := by decide +kernel
theorem d_MO_mark_57 : decode M_MO_mark.2.1 57 = .ok (.aload_n 0, 1) := by decide +kernel
theorem d_MO_mark_58 : decode M_MO_mark.2.1 58 = .ok (.getfield 73, 3) := by decide +kernel
theorem d_MO_mark_61 : decode M_MO_mark.2.1 61 = .ok (.if_icmp .ge 47, 3) := by decide +kernel
theorem d_MO_mark_64 : decode M_MO_mark.2.1 64 = .ok (.aload_n 0, 1) := by decide +kernel
theorem d_MO_mark_65 : decode M_MO_mark.2.1 65 = .ok (.getfield 16, 3) := by decide +kernel
theorem d_MO_mark_68 : decode M_MO_mark.2.1 68 = .ok (.iload_n 3, 1) := by decide +kernel
theorem d_MO_mark_69 : decode M_MO_mark.2.1 69 = .ok (.iaload, 1) := by decide +kernel
theorem d_MO_mark_70 : decode M_MO_mark.2.1 70 = .ok (.aload_n 0, 1) := by decide +kernel
theorem d_MO_mark_71 : decode M_MO_mark.2.1 71 = .ok (.getfield 16, 3) := by decide +kernel
theorem d_MO_mark_74 : decode M_MO_mark.2.1 74 = .ok (.iload_n 2, 1) := by decide +kernel
theorem d_MO_mark_75 : decode M_MO_mark.2.1 75 = .ok (.iaload, 1) := by decide +kernel
theorem d_MO_mark_76 : decode M_MO_mark.2.1 76 = .ok (.if_icmp .ge 26, 3) := by decide +kernel
theorem d_MO_mark_79 : decode M_MO_mark.2.1 79 = .ok (.aload_n 0, 1) := by decide +kernel
theorem d_MO_mark_80 : decode M_MO_mark.2.1 80 = .ok (.iload_n 2, 1) := by decide +kernel
theorem d_MO_mark_81 : decode M_MO_mark.2.1 81 = .ok (.iload_n 3, 1) := by decide +kernel
theorem d_MO_mark_82 : decode M_MO_mark.2.1 82 = .ok (.invokevirtual 97, 3) := by decide +kernel
theorem d_MO_mark_85 : decode M_MO_mark.2.1 85 = .ok (.ifCond .eq 17, 3) := by decide +kernel
theorem d_MO_mark_88 : decode M_MO_mark.2.1 88 = .ok (.aload_n 0, 1) := by decide +kernel
theorem d_MO_mark_89 : decode M_MO_mark.2.1 89 = .ok (.getfield 16, 3) := by decide +kernel
theorem d_MO_mark_92 : decode M_MO_mark.2.1 92 = .ok (.iload_n 2, 1) := by decide +kernel
theorem d_MO_mark_93 : decode M_MO_mark.2.1 93 = .ok (.aload_n 0, 1) := by decide +kernel
theorem d_MO_mark_94 : decode M_MO_mark.2.1 94 = .ok (.getfield 16, 3) := by decide +kernel
theorem d_MO_mark_97 : decode M_MO_mark.2.1 97 = .ok (.iload_n 3, 1) := by decide +kernel
theorem d_MO_mark_98 : decode M_MO_mark.2.1 98 = .ok (.iaload, 1) := by decide +kernel
theorem d_MO_mark_99 : decode M_MO_mark.2.1 99 = .ok (.iastore, 1) := by decide +kernel
theorem d_MO_mark_100 : decode M_MO_mark.2.1 100 = .ok (.iconst 1, 1) := by decide +kernel
theorem d_MO_mark_101 : decode M_MO_mark.2.1 101 = .ok (.istore_n 1, 1) := by decide +kernel
theorem d_MO_mark_102 : decode M_MO_mark.2.1 102 = .ok (.iinc 3 1, 3) := by decide +kernel
theorem d_MO_mark_105 : decode M_MO_mark.2.1 105 = .ok (.goto (-49), 3) := by decide +kernel
theorem d_MO_mark_108 : decode M_MO_mark.2.1 108 = .ok (.iinc 2 1, 3) := by decide +kernel
theorem d_MO_mark_111 : decode M_MO_mark.2.1 111 = .ok (.goto (-65), 3) := by decide +kernel
theorem d_MO_mark_114 : decode M_MO_mark.2.1 114 = .ok (.goto (-76), 3) := by decide +kernel
theorem d_MO_mark_117 : decode M_MO_mark.2.1 117 = .ok (.return_, 1) := by decide +kernel
theorem d_MO_about_0 : decode M_MO_about.2.1 0 = .ok (.aload_n 0, 1) := by decide +kernel
theorem d_MO_about_1 : decode M_MO_about.2.1 1 = .ok (.iload_n 1, 1) := by decide +kernel
theorem d_MO_about_2 : decode M_MO_about.2.1 2 = .ok (.invokevirtual 101, 3) := by decide +kernel
theorem d_MO_about_5 : decode M_MO_about.2.1 5 = .ok (.ifCond .ne 5, 3) := by decide +kernel
theorem d_MO_about_8 : decode M_MO_about.2.1 8 = .ok (.iconst (-1), 1) := by decide +kernel
theorem d_MO_about_9 : decode M_MO_about.2.1 9 = .ok (.ireturn, 1) := by decide +kernel
theorem d_MO_about_10 : decode M_MO_about.2.1 10 = .ok (.aload_n 0, 1) := by decide +kernel
theorem d_MO_about_11 : decode M_MO_about.2.1 11 = .ok (.invokevirtual 105, 3) := by decide +kernel
theorem d_MO_about_14 : decode M_MO_about.2.1 14 = .ok (.iload_n 2, 1) := by decide +kernel
theorem d_MO_about_15 : decode M_MO_about.2.1 15 = .ok (.tableswitch 45 0 2 #[25, 32, 38], 25) := by decide +kernel
theorem d_MO_about_40 : decode M_MO_about.2.1 40 = .ok (.aload_n 0, 1) := by decide +kernel
theorem d_MO_about_41 : decode M_MO_about.2.1 41 = .ok (.getfield 7, 3) := by decide +kernel
theorem d_MO_about_44 : decode M_MO_about.2.1 44 = .ok (.iload_n 1, 1) := by decide +kernel
theorem d_MO_about_45 : decode M_MO_about.2.1 45 = .ok (.iaload, 1) := by decide +kernel
theorem d_MO_about_46 : decode M_MO_about.2.1 46 = .ok (.ireturn, 1) := by decide +kernel
theorem d_MO_about_47 : decode M_MO_about.2.1 47 = .ok (.aload_n 0, 1) := by decide +kernel
theorem d_MO_about_48 : decode M_MO_about.2.1 48 = .ok (.iload_n 1, 1) := by decide +kernel
theorem d_MO_about_49 : decode M_MO_about.2.1 49 = .ok (.invokevirtual 108, 3) := by decide +kernel
theorem d_MO_about_52 : decode M_MO_about.2.1 52 = .ok (.ireturn, 1) := by decide +kernel
theorem d_MO_about_53 : decode M_MO_about.2.1 53 = .ok (.aload_n 0, 1) := by decide +kernel
theorem d_MO_about_54 : decode M_MO_about.2.1 54 = .ok (.getfield 16, 3) := by decide +kernel
theorem d_MO_about_57 : decode M_MO_about.2.1 57 = .ok (.iload_n 1, 1) := by decide +kernel
theorem d_MO_about_58 : decode M_MO_about.2.1 58 = .ok (.iaload, 1) := by decide +kernel
theorem d_MO_about_59 : decode M_MO_about.2.1 59 = .ok (.ireturn, 1) := by decide +kernel
theorem d_MO_about_60 : decode M_MO_about.2.1 60 = .ok (.iload_n 2, 1) := by decide +kernel
theorem d_MO_about_61 : decode M_MO_about.2.1 61 = .ok (.bipush 10, 2) := by decide +kernel
theorem d_MO_about_63 : decode M_MO_about.2.1 63 = .ok (.bipush 15, 2) := by decide +kernel
theorem d_MO_about_65 : decode M_MO_about.2.1 65 = .ok (.invokestatic 76, 3) := by decide +kernel
theorem d_MO_about_68 : decode M_MO_about.2.1 68 = .ok (.ifCond .eq 20, 3) := by decide +kernel
theorem d_MO_about_71 : decode M_MO_about.2.1 71 = .ok (.aload_n 0, 1) := by decide +kernel
theorem d_MO_about_72 : decode M_MO_about.2.1 72 = .ok (.getfield 13, 3) := by decide +kernel
theorem d_MO_about_75 : decode M_MO_about.2.1 75 = .ok (.bipush 6, 2) := by decide +kernel
theorem d_MO_about_77 : decode M_MO_about.2.1 77 = .ok (.iload_n 1, 1) := by decide +kernel
theorem d_MO_about_78 : decode M_MO_about.2.1 78 = .ok (.imul, 1) := by decide +kernel
theorem d_MO_about_79 : decode M_MO_about.2.1 79 = .ok (.iload_n 2, 1) := by decide +kernel
theorem d_MO_about_80 : decode M_MO_about.2.1 80 = .ok (.iadd, 1) := by decide +kernel
theorem d_MO_about_81 : decode M_MO_about.2.1 81 = .ok (.bipush 10, 2) := by decide +kernel
theorem d_MO_about_83 : decode M_MO_about.2.1 83 = .ok (.isub, 1) := by decide +kernel
theorem d_MO_about_84 : decode M_MO_about.2.1 84 = .ok (.iaload, 1) := by decide +kernel
theorem d_MO_about_85 : decode M_MO_about.2.1 85 = .ok (.goto 5, 3) := by decide +kernel
theorem d_MO_about_88 : decode M_MO_about.2.1 88 = .ok (.bipush (-2), 2) := by decide +kernel
theorem d_MO_about_90 : decode M_MO_about.2.1 90 = .ok (.ireturn, 1) := by decide +kernel
theorem d_MO_alike_0 : decode M_MO_alike.2.1 0 = .ok (.aload_n 0, 1) := by decide +kernel
theorem d_MO_alike_1 : decode M_MO_alike.2.1 1 = .ok (.iload_n 1, 1) := by decide +kernel
theorem d_MO_alike_2 : decode M_MO_alike.2.1 2 = .ok (.invokevirtual 101, 3) := by decide +kernel
theorem d_MO_alike_5 : decode M_MO_alike.2.1 5 = .ok (.ifCond .eq 11, 3) := by decide +kernel
theorem d_MO_alike_8 : decode M_MO_alike.2.1 8 = .ok (.aload_n 0, 1) := by decide +kernel
theorem d_MO_alike_9 : decode M_MO_alike.2.1 9 = .ok (.iload_n 2, 1) := by decide +kernel
theorem d_MO_alike_10 : decode M_MO_alike.2.1 10 = .ok (.invokevirtual 101, 3) := by decide +kernel
theorem d_MO_alike_13 : decode M_MO_alike.2.1 13 = .ok (.ifCond .ne 5, 3) := by decide +kernel
theorem d_MO_alike_16 : decode M_MO_alike.2.1 16 = .ok (.iconst (-1), 1) := by decide +kernel
theorem d_MO_alike_17 : decode M_MO_alike.2.1 17 = .ok (.ireturn, 1) := by decide +kernel
theorem d_MO_alike_18 : decode M_MO_alike.2.1 18 = .ok (.aload_n 0, 1) := by decide +kernel
theorem d_MO_alike_19 : decode M_MO_alike.2.1 19 = .ok (.iload_n 1, 1) := by decide +kernel
theorem d_MO_alike_20 : decode M_MO_alike.2.1 20 = .ok (.iload_n 2, 1) := by decide +kernel
theorem d_MO_alike_21 : decode M_MO_alike.2.1 21 = .ok (.invokevirtual 97, 3) := by decide +kernel
theorem d_MO_alike_24 : decode M_MO_alike.2.1 24 = .ok (.ifCond .eq 7, 3) := by decide +kernel
theorem d_MO_alike_27 : decode M_MO_alike.2.1 27 = .ok (.iconst 1, 1) := by decide +kernel
theorem d_MO_alike_28 : decode M_MO_alike.2.1 28 = .ok (.goto 4, 3) := by decide +kernel
theorem d_MO_alike_31 : decode M_MO_alike.2.1 31 = .ok (.iconst 0, 1) := by decide +kernel
theorem d_MO_alike_32 : decode M_MO_alike.2.1 32 = .ok (.ireturn, 1) := by decide +kernel
theorem d_MO_likeness_0 : decode M_MO_likeness.2.1 0 = .ok (.iload_n 1, 1) := by decide +kernel
theorem d_MO_likeness_1 : decode M_MO_likeness.2.1 1 = .ok (.iconst 1, 1) := by decide +kernel
theorem d_MO_likeness_2 : decode M_MO_likeness.2.1 2 = .ok (.bipush 100, 2) := by decide +kernel
theorem d_MO_likeness_4 : decode M_MO_likeness.2.1 4 = .ok (.invokestatic 76, 3) := by decide +kernel
theorem d_MO_likeness_7 : decode M_MO_likeness.2.1 7 = .ok (.ifCond .ne 6, 3) := by decide +kernel
theorem d_MO_likeness_10 : decode M_MO_likeness.2.1 10 = .ok (.bipush (-2), 2) := by decide +kernel
theorem d_MO_likeness_12 : decode M_MO_likeness.2.1 12 = .ok (.ireturn, 1) := by decide +kernel
theorem d_MO_likeness_13 : decode M_MO_likeness.2.1 13 = .ok (.aload_n 0, 1) := by decide +kernel
theorem d_MO_likeness_14 : decode M_MO_likeness.2.1 14 = .ok (.getfield 19, 3) := by decide +kernel
theorem d_MO_likeness_17 : decode M_MO_likeness.2.1 17 = .ok (.istore_n 2, 1) := by decide +kernel
theorem d_MO_likeness_18 : decode M_MO_likeness.2.1 18 = .ok (.aload_n 0, 1) := by decide +kernel
theorem d_MO_likeness_19 : decode M_MO_likeness.2.1 19 = .ok (.iload_n 1, 1) := by decide +kernel
theorem d_MO_likeness_20 : decode M_MO_likeness.2.1 20 = .ok (.putfield 19, 3) := by decide +kernel
theorem d_MO_likeness_23 : decode M_MO_likeness.2.1 23 = .ok (.aload_n 0, 1) := by decide +kernel
theorem d_MO_likeness_24 : decode M_MO_likeness.2.1 24 = .ok (.iconst 0, 1) := by decide +kernel
theorem d_MO_likeness_25 : decode M_MO_likeness.2.1 25 = .ok (.putfield 87, 3) := by decide +kernel
theorem d_MO_likeness_28 : decode M_MO_likeness.2.1 28 = .ok (.iload_n 2, 1) := by decide +kernel
theorem d_MO_likeness_29 : decode M_MO_likeness.2.1 29 = .ok (.ireturn, 1) := by decide +kernel
theorem d_MO_family_0 : decode M_MO_family.2.1 0 = .ok (.aload_n 0, 1) := by decide +kernel
theorem d_MO_family_1 : decode M_MO_family.2.1 1 = .ok (.invokevirtual 105, 3) := by decide +kernel
theorem d_MO_family_4 : decode M_MO_family.2.1 4 = .ok (.iconst 0, 1) := by decide +kernel
theorem d_MO_family_5 : decode M_MO_family.2.1 5 = .ok (.istore_n 2, 1) := by decide +kernel
theorem d_MO_family_6 : decode M_MO_family.2.1 6 = .ok (.iconst 0, 1) := by decide +kernel
theorem d_MO_family_7 : decode M_MO_family.2.1 7 = .ok (.istore_n 3, 1) := by decide +kernel
theorem d_MO_family_8 : decode M_MO_family.2.1 8 = .ok (.iload_n 3, 1) := by decide +kernel
theorem d_MO_family_9 : decode M_MO_family.2.1 9 = .ok (.aload_n 0, 1) := by decide +kernel
theorem d_MO_family_10 : decode M_MO_family.2.1 10 = .ok (.getfield 73, 3) := by decide +kernel
theorem d_MO_family_13 : decode M_MO_family.2.1 13 = .ok (.if_icmp .ge 29, 3) := by decide +kernel
theorem d_MO_family_16 : decode M_MO_family.2.1 16 = .ok (.aload_n 0, 1) := by decide +kernel
theorem d_MO_family_17 : decode M_MO_family.2.1 17 = .ok (.getfield 16, 3) := by decide +kernel
theorem d_MO_family_20 : decode M_MO_family.2.1 20 = .ok (.iload_n 3, 1) := by decide +kernel
theorem d_MO_family_21 : decode M_MO_family.2.1 21 = .ok (.iaload, 1) := by decide +kernel
theorem d_MO_family_22 : decode M_MO_family.2.1 22 = .ok (.iload_n 3, 1) := by decide +kernel
theorem d_MO_family_23 : decode M_MO_family.2.1 23 = .ok (.if_icmp .ne 13, 3) := by decide +kernel
theorem d_MO_family_26 : decode M_MO_family.2.1 26 = .ok (.iload_n 2, 1) := by decide +kernel
theorem d_MO_family_27 : decode M_MO_family.2.1 27 = .ok (.iload_n 1, 1) := by decide +kernel
theorem d_MO_family_28 : decode M_MO_family.2.1 28 = .ok (.if_icmp .ne 5, 3) := by decide +kernel
theorem d_MO_family_31 : decode M_MO_family.2.1 31 = .ok (.iload_n 3, 1) := by decide +kernel
theorem d_MO_family_32 : decode M_MO_family.2.1 32 = .ok (.ireturn, 1) := by decide +kernel
theorem d_MO_family_33 : decode M_MO_family.2.1 33 = .ok (.iinc 2 1, 3) := by decide +kernel
theorem d_MO_family_36 : decode M_MO_family.2.1 36 = .ok (.iinc 3 1, 3) := by decide +kernel
theorem d_MO_family_39 : decode M_MO_family.2.1 39 = .ok (.goto (-31), 3) := by decide +kernel
theorem d_MO_family_42 : decode M_MO_family.2.1 42 = .ok (.iload_n 1, 1) := by decide +kernel
theorem d_MO_family_43 : decode M_MO_family.2.1 43 = .ok (.iconst (-1), 1) := by decide +kernel
theorem d_MO_family_44 : decode M_MO_family.2.1 44 = .ok (.if_icmp .ne 7, 3) := by decide +kernel
theorem d_MO_family_47 : decode M_MO_family.2.1 47 = .ok (.iload_n 2, 1) := by decide +kernel
theorem d_MO_family_48 : decode M_MO_family.2.1 48 = .ok (.goto 5, 3) := by decide +kernel
theorem d_MO_family_51 : decode M_MO_family.2.1 51 = .ok (.bipush (-6), 2) := by decide +kernel
theorem d_MO_family_53 : decode M_MO_family.2.1 53 = .ok (.ireturn, 1) := by decide +kernel
theorem d_MO_kin_0 : decode M_MO_kin.2.1 0 = .ok (.aload_n 0, 1) := by decide +kernel
theorem d_MO_kin_1 : decode M_MO_kin.2.1 1 = .ok (.iload_n 1, 1) := by decide +kernel
theorem d_MO_kin_2 : decode M_MO_kin.2.1 2 = .ok (.invokevirtual 101, 3) := by decide +kernel
theorem d_MO_kin_5 : decode M_MO_kin.2.1 5 = .ok (.ifCond .ne 5, 3) := by decide +kernel
theorem d_MO_kin_8 : decode M_MO_kin.2.1 8 = .ok (.iconst (-1), 1) := by decide +kernel
theorem d_MO_kin_9 : decode M_MO_kin.2.1 9 = .ok (.ireturn, 1) := by decide +kernel
theorem d_MO_kin_10 : decode M_MO_kin.2.1 10 = .ok (.aload_n 0, 1) := by decide +kernel
theorem d_MO_kin_11 : decode M_MO_kin.2.1 11 = .ok (.invokevirtual 105, 3) := by decide +kernel
theorem d_MO_kin_14 : decode M_MO_kin.2.1 14 = .ok (.iconst 0, 1) := by decide +kernel
theorem d_MO_kin_15 : decode M_MO_kin.2.1 15 = .ok (.istore_n 2, 1) := by decide +kernel
theorem d_MO_kin_16 : decode M_MO_kin.2.1 16 = .ok (.iconst 0, 1) := by decide +kernel
theorem d_MO_kin_17 : decode M_MO_kin.2.1 17 = .ok (.istore_n 3, 1) := by decide +kernel
theorem d_MO_kin_18 : decode M_MO_kin.2.1 18 = .ok (.iload_n 3, 1) := by decide +kernel
theorem d_MO_kin_19 : decode M_MO_kin.2.1 19 = .ok (.aload_n 0, 1) := by decide +kernel
theorem d_MO_kin_20 : decode M_MO_kin.2.1 20 = .ok (.getfield 73, 3) := by decide +kernel
theorem d_MO_kin_23 : decode M_MO_kin.2.1 23 = .ok (.if_icmp .ge 32, 3) := by decide +kernel
theorem d_MO_kin_26 : decode M_MO_kin.2.1 26 = .ok (.iload_n 2, 1) := by decide +kernel
theorem d_MO_kin_27 : decode M_MO_kin.2.1 27 = .ok (.aload_n 0, 1) := by decide +kernel
theorem d_MO_kin_28 : decode M_MO_kin.2.1 28 = .ok (.getfield 16, 3) := by decide +kernel
theorem d_MO_kin_31 : decode M_MO_kin.2.1 31 = .ok (.iload_n 3, 1) := by decide +kernel
theorem d_MO_kin_32 : decode M_MO_kin.2.1 32 = .ok (.iaload, 1) := by decide +kernel
theorem d_MO_kin_33 : decode M_MO_kin.2.1 33 = .ok (.aload_n 0, 1) := by decide +kernel
theorem d_MO_kin_34 : decode M_MO_kin.2.1 34 = .ok (.getfield 16, 3) := by decide +kernel
theorem d_MO_kin_37 : decode M_MO_kin.2.1 37 = .ok (.iload_n 1, 1) := by decide +kernel
theorem d_MO_kin_38 : decode M_MO_kin.2.1 38 = .ok (.iaload, 1) := by decide +kernel
theorem d_MO_kin_39 : decode M_MO_kin.2.1 39 = .ok (.if_icmp .ne 7, 3) := by decide +kernel
theorem d_MO_kin_42 : decode M_MO_kin.2.1 42 = .ok (.iconst 1, 1) := by decide +kernel
theorem d_MO_kin_43 : decode M_MO_kin.2.1 43 = .ok (.goto 4, 3) := by decide +kernel
theorem d_MO_kin_46 : decode M_MO_kin.2.1 46 = .ok (.iconst 0, 1) := by decide +kernel
theorem d_MO_kin_47 : decode M_MO_kin.2.1 47 = .ok (.iadd, 1) := by decide +kernel
theorem d_MO_kin_48 : decode M_MO_kin.2.1 48 = .ok (.istore_n 2, 1) := by decide +kernel
theorem d_MO_kin_49 : decode M_MO_kin.2.1 49 = .ok (.iinc 3 1, 3) := by decide +kernel
theorem d_MO_kin_52 : decode M_MO_kin.2.1 52 = .ok (.goto (-34), 3) := by decide +kernel
theorem d_MO_kin_55 : decode M_MO_kin.2.1 55 = .ok (.iload_n 2, 1) := by decide +kernel
theorem d_MO_kin_56 : decode M_MO_kin.2.1 56 = .ok (.ireturn, 1) := by decide +kernel
theorem d_MO_tilt_0 : decode M_MO_tilt.2.1 0 = .ok (.iload_n 1, 1) := by decide +kernel
theorem d_MO_tilt_1 : decode M_MO_tilt.2.1 1 = .ok (.sipush (-10000), 3) := by decide +kernel
theorem d_MO_tilt_4 : decode M_MO_tilt.2.1 4 = .ok (.sipush 10000, 3) := by decide +kernel
theorem d_MO_tilt_7 : decode M_MO_tilt.2.1 7 = .ok (.invokestatic 76, 3) := by decide +kernel
theorem d_MO_tilt_10 : decode M_MO_tilt.2.1 10 = .ok (.ifCond .ne 6, 3) := by decide +kernel
theorem d_MO_tilt_13 : decode M_MO_tilt.2.1 13 = .ok (.bipush (-2), 2) := by decide +kernel
theorem d_MO_tilt_15 : decode M_MO_tilt.2.1 15 = .ok (.ireturn, 1) := by decide +kernel
theorem d_MO_tilt_16 : decode M_MO_tilt.2.1 16 = .ok (.aload_n 0, 1) := by decide +kernel
theorem d_MO_tilt_17 : decode M_MO_tilt.2.1 17 = .ok (.getfield 23, 3) := by decide +kernel
theorem d_MO_tilt_20 : decode M_MO_tilt.2.1 20 = .ok (.aload_n 0, 1) := by decide +kernel
theorem d_MO_tilt_21 : decode M_MO_tilt.2.1 21 = .ok (.getfield 84, 3) := by decide +kernel
theorem d_MO_tilt_24 : decode M_MO_tilt.2.1 24 = .ok (.iconst 1, 1) := by decide +kernel
theorem d_MO_tilt_25 : decode M_MO_tilt.2.1 25 = .ok (.bastore, 1) := by decide +kernel
theorem d_MO_tilt_26 : decode M_MO_tilt.2.1 26 = .ok (.aload_n 0, 1) := by decide +kernel
theorem d_MO_tilt_27 : decode M_MO_tilt.2.1 27 = .ok (.getfield 27, 3) := by decide +kernel
theorem d_MO_tilt_30 : decode M_MO_tilt.2.1 30 = .ok (.aload_n 0, 1) := by decide +kernel
theorem d_MO_tilt_31 : decode M_MO_tilt.2.1 31 = .ok (.getfield 84, 3) := by decide +kernel
theorem d_MO_tilt_34 : decode M_MO_tilt.2.1 34 = .ok (.iload_n 1, 1) := by decide +kernel
theorem d_MO_tilt_35 : decode M_MO_tilt.2.1 35 = .ok (.iastore, 1) := by decide +kernel
theorem d_MO_tilt_36 : decode M_MO_tilt.2.1 36 = .ok (.iconst 1, 1) := by decide +kernel
theorem d_MO_tilt_37 : decode M_MO_tilt.2.1 37 = .ok (.ireturn, 1) := by decide +kernel
theorem d_MO_gas_0 : decode M_MO_gas.2.1 0 = .ok (.iload_n 1, 1) := by decide +kernel
theorem d_MO_gas_1 : decode M_MO_gas.2.1 1 = .ok (.iconst 0, 1) := by decide +kernel
theorem d_MO_gas_2 : decode M_MO_gas.2.1 2 = .ok (.sipush 10000, 3) := by decide +kernel
theorem d_MO_gas_5 : decode M_MO_gas.2.1 5 = .ok (.invokestatic 76, 3) := by decide +kernel
theorem d_MO_gas_8 : decode M_MO_gas.2.1 8 = .ok (.ifCond .ne 6, 3) := by decide +kernel
theorem d_MO_gas_11 : decode M_MO_gas.2.1 11 = .ok (.bipush (-2), 2) := by decide +kernel
theorem d_MO_gas_13 : decode M_MO_gas.2.1 13 = .ok (.ireturn, 1) := by decide +kernel
theorem d_MO_gas_14 : decode M_MO_gas.2.1 14 = .ok (.aload_n 0, 1) := by decide +kernel
theorem d_MO_gas_15 : decode M_MO_gas.2.1 15 = .ok (.getfield 30, 3) := by decide +kernel
theorem d_MO_gas_18 : decode M_MO_gas.2.1 18 = .ok (.aload_n 0, 1) := by decide +kernel
theorem d_MO_gas_19 : decode M_MO_gas.2.1 19 = .ok (.getfield 84, 3) := by decide +kernel
theorem d_MO_gas_22 : decode M_MO_gas.2.1 22 = .ok (.iload_n 1, 1) := by decide +kernel
theorem d_MO_gas_23 : decode M_MO_gas.2.1 23 = .ok (.iastore, 1) := by decide +kernel
theorem d_MO_gas_24 : decode M_MO_gas.2.1 24 = .ok (.iconst 1, 1) := by decide +kernel
theorem d_MO_gas_25 : decode M_MO_gas.2.1 25 = .ok (.ireturn, 1) := by decide +kernel
theorem d_MO_isDay_0 : decode M_MO_isDay.2.1 0 = .ok (.iload_n 1, 1) := by decide +kernel
theorem d_MO_isDay_1 : decode M_MO_isDay.2.1 1 = .ok (.iconst 0, 1) := by decide +kernel
theorem d_MO_isDay_2 : decode M_MO_isDay.2.1 2 = .ok (.aload_n 0, 1) := by decide +kernel
theorem d_MO_isDay_3 : decode M_MO_isDay.2.1 3 = .ok (.getfield 84, 3) := by decide +kernel
theorem d_MO_isDay_6 : decode M_MO_isDay.2.1 6 = .ok (.invokestatic 76, 3) := by decide +kernel
theorem d_MO_isDay_9 : decode M_MO_isDay.2.1 9 = .ok (.ireturn, 1) := by decide +kernel
theorem d_MO_tiltDay_0 : decode M_MO_tiltDay.2.1 0 = .ok (.iload_n 1, 1) := by decide +kernel
theorem d_MO_tiltDay_1 : decode M_MO_tiltDay.2.1 1 = .ok (.istore_n 2, 1) := by decide +kernel
theorem d_MO_tiltDay_2 : decode M_MO_tiltDay.2.1 2 = .ok (.iload_n 2, 1) := by decide +kernel
theorem d_MO_tiltDay_3 : decode M_MO_tiltDay.2.1 3 = .ok (.ifCond .lt 18, 3) := by decide +kernel
theorem d_MO_tiltDay_6 : decode M_MO_tiltDay.2.1 6 = .ok (.aload_n 0, 1) := by decide +kernel
theorem d_MO_tiltDay_7 : decode M_MO_tiltDay.2.1 7 = .ok (.getfield 23, 3) := by decide +kernel
theorem d_MO_tiltDay_10 : decode M_MO_tiltDay.2.1 10 = .ok (.iload_n 2, 1) := by decide +kernel
theorem d_MO_tiltDay_11 : decode M_MO_tiltDay.2.1 11 = .ok (.baload, 1) := by decide +kernel
theorem d_MO_tiltDay_12 : decode M_MO_tiltDay.2.1 12 = .ok (.ifCond .ne 9, 3) := by decide +kernel
theorem d_MO_tiltDay_15 : decode M_MO_tiltDay.2.1 15 = .ok (.iinc 2 (-1), 3) := by decide +kernel
theorem d_MO_tiltDay_18 : decode M_MO_tiltDay.2.1 18 = .ok (.goto (-16), 3) := by decide +kernel
theorem d_MO_tiltDay_21 : decode M_MO_tiltDay.2.1 21 = .ok (.iload_n 2, 1) := by decide +kernel
theorem d_MO_tiltDay_22 : decode M_MO_tiltDay.2.1 22 = .ok (.ireturn, 1) := by decide +kernel
theorem d_MO_tiltAt_0 : decode M_MO_tiltAt.2.1 0 = .ok (.aload_n 0, 1) := by decide +kernel
theorem d_MO_tiltAt_1 : decode M_MO_tiltAt.2.1 1 = .ok (.iload_n 1, 1) := by decide +kernel
theorem d_MO_tiltAt_2 : decode M_MO_tiltAt.2.1 2 = .ok (.invokevirtual 112, 3) := by decide +kernel
theorem d_MO_tiltAt_5 : decode M_MO_tiltAt.2.1 5 = .ok (.ifCond .ne 6, 3) := by decide +kernel
theorem d_MO_tiltAt_8 : decode M_MO_tiltAt.2.1 8 = .ok (.ldc 115, 2) := by decide +kernel
theorem d_MO_tiltAt_10 : decode M_MO_tiltAt.2.1 10 = .ok (.ireturn, 1) := by decide +kernel
theorem d_MO_tiltAt_11 : decode M_MO_tiltAt.2.1 11 = .ok (.aload_n 0, 1) := by decide +kernel
theorem d_MO_tiltAt_12 : decode M_MO_tiltAt.2.1 12 = .ok (.iload_n 1, 1) := by decide +kernel
theorem d_MO_tiltAt_13 : decode M_MO_tiltAt.2.1 13 = .ok (.invokevirtual 116, 3) := by decide +kernel
theorem d_MO_tiltAt_16 : decode M_MO_tiltAt.2.1 16 = .ok (.istore_n 2, 1) := by decide +kernel
theorem d_MO_tiltAt_17 : decode M_MO_tiltAt.2.1 17 = .ok (.iload_n 2, 1) := by decide +kernel
theorem d_MO_tiltAt_18 : decode M_MO_tiltAt.2.1 18 = .ok (.ifCond .ge 8, 3) := by decide +kernel
theorem d_MO_tiltAt_21 : decode M_MO_tiltAt.2.1 21 = .ok (.ldc 119, 2) := by decide +kernel
theorem d_MO_tiltAt_23 : decode M_MO_tiltAt.2.1 23 = .ok (.goto 9, 3) := by decide +kernel
theorem d_MO_tiltAt_26 : decode M_MO_tiltAt.2.1 26 = .ok (.aload_n 0, 1) := by decide +kernel
theorem d_MO_tiltAt_27 : decode M_MO_tiltAt.2.1 27 = .ok (.getfield 27, 3) := by decide +kernel
theorem d_MO_tiltAt_30 : decode M_MO_tiltAt.2.1 30 = .ok (.iload_n 2, 1) := by decide +kernel
theorem d_MO_tiltAt_31 : decode M_MO_tiltAt.2.1 31 = .ok (.iaload, 1) := by decide +kernel
theorem d_MO_tiltAt_32 : decode M_MO_tiltAt.2.1 32 = .ok (.ireturn, 1) := by decide +kernel
theorem d_MO_gasOf_0 : decode M_MO_gasOf.2.1 0 = .ok (.aload_n 0, 1) := by decide +kernel
theorem d_MO_gasOf_1 : decode M_MO_gasOf.2.1 1 = .ok (.iload_n 1, 1) := by decide +kernel
theorem d_MO_gasOf_2 : decode M_MO_gasOf.2.1 2 = .ok (.invokevirtual 112, 3) := by decide +kernel
theorem d_MO_gasOf_5 : decode M_MO_gasOf.2.1 5 = .ok (.ifCond .eq 12, 3) := by decide +kernel
theorem d_MO_gasOf_8 : decode M_MO_gasOf.2.1 8 = .ok (.aload_n 0, 1) := by decide +kernel
theorem d_MO_gasOf_9 : decode M_MO_gasOf.2.1 9 = .ok (.getfield 30, 3) := by decide +kernel
theorem d_MO_gasOf_12 : decode M_MO_gasOf.2.1 12 = .ok (.iload_n 1, 1) := by decide +kernel
theorem d_MO_gasOf_13 : decode M_MO_gasOf.2.1 13 = .ok (.iaload, 1) := by decide +kernel
theorem d_MO_gasOf_14 : decode M_MO_gasOf.2.1 14 = .ok (.goto 4, 3) := by decide +kernel
theorem d_MO_gasOf_17 : decode M_MO_gasOf.2.1 17 = .ok (.iconst (-1), 1) := by decide +kernel
theorem d_MO_gasOf_18 : decode M_MO_gasOf.2.1 18 = .ok (.ireturn, 1) := by decide +kernel
theorem d_MO_law_0 : decode M_MO_law.2.1 0 = .ok (.iload_n 1, 1) := by decide +kernel
theorem d_MO_law_1 : decode M_MO_law.2.1 1 = .ok (.iconst 1, 1) := by decide +kernel
theorem d_MO_law_2 : decode M_MO_law.2.1 2 = .ok (.iconst 4, 1) := by decide +kernel
theorem d_MO_law_3 : decode M_MO_law.2.1 3 = .ok (.invokestatic 76, 3) := by decide +kernel
theorem d_MO_law_6 : decode M_MO_law.2.1 6 = .ok (.ifCond .eq 35, 3) := by decide +kernel
theorem d_MO_law_9 : decode M_MO_law.2.1 9 = .ok (.iload_n 2, 1) := by decide +kernel
theorem d_MO_law_10 : decode M_MO_law.2.1 10 = .ok (.iconst 0, 1) := by decide +kernel
theorem d_MO_law_11 : decode M_MO_law.2.1 11 = .ok (.bipush 6, 2) := by decide +kernel
theorem d_MO_law_13 : decode M_MO_law.2.1 13 = .ok (.invokestatic 76, 3) := by decide +kernel
theorem d_MO_law_16 : decode M_MO_law.2.1 16 = .ok (.ifCond .eq 25, 3) := by decide +kernel
theorem d_MO_law_19 : decode M_MO_law.2.1 19 = .ok (.iload_n 3, 1) := by decide +kernel
theorem d_MO_law_20 : decode M_MO_law.2.1 20 = .ok (.iconst 1, 1) := by decide +kernel
theorem d_MO_law_21 : decode M_MO_law.2.1 21 = .ok (.sipush 10000, 3) := by decide +kernel
theorem d_MO_law_24 : decode M_MO_law.2.1 24 = .ok (.invokestatic 76, 3) := by decide +kernel
theorem d_MO_law_27 : decode M_MO_law.2.1 27 = .ok (.ifCond .eq 14, 3) := by decide +kernel
theorem d_MO_law_30 : decode M_MO_law.2.1 30 = .ok (.iload 4, 2) := by decide +kernel
theorem d_MO_law_32 : decode M_MO_law.2.1 32 = .ok (.iconst 1, 1) := by decide +kernel
theorem d_MO_law_33 : decode M_MO_law.2.1 33 = .ok (.bipush 30, 2) := by decide +kernel
theorem d_MO_law_35 : decode M_MO_law.2.1 35 = .ok (.invokestatic 76, 3) := by decide +kernel
theorem d_MO_law_38 : decode M_MO_law.2.1 38 = .ok (.ifCond .ne 6, 3) := by decide +kernel
theorem d_MO_law_41 : decode M_MO_law.2.1 41 = .ok (.bipush (-2), 2) := by decide +kernel
theorem d_MO_law_43 : decode M_MO_law.2.1 43 = .ok (.ireturn, 1) := by decide +kernel
theorem d_MO_law_44 : decode M_MO_law.2.1 44 = .ok (.aload_n 0, 1) := by decide +kernel
theorem d_MO_law_45 : decode M_MO_law.2.1 45 = .ok (.getfield 120, 3) := by decide +kernel
theorem d_MO_law_48 : decode M_MO_law.2.1 48 = .ok (.bipush 8, 2) := by decide +kernel
theorem d_MO_law_50 : decode M_MO_law.2.1 50 = .ok (.if_icmp .ne 6, 3) := by decide +kernel
theorem d_MO_law_53 : decode M_MO_law.2.1 53 = .ok (.bipush (-4), 2) := by decide +kernel
theorem d_MO_law_55 : decode M_MO_law.2.1 55 = .ok (.ireturn, 1) := by decide +kernel
theorem d_MO_law_56 : decode M_MO_law.2.1 56 = .ok (.aload_n 0, 1) := by decide +kernel
theorem d_MO_law_57 : decode M_MO_law.2.1 57 = .ok (.getfield 33, 3) := by decide +kernel
theorem d_MO_law_60 : decode M_MO_law.2.1 60 = .ok (.aload_n 0, 1) := by decide +kernel
theorem d_MO_law_61 : decode M_MO_law.2.1 61 = .ok (.getfield 120, 3) := by decide +kernel
theorem d_MO_law_64 : decode M_MO_law.2.1 64 = .ok (.iload_n 1, 1) := by decide +kernel
theorem d_MO_law_65 : decode M_MO_law.2.1 65 = .ok (.iastore, 1) := by decide +kernel
theorem d_MO_law_66 : decode M_MO_law.2.1 66 = .ok (.aload_n 0, 1) := by decide +kernel
theorem d_MO_law_67 : decode M_MO_law.2.1 67 = .ok (.getfield 36, 3) := by decide +kernel
theorem d_MO_law_70 : decode M_MO_law.2.1 70 = .ok (.aload_n 0, 1) := by decide +kernel
theorem d_MO_law_71 : decode M_MO_law.2.1 71 = .ok (.getfield 120, 3) := by decide +kernel
theorem d_MO_law_74 : decode M_MO_law.2.1 74 = .ok (.iload_n 2, 1) := by decide +kernel
theorem d_MO_law_75 : decode M_MO_law.2.1 75 = .ok (.iastore, 1) := by decide +kernel
theorem d_MO_law_76 : decode M_MO_law.2.1 76 = .ok (.aload_n 0, 1) := by decide +kernel
theorem d_MO_law_77 : decode M_MO_law.2.1 77 = .ok (.getfield 39, 3) := by decide +kernel
theorem d_MO_law_80 : decode M_MO_law.2.1 80 = .ok (.aload_n 0, 1) := by decide +kernel
theorem d_MO_law_81 : decode M_MO_law.2.1 81 = .ok (.getfield 120, 3) := by decide +kernel
theorem d_MO_law_84 : decode M_MO_law.2.1 84 = .ok (.iload_n 3, 1) := by decide +kernel
theorem d_MO_law_85 : decode M_MO_law.2.1 85 = .ok (.iastore, 1) := by decide +kernel
theorem d_MO_law_86 : decode M_MO_law.2.1 86 = .ok (.aload_n 0, 1) := by decide +kernel
theorem d_MO_law_87 : decode M_MO_law.2.1 87 = .ok (.getfield 42, 3) := by decide +kernel
theorem d_MO_law_90 : decode M_MO_law.2.1 90 = .ok (.aload_n 0, 1) := by decide +kernel
theorem d_MO_law_91 : decode M_MO_law.2.1 91 = .ok (.getfield 120, 3) := by decide +kernel
theorem d_MO_law_94 : decode M_MO_law.2.1 94 = .ok (.iload 4, 2) := by decide +kernel
theorem d_MO_law_96 : decode M_MO_law.2.1 96 = .ok (.iastore, 1) := by decide +kernel
theorem d_MO_law_97 : decode M_MO_law.2.1 97 = .ok (.aload_n 0, 1) := by decide +kernel
theorem d_MO_law_98 : decode M_MO_law.2.1 98 = .ok (.dup, 1) := by decide +kernel
theorem d_MO_law_99 : decode M_MO_law.2.1 99 = .ok (.getfield 120, 3) := by decide +kernel
theorem d_MO_law_102 : decode M_MO_law.2.1 102 = .ok (.iconst 1, 1) := by decide +kernel
theorem d_MO_law_103 : decode M_MO_law.2.1 103 = .ok (.iadd, 1) := by decide +kernel
theorem d_MO_law_104 : decode M_MO_law.2.1 104 = .ok (.putfield 120, 3) := by decide +kernel
theorem d_MO_law_107 : decode M_MO_law.2.1 107 = .ok (.aload_n 0, 1) := by decide +kernel
theorem d_MO_law_108 : decode M_MO_law.2.1 108 = .ok (.getfield 120, 3) := by decide +kernel
theorem d_MO_law_111 : decode M_MO_law.2.1 111 = .ok (.iconst 1, 1) := by decide +kernel
theorem d_MO_law_112 : decode M_MO_law.2.1 112 = .ok (.isub, 1) := by decide +kernel
theorem d_MO_law_113 : decode M_MO_law.2.1 113 = .ok (.ireturn, 1) := by decide +kernel
section Sfmodel1
variable {D : va_G} {ad : Nat → Nat} {ca : Nat → ClassId} {sc : SC} {h : Hp} {Q : Option Value → Hp → Prop}
theorem F_MO_in_0 (v0 v1 v2 : Int) (g0 : InR v0) (g1 : InR v1) (g2 : InR v2) (hF : ((v0 < v1 → Q (some (vI 0)) h) ∧ (v1 ≤ v0 → ((v2 < v0 → Q (some (vI 0)) h) ∧ (v0 ≤ v2 → Q (some (vI 1)) h))))) : WP D ad ca sc M_MO_in 0 [(0, vI v0), (1, vI v1), (2, vI v2)] [] h Q := by
  refine P_iload_n 0 d_MO_in_0 rfl rfl ?_
  refine P_iload_n 1 d_MO_in_1 rfl rfl ?_
  refine P_icmp_lt 14 d_MO_in_2 (by decide) g0 g1 (fun c => ?_) (fun c => ?_)
  · have hF := hF.1 c
    refine P_iconst d_MO_in_14 ?_
    exact P_zret d_MO_in_15 rfl (Or.inl rfl) hF
  · have hF := hF.2 (Int.not_lt.mp c)
    refine P_iload_n 0 d_MO_in_5 rfl rfl ?_
    refine P_iload_n 2 d_MO_in_6 rfl rfl ?_
    refine P_icmp_gt 14 d_MO_in_7 (by decide) g0 g2 (fun c => ?_) (fun c => ?_)
    · have hF := hF.1 c
      refine P_iconst d_MO_in_14 ?_
      exact P_zret d_MO_in_15 rfl (Or.inl rfl) hF
    · have hF := hF.2 (Int.not_lt.mp c)
      refine P_iconst d_MO_in_10 ?_
      refine P_goto 15 d_MO_in_11 (by decide) ?_
      exact P_zret d_MO_in_15 rfl (Or.inr rfl) hF
theorem F_MO_isShake_0 (v1 : Int) (g1 : InR v1) (hF : WP D ad ca none M_MO_in 0 [(0, vI v1), (1, vI 0), (2, vI ((h 28 1) - 1))] [] h (RI (fun r3 h2 => (r3 = 0 ∨ r3 = 1) ∧ Q (some (vI r3)) h2))) : WP D ad ca sc M_MO_isShake 0 [(0, .ref (ad 28)), (1, vI v1)] [] h Q := by
  refine P_iload_n 1 d_MO_isShake_0 rfl rfl ?_
  refine P_iconst d_MO_isShake_1 ?_
  refine P_aload_n 0 d_MO_isShake_2 rfl rfl ?_
  refine G_MO_shakes tw_559 d_MO_isShake_3 (fun i1 => ?_)
  refine P_iconst d_MO_isShake_6 ?_
  refine P_isub d_MO_isShake_7 ?_
  refine V_MO_in tw_670 d_MO_isShake_8 (by decide) (Nat.le_of_ble_eq_true rfl) hF (fun r3 h2 i4 hF => ?_)
  obtain ⟨b5, hF⟩ := hF
  exact P_zret d_MO_isShake_11 rfl b5 hF
theorem F_MO_shake_0 (v1 : Int) (g1 : InL v1) (hF : ((v1 ≤ 0 → Q (some (vI (-2))) h) ∧ (0 < v1 → ((v1 < 1061520150601 → ((¬ (h 28 1) = 80 → WP D ad ca sc M_MO_shake 34 [(0, .ref (ad 28)), (3, vL v1), (5, vI 0)] [] h Q) ∧ ((h 28 1) = 80 → Q (some (vI (-4))) h))) ∧ (1061520150601 ≤ v1 → Q (some (vI (-2))) h))))) : WP D ad ca sc M_MO_shake 0 [(0, .ref (ad 28)), (1, vL v1)] [] h Q := by
  refine P_lload_n 1 d_MO_shake_0 rfl rfl ?_
  refine P_lconst (i := 0) d_MO_shake_1 (by decide) ?_
  refine P_lcmp g1 ⟨by decide, by decide⟩ d_MO_shake_2 ?_
  refine P_if_le 14 d_MO_shake_3 (by decide) (lc_R _ _) (fun c => ?_) (fun c => ?_)
  · have hF := hF.1 (lc_le.mp c)
    refine P_bipush d_MO_shake_14 (by decide) ?_
    exact P_iret d_MO_shake_16 rfl hF
  · have hF := hF.2 (lc_gt.mp (Int.not_le.mp c))
    refine P_lload_n 1 d_MO_shake_6 rfl rfl ?_
    refine P_ldc2 (n := 1061520150601) tw_660 (by decide) d_MO_shake_7 ?_
    refine P_lcmp g1 ⟨by decide, by decide⟩ d_MO_shake_10 ?_
    refine P_if_lt 17 d_MO_shake_11 (by decide) (lc_R _ _) (fun c => ?_) (fun c => ?_)
    · have hF := hF.1 (lc_lt.mp c)
      refine P_aload_n 0 d_MO_shake_17 rfl rfl ?_
      refine G_MO_shakes tw_559 d_MO_shake_18 (fun i1 => ?_)
      refine P_bipush d_MO_shake_21 (by decide) ?_
      refine P_icmp_ne 29 d_MO_shake_23 (by decide) i1 ⟨by decide, by decide⟩ (fun c => ?_) (fun c => ?_)
      · have hF := hF.1 c
        refine P_lload_n 1 d_MO_shake_29 rfl rfl ?_
        refine P_lstore_n (lv' := [(0, .ref (ad 28)), (1, vL v1), (3, vL v1)]) [1, 2, 0] d_MO_shake_30 rfl (by decide) rfl ?_
        refine P_iconst d_MO_shake_31 ?_
        refine P_istore (lv' := [(0, .ref (ad 28)), (1, vL v1), (3, vL v1), (5, vI 0)]) [1, 2, 3, 0] d_MO_shake_32 (by decide) rfl ?_
        refine P_sub (lv' := [(0, .ref (ad 28)), (3, vL v1), (5, vI 0)]) [0, 2, 3] rfl ?_
        exact hF
      · have hF := hF.2 c
        refine P_bipush d_MO_shake_26 (by decide) ?_
        exact P_iret d_MO_shake_28 rfl hF
    · have hF := hF.2 (lc_ge.mp (Int.not_lt.mp c))
      refine P_bipush d_MO_shake_14 (by decide) ?_
      exact P_iret d_MO_shake_16 rfl hF
theorem F_MO_shake_34 (v3 v5 : Int) (g5 : InR v5) (hF : ((6 ≤ v5 → (0 ≤ (h 28 1) ∧ (h 28 1) < 80) ∧ (InR ((h 28 1) + 1)) ∧ Q (some (vI (((h 28 1) + 1) - 1))) (up (up (up h 29 (h 28 1) (h 28 0)) 28 1 ((h 28 1) + 1)) 28 5 0)) ∧ (v5 < 6 → (0 ≤ v3 ∧ InL v3) ∧ (0 ≤ ((6 * (h 28 1)) + v5) ∧ ((6 * (h 28 1)) + v5) < 480) ∧ (InR (v3 % 101)) ∧ (0 ≤ v3 ∧ InL v3) ∧ WP D ad ca sc M_MO_shake 34 [(0, .ref (ad 28)), (3, vL (v3 / 101)), (5, vI (v5 + 1))] [] (up h 30 ((6 * (h 28 1)) + v5) (v3 % 101)) Q))) : WP D ad ca sc M_MO_shake 34 [(0, .ref (ad 28)), (3, vL v3), (5, vI v5)] [] h Q := by
  refine P_iload 2 d_MO_shake_34 rfl ?_
  refine P_bipush d_MO_shake_36 (by decide) ?_
  refine P_icmp_ge 74 d_MO_shake_38 (by decide) g5 ⟨by decide, by decide⟩ (fun c => ?_) (fun c => ?_)
  · have hF := hF.1 c
    refine P_aload_n 0 d_MO_shake_74 rfl rfl ?_
    refine G_MO_dayOf tw_560 d_MO_shake_75 ?_
    refine P_aload_n 0 d_MO_shake_78 rfl rfl ?_
    refine G_MO_shakes tw_559 d_MO_shake_79 (fun i1 => ?_)
    refine P_aload_n 0 d_MO_shake_82 rfl rfl ?_
    refine G_MO_today tw_558 d_MO_shake_83 (fun i2 => ?_)
    obtain ⟨b3, hF⟩ := hF
    refine T_29 d_MO_shake_86 b3 i2 ?_
    refine P_aload_n 0 d_MO_shake_87 rfl rfl ?_
    refine P_dup d_MO_shake_88 rfl ?_
    refine G_MO_shakes tw_559 d_MO_shake_89 (fun i4 => ?_)
    refine P_iconst d_MO_shake_92 ?_
    refine P_iadd d_MO_shake_93 ?_
    obtain ⟨b5, hF⟩ := hF
    refine S_MO_shakes tw_559 d_MO_shake_94 b5 ?_
    refine P_aload_n 0 d_MO_shake_97 rfl rfl ?_
    refine P_iconst d_MO_shake_98 ?_
    refine S_MO_areMarked tw_563 d_MO_shake_99 (Or.inl rfl) ?_
    refine P_aload_n 0 d_MO_shake_102 rfl rfl ?_
    refine G_MO_shakes tw_559 d_MO_shake_103 (fun i6 => ?_)
    refine P_iconst d_MO_shake_106 ?_
    refine P_isub d_MO_shake_107 ?_
    exact P_iret d_MO_shake_108 rfl hF
  · have hF := hF.2 (Int.not_le.mp c)
    refine P_aload_n 0 d_MO_shake_41 rfl rfl ?_
    refine G_MO_band tw_561 d_MO_shake_42 ?_
    refine P_bipush d_MO_shake_45 (by decide) ?_
    refine P_aload_n 0 d_MO_shake_47 rfl rfl ?_
    refine G_MO_shakes tw_559 d_MO_shake_48 (fun i7 => ?_)
    refine P_imul d_MO_shake_51 ?_
    refine P_iload 2 d_MO_shake_52 rfl ?_
    refine P_iadd d_MO_shake_54 ?_
    refine P_lload_n 1 d_MO_shake_55 rfl rfl ?_
    refine P_ldc2 (n := 101) tw_661 (by decide) d_MO_shake_56 ?_
    obtain ⟨b8, hF⟩ := hF
    refine P_lrem b8 ⟨by decide, by decide, by decide⟩ d_MO_shake_59 ?_
    refine P_l2i d_MO_shake_60 ?_
    obtain ⟨b9, hF⟩ := hF
    obtain ⟨b10, hF⟩ := hF
    refine T_30 d_MO_shake_61 b9 b10 ?_
    refine P_lload_n 1 d_MO_shake_62 rfl rfl ?_
    refine P_ldc2 (n := 101) tw_661 (by decide) d_MO_shake_63 ?_
    obtain ⟨b11, hF⟩ := hF
    refine P_ldiv b11 ⟨by decide, by decide, by decide⟩ d_MO_shake_66 ?_
    refine P_lstore_n (lv' := [(0, .ref (ad 28)), (3, vL (v3 / 101)), (5, vI v5)]) [1, 0, 2] d_MO_shake_67 rfl (by decide) rfl ?_
    refine P_iinc (lv' := [(0, .ref (ad 28)), (3, vL (v3 / 101)), (5, vI (v5 + 1))]) 2 [1, 2, 0] d_MO_shake_68 rfl (by decide) rfl ?_
    refine P_goto 34 d_MO_shake_71 (by decide) ?_
    refine P_sub (lv' := [(0, .ref (ad 28)), (3, vL (v3 / 101)), (5, vI (v5 + 1))]) [0, 1, 2] rfl ?_
    exact hF
theorem F_MO_kindOf_0 (v1 : Int) (g1 : InR v1) (hF : (0 ≤ (6 * v1) ∧ (6 * v1) < 480) ∧ (0 ≤ ((6 * v1) + 1) ∧ ((6 * v1) + 1) < 480) ∧ (0 ≤ ((6 * v1) + 2) ∧ ((6 * v1) + 2) < 480) ∧ (0 ≤ ((6 * v1) + 3) ∧ ((6 * v1) + 3) < 480) ∧ (0 ≤ ((6 * v1) + 4) ∧ ((6 * v1) + 4) < 480) ∧ (0 ≤ ((6 * v1) + 5) ∧ ((6 * v1) + 5) < 480) ∧ (InR (((h 30 (6 * v1)) + (h 30 ((6 * v1) + 1))) + (h 30 ((6 * v1) + 2)))) ∧ (InR (2 * (((h 30 ((6 * v1) + 3)) + (h 30 ((6 * v1) + 4))) + (h 30 ((6 * v1) + 5))))) ∧ (((((h 30 (6 * v1)) + (h 30 ((6 * v1) + 1))) + (h 30 ((6 * v1) + 2))) < (2 * (((h 30 ((6 * v1) + 3)) + (h 30 ((6 * v1) + 4))) + (h 30 ((6 * v1) + 5)))) → (InR (((h 30 ((6 * v1) + 3)) + (h 30 ((6 * v1) + 4))) + (h 30 ((6 * v1) + 5)))) ∧ (InR (2 * (((h 30 (6 * v1)) + (h 30 ((6 * v1) + 1))) + (h 30 ((6 * v1) + 2))))) ∧ (((((h 30 ((6 * v1) + 3)) + (h 30 ((6 * v1) + 4))) + (h 30 ((6 * v1) + 5))) < (2 * (((h 30 (6 * v1)) + (h 30 ((6 * v1) + 1))) + (h 30 ((6 * v1) + 2)))) → Q (some (vI 2)) h) ∧ ((2 * (((h 30 (6 * v1)) + (h 30 ((6 * v1) + 1))) + (h 30 ((6 * v1) + 2)))) ≤ (((h 30 ((6 * v1) + 3)) + (h 30 ((6 * v1) + 4))) + (h 30 ((6 * v1) + 5))) → Q (some (vI 1)) h))) ∧ ((2 * (((h 30 ((6 * v1) + 3)) + (h 30 ((6 * v1) + 4))) + (h 30 ((6 * v1) + 5)))) ≤ (((h 30 (6 * v1)) + (h 30 ((6 * v1) + 1))) + (h 30 ((6 * v1) + 2))) → Q (some (vI 0)) h))) : WP D ad ca sc M_MO_kindOf 0 [(0, .ref (ad 28)), (1, vI v1)] [] h Q := by
  refine P_aload_n 0 d_MO_kindOf_0 rfl rfl ?_
  refine G_MO_band tw_561 d_MO_kindOf_1 ?_
  refine P_bipush d_MO_kindOf_4 (by decide) ?_
  refine P_iload_n 1 d_MO_kindOf_6 rfl rfl ?_
  refine P_imul d_MO_kindOf_7 ?_
  obtain ⟨b1, hF⟩ := hF
  refine L_30 d_MO_kindOf_8 b1 (fun i2 => ?_)
  refine P_aload_n 0 d_MO_kindOf_9 rfl rfl ?_
  refine G_MO_band tw_561 d_MO_kindOf_10 ?_
  refine P_bipush d_MO_kindOf_13 (by decide) ?_
  refine P_iload_n 1 d_MO_kindOf_15 rfl rfl ?_
  refine P_imul d_MO_kindOf_16 ?_
  refine P_iconst d_MO_kindOf_17 ?_
  refine P_iadd d_MO_kindOf_18 ?_
  obtain ⟨b3, hF⟩ := hF
  refine L_30 d_MO_kindOf_19 b3 (fun i4 => ?_)
  refine P_iadd d_MO_kindOf_20 ?_
  refine P_aload_n 0 d_MO_kindOf_21 rfl rfl ?_
  refine G_MO_band tw_561 d_MO_kindOf_22 ?_
  refine P_bipush d_MO_kindOf_25 (by decide) ?_
  refine P_iload_n 1 d_MO_kindOf_27 rfl rfl ?_
  refine P_imul d_MO_kindOf_28 ?_
  refine P_iconst d_MO_kindOf_29 ?_
  refine P_iadd d_MO_kindOf_30 ?_
  obtain ⟨b5, hF⟩ := hF
  refine L_30 d_MO_kindOf_31 b5 (fun i6 => ?_)
  refine P_iadd d_MO_kindOf_32 ?_
  refine P_istore_n (lv' := [(0, .ref (ad 28)), (1, vI v1), (2, vI (((h 30 (6 * v1)) + (h 30 ((6 * v1) + 1))) + (h 30 ((6 * v1) + 2))))]) [1, 2, 0] d_MO_kindOf_33 rfl (by decide) rfl ?_
  refine P_aload_n 0 d_MO_kindOf_34 rfl rfl ?_
  refine G_MO_band tw_561 d_MO_kindOf_35 ?_
  refine P_bipush d_MO_kindOf_38 (by decide) ?_
  refine P_iload_n 1 d_MO_kindOf_40 rfl rfl ?_
  refine P_imul d_MO_kindOf_41 ?_
  refine P_iconst d_MO_kindOf_42 ?_
  refine P_iadd d_MO_kindOf_43 ?_
  obtain ⟨b7, hF⟩ := hF
  refine L_30 d_MO_kindOf_44 b7 (fun i8 => ?_)
  refine P_aload_n 0 d_MO_kindOf_45 rfl rfl ?_
  refine G_MO_band tw_561 d_MO_kindOf_46 ?_
  refine P_bipush d_MO_kindOf_49 (by decide) ?_
  refine P_iload_n 1 d_MO_kindOf_51 rfl rfl ?_
  refine P_imul d_MO_kindOf_52 ?_
  refine P_iconst d_MO_kindOf_53 ?_
  refine P_iadd d_MO_kindOf_54 ?_
  obtain ⟨b9, hF⟩ := hF
  refine L_30 d_MO_kindOf_55 b9 (fun i10 => ?_)
  refine P_iadd d_MO_kindOf_56 ?_
  refine P_aload_n 0 d_MO_kindOf_57 rfl rfl ?_
  refine G_MO_band tw_561 d_MO_kindOf_58 ?_
  refine P_bipush d_MO_kindOf_61 (by decide) ?_
  refine P_iload_n 1 d_MO_kindOf_63 rfl rfl ?_
  refine P_imul d_MO_kindOf_64 ?_
  refine P_iconst d_MO_kindOf_65 ?_
  refine P_iadd d_MO_kindOf_66 ?_
  obtain ⟨b11, hF⟩ := hF
  refine L_30 d_MO_kindOf_67 b11 (fun i12 => ?_)
  refine P_iadd d_MO_kindOf_68 ?_
  refine P_istore_n (lv' := [(0, .ref (ad 28)), (1, vI v1), (2, vI (((h 30 (6 * v1)) + (h 30 ((6 * v1) + 1))) + (h 30 ((6 * v1) + 2)))), (3, vI (((h 30 ((6 * v1) + 3)) + (h 30 ((6 * v1) + 4))) + (h 30 ((6 * v1) + 5))))]) [1, 2, 3, 0] d_MO_kindOf_69 rfl (by decide) rfl ?_
  refine P_iload_n 2 d_MO_kindOf_70 rfl rfl ?_
  refine P_iconst d_MO_kindOf_71 ?_
  refine P_iload_n 3 d_MO_kindOf_72 rfl rfl ?_
  refine P_imul d_MO_kindOf_73 ?_
  obtain ⟨b13, hF⟩ := hF
  obtain ⟨b14, hF⟩ := hF
  refine P_icmp_lt 81 d_MO_kindOf_74 (by decide) b13 b14 (fun c => ?_) (fun c => ?_)
  · have hF := hF.1 c
    refine P_iload_n 3 d_MO_kindOf_81 rfl rfl ?_
    refine P_iconst d_MO_kindOf_82 ?_
    refine P_iload_n 2 d_MO_kindOf_83 rfl rfl ?_
    refine P_imul d_MO_kindOf_84 ?_
    obtain ⟨b15, hF⟩ := hF
    obtain ⟨b16, hF⟩ := hF
    refine P_icmp_lt 92 d_MO_kindOf_85 (by decide) b15 b16 (fun c => ?_) (fun c => ?_)
    · have hF := hF.1 c
      refine P_iconst d_MO_kindOf_92 ?_
      exact P_iret d_MO_kindOf_93 rfl hF
    · have hF := hF.2 (Int.not_lt.mp c)
      refine P_iconst d_MO_kindOf_88 ?_
      refine P_goto 93 d_MO_kindOf_89 (by decide) ?_
      exact P_iret d_MO_kindOf_93 rfl hF
  · have hF := hF.2 (Int.not_lt.mp c)
    refine P_iconst d_MO_kindOf_77 ?_
    refine P_goto 93 d_MO_kindOf_78 (by decide) ?_
    exact P_iret d_MO_kindOf_93 rfl hF
theorem F_MO_product_0 (v1 v2 : Int) (g1 : InR v1) (g2 : InR v2) (hF : WP D ad ca sc M_MO_product 5 [(0, .ref (ad 28)), (1, vI v1), (2, vI v2), (3, vL 0), (5, vI 0)] [] h Q) : WP D ad ca sc M_MO_product 0 [(0, .ref (ad 28)), (1, vI v1), (2, vI v2)] [] h Q := by
  refine P_lconst (i := 0) d_MO_product_0 (by decide) ?_
  refine P_lstore_n (lv' := [(0, .ref (ad 28)), (1, vI v1), (2, vI v2), (3, vL 0)]) [1, 2, 3, 0] d_MO_product_1 rfl (by decide) rfl ?_
  refine P_iconst d_MO_product_2 ?_
  refine P_istore (lv' := [(0, .ref (ad 28)), (1, vI v1), (2, vI v2), (3, vL 0), (5, vI 0)]) [1, 2, 3, 4, 0] d_MO_product_3 (by decide) rfl ?_
  refine P_sub (lv' := [(0, .ref (ad 28)), (1, vI v1), (2, vI v2), (3, vL 0), (5, vI 0)]) [0, 1, 2, 3, 4] rfl ?_
  exact hF
theorem F_MO_product_5 (v1 v2 v3 v5 : Int) (g1 : InR v1) (g2 : InR v2) (g5 : InR v5) (hF : ((6 ≤ v5 → Q (some (vL v3)) h) ∧ (v5 < 6 → (0 ≤ ((6 * v1) + v5) ∧ ((6 * v1) + v5) < 480) ∧ (0 ≤ ((6 * v2) + v5) ∧ ((6 * v2) + v5) < 480) ∧ WP D ad ca sc M_MO_product 5 [(0, .ref (ad 28)), (1, vI v1), (2, vI v2), (3, vL (v3 + ((h 30 ((6 * v1) + v5)) * (h 30 ((6 * v2) + v5))))), (5, vI (v5 + 1))] [] h Q))) : WP D ad ca sc M_MO_product 5 [(0, .ref (ad 28)), (1, vI v1), (2, vI v2), (3, vL v3), (5, vI v5)] [] h Q := by
  refine P_iload 4 d_MO_product_5 rfl ?_
  refine P_bipush d_MO_product_7 (by decide) ?_
  refine P_icmp_ge 48 d_MO_product_9 (by decide) g5 ⟨by decide, by decide⟩ (fun c => ?_) (fun c => ?_)
  · have hF := hF.1 c
    refine P_lload_n 3 d_MO_product_48 rfl rfl ?_
    exact P_lret d_MO_product_49 rfl hF
  · have hF := hF.2 (Int.not_le.mp c)
    refine P_lload_n 3 d_MO_product_12 rfl rfl ?_
    refine P_aload_n 0 d_MO_product_13 rfl rfl ?_
    refine G_MO_band tw_561 d_MO_product_14 ?_
    refine P_bipush d_MO_product_17 (by decide) ?_
    refine P_iload_n 1 d_MO_product_19 rfl rfl ?_
    refine P_imul d_MO_product_20 ?_
    refine P_iload 4 d_MO_product_21 rfl ?_
    refine P_iadd d_MO_product_23 ?_
    obtain ⟨b1, hF⟩ := hF
    refine L_30 d_MO_product_24 b1 (fun i2 => ?_)
    refine P_i2l i2 d_MO_product_25 ?_
    refine P_aload_n 0 d_MO_product_26 rfl rfl ?_
    refine G_MO_band tw_561 d_MO_product_27 ?_
    refine P_bipush d_MO_product_30 (by decide) ?_
    refine P_iload_n 2 d_MO_product_32 rfl rfl ?_
    refine P_imul d_MO_product_33 ?_
    refine P_iload 4 d_MO_product_34 rfl ?_
    refine P_iadd d_MO_product_36 ?_
    obtain ⟨b3, hF⟩ := hF
    refine L_30 d_MO_product_37 b3 (fun i4 => ?_)
    refine P_i2l i4 d_MO_product_38 ?_
    refine P_lmul d_MO_product_39 ?_
    refine P_ladd d_MO_product_40 ?_
    refine P_lstore_n (lv' := [(0, .ref (ad 28)), (1, vI v1), (2, vI v2), (3, vL (v3 + ((h 30 ((6 * v1) + v5)) * (h 30 ((6 * v2) + v5))))), (5, vI v5)]) [1, 2, 3, 0, 4] d_MO_product_41 rfl (by decide) rfl ?_
    refine P_iinc (lv' := [(0, .ref (ad 28)), (1, vI v1), (2, vI v2), (3, vL (v3 + ((h 30 ((6 * v1) + v5)) * (h 30 ((6 * v2) + v5))))), (5, vI (v5 + 1))]) 4 [1, 2, 3, 4, 0] d_MO_product_42 rfl (by decide) rfl ?_
    refine P_goto 5 d_MO_product_45 (by decide) ?_
    refine P_sub (lv' := [(0, .ref (ad 28)), (1, vI v1), (2, vI v2), (3, vL (v3 + ((h 30 ((6 * v1) + v5)) * (h 30 ((6 * v2) + v5))))), (5, vI (v5 + 1))]) [0, 1, 2, 3, 4] rfl ?_
    exact hF
theorem F_MO_areAlike_0 (v1 v2 : Int) (g1 : InR v1) (g2 : InR v2) (hF : WP D ad ca none M_MO_product 0 [(0, .ref (ad 28)), (1, vI v1), (2, vI v2)] [] h (RL (fun r2 h1 => WP D ad ca none M_MO_product 0 [(0, .ref (ad 28)), (1, vI v1), (2, vI v1)] [] h1 (RL (fun r6 h5 => WP D ad ca none M_MO_product 0 [(0, .ref (ad 28)), (1, vI v2), (2, vI v2)] [] h5 (RL (fun r9 h8 => (InL ((100 * r2) * r2)) ∧ (InL (((h1 28 6) * r6) * r9)) ∧ ((((100 * r2) * r2) < (((h1 28 6) * r6) * r9) → Q (some (vI 0)) h8) ∧ ((((h1 28 6) * r6) * r9) ≤ ((100 * r2) * r2) → Q (some (vI 1)) h8))))))))) : WP D ad ca sc M_MO_areAlike 0 [(0, .ref (ad 28)), (1, vI v1), (2, vI v2)] [] h Q := by
  refine P_aload_n 0 d_MO_areAlike_0 rfl rfl ?_
  refine P_iload_n 1 d_MO_areAlike_1 rfl rfl ?_
  refine P_iload_n 2 d_MO_areAlike_2 rfl rfl ?_
  refine V_MO_product tw_681 d_MO_areAlike_3 (by decide) (Nat.le_of_ble_eq_true rfl) hF (fun r2 h1 i3 hF => ?_)
  refine P_lstore_n (lv' := [(0, .ref (ad 28)), (1, vI v1), (2, vI v2), (3, vL r2)]) [1, 2, 3, 0] d_MO_areAlike_6 rfl (by decide) rfl ?_
  refine P_ldc2 (n := 100) tw_685 (by decide) d_MO_areAlike_7 ?_
  refine P_lload_n 3 d_MO_areAlike_10 rfl rfl ?_
  refine P_lmul d_MO_areAlike_11 ?_
  refine P_lload_n 3 d_MO_areAlike_12 rfl rfl ?_
  refine P_lmul d_MO_areAlike_13 ?_
  refine P_aload_n 0 d_MO_areAlike_14 rfl rfl ?_
  refine G_MO_likeness tw_564 d_MO_areAlike_15 (fun i4 => ?_)
  refine P_i2l i4 d_MO_areAlike_18 ?_
  refine P_aload_n 0 d_MO_areAlike_19 rfl rfl ?_
  refine P_iload_n 1 d_MO_areAlike_20 rfl rfl ?_
  refine P_iload_n 1 d_MO_areAlike_21 rfl rfl ?_
  refine V_MO_product tw_681 d_MO_areAlike_22 (by decide) (Nat.le_of_ble_eq_true rfl) hF (fun r6 h5 i7 hF => ?_)
  refine P_lmul d_MO_areAlike_25 ?_
  refine P_aload_n 0 d_MO_areAlike_26 rfl rfl ?_
  refine P_iload_n 2 d_MO_areAlike_27 rfl rfl ?_
  refine P_iload_n 2 d_MO_areAlike_28 rfl rfl ?_
  refine V_MO_product tw_681 d_MO_areAlike_29 (by decide) (Nat.le_of_ble_eq_true rfl) hF (fun r9 h8 i10 hF => ?_)
  refine P_lmul d_MO_areAlike_32 ?_
  obtain ⟨b11, hF⟩ := hF
  obtain ⟨b12, hF⟩ := hF
  refine P_lcmp b11 b12 d_MO_areAlike_33 ?_
  refine P_if_lt 41 d_MO_areAlike_34 (by decide) (lc_R _ _) (fun c => ?_) (fun c => ?_)
  · have hF := hF.1 (lc_lt.mp c)
    refine P_iconst d_MO_areAlike_41 ?_
    exact P_zret d_MO_areAlike_42 rfl (Or.inl rfl) hF
  · have hF := hF.2 (lc_ge.mp (Int.not_lt.mp c))
    refine P_iconst d_MO_areAlike_37 ?_
    refine P_goto 42 d_MO_areAlike_38 (by decide) ?_
    exact P_zret d_MO_areAlike_42 rfl (Or.inr rfl) hF
theorem F_MO_mark_0  (hF : (((h 28 5) = 0 → WP D ad ca sc M_MO_mark 15 [(0, .ref (ad 28)), (1, vI 0)] [] (up h 28 5 1) Q) ∧ (¬ (h 28 5) = 0 → Q none h))) : WP D ad ca sc M_MO_mark 0 [(0, .ref (ad 28))] [] h Q := by
  refine P_aload_n 0 d_MO_mark_0 rfl rfl ?_
  refine G_MO_areMarked tw_563 d_MO_mark_1 (fun i1 => ?_)
  refine P_if_eq 8 d_MO_mark_4 (by decide) i1 (fun c => ?_) (fun c => ?_)
  · have hF := hF.1 c
    refine P_aload_n 0 d_MO_mark_8 rfl rfl ?_
    refine P_iconst d_MO_mark_9 ?_
    refine S_MO_areMarked tw_563 d_MO_mark_10 (Or.inr rfl) ?_
    refine P_iconst d_MO_mark_13 ?_
    refine P_istore_n (lv' := [(0, .ref (ad 28)), (1, vI 0)]) [1, 0] d_MO_mark_14 rfl (by decide) rfl ?_
    refine P_sub (lv' := [(0, .ref (ad 28)), (1, vI 0)]) [0, 1] rfl ?_
    exact hF
  · have hF := hF.2 c
    exact P_vret d_MO_mark_7 rfl hF
theorem F_MO_mark_15 (v1 : Int) (g1 : InR v1) (hF : (((h 28 1) ≤ v1 → WP D ad ca sc M_MO_mark 38 [(0, .ref (ad 28)), (1, vI 1)] [] h Q) ∧ (v1 < (h 28 1) → (0 ≤ v1 ∧ v1 < 80) ∧ WP D ad ca sc M_MO_mark 15 [(0, .ref (ad 28)), (1, vI (v1 + 1))] [] (up h 31 v1 v1) Q))) : WP D ad ca sc M_MO_mark 15 [(0, .ref (ad 28)), (1, vI v1)] [] h Q := by
  refine P_iload_n 1 d_MO_mark_15 rfl rfl ?_
  refine P_aload_n 0 d_MO_mark_16 rfl rfl ?_
  refine G_MO_shakes tw_559 d_MO_mark_17 (fun i1 => ?_)
  refine P_icmp_ge 36 d_MO_mark_20 (by decide) g1 i1 (fun c => ?_) (fun c => ?_)
  · have hF := hF.1 c
    refine P_iconst d_MO_mark_36 ?_
    refine P_istore_n (lv' := [(0, .ref (ad 28)), (1, vI 1)]) [1, 0] d_MO_mark_37 rfl (by decide) rfl ?_
    refine P_sub (lv' := [(0, .ref (ad 28)), (1, vI 1)]) [0, 1] rfl ?_
    exact hF
  · have hF := hF.2 (Int.not_le.mp c)
    refine P_aload_n 0 d_MO_mark_23 rfl rfl ?_
    refine G_MO_family tw_562 d_MO_mark_24 ?_
    refine P_iload_n 1 d_MO_mark_27 rfl rfl ?_
    refine P_iload_n 1 d_MO_mark_28 rfl rfl ?_
    obtain ⟨b2, hF⟩ := hF
    refine T_31 d_MO_mark_29 b2 g1 ?_
    refine P_iinc (lv' := [(0, .ref (ad 28)), (1, vI (v1 + 1))]) 1 [1, 0] d_MO_mark_30 rfl (by decide) rfl ?_
    refine P_goto 15 d_MO_mark_33 (by decide) ?_
    refine P_sub (lv' := [(0, .ref (ad 28)), (1, vI (v1 + 1))]) [0, 1] rfl ?_
    exact hF
theorem F_MO_mark_38 (v1 : Int) (g1 : InR v1) (hF : ((v1 = 0 → Q none h) ∧ (¬ v1 = 0 → WP D ad ca sc M_MO_mark 46 [(0, .ref (ad 28)), (1, vI 0), (2, vI 0)] [] h Q))) : WP D ad ca sc M_MO_mark 38 [(0, .ref (ad 28)), (1, vI v1)] [] h Q := by
  refine P_iload_n 1 d_MO_mark_38 rfl rfl ?_
  refine P_if_eq 117 d_MO_mark_39 (by decide) g1 (fun c => ?_) (fun c => ?_)
  · have hF := hF.1 c
    exact P_vret d_MO_mark_117 rfl hF
  · have hF := hF.2 c
    refine P_iconst d_MO_mark_42 ?_
    refine P_istore_n (lv' := [(0, .ref (ad 28)), (1, vI 0)]) [1, 0] d_MO_mark_43 rfl (by decide) rfl ?_
    refine P_iconst d_MO_mark_44 ?_
    refine P_istore_n (lv' := [(0, .ref (ad 28)), (1, vI 0), (2, vI 0)]) [1, 2, 0] d_MO_mark_45 rfl (by decide) rfl ?_
    refine P_sub (lv' := [(0, .ref (ad 28)), (1, vI 0), (2, vI 0)]) [0, 1, 2] rfl ?_
    exact hF
theorem F_MO_mark_46 (v1 v2 : Int) (g1 : InR v1) (g2 : InR v2) (hF : (((h 28 1) ≤ v2 → WP D ad ca sc M_MO_mark 38 [(0, .ref (ad 28)), (1, vI v1)] [] h Q) ∧ (v2 < (h 28 1) → WP D ad ca sc M_MO_mark 56 [(0, .ref (ad 28)), (1, vI v1), (2, vI v2), (3, vI 0)] [] h Q))) : WP D ad ca sc M_MO_mark 46 [(0, .ref (ad 28)), (1, vI v1), (2, vI v2)] [] h Q := by
  refine P_iload_n 2 d_MO_mark_46 rfl rfl ?_
  refine P_aload_n 0 d_MO_mark_47 rfl rfl ?_
  refine G_MO_shakes tw_559 d_MO_mark_48 (fun i1 => ?_)
  refine P_icmp_ge 114 d_MO_mark_51 (by decide) g2 i1 (fun c => ?_) (fun c => ?_)
  · have hF := hF.1 c
    refine P_goto 38 d_MO_mark_114 (by decide) ?_
    refine P_sub (lv' := [(0, .ref (ad 28)), (1, vI v1)]) [0, 1] rfl ?_
    exact hF
  · have hF := hF.2 (Int.not_le.mp c)
    refine P_iconst d_MO_mark_54 ?_
    refine P_istore_n (lv' := [(0, .ref (ad 28)), (1, vI v1), (2, vI v2), (3, vI 0)]) [1, 2, 3, 0] d_MO_mark_55 rfl (by decide) rfl ?_
    refine P_sub (lv' := [(0, .ref (ad 28)), (1, vI v1), (2, vI v2), (3, vI 0)]) [0, 1, 2, 3] rfl ?_
    exact hF
theorem F_MO_mark_56 (v1 v2 v3 : Int) (g1 : InR v1) (g2 : InR v2) (g3 : InR v3) (hF : (((h 28 1) ≤ v3 → WP D ad ca sc M_MO_mark 46 [(0, .ref (ad 28)), (1, vI v1), (2, vI (v2 + 1))] [] h Q) ∧ (v3 < (h 28 1) → (0 ≤ v3 ∧ v3 < 80) ∧ (0 ≤ v2 ∧ v2 < 80) ∧ (((h 31 v2) ≤ (h 31 v3) → WP D ad ca sc M_MO_mark 56 [(0, .ref (ad 28)), (1, vI v1), (2, vI v2), (3, vI (v3 + 1))] [] h Q) ∧ ((h 31 v3) < (h 31 v2) → WP D ad ca none M_MO_areAlike 0 [(0, .ref (ad 28)), (1, vI v2), (2, vI v3)] [] h (RI (fun r7 h6 => ((r7 = 0 → WP D ad ca sc M_MO_mark 56 [(0, .ref (ad 28)), (1, vI v1), (2, vI v2), (3, vI (v3 + 1))] [] h6 Q) ∧ (¬ r7 = 0 → (0 ≤ v3 ∧ v3 < 80) ∧ (0 ≤ v2 ∧ v2 < 80) ∧ WP D ad ca sc M_MO_mark 56 [(0, .ref (ad 28)), (1, vI 1), (2, vI v2), (3, vI (v3 + 1))] [] (up h6 31 v2 (h6 31 v3)) Q))))))))) : WP D ad ca sc M_MO_mark 56 [(0, .ref (ad 28)), (1, vI v1), (2, vI v2), (3, vI v3)] [] h Q := by
  refine P_iload_n 3 d_MO_mark_56 rfl rfl ?_
  refine P_aload_n 0 d_MO_mark_57 rfl rfl ?_
  refine G_MO_shakes tw_559 d_MO_mark_58 (fun i1 => ?_)
  refine P_icmp_ge 108 d_MO_mark_61 (by decide) g3 i1 (fun c => ?_) (fun c => ?_)
  · have hF := hF.1 c
    refine P_iinc (lv' := [(0, .ref (ad 28)), (1, vI v1), (2, vI (v2 + 1)), (3, vI v3)]) 2 [1, 2, 0, 3] d_MO_mark_108 rfl (by decide) rfl ?_
    refine P_goto 46 d_MO_mark_111 (by decide) ?_
    refine P_sub (lv' := [(0, .ref (ad 28)), (1, vI v1), (2, vI (v2 + 1))]) [0, 1, 2] rfl ?_
    exact hF
  · have hF := hF.2 (Int.not_le.mp c)
    refine P_aload_n 0 d_MO_mark_64 rfl rfl ?_
    refine G_MO_family tw_562 d_MO_mark_65 ?_
    refine P_iload_n 3 d_MO_mark_68 rfl rfl ?_
    obtain ⟨b2, hF⟩ := hF
    refine L_31 d_MO_mark_69 b2 (fun i3 => ?_)
    refine P_aload_n 0 d_MO_mark_70 rfl rfl ?_
    refine G_MO_family tw_562 d_MO_mark_71 ?_
    refine P_iload_n 2 d_MO_mark_74 rfl rfl ?_
    obtain ⟨b4, hF⟩ := hF
    refine L_31 d_MO_mark_75 b4 (fun i5 => ?_)
    refine P_icmp_ge 102 d_MO_mark_76 (by decide) i3 i5 (fun c => ?_) (fun c => ?_)
    · have hF := hF.1 c
      refine P_iinc (lv' := [(0, .ref (ad 28)), (1, vI v1), (2, vI v2), (3, vI (v3 + 1))]) 3 [1, 2, 3, 0] d_MO_mark_102 rfl (by decide) rfl ?_
      refine P_goto 56 d_MO_mark_105 (by decide) ?_
      refine P_sub (lv' := [(0, .ref (ad 28)), (1, vI v1), (2, vI v2), (3, vI (v3 + 1))]) [0, 1, 2, 3] rfl ?_
      exact hF
    · have hF := hF.2 (Int.not_le.mp c)
      refine P_aload_n 0 d_MO_mark_79 rfl rfl ?_
      refine P_iload_n 2 d_MO_mark_80 rfl rfl ?_
      refine P_iload_n 3 d_MO_mark_81 rfl rfl ?_
      refine V_MO_areAlike tw_677 d_MO_mark_82 (by decide) (Nat.le_of_ble_eq_true rfl) hF (fun r7 h6 i8 hF => ?_)
      refine P_if_eq 102 d_MO_mark_85 (by decide) i8 (fun c => ?_) (fun c => ?_)
      · have hF := hF.1 c
        refine P_iinc (lv' := [(0, .ref (ad 28)), (1, vI v1), (2, vI v2), (3, vI (v3 + 1))]) 3 [1, 2, 3, 0] d_MO_mark_102 rfl (by decide) rfl ?_
        refine P_goto 56 d_MO_mark_105 (by decide) ?_
        refine P_sub (lv' := [(0, .ref (ad 28)), (1, vI v1), (2, vI v2), (3, vI (v3 + 1))]) [0, 1, 2, 3] rfl ?_
        exact hF
      · have hF := hF.2 c
        refine P_aload_n 0 d_MO_mark_88 rfl rfl ?_
        refine G_MO_family tw_562 d_MO_mark_89 ?_
        refine P_iload_n 2 d_MO_mark_92 rfl rfl ?_
        refine P_aload_n 0 d_MO_mark_93 rfl rfl ?_
        refine G_MO_family tw_562 d_MO_mark_94 ?_
        refine P_iload_n 3 d_MO_mark_97 rfl rfl ?_
        obtain ⟨b9, hF⟩ := hF
        refine L_31 d_MO_mark_98 b9 (fun i10 => ?_)
        obtain ⟨b11, hF⟩ := hF
        refine T_31 d_MO_mark_99 b11 i10 ?_
        refine P_iconst d_MO_mark_100 ?_
        refine P_istore_n (lv' := [(0, .ref (ad 28)), (1, vI 1), (2, vI v2), (3, vI v3)]) [1, 0, 2, 3] d_MO_mark_101 rfl (by decide) rfl ?_
        refine P_iinc (lv' := [(0, .ref (ad 28)), (1, vI 1), (2, vI v2), (3, vI (v3 + 1))]) 3 [1, 2, 3, 0] d_MO_mark_102 rfl (by decide) rfl ?_
        refine P_goto 56 d_MO_mark_105 (by decide) ?_
        refine P_sub (lv' := [(0, .ref (ad 28)), (1, vI 1), (2, vI v2), (3, vI (v3 + 1))]) [0, 1, 2, 3] rfl ?_
        exact hF
theorem F_MO_about_0 (v1 v2 : Int) (g1 : InR v1) (g2 : InR v2) (hF : WP D ad ca none M_MO_isShake 0 [(0, .ref (ad 28)), (1, vI v1)] [] h (RI (fun r2 h1 => ((¬ r2 = 0 → WP D ad ca none M_MO_mark 0 [(0, .ref (ad 28))] [] h1 (RV (fun h4 => ((v2 = 0 → (0 ≤ v1 ∧ v1 < 80) ∧ Q (some (vI (h4 29 v1))) h4) ∧ (v2 = 1 → WP D ad ca none M_MO_kindOf 0 [(0, .ref (ad 28)), (1, vI v1)] [] h4 (RI (fun r8 h7 => Q (some (vI r8)) h7))) ∧ (v2 = 2 → (0 ≤ v1 ∧ v1 < 80) ∧ Q (some (vI (h4 31 v1))) h4) ∧ (v2 < 0 ∨ 2 < v2 → WP D ad ca none M_MO_in 0 [(0, vI v2), (1, vI 10), (2, vI 15)] [] h4 (RI (fun r13 h12 => ((r13 = 0 → Q (some (vI (-2))) h12) ∧ (¬ r13 = 0 → (0 ≤ (((6 * v1) + v2) - 10) ∧ (((6 * v1) + v2) - 10) < 480) ∧ Q (some (vI (h12 30 (((6 * v1) + v2) - 10)))) h12))))))))) ∧ (r2 = 0 → Q (some (vI (-1))) h1))))) : WP D ad ca sc M_MO_about 0 [(0, .ref (ad 28)), (1, vI v1), (2, vI v2)] [] h Q := by
  refine P_aload_n 0 d_MO_about_0 rfl rfl ?_
  refine P_iload_n 1 d_MO_about_1 rfl rfl ?_
  refine V_MO_isShake tw_666 d_MO_about_2 (by decide) (Nat.le_of_ble_eq_true rfl) hF (fun r2 h1 i3 hF => ?_)
  refine P_if_ne 10 d_MO_about_5 (by decide) i3 (fun c => ?_) (fun c => ?_)
  · have hF := hF.1 c
    refine P_aload_n 0 d_MO_about_10 rfl rfl ?_
    refine V_MO_mark tw_673 d_MO_about_11 (by decide) (Nat.le_of_ble_eq_true rfl) hF (fun h4 hF => ?_)
    refine P_iload_n 2 d_MO_about_14 rfl rfl ?_
    by_cases c0 : v2 = 0
    · have hF := hF.1 c0
      refine P_tabIn 40 0 d_MO_about_15 c0 ⟨by decide, by decide⟩ (by decide) (by decide) rfl (by decide) ?_
      refine P_aload_n 0 d_MO_about_40 rfl rfl ?_
      refine G_MO_dayOf tw_560 d_MO_about_41 ?_
      refine P_iload_n 1 d_MO_about_44 rfl rfl ?_
      obtain ⟨b5, hF⟩ := hF
      refine L_29 d_MO_about_45 b5 (fun i6 => ?_)
      exact P_iret d_MO_about_46 rfl hF
    by_cases c1 : v2 = 1
    · have hF := hF.2.1 c1
      refine P_tabIn 47 1 d_MO_about_15 c1 ⟨by decide, by decide⟩ (by decide) (by decide) rfl (by decide) ?_
      refine P_aload_n 0 d_MO_about_47 rfl rfl ?_
      refine P_iload_n 1 d_MO_about_48 rfl rfl ?_
      refine V_MO_kindOf tw_686 d_MO_about_49 (by decide) (Nat.le_of_ble_eq_true rfl) hF (fun r8 h7 i9 hF => ?_)
      exact P_iret d_MO_about_52 rfl hF
    by_cases c2 : v2 = 2
    · have hF := hF.2.2.1 c2
      refine P_tabIn 53 2 d_MO_about_15 c2 ⟨by decide, by decide⟩ (by decide) (by decide) rfl (by decide) ?_
      refine P_aload_n 0 d_MO_about_53 rfl rfl ?_
      refine G_MO_family tw_562 d_MO_about_54 ?_
      refine P_iload_n 1 d_MO_about_57 rfl rfl ?_
      obtain ⟨b10, hF⟩ := hF
      refine L_31 d_MO_about_58 b10 (fun i11 => ?_)
      exact P_iret d_MO_about_59 rfl hF
    have hF := hF.2.2.2 (by omega)
    refine P_tabOut 60 d_MO_about_15 g2 (by omega) (by decide) ?_
    refine P_iload_n 2 d_MO_about_60 rfl rfl ?_
    refine P_bipush d_MO_about_61 (by decide) ?_
    refine P_bipush d_MO_about_63 (by decide) ?_
    refine V_MO_in tw_670 d_MO_about_65 (by decide) (Nat.le_of_ble_eq_true rfl) hF (fun r13 h12 i14 hF => ?_)
    refine P_if_eq 88 d_MO_about_68 (by decide) i14 (fun c => ?_) (fun c => ?_)
    · have hF := hF.1 c
      refine P_bipush d_MO_about_88 (by decide) ?_
      exact P_iret d_MO_about_90 rfl hF
    · have hF := hF.2 c
      refine P_aload_n 0 d_MO_about_71 rfl rfl ?_
      refine G_MO_band tw_561 d_MO_about_72 ?_
      refine P_bipush d_MO_about_75 (by decide) ?_
      refine P_iload_n 1 d_MO_about_77 rfl rfl ?_
      refine P_imul d_MO_about_78 ?_
      refine P_iload_n 2 d_MO_about_79 rfl rfl ?_
      refine P_iadd d_MO_about_80 ?_
      refine P_bipush d_MO_about_81 (by decide) ?_
      refine P_isub d_MO_about_83 ?_
      obtain ⟨b15, hF⟩ := hF
      refine L_30 d_MO_about_84 b15 (fun i16 => ?_)
      refine P_goto 90 d_MO_about_85 (by decide) ?_
      exact P_iret d_MO_about_90 rfl hF
  · have hF := hF.2 c
    refine P_iconst d_MO_about_8 ?_
    exact P_iret d_MO_about_9 rfl hF
theorem F_MO_alike_0 (v1 v2 : Int) (g1 : InR v1) (g2 : InR v2) (hF : WP D ad ca none M_MO_isShake 0 [(0, .ref (ad 28)), (1, vI v1)] [] h (RI (fun r2 h1 => ((r2 = 0 → Q (some (vI (-1))) h1) ∧ (¬ r2 = 0 → WP D ad ca none M_MO_isShake 0 [(0, .ref (ad 28)), (1, vI v2)] [] h1 (RI (fun r5 h4 => ((¬ r5 = 0 → WP D ad ca none M_MO_areAlike 0 [(0, .ref (ad 28)), (1, vI v1), (2, vI v2)] [] h4 (RI (fun r8 h7 => ((r8 = 0 → Q (some (vI 0)) h7) ∧ (¬ r8 = 0 → Q (some (vI 1)) h7))))) ∧ (r5 = 0 → Q (some (vI (-1))) h4))))))))) : WP D ad ca sc M_MO_alike 0 [(0, .ref (ad 28)), (1, vI v1), (2, vI v2)] [] h Q := by
  refine P_aload_n 0 d_MO_alike_0 rfl rfl ?_
  refine P_iload_n 1 d_MO_alike_1 rfl rfl ?_
  refine V_MO_isShake tw_666 d_MO_alike_2 (by decide) (Nat.le_of_ble_eq_true rfl) hF (fun r2 h1 i3 hF => ?_)
  refine P_if_eq 16 d_MO_alike_5 (by decide) i3 (fun c => ?_) (fun c => ?_)
  · have hF := hF.1 c
    refine P_iconst d_MO_alike_16 ?_
    exact P_iret d_MO_alike_17 rfl hF
  · have hF := hF.2 c
    refine P_aload_n 0 d_MO_alike_8 rfl rfl ?_
    refine P_iload_n 2 d_MO_alike_9 rfl rfl ?_
    refine V_MO_isShake tw_666 d_MO_alike_10 (by decide) (Nat.le_of_ble_eq_true rfl) hF (fun r5 h4 i6 hF => ?_)
    refine P_if_ne 18 d_MO_alike_13 (by decide) i6 (fun c => ?_) (fun c => ?_)
    · have hF := hF.1 c
      refine P_aload_n 0 d_MO_alike_18 rfl rfl ?_
      refine P_iload_n 1 d_MO_alike_19 rfl rfl ?_
      refine P_iload_n 2 d_MO_alike_20 rfl rfl ?_
      refine V_MO_areAlike tw_677 d_MO_alike_21 (by decide) (Nat.le_of_ble_eq_true rfl) hF (fun r8 h7 i9 hF => ?_)
      refine P_if_eq 31 d_MO_alike_24 (by decide) i9 (fun c => ?_) (fun c => ?_)
      · have hF := hF.1 c
        refine P_iconst d_MO_alike_31 ?_
        exact P_iret d_MO_alike_32 rfl hF
      · have hF := hF.2 c
        refine P_iconst d_MO_alike_27 ?_
        refine P_goto 32 d_MO_alike_28 (by decide) ?_
        exact P_iret d_MO_alike_32 rfl hF
    · have hF := hF.2 c
      refine P_iconst d_MO_alike_16 ?_
      exact P_iret d_MO_alike_17 rfl hF
theorem F_MO_likeness_0 (v1 : Int) (g1 : InR v1) (hF : WP D ad ca none M_MO_in 0 [(0, vI v1), (1, vI 1), (2, vI 100)] [] h (RI (fun r2 h1 => ((¬ r2 = 0 → Q (some (vI (h1 28 6))) (up (up h1 28 6 v1) 28 5 0)) ∧ (r2 = 0 → Q (some (vI (-2))) h1))))) : WP D ad ca sc M_MO_likeness 0 [(0, .ref (ad 28)), (1, vI v1)] [] h Q := by
  refine P_iload_n 1 d_MO_likeness_0 rfl rfl ?_
  refine P_iconst d_MO_likeness_1 ?_
  refine P_bipush d_MO_likeness_2 (by decide) ?_
  refine V_MO_in tw_670 d_MO_likeness_4 (by decide) (Nat.le_of_ble_eq_true rfl) hF (fun r2 h1 i3 hF => ?_)
  refine P_if_ne 13 d_MO_likeness_7 (by decide) i3 (fun c => ?_) (fun c => ?_)
  · have hF := hF.1 c
    refine P_aload_n 0 d_MO_likeness_13 rfl rfl ?_
    refine G_MO_likeness tw_564 d_MO_likeness_14 (fun i4 => ?_)
    refine P_istore_n (lv' := [(0, .ref (ad 28)), (1, vI v1), (2, vI (h1 28 6))]) [1, 2, 0] d_MO_likeness_17 rfl (by decide) rfl ?_
    refine P_aload_n 0 d_MO_likeness_18 rfl rfl ?_
    refine P_iload_n 1 d_MO_likeness_19 rfl rfl ?_
    refine S_MO_likeness tw_564 d_MO_likeness_20 g1 ?_
    refine P_aload_n 0 d_MO_likeness_23 rfl rfl ?_
    refine P_iconst d_MO_likeness_24 ?_
    refine S_MO_areMarked tw_563 d_MO_likeness_25 (Or.inl rfl) ?_
    refine P_iload_n 2 d_MO_likeness_28 rfl rfl ?_
    exact P_iret d_MO_likeness_29 rfl hF
  · have hF := hF.2 c
    refine P_bipush d_MO_likeness_10 (by decide) ?_
    exact P_iret d_MO_likeness_12 rfl hF
theorem F_MO_family_0 (v1 : Int) (g1 : InR v1) (hF : WP D ad ca none M_MO_mark 0 [(0, .ref (ad 28))] [] h (RV (fun h1 => WP D ad ca sc M_MO_family 8 [(0, .ref (ad 28)), (1, vI v1), (2, vI 0), (3, vI 0)] [] h1 Q))) : WP D ad ca sc M_MO_family 0 [(0, .ref (ad 28)), (1, vI v1)] [] h Q := by
  refine P_aload_n 0 d_MO_family_0 rfl rfl ?_
  refine V_MO_mark tw_673 d_MO_family_1 (by decide) (Nat.le_of_ble_eq_true rfl) hF (fun h1 hF => ?_)
  refine P_iconst d_MO_family_4 ?_
  refine P_istore_n (lv' := [(0, .ref (ad 28)), (1, vI v1), (2, vI 0)]) [1, 2, 0] d_MO_family_5 rfl (by decide) rfl ?_
  refine P_iconst d_MO_family_6 ?_
  refine P_istore_n (lv' := [(0, .ref (ad 28)), (1, vI v1), (2, vI 0), (3, vI 0)]) [1, 2, 3, 0] d_MO_family_7 rfl (by decide) rfl ?_
  refine P_sub (lv' := [(0, .ref (ad 28)), (1, vI v1), (2, vI 0), (3, vI 0)]) [0, 1, 2, 3] rfl ?_
  exact hF
theorem F_MO_family_8 (v1 v2 v3 : Int) (g1 : InR v1) (g2 : InR v2) (g3 : InR v3) (hF : (((h 28 1) ≤ v3 → ((¬ v1 = (-1) → Q (some (vI (-6))) h) ∧ (v1 = (-1) → Q (some (vI v2)) h))) ∧ (v3 < (h 28 1) → (0 ≤ v3 ∧ v3 < 80) ∧ ((¬ (h 31 v3) = v3 → WP D ad ca sc M_MO_family 8 [(0, .ref (ad 28)), (1, vI v1), (2, vI v2), (3, vI (v3 + 1))] [] h Q) ∧ ((h 31 v3) = v3 → ((¬ v2 = v1 → WP D ad ca sc M_MO_family 8 [(0, .ref (ad 28)), (1, vI v1), (2, vI (v2 + 1)), (3, vI (v3 + 1))] [] h Q) ∧ (v2 = v1 → Q (some (vI v3)) h))))))) : WP D ad ca sc M_MO_family 8 [(0, .ref (ad 28)), (1, vI v1), (2, vI v2), (3, vI v3)] [] h Q := by
  refine P_iload_n 3 d_MO_family_8 rfl rfl ?_
  refine P_aload_n 0 d_MO_family_9 rfl rfl ?_
  refine G_MO_shakes tw_559 d_MO_family_10 (fun i1 => ?_)
  refine P_icmp_ge 42 d_MO_family_13 (by decide) g3 i1 (fun c => ?_) (fun c => ?_)
  · have hF := hF.1 c
    refine P_iload_n 1 d_MO_family_42 rfl rfl ?_
    refine P_iconst d_MO_family_43 ?_
    refine P_icmp_ne 51 d_MO_family_44 (by decide) g1 ⟨by decide, by decide⟩ (fun c => ?_) (fun c => ?_)
    · have hF := hF.1 c
      refine P_bipush d_MO_family_51 (by decide) ?_
      exact P_iret d_MO_family_53 rfl hF
    · have hF := hF.2 c
      refine P_iload_n 2 d_MO_family_47 rfl rfl ?_
      refine P_goto 53 d_MO_family_48 (by decide) ?_
      exact P_iret d_MO_family_53 rfl hF
  · have hF := hF.2 (Int.not_le.mp c)
    refine P_aload_n 0 d_MO_family_16 rfl rfl ?_
    refine G_MO_family tw_562 d_MO_family_17 ?_
    refine P_iload_n 3 d_MO_family_20 rfl rfl ?_
    obtain ⟨b2, hF⟩ := hF
    refine L_31 d_MO_family_21 b2 (fun i3 => ?_)
    refine P_iload_n 3 d_MO_family_22 rfl rfl ?_
    refine P_icmp_ne 36 d_MO_family_23 (by decide) i3 g3 (fun c => ?_) (fun c => ?_)
    · have hF := hF.1 c
      refine P_iinc (lv' := [(0, .ref (ad 28)), (1, vI v1), (2, vI v2), (3, vI (v3 + 1))]) 3 [1, 2, 3, 0] d_MO_family_36 rfl (by decide) rfl ?_
      refine P_goto 8 d_MO_family_39 (by decide) ?_
      refine P_sub (lv' := [(0, .ref (ad 28)), (1, vI v1), (2, vI v2), (3, vI (v3 + 1))]) [0, 1, 2, 3] rfl ?_
      exact hF
    · have hF := hF.2 c
      refine P_iload_n 2 d_MO_family_26 rfl rfl ?_
      refine P_iload_n 1 d_MO_family_27 rfl rfl ?_
      refine P_icmp_ne 33 d_MO_family_28 (by decide) g2 g1 (fun c => ?_) (fun c => ?_)
      · have hF := hF.1 c
        refine P_iinc (lv' := [(0, .ref (ad 28)), (1, vI v1), (2, vI (v2 + 1)), (3, vI v3)]) 2 [1, 2, 0, 3] d_MO_family_33 rfl (by decide) rfl ?_
        refine P_iinc (lv' := [(0, .ref (ad 28)), (1, vI v1), (2, vI (v2 + 1)), (3, vI (v3 + 1))]) 3 [1, 2, 3, 0] d_MO_family_36 rfl (by decide) rfl ?_
        refine P_goto 8 d_MO_family_39 (by decide) ?_
        refine P_sub (lv' := [(0, .ref (ad 28)), (1, vI v1), (2, vI (v2 + 1)), (3, vI (v3 + 1))]) [0, 1, 2, 3] rfl ?_
        exact hF
      · have hF := hF.2 c
        refine P_iload_n 3 d_MO_family_31 rfl rfl ?_
        exact P_iret d_MO_family_32 rfl hF
theorem F_MO_kin_0 (v1 : Int) (g1 : InR v1) (hF : WP D ad ca none M_MO_isShake 0 [(0, .ref (ad 28)), (1, vI v1)] [] h (RI (fun r2 h1 => ((¬ r2 = 0 → WP D ad ca none M_MO_mark 0 [(0, .ref (ad 28))] [] h1 (RV (fun h4 => WP D ad ca sc M_MO_kin 18 [(0, .ref (ad 28)), (1, vI v1), (2, vI 0), (3, vI 0)] [] h4 Q))) ∧ (r2 = 0 → Q (some (vI (-1))) h1))))) : WP D ad ca sc M_MO_kin 0 [(0, .ref (ad 28)), (1, vI v1)] [] h Q := by
  refine P_aload_n 0 d_MO_kin_0 rfl rfl ?_
  refine P_iload_n 1 d_MO_kin_1 rfl rfl ?_
  refine V_MO_isShake tw_666 d_MO_kin_2 (by decide) (Nat.le_of_ble_eq_true rfl) hF (fun r2 h1 i3 hF => ?_)
  refine P_if_ne 10 d_MO_kin_5 (by decide) i3 (fun c => ?_) (fun c => ?_)
  · have hF := hF.1 c
    refine P_aload_n 0 d_MO_kin_10 rfl rfl ?_
    refine V_MO_mark tw_673 d_MO_kin_11 (by decide) (Nat.le_of_ble_eq_true rfl) hF (fun h4 hF => ?_)
    refine P_iconst d_MO_kin_14 ?_
    refine P_istore_n (lv' := [(0, .ref (ad 28)), (1, vI v1), (2, vI 0)]) [1, 2, 0] d_MO_kin_15 rfl (by decide) rfl ?_
    refine P_iconst d_MO_kin_16 ?_
    refine P_istore_n (lv' := [(0, .ref (ad 28)), (1, vI v1), (2, vI 0), (3, vI 0)]) [1, 2, 3, 0] d_MO_kin_17 rfl (by decide) rfl ?_
    refine P_sub (lv' := [(0, .ref (ad 28)), (1, vI v1), (2, vI 0), (3, vI 0)]) [0, 1, 2, 3] rfl ?_
    exact hF
  · have hF := hF.2 c
    refine P_iconst d_MO_kin_8 ?_
    exact P_iret d_MO_kin_9 rfl hF
theorem F_MO_kin_18 (v1 v2 v3 : Int) (g1 : InR v1) (g2 : InR v2) (g3 : InR v3) (hF : (((h 28 1) ≤ v3 → Q (some (vI v2)) h) ∧ (v3 < (h 28 1) → (0 ≤ v3 ∧ v3 < 80) ∧ (0 ≤ v1 ∧ v1 < 80) ∧ ((¬ (h 31 v3) = (h 31 v1) → WP D ad ca sc M_MO_kin 18 [(0, .ref (ad 28)), (1, vI v1), (2, vI (v2 + 0)), (3, vI (v3 + 1))] [] h Q) ∧ ((h 31 v3) = (h 31 v1) → WP D ad ca sc M_MO_kin 18 [(0, .ref (ad 28)), (1, vI v1), (2, vI (v2 + 1)), (3, vI (v3 + 1))] [] h Q))))) : WP D ad ca sc M_MO_kin 18 [(0, .ref (ad 28)), (1, vI v1), (2, vI v2), (3, vI v3)] [] h Q := by
  refine P_iload_n 3 d_MO_kin_18 rfl rfl ?_
  refine P_aload_n 0 d_MO_kin_19 rfl rfl ?_
  refine G_MO_shakes tw_559 d_MO_kin_20 (fun i1 => ?_)
  refine P_icmp_ge 55 d_MO_kin_23 (by decide) g3 i1 (fun c => ?_) (fun c => ?_)
  · have hF := hF.1 c
    refine P_iload_n 2 d_MO_kin_55 rfl rfl ?_
    exact P_iret d_MO_kin_56 rfl hF
  · have hF := hF.2 (Int.not_le.mp c)
    refine P_iload_n 2 d_MO_kin_26 rfl rfl ?_
    refine P_aload_n 0 d_MO_kin_27 rfl rfl ?_
    refine G_MO_family tw_562 d_MO_kin_28 ?_
    refine P_iload_n 3 d_MO_kin_31 rfl rfl ?_
    obtain ⟨b2, hF⟩ := hF
    refine L_31 d_MO_kin_32 b2 (fun i3 => ?_)
    refine P_aload_n 0 d_MO_kin_33 rfl rfl ?_
    refine G_MO_family tw_562 d_MO_kin_34 ?_
    refine P_iload_n 1 d_MO_kin_37 rfl rfl ?_
    obtain ⟨b4, hF⟩ := hF
    refine L_31 d_MO_kin_38 b4 (fun i5 => ?_)
    refine P_icmp_ne 46 d_MO_kin_39 (by decide) i3 i5 (fun c => ?_) (fun c => ?_)
    · have hF := hF.1 c
      refine P_iconst d_MO_kin_46 ?_
      refine P_iadd d_MO_kin_47 ?_
      refine P_istore_n (lv' := [(0, .ref (ad 28)), (1, vI v1), (2, vI (v2 + 0)), (3, vI v3)]) [1, 2, 0, 3] d_MO_kin_48 rfl (by decide) rfl ?_
      refine P_iinc (lv' := [(0, .ref (ad 28)), (1, vI v1), (2, vI (v2 + 0)), (3, vI (v3 + 1))]) 3 [1, 2, 3, 0] d_MO_kin_49 rfl (by decide) rfl ?_
      refine P_goto 18 d_MO_kin_52 (by decide) ?_
      refine P_sub (lv' := [(0, .ref (ad 28)), (1, vI v1), (2, vI (v2 + 0)), (3, vI (v3 + 1))]) [0, 1, 2, 3] rfl ?_
      exact hF
    · have hF := hF.2 c
      refine P_iconst d_MO_kin_42 ?_
      refine P_goto 47 d_MO_kin_43 (by decide) ?_
      refine P_iadd d_MO_kin_47 ?_
      refine P_istore_n (lv' := [(0, .ref (ad 28)), (1, vI v1), (2, vI (v2 + 1)), (3, vI v3)]) [1, 2, 0, 3] d_MO_kin_48 rfl (by decide) rfl ?_
      refine P_iinc (lv' := [(0, .ref (ad 28)), (1, vI v1), (2, vI (v2 + 1)), (3, vI (v3 + 1))]) 3 [1, 2, 3, 0] d_MO_kin_49 rfl (by decide) rfl ?_
      refine P_goto 18 d_MO_kin_52 (by decide) ?_
      refine P_sub (lv' := [(0, .ref (ad 28)), (1, vI v1), (2, vI (v2 + 1)), (3, vI (v3 + 1))]) [0, 1, 2, 3] rfl ?_
      exact hF
theorem F_MO_tilt_0 (v1 : Int) (g1 : InR v1) (hF : WP D ad ca none M_MO_in 0 [(0, vI v1), (1, vI (-10000)), (2, vI 10000)] [] h (RI (fun r2 h1 => ((¬ r2 = 0 → (0 ≤ (h1 28 0) ∧ (h1 28 0) < 1000) ∧ (0 ≤ (h1 28 0) ∧ (h1 28 0) < 1000) ∧ Q (some (vI 1)) (up (up h1 32 (h1 28 0) 1) 33 (h1 28 0) v1)) ∧ (r2 = 0 → Q (some (vI (-2))) h1))))) : WP D ad ca sc M_MO_tilt 0 [(0, .ref (ad 28)), (1, vI v1)] [] h Q := by
  refine P_iload_n 1 d_MO_tilt_0 rfl rfl ?_
  refine P_sipush d_MO_tilt_1 (by decide) ?_
  refine P_sipush d_MO_tilt_4 (by decide) ?_
  refine V_MO_in tw_670 d_MO_tilt_7 (by decide) (Nat.le_of_ble_eq_true rfl) hF (fun r2 h1 i3 hF => ?_)
  refine P_if_ne 16 d_MO_tilt_10 (by decide) i3 (fun c => ?_) (fun c => ?_)
  · have hF := hF.1 c
    refine P_aload_n 0 d_MO_tilt_16 rfl rfl ?_
    refine G_MO_hasTilt tw_565 d_MO_tilt_17 ?_
    refine P_aload_n 0 d_MO_tilt_20 rfl rfl ?_
    refine G_MO_today tw_558 d_MO_tilt_21 (fun i4 => ?_)
    refine P_iconst d_MO_tilt_24 ?_
    obtain ⟨b5, hF⟩ := hF
    refine T_32 d_MO_tilt_25 b5 (Or.inr rfl) ?_
    refine P_aload_n 0 d_MO_tilt_26 rfl rfl ?_
    refine G_MO_tilt tw_566 d_MO_tilt_27 ?_
    refine P_aload_n 0 d_MO_tilt_30 rfl rfl ?_
    refine G_MO_today tw_558 d_MO_tilt_31 (fun i6 => ?_)
    refine P_iload_n 1 d_MO_tilt_34 rfl rfl ?_
    obtain ⟨b7, hF⟩ := hF
    refine T_33 d_MO_tilt_35 b7 g1 ?_
    refine P_iconst d_MO_tilt_36 ?_
    exact P_iret d_MO_tilt_37 rfl hF
  · have hF := hF.2 c
    refine P_bipush d_MO_tilt_13 (by decide) ?_
    exact P_iret d_MO_tilt_15 rfl hF
theorem F_MO_gas_0 (v1 : Int) (g1 : InR v1) (hF : WP D ad ca none M_MO_in 0 [(0, vI v1), (1, vI 0), (2, vI 10000)] [] h (RI (fun r2 h1 => ((¬ r2 = 0 → (0 ≤ (h1 28 0) ∧ (h1 28 0) < 1000) ∧ Q (some (vI 1)) (up h1 34 (h1 28 0) v1)) ∧ (r2 = 0 → Q (some (vI (-2))) h1))))) : WP D ad ca sc M_MO_gas 0 [(0, .ref (ad 28)), (1, vI v1)] [] h Q := by
  refine P_iload_n 1 d_MO_gas_0 rfl rfl ?_
  refine P_iconst d_MO_gas_1 ?_
  refine P_sipush d_MO_gas_2 (by decide) ?_
  refine V_MO_in tw_670 d_MO_gas_5 (by decide) (Nat.le_of_ble_eq_true rfl) hF (fun r2 h1 i3 hF => ?_)
  refine P_if_ne 14 d_MO_gas_8 (by decide) i3 (fun c => ?_) (fun c => ?_)
  · have hF := hF.1 c
    refine P_aload_n 0 d_MO_gas_14 rfl rfl ?_
    refine G_MO_gas tw_567 d_MO_gas_15 ?_
    refine P_aload_n 0 d_MO_gas_18 rfl rfl ?_
    refine G_MO_today tw_558 d_MO_gas_19 (fun i4 => ?_)
    refine P_iload_n 1 d_MO_gas_22 rfl rfl ?_
    obtain ⟨b5, hF⟩ := hF
    refine T_34 d_MO_gas_23 b5 g1 ?_
    refine P_iconst d_MO_gas_24 ?_
    exact P_iret d_MO_gas_25 rfl hF
  · have hF := hF.2 c
    refine P_bipush d_MO_gas_11 (by decide) ?_
    exact P_iret d_MO_gas_13 rfl hF
theorem F_MO_isDay_0 (v1 : Int) (g1 : InR v1) (hF : WP D ad ca none M_MO_in 0 [(0, vI v1), (1, vI 0), (2, vI (h 28 0))] [] h (RI (fun r3 h2 => (r3 = 0 ∨ r3 = 1) ∧ Q (some (vI r3)) h2))) : WP D ad ca sc M_MO_isDay 0 [(0, .ref (ad 28)), (1, vI v1)] [] h Q := by
  refine P_iload_n 1 d_MO_isDay_0 rfl rfl ?_
  refine P_iconst d_MO_isDay_1 ?_
  refine P_aload_n 0 d_MO_isDay_2 rfl rfl ?_
  refine G_MO_today tw_558 d_MO_isDay_3 (fun i1 => ?_)
  refine V_MO_in tw_670 d_MO_isDay_6 (by decide) (Nat.le_of_ble_eq_true rfl) hF (fun r3 h2 i4 hF => ?_)
  obtain ⟨b5, hF⟩ := hF
  exact P_zret d_MO_isDay_9 rfl b5 hF
theorem F_MO_tiltDay_0 (v1 : Int) (g1 : InR v1) (hF : WP D ad ca sc M_MO_tiltDay 2 [(0, .ref (ad 28)), (2, vI v1)] [] h Q) : WP D ad ca sc M_MO_tiltDay 0 [(0, .ref (ad 28)), (1, vI v1)] [] h Q := by
  refine P_iload_n 1 d_MO_tiltDay_0 rfl rfl ?_
  refine P_istore_n (lv' := [(0, .ref (ad 28)), (1, vI v1), (2, vI v1)]) [1, 2, 0] d_MO_tiltDay_1 rfl (by decide) rfl ?_
  refine P_sub (lv' := [(0, .ref (ad 28)), (2, vI v1)]) [0, 2] rfl ?_
  exact hF
theorem F_MO_tiltDay_2 (v2 : Int) (g2 : InR v2) (hF : ((v2 < 0 → Q (some (vI v2)) h) ∧ (0 ≤ v2 → (0 ≤ v2 ∧ v2 < 1000) ∧ ((¬ (h 32 v2) = 0 → Q (some (vI v2)) h) ∧ ((h 32 v2) = 0 → WP D ad ca sc M_MO_tiltDay 2 [(0, .ref (ad 28)), (2, vI (v2 + (-1)))] [] h Q))))) : WP D ad ca sc M_MO_tiltDay 2 [(0, .ref (ad 28)), (2, vI v2)] [] h Q := by
  refine P_iload_n 1 d_MO_tiltDay_2 rfl rfl ?_
  refine P_if_lt 21 d_MO_tiltDay_3 (by decide) g2 (fun c => ?_) (fun c => ?_)
  · have hF := hF.1 c
    refine P_iload_n 1 d_MO_tiltDay_21 rfl rfl ?_
    exact P_iret d_MO_tiltDay_22 rfl hF
  · have hF := hF.2 (Int.not_lt.mp c)
    refine P_aload_n 0 d_MO_tiltDay_6 rfl rfl ?_
    refine G_MO_hasTilt tw_565 d_MO_tiltDay_7 ?_
    refine P_iload_n 1 d_MO_tiltDay_10 rfl rfl ?_
    obtain ⟨b1, hF⟩ := hF
    refine L_32 d_MO_tiltDay_11 b1 (fun i2 => ?_)
    refine P_if_ne 21 d_MO_tiltDay_12 (by decide) i2 (fun c => ?_) (fun c => ?_)
    · have hF := hF.1 c
      refine P_iload_n 1 d_MO_tiltDay_21 rfl rfl ?_
      exact P_iret d_MO_tiltDay_22 rfl hF
    · have hF := hF.2 c
      refine P_iinc (lv' := [(0, .ref (ad 28)), (2, vI (v2 + (-1)))]) 1 [1, 0] d_MO_tiltDay_15 rfl (by decide) rfl ?_
      refine P_goto 2 d_MO_tiltDay_18 (by decide) ?_
      refine P_sub (lv' := [(0, .ref (ad 28)), (2, vI (v2 + (-1)))]) [0, 1] rfl ?_
      exact hF
theorem F_MO_tiltAt_0 (v1 : Int) (g1 : InR v1) (hF : WP D ad ca none M_MO_isDay 0 [(0, .ref (ad 28)), (1, vI v1)] [] h (RI (fun r2 h1 => ((¬ r2 = 0 → WP D ad ca none M_MO_tiltDay 0 [(0, .ref (ad 28)), (1, vI v1)] [] h1 (RI (fun r5 h4 => ((0 ≤ r5 → (0 ≤ r5 ∧ r5 < 1000) ∧ Q (some (vI (h4 33 r5))) h4) ∧ (r5 < 0 → Q (some (vI (-1000005))) h4))))) ∧ (r2 = 0 → Q (some (vI (-1000001))) h1))))) : WP D ad ca sc M_MO_tiltAt 0 [(0, .ref (ad 28)), (1, vI v1)] [] h Q := by
  refine P_aload_n 0 d_MO_tiltAt_0 rfl rfl ?_
  refine P_iload_n 1 d_MO_tiltAt_1 rfl rfl ?_
  refine V_MO_isDay tw_718 d_MO_tiltAt_2 (by decide) (Nat.le_of_ble_eq_true rfl) hF (fun r2 h1 i3 hF => ?_)
  refine P_if_ne 11 d_MO_tiltAt_5 (by decide) i3 (fun c => ?_) (fun c => ?_)
  · have hF := hF.1 c
    refine P_aload_n 0 d_MO_tiltAt_11 rfl rfl ?_
    refine P_iload_n 1 d_MO_tiltAt_12 rfl rfl ?_
    refine V_MO_tiltDay tw_723 d_MO_tiltAt_13 (by decide) (Nat.le_of_ble_eq_true rfl) hF (fun r5 h4 i6 hF => ?_)
    refine P_istore_n (lv' := [(0, .ref (ad 28)), (1, vI v1), (2, vI r5)]) [1, 2, 0] d_MO_tiltAt_16 rfl (by decide) rfl ?_
    refine P_iload_n 2 d_MO_tiltAt_17 rfl rfl ?_
    refine P_if_ge 26 d_MO_tiltAt_18 (by decide) i6 (fun c => ?_) (fun c => ?_)
    · have hF := hF.1 c
      refine P_aload_n 0 d_MO_tiltAt_26 rfl rfl ?_
      refine G_MO_tilt tw_566 d_MO_tiltAt_27 ?_
      refine P_iload_n 2 d_MO_tiltAt_30 rfl rfl ?_
      obtain ⟨b7, hF⟩ := hF
      refine L_33 d_MO_tiltAt_31 b7 (fun i8 => ?_)
      exact P_iret d_MO_tiltAt_32 rfl hF
    · have hF := hF.2 (Int.not_le.mp c)
      refine P_ldc (n := (-1000005)) tw_727 (by decide) d_MO_tiltAt_21 ?_
      refine P_goto 32 d_MO_tiltAt_23 (by decide) ?_
      exact P_iret d_MO_tiltAt_32 rfl hF
  · have hF := hF.2 c
    refine P_ldc (n := (-1000001)) tw_722 (by decide) d_MO_tiltAt_8 ?_
    exact P_iret d_MO_tiltAt_10 rfl hF
theorem F_MO_gasOf_0 (v1 : Int) (g1 : InR v1) (hF : WP D ad ca none M_MO_isDay 0 [(0, .ref (ad 28)), (1, vI v1)] [] h (RI (fun r2 h1 => ((r2 = 0 → Q (some (vI (-1))) h1) ∧ (¬ r2 = 0 → (0 ≤ v1 ∧ v1 < 1000) ∧ Q (some (vI (h1 34 v1))) h1))))) : WP D ad ca sc M_MO_gasOf 0 [(0, .ref (ad 28)), (1, vI v1)] [] h Q := by
  refine P_aload_n 0 d_MO_gasOf_0 rfl rfl ?_
  refine P_iload_n 1 d_MO_gasOf_1 rfl rfl ?_
  refine V_MO_isDay tw_718 d_MO_gasOf_2 (by decide) (Nat.le_of_ble_eq_true rfl) hF (fun r2 h1 i3 hF => ?_)
  refine P_if_eq 17 d_MO_gasOf_5 (by decide) i3 (fun c => ?_) (fun c => ?_)
  · have hF := hF.1 c
    refine P_iconst d_MO_gasOf_17 ?_
    exact P_iret d_MO_gasOf_18 rfl hF
  · have hF := hF.2 c
    refine P_aload_n 0 d_MO_gasOf_8 rfl rfl ?_
    refine G_MO_gas tw_567 d_MO_gasOf_9 ?_
    refine P_iload_n 1 d_MO_gasOf_12 rfl rfl ?_
    obtain ⟨b4, hF⟩ := hF
    refine L_34 d_MO_gasOf_13 b4 (fun i5 => ?_)
    refine P_goto 18 d_MO_gasOf_14 (by decide) ?_
    exact P_iret d_MO_gasOf_18 rfl hF
theorem F_MO_law_0 (v1 v2 v3 v4 : Int) (g1 : InR v1) (g2 : InR v2) (g3 : InR v3) (g4 : InR v4) (hF : WP D ad ca none M_MO_in 0 [(0, vI v1), (1, vI 1), (2, vI 4)] [] h (RI (fun r2 h1 => ((r2 = 0 → Q (some (vI (-2))) h1) ∧ (¬ r2 = 0 → WP D ad ca none M_MO_in 0 [(0, vI v2), (1, vI 0), (2, vI 6)] [] h1 (RI (fun r5 h4 => ((r5 = 0 → Q (some (vI (-2))) h4) ∧ (¬ r5 = 0 → WP D ad ca none M_MO_in 0 [(0, vI v3), (1, vI 1), (2, vI 10000)] [] h4 (RI (fun r8 h7 => ((r8 = 0 → Q (some (vI (-2))) h7) ∧ (¬ r8 = 0 → WP D ad ca none M_MO_in 0 [(0, vI v4), (1, vI 1), (2, vI 30)] [] h7 (RI (fun r11 h10 => ((¬ r11 = 0 → ((¬ (h10 28 10) = 8 → (0 ≤ (h10 28 10) ∧ (h10 28 10) < 8) ∧ (0 ≤ (h10 28 10) ∧ (h10 28 10) < 8) ∧ (0 ≤ (h10 28 10) ∧ (h10 28 10) < 8) ∧ (0 ≤ (h10 28 10) ∧ (h10 28 10) < 8) ∧ (InR ((h10 28 10) + 1)) ∧ Q (some (vI (((h10 28 10) + 1) - 1))) (up (up (up (up (up h10 35 (h10 28 10) v1) 36 (h10 28 10) v2) 37 (h10 28 10) v3) 38 (h10 28 10) v4) 28 10 ((h10 28 10) + 1))) ∧ ((h10 28 10) = 8 → Q (some (vI (-4))) h10))) ∧ (r11 = 0 → Q (some (vI (-2))) h10))))))))))))))))) : WP D ad ca sc M_MO_law 0 [(0, .ref (ad 28)), (1, vI v1), (2, vI v2), (3, vI v3), (4, vI v4)] [] h Q := by
  refine P_iload_n 1 d_MO_law_0 rfl rfl ?_
  refine P_iconst d_MO_law_1 ?_
  refine P_iconst d_MO_law_2 ?_
  refine V_MO_in tw_670 d_MO_law_3 (by decide) (Nat.le_of_ble_eq_true rfl) hF (fun r2 h1 i3 hF => ?_)
  refine P_if_eq 41 d_MO_law_6 (by decide) i3 (fun c => ?_) (fun c => ?_)
  · have hF := hF.1 c
    refine P_bipush d_MO_law_41 (by decide) ?_
    exact P_iret d_MO_law_43 rfl hF
  · have hF := hF.2 c
    refine P_iload_n 2 d_MO_law_9 rfl rfl ?_
    refine P_iconst d_MO_law_10 ?_
    refine P_bipush d_MO_law_11 (by decide) ?_
    refine V_MO_in tw_670 d_MO_law_13 (by decide) (Nat.le_of_ble_eq_true rfl) hF (fun r5 h4 i6 hF => ?_)
    refine P_if_eq 41 d_MO_law_16 (by decide) i6 (fun c => ?_) (fun c => ?_)
    · have hF := hF.1 c
      refine P_bipush d_MO_law_41 (by decide) ?_
      exact P_iret d_MO_law_43 rfl hF
    · have hF := hF.2 c
      refine P_iload_n 3 d_MO_law_19 rfl rfl ?_
      refine P_iconst d_MO_law_20 ?_
      refine P_sipush d_MO_law_21 (by decide) ?_
      refine V_MO_in tw_670 d_MO_law_24 (by decide) (Nat.le_of_ble_eq_true rfl) hF (fun r8 h7 i9 hF => ?_)
      refine P_if_eq 41 d_MO_law_27 (by decide) i9 (fun c => ?_) (fun c => ?_)
      · have hF := hF.1 c
        refine P_bipush d_MO_law_41 (by decide) ?_
        exact P_iret d_MO_law_43 rfl hF
      · have hF := hF.2 c
        refine P_iload 4 d_MO_law_30 rfl ?_
        refine P_iconst d_MO_law_32 ?_
        refine P_bipush d_MO_law_33 (by decide) ?_
        refine V_MO_in tw_670 d_MO_law_35 (by decide) (Nat.le_of_ble_eq_true rfl) hF (fun r11 h10 i12 hF => ?_)
        refine P_if_ne 44 d_MO_law_38 (by decide) i12 (fun c => ?_) (fun c => ?_)
        · have hF := hF.1 c
          refine P_aload_n 0 d_MO_law_44 rfl rfl ?_
          refine G_MO_laws tw_568 d_MO_law_45 (fun i13 => ?_)
          refine P_bipush d_MO_law_48 (by decide) ?_
          refine P_icmp_ne 56 d_MO_law_50 (by decide) i13 ⟨by decide, by decide⟩ (fun c => ?_) (fun c => ?_)
          · have hF := hF.1 c
            refine P_aload_n 0 d_MO_law_56 rfl rfl ?_
            refine G_MO_lawLevel tw_569 d_MO_law_57 ?_
            refine P_aload_n 0 d_MO_law_60 rfl rfl ?_
            refine G_MO_laws tw_568 d_MO_law_61 (fun i14 => ?_)
            refine P_iload_n 1 d_MO_law_64 rfl rfl ?_
            obtain ⟨b15, hF⟩ := hF
            refine T_35 d_MO_law_65 b15 g1 ?_
            refine P_aload_n 0 d_MO_law_66 rfl rfl ?_
            refine G_MO_lawMeasure tw_570 d_MO_law_67 ?_
            refine P_aload_n 0 d_MO_law_70 rfl rfl ?_
            refine G_MO_laws tw_568 d_MO_law_71 (fun i16 => ?_)
            refine P_iload_n 2 d_MO_law_74 rfl rfl ?_
            obtain ⟨b17, hF⟩ := hF
            refine T_36 d_MO_law_75 b17 g2 ?_
            refine P_aload_n 0 d_MO_law_76 rfl rfl ?_
            refine G_MO_lawNumber tw_571 d_MO_law_77 ?_
            refine P_aload_n 0 d_MO_law_80 rfl rfl ?_
            refine G_MO_laws tw_568 d_MO_law_81 (fun i18 => ?_)
            refine P_iload_n 3 d_MO_law_84 rfl rfl ?_
            obtain ⟨b19, hF⟩ := hF
            refine T_37 d_MO_law_85 b19 g3 ?_
            refine P_aload_n 0 d_MO_law_86 rfl rfl ?_
            refine G_MO_lawSpan tw_572 d_MO_law_87 ?_
            refine P_aload_n 0 d_MO_law_90 rfl rfl ?_
            refine G_MO_laws tw_568 d_MO_law_91 (fun i20 => ?_)
            refine P_iload 4 d_MO_law_94 rfl ?_
            obtain ⟨b21, hF⟩ := hF
            refine T_38 d_MO_law_96 b21 g4 ?_
            refine P_aload_n 0 d_MO_law_97 rfl rfl ?_
            refine P_dup d_MO_law_98 rfl ?_
            refine G_MO_laws tw_568 d_MO_law_99 (fun i22 => ?_)
            refine P_iconst d_MO_law_102 ?_
            refine P_iadd d_MO_law_103 ?_
            obtain ⟨b23, hF⟩ := hF
            refine S_MO_laws tw_568 d_MO_law_104 b23 ?_
            refine P_aload_n 0 d_MO_law_107 rfl rfl ?_
            refine G_MO_laws tw_568 d_MO_law_108 (fun i24 => ?_)
            refine P_iconst d_MO_law_111 ?_
            refine P_isub d_MO_law_112 ?_
            exact P_iret d_MO_law_113 rfl hF
          · have hF := hF.2 c
            refine P_bipush d_MO_law_53 (by decide) ?_
            exact P_iret d_MO_law_55 rfl hF
        · have hF := hF.2 c
          refine P_bipush d_MO_law_41 (by decide) ?_
          exact P_iret d_MO_law_43 rfl hF
end Sfmodel1
