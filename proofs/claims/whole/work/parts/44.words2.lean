theorem tw_38 : Cond.classLink "MountainWatchLaw" 7 "MountainWatch" ∈ TB := TB_mem 38 (by decide +kernel) (by decide +kernel)
theorem tw_39 : Cond.instantiable "MountainWatch" 12 ∈ TB := TB_mem 39 (by decide +kernel) (by decide +kernel)
theorem tw_40 : Cond.methodLink "MountainWatchLaw" 9 ⟨"MountainWatch", "<init>", "()V"⟩ ∈ TB := TB_mem 40 (by decide +kernel) (by decide +kernel)
theorem tw_41 : Cond.instanceMethod ⟨"MountainWatch", "<init>", "()V"⟩ ∈ TB := TB_mem 41 (by decide +kernel) (by decide +kernel)
theorem tw_42 : Cond.code ⟨"MountainWatch", "<init>", "()V"⟩ prog_1_method_1_code 1 none ∈ TB := TB_mem 42 (by decide +kernel) (by decide +kernel)
theorem tw_43 : Cond.methodLink "MountainWatch" 1 ⟨"java/lang/Object", "<init>", "()V"⟩ ∈ TB := TB_mem 43 (by decide +kernel) (by decide +kernel)
theorem tw_44 : Cond.instanceMethod ⟨"java/lang/Object", "<init>", "()V"⟩ ∈ TB := TB_mem 44 (by decide +kernel) (by decide +kernel)
theorem tw_45 : Cond.code ⟨"java/lang/Object", "<init>", "()V"⟩ object_method_1_code 1 none ∈ TB := TB_mem 45 (by decide +kernel) (by decide +kernel)
theorem tw_46 : Cond.classLink "MountainWatch" 7 "MountainWatch$Shakes" ∈ TB := TB_mem 46 (by decide +kernel) (by decide +kernel)
theorem tw_47 : Cond.instantiable "MountainWatch$Shakes" 7 ∈ TB := TB_mem 47 (by decide +kernel) (by decide +kernel)
theorem tw_49 : Cond.instanceMethod ⟨"MountainWatch$Shakes", "<init>", "()V"⟩ ∈ TB := TB_mem 49 (by decide +kernel) (by decide +kernel)
theorem tw_50 : Cond.code ⟨"MountainWatch$Shakes", "<init>", "()V"⟩ prog_5_method_1_code 1 none ∈ TB := TB_mem 50 (by decide +kernel) (by decide +kernel)
theorem tw_51 : Cond.methodLink "MountainWatch$Shakes" 3 ⟨"java/lang/Object", "<init>", "()V"⟩ ∈ TB := TB_mem 51 (by decide +kernel) (by decide +kernel)
theorem tw_79 : Cond.arrayClass .int ∈ TB := TB_mem 79 (by decide +kernel) (by decide +kernel)
theorem tw_80 : Cond.classLink "MountainWatch" 16 "MountainWatch$Readings" ∈ TB := TB_mem 80 (by decide +kernel) (by decide +kernel)
theorem tw_81 : Cond.instantiable "MountainWatch$Readings" 2 ∈ TB := TB_mem 81 (by decide +kernel) (by decide +kernel)
theorem tw_82 : Cond.methodLink "MountainWatch" 18 ⟨"MountainWatch$Readings", "<init>", "()V"⟩ ∈ TB := TB_mem 82 (by decide +kernel) (by decide +kernel)
theorem tw_83 : Cond.instanceMethod ⟨"MountainWatch$Readings", "<init>", "()V"⟩ ∈ TB := TB_mem 83 (by decide +kernel) (by decide +kernel)
theorem tw_84 : Cond.code ⟨"MountainWatch$Readings", "<init>", "()V"⟩ prog_4_method_1_code 1 none ∈ TB := TB_mem 84 (by decide +kernel) (by decide +kernel)
theorem tw_85 : Cond.methodLink "MountainWatch$Readings" 3 ⟨"java/lang/Object", "<init>", "()V"⟩ ∈ TB := TB_mem 85 (by decide +kernel) (by decide +kernel)
theorem tw_96 : Cond.classLink "MountainWatch" 23 "MountainWatch$Laws" ∈ TB := TB_mem 96 (by decide +kernel) (by decide +kernel)
theorem tw_97 : Cond.instantiable "MountainWatch$Laws" 5 ∈ TB := TB_mem 97 (by decide +kernel) (by decide +kernel)
theorem tw_99 : Cond.instanceMethod ⟨"MountainWatch$Laws", "<init>", "()V"⟩ ∈ TB := TB_mem 99 (by decide +kernel) (by decide +kernel)
theorem tw_100 : Cond.code ⟨"MountainWatch$Laws", "<init>", "()V"⟩ prog_2_method_1_code 1 none ∈ TB := TB_mem 100 (by decide +kernel) (by decide +kernel)
theorem tw_101 : Cond.methodLink "MountainWatch$Laws" 1 ⟨"java/lang/Object", "<init>", "()V"⟩ ∈ TB := TB_mem 101 (by decide +kernel) (by decide +kernel)
theorem tw_123 : Cond.classLink "MountainWatch" 30 "MountainWatch$Messages" ∈ TB := TB_mem 123 (by decide +kernel) (by decide +kernel)
theorem tw_124 : Cond.instantiable "MountainWatch$Messages" 7 ∈ TB := TB_mem 124 (by decide +kernel) (by decide +kernel)
theorem tw_126 : Cond.instanceMethod ⟨"MountainWatch$Messages", "<init>", "()V"⟩ ∈ TB := TB_mem 126 (by decide +kernel) (by decide +kernel)
theorem tw_127 : Cond.code ⟨"MountainWatch$Messages", "<init>", "()V"⟩ prog_3_method_1_code 1 none ∈ TB := TB_mem 127 (by decide +kernel) (by decide +kernel)
theorem tw_128 : Cond.methodLink "MountainWatch$Messages" 1 ⟨"java/lang/Object", "<init>", "()V"⟩ ∈ TB := TB_mem 128 (by decide +kernel) (by decide +kernel)
theorem tw_156 : Cond.classLink "MountainWatch" 37 "MountainWatch$Tree" ∈ TB := TB_mem 156 (by decide +kernel) (by decide +kernel)
theorem tw_157 : Cond.instantiable "MountainWatch$Tree" 9 ∈ TB := TB_mem 157 (by decide +kernel) (by decide +kernel)
theorem tw_158 : Cond.methodLink "MountainWatch" 39 ⟨"MountainWatch$Tree", "<init>", "()V"⟩ ∈ TB := TB_mem 158 (by decide +kernel) (by decide +kernel)
theorem tw_159 : Cond.instanceMethod ⟨"MountainWatch$Tree", "<init>", "()V"⟩ ∈ TB := TB_mem 159 (by decide +kernel) (by decide +kernel)
theorem tw_160 : Cond.code ⟨"MountainWatch$Tree", "<init>", "()V"⟩ prog_6_method_1_code 1 none ∈ TB := TB_mem 160 (by decide +kernel) (by decide +kernel)
theorem tw_161 : Cond.methodLink "MountainWatch$Tree" 3 ⟨"java/lang/Object", "<init>", "()V"⟩ ∈ TB := TB_mem 161 (by decide +kernel) (by decide +kernel)
theorem tw_197 : Cond.arrayClass .boolean ∈ TB := TB_mem 197 (by decide +kernel) (by decide +kernel)
theorem tw_552 : Cond.classLink "MountainWatchLaw" 10 "MountainWatchModel" ∈ TB := TB_mem 552 (by decide +kernel) (by decide +kernel)
theorem tw_553 : Cond.instantiable "MountainWatchModel" 32 ∈ TB := TB_mem 553 (by decide +kernel) (by decide +kernel)
theorem tw_554 : Cond.methodLink "MountainWatchLaw" 12 ⟨"MountainWatchModel", "<init>", "()V"⟩ ∈ TB := TB_mem 554 (by decide +kernel) (by decide +kernel)
theorem tw_555 : Cond.instanceMethod ⟨"MountainWatchModel", "<init>", "()V"⟩ ∈ TB := TB_mem 555 (by decide +kernel) (by decide +kernel)
theorem tw_556 : Cond.code ⟨"MountainWatchModel", "<init>", "()V"⟩ prog_8_method_1_code 1 none ∈ TB := TB_mem 556 (by decide +kernel) (by decide +kernel)
theorem tw_557 : Cond.methodLink "MountainWatchModel" 1 ⟨"java/lang/Object", "<init>", "()V"⟩ ∈ TB := TB_mem 557 (by decide +kernel) (by decide +kernel)
theorem tw_655 : Cond.arrayClass .long ∈ TB := TB_mem 655 (by decide +kernel) (by decide +kernel)
theorem d_SH_init_0 : decode M_SH_init.2.1 0 = .ok (.aload_n 0, 1) := by decide +kernel
theorem d_SH_init_1 : decode M_SH_init.2.1 1 = .ok (.invokespecial 3, 3) := by decide +kernel
theorem d_SH_init_4 : decode M_SH_init.2.1 4 = .ok (.aload_n 0, 1) := by decide +kernel
theorem d_SH_init_5 : decode M_SH_init.2.1 5 = .ok (.sipush 480, 3) := by decide +kernel
theorem d_SH_init_8 : decode M_SH_init.2.1 8 = .ok (.newarray .int, 2) := by decide +kernel
theorem d_SH_init_10 : decode M_SH_init.2.1 10 = .ok (.putfield 11, 3) := by decide +kernel
theorem d_SH_init_13 : decode M_SH_init.2.1 13 = .ok (.aload_n 0, 1) := by decide +kernel
theorem d_SH_init_14 : decode M_SH_init.2.1 14 = .ok (.bipush 80, 2) := by decide +kernel
theorem d_SH_init_16 : decode M_SH_init.2.1 16 = .ok (.newarray .int, 2) := by decide +kernel
theorem d_SH_init_18 : decode M_SH_init.2.1 18 = .ok (.putfield 15, 3) := by decide +kernel
theorem d_SH_init_21 : decode M_SH_init.2.1 21 = .ok (.aload_n 0, 1) := by decide +kernel
theorem d_SH_init_22 : decode M_SH_init.2.1 22 = .ok (.bipush 80, 2) := by decide +kernel
theorem d_SH_init_24 : decode M_SH_init.2.1 24 = .ok (.newarray .int, 2) := by decide +kernel
theorem d_SH_init_26 : decode M_SH_init.2.1 26 = .ok (.putfield 18, 3) := by decide +kernel
theorem d_SH_init_29 : decode M_SH_init.2.1 29 = .ok (.aload_n 0, 1) := by decide +kernel
theorem d_SH_init_30 : decode M_SH_init.2.1 30 = .ok (.bipush 80, 2) := by decide +kernel
theorem d_SH_init_32 : decode M_SH_init.2.1 32 = .ok (.newarray .int, 2) := by decide +kernel
theorem d_SH_init_34 : decode M_SH_init.2.1 34 = .ok (.putfield 21, 3) := by decide +kernel
theorem d_SH_init_37 : decode M_SH_init.2.1 37 = .ok (.aload_n 0, 1) := by decide +kernel
theorem d_SH_init_38 : decode M_SH_init.2.1 38 = .ok (.bipush 80, 2) := by decide +kernel
theorem d_SH_init_40 : decode M_SH_init.2.1 40 = .ok (.newarray .int, 2) := by decide +kernel
theorem d_SH_init_42 : decode M_SH_init.2.1 42 = .ok (.putfield 24, 3) := by decide +kernel
theorem d_SH_init_45 : decode M_SH_init.2.1 45 = .ok (.aload_n 0, 1) := by decide +kernel
theorem d_SH_init_46 : decode M_SH_init.2.1 46 = .ok (.bipush 90, 2) := by decide +kernel
theorem d_SH_init_48 : decode M_SH_init.2.1 48 = .ok (.putfield 27, 3) := by decide +kernel
theorem d_SH_init_51 : decode M_SH_init.2.1 51 = .ok (.return_, 1) := by decide +kernel
theorem d_RE_init_0 : decode M_RE_init.2.1 0 = .ok (.aload_n 0, 1) := by decide +kernel
theorem d_RE_init_1 : decode M_RE_init.2.1 1 = .ok (.invokespecial 3, 3) := by decide +kernel
theorem d_RE_init_4 : decode M_RE_init.2.1 4 = .ok (.aload_n 0, 1) := by decide +kernel
theorem d_RE_init_5 : decode M_RE_init.2.1 5 = .ok (.sipush 1000, 3) := by decide +kernel
theorem d_RE_init_8 : decode M_RE_init.2.1 8 = .ok (.newarray .int, 2) := by decide +kernel
theorem d_RE_init_10 : decode M_RE_init.2.1 10 = .ok (.putfield 11, 3) := by decide +kernel
theorem d_RE_init_13 : decode M_RE_init.2.1 13 = .ok (.aload_n 0, 1) := by decide +kernel
theorem d_RE_init_14 : decode M_RE_init.2.1 14 = .ok (.sipush 1000, 3) := by decide +kernel
theorem d_RE_init_17 : decode M_RE_init.2.1 17 = .ok (.newarray .int, 2) := by decide +kernel
theorem d_RE_init_19 : decode M_RE_init.2.1 19 = .ok (.putfield 15, 3) := by decide +kernel
theorem d_RE_init_22 : decode M_RE_init.2.1 22 = .ok (.aload_n 0, 1) := by decide +kernel
theorem d_RE_init_23 : decode M_RE_init.2.1 23 = .ok (.getfield 11, 3) := by decide +kernel
theorem d_RE_init_26 : decode M_RE_init.2.1 26 = .ok (.iconst 0, 1) := by decide +kernel
theorem d_RE_init_27 : decode M_RE_init.2.1 27 = .ok (.ldc 18, 2) := by decide +kernel
theorem d_RE_init_29 : decode M_RE_init.2.1 29 = .ok (.iastore, 1) := by decide +kernel
theorem d_RE_init_30 : decode M_RE_init.2.1 30 = .ok (.return_, 1) := by decide +kernel
theorem d_LA_init_0 : decode M_LA_init.2.1 0 = .ok (.aload_n 0, 1) := by decide +kernel
theorem d_LA_init_1 : decode M_LA_init.2.1 1 = .ok (.invokespecial 1, 3) := by decide +kernel
theorem d_LA_init_4 : decode M_LA_init.2.1 4 = .ok (.aload_n 0, 1) := by decide +kernel
theorem d_LA_init_5 : decode M_LA_init.2.1 5 = .ok (.bipush 8, 2) := by decide +kernel
theorem d_LA_init_7 : decode M_LA_init.2.1 7 = .ok (.newarray .int, 2) := by decide +kernel
theorem d_LA_init_9 : decode M_LA_init.2.1 9 = .ok (.putfield 9, 3) := by decide +kernel
theorem d_LA_init_12 : decode M_LA_init.2.1 12 = .ok (.aload_n 0, 1) := by decide +kernel
theorem d_LA_init_13 : decode M_LA_init.2.1 13 = .ok (.bipush 8, 2) := by decide +kernel
theorem d_LA_init_15 : decode M_LA_init.2.1 15 = .ok (.newarray .int, 2) := by decide +kernel
theorem d_LA_init_17 : decode M_LA_init.2.1 17 = .ok (.putfield 13, 3) := by decide +kernel
theorem d_LA_init_20 : decode M_LA_init.2.1 20 = .ok (.aload_n 0, 1) := by decide +kernel
theorem d_LA_init_21 : decode M_LA_init.2.1 21 = .ok (.bipush 8, 2) := by decide +kernel
theorem d_LA_init_23 : decode M_LA_init.2.1 23 = .ok (.newarray .int, 2) := by decide +kernel
theorem d_LA_init_25 : decode M_LA_init.2.1 25 = .ok (.putfield 16, 3) := by decide +kernel
theorem d_LA_init_28 : decode M_LA_init.2.1 28 = .ok (.aload_n 0, 1) := by decide +kernel
theorem d_LA_init_29 : decode M_LA_init.2.1 29 = .ok (.bipush 8, 2) := by decide +kernel
theorem d_LA_init_31 : decode M_LA_init.2.1 31 = .ok (.newarray .int, 2) := by decide +kernel
theorem d_LA_init_33 : decode M_LA_init.2.1 33 = .ok (.putfield 19, 3) := by decide +kernel
theorem d_LA_init_36 : decode M_LA_init.2.1 36 = .ok (.return_, 1) := by decide +kernel
theorem d_ME_init_0 : decode M_ME_init.2.1 0 = .ok (.aload_n 0, 1) := by decide +kernel
theorem d_ME_init_1 : decode M_ME_init.2.1 1 = .ok (.invokespecial 1, 3) := by decide +kernel
theorem d_ME_init_4 : decode M_ME_init.2.1 4 = .ok (.aload_n 0, 1) := by decide +kernel
theorem d_ME_init_5 : decode M_ME_init.2.1 5 = .ok (.sipush 200, 3) := by decide +kernel
theorem d_ME_init_8 : decode M_ME_init.2.1 8 = .ok (.newarray .int, 2) := by decide +kernel
theorem d_ME_init_10 : decode M_ME_init.2.1 10 = .ok (.putfield 9, 3) := by decide +kernel
theorem d_ME_init_13 : decode M_ME_init.2.1 13 = .ok (.aload_n 0, 1) := by decide +kernel
theorem d_ME_init_14 : decode M_ME_init.2.1 14 = .ok (.sipush 200, 3) := by decide +kernel
theorem d_ME_init_17 : decode M_ME_init.2.1 17 = .ok (.newarray .int, 2) := by decide +kernel
theorem d_ME_init_19 : decode M_ME_init.2.1 19 = .ok (.putfield 13, 3) := by decide +kernel
theorem d_ME_init_22 : decode M_ME_init.2.1 22 = .ok (.aload_n 0, 1) := by decide +kernel
theorem d_ME_init_23 : decode M_ME_init.2.1 23 = .ok (.sipush 200, 3) := by decide +kernel
theorem d_ME_init_26 : decode M_ME_init.2.1 26 = .ok (.newarray .int, 2) := by decide +kernel
theorem d_ME_init_28 : decode M_ME_init.2.1 28 = .ok (.putfield 16, 3) := by decide +kernel
theorem d_ME_init_31 : decode M_ME_init.2.1 31 = .ok (.return_, 1) := by decide +kernel
theorem d_TR_init_0 : decode M_TR_init.2.1 0 = .ok (.aload_n 0, 1) := by decide +kernel
theorem d_TR_init_1 : decode M_TR_init.2.1 1 = .ok (.invokespecial 3, 3) := by decide +kernel
theorem d_TR_init_4 : decode M_TR_init.2.1 4 = .ok (.aload_n 0, 1) := by decide +kernel
theorem d_TR_init_5 : decode M_TR_init.2.1 5 = .ok (.bipush 24, 2) := by decide +kernel
theorem d_TR_init_7 : decode M_TR_init.2.1 7 = .ok (.newarray .int, 2) := by decide +kernel
theorem d_TR_init_9 : decode M_TR_init.2.1 9 = .ok (.putfield 11, 3) := by decide +kernel
theorem d_TR_init_12 : decode M_TR_init.2.1 12 = .ok (.aload_n 0, 1) := by decide +kernel
theorem d_TR_init_13 : decode M_TR_init.2.1 13 = .ok (.bipush 24, 2) := by decide +kernel
theorem d_TR_init_15 : decode M_TR_init.2.1 15 = .ok (.newarray .int, 2) := by decide +kernel
theorem d_TR_init_17 : decode M_TR_init.2.1 17 = .ok (.putfield 15, 3) := by decide +kernel
theorem d_TR_init_20 : decode M_TR_init.2.1 20 = .ok (.aload_n 0, 1) := by decide +kernel
theorem d_TR_init_21 : decode M_TR_init.2.1 21 = .ok (.bipush 24, 2) := by decide +kernel
theorem d_TR_init_23 : decode M_TR_init.2.1 23 = .ok (.newarray .int, 2) := by decide +kernel
theorem d_TR_init_25 : decode M_TR_init.2.1 25 = .ok (.putfield 18, 3) := by decide +kernel
theorem d_TR_init_28 : decode M_TR_init.2.1 28 = .ok (.aload_n 0, 1) := by decide +kernel
theorem d_TR_init_29 : decode M_TR_init.2.1 29 = .ok (.bipush 24, 2) := by decide +kernel
theorem d_TR_init_31 : decode M_TR_init.2.1 31 = .ok (.newarray .int, 2) := by decide +kernel
theorem d_TR_init_33 : decode M_TR_init.2.1 33 = .ok (.putfield 21, 3) := by decide +kernel
theorem d_TR_init_36 : decode M_TR_init.2.1 36 = .ok (.aload_n 0, 1) := by decide +kernel
theorem d_TR_init_37 : decode M_TR_init.2.1 37 = .ok (.bipush 24, 2) := by decide +kernel
theorem d_TR_init_39 : decode M_TR_init.2.1 39 = .ok (.newarray .int, 2) := by decide +kernel
theorem d_TR_init_41 : decode M_TR_init.2.1 41 = .ok (.putfield 24, 3) := by decide +kernel
theorem d_TR_init_44 : decode M_TR_init.2.1 44 = .ok (.aload_n 0, 1) := by decide +kernel
theorem d_TR_init_45 : decode M_TR_init.2.1 45 = .ok (.bipush 24, 2) := by decide +kernel
theorem d_TR_init_47 : decode M_TR_init.2.1 47 = .ok (.newarray .boolean, 2) := by decide +kernel
theorem d_TR_init_49 : decode M_TR_init.2.1 49 = .ok (.putfield 27, 3) := by decide +kernel
theorem d_TR_init_52 : decode M_TR_init.2.1 52 = .ok (.aload_n 0, 1) := by decide +kernel
theorem d_TR_init_53 : decode M_TR_init.2.1 53 = .ok (.bipush 24, 2) := by decide +kernel
theorem d_TR_init_55 : decode M_TR_init.2.1 55 = .ok (.newarray .int, 2) := by decide +kernel
theorem d_TR_init_57 : decode M_TR_init.2.1 57 = .ok (.putfield 31, 3) := by decide +kernel
theorem d_TR_init_60 : decode M_TR_init.2.1 60 = .ok (.aload_n 0, 1) := by decide +kernel
theorem d_TR_init_61 : decode M_TR_init.2.1 61 = .ok (.bipush 24, 2) := by decide +kernel
theorem d_TR_init_63 : decode M_TR_init.2.1 63 = .ok (.newarray .boolean, 2) := by decide +kernel
theorem d_TR_init_65 : decode M_TR_init.2.1 65 = .ok (.putfield 34, 3) := by decide +kernel
theorem d_TR_init_68 : decode M_TR_init.2.1 68 = .ok (.aload_n 0, 1) := by decide +kernel
theorem d_TR_init_69 : decode M_TR_init.2.1 69 = .ok (.getfield 11, 3) := by decide +kernel
theorem d_TR_init_72 : decode M_TR_init.2.1 72 = .ok (.iconst 0, 1) := by decide +kernel
theorem d_TR_init_73 : decode M_TR_init.2.1 73 = .ok (.bipush (-6), 2) := by decide +kernel
theorem d_TR_init_75 : decode M_TR_init.2.1 75 = .ok (.iastore, 1) := by decide +kernel
theorem d_TR_init_76 : decode M_TR_init.2.1 76 = .ok (.aload_n 0, 1) := by decide +kernel
theorem d_TR_init_77 : decode M_TR_init.2.1 77 = .ok (.getfield 15, 3) := by decide +kernel
theorem d_TR_init_80 : decode M_TR_init.2.1 80 = .ok (.iconst 0, 1) := by decide +kernel
theorem d_TR_init_81 : decode M_TR_init.2.1 81 = .ok (.bipush 100, 2) := by decide +kernel
theorem d_TR_init_83 : decode M_TR_init.2.1 83 = .ok (.iastore, 1) := by decide +kernel
theorem d_TR_init_84 : decode M_TR_init.2.1 84 = .ok (.aload_n 0, 1) := by decide +kernel
theorem d_TR_init_85 : decode M_TR_init.2.1 85 = .ok (.getfield 18, 3) := by decide +kernel
theorem d_TR_init_88 : decode M_TR_init.2.1 88 = .ok (.iconst 0, 1) := by decide +kernel
theorem d_TR_init_89 : decode M_TR_init.2.1 89 = .ok (.bipush 100, 2) := by decide +kernel
theorem d_TR_init_91 : decode M_TR_init.2.1 91 = .ok (.iastore, 1) := by decide +kernel
theorem d_TR_init_92 : decode M_TR_init.2.1 92 = .ok (.aload_n 0, 1) := by decide +kernel
theorem d_TR_init_93 : decode M_TR_init.2.1 93 = .ok (.iconst 1, 1) := by decide +kernel
theorem d_TR_init_94 : decode M_TR_init.2.1 94 = .ok (.putfield 37, 3) := by decide +kernel
theorem d_TR_init_97 : decode M_TR_init.2.1 97 = .ok (.return_, 1) := by decide +kernel
theorem d_MW_init_0 : decode M_MW_init.2.1 0 = .ok (.aload_n 0, 1) := by decide +kernel
theorem d_MW_init_1 : decode M_MW_init.2.1 1 = .ok (.invokespecial 1, 3) := by decide +kernel
theorem d_MW_init_4 : decode M_MW_init.2.1 4 = .ok (.aload_n 0, 1) := by decide +kernel
theorem d_MW_init_5 : decode M_MW_init.2.1 5 = .ok (.new 7, 3) := by decide +kernel
theorem d_MW_init_8 : decode M_MW_init.2.1 8 = .ok (.dup, 1) := by decide +kernel
theorem d_MW_init_9 : decode M_MW_init.2.1 9 = .ok (.invokespecial 9, 3) := by decide +kernel
theorem d_MW_init_12 : decode M_MW_init.2.1 12 = .ok (.putfield 10, 3) := by decide +kernel
theorem d_MW_init_15 : decode M_MW_init.2.1 15 = .ok (.aload_n 0, 1) := by decide +kernel
theorem d_MW_init_16 : decode M_MW_init.2.1 16 = .ok (.new 16, 3) := by decide +kernel
theorem d_MW_init_19 : decode M_MW_init.2.1 19 = .ok (.dup, 1) := by decide +kernel
theorem d_MW_init_20 : decode M_MW_init.2.1 20 = .ok (.invokespecial 18, 3) := by decide +kernel
theorem d_MW_init_23 : decode M_MW_init.2.1 23 = .ok (.putfield 19, 3) := by decide +kernel
theorem d_MW_init_26 : decode M_MW_init.2.1 26 = .ok (.aload_n 0, 1) := by decide +kernel
theorem d_MW_init_27 : decode M_MW_init.2.1 27 = .ok (.new 23, 3) := by decide +kernel
theorem d_MW_init_30 : decode M_MW_init.2.1 30 = .ok (.dup, 1) := by decide +kernel
theorem d_MW_init_31 : decode M_MW_init.2.1 31 = .ok (.invokespecial 25, 3) := by decide +kernel
theorem d_MW_init_34 : decode M_MW_init.2.1 34 = .ok (.putfield 26, 3) := by decide +kernel
theorem d_MW_init_37 : decode M_MW_init.2.1 37 = .ok (.aload_n 0, 1) := by decide +kernel
theorem d_MW_init_38 : decode M_MW_init.2.1 38 = .ok (.new 30, 3) := by decide +kernel
theorem d_MW_init_41 : decode M_MW_init.2.1 41 = .ok (.dup, 1) := by decide +kernel
theorem d_MW_init_42 : decode M_MW_init.2.1 42 = .ok (.invokespecial 32, 3) := by decide +kernel
theorem d_MW_init_45 : decode M_MW_init.2.1 45 = .ok (.putfield 33, 3) := by decide +kernel
theorem d_MW_init_48 : decode M_MW_init.2.1 48 = .ok (.aload_n 0, 1) := by decide +kernel
theorem d_MW_init_49 : decode M_MW_init.2.1 49 = .ok (.new 37, 3) := by decide +kernel
theorem d_MW_init_52 : decode M_MW_init.2.1 52 = .ok (.dup, 1) := by decide +kernel
theorem d_MW_init_53 : decode M_MW_init.2.1 53 = .ok (.invokespecial 39, 3) := by decide +kernel
theorem d_MW_init_56 : decode M_MW_init.2.1 56 = .ok (.putfield 40, 3) := by decide +kernel
theorem d_MW_init_59 : decode M_MW_init.2.1 59 = .ok (.aload_n 0, 1) := by decide +kernel
theorem d_MW_init_60 : decode M_MW_init.2.1 60 = .ok (.iconst 3, 1) := by decide +kernel
theorem d_MW_init_61 : decode M_MW_init.2.1 61 = .ok (.putfield 44, 3) := by decide +kernel
theorem d_MW_init_64 : decode M_MW_init.2.1 64 = .ok (.return_, 1) := by decide +kernel
theorem d_MO_init_0 : decode M_MO_init.2.1 0 = .ok (.aload_n 0, 1) := by decide +kernel
theorem d_MO_init_1 : decode M_MO_init.2.1 1 = .ok (.invokespecial 1, 3) := by decide +kernel
theorem d_MO_init_4 : decode M_MO_init.2.1 4 = .ok (.aload_n 0, 1) := by decide +kernel
theorem d_MO_init_5 : decode M_MO_init.2.1 5 = .ok (.bipush 80, 2) := by decide +kernel
theorem d_MO_init_7 : decode M_MO_init.2.1 7 = .ok (.newarray .int, 2) := by decide +kernel
theorem d_MO_init_9 : decode M_MO_init.2.1 9 = .ok (.putfield 7, 3) := by decide +kernel
theorem d_MO_init_12 : decode M_MO_init.2.1 12 = .ok (.aload_n 0, 1) := by decide +kernel
theorem d_MO_init_13 : decode M_MO_init.2.1 13 = .ok (.sipush 480, 3) := by decide +kernel
theorem d_MO_init_16 : decode M_MO_init.2.1 16 = .ok (.newarray .int, 2) := by decide +kernel
theorem d_MO_init_18 : decode M_MO_init.2.1 18 = .ok (.putfield 13, 3) := by decide +kernel
theorem d_MO_init_21 : decode M_MO_init.2.1 21 = .ok (.aload_n 0, 1) := by decide +kernel
theorem d_MO_init_22 : decode M_MO_init.2.1 22 = .ok (.bipush 80, 2) := by decide +kernel
theorem d_MO_init_24 : decode M_MO_init.2.1 24 = .ok (.newarray .int, 2) := by decide +kernel
theorem d_MO_init_26 : decode M_MO_init.2.1 26 = .ok (.putfield 16, 3) := by decide +kernel
theorem d_MO_init_29 : decode M_MO_init.2.1 29 = .ok (.aload_n 0, 1) := by decide +kernel
theorem d_MO_init_30 : decode M_MO_init.2.1 30 = .ok (.bipush 90, 2) := by decide +kernel
theorem d_MO_init_32 : decode M_MO_init.2.1 32 = .ok (.putfield 19, 3) := by decide +kernel
theorem d_MO_init_35 : decode M_MO_init.2.1 35 = .ok (.aload_n 0, 1) := by decide +kernel
theorem d_MO_init_36 : decode M_MO_init.2.1 36 = .ok (.sipush 1000, 3) := by decide +kernel
theorem d_MO_init_39 : decode M_MO_init.2.1 39 = .ok (.newarray .boolean, 2) := by decide +kernel
theorem d_MO_init_41 : decode M_MO_init.2.1 41 = .ok (.putfield 23, 3) := by decide +kernel
theorem d_MO_init_44 : decode M_MO_init.2.1 44 = .ok (.aload_n 0, 1) := by decide +kernel
theorem d_MO_init_45 : decode M_MO_init.2.1 45 = .ok (.sipush 1000, 3) := by decide +kernel
theorem d_MO_init_48 : decode M_MO_init.2.1 48 = .ok (.newarray .int, 2) := by decide +kernel
theorem d_MO_init_50 : decode M_MO_init.2.1 50 = .ok (.putfield 27, 3) := by decide +kernel
theorem d_MO_init_53 : decode M_MO_init.2.1 53 = .ok (.aload_n 0, 1) := by decide +kernel
theorem d_MO_init_54 : decode M_MO_init.2.1 54 = .ok (.sipush 1000, 3) := by decide +kernel
theorem d_MO_init_57 : decode M_MO_init.2.1 57 = .ok (.newarray .int, 2) := by decide +kernel
theorem d_MO_init_59 : decode M_MO_init.2.1 59 = .ok (.putfield 30, 3) := by decide +kernel
theorem d_MO_init_62 : decode M_MO_init.2.1 62 = .ok (.aload_n 0, 1) := by decide +kernel
theorem d_MO_init_63 : decode M_MO_init.2.1 63 = .ok (.bipush 8, 2) := by decide +kernel
theorem d_MO_init_65 : decode M_MO_init.2.1 65 = .ok (.newarray .int, 2) := by decide +kernel
theorem d_MO_init_67 : decode M_MO_init.2.1 67 = .ok (.putfield 33, 3) := by decide +kernel
theorem d_MO_init_70 : decode M_MO_init.2.1 70 = .ok (.aload_n 0, 1) := by decide +kernel
theorem d_MO_init_71 : decode M_MO_init.2.1 71 = .ok (.bipush 8, 2) := by decide +kernel
theorem d_MO_init_73 : decode M_MO_init.2.1 73 = .ok (.newarray .int, 2) := by decide +kernel
theorem d_MO_init_75 : decode M_MO_init.2.1 75 = .ok (.putfield 36, 3) := by decide +kernel
theorem d_MO_init_78 : decode M_MO_init.2.1 78 = .ok (.aload_n 0, 1) := by decide +kernel
theorem d_MO_init_79 : decode M_MO_init.2.1 79 = .ok (.bipush 8, 2) := by decide +kernel
theorem d_MO_init_81 : decode M_MO_init.2.1 81 = .ok (.newarray .int, 2) := by decide +kernel
theorem d_MO_init_83 : decode M_MO_init.2.1 83 = .ok (.putfield 39, 3) := by decide +kernel
theorem d_MO_init_86 : decode M_MO_init.2.1 86 = .ok (.aload_n 0, 1) := by decide +kernel
theorem d_MO_init_87 : decode M_MO_init.2.1 87 = .ok (.bipush 8, 2) := by decide +kernel
theorem d_MO_init_89 : decode M_MO_init.2.1 89 = .ok (.newarray .int, 2) := by decide +kernel
theorem d_MO_init_91 : decode M_MO_init.2.1 91 = .ok (.putfield 42, 3) := by decide +kernel
theorem d_MO_init_94 : decode M_MO_init.2.1 94 = .ok (.aload_n 0, 1) := by decide +kernel
theorem d_MO_init_95 : decode M_MO_init.2.1 95 = .ok (.iconst 3, 1) := by decide +kernel
theorem d_MO_init_96 : decode M_MO_init.2.1 96 = .ok (.putfield 45, 3) := by decide +kernel
theorem d_MO_init_99 : decode M_MO_init.2.1 99 = .ok (.aload_n 0, 1) := by decide +kernel
theorem d_MO_init_100 : decode M_MO_init.2.1 100 = .ok (.sipush 1000, 3) := by decide +kernel
theorem d_MO_init_103 : decode M_MO_init.2.1 103 = .ok (.newarray .int, 2) := by decide +kernel
theorem d_MO_init_105 : decode M_MO_init.2.1 105 = .ok (.putfield 48, 3) := by decide +kernel
theorem d_MO_init_108 : decode M_MO_init.2.1 108 = .ok (.aload_n 0, 1) := by decide +kernel
theorem d_MO_init_109 : decode M_MO_init.2.1 109 = .ok (.iconst 1, 1) := by decide +kernel
theorem d_MO_init_110 : decode M_MO_init.2.1 110 = .ok (.putfield 51, 3) := by decide +kernel
theorem d_MO_init_113 : decode M_MO_init.2.1 113 = .ok (.aload_n 0, 1) := by decide +kernel
theorem d_MO_init_114 : decode M_MO_init.2.1 114 = .ok (.bipush 24, 2) := by decide +kernel
theorem d_MO_init_116 : decode M_MO_init.2.1 116 = .ok (.newarray .int, 2) := by decide +kernel
theorem d_MO_init_118 : decode M_MO_init.2.1 118 = .ok (.putfield 54, 3) := by decide +kernel
theorem d_MO_init_121 : decode M_MO_init.2.1 121 = .ok (.aload_n 0, 1) := by decide +kernel
theorem d_MO_init_122 : decode M_MO_init.2.1 122 = .ok (.bipush 24, 2) := by decide +kernel
theorem d_MO_init_124 : decode M_MO_init.2.1 124 = .ok (.newarray .int, 2) := by decide +kernel
theorem d_MO_init_126 : decode M_MO_init.2.1 126 = .ok (.putfield 57, 3) := by decide +kernel
theorem d_MO_init_129 : decode M_MO_init.2.1 129 = .ok (.aload_n 0, 1) := by decide +kernel
theorem d_MO_init_130 : decode M_MO_init.2.1 130 = .ok (.bipush 24, 2) := by decide +kernel
theorem d_MO_init_132 : decode M_MO_init.2.1 132 = .ok (.newarray .int, 2) := by decide +kernel
theorem d_MO_init_134 : decode M_MO_init.2.1 134 = .ok (.putfield 60, 3) := by decide +kernel
theorem d_MO_init_137 : decode M_MO_init.2.1 137 = .ok (.aload_n 0, 1) := by decide +kernel
theorem d_MO_init_138 : decode M_MO_init.2.1 138 = .ok (.bipush 24, 2) := by decide +kernel
theorem d_MO_init_140 : decode M_MO_init.2.1 140 = .ok (.newarray .boolean, 2) := by decide +kernel
theorem d_MO_init_142 : decode M_MO_init.2.1 142 = .ok (.putfield 63, 3) := by decide +kernel
theorem d_MO_init_145 : decode M_MO_init.2.1 145 = .ok (.aload_n 0, 1) := by decide +kernel
theorem d_MO_init_146 : decode M_MO_init.2.1 146 = .ok (.bipush 24, 2) := by decide +kernel
theorem d_MO_init_148 : decode M_MO_init.2.1 148 = .ok (.newarray .long, 2) := by decide +kernel
theorem d_MO_init_150 : decode M_MO_init.2.1 150 = .ok (.putfield 66, 3) := by decide +kernel
theorem d_MO_init_153 : decode M_MO_init.2.1 153 = .ok (.aload_n 0, 1) := by decide +kernel
theorem d_MO_init_154 : decode M_MO_init.2.1 154 = .ok (.bipush 24, 2) := by decide +kernel
theorem d_MO_init_156 : decode M_MO_init.2.1 156 = .ok (.newarray .boolean, 2) := by decide +kernel
theorem d_MO_init_158 : decode M_MO_init.2.1 158 = .ok (.putfield 70, 3) := by decide +kernel
theorem d_MO_init_161 : decode M_MO_init.2.1 161 = .ok (.aload_n 0, 1) := by decide +kernel
theorem d_MO_init_162 : decode M_MO_init.2.1 162 = .ok (.getfield 54, 3) := by decide +kernel
theorem d_MO_init_165 : decode M_MO_init.2.1 165 = .ok (.iconst 0, 1) := by decide +kernel
theorem d_MO_init_166 : decode M_MO_init.2.1 166 = .ok (.bipush (-6), 2) := by decide +kernel
theorem d_MO_init_168 : decode M_MO_init.2.1 168 = .ok (.iastore, 1) := by decide +kernel
theorem d_MO_init_169 : decode M_MO_init.2.1 169 = .ok (.aload_n 0, 1) := by decide +kernel
theorem d_MO_init_170 : decode M_MO_init.2.1 170 = .ok (.getfield 57, 3) := by decide +kernel
theorem d_MO_init_173 : decode M_MO_init.2.1 173 = .ok (.iconst 0, 1) := by decide +kernel
theorem d_MO_init_174 : decode M_MO_init.2.1 174 = .ok (.bipush 100, 2) := by decide +kernel
theorem d_MO_init_176 : decode M_MO_init.2.1 176 = .ok (.iastore, 1) := by decide +kernel
theorem d_MO_init_177 : decode M_MO_init.2.1 177 = .ok (.aload_n 0, 1) := by decide +kernel
theorem d_MO_init_178 : decode M_MO_init.2.1 178 = .ok (.getfield 60, 3) := by decide +kernel
theorem d_MO_init_181 : decode M_MO_init.2.1 181 = .ok (.iconst 0, 1) := by decide +kernel
theorem d_MO_init_182 : decode M_MO_init.2.1 182 = .ok (.bipush 100, 2) := by decide +kernel
theorem d_MO_init_184 : decode M_MO_init.2.1 184 = .ok (.iastore, 1) := by decide +kernel
theorem d_MO_init_185 : decode M_MO_init.2.1 185 = .ok (.return_, 1) := by decide +kernel
