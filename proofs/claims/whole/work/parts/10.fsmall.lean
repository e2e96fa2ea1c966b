theorem d_LA_has_0 : decode M_LA_has.2.1 0 = .ok (.iload_n 1, 1) := by decide +kernel
theorem d_LA_has_1 : decode M_LA_has.2.1 1 = .ok (.ifCond .lt 15, 3) := by decide +kernel
theorem d_LA_has_4 : decode M_LA_has.2.1 4 = .ok (.iload_n 1, 1) := by decide +kernel
theorem d_LA_has_5 : decode M_LA_has.2.1 5 = .ok (.aload_n 0, 1) := by decide +kernel
theorem d_LA_has_6 : decode M_LA_has.2.1 6 = .ok (.getfield 22, 3) := by decide +kernel
theorem d_LA_has_9 : decode M_LA_has.2.1 9 = .ok (.if_icmp .ge 7, 3) := by decide +kernel
theorem d_LA_has_12 : decode M_LA_has.2.1 12 = .ok (.iconst 1, 1) := by decide +kernel
theorem d_LA_has_13 : decode M_LA_has.2.1 13 = .ok (.goto 4, 3) := by decide +kernel
theorem d_LA_has_16 : decode M_LA_has.2.1 16 = .ok (.iconst 0, 1) := by decide +kernel
theorem d_LA_has_17 : decode M_LA_has.2.1 17 = .ok (.ireturn, 1) := by decide +kernel
theorem d_LA_add_0 : decode M_LA_add.2.1 0 = .ok (.aload_n 0, 1) := by decide +kernel
theorem d_LA_add_1 : decode M_LA_add.2.1 1 = .ok (.getfield 22, 3) := by decide +kernel
theorem d_LA_add_4 : decode M_LA_add.2.1 4 = .ok (.istore 5, 2) := by decide +kernel
theorem d_LA_add_6 : decode M_LA_add.2.1 6 = .ok (.aload_n 0, 1) := by decide +kernel
theorem d_LA_add_7 : decode M_LA_add.2.1 7 = .ok (.getfield 9, 3) := by decide +kernel
theorem d_LA_add_10 : decode M_LA_add.2.1 10 = .ok (.iload 5, 2) := by decide +kernel
theorem d_LA_add_12 : decode M_LA_add.2.1 12 = .ok (.iload_n 1, 1) := by decide +kernel
theorem d_LA_add_13 : decode M_LA_add.2.1 13 = .ok (.iastore, 1) := by decide +kernel
theorem d_LA_add_14 : decode M_LA_add.2.1 14 = .ok (.aload_n 0, 1) := by decide +kernel
theorem d_LA_add_15 : decode M_LA_add.2.1 15 = .ok (.getfield 13, 3) := by decide +kernel
theorem d_LA_add_18 : decode M_LA_add.2.1 18 = .ok (.iload 5, 2) := by decide +kernel
theorem d_LA_add_20 : decode M_LA_add.2.1 20 = .ok (.iload_n 2, 1) := by decide +kernel
theorem d_LA_add_21 : decode M_LA_add.2.1 21 = .ok (.iastore, 1) := by decide +kernel
theorem d_LA_add_22 : decode M_LA_add.2.1 22 = .ok (.aload_n 0, 1) := by decide +kernel
theorem d_LA_add_23 : decode M_LA_add.2.1 23 = .ok (.getfield 16, 3) := by decide +kernel
theorem d_LA_add_26 : decode M_LA_add.2.1 26 = .ok (.iload 5, 2) := by decide +kernel
theorem d_LA_add_28 : decode M_LA_add.2.1 28 = .ok (.iload_n 3, 1) := by decide +kernel
theorem d_LA_add_29 : decode M_LA_add.2.1 29 = .ok (.iastore, 1) := by decide +kernel
theorem d_LA_add_30 : decode M_LA_add.2.1 30 = .ok (.aload_n 0, 1) := by decide +kernel
theorem d_LA_add_31 : decode M_LA_add.2.1 31 = .ok (.getfield 19, 3) := by decide +kernel
theorem d_LA_add_34 : decode M_LA_add.2.1 34 = .ok (.iload 5, 2) := by decide +kernel
theorem d_LA_add_36 : decode M_LA_add.2.1 36 = .ok (.iload 4, 2) := by decide +kernel
theorem d_LA_add_38 : decode M_LA_add.2.1 38 = .ok (.iastore, 1) := by decide +kernel
theorem d_LA_add_39 : decode M_LA_add.2.1 39 = .ok (.aload_n 0, 1) := by decide +kernel
theorem d_LA_add_40 : decode M_LA_add.2.1 40 = .ok (.iload 5, 2) := by decide +kernel
theorem d_LA_add_42 : decode M_LA_add.2.1 42 = .ok (.iconst 1, 1) := by decide +kernel
theorem d_LA_add_43 : decode M_LA_add.2.1 43 = .ok (.iadd, 1) := by decide +kernel
theorem d_LA_add_44 : decode M_LA_add.2.1 44 = .ok (.putfield 22, 3) := by decide +kernel
theorem d_LA_add_47 : decode M_LA_add.2.1 47 = .ok (.iload 5, 2) := by decide +kernel
theorem d_LA_add_49 : decode M_LA_add.2.1 49 = .ok (.ireturn, 1) := by decide +kernel
theorem d_ME_place_0 : decode M_ME_place.2.1 0 = .ok (.iload_n 0, 1) := by decide +kernel
theorem d_ME_place_1 : decode M_ME_place.2.1 1 = .ok (.ifCond .eq 11, 3) := by decide +kernel
theorem d_ME_place_4 : decode M_ME_place.2.1 4 = .ok (.sipush 200, 3) := by decide +kernel
theorem d_ME_place_7 : decode M_ME_place.2.1 7 = .ok (.iload_n 1, 1) := by decide +kernel
theorem d_ME_place_8 : decode M_ME_place.2.1 8 = .ok (.isub, 1) := by decide +kernel
theorem d_ME_place_9 : decode M_ME_place.2.1 9 = .ok (.goto 6, 3) := by decide +kernel
theorem d_ME_place_12 : decode M_ME_place.2.1 12 = .ok (.iload_n 1, 1) := by decide +kernel
theorem d_ME_place_13 : decode M_ME_place.2.1 13 = .ok (.iconst 1, 1) := by decide +kernel
theorem d_ME_place_14 : decode M_ME_place.2.1 14 = .ok (.isub, 1) := by decide +kernel
theorem d_ME_place_15 : decode M_ME_place.2.1 15 = .ok (.ireturn, 1) := by decide +kernel
theorem d_ME_isKept_0 : decode M_ME_isKept.2.1 0 = .ok (.iload_n 2, 1) := by decide +kernel
theorem d_ME_isKept_1 : decode M_ME_isKept.2.1 1 = .ok (.iconst 1, 1) := by decide +kernel
theorem d_ME_isKept_2 : decode M_ME_isKept.2.1 2 = .ok (.if_icmp .lt 26, 3) := by decide +kernel
theorem d_ME_isKept_5 : decode M_ME_isKept.2.1 5 = .ok (.iload_n 2, 1) := by decide +kernel
theorem d_ME_isKept_6 : decode M_ME_isKept.2.1 6 = .ok (.iload_n 1, 1) := by decide +kernel
theorem d_ME_isKept_7 : decode M_ME_isKept.2.1 7 = .ok (.ifCond .eq 10, 3) := by decide +kernel
theorem d_ME_isKept_10 : decode M_ME_isKept.2.1 10 = .ok (.aload_n 0, 1) := by decide +kernel
theorem d_ME_isKept_11 : decode M_ME_isKept.2.1 11 = .ok (.getfield 19, 3) := by decide +kernel
theorem d_ME_isKept_14 : decode M_ME_isKept.2.1 14 = .ok (.goto 7, 3) := by decide +kernel
theorem d_ME_isKept_17 : decode M_ME_isKept.2.1 17 = .ok (.aload_n 0, 1) := by decide +kernel
theorem d_ME_isKept_18 : decode M_ME_isKept.2.1 18 = .ok (.getfield 23, 3) := by decide +kernel
theorem d_ME_isKept_21 : decode M_ME_isKept.2.1 21 = .ok (.if_icmp .gt 7, 3) := by decide +kernel
theorem d_ME_isKept_24 : decode M_ME_isKept.2.1 24 = .ok (.iconst 1, 1) := by decide +kernel
theorem d_ME_isKept_25 : decode M_ME_isKept.2.1 25 = .ok (.goto 4, 3) := by decide +kernel
theorem d_ME_isKept_28 : decode M_ME_isKept.2.1 28 = .ok (.iconst 0, 1) := by decide +kernel
theorem d_ME_isKept_29 : decode M_ME_isKept.2.1 29 = .ok (.ireturn, 1) := by decide +kernel
theorem d_ME_add_0 : decode M_ME_add.2.1 0 = .ok (.aload_n 0, 1) := by decide +kernel
theorem d_ME_add_1 : decode M_ME_add.2.1 1 = .ok (.iload_n 1, 1) := by decide +kernel
theorem d_ME_add_2 : decode M_ME_add.2.1 2 = .ok (.invokevirtual 26, 3) := by decide +kernel
theorem d_ME_add_5 : decode M_ME_add.2.1 5 = .ok (.istore 5, 2) := by decide +kernel
theorem d_ME_add_7 : decode M_ME_add.2.1 7 = .ok (.aload_n 0, 1) := by decide +kernel
theorem d_ME_add_8 : decode M_ME_add.2.1 8 = .ok (.getfield 23, 3) := by decide +kernel
theorem d_ME_add_11 : decode M_ME_add.2.1 11 = .ok (.aload_n 0, 1) := by decide +kernel
theorem d_ME_add_12 : decode M_ME_add.2.1 12 = .ok (.getfield 19, 3) := by decide +kernel
theorem d_ME_add_15 : decode M_ME_add.2.1 15 = .ok (.iadd, 1) := by decide +kernel
theorem d_ME_add_16 : decode M_ME_add.2.1 16 = .ok (.sipush 200, 3) := by decide +kernel
theorem d_ME_add_19 : decode M_ME_add.2.1 19 = .ok (.if_icmp .ge 41, 3) := by decide +kernel
theorem d_ME_add_22 : decode M_ME_add.2.1 22 = .ok (.iload_n 1, 1) := by decide +kernel
theorem d_ME_add_23 : decode M_ME_add.2.1 23 = .ok (.iload 5, 2) := by decide +kernel
theorem d_ME_add_25 : decode M_ME_add.2.1 25 = .ok (.invokestatic 30, 3) := by decide +kernel
theorem d_ME_add_28 : decode M_ME_add.2.1 28 = .ok (.istore 6, 2) := by decide +kernel
theorem d_ME_add_30 : decode M_ME_add.2.1 30 = .ok (.aload_n 0, 1) := by decide +kernel
theorem d_ME_add_31 : decode M_ME_add.2.1 31 = .ok (.getfield 9, 3) := by decide +kernel
theorem d_ME_add_34 : decode M_ME_add.2.1 34 = .ok (.iload 6, 2) := by decide +kernel
theorem d_ME_add_36 : decode M_ME_add.2.1 36 = .ok (.iload_n 2, 1) := by decide +kernel
theorem d_ME_add_37 : decode M_ME_add.2.1 37 = .ok (.iastore, 1) := by decide +kernel
theorem d_ME_add_38 : decode M_ME_add.2.1 38 = .ok (.aload_n 0, 1) := by decide +kernel
theorem d_ME_add_39 : decode M_ME_add.2.1 39 = .ok (.getfield 13, 3) := by decide +kernel
theorem d_ME_add_42 : decode M_ME_add.2.1 42 = .ok (.iload 6, 2) := by decide +kernel
theorem d_ME_add_44 : decode M_ME_add.2.1 44 = .ok (.iload_n 3, 1) := by decide +kernel
theorem d_ME_add_45 : decode M_ME_add.2.1 45 = .ok (.iastore, 1) := by decide +kernel
theorem d_ME_add_46 : decode M_ME_add.2.1 46 = .ok (.aload_n 0, 1) := by decide +kernel
theorem d_ME_add_47 : decode M_ME_add.2.1 47 = .ok (.getfield 16, 3) := by decide +kernel
theorem d_ME_add_50 : decode M_ME_add.2.1 50 = .ok (.iload 6, 2) := by decide +kernel
theorem d_ME_add_52 : decode M_ME_add.2.1 52 = .ok (.iload 4, 2) := by decide +kernel
theorem d_ME_add_54 : decode M_ME_add.2.1 54 = .ok (.iastore, 1) := by decide +kernel
theorem d_ME_add_55 : decode M_ME_add.2.1 55 = .ok (.aload_n 0, 1) := by decide +kernel
theorem d_ME_add_56 : decode M_ME_add.2.1 56 = .ok (.iload_n 1, 1) := by decide +kernel
theorem d_ME_add_57 : decode M_ME_add.2.1 57 = .ok (.invokevirtual 34, 3) := by decide +kernel
theorem d_ME_add_60 : decode M_ME_add.2.1 60 = .ok (.iload 5, 2) := by decide +kernel
theorem d_ME_add_62 : decode M_ME_add.2.1 62 = .ok (.ireturn, 1) := by decide +kernel
theorem d_ME_takeNumber_0 : decode M_ME_takeNumber.2.1 0 = .ok (.iload_n 1, 1) := by decide +kernel
theorem d_ME_takeNumber_1 : decode M_ME_takeNumber.2.1 1 = .ok (.ifCond .eq 18, 3) := by decide +kernel
theorem d_ME_takeNumber_4 : decode M_ME_takeNumber.2.1 4 = .ok (.aload_n 0, 1) := by decide +kernel
theorem d_ME_takeNumber_5 : decode M_ME_takeNumber.2.1 5 = .ok (.dup, 1) := by decide +kernel
theorem d_ME_takeNumber_6 : decode M_ME_takeNumber.2.1 6 = .ok (.getfield 38, 3) := by decide +kernel
theorem d_ME_takeNumber_9 : decode M_ME_takeNumber.2.1 9 = .ok (.iconst 1, 1) := by decide +kernel
theorem d_ME_takeNumber_10 : decode M_ME_takeNumber.2.1 10 = .ok (.iadd, 1) := by decide +kernel
theorem d_ME_takeNumber_11 : decode M_ME_takeNumber.2.1 11 = .ok (.putfield 38, 3) := by decide +kernel
theorem d_ME_takeNumber_14 : decode M_ME_takeNumber.2.1 14 = .ok (.aload_n 0, 1) := by decide +kernel
theorem d_ME_takeNumber_15 : decode M_ME_takeNumber.2.1 15 = .ok (.getfield 38, 3) := by decide +kernel
theorem d_ME_takeNumber_18 : decode M_ME_takeNumber.2.1 18 = .ok (.ireturn, 1) := by decide +kernel
theorem d_ME_takeNumber_19 : decode M_ME_takeNumber.2.1 19 = .ok (.aload_n 0, 1) := by decide +kernel
theorem d_ME_takeNumber_20 : decode M_ME_takeNumber.2.1 20 = .ok (.dup, 1) := by decide +kernel
theorem d_ME_takeNumber_21 : decode M_ME_takeNumber.2.1 21 = .ok (.getfield 41, 3) := by decide +kernel
theorem d_ME_takeNumber_24 : decode M_ME_takeNumber.2.1 24 = .ok (.iconst 1, 1) := by decide +kernel
theorem d_ME_takeNumber_25 : decode M_ME_takeNumber.2.1 25 = .ok (.iadd, 1) := by decide +kernel
theorem d_ME_takeNumber_26 : decode M_ME_takeNumber.2.1 26 = .ok (.putfield 41, 3) := by decide +kernel
theorem d_ME_takeNumber_29 : decode M_ME_takeNumber.2.1 29 = .ok (.aload_n 0, 1) := by decide +kernel
theorem d_ME_takeNumber_30 : decode M_ME_takeNumber.2.1 30 = .ok (.getfield 41, 3) := by decide +kernel
theorem d_ME_takeNumber_33 : decode M_ME_takeNumber.2.1 33 = .ok (.ireturn, 1) := by decide +kernel
theorem d_ME_countKept_0 : decode M_ME_countKept.2.1 0 = .ok (.iload_n 1, 1) := by decide +kernel
theorem d_ME_countKept_1 : decode M_ME_countKept.2.1 1 = .ok (.ifCond .eq 16, 3) := by decide +kernel
theorem d_ME_countKept_4 : decode M_ME_countKept.2.1 4 = .ok (.aload_n 0, 1) := by decide +kernel
theorem d_ME_countKept_5 : decode M_ME_countKept.2.1 5 = .ok (.dup, 1) := by decide +kernel
theorem d_ME_countKept_6 : decode M_ME_countKept.2.1 6 = .ok (.getfield 19, 3) := by decide +kernel
theorem d_ME_countKept_9 : decode M_ME_countKept.2.1 9 = .ok (.iconst 1, 1) := by decide +kernel
theorem d_ME_countKept_10 : decode M_ME_countKept.2.1 10 = .ok (.iadd, 1) := by decide +kernel
theorem d_ME_countKept_11 : decode M_ME_countKept.2.1 11 = .ok (.putfield 19, 3) := by decide +kernel
theorem d_ME_countKept_14 : decode M_ME_countKept.2.1 14 = .ok (.goto 13, 3) := by decide +kernel
theorem d_ME_countKept_17 : decode M_ME_countKept.2.1 17 = .ok (.aload_n 0, 1) := by decide +kernel
theorem d_ME_countKept_18 : decode M_ME_countKept.2.1 18 = .ok (.dup, 1) := by decide +kernel
theorem d_ME_countKept_19 : decode M_ME_countKept.2.1 19 = .ok (.getfield 23, 3) := by decide +kernel
theorem d_ME_countKept_22 : decode M_ME_countKept.2.1 22 = .ok (.iconst 1, 1) := by decide +kernel
theorem d_ME_countKept_23 : decode M_ME_countKept.2.1 23 = .ok (.iadd, 1) := by decide +kernel
theorem d_ME_countKept_24 : decode M_ME_countKept.2.1 24 = .ok (.putfield 23, 3) := by decide +kernel
theorem d_ME_countKept_27 : decode M_ME_countKept.2.1 27 = .ok (.return_, 1) := by decide +kernel
theorem d_RE_carryTiltTo_0 : decode M_RE_carryTiltTo.2.1 0 = .ok (.iload_n 1, 1) := by decide +kernel
theorem d_RE_carryTiltTo_1 : decode M_RE_carryTiltTo.2.1 1 = .ok (.ifCond .le 24, 3) := by decide +kernel
theorem d_RE_carryTiltTo_4 : decode M_RE_carryTiltTo.2.1 4 = .ok (.iload_n 1, 1) := by decide +kernel
theorem d_RE_carryTiltTo_5 : decode M_RE_carryTiltTo.2.1 5 = .ok (.sipush 1000, 3) := by decide +kernel
theorem d_RE_carryTiltTo_8 : decode M_RE_carryTiltTo.2.1 8 = .ok (.if_icmp .ge 17, 3) := by decide +kernel
theorem d_RE_carryTiltTo_11 : decode M_RE_carryTiltTo.2.1 11 = .ok (.aload_n 0, 1) := by decide +kernel
theorem d_RE_carryTiltTo_12 : decode M_RE_carryTiltTo.2.1 12 = .ok (.getfield 11, 3) := by decide +kernel
theorem d_RE_carryTiltTo_15 : decode M_RE_carryTiltTo.2.1 15 = .ok (.iload_n 1, 1) := by decide +kernel
theorem d_RE_carryTiltTo_16 : decode M_RE_carryTiltTo.2.1 16 = .ok (.aload_n 0, 1) := by decide +kernel
theorem d_RE_carryTiltTo_17 : decode M_RE_carryTiltTo.2.1 17 = .ok (.getfield 11, 3) := by decide +kernel
theorem d_RE_carryTiltTo_20 : decode M_RE_carryTiltTo.2.1 20 = .ok (.iload_n 1, 1) := by decide +kernel
theorem d_RE_carryTiltTo_21 : decode M_RE_carryTiltTo.2.1 21 = .ok (.iconst 1, 1) := by decide +kernel
theorem d_RE_carryTiltTo_22 : decode M_RE_carryTiltTo.2.1 22 = .ok (.isub, 1) := by decide +kernel
theorem d_RE_carryTiltTo_23 : decode M_RE_carryTiltTo.2.1 23 = .ok (.iaload, 1) := by decide +kernel
theorem d_RE_carryTiltTo_24 : decode M_RE_carryTiltTo.2.1 24 = .ok (.iastore, 1) := by decide +kernel
theorem d_RE_carryTiltTo_25 : decode M_RE_carryTiltTo.2.1 25 = .ok (.return_, 1) := by decide +kernel
theorem d_RE_tiltMove_0 : decode M_RE_tiltMove.2.1 0 = .ok (.iload_n 1, 1) := by decide +kernel
theorem d_RE_tiltMove_1 : decode M_RE_tiltMove.2.1 1 = .ok (.iload_n 2, 1) := by decide +kernel
theorem d_RE_tiltMove_2 : decode M_RE_tiltMove.2.1 2 = .ok (.if_icmp .lt 27, 3) := by decide +kernel
theorem d_RE_tiltMove_5 : decode M_RE_tiltMove.2.1 5 = .ok (.aload_n 0, 1) := by decide +kernel
theorem d_RE_tiltMove_6 : decode M_RE_tiltMove.2.1 6 = .ok (.getfield 11, 3) := by decide +kernel
theorem d_RE_tiltMove_9 : decode M_RE_tiltMove.2.1 9 = .ok (.iload_n 1, 1) := by decide +kernel
theorem d_RE_tiltMove_10 : decode M_RE_tiltMove.2.1 10 = .ok (.iaload, 1) := by decide +kernel
theorem d_RE_tiltMove_11 : decode M_RE_tiltMove.2.1 11 = .ok (.ldc 18, 2) := by decide +kernel
theorem d_RE_tiltMove_13 : decode M_RE_tiltMove.2.1 13 = .ok (.if_icmp .eq 16, 3) := by decide +kernel
theorem d_RE_tiltMove_16 : decode M_RE_tiltMove.2.1 16 = .ok (.aload_n 0, 1) := by decide +kernel
theorem d_RE_tiltMove_17 : decode M_RE_tiltMove.2.1 17 = .ok (.getfield 11, 3) := by decide +kernel
theorem d_RE_tiltMove_20 : decode M_RE_tiltMove.2.1 20 = .ok (.iload_n 1, 1) := by decide +kernel
theorem d_RE_tiltMove_21 : decode M_RE_tiltMove.2.1 21 = .ok (.iload_n 2, 1) := by decide +kernel
theorem d_RE_tiltMove_22 : decode M_RE_tiltMove.2.1 22 = .ok (.isub, 1) := by decide +kernel
theorem d_RE_tiltMove_23 : decode M_RE_tiltMove.2.1 23 = .ok (.iaload, 1) := by decide +kernel
theorem d_RE_tiltMove_24 : decode M_RE_tiltMove.2.1 24 = .ok (.ldc 18, 2) := by decide +kernel
theorem d_RE_tiltMove_26 : decode M_RE_tiltMove.2.1 26 = .ok (.if_icmp .ne 5, 3) := by decide +kernel
theorem d_RE_tiltMove_29 : decode M_RE_tiltMove.2.1 29 = .ok (.iconst 0, 1) := by decide +kernel
theorem d_RE_tiltMove_30 : decode M_RE_tiltMove.2.1 30 = .ok (.ireturn, 1) := by decide +kernel
theorem d_RE_tiltMove_31 : decode M_RE_tiltMove.2.1 31 = .ok (.aload_n 0, 1) := by decide +kernel
theorem d_RE_tiltMove_32 : decode M_RE_tiltMove.2.1 32 = .ok (.getfield 11, 3) := by decide +kernel
theorem d_RE_tiltMove_35 : decode M_RE_tiltMove.2.1 35 = .ok (.iload_n 1, 1) := by decide +kernel
theorem d_RE_tiltMove_36 : decode M_RE_tiltMove.2.1 36 = .ok (.iaload, 1) := by decide +kernel
theorem d_RE_tiltMove_37 : decode M_RE_tiltMove.2.1 37 = .ok (.aload_n 0, 1) := by decide +kernel
theorem d_RE_tiltMove_38 : decode M_RE_tiltMove.2.1 38 = .ok (.getfield 11, 3) := by decide +kernel
theorem d_RE_tiltMove_41 : decode M_RE_tiltMove.2.1 41 = .ok (.iload_n 1, 1) := by decide +kernel
theorem d_RE_tiltMove_42 : decode M_RE_tiltMove.2.1 42 = .ok (.iload_n 2, 1) := by decide +kernel
theorem d_RE_tiltMove_43 : decode M_RE_tiltMove.2.1 43 = .ok (.isub, 1) := by decide +kernel
theorem d_RE_tiltMove_44 : decode M_RE_tiltMove.2.1 44 = .ok (.iaload, 1) := by decide +kernel
theorem d_RE_tiltMove_45 : decode M_RE_tiltMove.2.1 45 = .ok (.isub, 1) := by decide +kernel
theorem d_RE_tiltMove_46 : decode M_RE_tiltMove.2.1 46 = .ok (.invokestatic 19, 3) := by decide +kernel
theorem d_RE_tiltMove_49 : decode M_RE_tiltMove.2.1 49 = .ok (.ireturn, 1) := by decide +kernel
theorem d_RE_gasOfDays_0 : decode M_RE_gasOfDays.2.1 0 = .ok (.iconst 0, 1) := by decide +kernel
theorem d_RE_gasOfDays_1 : decode M_RE_gasOfDays.2.1 1 = .ok (.istore_n 3, 1) := by decide +kernel
theorem d_RE_gasOfDays_2 : decode M_RE_gasOfDays.2.1 2 = .ok (.iload_n 1, 1) := by decide +kernel
theorem d_RE_gasOfDays_3 : decode M_RE_gasOfDays.2.1 3 = .ok (.istore 4, 2) := by decide +kernel
theorem d_RE_gasOfDays_5 : decode M_RE_gasOfDays.2.1 5 = .ok (.iload 4, 2) := by decide +kernel
theorem d_RE_gasOfDays_7 : decode M_RE_gasOfDays.2.1 7 = .ok (.iload_n 2, 1) := by decide +kernel
theorem d_RE_gasOfDays_8 : decode M_RE_gasOfDays.2.1 8 = .ok (.if_icmp .gt 19, 3) := by decide +kernel
theorem d_RE_gasOfDays_11 : decode M_RE_gasOfDays.2.1 11 = .ok (.iload_n 3, 1) := by decide +kernel
theorem d_RE_gasOfDays_12 : decode M_RE_gasOfDays.2.1 12 = .ok (.aload_n 0, 1) := by decide +kernel
theorem d_RE_gasOfDays_13 : decode M_RE_gasOfDays.2.1 13 = .ok (.getfield 15, 3) := by decide +kernel
theorem d_RE_gasOfDays_16 : decode M_RE_gasOfDays.2.1 16 = .ok (.iload 4, 2) := by decide +kernel
theorem d_RE_gasOfDays_18 : decode M_RE_gasOfDays.2.1 18 = .ok (.iaload, 1) := by decide +kernel
theorem d_RE_gasOfDays_19 : decode M_RE_gasOfDays.2.1 19 = .ok (.iadd, 1) := by decide +kernel
theorem d_RE_gasOfDays_20 : decode M_RE_gasOfDays.2.1 20 = .ok (.istore_n 3, 1) := by decide +kernel
theorem d_RE_gasOfDays_21 : decode M_RE_gasOfDays.2.1 21 = .ok (.iinc 4 1, 3) := by decide +kernel
theorem d_RE_gasOfDays_24 : decode M_RE_gasOfDays.2.1 24 = .ok (.goto (-19), 3) := by decide +kernel
theorem d_RE_gasOfDays_27 : decode M_RE_gasOfDays.2.1 27 = .ok (.iload_n 3, 1) := by decide +kernel
theorem d_RE_gasOfDays_28 : decode M_RE_gasOfDays.2.1 28 = .ok (.ireturn, 1) := by decide +kernel
section Sfsmall
variable {D : va_G} {ad : Nat → Nat} {ca : Nat → ClassId} {sc : SC} {h : Hp} {Q : Option Value → Hp → Prop}
theorem F_LA_has_0 (v1 : Int) (g1 : InR v1) (hF : ((v1 < 0 → Q (some (vI 0)) h) ∧ (0 ≤ v1 → (((h 10 4) ≤ v1 → Q (some (vI 0)) h) ∧ (v1 < (h 10 4) → Q (some (vI 1)) h))))) : WP D ad ca sc M_LA_has 0 [(0, .ref (ad 10)), (1, vI v1)] [] h Q := by
  refine P_iload_n 1 d_LA_has_0 rfl rfl ?_
  refine P_if_lt 16 d_LA_has_1 (by decide) g1 (fun c => ?_) (fun c => ?_)
  · have hF := hF.1 c
    refine P_iconst d_LA_has_16 ?_
    exact P_zret d_LA_has_17 rfl (Or.inl rfl) hF
  · have hF := hF.2 (Int.not_lt.mp c)
    refine P_iload_n 1 d_LA_has_4 rfl rfl ?_
    refine P_aload_n 0 d_LA_has_5 rfl rfl ?_
    refine G_LA_count tw_110 d_LA_has_6 (fun i1 => ?_)
    refine P_icmp_ge 16 d_LA_has_9 (by decide) g1 i1 (fun c => ?_) (fun c => ?_)
    · have hF := hF.1 c
      refine P_iconst d_LA_has_16 ?_
      exact P_zret d_LA_has_17 rfl (Or.inl rfl) hF
    · have hF := hF.2 (Int.not_le.mp c)
      refine P_iconst d_LA_has_12 ?_
      refine P_goto 17 d_LA_has_13 (by decide) ?_
      exact P_zret d_LA_has_17 rfl (Or.inr rfl) hF
theorem F_LA_add_0 (v1 v2 v3 v4 : Int) (g1 : InR v1) (g2 : InR v2) (g3 : InR v3) (g4 : InR v4) (hF : (0 ≤ (h 10 4) ∧ (h 10 4) < 8) ∧ (0 ≤ (h 10 4) ∧ (h 10 4) < 8) ∧ (0 ≤ (h 10 4) ∧ (h 10 4) < 8) ∧ (0 ≤ (h 10 4) ∧ (h 10 4) < 8) ∧ (InR ((h 10 4) + 1)) ∧ Q (some (vI (h 10 4))) (up (up (up (up (up h 11 (h 10 4) v1) 12 (h 10 4) v2) 13 (h 10 4) v3) 14 (h 10 4) v4) 10 4 ((h 10 4) + 1))) : WP D ad ca sc M_LA_add 0 [(0, .ref (ad 10)), (1, vI v1), (2, vI v2), (3, vI v3), (4, vI v4)] [] h Q := by
  refine P_aload_n 0 d_LA_add_0 rfl rfl ?_
  refine G_LA_count tw_110 d_LA_add_1 (fun i1 => ?_)
  refine P_istore (lv' := [(0, .ref (ad 10)), (1, vI v1), (2, vI v2), (3, vI v3), (4, vI v4), (5, vI (h 10 4))]) [1, 2, 3, 4, 5, 0] d_LA_add_4 (by decide) rfl ?_
  refine P_aload_n 0 d_LA_add_6 rfl rfl ?_
  refine G_LA_levels tw_102 d_LA_add_7 ?_
  refine P_iload 5 d_LA_add_10 rfl ?_
  refine P_iload_n 1 d_LA_add_12 rfl rfl ?_
  obtain ⟨b2, hF⟩ := hF
  refine T_11 d_LA_add_13 b2 g1 ?_
  refine P_aload_n 0 d_LA_add_14 rfl rfl ?_
  refine G_LA_measures tw_104 d_LA_add_15 ?_
  refine P_iload 5 d_LA_add_18 rfl ?_
  refine P_iload_n 2 d_LA_add_20 rfl rfl ?_
  obtain ⟨b3, hF⟩ := hF
  refine T_12 d_LA_add_21 b3 g2 ?_
  refine P_aload_n 0 d_LA_add_22 rfl rfl ?_
  refine G_LA_numbers tw_106 d_LA_add_23 ?_
  refine P_iload 5 d_LA_add_26 rfl ?_
  refine P_iload_n 3 d_LA_add_28 rfl rfl ?_
  obtain ⟨b4, hF⟩ := hF
  refine T_13 d_LA_add_29 b4 g3 ?_
  refine P_aload_n 0 d_LA_add_30 rfl rfl ?_
  refine G_LA_spans tw_108 d_LA_add_31 ?_
  refine P_iload 5 d_LA_add_34 rfl ?_
  refine P_iload 4 d_LA_add_36 rfl ?_
  obtain ⟨b5, hF⟩ := hF
  refine T_14 d_LA_add_38 b5 g4 ?_
  refine P_aload_n 0 d_LA_add_39 rfl rfl ?_
  refine P_iload 5 d_LA_add_40 rfl ?_
  refine P_iconst d_LA_add_42 ?_
  refine P_iadd d_LA_add_43 ?_
  obtain ⟨b6, hF⟩ := hF
  refine S_LA_count tw_110 d_LA_add_44 b6 ?_
  refine P_iload 5 d_LA_add_47 rfl ?_
  exact P_iret d_LA_add_49 rfl hF
theorem F_ME_place_0 (v0 v1 : Int) (g0 : InR v0) (g1 : InR v1) (hF : ((v0 = 0 → Q (some (vI (v1 - 1))) h) ∧ (¬ v0 = 0 → Q (some (vI (200 - v1))) h))) : WP D ad ca sc M_ME_place 0 [(0, vI v0), (1, vI v1)] [] h Q := by
  refine P_iload_n 0 d_ME_place_0 rfl rfl ?_
  refine P_if_eq 12 d_ME_place_1 (by decide) g0 (fun c => ?_) (fun c => ?_)
  · have hF := hF.1 c
    refine P_iload_n 1 d_ME_place_12 rfl rfl ?_
    refine P_iconst d_ME_place_13 ?_
    refine P_isub d_ME_place_14 ?_
    exact P_iret d_ME_place_15 rfl hF
  · have hF := hF.2 c
    refine P_sipush d_ME_place_4 (by decide) ?_
    refine P_iload_n 1 d_ME_place_7 rfl rfl ?_
    refine P_isub d_ME_place_8 ?_
    refine P_goto 15 d_ME_place_9 (by decide) ?_
    exact P_iret d_ME_place_15 rfl hF
theorem F_ME_isKept_0 (v1 v2 : Int) (g1 : InR v1) (g2 : InR v2) (hF : ((v2 < 1 → Q (some (vI 0)) h) ∧ (1 ≤ v2 → ((v1 = 0 → (((h 15 5) < v2 → Q (some (vI 0)) h) ∧ (v2 ≤ (h 15 5) → Q (some (vI 1)) h))) ∧ (¬ v1 = 0 → (((h 15 6) < v2 → Q (some (vI 0)) h) ∧ (v2 ≤ (h 15 6) → Q (some (vI 1)) h))))))) : WP D ad ca sc M_ME_isKept 0 [(0, .ref (ad 15)), (1, vI v1), (2, vI v2)] [] h Q := by
  refine P_iload_n 2 d_ME_isKept_0 rfl rfl ?_
  refine P_iconst d_ME_isKept_1 ?_
  refine P_icmp_lt 28 d_ME_isKept_2 (by decide) g2 ⟨by decide, by decide⟩ (fun c => ?_) (fun c => ?_)
  · have hF := hF.1 c
    refine P_iconst d_ME_isKept_28 ?_
    exact P_zret d_ME_isKept_29 rfl (Or.inl rfl) hF
  · have hF := hF.2 (Int.not_lt.mp c)
    refine P_iload_n 2 d_ME_isKept_5 rfl rfl ?_
    refine P_iload_n 1 d_ME_isKept_6 rfl rfl ?_
    refine P_if_eq 17 d_ME_isKept_7 (by decide) g1 (fun c => ?_) (fun c => ?_)
    · have hF := hF.1 c
      refine P_aload_n 0 d_ME_isKept_17 rfl rfl ?_
      refine G_ME_kept tw_139 d_ME_isKept_18 (fun i1 => ?_)
      refine P_icmp_gt 28 d_ME_isKept_21 (by decide) g2 i1 (fun c => ?_) (fun c => ?_)
      · have hF := hF.1 c
        refine P_iconst d_ME_isKept_28 ?_
        exact P_zret d_ME_isKept_29 rfl (Or.inl rfl) hF
      · have hF := hF.2 (Int.not_lt.mp c)
        refine P_iconst d_ME_isKept_24 ?_
        refine P_goto 29 d_ME_isKept_25 (by decide) ?_
        exact P_zret d_ME_isKept_29 rfl (Or.inr rfl) hF
    · have hF := hF.2 c
      refine P_aload_n 0 d_ME_isKept_10 rfl rfl ?_
      refine G_ME_keptDrills tw_140 d_ME_isKept_11 (fun i2 => ?_)
      refine P_goto 21 d_ME_isKept_14 (by decide) ?_
      refine P_icmp_gt 28 d_ME_isKept_21 (by decide) g2 i2 (fun c => ?_) (fun c => ?_)
      · have hF := hF.1 c
        refine P_iconst d_ME_isKept_28 ?_
        exact P_zret d_ME_isKept_29 rfl (Or.inl rfl) hF
      · have hF := hF.2 (Int.not_lt.mp c)
        refine P_iconst d_ME_isKept_24 ?_
        refine P_goto 29 d_ME_isKept_25 (by decide) ?_
        exact P_zret d_ME_isKept_29 rfl (Or.inr rfl) hF
theorem F_ME_add_0 (v1 v2 v3 v4 : Int) (g1 : InR v1) (g2 : InR v2) (g3 : InR v3) (g4 : InR v4) (hF : WP D ad ca none M_ME_takeNumber 0 [(0, .ref (ad 15)), (1, vI v1)] [] h (RI (fun r2 h1 => (InR ((h1 15 5) + (h1 15 6))) ∧ ((200 ≤ ((h1 15 5) + (h1 15 6)) → Q (some (vI r2)) h1) ∧ (((h1 15 5) + (h1 15 6)) < 200 → WP D ad ca none M_ME_place 0 [(0, vI v1), (1, vI r2)] [] h1 (RI (fun r8 h7 => (0 ≤ r8 ∧ r8 < 200) ∧ (0 ≤ r8 ∧ r8 < 200) ∧ (0 ≤ r8 ∧ r8 < 200) ∧ WP D ad ca none M_ME_countKept 0 [(0, .ref (ad 15)), (1, vI v1)] [] (up (up (up h7 16 r8 v2) 17 r8 v3) 18 r8 v4) (RV (fun h13 => Q (some (vI r2)) h13))))))))) : WP D ad ca sc M_ME_add 0 [(0, .ref (ad 15)), (1, vI v1), (2, vI v2), (3, vI v3), (4, vI v4)] [] h Q := by
  refine P_aload_n 0 d_ME_add_0 rfl rfl ?_
  refine P_iload_n 1 d_ME_add_1 rfl rfl ?_
  refine V_ME_takeNumber tw_440 d_ME_add_2 (by decide) (Nat.le_of_ble_eq_true rfl) hF (fun r2 h1 i3 hF => ?_)
  refine P_istore (lv' := [(0, .ref (ad 15)), (1, vI v1), (2, vI v2), (3, vI v3), (4, vI v4), (5, vI r2)]) [1, 2, 3, 4, 5, 0] d_ME_add_5 (by decide) rfl ?_
  refine P_aload_n 0 d_ME_add_7 rfl rfl ?_
  refine G_ME_kept tw_139 d_ME_add_8 (fun i4 => ?_)
  refine P_aload_n 0 d_ME_add_11 rfl rfl ?_
  refine G_ME_keptDrills tw_140 d_ME_add_12 (fun i5 => ?_)
  refine P_iadd d_ME_add_15 ?_
  refine P_sipush d_ME_add_16 (by decide) ?_
  obtain ⟨b6, hF⟩ := hF
  refine P_icmp_ge 60 d_ME_add_19 (by decide) b6 ⟨by decide, by decide⟩ (fun c => ?_) (fun c => ?_)
  · have hF := hF.1 c
    refine P_iload 5 d_ME_add_60 rfl ?_
    exact P_iret d_ME_add_62 rfl hF
  · have hF := hF.2 (Int.not_le.mp c)
    refine P_iload_n 1 d_ME_add_22 rfl rfl ?_
    refine P_iload 5 d_ME_add_23 rfl ?_
    refine V_ME_place tw_444 d_ME_add_25 (by decide) (Nat.le_of_ble_eq_true rfl) hF (fun r8 h7 i9 hF => ?_)
    refine P_istore (lv' := [(0, .ref (ad 15)), (1, vI v1), (2, vI v2), (3, vI v3), (4, vI v4), (5, vI r2), (6, vI r8)]) [1, 2, 3, 4, 5, 6, 0] d_ME_add_28 (by decide) rfl ?_
    refine P_aload_n 0 d_ME_add_30 rfl rfl ?_
    refine G_ME_days tw_129 d_ME_add_31 ?_
    refine P_iload 6 d_ME_add_34 rfl ?_
    refine P_iload_n 2 d_ME_add_36 rfl rfl ?_
    obtain ⟨b10, hF⟩ := hF
    refine T_16 d_ME_add_37 b10 g2 ?_
    refine P_aload_n 0 d_ME_add_38 rfl rfl ?_
    refine G_ME_levels tw_131 d_ME_add_39 ?_
    refine P_iload 6 d_ME_add_42 rfl ?_
    refine P_iload_n 3 d_ME_add_44 rfl rfl ?_
    obtain ⟨b11, hF⟩ := hF
    refine T_17 d_ME_add_45 b11 g3 ?_
    refine P_aload_n 0 d_ME_add_46 rfl rfl ?_
    refine G_ME_reasons tw_133 d_ME_add_47 ?_
    refine P_iload 6 d_ME_add_50 rfl ?_
    refine P_iload 4 d_ME_add_52 rfl ?_
    obtain ⟨b12, hF⟩ := hF
    refine T_18 d_ME_add_54 b12 g4 ?_
    refine P_aload_n 0 d_ME_add_55 rfl rfl ?_
    refine P_iload_n 1 d_ME_add_56 rfl rfl ?_
    refine V_ME_countKept tw_447 d_ME_add_57 (by decide) (Nat.le_of_ble_eq_true rfl) hF (fun h13 hF => ?_)
    refine P_iload 5 d_ME_add_60 rfl ?_
    exact P_iret d_ME_add_62 rfl hF
theorem F_ME_takeNumber_0 (v1 : Int) (g1 : InR v1) (hF : ((v1 = 0 → (InR ((h 15 3) + 1)) ∧ Q (some (vI ((h 15 3) + 1))) (up h 15 3 ((h 15 3) + 1))) ∧ (¬ v1 = 0 → (InR ((h 15 4) + 1)) ∧ Q (some (vI ((h 15 4) + 1))) (up h 15 4 ((h 15 4) + 1))))) : WP D ad ca sc M_ME_takeNumber 0 [(0, .ref (ad 15)), (1, vI v1)] [] h Q := by
  refine P_iload_n 1 d_ME_takeNumber_0 rfl rfl ?_
  refine P_if_eq 19 d_ME_takeNumber_1 (by decide) g1 (fun c => ?_) (fun c => ?_)
  · have hF := hF.1 c
    refine P_aload_n 0 d_ME_takeNumber_19 rfl rfl ?_
    refine P_dup d_ME_takeNumber_20 rfl ?_
    refine G_ME_count tw_135 d_ME_takeNumber_21 (fun i1 => ?_)
    refine P_iconst d_ME_takeNumber_24 ?_
    refine P_iadd d_ME_takeNumber_25 ?_
    obtain ⟨b2, hF⟩ := hF
    refine S_ME_count tw_135 d_ME_takeNumber_26 b2 ?_
    refine P_aload_n 0 d_ME_takeNumber_29 rfl rfl ?_
    refine G_ME_count tw_135 d_ME_takeNumber_30 (fun i3 => ?_)
    exact P_iret d_ME_takeNumber_33 rfl hF
  · have hF := hF.2 c
    refine P_aload_n 0 d_ME_takeNumber_4 rfl rfl ?_
    refine P_dup d_ME_takeNumber_5 rfl ?_
    refine G_ME_drillCount tw_137 d_ME_takeNumber_6 (fun i4 => ?_)
    refine P_iconst d_ME_takeNumber_9 ?_
    refine P_iadd d_ME_takeNumber_10 ?_
    obtain ⟨b5, hF⟩ := hF
    refine S_ME_drillCount tw_137 d_ME_takeNumber_11 b5 ?_
    refine P_aload_n 0 d_ME_takeNumber_14 rfl rfl ?_
    refine G_ME_drillCount tw_137 d_ME_takeNumber_15 (fun i6 => ?_)
    exact P_iret d_ME_takeNumber_18 rfl hF
theorem F_ME_countKept_0 (v1 : Int) (g1 : InR v1) (hF : ((v1 = 0 → (InR ((h 15 5) + 1)) ∧ Q none (up h 15 5 ((h 15 5) + 1))) ∧ (¬ v1 = 0 → (InR ((h 15 6) + 1)) ∧ Q none (up h 15 6 ((h 15 6) + 1))))) : WP D ad ca sc M_ME_countKept 0 [(0, .ref (ad 15)), (1, vI v1)] [] h Q := by
  refine P_iload_n 1 d_ME_countKept_0 rfl rfl ?_
  refine P_if_eq 17 d_ME_countKept_1 (by decide) g1 (fun c => ?_) (fun c => ?_)
  · have hF := hF.1 c
    refine P_aload_n 0 d_ME_countKept_17 rfl rfl ?_
    refine P_dup d_ME_countKept_18 rfl ?_
    refine G_ME_kept tw_139 d_ME_countKept_19 (fun i1 => ?_)
    refine P_iconst d_ME_countKept_22 ?_
    refine P_iadd d_ME_countKept_23 ?_
    obtain ⟨b2, hF⟩ := hF
    refine S_ME_kept tw_139 d_ME_countKept_24 b2 ?_
    exact P_vret d_ME_countKept_27 rfl hF
  · have hF := hF.2 c
    refine P_aload_n 0 d_ME_countKept_4 rfl rfl ?_
    refine P_dup d_ME_countKept_5 rfl ?_
    refine G_ME_keptDrills tw_140 d_ME_countKept_6 (fun i3 => ?_)
    refine P_iconst d_ME_countKept_9 ?_
    refine P_iadd d_ME_countKept_10 ?_
    obtain ⟨b4, hF⟩ := hF
    refine S_ME_keptDrills tw_140 d_ME_countKept_11 b4 ?_
    refine P_goto 27 d_ME_countKept_14 (by decide) ?_
    exact P_vret d_ME_countKept_27 rfl hF
theorem F_RE_carryTiltTo_0 (v1 : Int) (g1 : InR v1) (hF : ((v1 ≤ 0 → Q none h) ∧ (0 < v1 → ((1000 ≤ v1 → Q none h) ∧ (v1 < 1000 → (0 ≤ (v1 - 1) ∧ (v1 - 1) < 1000) ∧ (0 ≤ v1 ∧ v1 < 1000) ∧ Q none (up h 8 v1 (h 8 (v1 - 1)))))))) : WP D ad ca sc M_RE_carryTiltTo 0 [(0, .ref (ad 7)), (1, vI v1)] [] h Q := by
  refine P_iload_n 1 d_RE_carryTiltTo_0 rfl rfl ?_
  refine P_if_le 25 d_RE_carryTiltTo_1 (by decide) g1 (fun c => ?_) (fun c => ?_)
  · have hF := hF.1 c
    exact P_vret d_RE_carryTiltTo_25 rfl hF
  · have hF := hF.2 (Int.not_le.mp c)
    refine P_iload_n 1 d_RE_carryTiltTo_4 rfl rfl ?_
    refine P_sipush d_RE_carryTiltTo_5 (by decide) ?_
    refine P_icmp_ge 25 d_RE_carryTiltTo_8 (by decide) g1 ⟨by decide, by decide⟩ (fun c => ?_) (fun c => ?_)
    · have hF := hF.1 c
      exact P_vret d_RE_carryTiltTo_25 rfl hF
    · have hF := hF.2 (Int.not_le.mp c)
      refine P_aload_n 0 d_RE_carryTiltTo_11 rfl rfl ?_
      refine G_RE_tilts tw_87 d_RE_carryTiltTo_12 ?_
      refine P_iload_n 1 d_RE_carryTiltTo_15 rfl rfl ?_
      refine P_aload_n 0 d_RE_carryTiltTo_16 rfl rfl ?_
      refine G_RE_tilts tw_87 d_RE_carryTiltTo_17 ?_
      refine P_iload_n 1 d_RE_carryTiltTo_20 rfl rfl ?_
      refine P_iconst d_RE_carryTiltTo_21 ?_
      refine P_isub d_RE_carryTiltTo_22 ?_
      obtain ⟨b1, hF⟩ := hF
      refine L_8 d_RE_carryTiltTo_23 b1 (fun i2 => ?_)
      obtain ⟨b3, hF⟩ := hF
      refine T_8 d_RE_carryTiltTo_24 b3 i2 ?_
      exact P_vret d_RE_carryTiltTo_25 rfl hF
theorem F_RE_tiltMove_0 (v1 v2 : Int) (g1 : InR v1) (g2 : InR v2) (hF : ((v1 < v2 → Q (some (vI 0)) h) ∧ (v2 ≤ v1 → (0 ≤ v1 ∧ v1 < 1000) ∧ (((h 8 v1) = (-1000005) → Q (some (vI 0)) h) ∧ (¬ (h 8 v1) = (-1000005) → (0 ≤ (v1 - v2) ∧ (v1 - v2) < 1000) ∧ ((¬ (h 8 (v1 - v2)) = (-1000005) → (0 ≤ v1 ∧ v1 < 1000) ∧ (0 ≤ (v1 - v2) ∧ (v1 - v2) < 1000) ∧ (InR ((h 8 v1) - (h 8 (v1 - v2)))) ∧ Q (some (vI (if 0 ≤ ((h 8 v1) - (h 8 (v1 - v2))) then ((h 8 v1) - (h 8 (v1 - v2))) else -((h 8 v1) - (h 8 (v1 - v2)))))) h) ∧ ((h 8 (v1 - v2)) = (-1000005) → Q (some (vI 0)) h))))))) : WP D ad ca sc M_RE_tiltMove 0 [(0, .ref (ad 7)), (1, vI v1), (2, vI v2)] [] h Q := by
  refine P_iload_n 1 d_RE_tiltMove_0 rfl rfl ?_
  refine P_iload_n 2 d_RE_tiltMove_1 rfl rfl ?_
  refine P_icmp_lt 29 d_RE_tiltMove_2 (by decide) g1 g2 (fun c => ?_) (fun c => ?_)
  · have hF := hF.1 c
    refine P_iconst d_RE_tiltMove_29 ?_
    exact P_iret d_RE_tiltMove_30 rfl hF
  · have hF := hF.2 (Int.not_lt.mp c)
    refine P_aload_n 0 d_RE_tiltMove_5 rfl rfl ?_
    refine G_RE_tilts tw_87 d_RE_tiltMove_6 ?_
    refine P_iload_n 1 d_RE_tiltMove_9 rfl rfl ?_
    obtain ⟨b1, hF⟩ := hF
    refine L_8 d_RE_tiltMove_10 b1 (fun i2 => ?_)
    refine P_ldc (n := (-1000005)) tw_86 (by decide) d_RE_tiltMove_11 ?_
    refine P_icmp_eq 29 d_RE_tiltMove_13 (by decide) i2 ⟨by decide, by decide⟩ (fun c => ?_) (fun c => ?_)
    · have hF := hF.1 c
      refine P_iconst d_RE_tiltMove_29 ?_
      exact P_iret d_RE_tiltMove_30 rfl hF
    · have hF := hF.2 c
      refine P_aload_n 0 d_RE_tiltMove_16 rfl rfl ?_
      refine G_RE_tilts tw_87 d_RE_tiltMove_17 ?_
      refine P_iload_n 1 d_RE_tiltMove_20 rfl rfl ?_
      refine P_iload_n 2 d_RE_tiltMove_21 rfl rfl ?_
      refine P_isub d_RE_tiltMove_22 ?_
      obtain ⟨b3, hF⟩ := hF
      refine L_8 d_RE_tiltMove_23 b3 (fun i4 => ?_)
      refine P_ldc (n := (-1000005)) tw_86 (by decide) d_RE_tiltMove_24 ?_
      refine P_icmp_ne 31 d_RE_tiltMove_26 (by decide) i4 ⟨by decide, by decide⟩ (fun c => ?_) (fun c => ?_)
      · have hF := hF.1 c
        refine P_aload_n 0 d_RE_tiltMove_31 rfl rfl ?_
        refine G_RE_tilts tw_87 d_RE_tiltMove_32 ?_
        refine P_iload_n 1 d_RE_tiltMove_35 rfl rfl ?_
        obtain ⟨b5, hF⟩ := hF
        refine L_8 d_RE_tiltMove_36 b5 (fun i6 => ?_)
        refine P_aload_n 0 d_RE_tiltMove_37 rfl rfl ?_
        refine G_RE_tilts tw_87 d_RE_tiltMove_38 ?_
        refine P_iload_n 1 d_RE_tiltMove_41 rfl rfl ?_
        refine P_iload_n 2 d_RE_tiltMove_42 rfl rfl ?_
        refine P_isub d_RE_tiltMove_43 ?_
        obtain ⟨b7, hF⟩ := hF
        refine L_8 d_RE_tiltMove_44 b7 (fun i8 => ?_)
        refine P_isub d_RE_tiltMove_45 ?_
        obtain ⟨b9, hF⟩ := hF
        refine V_Math_abs tw_389 d_RE_tiltMove_46 (by decide) (Nat.le_of_ble_eq_true rfl) b9 ?_
        exact P_iret d_RE_tiltMove_49 rfl hF
      · have hF := hF.2 c
        refine P_iconst d_RE_tiltMove_29 ?_
        exact P_iret d_RE_tiltMove_30 rfl hF
theorem F_RE_gasOfDays_0 (v1 v2 : Int) (g1 : InR v1) (g2 : InR v2) (hF : WP D ad ca sc M_RE_gasOfDays 5 [(0, .ref (ad 7)), (2, vI v2), (3, vI 0), (4, vI v1)] [] h Q) : WP D ad ca sc M_RE_gasOfDays 0 [(0, .ref (ad 7)), (1, vI v1), (2, vI v2)] [] h Q := by
  refine P_iconst d_RE_gasOfDays_0 ?_
  refine P_istore_n (lv' := [(0, .ref (ad 7)), (1, vI v1), (2, vI v2), (3, vI 0)]) [1, 2, 3, 0] d_RE_gasOfDays_1 rfl (by decide) rfl ?_
  refine P_iload_n 1 d_RE_gasOfDays_2 rfl rfl ?_
  refine P_istore (lv' := [(0, .ref (ad 7)), (1, vI v1), (2, vI v2), (3, vI 0), (4, vI v1)]) [1, 2, 3, 4, 0] d_RE_gasOfDays_3 (by decide) rfl ?_
  refine P_sub (lv' := [(0, .ref (ad 7)), (2, vI v2), (3, vI 0), (4, vI v1)]) [0, 2, 3, 4] rfl ?_
  exact hF
theorem F_RE_gasOfDays_5 (v2 v3 v4 : Int) (g2 : InR v2) (g3 : InR v3) (g4 : InR v4) (hF : ((v2 < v4 → Q (some (vI v3)) h) ∧ (v4 ≤ v2 → (0 ≤ v4 ∧ v4 < 1000) ∧ WP D ad ca sc M_RE_gasOfDays 5 [(0, .ref (ad 7)), (2, vI v2), (3, vI (v3 + (h 9 v4))), (4, vI (v4 + 1))] [] h Q))) : WP D ad ca sc M_RE_gasOfDays 5 [(0, .ref (ad 7)), (2, vI v2), (3, vI v3), (4, vI v4)] [] h Q := by
  refine P_iload 3 d_RE_gasOfDays_5 rfl ?_
  refine P_iload_n 1 d_RE_gasOfDays_7 rfl rfl ?_
  refine P_icmp_gt 27 d_RE_gasOfDays_8 (by decide) g4 g2 (fun c => ?_) (fun c => ?_)
  · have hF := hF.1 c
    refine P_iload_n 2 d_RE_gasOfDays_27 rfl rfl ?_
    exact P_iret d_RE_gasOfDays_28 rfl hF
  · have hF := hF.2 (Int.not_lt.mp c)
    refine P_iload_n 2 d_RE_gasOfDays_11 rfl rfl ?_
    refine P_aload_n 0 d_RE_gasOfDays_12 rfl rfl ?_
    refine G_RE_gases tw_89 d_RE_gasOfDays_13 ?_
    refine P_iload 3 d_RE_gasOfDays_16 rfl ?_
    obtain ⟨b1, hF⟩ := hF
    refine L_9 d_RE_gasOfDays_18 b1 (fun i2 => ?_)
    refine P_iadd d_RE_gasOfDays_19 ?_
    refine P_istore_n (lv' := [(0, .ref (ad 7)), (2, vI v2), (3, vI (v3 + (h 9 v4))), (4, vI v4)]) [1, 2, 0, 3] d_RE_gasOfDays_20 rfl (by decide) rfl ?_
    refine P_iinc (lv' := [(0, .ref (ad 7)), (2, vI v2), (3, vI (v3 + (h 9 v4))), (4, vI (v4 + 1))]) 3 [1, 2, 3, 0] d_RE_gasOfDays_21 rfl (by decide) rfl ?_
    refine P_goto 5 d_RE_gasOfDays_24 (by decide) ?_
    refine P_sub (lv' := [(0, .ref (ad 7)), (2, vI v2), (3, vI (v3 + (h 9 v4))), (4, vI (v4 + 1))]) [0, 1, 2, 3] rfl ?_
    exact hF
end Sfsmall
