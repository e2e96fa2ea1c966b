theorem d_MO_told_0 : decode M_MO_told.2.1 0 = .ok (.iload_n 1, 1) := by decide +kernel
theorem d_MO_told_1 : decode M_MO_told.2.1 1 = .ok (.tableswitch 114 0 10 #[59, 64, 69, 74, 79, 84, 89, 94, 99, 104, 109], 59) := by decide +kernel
theorem d_MO_told_60 : decode M_MO_told.2.1 60 = .ok (.aload_n 0, 1) := by decide +kernel
theorem d_MO_told_61 : decode M_MO_told.2.1 61 = .ok (.getfield 84, 3) := by decide +kernel
theorem d_MO_told_64 : decode M_MO_told.2.1 64 = .ok (.ireturn, 1) := by decide +kernel
theorem d_MO_told_65 : decode M_MO_told.2.1 65 = .ok (.aload_n 0, 1) := by decide +kernel
theorem d_MO_told_66 : decode M_MO_told.2.1 66 = .ok (.getfield 150, 3) := by decide +kernel
theorem d_MO_told_69 : decode M_MO_told.2.1 69 = .ok (.ireturn, 1) := by decide +kernel
theorem d_MO_told_70 : decode M_MO_told.2.1 70 = .ok (.aload_n 0, 1) := by decide +kernel
theorem d_MO_told_71 : decode M_MO_told.2.1 71 = .ok (.getfield 153, 3) := by decide +kernel
theorem d_MO_told_74 : decode M_MO_told.2.1 74 = .ok (.ireturn, 1) := by decide +kernel
theorem d_MO_told_75 : decode M_MO_told.2.1 75 = .ok (.aload_n 0, 1) := by decide +kernel
theorem d_MO_told_76 : decode M_MO_told.2.1 76 = .ok (.invokevirtual 163, 3) := by decide +kernel
theorem d_MO_told_79 : decode M_MO_told.2.1 79 = .ok (.ireturn, 1) := by decide +kernel
theorem d_MO_told_80 : decode M_MO_told.2.1 80 = .ok (.aload_n 0, 1) := by decide +kernel
theorem d_MO_told_81 : decode M_MO_told.2.1 81 = .ok (.getfield 156, 3) := by decide +kernel
theorem d_MO_told_84 : decode M_MO_told.2.1 84 = .ok (.ireturn, 1) := by decide +kernel
theorem d_MO_told_85 : decode M_MO_told.2.1 85 = .ok (.aload_n 0, 1) := by decide +kernel
theorem d_MO_told_86 : decode M_MO_told.2.1 86 = .ok (.getfield 172, 3) := by decide +kernel
theorem d_MO_told_89 : decode M_MO_told.2.1 89 = .ok (.ireturn, 1) := by decide +kernel
theorem d_MO_told_90 : decode M_MO_told.2.1 90 = .ok (.aload_n 0, 1) := by decide +kernel
theorem d_MO_told_91 : decode M_MO_told.2.1 91 = .ok (.invokevirtual 143, 3) := by decide +kernel
theorem d_MO_told_94 : decode M_MO_told.2.1 94 = .ok (.ireturn, 1) := by decide +kernel
theorem d_MO_told_95 : decode M_MO_told.2.1 95 = .ok (.aload_n 0, 1) := by decide +kernel
theorem d_MO_told_96 : decode M_MO_told.2.1 96 = .ok (.getfield 73, 3) := by decide +kernel
theorem d_MO_told_99 : decode M_MO_told.2.1 99 = .ok (.ireturn, 1) := by decide +kernel
theorem d_MO_told_100 : decode M_MO_told.2.1 100 = .ok (.aload_n 0, 1) := by decide +kernel
theorem d_MO_told_101 : decode M_MO_told.2.1 101 = .ok (.getfield 120, 3) := by decide +kernel
theorem d_MO_told_104 : decode M_MO_told.2.1 104 = .ok (.ireturn, 1) := by decide +kernel
theorem d_MO_told_105 : decode M_MO_told.2.1 105 = .ok (.aload_n 0, 1) := by decide +kernel
theorem d_MO_told_106 : decode M_MO_told.2.1 106 = .ok (.getfield 51, 3) := by decide +kernel
theorem d_MO_told_109 : decode M_MO_told.2.1 109 = .ok (.ireturn, 1) := by decide +kernel
theorem d_MO_told_110 : decode M_MO_told.2.1 110 = .ok (.aload_n 0, 1) := by decide +kernel
theorem d_MO_told_111 : decode M_MO_told.2.1 111 = .ok (.getfield 169, 3) := by decide +kernel
theorem d_MO_told_114 : decode M_MO_told.2.1 114 = .ok (.ireturn, 1) := by decide +kernel
theorem d_MO_told_115 : decode M_MO_told.2.1 115 = .ok (.bipush (-2), 2) := by decide +kernel
theorem d_MO_told_117 : decode M_MO_told.2.1 117 = .ok (.ireturn, 1) := by decide +kernel
theorem d_MO_isNode_0 : decode M_MO_isNode.2.1 0 = .ok (.iload_n 1, 1) := by decide +kernel
theorem d_MO_isNode_1 : decode M_MO_isNode.2.1 1 = .ok (.iconst 0, 1) := by decide +kernel
theorem d_MO_isNode_2 : decode M_MO_isNode.2.1 2 = .ok (.aload_n 0, 1) := by decide +kernel
theorem d_MO_isNode_3 : decode M_MO_isNode.2.1 3 = .ok (.getfield 51, 3) := by decide +kernel
theorem d_MO_isNode_6 : decode M_MO_isNode.2.1 6 = .ok (.iconst 1, 1) := by decide +kernel
theorem d_MO_isNode_7 : decode M_MO_isNode.2.1 7 = .ok (.isub, 1) := by decide +kernel
theorem d_MO_isNode_8 : decode M_MO_isNode.2.1 8 = .ok (.invokestatic 76, 3) := by decide +kernel
theorem d_MO_isNode_11 : decode M_MO_isNode.2.1 11 = .ok (.ireturn, 1) := by decide +kernel
theorem d_MO_children_0 : decode M_MO_children.2.1 0 = .ok (.iconst 0, 1) := by decide +kernel
theorem d_MO_children_1 : decode M_MO_children.2.1 1 = .ok (.istore_n 2, 1) := by decide +kernel
theorem d_MO_children_2 : decode M_MO_children.2.1 2 = .ok (.iconst 1, 1) := by decide +kernel
theorem d_MO_children_3 : decode M_MO_children.2.1 3 = .ok (.istore_n 3, 1) := by decide +kernel
theorem d_MO_children_4 : decode M_MO_children.2.1 4 = .ok (.iload_n 3, 1) := by decide +kernel
theorem d_MO_children_5 : decode M_MO_children.2.1 5 = .ok (.aload_n 0, 1) := by decide +kernel
theorem d_MO_children_6 : decode M_MO_children.2.1 6 = .ok (.getfield 51, 3) := by decide +kernel
theorem d_MO_children_9 : decode M_MO_children.2.1 9 = .ok (.if_icmp .ge 27, 3) := by decide +kernel
theorem d_MO_children_12 : decode M_MO_children.2.1 12 = .ok (.iload_n 2, 1) := by decide +kernel
theorem d_MO_children_13 : decode M_MO_children.2.1 13 = .ok (.aload_n 0, 1) := by decide +kernel
theorem d_MO_children_14 : decode M_MO_children.2.1 14 = .ok (.getfield 54, 3) := by decide +kernel
theorem d_MO_children_17 : decode M_MO_children.2.1 17 = .ok (.iload_n 3, 1) := by decide +kernel
theorem d_MO_children_18 : decode M_MO_children.2.1 18 = .ok (.iaload, 1) := by decide +kernel
theorem d_MO_children_19 : decode M_MO_children.2.1 19 = .ok (.iload_n 1, 1) := by decide +kernel
theorem d_MO_children_20 : decode M_MO_children.2.1 20 = .ok (.if_icmp .ne 7, 3) := by decide +kernel
theorem d_MO_children_23 : decode M_MO_children.2.1 23 = .ok (.iconst 1, 1) := by decide +kernel
theorem d_MO_children_24 : decode M_MO_children.2.1 24 = .ok (.goto 4, 3) := by decide +kernel
theorem d_MO_children_27 : decode M_MO_children.2.1 27 = .ok (.iconst 0, 1) := by decide +kernel
theorem d_MO_children_28 : decode M_MO_children.2.1 28 = .ok (.iadd, 1) := by decide +kernel
theorem d_MO_children_29 : decode M_MO_children.2.1 29 = .ok (.istore_n 2, 1) := by decide +kernel
theorem d_MO_children_30 : decode M_MO_children.2.1 30 = .ok (.iinc 3 1, 3) := by decide +kernel
theorem d_MO_children_33 : decode M_MO_children.2.1 33 = .ok (.goto (-29), 3) := by decide +kernel
theorem d_MO_children_36 : decode M_MO_children.2.1 36 = .ok (.iload_n 2, 1) := by decide +kernel
theorem d_MO_children_37 : decode M_MO_children.2.1 37 = .ok (.ireturn, 1) := by decide +kernel
theorem d_MO_depth_0 : decode M_MO_depth.2.1 0 = .ok (.iconst 0, 1) := by decide +kernel
theorem d_MO_depth_1 : decode M_MO_depth.2.1 1 = .ok (.istore_n 2, 1) := by decide +kernel
theorem d_MO_depth_2 : decode M_MO_depth.2.1 2 = .ok (.iload_n 1, 1) := by decide +kernel
theorem d_MO_depth_3 : decode M_MO_depth.2.1 3 = .ok (.istore_n 3, 1) := by decide +kernel
theorem d_MO_depth_4 : decode M_MO_depth.2.1 4 = .ok (.iload_n 3, 1) := by decide +kernel
theorem d_MO_depth_5 : decode M_MO_depth.2.1 5 = .ok (.ifCond .le 16, 3) := by decide +kernel
theorem d_MO_depth_8 : decode M_MO_depth.2.1 8 = .ok (.iinc 2 1, 3) := by decide +kernel
theorem d_MO_depth_11 : decode M_MO_depth.2.1 11 = .ok (.aload_n 0, 1) := by decide +kernel
theorem d_MO_depth_12 : decode M_MO_depth.2.1 12 = .ok (.getfield 54, 3) := by decide +kernel
theorem d_MO_depth_15 : decode M_MO_depth.2.1 15 = .ok (.iload_n 3, 1) := by decide +kernel
theorem d_MO_depth_16 : decode M_MO_depth.2.1 16 = .ok (.iaload, 1) := by decide +kernel
theorem d_MO_depth_17 : decode M_MO_depth.2.1 17 = .ok (.istore_n 3, 1) := by decide +kernel
theorem d_MO_depth_18 : decode M_MO_depth.2.1 18 = .ok (.goto (-14), 3) := by decide +kernel
theorem d_MO_depth_21 : decode M_MO_depth.2.1 21 = .ok (.iload_n 2, 1) := by decide +kernel
theorem d_MO_depth_22 : decode M_MO_depth.2.1 22 = .ok (.ireturn, 1) := by decide +kernel
theorem d_MO_isShare_0 : decode M_MO_isShare.2.1 0 = .ok (.iload_n 0, 1) := by decide +kernel
theorem d_MO_isShare_1 : decode M_MO_isShare.2.1 1 = .ok (.iconst 0, 1) := by decide +kernel
theorem d_MO_isShare_2 : decode M_MO_isShare.2.1 2 = .ok (.bipush 100, 2) := by decide +kernel
theorem d_MO_isShare_4 : decode M_MO_isShare.2.1 4 = .ok (.invokestatic 76, 3) := by decide +kernel
theorem d_MO_isShare_7 : decode M_MO_isShare.2.1 7 = .ok (.ifCond .eq 17, 3) := by decide +kernel
theorem d_MO_isShare_10 : decode M_MO_isShare.2.1 10 = .ok (.iload_n 1, 1) := by decide +kernel
theorem d_MO_isShare_11 : decode M_MO_isShare.2.1 11 = .ok (.iload_n 0, 1) := by decide +kernel
theorem d_MO_isShare_12 : decode M_MO_isShare.2.1 12 = .ok (.bipush 100, 2) := by decide +kernel
theorem d_MO_isShare_14 : decode M_MO_isShare.2.1 14 = .ok (.invokestatic 76, 3) := by decide +kernel
theorem d_MO_isShare_17 : decode M_MO_isShare.2.1 17 = .ok (.ifCond .eq 7, 3) := by decide +kernel
theorem d_MO_isShare_20 : decode M_MO_isShare.2.1 20 = .ok (.iconst 1, 1) := by decide +kernel
theorem d_MO_isShare_21 : decode M_MO_isShare.2.1 21 = .ok (.goto 4, 3) := by decide +kernel
theorem d_MO_isShare_24 : decode M_MO_isShare.2.1 24 = .ok (.iconst 0, 1) := by decide +kernel
theorem d_MO_isShare_25 : decode M_MO_isShare.2.1 25 = .ok (.ireturn, 1) := by decide +kernel
theorem d_MO_node_0 : decode M_MO_node.2.1 0 = .ok (.aload_n 0, 1) := by decide +kernel
theorem d_MO_node_1 : decode M_MO_node.2.1 1 = .ok (.iload_n 1, 1) := by decide +kernel
theorem d_MO_node_2 : decode M_MO_node.2.1 2 = .ok (.invokevirtual 175, 3) := by decide +kernel
theorem d_MO_node_5 : decode M_MO_node.2.1 5 = .ok (.ifCond .ne 5, 3) := by decide +kernel
theorem d_MO_node_8 : decode M_MO_node.2.1 8 = .ok (.iconst (-1), 1) := by decide +kernel
theorem d_MO_node_9 : decode M_MO_node.2.1 9 = .ok (.ireturn, 1) := by decide +kernel
theorem d_MO_node_10 : decode M_MO_node.2.1 10 = .ok (.iload_n 2, 1) := by decide +kernel
theorem d_MO_node_11 : decode M_MO_node.2.1 11 = .ok (.iload_n 3, 1) := by decide +kernel
theorem d_MO_node_12 : decode M_MO_node.2.1 12 = .ok (.invokestatic 178, 3) := by decide +kernel
theorem d_MO_node_15 : decode M_MO_node.2.1 15 = .ok (.ifCond .ne 6, 3) := by decide +kernel
theorem d_MO_node_18 : decode M_MO_node.2.1 18 = .ok (.bipush (-2), 2) := by decide +kernel
theorem d_MO_node_20 : decode M_MO_node.2.1 20 = .ok (.ireturn, 1) := by decide +kernel
theorem d_MO_node_21 : decode M_MO_node.2.1 21 = .ok (.aload_n 0, 1) := by decide +kernel
theorem d_MO_node_22 : decode M_MO_node.2.1 22 = .ok (.getfield 51, 3) := by decide +kernel
theorem d_MO_node_25 : decode M_MO_node.2.1 25 = .ok (.bipush 24, 2) := by decide +kernel
theorem d_MO_node_27 : decode M_MO_node.2.1 27 = .ok (.if_icmp .ne 6, 3) := by decide +kernel
theorem d_MO_node_30 : decode M_MO_node.2.1 30 = .ok (.bipush (-4), 2) := by decide +kernel
theorem d_MO_node_32 : decode M_MO_node.2.1 32 = .ok (.ireturn, 1) := by decide +kernel
theorem d_MO_node_33 : decode M_MO_node.2.1 33 = .ok (.aload_n 0, 1) := by decide +kernel
theorem d_MO_node_34 : decode M_MO_node.2.1 34 = .ok (.iload_n 1, 1) := by decide +kernel
theorem d_MO_node_35 : decode M_MO_node.2.1 35 = .ok (.invokevirtual 181, 3) := by decide +kernel
theorem d_MO_node_38 : decode M_MO_node.2.1 38 = .ok (.iconst 4, 1) := by decide +kernel
theorem d_MO_node_39 : decode M_MO_node.2.1 39 = .ok (.if_icmp .eq 13, 3) := by decide +kernel
theorem d_MO_node_42 : decode M_MO_node.2.1 42 = .ok (.aload_n 0, 1) := by decide +kernel
theorem d_MO_node_43 : decode M_MO_node.2.1 43 = .ok (.iload_n 1, 1) := by decide +kernel
theorem d_MO_node_44 : decode M_MO_node.2.1 44 = .ok (.invokevirtual 184, 3) := by decide +kernel
theorem d_MO_node_47 : decode M_MO_node.2.1 47 = .ok (.bipush 6, 2) := by decide +kernel
theorem d_MO_node_49 : decode M_MO_node.2.1 49 = .ok (.if_icmp .ne 6, 3) := by decide +kernel
theorem d_MO_node_52 : decode M_MO_node.2.1 52 = .ok (.bipush (-5), 2) := by decide +kernel
theorem d_MO_node_54 : decode M_MO_node.2.1 54 = .ok (.ireturn, 1) := by decide +kernel
theorem d_MO_node_55 : decode M_MO_node.2.1 55 = .ok (.aload_n 0, 1) := by decide +kernel
theorem d_MO_node_56 : decode M_MO_node.2.1 56 = .ok (.getfield 54, 3) := by decide +kernel
theorem d_MO_node_59 : decode M_MO_node.2.1 59 = .ok (.aload_n 0, 1) := by decide +kernel
theorem d_MO_node_60 : decode M_MO_node.2.1 60 = .ok (.getfield 51, 3) := by decide +kernel
theorem d_MO_node_63 : decode M_MO_node.2.1 63 = .ok (.iload_n 1, 1) := by decide +kernel
theorem d_MO_node_64 : decode M_MO_node.2.1 64 = .ok (.iastore, 1) := by decide +kernel
theorem d_MO_node_65 : decode M_MO_node.2.1 65 = .ok (.aload_n 0, 1) := by decide +kernel
theorem d_MO_node_66 : decode M_MO_node.2.1 66 = .ok (.getfield 57, 3) := by decide +kernel
theorem d_MO_node_69 : decode M_MO_node.2.1 69 = .ok (.aload_n 0, 1) := by decide +kernel
theorem d_MO_node_70 : decode M_MO_node.2.1 70 = .ok (.getfield 51, 3) := by decide +kernel
theorem d_MO_node_73 : decode M_MO_node.2.1 73 = .ok (.iload_n 2, 1) := by decide +kernel
theorem d_MO_node_74 : decode M_MO_node.2.1 74 = .ok (.iastore, 1) := by decide +kernel
theorem d_MO_node_75 : decode M_MO_node.2.1 75 = .ok (.aload_n 0, 1) := by decide +kernel
theorem d_MO_node_76 : decode M_MO_node.2.1 76 = .ok (.getfield 60, 3) := by decide +kernel
theorem d_MO_node_79 : decode M_MO_node.2.1 79 = .ok (.aload_n 0, 1) := by decide +kernel
theorem d_MO_node_80 : decode M_MO_node.2.1 80 = .ok (.getfield 51, 3) := by decide +kernel
theorem d_MO_node_83 : decode M_MO_node.2.1 83 = .ok (.iload_n 3, 1) := by decide +kernel
theorem d_MO_node_84 : decode M_MO_node.2.1 84 = .ok (.iastore, 1) := by decide +kernel
theorem d_MO_node_85 : decode M_MO_node.2.1 85 = .ok (.aload_n 0, 1) := by decide +kernel
theorem d_MO_node_86 : decode M_MO_node.2.1 86 = .ok (.getfield 63, 3) := by decide +kernel
theorem d_MO_node_89 : decode M_MO_node.2.1 89 = .ok (.aload_n 0, 1) := by decide +kernel
theorem d_MO_node_90 : decode M_MO_node.2.1 90 = .ok (.getfield 51, 3) := by decide +kernel
theorem d_MO_node_93 : decode M_MO_node.2.1 93 = .ok (.iconst 0, 1) := by decide +kernel
theorem d_MO_node_94 : decode M_MO_node.2.1 94 = .ok (.bastore, 1) := by decide +kernel
theorem d_MO_node_95 : decode M_MO_node.2.1 95 = .ok (.aload_n 0, 1) := by decide +kernel
theorem d_MO_node_96 : decode M_MO_node.2.1 96 = .ok (.dup, 1) := by decide +kernel
theorem d_MO_node_97 : decode M_MO_node.2.1 97 = .ok (.getfield 51, 3) := by decide +kernel
theorem d_MO_node_100 : decode M_MO_node.2.1 100 = .ok (.iconst 1, 1) := by decide +kernel
theorem d_MO_node_101 : decode M_MO_node.2.1 101 = .ok (.iadd, 1) := by decide +kernel
theorem d_MO_node_102 : decode M_MO_node.2.1 102 = .ok (.putfield 51, 3) := by decide +kernel
theorem d_MO_node_105 : decode M_MO_node.2.1 105 = .ok (.aload_n 0, 1) := by decide +kernel
theorem d_MO_node_106 : decode M_MO_node.2.1 106 = .ok (.getfield 51, 3) := by decide +kernel
theorem d_MO_node_109 : decode M_MO_node.2.1 109 = .ok (.iconst 1, 1) := by decide +kernel
theorem d_MO_node_110 : decode M_MO_node.2.1 110 = .ok (.isub, 1) := by decide +kernel
theorem d_MO_node_111 : decode M_MO_node.2.1 111 = .ok (.ireturn, 1) := by decide +kernel
theorem d_MO_share_0 : decode M_MO_share.2.1 0 = .ok (.iload_n 1, 1) := by decide +kernel
theorem d_MO_share_1 : decode M_MO_share.2.1 1 = .ok (.ifCond .eq 11, 3) := by decide +kernel
theorem d_MO_share_4 : decode M_MO_share.2.1 4 = .ok (.aload_n 0, 1) := by decide +kernel
theorem d_MO_share_5 : decode M_MO_share.2.1 5 = .ok (.iload_n 1, 1) := by decide +kernel
theorem d_MO_share_6 : decode M_MO_share.2.1 6 = .ok (.invokevirtual 175, 3) := by decide +kernel
theorem d_MO_share_9 : decode M_MO_share.2.1 9 = .ok (.ifCond .ne 5, 3) := by decide +kernel
theorem d_MO_share_12 : decode M_MO_share.2.1 12 = .ok (.iconst (-1), 1) := by decide +kernel
theorem d_MO_share_13 : decode M_MO_share.2.1 13 = .ok (.ireturn, 1) := by decide +kernel
theorem d_MO_share_14 : decode M_MO_share.2.1 14 = .ok (.iload_n 2, 1) := by decide +kernel
theorem d_MO_share_15 : decode M_MO_share.2.1 15 = .ok (.iload_n 3, 1) := by decide +kernel
theorem d_MO_share_16 : decode M_MO_share.2.1 16 = .ok (.invokestatic 178, 3) := by decide +kernel
theorem d_MO_share_19 : decode M_MO_share.2.1 19 = .ok (.ifCond .ne 6, 3) := by decide +kernel
theorem d_MO_share_22 : decode M_MO_share.2.1 22 = .ok (.bipush (-2), 2) := by decide +kernel
theorem d_MO_share_24 : decode M_MO_share.2.1 24 = .ok (.ireturn, 1) := by decide +kernel
theorem d_MO_share_25 : decode M_MO_share.2.1 25 = .ok (.aload_n 0, 1) := by decide +kernel
theorem d_MO_share_26 : decode M_MO_share.2.1 26 = .ok (.getfield 57, 3) := by decide +kernel
theorem d_MO_share_29 : decode M_MO_share.2.1 29 = .ok (.iload_n 1, 1) := by decide +kernel
theorem d_MO_share_30 : decode M_MO_share.2.1 30 = .ok (.iload_n 2, 1) := by decide +kernel
theorem d_MO_share_31 : decode M_MO_share.2.1 31 = .ok (.iastore, 1) := by decide +kernel
theorem d_MO_share_32 : decode M_MO_share.2.1 32 = .ok (.aload_n 0, 1) := by decide +kernel
theorem d_MO_share_33 : decode M_MO_share.2.1 33 = .ok (.getfield 60, 3) := by decide +kernel
theorem d_MO_share_36 : decode M_MO_share.2.1 36 = .ok (.iload_n 1, 1) := by decide +kernel
theorem d_MO_share_37 : decode M_MO_share.2.1 37 = .ok (.iload_n 3, 1) := by decide +kernel
theorem d_MO_share_38 : decode M_MO_share.2.1 38 = .ok (.iastore, 1) := by decide +kernel
theorem d_MO_share_39 : decode M_MO_share.2.1 39 = .ok (.iconst 1, 1) := by decide +kernel
theorem d_MO_share_40 : decode M_MO_share.2.1 40 = .ok (.ireturn, 1) := by decide +kernel
theorem d_MO_fear_0 : decode M_MO_fear.2.1 0 = .ok (.aload_n 0, 1) := by decide +kernel
theorem d_MO_fear_1 : decode M_MO_fear.2.1 1 = .ok (.iload_n 1, 1) := by decide +kernel
theorem d_MO_fear_2 : decode M_MO_fear.2.1 2 = .ok (.invokevirtual 175, 3) := by decide +kernel
theorem d_MO_fear_5 : decode M_MO_fear.2.1 5 = .ok (.ifCond .ne 5, 3) := by decide +kernel
theorem d_MO_fear_8 : decode M_MO_fear.2.1 8 = .ok (.iconst (-1), 1) := by decide +kernel
theorem d_MO_fear_9 : decode M_MO_fear.2.1 9 = .ok (.ireturn, 1) := by decide +kernel
theorem d_MO_fear_10 : decode M_MO_fear.2.1 10 = .ok (.aload_n 0, 1) := by decide +kernel
theorem d_MO_fear_11 : decode M_MO_fear.2.1 11 = .ok (.getfield 63, 3) := by decide +kernel
theorem d_MO_fear_14 : decode M_MO_fear.2.1 14 = .ok (.iload_n 1, 1) := by decide +kernel
theorem d_MO_fear_15 : decode M_MO_fear.2.1 15 = .ok (.baload, 1) := by decide +kernel
theorem d_MO_fear_16 : decode M_MO_fear.2.1 16 = .ok (.ifCond .eq 7, 3) := by decide +kernel
theorem d_MO_fear_19 : decode M_MO_fear.2.1 19 = .ok (.iconst 1, 1) := by decide +kernel
theorem d_MO_fear_20 : decode M_MO_fear.2.1 20 = .ok (.goto 4, 3) := by decide +kernel
theorem d_MO_fear_23 : decode M_MO_fear.2.1 23 = .ok (.iconst 0, 1) := by decide +kernel
theorem d_MO_fear_24 : decode M_MO_fear.2.1 24 = .ok (.istore_n 3, 1) := by decide +kernel
theorem d_MO_fear_25 : decode M_MO_fear.2.1 25 = .ok (.aload_n 0, 1) := by decide +kernel
theorem d_MO_fear_26 : decode M_MO_fear.2.1 26 = .ok (.getfield 63, 3) := by decide +kernel
theorem d_MO_fear_29 : decode M_MO_fear.2.1 29 = .ok (.iload_n 1, 1) := by decide +kernel
theorem d_MO_fear_30 : decode M_MO_fear.2.1 30 = .ok (.iload_n 2, 1) := by decide +kernel
theorem d_MO_fear_31 : decode M_MO_fear.2.1 31 = .ok (.bastore, 1) := by decide +kernel
theorem d_MO_fear_32 : decode M_MO_fear.2.1 32 = .ok (.iload_n 3, 1) := by decide +kernel
theorem d_MO_fear_33 : decode M_MO_fear.2.1 33 = .ok (.ireturn, 1) := by decide +kernel
theorem d_MO_bounds_0 : decode M_MO_bounds.2.1 0 = .ok (.iconst 0, 1) := by decide +kernel
theorem d_MO_bounds_1 : decode M_MO_bounds.2.1 1 = .ok (.istore_n 3, 1) := by decide +kernel
theorem d_MO_bounds_2 : decode M_MO_bounds.2.1 2 = .ok (.iconst 1, 1) := by decide +kernel
theorem d_MO_bounds_3 : decode M_MO_bounds.2.1 3 = .ok (.istore 4, 2) := by decide +kernel
theorem d_MO_bounds_5 : decode M_MO_bounds.2.1 5 = .ok (.iload 4, 2) := by decide +kernel
theorem d_MO_bounds_7 : decode M_MO_bounds.2.1 7 = .ok (.aload_n 0, 1) := by decide +kernel
theorem d_MO_bounds_8 : decode M_MO_bounds.2.1 8 = .ok (.getfield 51, 3) := by decide +kernel
theorem d_MO_bounds_11 : decode M_MO_bounds.2.1 11 = .ok (.if_icmp .ge 31, 3) := by decide +kernel
theorem d_MO_bounds_14 : decode M_MO_bounds.2.1 14 = .ok (.iload_n 3, 1) := by decide +kernel
theorem d_MO_bounds_15 : decode M_MO_bounds.2.1 15 = .ok (.aload_n 0, 1) := by decide +kernel
theorem d_MO_bounds_16 : decode M_MO_bounds.2.1 16 = .ok (.getfield 54, 3) := by decide +kernel
theorem d_MO_bounds_19 : decode M_MO_bounds.2.1 19 = .ok (.iload 4, 2) := by decide +kernel
theorem d_MO_bounds_21 : decode M_MO_bounds.2.1 21 = .ok (.iaload, 1) := by decide +kernel
theorem d_MO_bounds_22 : decode M_MO_bounds.2.1 22 = .ok (.iload_n 1, 1) := by decide +kernel
theorem d_MO_bounds_23 : decode M_MO_bounds.2.1 23 = .ok (.if_icmp .ne 10, 3) := by decide +kernel
theorem d_MO_bounds_26 : decode M_MO_bounds.2.1 26 = .ok (.aload_n 2, 1) := by decide +kernel
theorem d_MO_bounds_27 : decode M_MO_bounds.2.1 27 = .ok (.iload 4, 2) := by decide +kernel
theorem d_MO_bounds_29 : decode M_MO_bounds.2.1 29 = .ok (.iaload, 1) := by decide +kernel
theorem d_MO_bounds_30 : decode M_MO_bounds.2.1 30 = .ok (.goto 4, 3) := by decide +kernel
theorem d_MO_bounds_33 : decode M_MO_bounds.2.1 33 = .ok (.iconst 0, 1) := by decide +kernel
theorem d_MO_bounds_34 : decode M_MO_bounds.2.1 34 = .ok (.iadd, 1) := by decide +kernel
theorem d_MO_bounds_35 : decode M_MO_bounds.2.1 35 = .ok (.istore_n 3, 1) := by decide +kernel
theorem d_MO_bounds_36 : decode M_MO_bounds.2.1 36 = .ok (.iinc 4 1, 3) := by decide +kernel
theorem d_MO_bounds_39 : decode M_MO_bounds.2.1 39 = .ok (.goto (-34), 3) := by decide +kernel
theorem d_MO_bounds_42 : decode M_MO_bounds.2.1 42 = .ok (.iload_n 3, 1) := by decide +kernel
theorem d_MO_bounds_43 : decode M_MO_bounds.2.1 43 = .ok (.ireturn, 1) := by decide +kernel
theorem d_MO_isSound_0 : decode M_MO_isSound.2.1 0 = .ok (.iconst 1, 1) := by decide +kernel
theorem d_MO_isSound_1 : decode M_MO_isSound.2.1 1 = .ok (.istore_n 1, 1) := by decide +kernel
theorem d_MO_isSound_2 : decode M_MO_isSound.2.1 2 = .ok (.iconst 0, 1) := by decide +kernel
theorem d_MO_isSound_3 : decode M_MO_isSound.2.1 3 = .ok (.istore_n 2, 1) := by decide +kernel
theorem d_MO_isSound_4 : decode M_MO_isSound.2.1 4 = .ok (.iload_n 2, 1) := by decide +kernel
theorem d_MO_isSound_5 : decode M_MO_isSound.2.1 5 = .ok (.aload_n 0, 1) := by decide +kernel
theorem d_MO_isSound_6 : decode M_MO_isSound.2.1 6 = .ok (.getfield 51, 3) := by decide +kernel
theorem d_MO_isSound_9 : decode M_MO_isSound.2.1 9 = .ok (.if_icmp .ge 55, 3) := by decide +kernel
theorem d_MO_isSound_12 : decode M_MO_isSound.2.1 12 = .ok (.iload_n 1, 1) := by decide +kernel
theorem d_MO_isSound_13 : decode M_MO_isSound.2.1 13 = .ok (.ifCond .eq 43, 3) := by decide +kernel
theorem d_MO_isSound_16 : decode M_MO_isSound.2.1 16 = .ok (.aload_n 0, 1) := by decide +kernel
theorem d_MO_isSound_17 : decode M_MO_isSound.2.1 17 = .ok (.iload_n 2, 1) := by decide +kernel
theorem d_MO_isSound_18 : decode M_MO_isSound.2.1 18 = .ok (.invokevirtual 184, 3) := by decide +kernel
theorem d_MO_isSound_21 : decode M_MO_isSound.2.1 21 = .ok (.ifCond .eq 31, 3) := by decide +kernel
theorem d_MO_isSound_24 : decode M_MO_isSound.2.1 24 = .ok (.aload_n 0, 1) := by decide +kernel
theorem d_MO_isSound_25 : decode M_MO_isSound.2.1 25 = .ok (.iload_n 2, 1) := by decide +kernel
theorem d_MO_isSound_26 : decode M_MO_isSound.2.1 26 = .ok (.aload_n 0, 1) := by decide +kernel
theorem d_MO_isSound_27 : decode M_MO_isSound.2.1 27 = .ok (.getfield 57, 3) := by decide +kernel
theorem d_MO_isSound_30 : decode M_MO_isSound.2.1 30 = .ok (.invokevirtual 187, 3) := by decide +kernel
theorem d_MO_isSound_33 : decode M_MO_isSound.2.1 33 = .ok (.bipush 100, 2) := by decide +kernel
theorem d_MO_isSound_35 : decode M_MO_isSound.2.1 35 = .ok (.if_icmp .gt 21, 3) := by decide +kernel
theorem d_MO_isSound_38 : decode M_MO_isSound.2.1 38 = .ok (.aload_n 0, 1) := by decide +kernel
theorem d_MO_isSound_39 : decode M_MO_isSound.2.1 39 = .ok (.iload_n 2, 1) := by decide +kernel
theorem d_MO_isSound_40 : decode M_MO_isSound.2.1 40 = .ok (.aload_n 0, 1) := by decide +kernel
theorem d_MO_isSound_41 : decode M_MO_isSound.2.1 41 = .ok (.getfield 60, 3) := by decide +kernel
theorem d_MO_isSound_44 : decode M_MO_isSound.2.1 44 = .ok (.invokevirtual 187, 3) := by decide +kernel
theorem d_MO_isSound_47 : decode M_MO_isSound.2.1 47 = .ok (.bipush 100, 2) := by decide +kernel
theorem d_MO_isSound_49 : decode M_MO_isSound.2.1 49 = .ok (.if_icmp .lt 7, 3) := by decide +kernel
theorem d_MO_isSound_52 : decode M_MO_isSound.2.1 52 = .ok (.iconst 1, 1) := by decide +kernel
theorem d_MO_isSound_53 : decode M_MO_isSound.2.1 53 = .ok (.goto 4, 3) := by decide +kernel
theorem d_MO_isSound_56 : decode M_MO_isSound.2.1 56 = .ok (.iconst 0, 1) := by decide +kernel
theorem d_MO_isSound_57 : decode M_MO_isSound.2.1 57 = .ok (.istore_n 1, 1) := by decide +kernel
theorem d_MO_isSound_58 : decode M_MO_isSound.2.1 58 = .ok (.iinc 2 1, 3) := by decide +kernel
theorem d_MO_isSound_61 : decode M_MO_isSound.2.1 61 = .ok (.goto (-57), 3) := by decide +kernel
theorem d_MO_isSound_64 : decode M_MO_isSound.2.1 64 = .ok (.iload_n 1, 1) := by decide +kernel
theorem d_MO_isSound_65 : decode M_MO_isSound.2.1 65 = .ok (.ireturn, 1) := by decide +kernel
theorem d_MO_sound_0 : decode M_MO_sound.2.1 0 = .ok (.aload_n 0, 1) := by decide +kernel
theorem d_MO_sound_1 : decode M_MO_sound.2.1 1 = .ok (.invokevirtual 191, 3) := by decide +kernel
theorem d_MO_sound_4 : decode M_MO_sound.2.1 4 = .ok (.ifCond .eq 7, 3) := by decide +kernel
theorem d_MO_sound_7 : decode M_MO_sound.2.1 7 = .ok (.iconst 1, 1) := by decide +kernel
theorem d_MO_sound_8 : decode M_MO_sound.2.1 8 = .ok (.goto 4, 3) := by decide +kernel
theorem d_MO_sound_11 : decode M_MO_sound.2.1 11 = .ok (.iconst 0, 1) := by decide +kernel
theorem d_MO_sound_12 : decode M_MO_sound.2.1 12 = .ok (.ireturn, 1) := by decide +kernel
theorem d_MO_mixed_0 : decode M_MO_mixed.2.1 0 = .ok (.lconst 0, 1) := by decide +kernel
theorem d_MO_mixed_1 : decode M_MO_mixed.2.1 1 = .ok (.lstore_n 3, 1) := by decide +kernel
theorem d_MO_mixed_2 : decode M_MO_mixed.2.1 2 = .ok (.bipush 100, 2) := by decide +kernel
theorem d_MO_mixed_4 : decode M_MO_mixed.2.1 4 = .ok (.aload_n 0, 1) := by decide +kernel
theorem d_MO_mixed_5 : decode M_MO_mixed.2.1 5 = .ok (.iload_n 1, 1) := by decide +kernel
theorem d_MO_mixed_6 : decode M_MO_mixed.2.1 6 = .ok (.aload_n 0, 1) := by decide +kernel
theorem d_MO_mixed_7 : decode M_MO_mixed.2.1 7 = .ok (.getfield 57, 3) := by decide +kernel
theorem d_MO_mixed_10 : decode M_MO_mixed.2.1 10 = .ok (.invokevirtual 187, 3) := by decide +kernel
theorem d_MO_mixed_13 : decode M_MO_mixed.2.1 13 = .ok (.isub, 1) := by decide +kernel
theorem d_MO_mixed_14 : decode M_MO_mixed.2.1 14 = .ok (.istore 5, 2) := by decide +kernel
theorem d_MO_mixed_16 : decode M_MO_mixed.2.1 16 = .ok (.iconst 1, 1) := by decide +kernel
theorem d_MO_mixed_17 : decode M_MO_mixed.2.1 17 = .ok (.istore 6, 2) := by decide +kernel
theorem d_MO_mixed_19 : decode M_MO_mixed.2.1 19 = .ok (.iload 6, 2) := by decide +kernel
theorem d_MO_mixed_21 : decode M_MO_mixed.2.1 21 = .ok (.aload_n 0, 1) := by decide +kernel
theorem d_MO_mixed_22 : decode M_MO_mixed.2.1 22 = .ok (.getfield 51, 3) := by decide +kernel
theorem d_MO_mixed_25 : decode M_MO_mixed.2.1 25 = .ok (.if_icmp .ge 66, 3) := by decide +kernel
theorem d_MO_mixed_28 : decode M_MO_mixed.2.1 28 = .ok (.aload_n 0, 1) := by decide +kernel
theorem d_MO_mixed_29 : decode M_MO_mixed.2.1 29 = .ok (.getfield 70, 3) := by decide +kernel
theorem d_MO_mixed_32 : decode M_MO_mixed.2.1 32 = .ok (.iload 6, 2) := by decide +kernel
theorem d_MO_mixed_34 : decode M_MO_mixed.2.1 34 = .ok (.aload_n 0, 1) := by decide +kernel
theorem d_MO_mixed_35 : decode M_MO_mixed.2.1 35 = .ok (.getfield 54, 3) := by decide +kernel
theorem d_MO_mixed_38 : decode M_MO_mixed.2.1 38 = .ok (.iload 6, 2) := by decide +kernel
theorem d_MO_mixed_40 : decode M_MO_mixed.2.1 40 = .ok (.iaload, 1) := by decide +kernel
theorem d_MO_mixed_41 : decode M_MO_mixed.2.1 41 = .ok (.iload_n 1, 1) := by decide +kernel
theorem d_MO_mixed_42 : decode M_MO_mixed.2.1 42 = .ok (.if_icmp .eq 7, 3) := by decide +kernel
theorem d_MO_mixed_45 : decode M_MO_mixed.2.1 45 = .ok (.iconst 1, 1) := by decide +kernel
theorem d_MO_mixed_46 : decode M_MO_mixed.2.1 46 = .ok (.goto 4, 3) := by decide +kernel
theorem d_MO_mixed_49 : decode M_MO_mixed.2.1 49 = .ok (.iconst 0, 1) := by decide +kernel
theorem d_MO_mixed_50 : decode M_MO_mixed.2.1 50 = .ok (.bastore, 1) := by decide +kernel
theorem d_MO_mixed_51 : decode M_MO_mixed.2.1 51 = .ok (.lload_n 3, 1) := by decide +kernel
theorem d_MO_mixed_52 : decode M_MO_mixed.2.1 52 = .ok (.aload_n 0, 1) := by decide +kernel
theorem d_MO_mixed_53 : decode M_MO_mixed.2.1 53 = .ok (.getfield 54, 3) := by decide +kernel
theorem d_MO_mixed_56 : decode M_MO_mixed.2.1 56 = .ok (.iload 6, 2) := by decide +kernel
theorem d_MO_mixed_58 : decode M_MO_mixed.2.1 58 = .ok (.iaload, 1) := by decide +kernel
theorem d_MO_mixed_59 : decode M_MO_mixed.2.1 59 = .ok (.iload_n 1, 1) := by decide +kernel
theorem d_MO_mixed_60 : decode M_MO_mixed.2.1 60 = .ok (.if_icmp .ne 22, 3) := by decide +kernel
theorem d_MO_mixed_63 : decode M_MO_mixed.2.1 63 = .ok (.aload_n 0, 1) := by decide +kernel
theorem d_MO_mixed_64 : decode M_MO_mixed.2.1 64 = .ok (.getfield 66, 3) := by decide +kernel
theorem d_MO_mixed_67 : decode M_MO_mixed.2.1 67 = .ok (.iload 6, 2) := by decide +kernel
theorem d_MO_mixed_69 : decode M_MO_mixed.2.1 69 = .ok (.laload, 1) := by decide +kernel
theorem d_MO_mixed_70 : decode M_MO_mixed.2.1 70 = .ok (.aload_n 0, 1) := by decide +kernel
theorem d_MO_mixed_71 : decode M_MO_mixed.2.1 71 = .ok (.getfield 57, 3) := by decide +kernel
theorem d_MO_mixed_74 : decode M_MO_mixed.2.1 74 = .ok (.iload 6, 2) := by decide +kernel
theorem d_MO_mixed_76 : decode M_MO_mixed.2.1 76 = .ok (.iaload, 1) := by decide +kernel
theorem d_MO_mixed_77 : decode M_MO_mixed.2.1 77 = .ok (.i2l, 1) := by decide +kernel
theorem d_MO_mixed_78 : decode M_MO_mixed.2.1 78 = .ok (.lmul, 1) := by decide +kernel
theorem d_MO_mixed_79 : decode M_MO_mixed.2.1 79 = .ok (.goto 4, 3) := by decide +kernel
theorem d_MO_mixed_82 : decode M_MO_mixed.2.1 82 = .ok (.lconst 0, 1) := by decide +kernel
theorem d_MO_mixed_83 : decode M_MO_mixed.2.1 83 = .ok (.ladd, 1) := by decide +kernel
theorem d_MO_mixed_84 : decode M_MO_mixed.2.1 84 = .ok (.lstore_n 3, 1) := by decide +kernel
theorem d_MO_mixed_85 : decode M_MO_mixed.2.1 85 = .ok (.iinc 6 1, 3) := by decide +kernel
theorem d_MO_mixed_88 : decode M_MO_mixed.2.1 88 = .ok (.goto (-69), 3) := by decide +kernel
theorem d_MO_mixed_91 : decode M_MO_mixed.2.1 91 = .ok (.iload 5, 2) := by decide +kernel
theorem d_MO_mixed_93 : decode M_MO_mixed.2.1 93 = .ok (.ifCond .le 178, 3) := by decide +kernel
theorem d_MO_mixed_96 : decode M_MO_mixed.2.1 96 = .ok (.bipush (-6), 2) := by decide +kernel
theorem d_MO_mixed_98 : decode M_MO_mixed.2.1 98 = .ok (.istore 6, 2) := by decide +kernel
theorem d_MO_mixed_100 : decode M_MO_mixed.2.1 100 = .ok (.iconst 1, 1) := by decide +kernel
theorem d_MO_mixed_101 : decode M_MO_mixed.2.1 101 = .ok (.istore 7, 2) := by decide +kernel
theorem d_MO_mixed_103 : decode M_MO_mixed.2.1 103 = .ok (.iload 7, 2) := by decide +kernel
theorem d_MO_mixed_105 : decode M_MO_mixed.2.1 105 = .ok (.aload_n 0, 1) := by decide +kernel
theorem d_MO_mixed_106 : decode M_MO_mixed.2.1 106 = .ok (.getfield 51, 3) := by decide +kernel
theorem d_MO_mixed_109 : decode M_MO_mixed.2.1 109 = .ok (.if_icmp .ge 88, 3) := by decide +kernel
theorem d_MO_mixed_112 : decode M_MO_mixed.2.1 112 = .ok (.iload 6, 2) := by decide +kernel
theorem d_MO_mixed_114 : decode M_MO_mixed.2.1 114 = .ok (.ifCond .lt 46, 3) := by decide +kernel
theorem d_MO_mixed_117 : decode M_MO_mixed.2.1 117 = .ok (.iload_n 2, 1) := by decide +kernel
theorem d_MO_mixed_118 : decode M_MO_mixed.2.1 118 = .ok (.ifCond .ne 24, 3) := by decide +kernel
theorem d_MO_mixed_121 : decode M_MO_mixed.2.1 121 = .ok (.aload_n 0, 1) := by decide +kernel
theorem d_MO_mixed_122 : decode M_MO_mixed.2.1 122 = .ok (.getfield 66, 3) := by decide +kernel
theorem d_MO_mixed_125 : decode M_MO_mixed.2.1 125 = .ok (.iload 7, 2) := by decide +kernel
theorem d_MO_mixed_127 : decode M_MO_mixed.2.1 127 = .ok (.laload, 1) := by decide +kernel
theorem d_MO_mixed_128 : decode M_MO_mixed.2.1 128 = .ok (.aload_n 0, 1) := by decide +kernel
theorem d_MO_mixed_129 : decode M_MO_mixed.2.1 129 = .ok (.getfield 66, 3) := by decide +kernel
theorem d_MO_mixed_132 : decode M_MO_mixed.2.1 132 = .ok (.iload 6, 2) := by decide +kernel
theorem d_MO_mixed_134 : decode M_MO_mixed.2.1 134 = .ok (.laload, 1) := by decide +kernel
theorem d_MO_mixed_135 : decode M_MO_mixed.2.1 135 = .ok (.lcmp, 1) := by decide +kernel
theorem d_MO_mixed_136 : decode M_MO_mixed.2.1 136 = .ok (.ifCond .ge 28, 3) := by decide +kernel
theorem d_MO_mixed_139 : decode M_MO_mixed.2.1 139 = .ok (.goto 21, 3) := by decide +kernel
theorem d_MO_mixed_142 : decode M_MO_mixed.2.1 142 = .ok (.aload_n 0, 1) := by decide +kernel
theorem d_MO_mixed_143 : decode M_MO_mixed.2.1 143 = .ok (.getfield 66, 3) := by decide +kernel
theorem d_MO_mixed_146 : decode M_MO_mixed.2.1 146 = .ok (.iload 7, 2) := by decide +kernel
theorem d_MO_mixed_148 : decode M_MO_mixed.2.1 148 = .ok (.laload, 1) := by decide +kernel
theorem d_MO_mixed_149 : decode M_MO_mixed.2.1 149 = .ok (.aload_n 0, 1) := by decide +kernel
theorem d_MO_mixed_150 : decode M_MO_mixed.2.1 150 = .ok (.getfield 66, 3) := by decide +kernel
theorem d_MO_mixed_153 : decode M_MO_mixed.2.1 153 = .ok (.iload 6, 2) := by decide +kernel
theorem d_MO_mixed_155 : decode M_MO_mixed.2.1 155 = .ok (.laload, 1) := by decide +kernel
theorem d_MO_mixed_156 : decode M_MO_mixed.2.1 156 = .ok (.lcmp, 1) := by decide +kernel
theorem d_MO_mixed_157 : decode M_MO_mixed.2.1 157 = .ok (.ifCond .le 7, 3) := by decide +kernel
theorem d_MO_mixed_160 : decode M_MO_mixed.2.1 160 = .ok (.iconst 1, 1) := by decide +kernel
theorem d_MO_mixed_161 : decode M_MO_mixed.2.1 161 = .ok (.goto 4, 3) := by decide +kernel
theorem d_MO_mixed_164 : decode M_MO_mixed.2.1 164 = .ok (.iconst 0, 1) := by decide +kernel
theorem d_MO_mixed_165 : decode M_MO_mixed.2.1 165 = .ok (.istore 8, 2) := by decide +kernel
theorem d_MO_mixed_167 : decode M_MO_mixed.2.1 167 = .ok (.aload_n 0, 1) := by decide +kernel
theorem d_MO_mixed_168 : decode M_MO_mixed.2.1 168 = .ok (.getfield 70, 3) := by decide +kernel
theorem d_MO_mixed_171 : decode M_MO_mixed.2.1 171 = .ok (.iload 7, 2) := by decide +kernel
theorem d_MO_mixed_173 : decode M_MO_mixed.2.1 173 = .ok (.baload, 1) := by decide +kernel
theorem d_MO_mixed_174 : decode M_MO_mixed.2.1 174 = .ok (.ifCond .ne 13, 3) := by decide +kernel
theorem d_MO_mixed_177 : decode M_MO_mixed.2.1 177 = .ok (.iload 8, 2) := by decide +kernel
theorem d_MO_mixed_179 : decode M_MO_mixed.2.1 179 = .ok (.ifCond .eq 8, 3) := by decide +kernel
theorem d_MO_mixed_182 : decode M_MO_mixed.2.1 182 = .ok (.iload 7, 2) := by decide +kernel
theorem d_MO_mixed_184 : decode M_MO_mixed.2.1 184 = .ok (.goto 5, 3) := by decide +kernel
theorem d_MO_mixed_187 : decode M_MO_mixed.2.1 187 = .ok (.iload 6, 2) := by decide +kernel
theorem d_MO_mixed_189 : decode M_MO_mixed.2.1 189 = .ok (.istore 6, 2) := by decide +kernel
theorem d_MO_mixed_191 : decode M_MO_mixed.2.1 191 = .ok (.iinc 7 1, 3) := by decide +kernel
theorem d_MO_mixed_194 : decode M_MO_mixed.2.1 194 = .ok (.goto (-91), 3) := by decide +kernel
theorem d_MO_mixed_197 : decode M_MO_mixed.2.1 197 = .ok (.aload_n 0, 1) := by decide +kernel
theorem d_MO_mixed_198 : decode M_MO_mixed.2.1 198 = .ok (.getfield 70, 3) := by decide +kernel
theorem d_MO_mixed_201 : decode M_MO_mixed.2.1 201 = .ok (.iload 6, 2) := by decide +kernel
theorem d_MO_mixed_203 : decode M_MO_mixed.2.1 203 = .ok (.iconst 1, 1) := by decide +kernel
theorem d_MO_mixed_204 : decode M_MO_mixed.2.1 204 = .ok (.bastore, 1) := by decide +kernel
theorem d_MO_mixed_205 : decode M_MO_mixed.2.1 205 = .ok (.aload_n 0, 1) := by decide +kernel
theorem d_MO_mixed_206 : decode M_MO_mixed.2.1 206 = .ok (.getfield 60, 3) := by decide +kernel
theorem d_MO_mixed_209 : decode M_MO_mixed.2.1 209 = .ok (.iload 6, 2) := by decide +kernel
theorem d_MO_mixed_211 : decode M_MO_mixed.2.1 211 = .ok (.iaload, 1) := by decide +kernel
theorem d_MO_mixed_212 : decode M_MO_mixed.2.1 212 = .ok (.aload_n 0, 1) := by decide +kernel
theorem d_MO_mixed_213 : decode M_MO_mixed.2.1 213 = .ok (.getfield 57, 3) := by decide +kernel
theorem d_MO_mixed_216 : decode M_MO_mixed.2.1 216 = .ok (.iload 6, 2) := by decide +kernel
theorem d_MO_mixed_218 : decode M_MO_mixed.2.1 218 = .ok (.iaload, 1) := by decide +kernel
theorem d_MO_mixed_219 : decode M_MO_mixed.2.1 219 = .ok (.isub, 1) := by decide +kernel
theorem d_MO_mixed_220 : decode M_MO_mixed.2.1 220 = .ok (.iload 5, 2) := by decide +kernel
theorem d_MO_mixed_222 : decode M_MO_mixed.2.1 222 = .ok (.if_icmp .ge 21, 3) := by decide +kernel
theorem d_MO_mixed_225 : decode M_MO_mixed.2.1 225 = .ok (.aload_n 0, 1) := by decide +kernel
theorem d_MO_mixed_226 : decode M_MO_mixed.2.1 226 = .ok (.getfield 60, 3) := by decide +kernel
theorem d_MO_mixed_229 : decode M_MO_mixed.2.1 229 = .ok (.iload 6, 2) := by decide +kernel
theorem d_MO_mixed_231 : decode M_MO_mixed.2.1 231 = .ok (.iaload, 1) := by decide +kernel
theorem d_MO_mixed_232 : decode M_MO_mixed.2.1 232 = .ok (.aload_n 0, 1) := by decide +kernel
theorem d_MO_mixed_233 : decode M_MO_mixed.2.1 233 = .ok (.getfield 57, 3) := by decide +kernel
theorem d_MO_mixed_236 : decode M_MO_mixed.2.1 236 = .ok (.iload 6, 2) := by decide +kernel
theorem d_MO_mixed_238 : decode M_MO_mixed.2.1 238 = .ok (.iaload, 1) := by decide +kernel
theorem d_MO_mixed_239 : decode M_MO_mixed.2.1 239 = .ok (.isub, 1) := by decide +kernel
theorem d_MO_mixed_240 : decode M_MO_mixed.2.1 240 = .ok (.goto 5, 3) := by decide +kernel
theorem d_MO_mixed_243 : decode M_MO_mixed.2.1 243 = .ok (.iload 5, 2) := by decide +kernel
theorem d_MO_mixed_245 : decode M_MO_mixed.2.1 245 = .ok (.istore 7, 2) := by decide +kernel
theorem d_MO_mixed_247 : decode M_MO_mixed.2.1 247 = .ok (.lload_n 3, 1) := by decide +kernel
theorem d_MO_mixed_248 : decode M_MO_mixed.2.1 248 = .ok (.aload_n 0, 1) := by decide +kernel
theorem d_MO_mixed_249 : decode M_MO_mixed.2.1 249 = .ok (.getfield 66, 3) := by decide +kernel
theorem d_MO_mixed_252 : decode M_MO_mixed.2.1 252 = .ok (.iload 6, 2) := by decide +kernel
theorem d_MO_mixed_254 : decode M_MO_mixed.2.1 254 = .ok (.laload, 1) := by decide +kernel
theorem d_MO_mixed_255 : decode M_MO_mixed.2.1 255 = .ok (.iload 7, 2) := by decide +kernel
theorem d_MO_mixed_257 : decode M_MO_mixed.2.1 257 = .ok (.i2l, 1) := by decide +kernel
theorem d_MO_mixed_258 : decode M_MO_mixed.2.1 258 = .ok (.lmul, 1) := by decide +kernel
theorem d_MO_mixed_259 : decode M_MO_mixed.2.1 259 = .ok (.ladd, 1) := by decide +kernel
theorem d_MO_mixed_260 : decode M_MO_mixed.2.1 260 = .ok (.lstore_n 3, 1) := by decide +kernel
theorem d_MO_mixed_261 : decode M_MO_mixed.2.1 261 = .ok (.iload 5, 2) := by decide +kernel
theorem d_MO_mixed_263 : decode M_MO_mixed.2.1 263 = .ok (.iload 7, 2) := by decide +kernel
theorem d_MO_mixed_265 : decode M_MO_mixed.2.1 265 = .ok (.isub, 1) := by decide +kernel
theorem d_MO_mixed_266 : decode M_MO_mixed.2.1 266 = .ok (.istore 5, 2) := by decide +kernel
theorem d_MO_mixed_268 : decode M_MO_mixed.2.1 268 = .ok (.goto (-177), 3) := by decide +kernel
theorem d_MO_mixed_271 : decode M_MO_mixed.2.1 271 = .ok (.lload_n 3, 1) := by decide +kernel
theorem d_MO_mixed_272 : decode M_MO_mixed.2.1 272 = .ok (.ldc2_w 95, 3) := by decide +kernel
theorem d_MO_mixed_275 : decode M_MO_mixed.2.1 275 = .ok (.ldiv, 1) := by decide +kernel
theorem d_MO_mixed_276 : decode M_MO_mixed.2.1 276 = .ok (.lreturn, 1) := by decide +kernel
theorem d_MO_chance_0 : decode M_MO_chance.2.1 0 = .ok (.aload_n 0, 1) := by decide +kernel
theorem d_MO_chance_1 : decode M_MO_chance.2.1 1 = .ok (.iload_n 1, 1) := by decide +kernel
theorem d_MO_chance_2 : decode M_MO_chance.2.1 2 = .ok (.invokevirtual 175, 3) := by decide +kernel
theorem d_MO_chance_5 : decode M_MO_chance.2.1 5 = .ok (.ifCond .ne 5, 3) := by decide +kernel
theorem d_MO_chance_8 : decode M_MO_chance.2.1 8 = .ok (.iconst (-1), 1) := by decide +kernel
theorem d_MO_chance_9 : decode M_MO_chance.2.1 9 = .ok (.ireturn, 1) := by decide +kernel
theorem d_MO_chance_10 : decode M_MO_chance.2.1 10 = .ok (.iload_n 2, 1) := by decide +kernel
theorem d_MO_chance_11 : decode M_MO_chance.2.1 11 = .ok (.iconst 0, 1) := by decide +kernel
theorem d_MO_chance_12 : decode M_MO_chance.2.1 12 = .ok (.iconst 1, 1) := by decide +kernel
theorem d_MO_chance_13 : decode M_MO_chance.2.1 13 = .ok (.invokestatic 76, 3) := by decide +kernel
theorem d_MO_chance_16 : decode M_MO_chance.2.1 16 = .ok (.ifCond .ne 6, 3) := by decide +kernel
theorem d_MO_chance_19 : decode M_MO_chance.2.1 19 = .ok (.bipush (-2), 2) := by decide +kernel
theorem d_MO_chance_21 : decode M_MO_chance.2.1 21 = .ok (.ireturn, 1) := by decide +kernel
theorem d_MO_chance_22 : decode M_MO_chance.2.1 22 = .ok (.aload_n 0, 1) := by decide +kernel
theorem d_MO_chance_23 : decode M_MO_chance.2.1 23 = .ok (.invokevirtual 191, 3) := by decide +kernel
theorem d_MO_chance_26 : decode M_MO_chance.2.1 26 = .ok (.ifCond .ne 6, 3) := by decide +kernel
theorem d_MO_chance_29 : decode M_MO_chance.2.1 29 = .ok (.bipush (-5), 2) := by decide +kernel
theorem d_MO_chance_31 : decode M_MO_chance.2.1 31 = .ok (.ireturn, 1) := by decide +kernel
theorem d_MO_chance_32 : decode M_MO_chance.2.1 32 = .ok (.aload_n 0, 1) := by decide +kernel
theorem d_MO_chance_33 : decode M_MO_chance.2.1 33 = .ok (.getfield 51, 3) := by decide +kernel
theorem d_MO_chance_36 : decode M_MO_chance.2.1 36 = .ok (.iconst 1, 1) := by decide +kernel
theorem d_MO_chance_37 : decode M_MO_chance.2.1 37 = .ok (.isub, 1) := by decide +kernel
theorem d_MO_chance_38 : decode M_MO_chance.2.1 38 = .ok (.istore_n 3, 1) := by decide +kernel
theorem d_MO_chance_39 : decode M_MO_chance.2.1 39 = .ok (.iload_n 3, 1) := by decide +kernel
theorem d_MO_chance_40 : decode M_MO_chance.2.1 40 = .ok (.ifCond .lt 48, 3) := by decide +kernel
theorem d_MO_chance_43 : decode M_MO_chance.2.1 43 = .ok (.aload_n 0, 1) := by decide +kernel
theorem d_MO_chance_44 : decode M_MO_chance.2.1 44 = .ok (.getfield 66, 3) := by decide +kernel
theorem d_MO_chance_47 : decode M_MO_chance.2.1 47 = .ok (.iload_n 3, 1) := by decide +kernel
theorem d_MO_chance_48 : decode M_MO_chance.2.1 48 = .ok (.aload_n 0, 1) := by decide +kernel
theorem d_MO_chance_49 : decode M_MO_chance.2.1 49 = .ok (.iload_n 3, 1) := by decide +kernel
theorem d_MO_chance_50 : decode M_MO_chance.2.1 50 = .ok (.invokevirtual 184, 3) := by decide +kernel
theorem d_MO_chance_53 : decode M_MO_chance.2.1 53 = .ok (.ifCond .le 12, 3) := by decide +kernel
theorem d_MO_chance_56 : decode M_MO_chance.2.1 56 = .ok (.aload_n 0, 1) := by decide +kernel
theorem d_MO_chance_57 : decode M_MO_chance.2.1 57 = .ok (.iload_n 3, 1) := by decide +kernel
theorem d_MO_chance_58 : decode M_MO_chance.2.1 58 = .ok (.iload_n 2, 1) := by decide +kernel
theorem d_MO_chance_59 : decode M_MO_chance.2.1 59 = .ok (.invokevirtual 195, 3) := by decide +kernel
theorem d_MO_chance_62 : decode M_MO_chance.2.1 62 = .ok (.goto 19, 3) := by decide +kernel
theorem d_MO_chance_65 : decode M_MO_chance.2.1 65 = .ok (.aload_n 0, 1) := by decide +kernel
theorem d_MO_chance_66 : decode M_MO_chance.2.1 66 = .ok (.getfield 63, 3) := by decide +kernel
theorem d_MO_chance_69 : decode M_MO_chance.2.1 69 = .ok (.iload_n 3, 1) := by decide +kernel
theorem d_MO_chance_70 : decode M_MO_chance.2.1 70 = .ok (.baload, 1) := by decide +kernel
theorem d_MO_chance_71 : decode M_MO_chance.2.1 71 = .ok (.ifCond .eq 9, 3) := by decide +kernel
theorem d_MO_chance_74 : decode M_MO_chance.2.1 74 = .ok (.ldc2_w 198, 3) := by decide +kernel
theorem d_MO_chance_77 : decode M_MO_chance.2.1 77 = .ok (.goto 4, 3) := by decide +kernel
theorem d_MO_chance_80 : decode M_MO_chance.2.1 80 = .ok (.lconst 0, 1) := by decide +kernel
theorem d_MO_chance_81 : decode M_MO_chance.2.1 81 = .ok (.lastore, 1) := by decide +kernel
theorem d_MO_chance_82 : decode M_MO_chance.2.1 82 = .ok (.iinc 3 (-1), 3) := by decide +kernel
theorem d_MO_chance_85 : decode M_MO_chance.2.1 85 = .ok (.goto (-46), 3) := by decide +kernel
theorem d_MO_chance_88 : decode M_MO_chance.2.1 88 = .ok (.aload_n 0, 1) := by decide +kernel
theorem d_MO_chance_89 : decode M_MO_chance.2.1 89 = .ok (.getfield 66, 3) := by decide +kernel
theorem d_MO_chance_92 : decode M_MO_chance.2.1 92 = .ok (.iload_n 1, 1) := by decide +kernel
theorem d_MO_chance_93 : decode M_MO_chance.2.1 93 = .ok (.laload, 1) := by decide +kernel
theorem d_MO_chance_94 : decode M_MO_chance.2.1 94 = .ok (.l2i, 1) := by decide +kernel
theorem d_MO_chance_95 : decode M_MO_chance.2.1 95 = .ok (.ireturn, 1) := by decide +kernel
theorem d_MO_ofNode_0 : decode M_MO_ofNode.2.1 0 = .ok (.aload_n 0, 1) := by decide +kernel
theorem d_MO_ofNode_1 : decode M_MO_ofNode.2.1 1 = .ok (.iload_n 1, 1) := by decide +kernel
theorem d_MO_ofNode_2 : decode M_MO_ofNode.2.1 2 = .ok (.invokevirtual 175, 3) := by decide +kernel
theorem d_MO_ofNode_5 : decode M_MO_ofNode.2.1 5 = .ok (.ifCond .ne 5, 3) := by decide +kernel
theorem d_MO_ofNode_8 : decode M_MO_ofNode.2.1 8 = .ok (.iconst (-1), 1) := by decide +kernel
theorem d_MO_ofNode_9 : decode M_MO_ofNode.2.1 9 = .ok (.ireturn, 1) := by decide +kernel
theorem d_MO_ofNode_10 : decode M_MO_ofNode.2.1 10 = .ok (.iload_n 2, 1) := by decide +kernel
theorem d_MO_ofNode_11 : decode M_MO_ofNode.2.1 11 = .ok (.tableswitch 85 0 5 #[37, 44, 51, 58, 73, 79], 37) := by decide +kernel
theorem d_MO_ofNode_48 : decode M_MO_ofNode.2.1 48 = .ok (.aload_n 0, 1) := by decide +kernel
theorem d_MO_ofNode_49 : decode M_MO_ofNode.2.1 49 = .ok (.getfield 54, 3) := by decide +kernel
theorem d_MO_ofNode_52 : decode M_MO_ofNode.2.1 52 = .ok (.iload_n 1, 1) := by decide +kernel
theorem d_MO_ofNode_53 : decode M_MO_ofNode.2.1 53 = .ok (.iaload, 1) := by decide +kernel
theorem d_MO_ofNode_54 : decode M_MO_ofNode.2.1 54 = .ok (.ireturn, 1) := by decide +kernel
theorem d_MO_ofNode_55 : decode M_MO_ofNode.2.1 55 = .ok (.aload_n 0, 1) := by decide +kernel
theorem d_MO_ofNode_56 : decode M_MO_ofNode.2.1 56 = .ok (.getfield 57, 3) := by decide +kernel
theorem d_MO_ofNode_59 : decode M_MO_ofNode.2.1 59 = .ok (.iload_n 1, 1) := by decide +kernel
theorem d_MO_ofNode_60 : decode M_MO_ofNode.2.1 60 = .ok (.iaload, 1) := by decide +kernel
theorem d_MO_ofNode_61 : decode M_MO_ofNode.2.1 61 = .ok (.ireturn, 1) := by decide +kernel
theorem d_MO_ofNode_62 : decode M_MO_ofNode.2.1 62 = .ok (.aload_n 0, 1) := by decide +kernel
theorem d_MO_ofNode_63 : decode M_MO_ofNode.2.1 63 = .ok (.getfield 60, 3) := by decide +kernel
theorem d_MO_ofNode_66 : decode M_MO_ofNode.2.1 66 = .ok (.iload_n 1, 1) := by decide +kernel
theorem d_MO_ofNode_67 : decode M_MO_ofNode.2.1 67 = .ok (.iaload, 1) := by decide +kernel
theorem d_MO_ofNode_68 : decode M_MO_ofNode.2.1 68 = .ok (.ireturn, 1) := by decide +kernel
theorem d_MO_ofNode_69 : decode M_MO_ofNode.2.1 69 = .ok (.aload_n 0, 1) := by decide +kernel
theorem d_MO_ofNode_70 : decode M_MO_ofNode.2.1 70 = .ok (.getfield 63, 3) := by decide +kernel
theorem d_MO_ofNode_73 : decode M_MO_ofNode.2.1 73 = .ok (.iload_n 1, 1) := by decide +kernel
theorem d_MO_ofNode_74 : decode M_MO_ofNode.2.1 74 = .ok (.baload, 1) := by decide +kernel
theorem d_MO_ofNode_75 : decode M_MO_ofNode.2.1 75 = .ok (.ifCond .eq 7, 3) := by decide +kernel
theorem d_MO_ofNode_78 : decode M_MO_ofNode.2.1 78 = .ok (.iconst 1, 1) := by decide +kernel
theorem d_MO_ofNode_79 : decode M_MO_ofNode.2.1 79 = .ok (.goto 4, 3) := by decide +kernel
theorem d_MO_ofNode_82 : decode M_MO_ofNode.2.1 82 = .ok (.iconst 0, 1) := by decide +kernel
theorem d_MO_ofNode_83 : decode M_MO_ofNode.2.1 83 = .ok (.ireturn, 1) := by decide +kernel
theorem d_MO_ofNode_84 : decode M_MO_ofNode.2.1 84 = .ok (.aload_n 0, 1) := by decide +kernel
theorem d_MO_ofNode_85 : decode M_MO_ofNode.2.1 85 = .ok (.iload_n 1, 1) := by decide +kernel
theorem d_MO_ofNode_86 : decode M_MO_ofNode.2.1 86 = .ok (.invokevirtual 184, 3) := by decide +kernel
theorem d_MO_ofNode_89 : decode M_MO_ofNode.2.1 89 = .ok (.ireturn, 1) := by decide +kernel
theorem d_MO_ofNode_90 : decode M_MO_ofNode.2.1 90 = .ok (.aload_n 0, 1) := by decide +kernel
theorem d_MO_ofNode_91 : decode M_MO_ofNode.2.1 91 = .ok (.iload_n 1, 1) := by decide +kernel
theorem d_MO_ofNode_92 : decode M_MO_ofNode.2.1 92 = .ok (.invokevirtual 181, 3) := by decide +kernel
theorem d_MO_ofNode_95 : decode M_MO_ofNode.2.1 95 = .ok (.ireturn, 1) := by decide +kernel
theorem d_MO_ofNode_96 : decode M_MO_ofNode.2.1 96 = .ok (.bipush (-2), 2) := by decide +kernel
theorem d_MO_ofNode_98 : decode M_MO_ofNode.2.1 98 = .ok (.ireturn, 1) := by decide +kernel
section Sfmodel3
variable {D : va_G} {ad : Nat → Nat} {ca : Nat → ClassId} {sc : SC} {h : Hp} {Q : Option Value → Hp → Prop}
theorem F_MO_told_0 (v1 : Int) (g1 : InR v1) (hF : ((v1 = 0 → Q (some (vI (h 28 0))) h) ∧ (v1 = 1 → Q (some (vI (h 28 16))) h) ∧ (v1 = 2 → Q (some (vI (h 28 17))) h) ∧ (v1 = 3 → WP D ad ca none M_MO_wanted 0 [(0, .ref (ad 28))] [] h (RI (fun r5 h4 => Q (some (vI r5)) h4))) ∧ (v1 = 4 → Q (some (vI (h 28 22))) h) ∧ (v1 = 5 → Q (some (vI (h 28 23))) h) ∧ (v1 = 6 → WP D ad ca none M_MO_holdNow 0 [(0, .ref (ad 28))] [] h (RI (fun r10 h9 => Q (some (vI r10)) h9))) ∧ (v1 = 7 → Q (some (vI (h 28 1))) h) ∧ (v1 = 8 → Q (some (vI (h 28 10))) h) ∧ (v1 = 9 → Q (some (vI (h 28 25))) h) ∧ (v1 = 10 → Q (some (vI (h 28 24))) h) ∧ (v1 < 0 ∨ 10 < v1 → Q (some (vI (-2))) h))) : WP D ad ca sc M_MO_told 0 [(0, .ref (ad 28)), (1, vI v1)] [] h Q := by
  refine P_iload_n 1 d_MO_told_0 rfl rfl ?_
  by_cases c0 : v1 = 0
  · have hF := hF.1 c0
    refine P_tabIn 60 0 d_MO_told_1 c0 ⟨by decide, by decide⟩ (by decide) (by decide) rfl (by decide) ?_
    refine P_aload_n 0 d_MO_told_60 rfl rfl ?_
    refine G_MO_today tw_558 d_MO_told_61 (fun i1 => ?_)
    exact P_iret d_MO_told_64 rfl hF
  by_cases c1 : v1 = 1
  · have hF := hF.2.1 c1
    refine P_tabIn 65 1 d_MO_told_1 c1 ⟨by decide, by decide⟩ (by decide) (by decide) rfl (by decide) ?_
    refine P_aload_n 0 d_MO_told_65 rfl rfl ?_
    refine G_MO_level tw_574 d_MO_told_66 (fun i2 => ?_)
    exact P_iret d_MO_told_69 rfl hF
  by_cases c2 : v1 = 2
  · have hF := hF.2.2.1 c2
    refine P_tabIn 70 2 d_MO_told_1 c2 ⟨by decide, by decide⟩ (by decide) (by decide) rfl (by decide) ?_
    refine P_aload_n 0 d_MO_told_70 rfl rfl ?_
    refine G_MO_calm tw_575 d_MO_told_71 (fun i3 => ?_)
    exact P_iret d_MO_told_74 rfl hF
  by_cases c3 : v1 = 3
  · have hF := hF.2.2.2.1 c3
    refine P_tabIn 75 3 d_MO_told_1 c3 ⟨by decide, by decide⟩ (by decide) (by decide) rfl (by decide) ?_
    refine P_aload_n 0 d_MO_told_75 rfl rfl ?_
    refine V_MO_wanted tw_772 d_MO_told_76 (by decide) (Nat.le_of_ble_eq_true rfl) hF (fun r5 h4 i6 hF => ?_)
    exact P_iret d_MO_told_79 rfl hF
  by_cases c4 : v1 = 4
  · have hF := hF.2.2.2.2.1 c4
    refine P_tabIn 80 4 d_MO_told_1 c4 ⟨by decide, by decide⟩ (by decide) (by decide) rfl (by decide) ?_
    refine P_aload_n 0 d_MO_told_80 rfl rfl ?_
    refine G_MO_messages tw_580 d_MO_told_81 (fun i7 => ?_)
    exact P_iret d_MO_told_84 rfl hF
  by_cases c5 : v1 = 5
  · have hF := hF.2.2.2.2.2.1 c5
    refine P_tabIn 85 5 d_MO_told_1 c5 ⟨by decide, by decide⟩ (by decide) (by decide) rfl (by decide) ?_
    refine P_aload_n 0 d_MO_told_85 rfl rfl ?_
    refine G_MO_drills tw_581 d_MO_told_86 (fun i8 => ?_)
    exact P_iret d_MO_told_89 rfl hF
  by_cases c6 : v1 = 6
  · have hF := hF.2.2.2.2.2.2.1 c6
    refine P_tabIn 90 6 d_MO_told_1 c6 ⟨by decide, by decide⟩ (by decide) (by decide) rfl (by decide) ?_
    refine P_aload_n 0 d_MO_told_90 rfl rfl ?_
    refine V_MO_holdNow tw_776 d_MO_told_91 (by decide) (Nat.le_of_ble_eq_true rfl) hF (fun r10 h9 i11 hF => ?_)
    exact P_iret d_MO_told_94 rfl hF
  by_cases c7 : v1 = 7
  · have hF := hF.2.2.2.2.2.2.2.1 c7
    refine P_tabIn 95 7 d_MO_told_1 c7 ⟨by decide, by decide⟩ (by decide) (by decide) rfl (by decide) ?_
    refine P_aload_n 0 d_MO_told_95 rfl rfl ?_
    refine G_MO_shakes tw_559 d_MO_told_96 (fun i12 => ?_)
    exact P_iret d_MO_told_99 rfl hF
  by_cases c8 : v1 = 8
  · have hF := hF.2.2.2.2.2.2.2.2.1 c8
    refine P_tabIn 100 8 d_MO_told_1 c8 ⟨by decide, by decide⟩ (by decide) (by decide) rfl (by decide) ?_
    refine P_aload_n 0 d_MO_told_100 rfl rfl ?_
    refine G_MO_laws tw_568 d_MO_told_101 (fun i13 => ?_)
    exact P_iret d_MO_told_104 rfl hF
  by_cases c9 : v1 = 9
  · have hF := hF.2.2.2.2.2.2.2.2.2.1 c9
    refine P_tabIn 105 9 d_MO_told_1 c9 ⟨by decide, by decide⟩ (by decide) (by decide) rfl (by decide) ?_
    refine P_aload_n 0 d_MO_told_105 rfl rfl ?_
    refine G_MO_nodes tw_583 d_MO_told_106 (fun i14 => ?_)
    exact P_iret d_MO_told_109 rfl hF
  by_cases c10 : v1 = 10
  · have hF := hF.2.2.2.2.2.2.2.2.2.2.1 c10
    refine P_tabIn 110 10 d_MO_told_1 c10 ⟨by decide, by decide⟩ (by decide) (by decide) rfl (by decide) ?_
    refine P_aload_n 0 d_MO_told_110 rfl rfl ?_
    refine G_MO_drillLevel tw_582 d_MO_told_111 (fun i15 => ?_)
    exact P_iret d_MO_told_114 rfl hF
  have hF := hF.2.2.2.2.2.2.2.2.2.2.2 (by omega)
  refine P_tabOut 115 d_MO_told_1 g1 (by omega) (by decide) ?_
  refine P_bipush d_MO_told_115 (by decide) ?_
  exact P_iret d_MO_told_117 rfl hF
theorem F_MO_isNode_0 (v1 : Int) (g1 : InR v1) (hF : WP D ad ca none M_MO_in 0 [(0, vI v1), (1, vI 0), (2, vI ((h 28 25) - 1))] [] h (RI (fun r3 h2 => (r3 = 0 ∨ r3 = 1) ∧ Q (some (vI r3)) h2))) : WP D ad ca sc M_MO_isNode 0 [(0, .ref (ad 28)), (1, vI v1)] [] h Q := by
  refine P_iload_n 1 d_MO_isNode_0 rfl rfl ?_
  refine P_iconst d_MO_isNode_1 ?_
  refine P_aload_n 0 d_MO_isNode_2 rfl rfl ?_
  refine G_MO_nodes tw_583 d_MO_isNode_3 (fun i1 => ?_)
  refine P_iconst d_MO_isNode_6 ?_
  refine P_isub d_MO_isNode_7 ?_
  refine V_MO_in tw_670 d_MO_isNode_8 (by decide) (Nat.le_of_ble_eq_true rfl) hF (fun r3 h2 i4 hF => ?_)
  obtain ⟨b5, hF⟩ := hF
  exact P_zret d_MO_isNode_11 rfl b5 hF
theorem F_MO_children_0 (v1 : Int) (g1 : InR v1) (hF : WP D ad ca sc M_MO_children 4 [(0, .ref (ad 28)), (1, vI v1), (2, vI 0), (3, vI 1)] [] h Q) : WP D ad ca sc M_MO_children 0 [(0, .ref (ad 28)), (1, vI v1)] [] h Q := by
  refine P_iconst d_MO_children_0 ?_
  refine P_istore_n (lv' := [(0, .ref (ad 28)), (1, vI v1), (2, vI 0)]) [1, 2, 0] d_MO_children_1 rfl (by decide) rfl ?_
  refine P_iconst d_MO_children_2 ?_
  refine P_istore_n (lv' := [(0, .ref (ad 28)), (1, vI v1), (2, vI 0), (3, vI 1)]) [1, 2, 3, 0] d_MO_children_3 rfl (by decide) rfl ?_
  refine P_sub (lv' := [(0, .ref (ad 28)), (1, vI v1), (2, vI 0), (3, vI 1)]) [0, 1, 2, 3] rfl ?_
  exact hF
theorem F_MO_children_4 (v1 v2 v3 : Int) (g1 : InR v1) (g2 : InR v2) (g3 : InR v3) (hF : (((h 28 25) ≤ v3 → Q (some (vI v2)) h) ∧ (v3 < (h 28 25) → (0 ≤ v3 ∧ v3 < 24) ∧ ((¬ (h 40 v3) = v1 → WP D ad ca sc M_MO_children 4 [(0, .ref (ad 28)), (1, vI v1), (2, vI (v2 + 0)), (3, vI (v3 + 1))] [] h Q) ∧ ((h 40 v3) = v1 → WP D ad ca sc M_MO_children 4 [(0, .ref (ad 28)), (1, vI v1), (2, vI (v2 + 1)), (3, vI (v3 + 1))] [] h Q))))) : WP D ad ca sc M_MO_children 4 [(0, .ref (ad 28)), (1, vI v1), (2, vI v2), (3, vI v3)] [] h Q := by
  refine P_iload_n 3 d_MO_children_4 rfl rfl ?_
  refine P_aload_n 0 d_MO_children_5 rfl rfl ?_
  refine G_MO_nodes tw_583 d_MO_children_6 (fun i1 => ?_)
  refine P_icmp_ge 36 d_MO_children_9 (by decide) g3 i1 (fun c => ?_) (fun c => ?_)
  · have hF := hF.1 c
    refine P_iload_n 2 d_MO_children_36 rfl rfl ?_
    exact P_iret d_MO_children_37 rfl hF
  · have hF := hF.2 (Int.not_le.mp c)
    refine P_iload_n 2 d_MO_children_12 rfl rfl ?_
    refine P_aload_n 0 d_MO_children_13 rfl rfl ?_
    refine G_MO_parent tw_584 d_MO_children_14 ?_
    refine P_iload_n 3 d_MO_children_17 rfl rfl ?_
    obtain ⟨b2, hF⟩ := hF
    refine L_40 d_MO_children_18 b2 (fun i3 => ?_)
    refine P_iload_n 1 d_MO_children_19 rfl rfl ?_
    refine P_icmp_ne 27 d_MO_children_20 (by decide) i3 g1 (fun c => ?_) (fun c => ?_)
    · have hF := hF.1 c
      refine P_iconst d_MO_children_27 ?_
      refine P_iadd d_MO_children_28 ?_
      refine P_istore_n (lv' := [(0, .ref (ad 28)), (1, vI v1), (2, vI (v2 + 0)), (3, vI v3)]) [1, 2, 0, 3] d_MO_children_29 rfl (by decide) rfl ?_
      refine P_iinc (lv' := [(0, .ref (ad 28)), (1, vI v1), (2, vI (v2 + 0)), (3, vI (v3 + 1))]) 3 [1, 2, 3, 0] d_MO_children_30 rfl (by decide) rfl ?_
      refine P_goto 4 d_MO_children_33 (by decide) ?_
      refine P_sub (lv' := [(0, .ref (ad 28)), (1, vI v1), (2, vI (v2 + 0)), (3, vI (v3 + 1))]) [0, 1, 2, 3] rfl ?_
      exact hF
    · have hF := hF.2 c
      refine P_iconst d_MO_children_23 ?_
      refine P_goto 28 d_MO_children_24 (by decide) ?_
      refine P_iadd d_MO_children_28 ?_
      refine P_istore_n (lv' := [(0, .ref (ad 28)), (1, vI v1), (2, vI (v2 + 1)), (3, vI v3)]) [1, 2, 0, 3] d_MO_children_29 rfl (by decide) rfl ?_
      refine P_iinc (lv' := [(0, .ref (ad 28)), (1, vI v1), (2, vI (v2 + 1)), (3, vI (v3 + 1))]) 3 [1, 2, 3, 0] d_MO_children_30 rfl (by decide) rfl ?_
      refine P_goto 4 d_MO_children_33 (by decide) ?_
      refine P_sub (lv' := [(0, .ref (ad 28)), (1, vI v1), (2, vI (v2 + 1)), (3, vI (v3 + 1))]) [0, 1, 2, 3] rfl ?_
      exact hF
theorem F_MO_depth_0 (v1 : Int) (g1 : InR v1) (hF : WP D ad ca sc M_MO_depth 4 [(0, .ref (ad 28)), (2, vI 0), (3, vI v1)] [] h Q) : WP D ad ca sc M_MO_depth 0 [(0, .ref (ad 28)), (1, vI v1)] [] h Q := by
  refine P_iconst d_MO_depth_0 ?_
  refine P_istore_n (lv' := [(0, .ref (ad 28)), (1, vI v1), (2, vI 0)]) [1, 2, 0] d_MO_depth_1 rfl (by decide) rfl ?_
  refine P_iload_n 1 d_MO_depth_2 rfl rfl ?_
  refine P_istore_n (lv' := [(0, .ref (ad 28)), (1, vI v1), (2, vI 0), (3, vI v1)]) [1, 2, 3, 0] d_MO_depth_3 rfl (by decide) rfl ?_
  refine P_sub (lv' := [(0, .ref (ad 28)), (2, vI 0), (3, vI v1)]) [0, 2, 3] rfl ?_
  exact hF
theorem F_MO_depth_4 (v2 v3 : Int) (g2 : InR v2) (g3 : InR v3) (hF : ((v3 ≤ 0 → Q (some (vI v2)) h) ∧ (0 < v3 → (0 ≤ v3 ∧ v3 < 24) ∧ WP D ad ca sc M_MO_depth 4 [(0, .ref (ad 28)), (2, vI (v2 + 1)), (3, vI (h 40 v3))] [] h Q))) : WP D ad ca sc M_MO_depth 4 [(0, .ref (ad 28)), (2, vI v2), (3, vI v3)] [] h Q := by
  refine P_iload_n 2 d_MO_depth_4 rfl rfl ?_
  refine P_if_le 21 d_MO_depth_5 (by decide) g3 (fun c => ?_) (fun c => ?_)
  · have hF := hF.1 c
    refine P_iload_n 1 d_MO_depth_21 rfl rfl ?_
    exact P_iret d_MO_depth_22 rfl hF
  · have hF := hF.2 (Int.not_le.mp c)
    refine P_iinc (lv' := [(0, .ref (ad 28)), (2, vI (v2 + 1)), (3, vI v3)]) 1 [1, 0, 2] d_MO_depth_8 rfl (by decide) rfl ?_
    refine P_aload_n 0 d_MO_depth_11 rfl rfl ?_
    refine G_MO_parent tw_584 d_MO_depth_12 ?_
    refine P_iload_n 2 d_MO_depth_15 rfl rfl ?_
    obtain ⟨b1, hF⟩ := hF
    refine L_40 d_MO_depth_16 b1 (fun i2 => ?_)
    refine P_istore_n (lv' := [(0, .ref (ad 28)), (2, vI (v2 + 1)), (3, vI (h 40 v3))]) [1, 2, 0] d_MO_depth_17 rfl (by decide) rfl ?_
    refine P_goto 4 d_MO_depth_18 (by decide) ?_
    refine P_sub (lv' := [(0, .ref (ad 28)), (2, vI (v2 + 1)), (3, vI (h 40 v3))]) [0, 1, 2] rfl ?_
    exact hF
theorem F_MO_isShare_0 (v0 v1 : Int) (g0 : InR v0) (g1 : InR v1) (hF : WP D ad ca none M_MO_in 0 [(0, vI v0), (1, vI 0), (2, vI 100)] [] h (RI (fun r2 h1 => ((r2 = 0 → Q (some (vI 0)) h1) ∧ (¬ r2 = 0 → WP D ad ca none M_MO_in 0 [(0, vI v1), (1, vI v0), (2, vI 100)] [] h1 (RI (fun r5 h4 => ((r5 = 0 → Q (some (vI 0)) h4) ∧ (¬ r5 = 0 → Q (some (vI 1)) h4))))))))) : WP D ad ca sc M_MO_isShare 0 [(0, vI v0), (1, vI v1)] [] h Q := by
  refine P_iload_n 0 d_MO_isShare_0 rfl rfl ?_
  refine P_iconst d_MO_isShare_1 ?_
  refine P_bipush d_MO_isShare_2 (by decide) ?_
  refine V_MO_in tw_670 d_MO_isShare_4 (by decide) (Nat.le_of_ble_eq_true rfl) hF (fun r2 h1 i3 hF => ?_)
  refine P_if_eq 24 d_MO_isShare_7 (by decide) i3 (fun c => ?_) (fun c => ?_)
  · have hF := hF.1 c
    refine P_iconst d_MO_isShare_24 ?_
    exact P_zret d_MO_isShare_25 rfl (Or.inl rfl) hF
  · have hF := hF.2 c
    refine P_iload_n 1 d_MO_isShare_10 rfl rfl ?_
    refine P_iload_n 0 d_MO_isShare_11 rfl rfl ?_
    refine P_bipush d_MO_isShare_12 (by decide) ?_
    refine V_MO_in tw_670 d_MO_isShare_14 (by decide) (Nat.le_of_ble_eq_true rfl) hF (fun r5 h4 i6 hF => ?_)
    refine P_if_eq 24 d_MO_isShare_17 (by decide) i6 (fun c => ?_) (fun c => ?_)
    · have hF := hF.1 c
      refine P_iconst d_MO_isShare_24 ?_
      exact P_zret d_MO_isShare_25 rfl (Or.inl rfl) hF
    · have hF := hF.2 c
      refine P_iconst d_MO_isShare_20 ?_
      refine P_goto 25 d_MO_isShare_21 (by decide) ?_
      exact P_zret d_MO_isShare_25 rfl (Or.inr rfl) hF
theorem F_MO_node_0 (v1 v2 v3 : Int) (g1 : InR v1) (g2 : InR v2) (g3 : InR v3) (hF : WP D ad ca none M_MO_isNode 0 [(0, .ref (ad 28)), (1, vI v1)] [] h (RI (fun r2 h1 => ((¬ r2 = 0 → WP D ad ca none M_MO_isShare 0 [(0, vI v2), (1, vI v3)] [] h1 (RI (fun r5 h4 => ((¬ r5 = 0 → ((¬ (h4 28 25) = 24 → WP D ad ca none M_MO_depth 0 [(0, .ref (ad 28)), (1, vI v1)] [] h4 (RI (fun r9 h8 => ((r9 = 4 → Q (some (vI (-5))) h8) ∧ (¬ r9 = 4 → WP D ad ca none M_MO_children 0 [(0, .ref (ad 28)), (1, vI v1)] [] h8 (RI (fun r12 h11 => ((¬ r12 = 6 → (0 ≤ (h11 28 25) ∧ (h11 28 25) < 24) ∧ (0 ≤ (h11 28 25) ∧ (h11 28 25) < 24) ∧ (0 ≤ (h11 28 25) ∧ (h11 28 25) < 24) ∧ (0 ≤ (h11 28 25) ∧ (h11 28 25) < 24) ∧ (InR ((h11 28 25) + 1)) ∧ Q (some (vI (((h11 28 25) + 1) - 1))) (up (up (up (up (up h11 40 (h11 28 25) v1) 41 (h11 28 25) v2) 42 (h11 28 25) v3) 43 (h11 28 25) 0) 28 25 ((h11 28 25) + 1))) ∧ (r12 = 6 → Q (some (vI (-5))) h11))))))))) ∧ ((h4 28 25) = 24 → Q (some (vI (-4))) h4))) ∧ (r5 = 0 → Q (some (vI (-2))) h4))))) ∧ (r2 = 0 → Q (some (vI (-1))) h1))))) : WP D ad ca sc M_MO_node 0 [(0, .ref (ad 28)), (1, vI v1), (2, vI v2), (3, vI v3)] [] h Q := by
  refine P_aload_n 0 d_MO_node_0 rfl rfl ?_
  refine P_iload_n 1 d_MO_node_1 rfl rfl ?_
  refine V_MO_isNode tw_816 d_MO_node_2 (by decide) (Nat.le_of_ble_eq_true rfl) hF (fun r2 h1 i3 hF => ?_)
  refine P_if_ne 10 d_MO_node_5 (by decide) i3 (fun c => ?_) (fun c => ?_)
  · have hF := hF.1 c
    refine P_iload_n 2 d_MO_node_10 rfl rfl ?_
    refine P_iload_n 3 d_MO_node_11 rfl rfl ?_
    refine V_MO_isShare tw_820 d_MO_node_12 (by decide) (Nat.le_of_ble_eq_true rfl) hF (fun r5 h4 i6 hF => ?_)
    refine P_if_ne 21 d_MO_node_15 (by decide) i6 (fun c => ?_) (fun c => ?_)
    · have hF := hF.1 c
      refine P_aload_n 0 d_MO_node_21 rfl rfl ?_
      refine G_MO_nodes tw_583 d_MO_node_22 (fun i7 => ?_)
      refine P_bipush d_MO_node_25 (by decide) ?_
      refine P_icmp_ne 33 d_MO_node_27 (by decide) i7 ⟨by decide, by decide⟩ (fun c => ?_) (fun c => ?_)
      · have hF := hF.1 c
        refine P_aload_n 0 d_MO_node_33 rfl rfl ?_
        refine P_iload_n 1 d_MO_node_34 rfl rfl ?_
        refine V_MO_depth tw_823 d_MO_node_35 (by decide) (Nat.le_of_ble_eq_true rfl) hF (fun r9 h8 i10 hF => ?_)
        refine P_iconst d_MO_node_38 ?_
        refine P_icmp_eq 52 d_MO_node_39 (by decide) i10 ⟨by decide, by decide⟩ (fun c => ?_) (fun c => ?_)
        · have hF := hF.1 c
          refine P_bipush d_MO_node_52 (by decide) ?_
          exact P_iret d_MO_node_54 rfl hF
        · have hF := hF.2 c
          refine P_aload_n 0 d_MO_node_42 rfl rfl ?_
          refine P_iload_n 1 d_MO_node_43 rfl rfl ?_
          refine V_MO_children tw_827 d_MO_node_44 (by decide) (Nat.le_of_ble_eq_true rfl) hF (fun r12 h11 i13 hF => ?_)
          refine P_bipush d_MO_node_47 (by decide) ?_
          refine P_icmp_ne 55 d_MO_node_49 (by decide) i13 ⟨by decide, by decide⟩ (fun c => ?_) (fun c => ?_)
          · have hF := hF.1 c
            refine P_aload_n 0 d_MO_node_55 rfl rfl ?_
            refine G_MO_parent tw_584 d_MO_node_56 ?_
            refine P_aload_n 0 d_MO_node_59 rfl rfl ?_
            refine G_MO_nodes tw_583 d_MO_node_60 (fun i14 => ?_)
            refine P_iload_n 1 d_MO_node_63 rfl rfl ?_
            obtain ⟨b15, hF⟩ := hF
            refine T_40 d_MO_node_64 b15 g1 ?_
            refine P_aload_n 0 d_MO_node_65 rfl rfl ?_
            refine G_MO_low tw_585 d_MO_node_66 ?_
            refine P_aload_n 0 d_MO_node_69 rfl rfl ?_
            refine G_MO_nodes tw_583 d_MO_node_70 (fun i16 => ?_)
            refine P_iload_n 2 d_MO_node_73 rfl rfl ?_
            obtain ⟨b17, hF⟩ := hF
            refine T_41 d_MO_node_74 b17 g2 ?_
            refine P_aload_n 0 d_MO_node_75 rfl rfl ?_
            refine G_MO_high tw_586 d_MO_node_76 ?_
            refine P_aload_n 0 d_MO_node_79 rfl rfl ?_
            refine G_MO_nodes tw_583 d_MO_node_80 (fun i18 => ?_)
            refine P_iload_n 3 d_MO_node_83 rfl rfl ?_
            obtain ⟨b19, hF⟩ := hF
            refine T_42 d_MO_node_84 b19 g3 ?_
            refine P_aload_n 0 d_MO_node_85 rfl rfl ?_
            refine G_MO_isFeared tw_587 d_MO_node_86 ?_
            refine P_aload_n 0 d_MO_node_89 rfl rfl ?_
            refine G_MO_nodes tw_583 d_MO_node_90 (fun i20 => ?_)
            refine P_iconst d_MO_node_93 ?_
            obtain ⟨b21, hF⟩ := hF
            refine T_43 d_MO_node_94 b21 (Or.inl rfl) ?_
            refine P_aload_n 0 d_MO_node_95 rfl rfl ?_
            refine P_dup d_MO_node_96 rfl ?_
            refine G_MO_nodes tw_583 d_MO_node_97 (fun i22 => ?_)
            refine P_iconst d_MO_node_100 ?_
            refine P_iadd d_MO_node_101 ?_
            obtain ⟨b23, hF⟩ := hF
            refine S_MO_nodes tw_583 d_MO_node_102 b23 ?_
            refine P_aload_n 0 d_MO_node_105 rfl rfl ?_
            refine G_MO_nodes tw_583 d_MO_node_106 (fun i24 => ?_)
            refine P_iconst d_MO_node_109 ?_
            refine P_isub d_MO_node_110 ?_
            exact P_iret d_MO_node_111 rfl hF
          · have hF := hF.2 c
            refine P_bipush d_MO_node_52 (by decide) ?_
            exact P_iret d_MO_node_54 rfl hF
      · have hF := hF.2 c
        refine P_bipush d_MO_node_30 (by decide) ?_
        exact P_iret d_MO_node_32 rfl hF
    · have hF := hF.2 c
      refine P_bipush d_MO_node_18 (by decide) ?_
      exact P_iret d_MO_node_20 rfl hF
  · have hF := hF.2 c
    refine P_iconst d_MO_node_8 ?_
    exact P_iret d_MO_node_9 rfl hF
theorem F_MO_share_0 (v1 v2 v3 : Int) (g1 : InR v1) (g2 : InR v2) (g3 : InR v3) (hF : ((v1 = 0 → Q (some (vI (-1))) h) ∧ (¬ v1 = 0 → WP D ad ca none M_MO_isNode 0 [(0, .ref (ad 28)), (1, vI v1)] [] h (RI (fun r2 h1 => ((¬ r2 = 0 → WP D ad ca none M_MO_isShare 0 [(0, vI v2), (1, vI v3)] [] h1 (RI (fun r5 h4 => ((¬ r5 = 0 → (0 ≤ v1 ∧ v1 < 24) ∧ (0 ≤ v1 ∧ v1 < 24) ∧ Q (some (vI 1)) (up (up h4 41 v1 v2) 42 v1 v3)) ∧ (r5 = 0 → Q (some (vI (-2))) h4))))) ∧ (r2 = 0 → Q (some (vI (-1))) h1))))))) : WP D ad ca sc M_MO_share 0 [(0, .ref (ad 28)), (1, vI v1), (2, vI v2), (3, vI v3)] [] h Q := by
  refine P_iload_n 1 d_MO_share_0 rfl rfl ?_
  refine P_if_eq 12 d_MO_share_1 (by decide) g1 (fun c => ?_) (fun c => ?_)
  · have hF := hF.1 c
    refine P_iconst d_MO_share_12 ?_
    exact P_iret d_MO_share_13 rfl hF
  · have hF := hF.2 c
    refine P_aload_n 0 d_MO_share_4 rfl rfl ?_
    refine P_iload_n 1 d_MO_share_5 rfl rfl ?_
    refine V_MO_isNode tw_816 d_MO_share_6 (by decide) (Nat.le_of_ble_eq_true rfl) hF (fun r2 h1 i3 hF => ?_)
    refine P_if_ne 14 d_MO_share_9 (by decide) i3 (fun c => ?_) (fun c => ?_)
    · have hF := hF.1 c
      refine P_iload_n 2 d_MO_share_14 rfl rfl ?_
      refine P_iload_n 3 d_MO_share_15 rfl rfl ?_
      refine V_MO_isShare tw_820 d_MO_share_16 (by decide) (Nat.le_of_ble_eq_true rfl) hF (fun r5 h4 i6 hF => ?_)
      refine P_if_ne 25 d_MO_share_19 (by decide) i6 (fun c => ?_) (fun c => ?_)
      · have hF := hF.1 c
        refine P_aload_n 0 d_MO_share_25 rfl rfl ?_
        refine G_MO_low tw_585 d_MO_share_26 ?_
        refine P_iload_n 1 d_MO_share_29 rfl rfl ?_
        refine P_iload_n 2 d_MO_share_30 rfl rfl ?_
        obtain ⟨b7, hF⟩ := hF
        refine T_41 d_MO_share_31 b7 g2 ?_
        refine P_aload_n 0 d_MO_share_32 rfl rfl ?_
        refine G_MO_high tw_586 d_MO_share_33 ?_
        refine P_iload_n 1 d_MO_share_36 rfl rfl ?_
        refine P_iload_n 3 d_MO_share_37 rfl rfl ?_
        obtain ⟨b8, hF⟩ := hF
        refine T_42 d_MO_share_38 b8 g3 ?_
        refine P_iconst d_MO_share_39 ?_
        exact P_iret d_MO_share_40 rfl hF
      · have hF := hF.2 c
        refine P_bipush d_MO_share_22 (by decide) ?_
        exact P_iret d_MO_share_24 rfl hF
    · have hF := hF.2 c
      refine P_iconst d_MO_share_12 ?_
      exact P_iret d_MO_share_13 rfl hF
theorem F_MO_fear_0 (v1 v2 : Int) (g1 : InR v1) (g2 : InR v2) (hF : WP D ad ca none M_MO_isNode 0 [(0, .ref (ad 28)), (1, vI v1)] [] h (RI (fun r2 h1 => ((¬ r2 = 0 → (0 ≤ v1 ∧ v1 < 24) ∧ (((h1 43 v1) = 0 → (0 ≤ v1 ∧ v1 < 24) ∧ (v2 = 0 ∨ v2 = 1) ∧ Q (some (vI 0)) (up h1 43 v1 v2)) ∧ (¬ (h1 43 v1) = 0 → (0 ≤ v1 ∧ v1 < 24) ∧ (v2 = 0 ∨ v2 = 1) ∧ Q (some (vI 1)) (up h1 43 v1 v2)))) ∧ (r2 = 0 → Q (some (vI (-1))) h1))))) : WP D ad ca sc M_MO_fear 0 [(0, .ref (ad 28)), (1, vI v1), (2, vI v2)] [] h Q := by
  refine P_aload_n 0 d_MO_fear_0 rfl rfl ?_
  refine P_iload_n 1 d_MO_fear_1 rfl rfl ?_
  refine V_MO_isNode tw_816 d_MO_fear_2 (by decide) (Nat.le_of_ble_eq_true rfl) hF (fun r2 h1 i3 hF => ?_)
  refine P_if_ne 10 d_MO_fear_5 (by decide) i3 (fun c => ?_) (fun c => ?_)
  · have hF := hF.1 c
    refine P_aload_n 0 d_MO_fear_10 rfl rfl ?_
    refine G_MO_isFeared tw_587 d_MO_fear_11 ?_
    refine P_iload_n 1 d_MO_fear_14 rfl rfl ?_
    obtain ⟨b4, hF⟩ := hF
    refine L_43 d_MO_fear_15 b4 (fun i5 => ?_)
    refine P_if_eq 23 d_MO_fear_16 (by decide) i5 (fun c => ?_) (fun c => ?_)
    · have hF := hF.1 c
      refine P_iconst d_MO_fear_23 ?_
      refine P_istore_n (lv' := [(0, .ref (ad 28)), (1, vI v1), (2, vI v2), (3, vI 0)]) [1, 2, 3, 0] d_MO_fear_24 rfl (by decide) rfl ?_
      refine P_aload_n 0 d_MO_fear_25 rfl rfl ?_
      refine G_MO_isFeared tw_587 d_MO_fear_26 ?_
      refine P_iload_n 1 d_MO_fear_29 rfl rfl ?_
      refine P_iload_n 2 d_MO_fear_30 rfl rfl ?_
      obtain ⟨b6, hF⟩ := hF
      obtain ⟨b7, hF⟩ := hF
      refine T_43 d_MO_fear_31 b6 b7 ?_
      refine P_iload_n 3 d_MO_fear_32 rfl rfl ?_
      exact P_iret d_MO_fear_33 rfl hF
    · have hF := hF.2 c
      refine P_iconst d_MO_fear_19 ?_
      refine P_goto 24 d_MO_fear_20 (by decide) ?_
      refine P_istore_n (lv' := [(0, .ref (ad 28)), (1, vI v1), (2, vI v2), (3, vI 1)]) [1, 2, 3, 0] d_MO_fear_24 rfl (by decide) rfl ?_
      refine P_aload_n 0 d_MO_fear_25 rfl rfl ?_
      refine G_MO_isFeared tw_587 d_MO_fear_26 ?_
      refine P_iload_n 1 d_MO_fear_29 rfl rfl ?_
      refine P_iload_n 2 d_MO_fear_30 rfl rfl ?_
      obtain ⟨b8, hF⟩ := hF
      obtain ⟨b9, hF⟩ := hF
      refine T_43 d_MO_fear_31 b8 b9 ?_
      refine P_iload_n 3 d_MO_fear_32 rfl rfl ?_
      exact P_iret d_MO_fear_33 rfl hF
  · have hF := hF.2 c
    refine P_iconst d_MO_fear_8 ?_
    exact P_iret d_MO_fear_9 rfl hF
theorem F_MO_bounds_41_0 (v1 : Int) (g1 : InR v1) (hF : WP D ad ca sc M_MO_bounds 5 [(0, .ref (ad 28)), (1, vI v1), (2, .ref (ad 41)), (3, vI 0), (4, vI 1)] [] h Q) : WP D ad ca sc M_MO_bounds 0 [(0, .ref (ad 28)), (1, vI v1), (2, .ref (ad 41))] [] h Q := by
  refine P_iconst d_MO_bounds_0 ?_
  refine P_istore_n (lv' := [(0, .ref (ad 28)), (1, vI v1), (2, .ref (ad 41)), (3, vI 0)]) [1, 2, 3, 0] d_MO_bounds_1 rfl (by decide) rfl ?_
  refine P_iconst d_MO_bounds_2 ?_
  refine P_istore (lv' := [(0, .ref (ad 28)), (1, vI v1), (2, .ref (ad 41)), (3, vI 0), (4, vI 1)]) [1, 2, 3, 4, 0] d_MO_bounds_3 (by decide) rfl ?_
  refine P_sub (lv' := [(0, .ref (ad 28)), (1, vI v1), (2, .ref (ad 41)), (3, vI 0), (4, vI 1)]) [0, 1, 2, 3, 4] rfl ?_
  exact hF
theorem F_MO_bounds_41_5 (v1 v3 v4 : Int) (g1 : InR v1) (g3 : InR v3) (g4 : InR v4) (hF : (((h 28 25) ≤ v4 → Q (some (vI v3)) h) ∧ (v4 < (h 28 25) → (0 ≤ v4 ∧ v4 < 24) ∧ ((¬ (h 40 v4) = v1 → WP D ad ca sc M_MO_bounds 5 [(0, .ref (ad 28)), (1, vI v1), (2, .ref (ad 41)), (3, vI (v3 + 0)), (4, vI (v4 + 1))] [] h Q) ∧ ((h 40 v4) = v1 → (0 ≤ v4 ∧ v4 < 24) ∧ WP D ad ca sc M_MO_bounds 5 [(0, .ref (ad 28)), (1, vI v1), (2, .ref (ad 41)), (3, vI (v3 + (h 41 v4))), (4, vI (v4 + 1))] [] h Q))))) : WP D ad ca sc M_MO_bounds 5 [(0, .ref (ad 28)), (1, vI v1), (2, .ref (ad 41)), (3, vI v3), (4, vI v4)] [] h Q := by
  refine P_iload 4 d_MO_bounds_5 rfl ?_
  refine P_aload_n 0 d_MO_bounds_7 rfl rfl ?_
  refine G_MO_nodes tw_583 d_MO_bounds_8 (fun i1 => ?_)
  refine P_icmp_ge 42 d_MO_bounds_11 (by decide) g4 i1 (fun c => ?_) (fun c => ?_)
  · have hF := hF.1 c
    refine P_iload_n 3 d_MO_bounds_42 rfl rfl ?_
    exact P_iret d_MO_bounds_43 rfl hF
  · have hF := hF.2 (Int.not_le.mp c)
    refine P_iload_n 3 d_MO_bounds_14 rfl rfl ?_
    refine P_aload_n 0 d_MO_bounds_15 rfl rfl ?_
    refine G_MO_parent tw_584 d_MO_bounds_16 ?_
    refine P_iload 4 d_MO_bounds_19 rfl ?_
    obtain ⟨b2, hF⟩ := hF
    refine L_40 d_MO_bounds_21 b2 (fun i3 => ?_)
    refine P_iload_n 1 d_MO_bounds_22 rfl rfl ?_
    refine P_icmp_ne 33 d_MO_bounds_23 (by decide) i3 g1 (fun c => ?_) (fun c => ?_)
    · have hF := hF.1 c
      refine P_iconst d_MO_bounds_33 ?_
      refine P_iadd d_MO_bounds_34 ?_
      refine P_istore_n (lv' := [(0, .ref (ad 28)), (1, vI v1), (2, .ref (ad 41)), (3, vI (v3 + 0)), (4, vI v4)]) [1, 2, 3, 0, 4] d_MO_bounds_35 rfl (by decide) rfl ?_
      refine P_iinc (lv' := [(0, .ref (ad 28)), (1, vI v1), (2, .ref (ad 41)), (3, vI (v3 + 0)), (4, vI (v4 + 1))]) 4 [1, 2, 3, 4, 0] d_MO_bounds_36 rfl (by decide) rfl ?_
      refine P_goto 5 d_MO_bounds_39 (by decide) ?_
      refine P_sub (lv' := [(0, .ref (ad 28)), (1, vI v1), (2, .ref (ad 41)), (3, vI (v3 + 0)), (4, vI (v4 + 1))]) [0, 1, 2, 3, 4] rfl ?_
      exact hF
    · have hF := hF.2 c
      refine P_aload_n 2 d_MO_bounds_26 rfl rfl ?_
      refine P_iload 4 d_MO_bounds_27 rfl ?_
      obtain ⟨b4, hF⟩ := hF
      refine L_41 d_MO_bounds_29 b4 (fun i5 => ?_)
      refine P_goto 34 d_MO_bounds_30 (by decide) ?_
      refine P_iadd d_MO_bounds_34 ?_
      refine P_istore_n (lv' := [(0, .ref (ad 28)), (1, vI v1), (2, .ref (ad 41)), (3, vI (v3 + (h 41 v4))), (4, vI v4)]) [1, 2, 3, 0, 4] d_MO_bounds_35 rfl (by decide) rfl ?_
      refine P_iinc (lv' := [(0, .ref (ad 28)), (1, vI v1), (2, .ref (ad 41)), (3, vI (v3 + (h 41 v4))), (4, vI (v4 + 1))]) 4 [1, 2, 3, 4, 0] d_MO_bounds_36 rfl (by decide) rfl ?_
      refine P_goto 5 d_MO_bounds_39 (by decide) ?_
      refine P_sub (lv' := [(0, .ref (ad 28)), (1, vI v1), (2, .ref (ad 41)), (3, vI (v3 + (h 41 v4))), (4, vI (v4 + 1))]) [0, 1, 2, 3, 4] rfl ?_
      exact hF
theorem F_MO_bounds_42_0 (v1 : Int) (g1 : InR v1) (hF : WP D ad ca sc M_MO_bounds 5 [(0, .ref (ad 28)), (1, vI v1), (2, .ref (ad 42)), (3, vI 0), (4, vI 1)] [] h Q) : WP D ad ca sc M_MO_bounds 0 [(0, .ref (ad 28)), (1, vI v1), (2, .ref (ad 42))] [] h Q := by
  refine P_iconst d_MO_bounds_0 ?_
  refine P_istore_n (lv' := [(0, .ref (ad 28)), (1, vI v1), (2, .ref (ad 42)), (3, vI 0)]) [1, 2, 3, 0] d_MO_bounds_1 rfl (by decide) rfl ?_
  refine P_iconst d_MO_bounds_2 ?_
  refine P_istore (lv' := [(0, .ref (ad 28)), (1, vI v1), (2, .ref (ad 42)), (3, vI 0), (4, vI 1)]) [1, 2, 3, 4, 0] d_MO_bounds_3 (by decide) rfl ?_
  refine P_sub (lv' := [(0, .ref (ad 28)), (1, vI v1), (2, .ref (ad 42)), (3, vI 0), (4, vI 1)]) [0, 1, 2, 3, 4] rfl ?_
  exact hF
theorem F_MO_bounds_42_5 (v1 v3 v4 : Int) (g1 : InR v1) (g3 : InR v3) (g4 : InR v4) (hF : (((h 28 25) ≤ v4 → Q (some (vI v3)) h) ∧ (v4 < (h 28 25) → (0 ≤ v4 ∧ v4 < 24) ∧ ((¬ (h 40 v4) = v1 → WP D ad ca sc M_MO_bounds 5 [(0, .ref (ad 28)), (1, vI v1), (2, .ref (ad 42)), (3, vI (v3 + 0)), (4, vI (v4 + 1))] [] h Q) ∧ ((h 40 v4) = v1 → (0 ≤ v4 ∧ v4 < 24) ∧ WP D ad ca sc M_MO_bounds 5 [(0, .ref (ad 28)), (1, vI v1), (2, .ref (ad 42)), (3, vI (v3 + (h 42 v4))), (4, vI (v4 + 1))] [] h Q))))) : WP D ad ca sc M_MO_bounds 5 [(0, .ref (ad 28)), (1, vI v1), (2, .ref (ad 42)), (3, vI v3), (4, vI v4)] [] h Q := by
  refine P_iload 4 d_MO_bounds_5 rfl ?_
  refine P_aload_n 0 d_MO_bounds_7 rfl rfl ?_
  refine G_MO_nodes tw_583 d_MO_bounds_8 (fun i1 => ?_)
  refine P_icmp_ge 42 d_MO_bounds_11 (by decide) g4 i1 (fun c => ?_) (fun c => ?_)
  · have hF := hF.1 c
    refine P_iload_n 3 d_MO_bounds_42 rfl rfl ?_
    exact P_iret d_MO_bounds_43 rfl hF
  · have hF := hF.2 (Int.not_le.mp c)
    refine P_iload_n 3 d_MO_bounds_14 rfl rfl ?_
    refine P_aload_n 0 d_MO_bounds_15 rfl rfl ?_
    refine G_MO_parent tw_584 d_MO_bounds_16 ?_
    refine P_iload 4 d_MO_bounds_19 rfl ?_
    obtain ⟨b2, hF⟩ := hF
    refine L_40 d_MO_bounds_21 b2 (fun i3 => ?_)
    refine P_iload_n 1 d_MO_bounds_22 rfl rfl ?_
    refine P_icmp_ne 33 d_MO_bounds_23 (by decide) i3 g1 (fun c => ?_) (fun c => ?_)
    · have hF := hF.1 c
      refine P_iconst d_MO_bounds_33 ?_
      refine P_iadd d_MO_bounds_34 ?_
      refine P_istore_n (lv' := [(0, .ref (ad 28)), (1, vI v1), (2, .ref (ad 42)), (3, vI (v3 + 0)), (4, vI v4)]) [1, 2, 3, 0, 4] d_MO_bounds_35 rfl (by decide) rfl ?_
      refine P_iinc (lv' := [(0, .ref (ad 28)), (1, vI v1), (2, .ref (ad 42)), (3, vI (v3 + 0)), (4, vI (v4 + 1))]) 4 [1, 2, 3, 4, 0] d_MO_bounds_36 rfl (by decide) rfl ?_
      refine P_goto 5 d_MO_bounds_39 (by decide) ?_
      refine P_sub (lv' := [(0, .ref (ad 28)), (1, vI v1), (2, .ref (ad 42)), (3, vI (v3 + 0)), (4, vI (v4 + 1))]) [0, 1, 2, 3, 4] rfl ?_
      exact hF
    · have hF := hF.2 c
      refine P_aload_n 2 d_MO_bounds_26 rfl rfl ?_
      refine P_iload 4 d_MO_bounds_27 rfl ?_
      obtain ⟨b4, hF⟩ := hF
      refine L_42 d_MO_bounds_29 b4 (fun i5 => ?_)
      refine P_goto 34 d_MO_bounds_30 (by decide) ?_
      refine P_iadd d_MO_bounds_34 ?_
      refine P_istore_n (lv' := [(0, .ref (ad 28)), (1, vI v1), (2, .ref (ad 42)), (3, vI (v3 + (h 42 v4))), (4, vI v4)]) [1, 2, 3, 0, 4] d_MO_bounds_35 rfl (by decide) rfl ?_
      refine P_iinc (lv' := [(0, .ref (ad 28)), (1, vI v1), (2, .ref (ad 42)), (3, vI (v3 + (h 42 v4))), (4, vI (v4 + 1))]) 4 [1, 2, 3, 4, 0] d_MO_bounds_36 rfl (by decide) rfl ?_
      refine P_goto 5 d_MO_bounds_39 (by decide) ?_
      refine P_sub (lv' := [(0, .ref (ad 28)), (1, vI v1), (2, .ref (ad 42)), (3, vI (v3 + (h 42 v4))), (4, vI (v4 + 1))]) [0, 1, 2, 3, 4] rfl ?_
      exact hF
theorem F_MO_isSound_0  (hF : WP D ad ca sc M_MO_isSound 4 [(0, .ref (ad 28)), (1, vI 1), (2, vI 0)] [] h Q) : WP D ad ca sc M_MO_isSound 0 [(0, .ref (ad 28))] [] h Q := by
  refine P_iconst d_MO_isSound_0 ?_
  refine P_istore_n (lv' := [(0, .ref (ad 28)), (1, vI 1)]) [1, 0] d_MO_isSound_1 rfl (by decide) rfl ?_
  refine P_iconst d_MO_isSound_2 ?_
  refine P_istore_n (lv' := [(0, .ref (ad 28)), (1, vI 1), (2, vI 0)]) [1, 2, 0] d_MO_isSound_3 rfl (by decide) rfl ?_
  refine P_sub (lv' := [(0, .ref (ad 28)), (1, vI 1), (2, vI 0)]) [0, 1, 2] rfl ?_
  exact hF
theorem F_MO_isSound_4 (v1 v2 : Int) (g1 : InR v1) (g2 : InR v2) (hF : (((h 28 25) ≤ v2 → (v1 = 0 ∨ v1 = 1) ∧ Q (some (vI v1)) h) ∧ (v2 < (h 28 25) → ((v1 = 0 → WP D ad ca sc M_MO_isSound 4 [(0, .ref (ad 28)), (1, vI 0), (2, vI (v2 + 1))] [] h Q) ∧ (¬ v1 = 0 → WP D ad ca none M_MO_children 0 [(0, .ref (ad 28)), (1, vI v2)] [] h (RI (fun r4 h3 => ((r4 = 0 → WP D ad ca sc M_MO_isSound 4 [(0, .ref (ad 28)), (1, vI 1), (2, vI (v2 + 1))] [] h3 Q) ∧ (¬ r4 = 0 → WP D ad ca none M_MO_bounds 0 [(0, .ref (ad 28)), (1, vI v2), (2, .ref (ad 41))] [] h3 (RI (fun r7 h6 => ((100 < r7 → WP D ad ca sc M_MO_isSound 4 [(0, .ref (ad 28)), (1, vI 0), (2, vI (v2 + 1))] [] h6 Q) ∧ (r7 ≤ 100 → WP D ad ca none M_MO_bounds 0 [(0, .ref (ad 28)), (1, vI v2), (2, .ref (ad 42))] [] h6 (RI (fun r10 h9 => ((r10 < 100 → WP D ad ca sc M_MO_isSound 4 [(0, .ref (ad 28)), (1, vI 0), (2, vI (v2 + 1))] [] h9 Q) ∧ (100 ≤ r10 → WP D ad ca sc M_MO_isSound 4 [(0, .ref (ad 28)), (1, vI 1), (2, vI (v2 + 1))] [] h9 Q))))))))))))))))) : WP D ad ca sc M_MO_isSound 4 [(0, .ref (ad 28)), (1, vI v1), (2, vI v2)] [] h Q := by
  refine P_iload_n 2 d_MO_isSound_4 rfl rfl ?_
  refine P_aload_n 0 d_MO_isSound_5 rfl rfl ?_
  refine G_MO_nodes tw_583 d_MO_isSound_6 (fun i1 => ?_)
  refine P_icmp_ge 64 d_MO_isSound_9 (by decide) g2 i1 (fun c => ?_) (fun c => ?_)
  · have hF := hF.1 c
    refine P_iload_n 1 d_MO_isSound_64 rfl rfl ?_
    obtain ⟨b2, hF⟩ := hF
    exact P_zret d_MO_isSound_65 rfl b2 hF
  · have hF := hF.2 (Int.not_le.mp c)
    refine P_iload_n 1 d_MO_isSound_12 rfl rfl ?_
    refine P_if_eq 56 d_MO_isSound_13 (by decide) g1 (fun c => ?_) (fun c => ?_)
    · have hF := hF.1 c
      refine P_iconst d_MO_isSound_56 ?_
      refine P_istore_n (lv' := [(0, .ref (ad 28)), (1, vI 0), (2, vI v2)]) [1, 0, 2] d_MO_isSound_57 rfl (by decide) rfl ?_
      refine P_iinc (lv' := [(0, .ref (ad 28)), (1, vI 0), (2, vI (v2 + 1))]) 2 [1, 2, 0] d_MO_isSound_58 rfl (by decide) rfl ?_
      refine P_goto 4 d_MO_isSound_61 (by decide) ?_
      refine P_sub (lv' := [(0, .ref (ad 28)), (1, vI 0), (2, vI (v2 + 1))]) [0, 1, 2] rfl ?_
      exact hF
    · have hF := hF.2 c
      refine P_aload_n 0 d_MO_isSound_16 rfl rfl ?_
      refine P_iload_n 2 d_MO_isSound_17 rfl rfl ?_
      refine V_MO_children tw_827 d_MO_isSound_18 (by decide) (Nat.le_of_ble_eq_true rfl) hF (fun r4 h3 i5 hF => ?_)
      refine P_if_eq 52 d_MO_isSound_21 (by decide) i5 (fun c => ?_) (fun c => ?_)
      · have hF := hF.1 c
        refine P_iconst d_MO_isSound_52 ?_
        refine P_goto 57 d_MO_isSound_53 (by decide) ?_
        refine P_istore_n (lv' := [(0, .ref (ad 28)), (1, vI 1), (2, vI v2)]) [1, 0, 2] d_MO_isSound_57 rfl (by decide) rfl ?_
        refine P_iinc (lv' := [(0, .ref (ad 28)), (1, vI 1), (2, vI (v2 + 1))]) 2 [1, 2, 0] d_MO_isSound_58 rfl (by decide) rfl ?_
        refine P_goto 4 d_MO_isSound_61 (by decide) ?_
        refine P_sub (lv' := [(0, .ref (ad 28)), (1, vI 1), (2, vI (v2 + 1))]) [0, 1, 2] rfl ?_
        exact hF
      · have hF := hF.2 c
        refine P_aload_n 0 d_MO_isSound_24 rfl rfl ?_
        refine P_iload_n 2 d_MO_isSound_25 rfl rfl ?_
        refine P_aload_n 0 d_MO_isSound_26 rfl rfl ?_
        refine G_MO_low tw_585 d_MO_isSound_27 ?_
        refine V_MO_bounds tw_847 d_MO_isSound_30 (by decide) (Nat.le_of_ble_eq_true rfl) hF (fun r7 h6 i8 hF => ?_)
        refine P_bipush d_MO_isSound_33 (by decide) ?_
        refine P_icmp_gt 56 d_MO_isSound_35 (by decide) i8 ⟨by decide, by decide⟩ (fun c => ?_) (fun c => ?_)
        · have hF := hF.1 c
          refine P_iconst d_MO_isSound_56 ?_
          refine P_istore_n (lv' := [(0, .ref (ad 28)), (1, vI 0), (2, vI v2)]) [1, 0, 2] d_MO_isSound_57 rfl (by decide) rfl ?_
          refine P_iinc (lv' := [(0, .ref (ad 28)), (1, vI 0), (2, vI (v2 + 1))]) 2 [1, 2, 0] d_MO_isSound_58 rfl (by decide) rfl ?_
          refine P_goto 4 d_MO_isSound_61 (by decide) ?_
          refine P_sub (lv' := [(0, .ref (ad 28)), (1, vI 0), (2, vI (v2 + 1))]) [0, 1, 2] rfl ?_
          exact hF
        · have hF := hF.2 (Int.not_lt.mp c)
          refine P_aload_n 0 d_MO_isSound_38 rfl rfl ?_
          refine P_iload_n 2 d_MO_isSound_39 rfl rfl ?_
          refine P_aload_n 0 d_MO_isSound_40 rfl rfl ?_
          refine G_MO_high tw_586 d_MO_isSound_41 ?_
          refine V_MO_bounds tw_847 d_MO_isSound_44 (by decide) (Nat.le_of_ble_eq_true rfl) hF (fun r10 h9 i11 hF => ?_)
          refine P_bipush d_MO_isSound_47 (by decide) ?_
          refine P_icmp_lt 56 d_MO_isSound_49 (by decide) i11 ⟨by decide, by decide⟩ (fun c => ?_) (fun c => ?_)
          · have hF := hF.1 c
            refine P_iconst d_MO_isSound_56 ?_
            refine P_istore_n (lv' := [(0, .ref (ad 28)), (1, vI 0), (2, vI v2)]) [1, 0, 2] d_MO_isSound_57 rfl (by decide) rfl ?_
            refine P_iinc (lv' := [(0, .ref (ad 28)), (1, vI 0), (2, vI (v2 + 1))]) 2 [1, 2, 0] d_MO_isSound_58 rfl (by decide) rfl ?_
            refine P_goto 4 d_MO_isSound_61 (by decide) ?_
            refine P_sub (lv' := [(0, .ref (ad 28)), (1, vI 0), (2, vI (v2 + 1))]) [0, 1, 2] rfl ?_
            exact hF
          · have hF := hF.2 (Int.not_lt.mp c)
            refine P_iconst d_MO_isSound_52 ?_
            refine P_goto 57 d_MO_isSound_53 (by decide) ?_
            refine P_istore_n (lv' := [(0, .ref (ad 28)), (1, vI 1), (2, vI v2)]) [1, 0, 2] d_MO_isSound_57 rfl (by decide) rfl ?_
            refine P_iinc (lv' := [(0, .ref (ad 28)), (1, vI 1), (2, vI (v2 + 1))]) 2 [1, 2, 0] d_MO_isSound_58 rfl (by decide) rfl ?_
            refine P_goto 4 d_MO_isSound_61 (by decide) ?_
            refine P_sub (lv' := [(0, .ref (ad 28)), (1, vI 1), (2, vI (v2 + 1))]) [0, 1, 2] rfl ?_
            exact hF
theorem F_MO_sound_0  (hF : WP D ad ca none M_MO_isSound 0 [(0, .ref (ad 28))] [] h (RI (fun r2 h1 => ((r2 = 0 → Q (some (vI 0)) h1) ∧ (¬ r2 = 0 → Q (some (vI 1)) h1))))) : WP D ad ca sc M_MO_sound 0 [(0, .ref (ad 28))] [] h Q := by
  refine P_aload_n 0 d_MO_sound_0 rfl rfl ?_
  refine V_MO_isSound tw_843 d_MO_sound_1 (by decide) (Nat.le_of_ble_eq_true rfl) hF (fun r2 h1 i3 hF => ?_)
  refine P_if_eq 11 d_MO_sound_4 (by decide) i3 (fun c => ?_) (fun c => ?_)
  · have hF := hF.1 c
    refine P_iconst d_MO_sound_11 ?_
    exact P_iret d_MO_sound_12 rfl hF
  · have hF := hF.2 c
    refine P_iconst d_MO_sound_7 ?_
    refine P_goto 12 d_MO_sound_8 (by decide) ?_
    exact P_iret d_MO_sound_12 rfl hF
theorem F_MO_mixed_0 (v1 v2 : Int) (g1 : InR v1) (g2 : InR v2) (hF : WP D ad ca none M_MO_bounds 0 [(0, .ref (ad 28)), (1, vI v1), (2, .ref (ad 41))] [] h (RI (fun r2 h1 => WP D ad ca sc M_MO_mixed 19 [(0, .ref (ad 28)), (1, vI v1), (2, vI v2), (3, vL 0), (5, vI (100 - r2)), (6, vI 1)] [] h1 Q))) : WP D ad ca sc M_MO_mixed 0 [(0, .ref (ad 28)), (1, vI v1), (2, vI v2)] [] h Q := by
  refine P_lconst (i := 0) d_MO_mixed_0 (by decide) ?_
  refine P_lstore_n (lv' := [(0, .ref (ad 28)), (1, vI v1), (2, vI v2), (3, vL 0)]) [1, 2, 3, 0] d_MO_mixed_1 rfl (by decide) rfl ?_
  refine P_bipush d_MO_mixed_2 (by decide) ?_
  refine P_aload_n 0 d_MO_mixed_4 rfl rfl ?_
  refine P_iload_n 1 d_MO_mixed_5 rfl rfl ?_
  refine P_aload_n 0 d_MO_mixed_6 rfl rfl ?_
  refine G_MO_low tw_585 d_MO_mixed_7 ?_
  refine V_MO_bounds tw_847 d_MO_mixed_10 (by decide) (Nat.le_of_ble_eq_true rfl) hF (fun r2 h1 i3 hF => ?_)
  refine P_isub d_MO_mixed_13 ?_
  refine P_istore (lv' := [(0, .ref (ad 28)), (1, vI v1), (2, vI v2), (3, vL 0), (5, vI (100 - r2))]) [1, 2, 3, 4, 0] d_MO_mixed_14 (by decide) rfl ?_
  refine P_iconst d_MO_mixed_16 ?_
  refine P_istore (lv' := [(0, .ref (ad 28)), (1, vI v1), (2, vI v2), (3, vL 0), (5, vI (100 - r2)), (6, vI 1)]) [1, 2, 3, 4, 5, 0] d_MO_mixed_17 (by decide) rfl ?_
  refine P_sub (lv' := [(0, .ref (ad 28)), (1, vI v1), (2, vI v2), (3, vL 0), (5, vI (100 - r2)), (6, vI 1)]) [0, 1, 2, 3, 4, 5] rfl ?_
  exact hF
theorem F_MO_mixed_19 (v1 v2 v3 v5 v6 : Int) (g1 : InR v1) (g2 : InR v2) (g5 : InR v5) (g6 : InR v6) (hF : (((h 28 25) ≤ v6 → WP D ad ca sc M_MO_mixed 91 [(0, .ref (ad 28)), (2, vI v2), (3, vL v3), (5, vI v5)] [] h Q) ∧ (v6 < (h 28 25) → (0 ≤ v6 ∧ v6 < 24) ∧ (((h 40 v6) = v1 → WP D ad ca sc M_MO_mixed 50 [(0, .ref (ad 28)), (1, vI v1), (2, vI v2), (3, vL v3), (5, vI v5), (6, vI v6)] [vI 0, vI v6, .ref (ad 45)] h Q) ∧ (¬ (h 40 v6) = v1 → WP D ad ca sc M_MO_mixed 50 [(0, .ref (ad 28)), (1, vI v1), (2, vI v2), (3, vL v3), (5, vI v5), (6, vI v6)] [vI 1, vI v6, .ref (ad 45)] h Q))))) : WP D ad ca sc M_MO_mixed 19 [(0, .ref (ad 28)), (1, vI v1), (2, vI v2), (3, vL v3), (5, vI v5), (6, vI v6)] [] h Q := by
  refine P_iload 5 d_MO_mixed_19 rfl ?_
  refine P_aload_n 0 d_MO_mixed_21 rfl rfl ?_
  refine G_MO_nodes tw_583 d_MO_mixed_22 (fun i1 => ?_)
  refine P_icmp_ge 91 d_MO_mixed_25 (by decide) g6 i1 (fun c => ?_) (fun c => ?_)
  · have hF := hF.1 c
    refine P_sub (lv' := [(0, .ref (ad 28)), (2, vI v2), (3, vL v3), (5, vI v5)]) [0, 2, 3, 4] rfl ?_
    exact hF
  · have hF := hF.2 (Int.not_le.mp c)
    refine P_aload_n 0 d_MO_mixed_28 rfl rfl ?_
    refine G_MO_isGiven tw_589 d_MO_mixed_29 ?_
    refine P_iload 5 d_MO_mixed_32 rfl ?_
    refine P_aload_n 0 d_MO_mixed_34 rfl rfl ?_
    refine G_MO_parent tw_584 d_MO_mixed_35 ?_
    refine P_iload 5 d_MO_mixed_38 rfl ?_
    obtain ⟨b2, hF⟩ := hF
    refine L_40 d_MO_mixed_40 b2 (fun i3 => ?_)
    refine P_iload_n 1 d_MO_mixed_41 rfl rfl ?_
    refine P_icmp_eq 49 d_MO_mixed_42 (by decide) i3 g1 (fun c => ?_) (fun c => ?_)
    · have hF := hF.1 c
      refine P_iconst d_MO_mixed_49 ?_
      refine P_sub (lv' := [(0, .ref (ad 28)), (1, vI v1), (2, vI v2), (3, vL v3), (5, vI v5), (6, vI v6)]) [0, 1, 2, 3, 4, 5] rfl ?_
      exact hF
    · have hF := hF.2 c
      refine P_iconst d_MO_mixed_45 ?_
      refine P_goto 50 d_MO_mixed_46 (by decide) ?_
      refine P_sub (lv' := [(0, .ref (ad 28)), (1, vI v1), (2, vI v2), (3, vL v3), (5, vI v5), (6, vI v6)]) [0, 1, 2, 3, 4, 5] rfl ?_
      exact hF
theorem F_MO_mixed_91 (v2 v3 v5 : Int) (g2 : InR v2) (g5 : InR v5) (hF : ((v5 ≤ 0 → (0 ≤ v3 ∧ InL v3) ∧ Q (some (vL (v3 / 100))) h) ∧ (0 < v5 → WP D ad ca sc M_MO_mixed 103 [(0, .ref (ad 28)), (2, vI v2), (3, vL v3), (5, vI v5), (6, vI (-6)), (7, vI 1)] [] h Q))) : WP D ad ca sc M_MO_mixed 91 [(0, .ref (ad 28)), (2, vI v2), (3, vL v3), (5, vI v5)] [] h Q := by
  refine P_iload 3 d_MO_mixed_91 rfl ?_
  refine P_if_le 271 d_MO_mixed_93 (by decide) g5 (fun c => ?_) (fun c => ?_)
  · have hF := hF.1 c
    refine P_lload_n 2 d_MO_mixed_271 rfl rfl ?_
    refine P_ldc2 (n := 100) tw_685 (by decide) d_MO_mixed_272 ?_
    obtain ⟨b1, hF⟩ := hF
    refine P_ldiv b1 ⟨by decide, by decide, by decide⟩ d_MO_mixed_275 ?_
    exact P_lret d_MO_mixed_276 rfl hF
  · have hF := hF.2 (Int.not_le.mp c)
    refine P_bipush d_MO_mixed_96 (by decide) ?_
    refine P_istore (lv' := [(0, .ref (ad 28)), (2, vI v2), (3, vL v3), (5, vI v5), (6, vI (-6))]) [1, 2, 3, 4, 0] d_MO_mixed_98 (by decide) rfl ?_
    refine P_iconst d_MO_mixed_100 ?_
    refine P_istore (lv' := [(0, .ref (ad 28)), (2, vI v2), (3, vL v3), (5, vI v5), (6, vI (-6)), (7, vI 1)]) [1, 2, 3, 4, 5, 0] d_MO_mixed_101 (by decide) rfl ?_
    refine P_sub (lv' := [(0, .ref (ad 28)), (2, vI v2), (3, vL v3), (5, vI v5), (6, vI (-6)), (7, vI 1)]) [0, 1, 2, 3, 4, 5] rfl ?_
    exact hF
theorem F_MO_mixed_50 (v1 v2 v3 v5 v6 s0 s1 : Int) (g1 : InR v1) (g2 : InR v2) (g5 : InR v5) (g6 : InR v6) (q0 : InR s0) (q1 : InR s1) (hF : (0 ≤ s1 ∧ s1 < 24) ∧ (s0 = 0 ∨ s0 = 1) ∧ (0 ≤ v6 ∧ v6 < 24) ∧ ((¬ (h 40 v6) = v1 → WP D ad ca sc M_MO_mixed 19 [(0, .ref (ad 28)), (1, vI v1), (2, vI v2), (3, vL (v3 + 0)), (5, vI v5), (6, vI (v6 + 1))] [] (up h 45 s1 s0) Q) ∧ ((h 40 v6) = v1 → (0 ≤ v6 ∧ v6 < 24) ∧ (0 ≤ v6 ∧ v6 < 24) ∧ WP D ad ca sc M_MO_mixed 19 [(0, .ref (ad 28)), (1, vI v1), (2, vI v2), (3, vL (v3 + ((h 44 v6) * (h 41 v6)))), (5, vI v5), (6, vI (v6 + 1))] [] (up h 45 s1 s0) Q))) : WP D ad ca sc M_MO_mixed 50 [(0, .ref (ad 28)), (1, vI v1), (2, vI v2), (3, vL v3), (5, vI v5), (6, vI v6)] [vI s0, vI s1, .ref (ad 45)] h Q := by
  obtain ⟨b1, hF⟩ := hF
  obtain ⟨b2, hF⟩ := hF
  refine T_45 d_MO_mixed_50 b1 b2 ?_
  refine P_lload_n 3 d_MO_mixed_51 rfl rfl ?_
  refine P_aload_n 0 d_MO_mixed_52 rfl rfl ?_
  refine G_MO_parent tw_584 d_MO_mixed_53 ?_
  refine P_iload 5 d_MO_mixed_56 rfl ?_
  obtain ⟨b3, hF⟩ := hF
  refine L_40 d_MO_mixed_58 b3 (fun i4 => ?_)
  refine P_iload_n 1 d_MO_mixed_59 rfl rfl ?_
  refine P_icmp_ne 82 d_MO_mixed_60 (by decide) i4 g1 (fun c => ?_) (fun c => ?_)
  · have hF := hF.1 c
    refine P_lconst (i := 0) d_MO_mixed_82 (by decide) ?_
    refine P_ladd d_MO_mixed_83 ?_
    refine P_lstore_n (lv' := [(0, .ref (ad 28)), (1, vI v1), (2, vI v2), (3, vL (v3 + 0)), (5, vI v5), (6, vI v6)]) [1, 2, 3, 0, 4, 5] d_MO_mixed_84 rfl (by decide) rfl ?_
    refine P_iinc (lv' := [(0, .ref (ad 28)), (1, vI v1), (2, vI v2), (3, vL (v3 + 0)), (5, vI v5), (6, vI (v6 + 1))]) 5 [1, 2, 3, 4, 5, 0] d_MO_mixed_85 rfl (by decide) rfl ?_
    refine P_goto 19 d_MO_mixed_88 (by decide) ?_
    refine P_sub (lv' := [(0, .ref (ad 28)), (1, vI v1), (2, vI v2), (3, vL (v3 + 0)), (5, vI v5), (6, vI (v6 + 1))]) [0, 1, 2, 3, 4, 5] rfl ?_
    exact hF
  · have hF := hF.2 c
    refine P_aload_n 0 d_MO_mixed_63 rfl rfl ?_
    refine G_MO_chance tw_588 d_MO_mixed_64 ?_
    refine P_iload 5 d_MO_mixed_67 rfl ?_
    obtain ⟨b5, hF⟩ := hF
    refine L_44 d_MO_mixed_69 b5 (fun i6 => ?_)
    refine P_aload_n 0 d_MO_mixed_70 rfl rfl ?_
    refine G_MO_low tw_585 d_MO_mixed_71 ?_
    refine P_iload 5 d_MO_mixed_74 rfl ?_
    obtain ⟨b7, hF⟩ := hF
    refine L_41 d_MO_mixed_76 b7 (fun i8 => ?_)
    refine P_i2l i8 d_MO_mixed_77 ?_
    refine P_lmul d_MO_mixed_78 ?_
    refine P_goto 83 d_MO_mixed_79 (by decide) ?_
    refine P_ladd d_MO_mixed_83 ?_
    refine P_lstore_n (lv' := [(0, .ref (ad 28)), (1, vI v1), (2, vI v2), (3, vL (v3 + ((h 44 v6) * (h 41 v6)))), (5, vI v5), (6, vI v6)]) [1, 2, 3, 0, 4, 5] d_MO_mixed_84 rfl (by decide) rfl ?_
    refine P_iinc (lv' := [(0, .ref (ad 28)), (1, vI v1), (2, vI v2), (3, vL (v3 + ((h 44 v6) * (h 41 v6)))), (5, vI v5), (6, vI (v6 + 1))]) 5 [1, 2, 3, 4, 5, 0] d_MO_mixed_85 rfl (by decide) rfl ?_
    refine P_goto 19 d_MO_mixed_88 (by decide) ?_
    refine P_sub (lv' := [(0, .ref (ad 28)), (1, vI v1), (2, vI v2), (3, vL (v3 + ((h 44 v6) * (h 41 v6)))), (5, vI v5), (6, vI (v6 + 1))]) [0, 1, 2, 3, 4, 5] rfl ?_
    exact hF
theorem F_MO_mixed_103 (v2 v3 v5 v6 v7 : Int) (g2 : InR v2) (g5 : InR v5) (g6 : InR v6) (g7 : InR v7) (hF : (((h 28 25) ≤ v7 → (0 ≤ v6 ∧ v6 < 24) ∧ (0 ≤ v6 ∧ v6 < 24) ∧ (0 ≤ v6 ∧ v6 < 24) ∧ (InR ((h 42 v6) - (h 41 v6))) ∧ ((v5 ≤ ((h 42 v6) - (h 41 v6)) → WP D ad ca sc M_MO_mixed 245 [(0, .ref (ad 28)), (2, vI v2), (3, vL v3), (5, vI v5), (6, vI v6)] [vI v5] (up h 45 v6 1) Q) ∧ (((h 42 v6) - (h 41 v6)) < v5 → (0 ≤ v6 ∧ v6 < 24) ∧ (0 ≤ v6 ∧ v6 < 24) ∧ WP D ad ca sc M_MO_mixed 245 [(0, .ref (ad 28)), (2, vI v2), (3, vL v3), (5, vI v5), (6, vI v6)] [vI ((h 42 v6) - (h 41 v6))] (up h 45 v6 1) Q))) ∧ (v7 < (h 28 25) → ((v6 < 0 → WP D ad ca sc M_MO_mixed 160 [(0, .ref (ad 28)), (2, vI v2), (3, vL v3), (5, vI v5), (6, vI v6), (7, vI v7)] [] h Q) ∧ (0 ≤ v6 → ((¬ v2 = 0 → (0 ≤ v7 ∧ v7 < 24) ∧ (0 ≤ v6 ∧ v6 < 24) ∧ (((h 44 v7) ≤ (h 44 v6) → WP D ad ca sc M_MO_mixed 164 [(0, .ref (ad 28)), (2, vI v2), (3, vL v3), (5, vI v5), (6, vI v6), (7, vI v7)] [] h Q) ∧ ((h 44 v6) < (h 44 v7) → WP D ad ca sc M_MO_mixed 160 [(0, .ref (ad 28)), (2, vI v2), (3, vL v3), (5, vI v5), (6, vI v6), (7, vI v7)] [] h Q))) ∧ (v2 = 0 → (0 ≤ v7 ∧ v7 < 24) ∧ (0 ≤ v6 ∧ v6 < 24) ∧ (((h 44 v6) ≤ (h 44 v7) → WP D ad ca sc M_MO_mixed 164 [(0, .ref (ad 28)), (2, vI v2), (3, vL v3), (5, vI v5), (6, vI v6), (7, vI v7)] [] h Q) ∧ ((h 44 v7) < (h 44 v6) → WP D ad ca sc M_MO_mixed 160 [(0, .ref (ad 28)), (2, vI v2), (3, vL v3), (5, vI v5), (6, vI v6), (7, vI v7)] [] h Q))))))))) : WP D ad ca sc M_MO_mixed 103 [(0, .ref (ad 28)), (2, vI v2), (3, vL v3), (5, vI v5), (6, vI v6), (7, vI v7)] [] h Q := by
  refine P_iload 5 d_MO_mixed_103 rfl ?_
  refine P_aload_n 0 d_MO_mixed_105 rfl rfl ?_
  refine G_MO_nodes tw_583 d_MO_mixed_106 (fun i1 => ?_)
  refine P_icmp_ge 197 d_MO_mixed_109 (by decide) g7 i1 (fun c => ?_) (fun c => ?_)
  · have hF := hF.1 c
    refine P_aload_n 0 d_MO_mixed_197 rfl rfl ?_
    refine G_MO_isGiven tw_589 d_MO_mixed_198 ?_
    refine P_iload 4 d_MO_mixed_201 rfl ?_
    refine P_iconst d_MO_mixed_203 ?_
    obtain ⟨b2, hF⟩ := hF
    refine T_45 d_MO_mixed_204 b2 (Or.inr rfl) ?_
    refine P_aload_n 0 d_MO_mixed_205 rfl rfl ?_
    refine G_MO_high tw_586 d_MO_mixed_206 ?_
    refine P_iload 4 d_MO_mixed_209 rfl ?_
    obtain ⟨b3, hF⟩ := hF
    refine L_42 d_MO_mixed_211 b3 (fun i4 => ?_)
    refine P_aload_n 0 d_MO_mixed_212 rfl rfl ?_
    refine G_MO_low tw_585 d_MO_mixed_213 ?_
    refine P_iload 4 d_MO_mixed_216 rfl ?_
    obtain ⟨b5, hF⟩ := hF
    refine L_41 d_MO_mixed_218 b5 (fun i6 => ?_)
    refine P_isub d_MO_mixed_219 ?_
    refine P_iload 3 d_MO_mixed_220 rfl ?_
    obtain ⟨b7, hF⟩ := hF
    refine P_icmp_ge 243 d_MO_mixed_222 (by decide) b7 g5 (fun c => ?_) (fun c => ?_)
    · have hF := hF.1 c
      refine P_iload 3 d_MO_mixed_243 rfl ?_
      refine P_sub (lv' := [(0, .ref (ad 28)), (2, vI v2), (3, vL v3), (5, vI v5), (6, vI v6)]) [0, 1, 2, 3, 4] rfl ?_
      exact hF
    · have hF := hF.2 (Int.not_le.mp c)
      refine P_aload_n 0 d_MO_mixed_225 rfl rfl ?_
      refine G_MO_high tw_586 d_MO_mixed_226 ?_
      refine P_iload 4 d_MO_mixed_229 rfl ?_
      obtain ⟨b8, hF⟩ := hF
      refine L_42 d_MO_mixed_231 b8 (fun i9 => ?_)
      refine P_aload_n 0 d_MO_mixed_232 rfl rfl ?_
      refine G_MO_low tw_585 d_MO_mixed_233 ?_
      refine P_iload 4 d_MO_mixed_236 rfl ?_
      obtain ⟨b10, hF⟩ := hF
      refine L_41 d_MO_mixed_238 b10 (fun i11 => ?_)
      refine P_isub d_MO_mixed_239 ?_
      refine P_goto 245 d_MO_mixed_240 (by decide) ?_
      refine P_sub (lv' := [(0, .ref (ad 28)), (2, vI v2), (3, vL v3), (5, vI v5), (6, vI v6)]) [0, 1, 2, 3, 4] rfl ?_
      exact hF
  · have hF := hF.2 (Int.not_le.mp c)
    refine P_iload 4 d_MO_mixed_112 rfl ?_
    refine P_if_lt 160 d_MO_mixed_114 (by decide) g6 (fun c => ?_) (fun c => ?_)
    · have hF := hF.1 c
      refine P_sub (lv' := [(0, .ref (ad 28)), (2, vI v2), (3, vL v3), (5, vI v5), (6, vI v6), (7, vI v7)]) [0, 1, 2, 3, 4, 5] rfl ?_
      exact hF
    · have hF := hF.2 (Int.not_lt.mp c)
      refine P_iload_n 1 d_MO_mixed_117 rfl rfl ?_
      refine P_if_ne 142 d_MO_mixed_118 (by decide) g2 (fun c => ?_) (fun c => ?_)
      · have hF := hF.1 c
        refine P_aload_n 0 d_MO_mixed_142 rfl rfl ?_
        refine G_MO_chance tw_588 d_MO_mixed_143 ?_
        refine P_iload 5 d_MO_mixed_146 rfl ?_
        obtain ⟨b12, hF⟩ := hF
        refine L_44 d_MO_mixed_148 b12 (fun i13 => ?_)
        refine P_aload_n 0 d_MO_mixed_149 rfl rfl ?_
        refine G_MO_chance tw_588 d_MO_mixed_150 ?_
        refine P_iload 4 d_MO_mixed_153 rfl ?_
        obtain ⟨b14, hF⟩ := hF
        refine L_44 d_MO_mixed_155 b14 (fun i15 => ?_)
        refine P_lcmp i13 i15 d_MO_mixed_156 ?_
        refine P_if_le 164 d_MO_mixed_157 (by decide) (lc_R _ _) (fun c => ?_) (fun c => ?_)
        · have hF := hF.1 (lc_le.mp c)
          refine P_sub (lv' := [(0, .ref (ad 28)), (2, vI v2), (3, vL v3), (5, vI v5), (6, vI v6), (7, vI v7)]) [0, 1, 2, 3, 4, 5] rfl ?_
          exact hF
        · have hF := hF.2 (lc_gt.mp (Int.not_le.mp c))
          refine P_sub (lv' := [(0, .ref (ad 28)), (2, vI v2), (3, vL v3), (5, vI v5), (6, vI v6), (7, vI v7)]) [0, 1, 2, 3, 4, 5] rfl ?_
          exact hF
      · have hF := hF.2 c
        refine P_aload_n 0 d_MO_mixed_121 rfl rfl ?_
        refine G_MO_chance tw_588 d_MO_mixed_122 ?_
        refine P_iload 5 d_MO_mixed_125 rfl ?_
        obtain ⟨b16, hF⟩ := hF
        refine L_44 d_MO_mixed_127 b16 (fun i17 => ?_)
        refine P_aload_n 0 d_MO_mixed_128 rfl rfl ?_
        refine G_MO_chance tw_588 d_MO_mixed_129 ?_
        refine P_iload 4 d_MO_mixed_132 rfl ?_
        obtain ⟨b18, hF⟩ := hF
        refine L_44 d_MO_mixed_134 b18 (fun i19 => ?_)
        refine P_lcmp i17 i19 d_MO_mixed_135 ?_
        refine P_if_ge 164 d_MO_mixed_136 (by decide) (lc_R _ _) (fun c => ?_) (fun c => ?_)
        · have hF := hF.1 (lc_ge.mp c)
          refine P_sub (lv' := [(0, .ref (ad 28)), (2, vI v2), (3, vL v3), (5, vI v5), (6, vI v6), (7, vI v7)]) [0, 1, 2, 3, 4, 5] rfl ?_
          exact hF
        · have hF := hF.2 (lc_lt.mp (Int.not_le.mp c))
          refine P_goto 160 d_MO_mixed_139 (by decide) ?_
          refine P_sub (lv' := [(0, .ref (ad 28)), (2, vI v2), (3, vL v3), (5, vI v5), (6, vI v6), (7, vI v7)]) [0, 1, 2, 3, 4, 5] rfl ?_
          exact hF
theorem F_MO_mixed_245 (v2 v3 v5 v6 s0 : Int) (g2 : InR v2) (g5 : InR v5) (g6 : InR v6) (q0 : InR s0) (hF : (0 ≤ v6 ∧ v6 < 24) ∧ WP D ad ca sc M_MO_mixed 91 [(0, .ref (ad 28)), (2, vI v2), (3, vL (v3 + ((h 44 v6) * s0))), (5, vI (v5 - s0))] [] h Q) : WP D ad ca sc M_MO_mixed 245 [(0, .ref (ad 28)), (2, vI v2), (3, vL v3), (5, vI v5), (6, vI v6)] [vI s0] h Q := by
  refine P_istore (lv' := [(0, .ref (ad 28)), (2, vI v2), (3, vL v3), (5, vI v5), (6, vI v6), (7, vI s0)]) [1, 2, 3, 4, 5, 0] d_MO_mixed_245 (by decide) rfl ?_
  refine P_lload_n 2 d_MO_mixed_247 rfl rfl ?_
  refine P_aload_n 0 d_MO_mixed_248 rfl rfl ?_
  refine G_MO_chance tw_588 d_MO_mixed_249 ?_
  refine P_iload 4 d_MO_mixed_252 rfl ?_
  obtain ⟨b1, hF⟩ := hF
  refine L_44 d_MO_mixed_254 b1 (fun i2 => ?_)
  refine P_iload 5 d_MO_mixed_255 rfl ?_
  refine P_i2l q0 d_MO_mixed_257 ?_
  refine P_lmul d_MO_mixed_258 ?_
  refine P_ladd d_MO_mixed_259 ?_
  refine P_lstore_n (lv' := [(0, .ref (ad 28)), (2, vI v2), (3, vL (v3 + ((h 44 v6) * s0))), (5, vI v5), (6, vI v6), (7, vI s0)]) [1, 2, 0, 3, 4, 5] d_MO_mixed_260 rfl (by decide) rfl ?_
  refine P_iload 3 d_MO_mixed_261 rfl ?_
  refine P_iload 5 d_MO_mixed_263 rfl ?_
  refine P_isub d_MO_mixed_265 ?_
  refine P_istore (lv' := [(0, .ref (ad 28)), (2, vI v2), (3, vL (v3 + ((h 44 v6) * s0))), (5, vI (v5 - s0)), (6, vI v6), (7, vI s0)]) [1, 2, 3, 0, 4, 5] d_MO_mixed_266 (by decide) rfl ?_
  refine P_goto 91 d_MO_mixed_268 (by decide) ?_
  refine P_sub (lv' := [(0, .ref (ad 28)), (2, vI v2), (3, vL (v3 + ((h 44 v6) * s0))), (5, vI (v5 - s0))]) [0, 1, 2, 3] rfl ?_
  exact hF
theorem F_MO_mixed_160 (v2 v3 v5 v6 v7 : Int) (g2 : InR v2) (g5 : InR v5) (g6 : InR v6) (g7 : InR v7) (hF : WP D ad ca sc M_MO_mixed 165 [(0, .ref (ad 28)), (2, vI v2), (3, vL v3), (5, vI v5), (6, vI v6), (7, vI v7)] [vI 1] h Q) : WP D ad ca sc M_MO_mixed 160 [(0, .ref (ad 28)), (2, vI v2), (3, vL v3), (5, vI v5), (6, vI v6), (7, vI v7)] [] h Q := by
  refine P_iconst d_MO_mixed_160 ?_
  refine P_goto 165 d_MO_mixed_161 (by decide) ?_
  refine P_sub (lv' := [(0, .ref (ad 28)), (2, vI v2), (3, vL v3), (5, vI v5), (6, vI v6), (7, vI v7)]) [0, 1, 2, 3, 4, 5] rfl ?_
  exact hF
theorem F_MO_mixed_164 (v2 v3 v5 v6 v7 : Int) (g2 : InR v2) (g5 : InR v5) (g6 : InR v6) (g7 : InR v7) (hF : WP D ad ca sc M_MO_mixed 165 [(0, .ref (ad 28)), (2, vI v2), (3, vL v3), (5, vI v5), (6, vI v6), (7, vI v7)] [vI 0] h Q) : WP D ad ca sc M_MO_mixed 164 [(0, .ref (ad 28)), (2, vI v2), (3, vL v3), (5, vI v5), (6, vI v6), (7, vI v7)] [] h Q := by
  refine P_iconst d_MO_mixed_164 ?_
  refine P_sub (lv' := [(0, .ref (ad 28)), (2, vI v2), (3, vL v3), (5, vI v5), (6, vI v6), (7, vI v7)]) [0, 1, 2, 3, 4, 5] rfl ?_
  exact hF
theorem F_MO_mixed_165 (v2 v3 v5 v6 v7 s0 : Int) (g2 : InR v2) (g5 : InR v5) (g6 : InR v6) (g7 : InR v7) (q0 : InR s0) (hF : (0 ≤ v7 ∧ v7 < 24) ∧ ((¬ (h 45 v7) = 0 → WP D ad ca sc M_MO_mixed 103 [(0, .ref (ad 28)), (2, vI v2), (3, vL v3), (5, vI v5), (6, vI v6), (7, vI (v7 + 1))] [] h Q) ∧ ((h 45 v7) = 0 → ((s0 = 0 → WP D ad ca sc M_MO_mixed 103 [(0, .ref (ad 28)), (2, vI v2), (3, vL v3), (5, vI v5), (6, vI v6), (7, vI (v7 + 1))] [] h Q) ∧ (¬ s0 = 0 → WP D ad ca sc M_MO_mixed 103 [(0, .ref (ad 28)), (2, vI v2), (3, vL v3), (5, vI v5), (6, vI v7), (7, vI (v7 + 1))] [] h Q))))) : WP D ad ca sc M_MO_mixed 165 [(0, .ref (ad 28)), (2, vI v2), (3, vL v3), (5, vI v5), (6, vI v6), (7, vI v7)] [vI s0] h Q := by
  refine P_istore (lv' := [(0, .ref (ad 28)), (2, vI v2), (3, vL v3), (5, vI v5), (6, vI v6), (7, vI v7), (8, vI s0)]) [1, 2, 3, 4, 5, 6, 0] d_MO_mixed_165 (by decide) rfl ?_
  refine P_aload_n 0 d_MO_mixed_167 rfl rfl ?_
  refine G_MO_isGiven tw_589 d_MO_mixed_168 ?_
  refine P_iload 5 d_MO_mixed_171 rfl ?_
  obtain ⟨b1, hF⟩ := hF
  refine L_45 d_MO_mixed_173 b1 (fun i2 => ?_)
  refine P_if_ne 187 d_MO_mixed_174 (by decide) i2 (fun c => ?_) (fun c => ?_)
  · have hF := hF.1 c
    refine P_iload 4 d_MO_mixed_187 rfl ?_
    refine P_istore (lv' := [(0, .ref (ad 28)), (2, vI v2), (3, vL v3), (5, vI v5), (6, vI v6), (7, vI v7), (8, vI s0)]) [1, 2, 3, 4, 0, 5, 6] d_MO_mixed_189 (by decide) rfl ?_
    refine P_iinc (lv' := [(0, .ref (ad 28)), (2, vI v2), (3, vL v3), (5, vI v5), (6, vI v6), (7, vI (v7 + 1)), (8, vI s0)]) 5 [1, 2, 3, 4, 5, 0, 6] d_MO_mixed_191 rfl (by decide) rfl ?_
    refine P_goto 103 d_MO_mixed_194 (by decide) ?_
    refine P_sub (lv' := [(0, .ref (ad 28)), (2, vI v2), (3, vL v3), (5, vI v5), (6, vI v6), (7, vI (v7 + 1))]) [0, 1, 2, 3, 4, 5] rfl ?_
    exact hF
  · have hF := hF.2 c
    refine P_iload 6 d_MO_mixed_177 rfl ?_
    refine P_if_eq 187 d_MO_mixed_179 (by decide) q0 (fun c => ?_) (fun c => ?_)
    · have hF := hF.1 c
      refine P_iload 4 d_MO_mixed_187 rfl ?_
      refine P_istore (lv' := [(0, .ref (ad 28)), (2, vI v2), (3, vL v3), (5, vI v5), (6, vI v6), (7, vI v7), (8, vI s0)]) [1, 2, 3, 4, 0, 5, 6] d_MO_mixed_189 (by decide) rfl ?_
      refine P_iinc (lv' := [(0, .ref (ad 28)), (2, vI v2), (3, vL v3), (5, vI v5), (6, vI v6), (7, vI (v7 + 1)), (8, vI s0)]) 5 [1, 2, 3, 4, 5, 0, 6] d_MO_mixed_191 rfl (by decide) rfl ?_
      refine P_goto 103 d_MO_mixed_194 (by decide) ?_
      refine P_sub (lv' := [(0, .ref (ad 28)), (2, vI v2), (3, vL v3), (5, vI v5), (6, vI v6), (7, vI (v7 + 1))]) [0, 1, 2, 3, 4, 5] rfl ?_
      exact hF
    · have hF := hF.2 c
      refine P_iload 5 d_MO_mixed_182 rfl ?_
      refine P_goto 189 d_MO_mixed_184 (by decide) ?_
      refine P_istore (lv' := [(0, .ref (ad 28)), (2, vI v2), (3, vL v3), (5, vI v5), (6, vI v7), (7, vI v7), (8, vI s0)]) [1, 2, 3, 4, 0, 5, 6] d_MO_mixed_189 (by decide) rfl ?_
      refine P_iinc (lv' := [(0, .ref (ad 28)), (2, vI v2), (3, vL v3), (5, vI v5), (6, vI v7), (7, vI (v7 + 1)), (8, vI s0)]) 5 [1, 2, 3, 4, 5, 0, 6] d_MO_mixed_191 rfl (by decide) rfl ?_
      refine P_goto 103 d_MO_mixed_194 (by decide) ?_
      refine P_sub (lv' := [(0, .ref (ad 28)), (2, vI v2), (3, vL v3), (5, vI v5), (6, vI v7), (7, vI (v7 + 1))]) [0, 1, 2, 3, 4, 5] rfl ?_
      exact hF
theorem F_MO_chance_0 (v1 v2 : Int) (g1 : InR v1) (g2 : InR v2) (hF : WP D ad ca none M_MO_isNode 0 [(0, .ref (ad 28)), (1, vI v1)] [] h (RI (fun r2 h1 => ((¬ r2 = 0 → WP D ad ca none M_MO_in 0 [(0, vI v2), (1, vI 0), (2, vI 1)] [] h1 (RI (fun r5 h4 => ((¬ r5 = 0 → WP D ad ca none M_MO_isSound 0 [(0, .ref (ad 28))] [] h4 (RI (fun r8 h7 => ((¬ r8 = 0 → WP D ad ca sc M_MO_chance 39 [(0, .ref (ad 28)), (1, vI v1), (2, vI v2), (3, vI ((h7 28 25) - 1))] [] h7 Q) ∧ (r8 = 0 → Q (some (vI (-5))) h7))))) ∧ (r5 = 0 → Q (some (vI (-2))) h4))))) ∧ (r2 = 0 → Q (some (vI (-1))) h1))))) : WP D ad ca sc M_MO_chance 0 [(0, .ref (ad 28)), (1, vI v1), (2, vI v2)] [] h Q := by
  refine P_aload_n 0 d_MO_chance_0 rfl rfl ?_
  refine P_iload_n 1 d_MO_chance_1 rfl rfl ?_
  refine V_MO_isNode tw_816 d_MO_chance_2 (by decide) (Nat.le_of_ble_eq_true rfl) hF (fun r2 h1 i3 hF => ?_)
  refine P_if_ne 10 d_MO_chance_5 (by decide) i3 (fun c => ?_) (fun c => ?_)
  · have hF := hF.1 c
    refine P_iload_n 2 d_MO_chance_10 rfl rfl ?_
    refine P_iconst d_MO_chance_11 ?_
    refine P_iconst d_MO_chance_12 ?_
    refine V_MO_in tw_670 d_MO_chance_13 (by decide) (Nat.le_of_ble_eq_true rfl) hF (fun r5 h4 i6 hF => ?_)
    refine P_if_ne 22 d_MO_chance_16 (by decide) i6 (fun c => ?_) (fun c => ?_)
    · have hF := hF.1 c
      refine P_aload_n 0 d_MO_chance_22 rfl rfl ?_
      refine V_MO_isSound tw_843 d_MO_chance_23 (by decide) (Nat.le_of_ble_eq_true rfl) hF (fun r8 h7 i9 hF => ?_)
      refine P_if_ne 32 d_MO_chance_26 (by decide) i9 (fun c => ?_) (fun c => ?_)
      · have hF := hF.1 c
        refine P_aload_n 0 d_MO_chance_32 rfl rfl ?_
        refine G_MO_nodes tw_583 d_MO_chance_33 (fun i10 => ?_)
        refine P_iconst d_MO_chance_36 ?_
        refine P_isub d_MO_chance_37 ?_
        refine P_istore_n (lv' := [(0, .ref (ad 28)), (1, vI v1), (2, vI v2), (3, vI ((h7 28 25) - 1))]) [1, 2, 3, 0] d_MO_chance_38 rfl (by decide) rfl ?_
        refine P_sub (lv' := [(0, .ref (ad 28)), (1, vI v1), (2, vI v2), (3, vI ((h7 28 25) - 1))]) [0, 1, 2, 3] rfl ?_
        exact hF
      · have hF := hF.2 c
        refine P_bipush d_MO_chance_29 (by decide) ?_
        exact P_iret d_MO_chance_31 rfl hF
    · have hF := hF.2 c
      refine P_bipush d_MO_chance_19 (by decide) ?_
      exact P_iret d_MO_chance_21 rfl hF
  · have hF := hF.2 c
    refine P_iconst d_MO_chance_8 ?_
    exact P_iret d_MO_chance_9 rfl hF
theorem F_MO_chance_39 (v1 v2 v3 : Int) (g1 : InR v1) (g2 : InR v2) (g3 : InR v3) (hF : ((v3 < 0 → (0 ≤ v1 ∧ v1 < 24) ∧ Q (some (vI (h 44 v1))) h) ∧ (0 ≤ v3 → WP D ad ca none M_MO_children 0 [(0, .ref (ad 28)), (1, vI v3)] [] h (RI (fun r4 h3 => ((r4 ≤ 0 → (0 ≤ v3 ∧ v3 < 24) ∧ (((h3 43 v3) = 0 → (0 ≤ v3 ∧ v3 < 24) ∧ WP D ad ca sc M_MO_chance 39 [(0, .ref (ad 28)), (1, vI v1), (2, vI v2), (3, vI (v3 + (-1)))] [] (up h3 44 v3 0) Q) ∧ (¬ (h3 43 v3) = 0 → (0 ≤ v3 ∧ v3 < 24) ∧ WP D ad ca sc M_MO_chance 39 [(0, .ref (ad 28)), (1, vI v1), (2, vI v2), (3, vI (v3 + (-1)))] [] (up h3 44 v3 100000000) Q))) ∧ (0 < r4 → WP D ad ca none M_MO_mixed 0 [(0, .ref (ad 28)), (1, vI v3), (2, vI v2)] [] h3 (RL (fun r11 h10 => (0 ≤ v3 ∧ v3 < 24) ∧ WP D ad ca sc M_MO_chance 39 [(0, .ref (ad 28)), (1, vI v1), (2, vI v2), (3, vI (v3 + (-1)))] [] (up h10 44 v3 r11) Q))))))))) : WP D ad ca sc M_MO_chance 39 [(0, .ref (ad 28)), (1, vI v1), (2, vI v2), (3, vI v3)] [] h Q := by
  refine P_iload_n 3 d_MO_chance_39 rfl rfl ?_
  refine P_if_lt 88 d_MO_chance_40 (by decide) g3 (fun c => ?_) (fun c => ?_)
  · have hF := hF.1 c
    refine P_aload_n 0 d_MO_chance_88 rfl rfl ?_
    refine G_MO_chance tw_588 d_MO_chance_89 ?_
    refine P_iload_n 1 d_MO_chance_92 rfl rfl ?_
    obtain ⟨b1, hF⟩ := hF
    refine L_44 d_MO_chance_93 b1 (fun i2 => ?_)
    refine P_l2i d_MO_chance_94 ?_
    exact P_iret d_MO_chance_95 rfl hF
  · have hF := hF.2 (Int.not_lt.mp c)
    refine P_aload_n 0 d_MO_chance_43 rfl rfl ?_
    refine G_MO_chance tw_588 d_MO_chance_44 ?_
    refine P_iload_n 3 d_MO_chance_47 rfl rfl ?_
    refine P_aload_n 0 d_MO_chance_48 rfl rfl ?_
    refine P_iload_n 3 d_MO_chance_49 rfl rfl ?_
    refine V_MO_children tw_827 d_MO_chance_50 (by decide) (Nat.le_of_ble_eq_true rfl) hF (fun r4 h3 i5 hF => ?_)
    refine P_if_le 65 d_MO_chance_53 (by decide) i5 (fun c => ?_) (fun c => ?_)
    · have hF := hF.1 c
      refine P_aload_n 0 d_MO_chance_65 rfl rfl ?_
      refine G_MO_isFeared tw_587 d_MO_chance_66 ?_
      refine P_iload_n 3 d_MO_chance_69 rfl rfl ?_
      obtain ⟨b6, hF⟩ := hF
      refine L_43 d_MO_chance_70 b6 (fun i7 => ?_)
      refine P_if_eq 80 d_MO_chance_71 (by decide) i7 (fun c => ?_) (fun c => ?_)
      · have hF := hF.1 c
        refine P_lconst (i := 0) d_MO_chance_80 (by decide) ?_
        obtain ⟨b8, hF⟩ := hF
        refine T_44 d_MO_chance_81 b8 ⟨by decide, by decide⟩ ?_
        refine P_iinc (lv' := [(0, .ref (ad 28)), (1, vI v1), (2, vI v2), (3, vI (v3 + (-1)))]) 3 [1, 2, 3, 0] d_MO_chance_82 rfl (by decide) rfl ?_
        refine P_goto 39 d_MO_chance_85 (by decide) ?_
        refine P_sub (lv' := [(0, .ref (ad 28)), (1, vI v1), (2, vI v2), (3, vI (v3 + (-1)))]) [0, 1, 2, 3] rfl ?_
        exact hF
      · have hF := hF.2 c
        refine P_ldc2 (n := 100000000) tw_859 (by decide) d_MO_chance_74 ?_
        refine P_goto 81 d_MO_chance_77 (by decide) ?_
        obtain ⟨b9, hF⟩ := hF
        refine T_44 d_MO_chance_81 b9 ⟨by decide, by decide⟩ ?_
        refine P_iinc (lv' := [(0, .ref (ad 28)), (1, vI v1), (2, vI v2), (3, vI (v3 + (-1)))]) 3 [1, 2, 3, 0] d_MO_chance_82 rfl (by decide) rfl ?_
        refine P_goto 39 d_MO_chance_85 (by decide) ?_
        refine P_sub (lv' := [(0, .ref (ad 28)), (1, vI v1), (2, vI v2), (3, vI (v3 + (-1)))]) [0, 1, 2, 3] rfl ?_
        exact hF
    · have hF := hF.2 (Int.not_le.mp c)
      refine P_aload_n 0 d_MO_chance_56 rfl rfl ?_
      refine P_iload_n 3 d_MO_chance_57 rfl rfl ?_
      refine P_iload_n 2 d_MO_chance_58 rfl rfl ?_
      refine V_MO_mixed tw_855 d_MO_chance_59 (by decide) (Nat.le_of_ble_eq_true rfl) hF (fun r11 h10 i12 hF => ?_)
      refine P_goto 81 d_MO_chance_62 (by decide) ?_
      obtain ⟨b13, hF⟩ := hF
      refine T_44 d_MO_chance_81 b13 i12 ?_
      refine P_iinc (lv' := [(0, .ref (ad 28)), (1, vI v1), (2, vI v2), (3, vI (v3 + (-1)))]) 3 [1, 2, 3, 0] d_MO_chance_82 rfl (by decide) rfl ?_
      refine P_goto 39 d_MO_chance_85 (by decide) ?_
      refine P_sub (lv' := [(0, .ref (ad 28)), (1, vI v1), (2, vI v2), (3, vI (v3 + (-1)))]) [0, 1, 2, 3] rfl ?_
      exact hF
theorem F_MO_ofNode_0 (v1 v2 : Int) (g1 : InR v1) (g2 : InR v2) (hF : WP D ad ca none M_MO_isNode 0 [(0, .ref (ad 28)), (1, vI v1)] [] h (RI (fun r2 h1 => ((¬ r2 = 0 → ((v2 = 0 → (0 ≤ v1 ∧ v1 < 24) ∧ Q (some (vI (h1 40 v1))) h1) ∧ (v2 = 1 → (0 ≤ v1 ∧ v1 < 24) ∧ Q (some (vI (h1 41 v1))) h1) ∧ (v2 = 2 → (0 ≤ v1 ∧ v1 < 24) ∧ Q (some (vI (h1 42 v1))) h1) ∧ (v2 = 3 → (0 ≤ v1 ∧ v1 < 24) ∧ (((h1 43 v1) = 0 → Q (some (vI 0)) h1) ∧ (¬ (h1 43 v1) = 0 → Q (some (vI 1)) h1))) ∧ (v2 = 4 → WP D ad ca none M_MO_children 0 [(0, .ref (ad 28)), (1, vI v1)] [] h1 (RI (fun r13 h12 => Q (some (vI r13)) h12))) ∧ (v2 = 5 → WP D ad ca none M_MO_depth 0 [(0, .ref (ad 28)), (1, vI v1)] [] h1 (RI (fun r16 h15 => Q (some (vI r16)) h15))) ∧ (v2 < 0 ∨ 5 < v2 → Q (some (vI (-2))) h1))) ∧ (r2 = 0 → Q (some (vI (-1))) h1))))) : WP D ad ca sc M_MO_ofNode 0 [(0, .ref (ad 28)), (1, vI v1), (2, vI v2)] [] h Q := by
  refine P_aload_n 0 d_MO_ofNode_0 rfl rfl ?_
  refine P_iload_n 1 d_MO_ofNode_1 rfl rfl ?_
  refine V_MO_isNode tw_816 d_MO_ofNode_2 (by decide) (Nat.le_of_ble_eq_true rfl) hF (fun r2 h1 i3 hF => ?_)
  refine P_if_ne 10 d_MO_ofNode_5 (by decide) i3 (fun c => ?_) (fun c => ?_)
  · have hF := hF.1 c
    refine P_iload_n 2 d_MO_ofNode_10 rfl rfl ?_
    by_cases c0 : v2 = 0
    · have hF := hF.1 c0
      refine P_tabIn 48 0 d_MO_ofNode_11 c0 ⟨by decide, by decide⟩ (by decide) (by decide) rfl (by decide) ?_
      refine P_aload_n 0 d_MO_ofNode_48 rfl rfl ?_
      refine G_MO_parent tw_584 d_MO_ofNode_49 ?_
      refine P_iload_n 1 d_MO_ofNode_52 rfl rfl ?_
      obtain ⟨b4, hF⟩ := hF
      refine L_40 d_MO_ofNode_53 b4 (fun i5 => ?_)
      exact P_iret d_MO_ofNode_54 rfl hF
    by_cases c1 : v2 = 1
    · have hF := hF.2.1 c1
      refine P_tabIn 55 1 d_MO_ofNode_11 c1 ⟨by decide, by decide⟩ (by decide) (by decide) rfl (by decide) ?_
      refine P_aload_n 0 d_MO_ofNode_55 rfl rfl ?_
      refine G_MO_low tw_585 d_MO_ofNode_56 ?_
      refine P_iload_n 1 d_MO_ofNode_59 rfl rfl ?_
      obtain ⟨b6, hF⟩ := hF
      refine L_41 d_MO_ofNode_60 b6 (fun i7 => ?_)
      exact P_iret d_MO_ofNode_61 rfl hF
    by_cases c2 : v2 = 2
    · have hF := hF.2.2.1 c2
      refine P_tabIn 62 2 d_MO_ofNode_11 c2 ⟨by decide, by decide⟩ (by decide) (by decide) rfl (by decide) ?_
      refine P_aload_n 0 d_MO_ofNode_62 rfl rfl ?_
      refine G_MO_high tw_586 d_MO_ofNode_63 ?_
      refine P_iload_n 1 d_MO_ofNode_66 rfl rfl ?_
      obtain ⟨b8, hF⟩ := hF
      refine L_42 d_MO_ofNode_67 b8 (fun i9 => ?_)
      exact P_iret d_MO_ofNode_68 rfl hF
    by_cases c3 : v2 = 3
    · have hF := hF.2.2.2.1 c3
      refine P_tabIn 69 3 d_MO_ofNode_11 c3 ⟨by decide, by decide⟩ (by decide) (by decide) rfl (by decide) ?_
      refine P_aload_n 0 d_MO_ofNode_69 rfl rfl ?_
      refine G_MO_isFeared tw_587 d_MO_ofNode_70 ?_
      refine P_iload_n 1 d_MO_ofNode_73 rfl rfl ?_
      obtain ⟨b10, hF⟩ := hF
      refine L_43 d_MO_ofNode_74 b10 (fun i11 => ?_)
      refine P_if_eq 82 d_MO_ofNode_75 (by decide) i11 (fun c => ?_) (fun c => ?_)
      · have hF := hF.1 c
        refine P_iconst d_MO_ofNode_82 ?_
        exact P_iret d_MO_ofNode_83 rfl hF
      · have hF := hF.2 c
        refine P_iconst d_MO_ofNode_78 ?_
        refine P_goto 83 d_MO_ofNode_79 (by decide) ?_
        exact P_iret d_MO_ofNode_83 rfl hF
    by_cases c4 : v2 = 4
    · have hF := hF.2.2.2.2.1 c4
      refine P_tabIn 84 4 d_MO_ofNode_11 c4 ⟨by decide, by decide⟩ (by decide) (by decide) rfl (by decide) ?_
      refine P_aload_n 0 d_MO_ofNode_84 rfl rfl ?_
      refine P_iload_n 1 d_MO_ofNode_85 rfl rfl ?_
      refine V_MO_children tw_827 d_MO_ofNode_86 (by decide) (Nat.le_of_ble_eq_true rfl) hF (fun r13 h12 i14 hF => ?_)
      exact P_iret d_MO_ofNode_89 rfl hF
    by_cases c5 : v2 = 5
    · have hF := hF.2.2.2.2.2.1 c5
      refine P_tabIn 90 5 d_MO_ofNode_11 c5 ⟨by decide, by decide⟩ (by decide) (by decide) rfl (by decide) ?_
      refine P_aload_n 0 d_MO_ofNode_90 rfl rfl ?_
      refine P_iload_n 1 d_MO_ofNode_91 rfl rfl ?_
      refine V_MO_depth tw_823 d_MO_ofNode_92 (by decide) (Nat.le_of_ble_eq_true rfl) hF (fun r16 h15 i17 hF => ?_)
      exact P_iret d_MO_ofNode_95 rfl hF
    have hF := hF.2.2.2.2.2.2 (by omega)
    refine P_tabOut 96 d_MO_ofNode_11 g2 (by omega) (by decide) ?_
    refine P_bipush d_MO_ofNode_96 (by decide) ?_
    exact P_iret d_MO_ofNode_98 rfl hF
  · have hF := hF.2 c
    refine P_iconst d_MO_ofNode_8 ?_
    exact P_iret d_MO_ofNode_9 rfl hF
end Sfmodel3
