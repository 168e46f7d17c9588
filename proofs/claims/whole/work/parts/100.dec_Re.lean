theorem dd_Re_isIn_0 : decode cc_Re_isIn 0 = .ok (.lload_n 0, 1) := by decide +kernel
theorem dd_Re_isIn_1 : decode cc_Re_isIn 1 = .ok (.lload_n 2, 1) := by decide +kernel
theorem dd_Re_isIn_2 : decode cc_Re_isIn 2 = .ok (.lcmp, 1) := by decide +kernel
theorem dd_Re_isIn_3 : decode cc_Re_isIn 3 = .ok (.ifCond .lt 14, 3) := by decide +kernel
theorem dd_Re_isIn_6 : decode cc_Re_isIn 6 = .ok (.lload_n 0, 1) := by decide +kernel
theorem dd_Re_isIn_7 : decode cc_Re_isIn 7 = .ok (.lload 4, 2) := by decide +kernel
theorem dd_Re_isIn_9 : decode cc_Re_isIn 9 = .ok (.lcmp, 1) := by decide +kernel
theorem dd_Re_isIn_10 : decode cc_Re_isIn 10 = .ok (.ifCond .gt 7, 3) := by decide +kernel
theorem dd_Re_isIn_13 : decode cc_Re_isIn 13 = .ok (.iconst 1, 1) := by decide +kernel
theorem dd_Re_isIn_14 : decode cc_Re_isIn 14 = .ok (.goto 4, 3) := by decide +kernel
theorem dd_Re_isIn_17 : decode cc_Re_isIn 17 = .ok (.iconst 0, 1) := by decide +kernel
theorem dd_Re_isIn_18 : decode cc_Re_isIn 18 = .ok (.ireturn, 1) := by decide +kernel
theorem dd_Re_node_0 : decode cc_Re_node 0 = .ok (.iload_n 1, 1) := by decide +kernel
theorem dd_Re_node_1 : decode cc_Re_node 1 = .ok (.i2l, 1) := by decide +kernel
theorem dd_Re_node_2 : decode cc_Re_node 2 = .ok (.lconst 1, 1) := by decide +kernel
theorem dd_Re_node_3 : decode cc_Re_node 3 = .ok (.ldc2_w 61, 3) := by decide +kernel
theorem dd_Re_node_6 : decode cc_Re_node 6 = .ok (.invokestatic 63, 3) := by decide +kernel
theorem dd_Re_node_9 : decode cc_Re_node 9 = .ok (.ifCond .ne 5, 3) := by decide +kernel
theorem dd_Re_node_12 : decode cc_Re_node 12 = .ok (.iconst (-1), 1) := by decide +kernel
theorem dd_Re_node_13 : decode cc_Re_node 13 = .ok (.ireturn, 1) := by decide +kernel
theorem dd_Re_node_14 : decode cc_Re_node 14 = .ok (.aload_n 0, 1) := by decide +kernel
theorem dd_Re_node_15 : decode cc_Re_node 15 = .ok (.getfield 67, 3) := by decide +kernel
theorem dd_Re_node_18 : decode cc_Re_node 18 = .ok (.bipush 40, 2) := by decide +kernel
theorem dd_Re_node_20 : decode cc_Re_node 20 = .ok (.if_icmp .ne 6, 3) := by decide +kernel
theorem dd_Re_node_23 : decode cc_Re_node 23 = .ok (.bipush (-3), 2) := by decide +kernel
theorem dd_Re_node_25 : decode cc_Re_node 25 = .ok (.ireturn, 1) := by decide +kernel
theorem dd_Re_node_26 : decode cc_Re_node 26 = .ok (.aload_n 0, 1) := by decide +kernel
theorem dd_Re_node_27 : decode cc_Re_node 27 = .ok (.getfield 7, 3) := by decide +kernel
theorem dd_Re_node_30 : decode cc_Re_node 30 = .ok (.aload_n 0, 1) := by decide +kernel
theorem dd_Re_node_31 : decode cc_Re_node 31 = .ok (.getfield 67, 3) := by decide +kernel
theorem dd_Re_node_34 : decode cc_Re_node 34 = .ok (.iload_n 1, 1) := by decide +kernel
theorem dd_Re_node_35 : decode cc_Re_node 35 = .ok (.iastore, 1) := by decide +kernel
theorem dd_Re_node_36 : decode cc_Re_node 36 = .ok (.aload_n 0, 1) := by decide +kernel
theorem dd_Re_node_37 : decode cc_Re_node 37 = .ok (.getfield 16, 3) := by decide +kernel
theorem dd_Re_node_40 : decode cc_Re_node 40 = .ok (.aload_n 0, 1) := by decide +kernel
theorem dd_Re_node_41 : decode cc_Re_node 41 = .ok (.getfield 67, 3) := by decide +kernel
theorem dd_Re_node_44 : decode cc_Re_node 44 = .ok (.iconst 0, 1) := by decide +kernel
theorem dd_Re_node_45 : decode cc_Re_node 45 = .ok (.iastore, 1) := by decide +kernel
theorem dd_Re_node_46 : decode cc_Re_node 46 = .ok (.iconst 0, 1) := by decide +kernel
theorem dd_Re_node_47 : decode cc_Re_node 47 = .ok (.istore_n 2, 1) := by decide +kernel
theorem dd_Re_node_48 : decode cc_Re_node 48 = .ok (.iload_n 2, 1) := by decide +kernel
theorem dd_Re_node_49 : decode cc_Re_node 49 = .ok (.aload_n 0, 1) := by decide +kernel
theorem dd_Re_node_50 : decode cc_Re_node 50 = .ok (.getfield 67, 3) := by decide +kernel
theorem dd_Re_node_53 : decode cc_Re_node 53 = .ok (.if_icmp .gt 39, 3) := by decide +kernel
theorem dd_Re_node_56 : decode cc_Re_node 56 = .ok (.aload_n 0, 1) := by decide +kernel
theorem dd_Re_node_57 : decode cc_Re_node 57 = .ok (.getfield 13, 3) := by decide +kernel
theorem dd_Re_node_60 : decode cc_Re_node 60 = .ok (.bipush 40, 2) := by decide +kernel
theorem dd_Re_node_62 : decode cc_Re_node 62 = .ok (.aload_n 0, 1) := by decide +kernel
theorem dd_Re_node_63 : decode cc_Re_node 63 = .ok (.getfield 67, 3) := by decide +kernel
theorem dd_Re_node_66 : decode cc_Re_node 66 = .ok (.imul, 1) := by decide +kernel
theorem dd_Re_node_67 : decode cc_Re_node 67 = .ok (.iload_n 2, 1) := by decide +kernel
theorem dd_Re_node_68 : decode cc_Re_node 68 = .ok (.iadd, 1) := by decide +kernel
theorem dd_Re_node_69 : decode cc_Re_node 69 = .ok (.iconst 0, 1) := by decide +kernel
theorem dd_Re_node_70 : decode cc_Re_node 70 = .ok (.iastore, 1) := by decide +kernel
theorem dd_Re_node_71 : decode cc_Re_node 71 = .ok (.aload_n 0, 1) := by decide +kernel
theorem dd_Re_node_72 : decode cc_Re_node 72 = .ok (.getfield 13, 3) := by decide +kernel
theorem dd_Re_node_75 : decode cc_Re_node 75 = .ok (.bipush 40, 2) := by decide +kernel
theorem dd_Re_node_77 : decode cc_Re_node 77 = .ok (.iload_n 2, 1) := by decide +kernel
theorem dd_Re_node_78 : decode cc_Re_node 78 = .ok (.imul, 1) := by decide +kernel
theorem dd_Re_node_79 : decode cc_Re_node 79 = .ok (.aload_n 0, 1) := by decide +kernel
theorem dd_Re_node_80 : decode cc_Re_node 80 = .ok (.getfield 67, 3) := by decide +kernel
theorem dd_Re_node_83 : decode cc_Re_node 83 = .ok (.iadd, 1) := by decide +kernel
theorem dd_Re_node_84 : decode cc_Re_node 84 = .ok (.iconst 0, 1) := by decide +kernel
theorem dd_Re_node_85 : decode cc_Re_node 85 = .ok (.iastore, 1) := by decide +kernel
theorem dd_Re_node_86 : decode cc_Re_node 86 = .ok (.iinc 2 1, 3) := by decide +kernel
theorem dd_Re_node_89 : decode cc_Re_node 89 = .ok (.goto (-41), 3) := by decide +kernel
theorem dd_Re_node_92 : decode cc_Re_node 92 = .ok (.aload_n 0, 1) := by decide +kernel
theorem dd_Re_node_93 : decode cc_Re_node 93 = .ok (.dup, 1) := by decide +kernel
theorem dd_Re_node_94 : decode cc_Re_node 94 = .ok (.getfield 67, 3) := by decide +kernel
theorem dd_Re_node_97 : decode cc_Re_node 97 = .ok (.dup_x1, 1) := by decide +kernel
theorem dd_Re_node_98 : decode cc_Re_node 98 = .ok (.iconst 1, 1) := by decide +kernel
theorem dd_Re_node_99 : decode cc_Re_node 99 = .ok (.iadd, 1) := by decide +kernel
theorem dd_Re_node_100 : decode cc_Re_node 100 = .ok (.putfield 67, 3) := by decide +kernel
theorem dd_Re_node_103 : decode cc_Re_node 103 = .ok (.ireturn, 1) := by decide +kernel
theorem dd_Re_isNode_0 : decode cc_Re_isNode 0 = .ok (.iload_n 1, 1) := by decide +kernel
theorem dd_Re_isNode_1 : decode cc_Re_isNode 1 = .ok (.i2l, 1) := by decide +kernel
theorem dd_Re_isNode_2 : decode cc_Re_isNode 2 = .ok (.lconst 0, 1) := by decide +kernel
theorem dd_Re_isNode_3 : decode cc_Re_isNode 3 = .ok (.aload_n 0, 1) := by decide +kernel
theorem dd_Re_isNode_4 : decode cc_Re_isNode 4 = .ok (.getfield 67, 3) := by decide +kernel
theorem dd_Re_isNode_7 : decode cc_Re_isNode 7 = .ok (.iconst 1, 1) := by decide +kernel
theorem dd_Re_isNode_8 : decode cc_Re_isNode 8 = .ok (.isub, 1) := by decide +kernel
theorem dd_Re_isNode_9 : decode cc_Re_isNode 9 = .ok (.i2l, 1) := by decide +kernel
theorem dd_Re_isNode_10 : decode cc_Re_isNode 10 = .ok (.invokestatic 63, 3) := by decide +kernel
theorem dd_Re_isNode_13 : decode cc_Re_isNode 13 = .ok (.ireturn, 1) := by decide +kernel
theorem dd_Re_arc_0 : decode cc_Re_arc 0 = .ok (.aload_n 0, 1) := by decide +kernel
theorem dd_Re_arc_1 : decode cc_Re_arc 1 = .ok (.iload_n 1, 1) := by decide +kernel
theorem dd_Re_arc_2 : decode cc_Re_arc 2 = .ok (.invokevirtual 71, 3) := by decide +kernel
theorem dd_Re_arc_5 : decode cc_Re_arc 5 = .ok (.ifCond .eq 28, 3) := by decide +kernel
theorem dd_Re_arc_8 : decode cc_Re_arc 8 = .ok (.aload_n 0, 1) := by decide +kernel
theorem dd_Re_arc_9 : decode cc_Re_arc 9 = .ok (.iload_n 2, 1) := by decide +kernel
theorem dd_Re_arc_10 : decode cc_Re_arc 10 = .ok (.invokevirtual 71, 3) := by decide +kernel
theorem dd_Re_arc_13 : decode cc_Re_arc 13 = .ok (.ifCond .eq 20, 3) := by decide +kernel
theorem dd_Re_arc_16 : decode cc_Re_arc 16 = .ok (.iload_n 1, 1) := by decide +kernel
theorem dd_Re_arc_17 : decode cc_Re_arc 17 = .ok (.iload_n 2, 1) := by decide +kernel
theorem dd_Re_arc_18 : decode cc_Re_arc 18 = .ok (.if_icmp .eq 15, 3) := by decide +kernel
theorem dd_Re_arc_21 : decode cc_Re_arc 21 = .ok (.iload_n 3, 1) := by decide +kernel
theorem dd_Re_arc_22 : decode cc_Re_arc 22 = .ok (.i2l, 1) := by decide +kernel
theorem dd_Re_arc_23 : decode cc_Re_arc 23 = .ok (.lconst 1, 1) := by decide +kernel
theorem dd_Re_arc_24 : decode cc_Re_arc 24 = .ok (.ldc2_w 61, 3) := by decide +kernel
theorem dd_Re_arc_27 : decode cc_Re_arc 27 = .ok (.invokestatic 63, 3) := by decide +kernel
theorem dd_Re_arc_30 : decode cc_Re_arc 30 = .ok (.ifCond .ne 5, 3) := by decide +kernel
theorem dd_Re_arc_33 : decode cc_Re_arc 33 = .ok (.iconst (-1), 1) := by decide +kernel
theorem dd_Re_arc_34 : decode cc_Re_arc 34 = .ok (.ireturn, 1) := by decide +kernel
theorem dd_Re_arc_35 : decode cc_Re_arc 35 = .ok (.aload_n 0, 1) := by decide +kernel
theorem dd_Re_arc_36 : decode cc_Re_arc 36 = .ok (.getfield 13, 3) := by decide +kernel
theorem dd_Re_arc_39 : decode cc_Re_arc 39 = .ok (.bipush 40, 2) := by decide +kernel
theorem dd_Re_arc_41 : decode cc_Re_arc 41 = .ok (.iload_n 1, 1) := by decide +kernel
theorem dd_Re_arc_42 : decode cc_Re_arc 42 = .ok (.imul, 1) := by decide +kernel
theorem dd_Re_arc_43 : decode cc_Re_arc 43 = .ok (.iload_n 2, 1) := by decide +kernel
theorem dd_Re_arc_44 : decode cc_Re_arc 44 = .ok (.iadd, 1) := by decide +kernel
theorem dd_Re_arc_45 : decode cc_Re_arc 45 = .ok (.iaload, 1) := by decide +kernel
theorem dd_Re_arc_46 : decode cc_Re_arc 46 = .ok (.iload_n 3, 1) := by decide +kernel
theorem dd_Re_arc_47 : decode cc_Re_arc 47 = .ok (.iadd, 1) := by decide +kernel
theorem dd_Re_arc_48 : decode cc_Re_arc 48 = .ok (.istore 4, 2) := by decide +kernel
theorem dd_Re_arc_50 : decode cc_Re_arc 50 = .ok (.iload 4, 2) := by decide +kernel
theorem dd_Re_arc_52 : decode cc_Re_arc 52 = .ok (.ldc 75, 2) := by decide +kernel
theorem dd_Re_arc_54 : decode cc_Re_arc 54 = .ok (.if_icmp .le 6, 3) := by decide +kernel
theorem dd_Re_arc_57 : decode cc_Re_arc 57 = .ok (.bipush (-3), 2) := by decide +kernel
theorem dd_Re_arc_59 : decode cc_Re_arc 59 = .ok (.ireturn, 1) := by decide +kernel
theorem dd_Re_arc_60 : decode cc_Re_arc 60 = .ok (.aload_n 0, 1) := by decide +kernel
theorem dd_Re_arc_61 : decode cc_Re_arc 61 = .ok (.getfield 13, 3) := by decide +kernel
theorem dd_Re_arc_64 : decode cc_Re_arc 64 = .ok (.bipush 40, 2) := by decide +kernel
theorem dd_Re_arc_66 : decode cc_Re_arc 66 = .ok (.iload_n 1, 1) := by decide +kernel
theorem dd_Re_arc_67 : decode cc_Re_arc 67 = .ok (.imul, 1) := by decide +kernel
theorem dd_Re_arc_68 : decode cc_Re_arc 68 = .ok (.iload_n 2, 1) := by decide +kernel
theorem dd_Re_arc_69 : decode cc_Re_arc 69 = .ok (.iadd, 1) := by decide +kernel
theorem dd_Re_arc_70 : decode cc_Re_arc 70 = .ok (.iload 4, 2) := by decide +kernel
theorem dd_Re_arc_72 : decode cc_Re_arc 72 = .ok (.iastore, 1) := by decide +kernel
theorem dd_Re_arc_73 : decode cc_Re_arc 73 = .ok (.aload_n 0, 1) := by decide +kernel
theorem dd_Re_arc_74 : decode cc_Re_arc 74 = .ok (.getfield 13, 3) := by decide +kernel
theorem dd_Re_arc_77 : decode cc_Re_arc 77 = .ok (.bipush 40, 2) := by decide +kernel
theorem dd_Re_arc_79 : decode cc_Re_arc 79 = .ok (.iload_n 2, 1) := by decide +kernel
theorem dd_Re_arc_80 : decode cc_Re_arc 80 = .ok (.imul, 1) := by decide +kernel
theorem dd_Re_arc_81 : decode cc_Re_arc 81 = .ok (.iload_n 1, 1) := by decide +kernel
theorem dd_Re_arc_82 : decode cc_Re_arc 82 = .ok (.iadd, 1) := by decide +kernel
theorem dd_Re_arc_83 : decode cc_Re_arc 83 = .ok (.iload 4, 2) := by decide +kernel
theorem dd_Re_arc_85 : decode cc_Re_arc 85 = .ok (.iastore, 1) := by decide +kernel
theorem dd_Re_arc_86 : decode cc_Re_arc 86 = .ok (.iload 4, 2) := by decide +kernel
theorem dd_Re_arc_88 : decode cc_Re_arc 88 = .ok (.ireturn, 1) := by decide +kernel
theorem dd_Re_parts_0 : decode cc_Re_parts 0 = .ok (.iload_n 1, 1) := by decide +kernel
theorem dd_Re_parts_1 : decode cc_Re_parts 1 = .ok (.i2l, 1) := by decide +kernel
theorem dd_Re_parts_2 : decode cc_Re_parts 2 = .ok (.ldc2_w 76, 3) := by decide +kernel
theorem dd_Re_parts_5 : decode cc_Re_parts 5 = .ok (.ldc2_w 78, 3) := by decide +kernel
theorem dd_Re_parts_8 : decode cc_Re_parts 8 = .ok (.invokestatic 63, 3) := by decide +kernel
theorem dd_Re_parts_11 : decode cc_Re_parts 11 = .ok (.ifCond .ne 5, 3) := by decide +kernel
theorem dd_Re_parts_14 : decode cc_Re_parts 14 = .ok (.iconst (-1), 1) := by decide +kernel
theorem dd_Re_parts_15 : decode cc_Re_parts 15 = .ok (.ireturn, 1) := by decide +kernel
theorem dd_Re_parts_16 : decode cc_Re_parts 16 = .ok (.aload_n 0, 1) := by decide +kernel
theorem dd_Re_parts_17 : decode cc_Re_parts 17 = .ok (.getfield 80, 3) := by decide +kernel
theorem dd_Re_parts_20 : decode cc_Re_parts 20 = .ok (.istore_n 2, 1) := by decide +kernel
theorem dd_Re_parts_21 : decode cc_Re_parts 21 = .ok (.aload_n 0, 1) := by decide +kernel
theorem dd_Re_parts_22 : decode cc_Re_parts 22 = .ok (.iload_n 1, 1) := by decide +kernel
theorem dd_Re_parts_23 : decode cc_Re_parts 23 = .ok (.putfield 80, 3) := by decide +kernel
theorem dd_Re_parts_26 : decode cc_Re_parts 26 = .ok (.iconst 0, 1) := by decide +kernel
theorem dd_Re_parts_27 : decode cc_Re_parts 27 = .ok (.istore_n 3, 1) := by decide +kernel
theorem dd_Re_parts_28 : decode cc_Re_parts 28 = .ok (.iload_n 3, 1) := by decide +kernel
theorem dd_Re_parts_29 : decode cc_Re_parts 29 = .ok (.iconst 4, 1) := by decide +kernel
theorem dd_Re_parts_30 : decode cc_Re_parts 30 = .ok (.if_icmp .ge 24, 3) := by decide +kernel
theorem dd_Re_parts_33 : decode cc_Re_parts 33 = .ok (.aload_n 0, 1) := by decide +kernel
theorem dd_Re_parts_34 : decode cc_Re_parts 34 = .ok (.getfield 19, 3) := by decide +kernel
theorem dd_Re_parts_37 : decode cc_Re_parts 37 = .ok (.iload_n 3, 1) := by decide +kernel
theorem dd_Re_parts_38 : decode cc_Re_parts 38 = .ok (.iconst 0, 1) := by decide +kernel
theorem dd_Re_parts_39 : decode cc_Re_parts 39 = .ok (.iastore, 1) := by decide +kernel
theorem dd_Re_parts_40 : decode cc_Re_parts 40 = .ok (.aload_n 0, 1) := by decide +kernel
theorem dd_Re_parts_41 : decode cc_Re_parts 41 = .ok (.getfield 22, 3) := by decide +kernel
theorem dd_Re_parts_44 : decode cc_Re_parts 44 = .ok (.iload_n 3, 1) := by decide +kernel
theorem dd_Re_parts_45 : decode cc_Re_parts 45 = .ok (.ldc 75, 2) := by decide +kernel
theorem dd_Re_parts_47 : decode cc_Re_parts 47 = .ok (.iastore, 1) := by decide +kernel
theorem dd_Re_parts_48 : decode cc_Re_parts 48 = .ok (.iinc 3 1, 3) := by decide +kernel
theorem dd_Re_parts_51 : decode cc_Re_parts 51 = .ok (.goto (-23), 3) := by decide +kernel
theorem dd_Re_parts_54 : decode cc_Re_parts 54 = .ok (.iconst 0, 1) := by decide +kernel
theorem dd_Re_parts_55 : decode cc_Re_parts 55 = .ok (.istore_n 3, 1) := by decide +kernel
theorem dd_Re_parts_56 : decode cc_Re_parts 56 = .ok (.iload_n 3, 1) := by decide +kernel
theorem dd_Re_parts_57 : decode cc_Re_parts 57 = .ok (.aload_n 0, 1) := by decide +kernel
theorem dd_Re_parts_58 : decode cc_Re_parts 58 = .ok (.getfield 67, 3) := by decide +kernel
theorem dd_Re_parts_61 : decode cc_Re_parts 61 = .ok (.if_icmp .ge 16, 3) := by decide +kernel
theorem dd_Re_parts_64 : decode cc_Re_parts 64 = .ok (.aload_n 0, 1) := by decide +kernel
theorem dd_Re_parts_65 : decode cc_Re_parts 65 = .ok (.getfield 16, 3) := by decide +kernel
theorem dd_Re_parts_68 : decode cc_Re_parts 68 = .ok (.iload_n 3, 1) := by decide +kernel
theorem dd_Re_parts_69 : decode cc_Re_parts 69 = .ok (.iconst 0, 1) := by decide +kernel
theorem dd_Re_parts_70 : decode cc_Re_parts 70 = .ok (.iastore, 1) := by decide +kernel
theorem dd_Re_parts_71 : decode cc_Re_parts 71 = .ok (.iinc 3 1, 3) := by decide +kernel
theorem dd_Re_parts_74 : decode cc_Re_parts 74 = .ok (.goto (-18), 3) := by decide +kernel
theorem dd_Re_parts_77 : decode cc_Re_parts 77 = .ok (.iload_n 2, 1) := by decide +kernel
theorem dd_Re_parts_78 : decode cc_Re_parts 78 = .ok (.ireturn, 1) := by decide +kernel
theorem dd_Re_isPart_0 : decode cc_Re_isPart 0 = .ok (.iload_n 1, 1) := by decide +kernel
theorem dd_Re_isPart_1 : decode cc_Re_isPart 1 = .ok (.i2l, 1) := by decide +kernel
theorem dd_Re_isPart_2 : decode cc_Re_isPart 2 = .ok (.lconst 0, 1) := by decide +kernel
theorem dd_Re_isPart_3 : decode cc_Re_isPart 3 = .ok (.aload_n 0, 1) := by decide +kernel
theorem dd_Re_isPart_4 : decode cc_Re_isPart 4 = .ok (.getfield 80, 3) := by decide +kernel
theorem dd_Re_isPart_7 : decode cc_Re_isPart 7 = .ok (.iconst 1, 1) := by decide +kernel
theorem dd_Re_isPart_8 : decode cc_Re_isPart 8 = .ok (.isub, 1) := by decide +kernel
theorem dd_Re_isPart_9 : decode cc_Re_isPart 9 = .ok (.i2l, 1) := by decide +kernel
theorem dd_Re_isPart_10 : decode cc_Re_isPart 10 = .ok (.invokestatic 63, 3) := by decide +kernel
theorem dd_Re_isPart_13 : decode cc_Re_isPart 13 = .ok (.ireturn, 1) := by decide +kernel
theorem dd_Re_bound_0 : decode cc_Re_bound 0 = .ok (.aload_n 0, 1) := by decide +kernel
theorem dd_Re_bound_1 : decode cc_Re_bound 1 = .ok (.iload_n 1, 1) := by decide +kernel
theorem dd_Re_bound_2 : decode cc_Re_bound 2 = .ok (.invokevirtual 83, 3) := by decide +kernel
theorem dd_Re_bound_5 : decode cc_Re_bound 5 = .ok (.ifCond .eq 28, 3) := by decide +kernel
theorem dd_Re_bound_8 : decode cc_Re_bound 8 = .ok (.iload_n 2, 1) := by decide +kernel
theorem dd_Re_bound_9 : decode cc_Re_bound 9 = .ok (.i2l, 1) := by decide +kernel
theorem dd_Re_bound_10 : decode cc_Re_bound 10 = .ok (.lconst 0, 1) := by decide +kernel
theorem dd_Re_bound_11 : decode cc_Re_bound 11 = .ok (.ldc2_w 86, 3) := by decide +kernel
theorem dd_Re_bound_14 : decode cc_Re_bound 14 = .ok (.invokestatic 63, 3) := by decide +kernel
theorem dd_Re_bound_17 : decode cc_Re_bound 17 = .ok (.ifCond .eq 16, 3) := by decide +kernel
theorem dd_Re_bound_20 : decode cc_Re_bound 20 = .ok (.iload_n 3, 1) := by decide +kernel
theorem dd_Re_bound_21 : decode cc_Re_bound 21 = .ok (.i2l, 1) := by decide +kernel
theorem dd_Re_bound_22 : decode cc_Re_bound 22 = .ok (.iload_n 2, 1) := by decide +kernel
theorem dd_Re_bound_23 : decode cc_Re_bound 23 = .ok (.i2l, 1) := by decide +kernel
theorem dd_Re_bound_24 : decode cc_Re_bound 24 = .ok (.ldc2_w 86, 3) := by decide +kernel
theorem dd_Re_bound_27 : decode cc_Re_bound 27 = .ok (.invokestatic 63, 3) := by decide +kernel
theorem dd_Re_bound_30 : decode cc_Re_bound 30 = .ok (.ifCond .ne 5, 3) := by decide +kernel
theorem dd_Re_bound_33 : decode cc_Re_bound 33 = .ok (.iconst (-1), 1) := by decide +kernel
theorem dd_Re_bound_34 : decode cc_Re_bound 34 = .ok (.ireturn, 1) := by decide +kernel
theorem dd_Re_bound_35 : decode cc_Re_bound 35 = .ok (.aload_n 0, 1) := by decide +kernel
theorem dd_Re_bound_36 : decode cc_Re_bound 36 = .ok (.getfield 19, 3) := by decide +kernel
theorem dd_Re_bound_39 : decode cc_Re_bound 39 = .ok (.iload_n 1, 1) := by decide +kernel
theorem dd_Re_bound_40 : decode cc_Re_bound 40 = .ok (.iload_n 2, 1) := by decide +kernel
theorem dd_Re_bound_41 : decode cc_Re_bound 41 = .ok (.iastore, 1) := by decide +kernel
theorem dd_Re_bound_42 : decode cc_Re_bound 42 = .ok (.aload_n 0, 1) := by decide +kernel
theorem dd_Re_bound_43 : decode cc_Re_bound 43 = .ok (.getfield 22, 3) := by decide +kernel
theorem dd_Re_bound_46 : decode cc_Re_bound 46 = .ok (.iload_n 1, 1) := by decide +kernel
theorem dd_Re_bound_47 : decode cc_Re_bound 47 = .ok (.iload_n 3, 1) := by decide +kernel
theorem dd_Re_bound_48 : decode cc_Re_bound 48 = .ok (.iastore, 1) := by decide +kernel
theorem dd_Re_bound_49 : decode cc_Re_bound 49 = .ok (.iconst 0, 1) := by decide +kernel
theorem dd_Re_bound_50 : decode cc_Re_bound 50 = .ok (.ireturn, 1) := by decide +kernel
theorem dd_Re_put_0 : decode cc_Re_put 0 = .ok (.aload_n 0, 1) := by decide +kernel
theorem dd_Re_put_1 : decode cc_Re_put 1 = .ok (.iload_n 1, 1) := by decide +kernel
theorem dd_Re_put_2 : decode cc_Re_put 2 = .ok (.invokevirtual 71, 3) := by decide +kernel
theorem dd_Re_put_5 : decode cc_Re_put 5 = .ok (.ifCond .eq 11, 3) := by decide +kernel
theorem dd_Re_put_8 : decode cc_Re_put 8 = .ok (.aload_n 0, 1) := by decide +kernel
theorem dd_Re_put_9 : decode cc_Re_put 9 = .ok (.iload_n 2, 1) := by decide +kernel
theorem dd_Re_put_10 : decode cc_Re_put 10 = .ok (.invokevirtual 83, 3) := by decide +kernel
theorem dd_Re_put_13 : decode cc_Re_put 13 = .ok (.ifCond .ne 5, 3) := by decide +kernel
theorem dd_Re_put_16 : decode cc_Re_put 16 = .ok (.iconst (-1), 1) := by decide +kernel
theorem dd_Re_put_17 : decode cc_Re_put 17 = .ok (.ireturn, 1) := by decide +kernel
theorem dd_Re_put_18 : decode cc_Re_put 18 = .ok (.aload_n 0, 1) := by decide +kernel
theorem dd_Re_put_19 : decode cc_Re_put 19 = .ok (.getfield 16, 3) := by decide +kernel
theorem dd_Re_put_22 : decode cc_Re_put 22 = .ok (.iload_n 1, 1) := by decide +kernel
theorem dd_Re_put_23 : decode cc_Re_put 23 = .ok (.iaload, 1) := by decide +kernel
theorem dd_Re_put_24 : decode cc_Re_put 24 = .ok (.istore_n 3, 1) := by decide +kernel
theorem dd_Re_put_25 : decode cc_Re_put 25 = .ok (.aload_n 0, 1) := by decide +kernel
theorem dd_Re_put_26 : decode cc_Re_put 26 = .ok (.getfield 16, 3) := by decide +kernel
theorem dd_Re_put_29 : decode cc_Re_put 29 = .ok (.iload_n 1, 1) := by decide +kernel
theorem dd_Re_put_30 : decode cc_Re_put 30 = .ok (.iload_n 2, 1) := by decide +kernel
theorem dd_Re_put_31 : decode cc_Re_put 31 = .ok (.iastore, 1) := by decide +kernel
theorem dd_Re_put_32 : decode cc_Re_put 32 = .ok (.iload_n 3, 1) := by decide +kernel
theorem dd_Re_put_33 : decode cc_Re_put 33 = .ok (.ireturn, 1) := by decide +kernel
theorem dd_Re_clear_0 : decode cc_Re_clear 0 = .ok (.aload_n 0, 1) := by decide +kernel
theorem dd_Re_clear_1 : decode cc_Re_clear 1 = .ok (.getfield 67, 3) := by decide +kernel
theorem dd_Re_clear_4 : decode cc_Re_clear 4 = .ok (.istore_n 1, 1) := by decide +kernel
theorem dd_Re_clear_5 : decode cc_Re_clear 5 = .ok (.aload_n 0, 1) := by decide +kernel
theorem dd_Re_clear_6 : decode cc_Re_clear 6 = .ok (.iconst 0, 1) := by decide +kernel
theorem dd_Re_clear_7 : decode cc_Re_clear 7 = .ok (.putfield 67, 3) := by decide +kernel
theorem dd_Re_clear_10 : decode cc_Re_clear 10 = .ok (.aload_n 0, 1) := by decide +kernel
theorem dd_Re_clear_11 : decode cc_Re_clear 11 = .ok (.iconst 2, 1) := by decide +kernel
theorem dd_Re_clear_12 : decode cc_Re_clear 12 = .ok (.invokevirtual 88, 3) := by decide +kernel
theorem dd_Re_clear_15 : decode cc_Re_clear 15 = .ok (.pop, 1) := by decide +kernel
theorem dd_Re_clear_16 : decode cc_Re_clear 16 = .ok (.iload_n 1, 1) := by decide +kernel
theorem dd_Re_clear_17 : decode cc_Re_clear 17 = .ok (.ireturn, 1) := by decide +kernel
theorem dd_Re_mate_0 : decode cc_Re_mate 0 = .ok (.iconst (-1), 1) := by decide +kernel
theorem dd_Re_mate_1 : decode cc_Re_mate 1 = .ok (.istore 5, 2) := by decide +kernel
theorem dd_Re_mate_3 : decode cc_Re_mate 3 = .ok (.iconst 0, 1) := by decide +kernel
theorem dd_Re_mate_4 : decode cc_Re_mate 4 = .ok (.istore 6, 2) := by decide +kernel
theorem dd_Re_mate_6 : decode cc_Re_mate 6 = .ok (.iconst 0, 1) := by decide +kernel
theorem dd_Re_mate_7 : decode cc_Re_mate 7 = .ok (.istore 7, 2) := by decide +kernel
theorem dd_Re_mate_9 : decode cc_Re_mate 9 = .ok (.iload 7, 2) := by decide +kernel
theorem dd_Re_mate_11 : decode cc_Re_mate 11 = .ok (.aload_n 0, 1) := by decide +kernel
theorem dd_Re_mate_12 : decode cc_Re_mate 12 = .ok (.getfield 25, 3) := by decide +kernel
theorem dd_Re_mate_15 : decode cc_Re_mate 15 = .ok (.iload_n 1, 1) := by decide +kernel
theorem dd_Re_mate_16 : decode cc_Re_mate 16 = .ok (.iaload, 1) := by decide +kernel
theorem dd_Re_mate_17 : decode cc_Re_mate 17 = .ok (.if_icmp .ge 157, 3) := by decide +kernel
theorem dd_Re_mate_20 : decode cc_Re_mate 20 = .ok (.aload_n 0, 1) := by decide +kernel
theorem dd_Re_mate_21 : decode cc_Re_mate 21 = .ok (.getfield 32, 3) := by decide +kernel
theorem dd_Re_mate_24 : decode cc_Re_mate 24 = .ok (.sipush 1600, 3) := by decide +kernel
theorem dd_Re_mate_27 : decode cc_Re_mate 27 = .ok (.iload_n 1, 1) := by decide +kernel
theorem dd_Re_mate_28 : decode cc_Re_mate 28 = .ok (.imul, 1) := by decide +kernel
theorem dd_Re_mate_29 : decode cc_Re_mate 29 = .ok (.bipush 40, 2) := by decide +kernel
theorem dd_Re_mate_31 : decode cc_Re_mate 31 = .ok (.iload_n 2, 1) := by decide +kernel
theorem dd_Re_mate_32 : decode cc_Re_mate 32 = .ok (.imul, 1) := by decide +kernel
theorem dd_Re_mate_33 : decode cc_Re_mate 33 = .ok (.iadd, 1) := by decide +kernel
theorem dd_Re_mate_34 : decode cc_Re_mate 34 = .ok (.iload 7, 2) := by decide +kernel
theorem dd_Re_mate_36 : decode cc_Re_mate 36 = .ok (.iadd, 1) := by decide +kernel
theorem dd_Re_mate_37 : decode cc_Re_mate 37 = .ok (.iaload, 1) := by decide +kernel
theorem dd_Re_mate_38 : decode cc_Re_mate 38 = .ok (.istore 8, 2) := by decide +kernel
theorem dd_Re_mate_40 : decode cc_Re_mate 40 = .ok (.iload 7, 2) := by decide +kernel
theorem dd_Re_mate_42 : decode cc_Re_mate 42 = .ok (.iload_n 2, 1) := by decide +kernel
theorem dd_Re_mate_43 : decode cc_Re_mate 43 = .ok (.if_icmp .eq 125, 3) := by decide +kernel
theorem dd_Re_mate_46 : decode cc_Re_mate 46 = .ok (.iload 8, 2) := by decide +kernel
theorem dd_Re_mate_48 : decode cc_Re_mate 48 = .ok (.ifCond .eq 120, 3) := by decide +kernel
theorem dd_Re_mate_51 : decode cc_Re_mate 51 = .ok (.aload_n 0, 1) := by decide +kernel
theorem dd_Re_mate_52 : decode cc_Re_mate 52 = .ok (.getfield 35, 3) := by decide +kernel
theorem dd_Re_mate_55 : decode cc_Re_mate 55 = .ok (.bipush 40, 2) := by decide +kernel
theorem dd_Re_mate_57 : decode cc_Re_mate 57 = .ok (.iload_n 1, 1) := by decide +kernel
theorem dd_Re_mate_58 : decode cc_Re_mate 58 = .ok (.imul, 1) := by decide +kernel
theorem dd_Re_mate_59 : decode cc_Re_mate 59 = .ok (.iload 7, 2) := by decide +kernel
theorem dd_Re_mate_61 : decode cc_Re_mate 61 = .ok (.iadd, 1) := by decide +kernel
theorem dd_Re_mate_62 : decode cc_Re_mate 62 = .ok (.iaload, 1) := by decide +kernel
theorem dd_Re_mate_63 : decode cc_Re_mate 63 = .ok (.ifCond .ge 105, 3) := by decide +kernel
theorem dd_Re_mate_66 : decode cc_Re_mate 66 = .ok (.aload_n 0, 1) := by decide +kernel
theorem dd_Re_mate_67 : decode cc_Re_mate 67 = .ok (.getfield 28, 3) := by decide +kernel
theorem dd_Re_mate_70 : decode cc_Re_mate 70 = .ok (.bipush 40, 2) := by decide +kernel
theorem dd_Re_mate_72 : decode cc_Re_mate 72 = .ok (.iload_n 1, 1) := by decide +kernel
theorem dd_Re_mate_73 : decode cc_Re_mate 73 = .ok (.imul, 1) := by decide +kernel
theorem dd_Re_mate_74 : decode cc_Re_mate 74 = .ok (.iload_n 2, 1) := by decide +kernel
theorem dd_Re_mate_75 : decode cc_Re_mate 75 = .ok (.iadd, 1) := by decide +kernel
theorem dd_Re_mate_76 : decode cc_Re_mate 76 = .ok (.iaload, 1) := by decide +kernel
theorem dd_Re_mate_77 : decode cc_Re_mate 77 = .ok (.aload_n 0, 1) := by decide +kernel
theorem dd_Re_mate_78 : decode cc_Re_mate 78 = .ok (.getfield 28, 3) := by decide +kernel
theorem dd_Re_mate_81 : decode cc_Re_mate 81 = .ok (.bipush 40, 2) := by decide +kernel
theorem dd_Re_mate_83 : decode cc_Re_mate 83 = .ok (.iload_n 1, 1) := by decide +kernel
theorem dd_Re_mate_84 : decode cc_Re_mate 84 = .ok (.imul, 1) := by decide +kernel
theorem dd_Re_mate_85 : decode cc_Re_mate 85 = .ok (.iload 7, 2) := by decide +kernel
theorem dd_Re_mate_87 : decode cc_Re_mate 87 = .ok (.iadd, 1) := by decide +kernel
theorem dd_Re_mate_88 : decode cc_Re_mate 88 = .ok (.iaload, 1) := by decide +kernel
theorem dd_Re_mate_89 : decode cc_Re_mate 89 = .ok (.iadd, 1) := by decide +kernel
theorem dd_Re_mate_90 : decode cc_Re_mate 90 = .ok (.i2l, 1) := by decide +kernel
theorem dd_Re_mate_91 : decode cc_Re_mate 91 = .ok (.lload_n 3, 1) := by decide +kernel
theorem dd_Re_mate_92 : decode cc_Re_mate 92 = .ok (.lcmp, 1) := by decide +kernel
theorem dd_Re_mate_93 : decode cc_Re_mate 93 = .ok (.ifCond .le 6, 3) := by decide +kernel
theorem dd_Re_mate_96 : decode cc_Re_mate 96 = .ok (.goto 72, 3) := by decide +kernel
theorem dd_Re_mate_99 : decode cc_Re_mate 99 = .ok (.iload 5, 2) := by decide +kernel
theorem dd_Re_mate_101 : decode cc_Re_mate 101 = .ok (.ifCond .lt 44, 3) := by decide +kernel
theorem dd_Re_mate_104 : decode cc_Re_mate 104 = .ok (.iload 8, 2) := by decide +kernel
theorem dd_Re_mate_106 : decode cc_Re_mate 106 = .ok (.iload 6, 2) := by decide +kernel
theorem dd_Re_mate_108 : decode cc_Re_mate 108 = .ok (.if_icmp .gt 37, 3) := by decide +kernel
theorem dd_Re_mate_111 : decode cc_Re_mate 111 = .ok (.iload 8, 2) := by decide +kernel
theorem dd_Re_mate_113 : decode cc_Re_mate 113 = .ok (.iload 6, 2) := by decide +kernel
theorem dd_Re_mate_115 : decode cc_Re_mate 115 = .ok (.if_icmp .ne 34, 3) := by decide +kernel
theorem dd_Re_mate_118 : decode cc_Re_mate 118 = .ok (.aload_n 0, 1) := by decide +kernel
theorem dd_Re_mate_119 : decode cc_Re_mate 119 = .ok (.getfield 28, 3) := by decide +kernel
theorem dd_Re_mate_122 : decode cc_Re_mate 122 = .ok (.bipush 40, 2) := by decide +kernel
theorem dd_Re_mate_124 : decode cc_Re_mate 124 = .ok (.iload_n 1, 1) := by decide +kernel
theorem dd_Re_mate_125 : decode cc_Re_mate 125 = .ok (.imul, 1) := by decide +kernel
theorem dd_Re_mate_126 : decode cc_Re_mate 126 = .ok (.iload 7, 2) := by decide +kernel
theorem dd_Re_mate_128 : decode cc_Re_mate 128 = .ok (.iadd, 1) := by decide +kernel
theorem dd_Re_mate_129 : decode cc_Re_mate 129 = .ok (.iaload, 1) := by decide +kernel
theorem dd_Re_mate_130 : decode cc_Re_mate 130 = .ok (.aload_n 0, 1) := by decide +kernel
theorem dd_Re_mate_131 : decode cc_Re_mate 131 = .ok (.getfield 28, 3) := by decide +kernel
theorem dd_Re_mate_134 : decode cc_Re_mate 134 = .ok (.bipush 40, 2) := by decide +kernel
theorem dd_Re_mate_136 : decode cc_Re_mate 136 = .ok (.iload_n 1, 1) := by decide +kernel
theorem dd_Re_mate_137 : decode cc_Re_mate 137 = .ok (.imul, 1) := by decide +kernel
theorem dd_Re_mate_138 : decode cc_Re_mate 138 = .ok (.iload 5, 2) := by decide +kernel
theorem dd_Re_mate_140 : decode cc_Re_mate 140 = .ok (.iadd, 1) := by decide +kernel
theorem dd_Re_mate_141 : decode cc_Re_mate 141 = .ok (.iaload, 1) := by decide +kernel
theorem dd_Re_mate_142 : decode cc_Re_mate 142 = .ok (.if_icmp .ge 7, 3) := by decide +kernel
theorem dd_Re_mate_145 : decode cc_Re_mate 145 = .ok (.iconst 1, 1) := by decide +kernel
theorem dd_Re_mate_146 : decode cc_Re_mate 146 = .ok (.goto 4, 3) := by decide +kernel
theorem dd_Re_mate_149 : decode cc_Re_mate 149 = .ok (.iconst 0, 1) := by decide +kernel
theorem dd_Re_mate_150 : decode cc_Re_mate 150 = .ok (.istore 9, 2) := by decide +kernel
theorem dd_Re_mate_152 : decode cc_Re_mate 152 = .ok (.iload 9, 2) := by decide +kernel
theorem dd_Re_mate_154 : decode cc_Re_mate 154 = .ok (.ifCond .ne 6, 3) := by decide +kernel
theorem dd_Re_mate_157 : decode cc_Re_mate 157 = .ok (.goto 11, 3) := by decide +kernel
theorem dd_Re_mate_160 : decode cc_Re_mate 160 = .ok (.iload 7, 2) := by decide +kernel
theorem dd_Re_mate_162 : decode cc_Re_mate 162 = .ok (.istore 5, 2) := by decide +kernel
theorem dd_Re_mate_164 : decode cc_Re_mate 164 = .ok (.iload 8, 2) := by decide +kernel
theorem dd_Re_mate_166 : decode cc_Re_mate 166 = .ok (.istore 6, 2) := by decide +kernel
theorem dd_Re_mate_168 : decode cc_Re_mate 168 = .ok (.iinc 7 1, 3) := by decide +kernel
theorem dd_Re_mate_171 : decode cc_Re_mate 171 = .ok (.goto (-162), 3) := by decide +kernel
theorem dd_Re_mate_174 : decode cc_Re_mate 174 = .ok (.iload 5, 2) := by decide +kernel
theorem dd_Re_mate_176 : decode cc_Re_mate 176 = .ok (.ireturn, 1) := by decide +kernel
theorem dd_Re_next_0 : decode cc_Re_next 0 = .ok (.aload_n 0, 1) := by decide +kernel
theorem dd_Re_next_1 : decode cc_Re_next 1 = .ok (.getfield 25, 3) := by decide +kernel
theorem dd_Re_next_4 : decode cc_Re_next 4 = .ok (.iload_n 1, 1) := by decide +kernel
theorem dd_Re_next_5 : decode cc_Re_next 5 = .ok (.iaload, 1) := by decide +kernel
theorem dd_Re_next_6 : decode cc_Re_next 6 = .ok (.istore_n 2, 1) := by decide +kernel
theorem dd_Re_next_7 : decode cc_Re_next 7 = .ok (.lconst 0, 1) := by decide +kernel
theorem dd_Re_next_8 : decode cc_Re_next 8 = .ok (.lstore_n 3, 1) := by decide +kernel
theorem dd_Re_next_9 : decode cc_Re_next 9 = .ok (.iconst 0, 1) := by decide +kernel
theorem dd_Re_next_10 : decode cc_Re_next 10 = .ok (.istore 5, 2) := by decide +kernel
theorem dd_Re_next_12 : decode cc_Re_next 12 = .ok (.iload 5, 2) := by decide +kernel
theorem dd_Re_next_14 : decode cc_Re_next 14 = .ok (.iload_n 2, 1) := by decide +kernel
theorem dd_Re_next_15 : decode cc_Re_next 15 = .ok (.if_icmp .ge 38, 3) := by decide +kernel
theorem dd_Re_next_18 : decode cc_Re_next 18 = .ok (.lload_n 3, 1) := by decide +kernel
theorem dd_Re_next_19 : decode cc_Re_next 19 = .ok (.aload_n 0, 1) := by decide +kernel
theorem dd_Re_next_20 : decode cc_Re_next 20 = .ok (.getfield 28, 3) := by decide +kernel
theorem dd_Re_next_23 : decode cc_Re_next 23 = .ok (.bipush 40, 2) := by decide +kernel
theorem dd_Re_next_25 : decode cc_Re_next 25 = .ok (.iload_n 1, 1) := by decide +kernel
theorem dd_Re_next_26 : decode cc_Re_next 26 = .ok (.imul, 1) := by decide +kernel
theorem dd_Re_next_27 : decode cc_Re_next 27 = .ok (.iload 5, 2) := by decide +kernel
theorem dd_Re_next_29 : decode cc_Re_next 29 = .ok (.iadd, 1) := by decide +kernel
theorem dd_Re_next_30 : decode cc_Re_next 30 = .ok (.iaload, 1) := by decide +kernel
theorem dd_Re_next_31 : decode cc_Re_next 31 = .ok (.i2l, 1) := by decide +kernel
theorem dd_Re_next_32 : decode cc_Re_next 32 = .ok (.ladd, 1) := by decide +kernel
theorem dd_Re_next_33 : decode cc_Re_next 33 = .ok (.lstore_n 3, 1) := by decide +kernel
theorem dd_Re_next_34 : decode cc_Re_next 34 = .ok (.aload_n 0, 1) := by decide +kernel
theorem dd_Re_next_35 : decode cc_Re_next 35 = .ok (.getfield 35, 3) := by decide +kernel
theorem dd_Re_next_38 : decode cc_Re_next 38 = .ok (.bipush 40, 2) := by decide +kernel
theorem dd_Re_next_40 : decode cc_Re_next 40 = .ok (.iload_n 1, 1) := by decide +kernel
theorem dd_Re_next_41 : decode cc_Re_next 41 = .ok (.imul, 1) := by decide +kernel
theorem dd_Re_next_42 : decode cc_Re_next 42 = .ok (.iload 5, 2) := by decide +kernel
theorem dd_Re_next_44 : decode cc_Re_next 44 = .ok (.iadd, 1) := by decide +kernel
theorem dd_Re_next_45 : decode cc_Re_next 45 = .ok (.iconst (-1), 1) := by decide +kernel
theorem dd_Re_next_46 : decode cc_Re_next 46 = .ok (.iastore, 1) := by decide +kernel
theorem dd_Re_next_47 : decode cc_Re_next 47 = .ok (.iinc 5 1, 3) := by decide +kernel
theorem dd_Re_next_50 : decode cc_Re_next 50 = .ok (.goto (-38), 3) := by decide +kernel
theorem dd_Re_next_53 : decode cc_Re_next 53 = .ok (.lload_n 3, 1) := by decide +kernel
theorem dd_Re_next_54 : decode cc_Re_next 54 = .ok (.iconst 2, 1) := by decide +kernel
theorem dd_Re_next_55 : decode cc_Re_next 55 = .ok (.aload_n 0, 1) := by decide +kernel
theorem dd_Re_next_56 : decode cc_Re_next 56 = .ok (.getfield 80, 3) := by decide +kernel
theorem dd_Re_next_59 : decode cc_Re_next 59 = .ok (.imul, 1) := by decide +kernel
theorem dd_Re_next_60 : decode cc_Re_next 60 = .ok (.i2l, 1) := by decide +kernel
theorem dd_Re_next_61 : decode cc_Re_next 61 = .ok (.ldiv, 1) := by decide +kernel
theorem dd_Re_next_62 : decode cc_Re_next 62 = .ok (.lstore 5, 2) := by decide +kernel
theorem dd_Re_next_64 : decode cc_Re_next 64 = .ok (.iconst 0, 1) := by decide +kernel
theorem dd_Re_next_65 : decode cc_Re_next 65 = .ok (.istore 7, 2) := by decide +kernel
theorem dd_Re_next_67 : decode cc_Re_next 67 = .ok (.iconst 0, 1) := by decide +kernel
theorem dd_Re_next_68 : decode cc_Re_next 68 = .ok (.istore 8, 2) := by decide +kernel
theorem dd_Re_next_70 : decode cc_Re_next 70 = .ok (.iload 8, 2) := by decide +kernel
theorem dd_Re_next_72 : decode cc_Re_next 72 = .ok (.iload_n 2, 1) := by decide +kernel
theorem dd_Re_next_73 : decode cc_Re_next 73 = .ok (.if_icmp .ge 74, 3) := by decide +kernel
theorem dd_Re_next_76 : decode cc_Re_next 76 = .ok (.aload_n 0, 1) := by decide +kernel
theorem dd_Re_next_77 : decode cc_Re_next 77 = .ok (.getfield 35, 3) := by decide +kernel
theorem dd_Re_next_80 : decode cc_Re_next 80 = .ok (.bipush 40, 2) := by decide +kernel
theorem dd_Re_next_82 : decode cc_Re_next 82 = .ok (.iload_n 1, 1) := by decide +kernel
theorem dd_Re_next_83 : decode cc_Re_next 83 = .ok (.imul, 1) := by decide +kernel
theorem dd_Re_next_84 : decode cc_Re_next 84 = .ok (.iload 8, 2) := by decide +kernel
theorem dd_Re_next_86 : decode cc_Re_next 86 = .ok (.iadd, 1) := by decide +kernel
theorem dd_Re_next_87 : decode cc_Re_next 87 = .ok (.iaload, 1) := by decide +kernel
theorem dd_Re_next_88 : decode cc_Re_next 88 = .ok (.ifCond .lt 6, 3) := by decide +kernel
theorem dd_Re_next_91 : decode cc_Re_next 91 = .ok (.goto 50, 3) := by decide +kernel
theorem dd_Re_next_94 : decode cc_Re_next 94 = .ok (.aload_n 0, 1) := by decide +kernel
theorem dd_Re_next_95 : decode cc_Re_next 95 = .ok (.iload_n 1, 1) := by decide +kernel
theorem dd_Re_next_96 : decode cc_Re_next 96 = .ok (.iload 8, 2) := by decide +kernel
theorem dd_Re_next_98 : decode cc_Re_next 98 = .ok (.lload 5, 2) := by decide +kernel
theorem dd_Re_next_100 : decode cc_Re_next 100 = .ok (.invokevirtual 97, 3) := by decide +kernel
theorem dd_Re_next_103 : decode cc_Re_next 103 = .ok (.istore 9, 2) := by decide +kernel
theorem dd_Re_next_105 : decode cc_Re_next 105 = .ok (.aload_n 0, 1) := by decide +kernel
theorem dd_Re_next_106 : decode cc_Re_next 106 = .ok (.getfield 35, 3) := by decide +kernel
theorem dd_Re_next_109 : decode cc_Re_next 109 = .ok (.bipush 40, 2) := by decide +kernel
theorem dd_Re_next_111 : decode cc_Re_next 111 = .ok (.iload_n 1, 1) := by decide +kernel
theorem dd_Re_next_112 : decode cc_Re_next 112 = .ok (.imul, 1) := by decide +kernel
theorem dd_Re_next_113 : decode cc_Re_next 113 = .ok (.iload 8, 2) := by decide +kernel
theorem dd_Re_next_115 : decode cc_Re_next 115 = .ok (.iadd, 1) := by decide +kernel
theorem dd_Re_next_116 : decode cc_Re_next 116 = .ok (.iload 7, 2) := by decide +kernel
theorem dd_Re_next_118 : decode cc_Re_next 118 = .ok (.iastore, 1) := by decide +kernel
theorem dd_Re_next_119 : decode cc_Re_next 119 = .ok (.iload 9, 2) := by decide +kernel
theorem dd_Re_next_121 : decode cc_Re_next 121 = .ok (.ifCond .lt 17, 3) := by decide +kernel
theorem dd_Re_next_124 : decode cc_Re_next 124 = .ok (.aload_n 0, 1) := by decide +kernel
theorem dd_Re_next_125 : decode cc_Re_next 125 = .ok (.getfield 35, 3) := by decide +kernel
theorem dd_Re_next_128 : decode cc_Re_next 128 = .ok (.bipush 40, 2) := by decide +kernel
theorem dd_Re_next_130 : decode cc_Re_next 130 = .ok (.iload_n 1, 1) := by decide +kernel
theorem dd_Re_next_131 : decode cc_Re_next 131 = .ok (.imul, 1) := by decide +kernel
theorem dd_Re_next_132 : decode cc_Re_next 132 = .ok (.iload 9, 2) := by decide +kernel
theorem dd_Re_next_134 : decode cc_Re_next 134 = .ok (.iadd, 1) := by decide +kernel
theorem dd_Re_next_135 : decode cc_Re_next 135 = .ok (.iload 7, 2) := by decide +kernel
theorem dd_Re_next_137 : decode cc_Re_next 137 = .ok (.iastore, 1) := by decide +kernel
theorem dd_Re_next_138 : decode cc_Re_next 138 = .ok (.iinc 7 1, 3) := by decide +kernel
theorem dd_Re_next_141 : decode cc_Re_next 141 = .ok (.iinc 8 1, 3) := by decide +kernel
theorem dd_Re_next_144 : decode cc_Re_next 144 = .ok (.goto (-74), 3) := by decide +kernel
theorem dd_Re_next_147 : decode cc_Re_next 147 = .ok (.iload 7, 2) := by decide +kernel
theorem dd_Re_next_149 : decode cc_Re_next 149 = .ok (.iload_n 2, 1) := by decide +kernel
theorem dd_Re_next_150 : decode cc_Re_next 150 = .ok (.if_icmp .ne 5, 3) := by decide +kernel
theorem dd_Re_next_153 : decode cc_Re_next 153 = .ok (.iconst 0, 1) := by decide +kernel
theorem dd_Re_next_154 : decode cc_Re_next 154 = .ok (.ireturn, 1) := by decide +kernel
theorem dd_Re_next_155 : decode cc_Re_next 155 = .ok (.aload_n 0, 1) := by decide +kernel
theorem dd_Re_next_156 : decode cc_Re_next 156 = .ok (.getfield 25, 3) := by decide +kernel
theorem dd_Re_next_159 : decode cc_Re_next 159 = .ok (.aload_n 0, 1) := by decide +kernel
theorem dd_Re_next_160 : decode cc_Re_next 160 = .ok (.getfield 91, 3) := by decide +kernel
theorem dd_Re_next_163 : decode cc_Re_next 163 = .ok (.iload 7, 2) := by decide +kernel
theorem dd_Re_next_165 : decode cc_Re_next 165 = .ok (.iastore, 1) := by decide +kernel
theorem dd_Re_next_166 : decode cc_Re_next 166 = .ok (.iconst 0, 1) := by decide +kernel
theorem dd_Re_next_167 : decode cc_Re_next 167 = .ok (.istore 8, 2) := by decide +kernel
theorem dd_Re_next_169 : decode cc_Re_next 169 = .ok (.iload 8, 2) := by decide +kernel
theorem dd_Re_next_171 : decode cc_Re_next 171 = .ok (.iload 7, 2) := by decide +kernel
theorem dd_Re_next_173 : decode cc_Re_next 173 = .ok (.if_icmp .ge 64, 3) := by decide +kernel
theorem dd_Re_next_176 : decode cc_Re_next 176 = .ok (.aload_n 0, 1) := by decide +kernel
theorem dd_Re_next_177 : decode cc_Re_next 177 = .ok (.getfield 28, 3) := by decide +kernel
theorem dd_Re_next_180 : decode cc_Re_next 180 = .ok (.bipush 40, 2) := by decide +kernel
theorem dd_Re_next_182 : decode cc_Re_next 182 = .ok (.aload_n 0, 1) := by decide +kernel
theorem dd_Re_next_183 : decode cc_Re_next 183 = .ok (.getfield 91, 3) := by decide +kernel
theorem dd_Re_next_186 : decode cc_Re_next 186 = .ok (.imul, 1) := by decide +kernel
theorem dd_Re_next_187 : decode cc_Re_next 187 = .ok (.iload 8, 2) := by decide +kernel
theorem dd_Re_next_189 : decode cc_Re_next 189 = .ok (.iadd, 1) := by decide +kernel
theorem dd_Re_next_190 : decode cc_Re_next 190 = .ok (.iconst 0, 1) := by decide +kernel
theorem dd_Re_next_191 : decode cc_Re_next 191 = .ok (.iastore, 1) := by decide +kernel
theorem dd_Re_next_192 : decode cc_Re_next 192 = .ok (.iconst 0, 1) := by decide +kernel
theorem dd_Re_next_193 : decode cc_Re_next 193 = .ok (.istore 9, 2) := by decide +kernel
theorem dd_Re_next_195 : decode cc_Re_next 195 = .ok (.iload 9, 2) := by decide +kernel
theorem dd_Re_next_197 : decode cc_Re_next 197 = .ok (.iload 7, 2) := by decide +kernel
theorem dd_Re_next_199 : decode cc_Re_next 199 = .ok (.if_icmp .ge 32, 3) := by decide +kernel
theorem dd_Re_next_202 : decode cc_Re_next 202 = .ok (.aload_n 0, 1) := by decide +kernel
theorem dd_Re_next_203 : decode cc_Re_next 203 = .ok (.getfield 32, 3) := by decide +kernel
theorem dd_Re_next_206 : decode cc_Re_next 206 = .ok (.sipush 1600, 3) := by decide +kernel
theorem dd_Re_next_209 : decode cc_Re_next 209 = .ok (.aload_n 0, 1) := by decide +kernel
theorem dd_Re_next_210 : decode cc_Re_next 210 = .ok (.getfield 91, 3) := by decide +kernel
theorem dd_Re_next_213 : decode cc_Re_next 213 = .ok (.imul, 1) := by decide +kernel
theorem dd_Re_next_214 : decode cc_Re_next 214 = .ok (.bipush 40, 2) := by decide +kernel
theorem dd_Re_next_216 : decode cc_Re_next 216 = .ok (.iload 8, 2) := by decide +kernel
theorem dd_Re_next_218 : decode cc_Re_next 218 = .ok (.imul, 1) := by decide +kernel
theorem dd_Re_next_219 : decode cc_Re_next 219 = .ok (.iadd, 1) := by decide +kernel
theorem dd_Re_next_220 : decode cc_Re_next 220 = .ok (.iload 9, 2) := by decide +kernel
theorem dd_Re_next_222 : decode cc_Re_next 222 = .ok (.iadd, 1) := by decide +kernel
theorem dd_Re_next_223 : decode cc_Re_next 223 = .ok (.iconst 0, 1) := by decide +kernel
theorem dd_Re_next_224 : decode cc_Re_next 224 = .ok (.iastore, 1) := by decide +kernel
theorem dd_Re_next_225 : decode cc_Re_next 225 = .ok (.iinc 9 1, 3) := by decide +kernel
theorem dd_Re_next_228 : decode cc_Re_next 228 = .ok (.goto (-33), 3) := by decide +kernel
theorem dd_Re_next_231 : decode cc_Re_next 231 = .ok (.iinc 8 1, 3) := by decide +kernel
theorem dd_Re_next_234 : decode cc_Re_next 234 = .ok (.goto (-65), 3) := by decide +kernel
theorem dd_Re_next_237 : decode cc_Re_next 237 = .ok (.iconst 0, 1) := by decide +kernel
theorem dd_Re_next_238 : decode cc_Re_next 238 = .ok (.istore 8, 2) := by decide +kernel
theorem dd_Re_next_240 : decode cc_Re_next 240 = .ok (.iload 8, 2) := by decide +kernel
theorem dd_Re_next_242 : decode cc_Re_next 242 = .ok (.iload_n 2, 1) := by decide +kernel
theorem dd_Re_next_243 : decode cc_Re_next 243 = .ok (.if_icmp .ge 139, 3) := by decide +kernel
theorem dd_Re_next_246 : decode cc_Re_next 246 = .ok (.aload_n 0, 1) := by decide +kernel
theorem dd_Re_next_247 : decode cc_Re_next 247 = .ok (.getfield 35, 3) := by decide +kernel
theorem dd_Re_next_250 : decode cc_Re_next 250 = .ok (.bipush 40, 2) := by decide +kernel
theorem dd_Re_next_252 : decode cc_Re_next 252 = .ok (.iload_n 1, 1) := by decide +kernel
theorem dd_Re_next_253 : decode cc_Re_next 253 = .ok (.imul, 1) := by decide +kernel
theorem dd_Re_next_254 : decode cc_Re_next 254 = .ok (.iload 8, 2) := by decide +kernel
theorem dd_Re_next_256 : decode cc_Re_next 256 = .ok (.iadd, 1) := by decide +kernel
theorem dd_Re_next_257 : decode cc_Re_next 257 = .ok (.iaload, 1) := by decide +kernel
theorem dd_Re_next_258 : decode cc_Re_next 258 = .ok (.istore 9, 2) := by decide +kernel
theorem dd_Re_next_260 : decode cc_Re_next 260 = .ok (.aload_n 0, 1) := by decide +kernel
theorem dd_Re_next_261 : decode cc_Re_next 261 = .ok (.getfield 28, 3) := by decide +kernel
theorem dd_Re_next_264 : decode cc_Re_next 264 = .ok (.bipush 40, 2) := by decide +kernel
theorem dd_Re_next_266 : decode cc_Re_next 266 = .ok (.aload_n 0, 1) := by decide +kernel
theorem dd_Re_next_267 : decode cc_Re_next 267 = .ok (.getfield 91, 3) := by decide +kernel
theorem dd_Re_next_270 : decode cc_Re_next 270 = .ok (.imul, 1) := by decide +kernel
theorem dd_Re_next_271 : decode cc_Re_next 271 = .ok (.iload 9, 2) := by decide +kernel
theorem dd_Re_next_273 : decode cc_Re_next 273 = .ok (.iadd, 1) := by decide +kernel
theorem dd_Re_next_274 : decode cc_Re_next 274 = .ok (.dup2, 1) := by decide +kernel
theorem dd_Re_next_275 : decode cc_Re_next 275 = .ok (.iaload, 1) := by decide +kernel
theorem dd_Re_next_276 : decode cc_Re_next 276 = .ok (.aload_n 0, 1) := by decide +kernel
theorem dd_Re_next_277 : decode cc_Re_next 277 = .ok (.getfield 28, 3) := by decide +kernel
theorem dd_Re_next_280 : decode cc_Re_next 280 = .ok (.bipush 40, 2) := by decide +kernel
theorem dd_Re_next_282 : decode cc_Re_next 282 = .ok (.iload_n 1, 1) := by decide +kernel
theorem dd_Re_next_283 : decode cc_Re_next 283 = .ok (.imul, 1) := by decide +kernel
theorem dd_Re_next_284 : decode cc_Re_next 284 = .ok (.iload 8, 2) := by decide +kernel
theorem dd_Re_next_286 : decode cc_Re_next 286 = .ok (.iadd, 1) := by decide +kernel
theorem dd_Re_next_287 : decode cc_Re_next 287 = .ok (.iaload, 1) := by decide +kernel
theorem dd_Re_next_288 : decode cc_Re_next 288 = .ok (.iadd, 1) := by decide +kernel
theorem dd_Re_next_289 : decode cc_Re_next 289 = .ok (.iastore, 1) := by decide +kernel
theorem dd_Re_next_290 : decode cc_Re_next 290 = .ok (.iconst 0, 1) := by decide +kernel
theorem dd_Re_next_291 : decode cc_Re_next 291 = .ok (.istore 10, 2) := by decide +kernel
theorem dd_Re_next_293 : decode cc_Re_next 293 = .ok (.iload 10, 2) := by decide +kernel
theorem dd_Re_next_295 : decode cc_Re_next 295 = .ok (.iload_n 2, 1) := by decide +kernel
theorem dd_Re_next_296 : decode cc_Re_next 296 = .ok (.if_icmp .ge 80, 3) := by decide +kernel
theorem dd_Re_next_299 : decode cc_Re_next 299 = .ok (.aload_n 0, 1) := by decide +kernel
theorem dd_Re_next_300 : decode cc_Re_next 300 = .ok (.getfield 35, 3) := by decide +kernel
theorem dd_Re_next_303 : decode cc_Re_next 303 = .ok (.bipush 40, 2) := by decide +kernel
theorem dd_Re_next_305 : decode cc_Re_next 305 = .ok (.iload_n 1, 1) := by decide +kernel
theorem dd_Re_next_306 : decode cc_Re_next 306 = .ok (.imul, 1) := by decide +kernel
theorem dd_Re_next_307 : decode cc_Re_next 307 = .ok (.iload 10, 2) := by decide +kernel
theorem dd_Re_next_309 : decode cc_Re_next 309 = .ok (.iadd, 1) := by decide +kernel
theorem dd_Re_next_310 : decode cc_Re_next 310 = .ok (.iaload, 1) := by decide +kernel
theorem dd_Re_next_311 : decode cc_Re_next 311 = .ok (.iload 9, 2) := by decide +kernel
theorem dd_Re_next_313 : decode cc_Re_next 313 = .ok (.if_icmp .eq 57, 3) := by decide +kernel
theorem dd_Re_next_316 : decode cc_Re_next 316 = .ok (.aload_n 0, 1) := by decide +kernel
theorem dd_Re_next_317 : decode cc_Re_next 317 = .ok (.getfield 32, 3) := by decide +kernel
theorem dd_Re_next_320 : decode cc_Re_next 320 = .ok (.sipush 1600, 3) := by decide +kernel
theorem dd_Re_next_323 : decode cc_Re_next 323 = .ok (.aload_n 0, 1) := by decide +kernel
theorem dd_Re_next_324 : decode cc_Re_next 324 = .ok (.getfield 91, 3) := by decide +kernel
theorem dd_Re_next_327 : decode cc_Re_next 327 = .ok (.imul, 1) := by decide +kernel
theorem dd_Re_next_328 : decode cc_Re_next 328 = .ok (.bipush 40, 2) := by decide +kernel
theorem dd_Re_next_330 : decode cc_Re_next 330 = .ok (.iload 9, 2) := by decide +kernel
theorem dd_Re_next_332 : decode cc_Re_next 332 = .ok (.imul, 1) := by decide +kernel
theorem dd_Re_next_333 : decode cc_Re_next 333 = .ok (.iadd, 1) := by decide +kernel
theorem dd_Re_next_334 : decode cc_Re_next 334 = .ok (.aload_n 0, 1) := by decide +kernel
theorem dd_Re_next_335 : decode cc_Re_next 335 = .ok (.getfield 35, 3) := by decide +kernel
theorem dd_Re_next_338 : decode cc_Re_next 338 = .ok (.bipush 40, 2) := by decide +kernel
theorem dd_Re_next_340 : decode cc_Re_next 340 = .ok (.iload_n 1, 1) := by decide +kernel
theorem dd_Re_next_341 : decode cc_Re_next 341 = .ok (.imul, 1) := by decide +kernel
theorem dd_Re_next_342 : decode cc_Re_next 342 = .ok (.iload 10, 2) := by decide +kernel
theorem dd_Re_next_344 : decode cc_Re_next 344 = .ok (.iadd, 1) := by decide +kernel
theorem dd_Re_next_345 : decode cc_Re_next 345 = .ok (.iaload, 1) := by decide +kernel
theorem dd_Re_next_346 : decode cc_Re_next 346 = .ok (.iadd, 1) := by decide +kernel
theorem dd_Re_next_347 : decode cc_Re_next 347 = .ok (.dup2, 1) := by decide +kernel
theorem dd_Re_next_348 : decode cc_Re_next 348 = .ok (.iaload, 1) := by decide +kernel
theorem dd_Re_next_349 : decode cc_Re_next 349 = .ok (.aload_n 0, 1) := by decide +kernel
theorem dd_Re_next_350 : decode cc_Re_next 350 = .ok (.getfield 32, 3) := by decide +kernel
theorem dd_Re_next_353 : decode cc_Re_next 353 = .ok (.sipush 1600, 3) := by decide +kernel
theorem dd_Re_next_356 : decode cc_Re_next 356 = .ok (.iload_n 1, 1) := by decide +kernel
theorem dd_Re_next_357 : decode cc_Re_next 357 = .ok (.imul, 1) := by decide +kernel
theorem dd_Re_next_358 : decode cc_Re_next 358 = .ok (.bipush 40, 2) := by decide +kernel
theorem dd_Re_next_360 : decode cc_Re_next 360 = .ok (.iload 8, 2) := by decide +kernel
theorem dd_Re_next_362 : decode cc_Re_next 362 = .ok (.imul, 1) := by decide +kernel
theorem dd_Re_next_363 : decode cc_Re_next 363 = .ok (.iadd, 1) := by decide +kernel
theorem dd_Re_next_364 : decode cc_Re_next 364 = .ok (.iload 10, 2) := by decide +kernel
theorem dd_Re_next_366 : decode cc_Re_next 366 = .ok (.iadd, 1) := by decide +kernel
theorem dd_Re_next_367 : decode cc_Re_next 367 = .ok (.iaload, 1) := by decide +kernel
theorem dd_Re_next_368 : decode cc_Re_next 368 = .ok (.iadd, 1) := by decide +kernel
theorem dd_Re_next_369 : decode cc_Re_next 369 = .ok (.iastore, 1) := by decide +kernel
theorem dd_Re_next_370 : decode cc_Re_next 370 = .ok (.iinc 10 1, 3) := by decide +kernel
theorem dd_Re_next_373 : decode cc_Re_next 373 = .ok (.goto (-80), 3) := by decide +kernel
theorem dd_Re_next_376 : decode cc_Re_next 376 = .ok (.iinc 8 1, 3) := by decide +kernel
theorem dd_Re_next_379 : decode cc_Re_next 379 = .ok (.goto (-139), 3) := by decide +kernel
theorem dd_Re_next_382 : decode cc_Re_next 382 = .ok (.aload_n 0, 1) := by decide +kernel
theorem dd_Re_next_383 : decode cc_Re_next 383 = .ok (.dup, 1) := by decide +kernel
theorem dd_Re_next_384 : decode cc_Re_next 384 = .ok (.getfield 91, 3) := by decide +kernel
theorem dd_Re_next_387 : decode cc_Re_next 387 = .ok (.iconst 1, 1) := by decide +kernel
theorem dd_Re_next_388 : decode cc_Re_next 388 = .ok (.iadd, 1) := by decide +kernel
theorem dd_Re_next_389 : decode cc_Re_next 389 = .ok (.putfield 91, 3) := by decide +kernel
theorem dd_Re_next_392 : decode cc_Re_next 392 = .ok (.iconst 1, 1) := by decide +kernel
theorem dd_Re_next_393 : decode cc_Re_next 393 = .ok (.ireturn, 1) := by decide +kernel
theorem dd_Re_makeLevels_0 : decode cc_Re_makeLevels 0 = .ok (.aload_n 0, 1) := by decide +kernel
theorem dd_Re_makeLevels_1 : decode cc_Re_makeLevels 1 = .ok (.iconst 1, 1) := by decide +kernel
theorem dd_Re_makeLevels_2 : decode cc_Re_makeLevels 2 = .ok (.putfield 91, 3) := by decide +kernel
theorem dd_Re_makeLevels_5 : decode cc_Re_makeLevels 5 = .ok (.aload_n 0, 1) := by decide +kernel
theorem dd_Re_makeLevels_6 : decode cc_Re_makeLevels 6 = .ok (.getfield 25, 3) := by decide +kernel
theorem dd_Re_makeLevels_9 : decode cc_Re_makeLevels 9 = .ok (.iconst 0, 1) := by decide +kernel
theorem dd_Re_makeLevels_10 : decode cc_Re_makeLevels 10 = .ok (.aload_n 0, 1) := by decide +kernel
theorem dd_Re_makeLevels_11 : decode cc_Re_makeLevels 11 = .ok (.getfield 67, 3) := by decide +kernel
theorem dd_Re_makeLevels_14 : decode cc_Re_makeLevels 14 = .ok (.iastore, 1) := by decide +kernel
theorem dd_Re_makeLevels_15 : decode cc_Re_makeLevels 15 = .ok (.iconst 0, 1) := by decide +kernel
theorem dd_Re_makeLevels_16 : decode cc_Re_makeLevels 16 = .ok (.istore_n 1, 1) := by decide +kernel
theorem dd_Re_makeLevels_17 : decode cc_Re_makeLevels 17 = .ok (.iload_n 1, 1) := by decide +kernel
theorem dd_Re_makeLevels_18 : decode cc_Re_makeLevels 18 = .ok (.aload_n 0, 1) := by decide +kernel
theorem dd_Re_makeLevels_19 : decode cc_Re_makeLevels 19 = .ok (.getfield 67, 3) := by decide +kernel
theorem dd_Re_makeLevels_22 : decode cc_Re_makeLevels 22 = .ok (.if_icmp .ge 59, 3) := by decide +kernel
theorem dd_Re_makeLevels_25 : decode cc_Re_makeLevels 25 = .ok (.aload_n 0, 1) := by decide +kernel
theorem dd_Re_makeLevels_26 : decode cc_Re_makeLevels 26 = .ok (.getfield 28, 3) := by decide +kernel
theorem dd_Re_makeLevels_29 : decode cc_Re_makeLevels 29 = .ok (.iload_n 1, 1) := by decide +kernel
theorem dd_Re_makeLevels_30 : decode cc_Re_makeLevels 30 = .ok (.aload_n 0, 1) := by decide +kernel
theorem dd_Re_makeLevels_31 : decode cc_Re_makeLevels 31 = .ok (.getfield 7, 3) := by decide +kernel
theorem dd_Re_makeLevels_34 : decode cc_Re_makeLevels 34 = .ok (.iload_n 1, 1) := by decide +kernel
theorem dd_Re_makeLevels_35 : decode cc_Re_makeLevels 35 = .ok (.iaload, 1) := by decide +kernel
theorem dd_Re_makeLevels_36 : decode cc_Re_makeLevels 36 = .ok (.iastore, 1) := by decide +kernel
theorem dd_Re_makeLevels_37 : decode cc_Re_makeLevels 37 = .ok (.iconst 0, 1) := by decide +kernel
theorem dd_Re_makeLevels_38 : decode cc_Re_makeLevels 38 = .ok (.istore_n 2, 1) := by decide +kernel
theorem dd_Re_makeLevels_39 : decode cc_Re_makeLevels 39 = .ok (.iload_n 2, 1) := by decide +kernel
theorem dd_Re_makeLevels_40 : decode cc_Re_makeLevels 40 = .ok (.aload_n 0, 1) := by decide +kernel
theorem dd_Re_makeLevels_41 : decode cc_Re_makeLevels 41 = .ok (.getfield 67, 3) := by decide +kernel
theorem dd_Re_makeLevels_44 : decode cc_Re_makeLevels 44 = .ok (.if_icmp .ge 31, 3) := by decide +kernel
theorem dd_Re_makeLevels_47 : decode cc_Re_makeLevels 47 = .ok (.aload_n 0, 1) := by decide +kernel
theorem dd_Re_makeLevels_48 : decode cc_Re_makeLevels 48 = .ok (.getfield 32, 3) := by decide +kernel
theorem dd_Re_makeLevels_51 : decode cc_Re_makeLevels 51 = .ok (.bipush 40, 2) := by decide +kernel
theorem dd_Re_makeLevels_53 : decode cc_Re_makeLevels 53 = .ok (.iload_n 1, 1) := by decide +kernel
theorem dd_Re_makeLevels_54 : decode cc_Re_makeLevels 54 = .ok (.imul, 1) := by decide +kernel
theorem dd_Re_makeLevels_55 : decode cc_Re_makeLevels 55 = .ok (.iload_n 2, 1) := by decide +kernel
theorem dd_Re_makeLevels_56 : decode cc_Re_makeLevels 56 = .ok (.iadd, 1) := by decide +kernel
theorem dd_Re_makeLevels_57 : decode cc_Re_makeLevels 57 = .ok (.aload_n 0, 1) := by decide +kernel
theorem dd_Re_makeLevels_58 : decode cc_Re_makeLevels 58 = .ok (.getfield 13, 3) := by decide +kernel
theorem dd_Re_makeLevels_61 : decode cc_Re_makeLevels 61 = .ok (.bipush 40, 2) := by decide +kernel
theorem dd_Re_makeLevels_63 : decode cc_Re_makeLevels 63 = .ok (.iload_n 1, 1) := by decide +kernel
theorem dd_Re_makeLevels_64 : decode cc_Re_makeLevels 64 = .ok (.imul, 1) := by decide +kernel
theorem dd_Re_makeLevels_65 : decode cc_Re_makeLevels 65 = .ok (.iload_n 2, 1) := by decide +kernel
theorem dd_Re_makeLevels_66 : decode cc_Re_makeLevels 66 = .ok (.iadd, 1) := by decide +kernel
theorem dd_Re_makeLevels_67 : decode cc_Re_makeLevels 67 = .ok (.iaload, 1) := by decide +kernel
theorem dd_Re_makeLevels_68 : decode cc_Re_makeLevels 68 = .ok (.iastore, 1) := by decide +kernel
theorem dd_Re_makeLevels_69 : decode cc_Re_makeLevels 69 = .ok (.iinc 2 1, 3) := by decide +kernel
theorem dd_Re_makeLevels_72 : decode cc_Re_makeLevels 72 = .ok (.goto (-33), 3) := by decide +kernel
theorem dd_Re_makeLevels_75 : decode cc_Re_makeLevels 75 = .ok (.iinc 1 1, 3) := by decide +kernel
theorem dd_Re_makeLevels_78 : decode cc_Re_makeLevels 78 = .ok (.goto (-61), 3) := by decide +kernel
theorem dd_Re_makeLevels_81 : decode cc_Re_makeLevels 81 = .ok (.aload_n 0, 1) := by decide +kernel
theorem dd_Re_makeLevels_82 : decode cc_Re_makeLevels 82 = .ok (.getfield 67, 3) := by decide +kernel
theorem dd_Re_makeLevels_85 : decode cc_Re_makeLevels 85 = .ok (.bipush 6, 2) := by decide +kernel
theorem dd_Re_makeLevels_87 : decode cc_Re_makeLevels 87 = .ok (.if_icmp .le 7, 3) := by decide +kernel
theorem dd_Re_makeLevels_90 : decode cc_Re_makeLevels 90 = .ok (.iconst 1, 1) := by decide +kernel
theorem dd_Re_makeLevels_91 : decode cc_Re_makeLevels 91 = .ok (.goto 4, 3) := by decide +kernel
theorem dd_Re_makeLevels_94 : decode cc_Re_makeLevels 94 = .ok (.iconst 0, 1) := by decide +kernel
theorem dd_Re_makeLevels_95 : decode cc_Re_makeLevels 95 = .ok (.istore_n 1, 1) := by decide +kernel
theorem dd_Re_makeLevels_96 : decode cc_Re_makeLevels 96 = .ok (.iload_n 1, 1) := by decide +kernel
theorem dd_Re_makeLevels_97 : decode cc_Re_makeLevels 97 = .ok (.ifCond .eq 41, 3) := by decide +kernel
theorem dd_Re_makeLevels_100 : decode cc_Re_makeLevels 100 = .ok (.aload_n 0, 1) := by decide +kernel
theorem dd_Re_makeLevels_101 : decode cc_Re_makeLevels 101 = .ok (.aload_n 0, 1) := by decide +kernel
theorem dd_Re_makeLevels_102 : decode cc_Re_makeLevels 102 = .ok (.getfield 91, 3) := by decide +kernel
theorem dd_Re_makeLevels_105 : decode cc_Re_makeLevels 105 = .ok (.iconst 1, 1) := by decide +kernel
theorem dd_Re_makeLevels_106 : decode cc_Re_makeLevels 106 = .ok (.isub, 1) := by decide +kernel
theorem dd_Re_makeLevels_107 : decode cc_Re_makeLevels 107 = .ok (.invokevirtual 94, 3) := by decide +kernel
theorem dd_Re_makeLevels_110 : decode cc_Re_makeLevels 110 = .ok (.ifCond .eq 23, 3) := by decide +kernel
theorem dd_Re_makeLevels_113 : decode cc_Re_makeLevels 113 = .ok (.aload_n 0, 1) := by decide +kernel
theorem dd_Re_makeLevels_114 : decode cc_Re_makeLevels 114 = .ok (.getfield 25, 3) := by decide +kernel
theorem dd_Re_makeLevels_117 : decode cc_Re_makeLevels 117 = .ok (.aload_n 0, 1) := by decide +kernel
theorem dd_Re_makeLevels_118 : decode cc_Re_makeLevels 118 = .ok (.getfield 91, 3) := by decide +kernel
theorem dd_Re_makeLevels_121 : decode cc_Re_makeLevels 121 = .ok (.iconst 1, 1) := by decide +kernel
theorem dd_Re_makeLevels_122 : decode cc_Re_makeLevels 122 = .ok (.isub, 1) := by decide +kernel
theorem dd_Re_makeLevels_123 : decode cc_Re_makeLevels 123 = .ok (.iaload, 1) := by decide +kernel
theorem dd_Re_makeLevels_124 : decode cc_Re_makeLevels 124 = .ok (.bipush 6, 2) := by decide +kernel
theorem dd_Re_makeLevels_126 : decode cc_Re_makeLevels 126 = .ok (.if_icmp .le 7, 3) := by decide +kernel
theorem dd_Re_makeLevels_129 : decode cc_Re_makeLevels 129 = .ok (.iconst 1, 1) := by decide +kernel
theorem dd_Re_makeLevels_130 : decode cc_Re_makeLevels 130 = .ok (.goto 4, 3) := by decide +kernel
theorem dd_Re_makeLevels_133 : decode cc_Re_makeLevels 133 = .ok (.iconst 0, 1) := by decide +kernel
theorem dd_Re_makeLevels_134 : decode cc_Re_makeLevels 134 = .ok (.istore_n 1, 1) := by decide +kernel
theorem dd_Re_makeLevels_135 : decode cc_Re_makeLevels 135 = .ok (.goto (-39), 3) := by decide +kernel
theorem dd_Re_makeLevels_138 : decode cc_Re_makeLevels 138 = .ok (.return_, 1) := by decide +kernel
theorem dd_Re_level_0 : decode cc_Re_level 0 = .ok (.iload_n 1, 1) := by decide +kernel
theorem dd_Re_level_1 : decode cc_Re_level 1 = .ok (.ifCond .lt 15, 3) := by decide +kernel
theorem dd_Re_level_4 : decode cc_Re_level 4 = .ok (.iload_n 2, 1) := by decide +kernel
theorem dd_Re_level_5 : decode cc_Re_level 5 = .ok (.i2l, 1) := by decide +kernel
theorem dd_Re_level_6 : decode cc_Re_level 6 = .ok (.lconst 0, 1) := by decide +kernel
theorem dd_Re_level_7 : decode cc_Re_level 7 = .ok (.ldc2_w 76, 3) := by decide +kernel
theorem dd_Re_level_10 : decode cc_Re_level 10 = .ok (.invokestatic 63, 3) := by decide +kernel
theorem dd_Re_level_13 : decode cc_Re_level 13 = .ok (.ifCond .ne 5, 3) := by decide +kernel
theorem dd_Re_level_16 : decode cc_Re_level 16 = .ok (.iconst (-1), 1) := by decide +kernel
theorem dd_Re_level_17 : decode cc_Re_level 17 = .ok (.ireturn, 1) := by decide +kernel
theorem dd_Re_level_18 : decode cc_Re_level 18 = .ok (.aload_n 0, 1) := by decide +kernel
theorem dd_Re_level_19 : decode cc_Re_level 19 = .ok (.invokevirtual 101, 3) := by decide +kernel
theorem dd_Re_level_22 : decode cc_Re_level 22 = .ok (.iload_n 1, 1) := by decide +kernel
theorem dd_Re_level_23 : decode cc_Re_level 23 = .ok (.aload_n 0, 1) := by decide +kernel
theorem dd_Re_level_24 : decode cc_Re_level 24 = .ok (.getfield 91, 3) := by decide +kernel
theorem dd_Re_level_27 : decode cc_Re_level 27 = .ok (.if_icmp .lt 6, 3) := by decide +kernel
theorem dd_Re_level_30 : decode cc_Re_level 30 = .ok (.bipush (-2), 2) := by decide +kernel
theorem dd_Re_level_32 : decode cc_Re_level 32 = .ok (.ireturn, 1) := by decide +kernel
theorem dd_Re_level_33 : decode cc_Re_level 33 = .ok (.iload_n 2, 1) := by decide +kernel
theorem dd_Re_level_34 : decode cc_Re_level 34 = .ok (.ifCond .ne 10, 3) := by decide +kernel
theorem dd_Re_level_37 : decode cc_Re_level 37 = .ok (.aload_n 0, 1) := by decide +kernel
theorem dd_Re_level_38 : decode cc_Re_level 38 = .ok (.getfield 25, 3) := by decide +kernel
theorem dd_Re_level_41 : decode cc_Re_level 41 = .ok (.iload_n 1, 1) := by decide +kernel
theorem dd_Re_level_42 : decode cc_Re_level 42 = .ok (.iaload, 1) := by decide +kernel
theorem dd_Re_level_43 : decode cc_Re_level 43 = .ok (.ireturn, 1) := by decide +kernel
theorem dd_Re_level_44 : decode cc_Re_level 44 = .ok (.iconst 0, 1) := by decide +kernel
theorem dd_Re_level_45 : decode cc_Re_level 45 = .ok (.istore_n 3, 1) := by decide +kernel
theorem dd_Re_level_46 : decode cc_Re_level 46 = .ok (.iconst 0, 1) := by decide +kernel
theorem dd_Re_level_47 : decode cc_Re_level 47 = .ok (.istore 4, 2) := by decide +kernel
theorem dd_Re_level_49 : decode cc_Re_level 49 = .ok (.iload 4, 2) := by decide +kernel
theorem dd_Re_level_51 : decode cc_Re_level 51 = .ok (.aload_n 0, 1) := by decide +kernel
theorem dd_Re_level_52 : decode cc_Re_level 52 = .ok (.getfield 25, 3) := by decide +kernel
theorem dd_Re_level_55 : decode cc_Re_level 55 = .ok (.iload_n 1, 1) := by decide +kernel
theorem dd_Re_level_56 : decode cc_Re_level 56 = .ok (.iaload, 1) := by decide +kernel
theorem dd_Re_level_57 : decode cc_Re_level 57 = .ok (.if_icmp .ge 69, 3) := by decide +kernel
theorem dd_Re_level_60 : decode cc_Re_level 60 = .ok (.iconst 0, 1) := by decide +kernel
theorem dd_Re_level_61 : decode cc_Re_level 61 = .ok (.istore 5, 2) := by decide +kernel
theorem dd_Re_level_63 : decode cc_Re_level 63 = .ok (.iload 5, 2) := by decide +kernel
theorem dd_Re_level_65 : decode cc_Re_level 65 = .ok (.iload 4, 2) := by decide +kernel
theorem dd_Re_level_67 : decode cc_Re_level 67 = .ok (.if_icmp .ge 53, 3) := by decide +kernel
theorem dd_Re_level_70 : decode cc_Re_level 70 = .ok (.aload_n 0, 1) := by decide +kernel
theorem dd_Re_level_71 : decode cc_Re_level 71 = .ok (.getfield 32, 3) := by decide +kernel
theorem dd_Re_level_74 : decode cc_Re_level 74 = .ok (.sipush 1600, 3) := by decide +kernel
theorem dd_Re_level_77 : decode cc_Re_level 77 = .ok (.iload_n 1, 1) := by decide +kernel
theorem dd_Re_level_78 : decode cc_Re_level 78 = .ok (.imul, 1) := by decide +kernel
theorem dd_Re_level_79 : decode cc_Re_level 79 = .ok (.bipush 40, 2) := by decide +kernel
theorem dd_Re_level_81 : decode cc_Re_level 81 = .ok (.iload 4, 2) := by decide +kernel
theorem dd_Re_level_83 : decode cc_Re_level 83 = .ok (.imul, 1) := by decide +kernel
theorem dd_Re_level_84 : decode cc_Re_level 84 = .ok (.iadd, 1) := by decide +kernel
theorem dd_Re_level_85 : decode cc_Re_level 85 = .ok (.iload 5, 2) := by decide +kernel
theorem dd_Re_level_87 : decode cc_Re_level 87 = .ok (.iadd, 1) := by decide +kernel
theorem dd_Re_level_88 : decode cc_Re_level 88 = .ok (.iaload, 1) := by decide +kernel
theorem dd_Re_level_89 : decode cc_Re_level 89 = .ok (.istore 6, 2) := by decide +kernel
theorem dd_Re_level_91 : decode cc_Re_level 91 = .ok (.iload_n 3, 1) := by decide +kernel
theorem dd_Re_level_92 : decode cc_Re_level 92 = .ok (.iload_n 2, 1) := by decide +kernel
theorem dd_Re_level_93 : decode cc_Re_level 93 = .ok (.iconst 2, 1) := by decide +kernel
theorem dd_Re_level_94 : decode cc_Re_level 94 = .ok (.if_icmp .ne 8, 3) := by decide +kernel
theorem dd_Re_level_97 : decode cc_Re_level 97 = .ok (.iload 6, 2) := by decide +kernel
theorem dd_Re_level_99 : decode cc_Re_level 99 = .ok (.goto 13, 3) := by decide +kernel
theorem dd_Re_level_102 : decode cc_Re_level 102 = .ok (.iload 6, 2) := by decide +kernel
theorem dd_Re_level_104 : decode cc_Re_level 104 = .ok (.ifCond .le 7, 3) := by decide +kernel
theorem dd_Re_level_107 : decode cc_Re_level 107 = .ok (.iconst 1, 1) := by decide +kernel
theorem dd_Re_level_108 : decode cc_Re_level 108 = .ok (.goto 4, 3) := by decide +kernel
theorem dd_Re_level_111 : decode cc_Re_level 111 = .ok (.iconst 0, 1) := by decide +kernel
theorem dd_Re_level_112 : decode cc_Re_level 112 = .ok (.iadd, 1) := by decide +kernel
theorem dd_Re_level_113 : decode cc_Re_level 113 = .ok (.istore_n 3, 1) := by decide +kernel
theorem dd_Re_level_114 : decode cc_Re_level 114 = .ok (.iinc 5 1, 3) := by decide +kernel
theorem dd_Re_level_117 : decode cc_Re_level 117 = .ok (.goto (-54), 3) := by decide +kernel
theorem dd_Re_level_120 : decode cc_Re_level 120 = .ok (.iinc 4 1, 3) := by decide +kernel
theorem dd_Re_level_123 : decode cc_Re_level 123 = .ok (.goto (-74), 3) := by decide +kernel
theorem dd_Re_level_126 : decode cc_Re_level 126 = .ok (.iload_n 3, 1) := by decide +kernel
theorem dd_Re_level_127 : decode cc_Re_level 127 = .ok (.ireturn, 1) := by decide +kernel
theorem dd_Re_inLevel_0 : decode cc_Re_inLevel 0 = .ok (.aload_n 0, 1) := by decide +kernel
theorem dd_Re_inLevel_1 : decode cc_Re_inLevel 1 = .ok (.invokevirtual 101, 3) := by decide +kernel
theorem dd_Re_inLevel_4 : decode cc_Re_inLevel 4 = .ok (.iload_n 1, 1) := by decide +kernel
theorem dd_Re_inLevel_5 : decode cc_Re_inLevel 5 = .ok (.i2l, 1) := by decide +kernel
theorem dd_Re_inLevel_6 : decode cc_Re_inLevel 6 = .ok (.lconst 0, 1) := by decide +kernel
theorem dd_Re_inLevel_7 : decode cc_Re_inLevel 7 = .ok (.aload_n 0, 1) := by decide +kernel
theorem dd_Re_inLevel_8 : decode cc_Re_inLevel 8 = .ok (.getfield 91, 3) := by decide +kernel
theorem dd_Re_inLevel_11 : decode cc_Re_inLevel 11 = .ok (.iconst 1, 1) := by decide +kernel
theorem dd_Re_inLevel_12 : decode cc_Re_inLevel 12 = .ok (.isub, 1) := by decide +kernel
theorem dd_Re_inLevel_13 : decode cc_Re_inLevel 13 = .ok (.i2l, 1) := by decide +kernel
theorem dd_Re_inLevel_14 : decode cc_Re_inLevel 14 = .ok (.invokestatic 63, 3) := by decide +kernel
theorem dd_Re_inLevel_17 : decode cc_Re_inLevel 17 = .ok (.ifCond .eq 11, 3) := by decide +kernel
theorem dd_Re_inLevel_20 : decode cc_Re_inLevel 20 = .ok (.aload_n 0, 1) := by decide +kernel
theorem dd_Re_inLevel_21 : decode cc_Re_inLevel 21 = .ok (.iload_n 2, 1) := by decide +kernel
theorem dd_Re_inLevel_22 : decode cc_Re_inLevel 22 = .ok (.invokevirtual 71, 3) := by decide +kernel
theorem dd_Re_inLevel_25 : decode cc_Re_inLevel 25 = .ok (.ifCond .ne 5, 3) := by decide +kernel
theorem dd_Re_inLevel_28 : decode cc_Re_inLevel 28 = .ok (.iconst (-1), 1) := by decide +kernel
theorem dd_Re_inLevel_29 : decode cc_Re_inLevel 29 = .ok (.ireturn, 1) := by decide +kernel
theorem dd_Re_inLevel_30 : decode cc_Re_inLevel 30 = .ok (.iload_n 2, 1) := by decide +kernel
theorem dd_Re_inLevel_31 : decode cc_Re_inLevel 31 = .ok (.istore_n 3, 1) := by decide +kernel
theorem dd_Re_inLevel_32 : decode cc_Re_inLevel 32 = .ok (.iconst 0, 1) := by decide +kernel
theorem dd_Re_inLevel_33 : decode cc_Re_inLevel 33 = .ok (.istore 4, 2) := by decide +kernel
theorem dd_Re_inLevel_35 : decode cc_Re_inLevel 35 = .ok (.iload 4, 2) := by decide +kernel
theorem dd_Re_inLevel_37 : decode cc_Re_inLevel 37 = .ok (.iload_n 1, 1) := by decide +kernel
theorem dd_Re_inLevel_38 : decode cc_Re_inLevel 38 = .ok (.if_icmp .ge 22, 3) := by decide +kernel
theorem dd_Re_inLevel_41 : decode cc_Re_inLevel 41 = .ok (.aload_n 0, 1) := by decide +kernel
theorem dd_Re_inLevel_42 : decode cc_Re_inLevel 42 = .ok (.getfield 35, 3) := by decide +kernel
theorem dd_Re_inLevel_45 : decode cc_Re_inLevel 45 = .ok (.bipush 40, 2) := by decide +kernel
theorem dd_Re_inLevel_47 : decode cc_Re_inLevel 47 = .ok (.iload 4, 2) := by decide +kernel
theorem dd_Re_inLevel_49 : decode cc_Re_inLevel 49 = .ok (.imul, 1) := by decide +kernel
theorem dd_Re_inLevel_50 : decode cc_Re_inLevel 50 = .ok (.iload_n 3, 1) := by decide +kernel
theorem dd_Re_inLevel_51 : decode cc_Re_inLevel 51 = .ok (.iadd, 1) := by decide +kernel
theorem dd_Re_inLevel_52 : decode cc_Re_inLevel 52 = .ok (.iaload, 1) := by decide +kernel
theorem dd_Re_inLevel_53 : decode cc_Re_inLevel 53 = .ok (.istore_n 3, 1) := by decide +kernel
theorem dd_Re_inLevel_54 : decode cc_Re_inLevel 54 = .ok (.iinc 4 1, 3) := by decide +kernel
theorem dd_Re_inLevel_57 : decode cc_Re_inLevel 57 = .ok (.goto (-22), 3) := by decide +kernel
theorem dd_Re_inLevel_60 : decode cc_Re_inLevel 60 = .ok (.iload_n 3, 1) := by decide +kernel
theorem dd_Re_inLevel_61 : decode cc_Re_inLevel 61 = .ok (.ireturn, 1) := by decide +kernel
theorem dd_Re_levelOf_0 : decode cc_Re_levelOf 0 = .ok (.aload_n 0, 1) := by decide +kernel
theorem dd_Re_levelOf_1 : decode cc_Re_levelOf 1 = .ok (.invokevirtual 101, 3) := by decide +kernel
theorem dd_Re_levelOf_4 : decode cc_Re_levelOf 4 = .ok (.iload_n 1, 1) := by decide +kernel
theorem dd_Re_levelOf_5 : decode cc_Re_levelOf 5 = .ok (.i2l, 1) := by decide +kernel
theorem dd_Re_levelOf_6 : decode cc_Re_levelOf 6 = .ok (.lconst 0, 1) := by decide +kernel
theorem dd_Re_levelOf_7 : decode cc_Re_levelOf 7 = .ok (.aload_n 0, 1) := by decide +kernel
theorem dd_Re_levelOf_8 : decode cc_Re_levelOf 8 = .ok (.getfield 91, 3) := by decide +kernel
theorem dd_Re_levelOf_11 : decode cc_Re_levelOf 11 = .ok (.iconst 1, 1) := by decide +kernel
theorem dd_Re_levelOf_12 : decode cc_Re_levelOf 12 = .ok (.isub, 1) := by decide +kernel
theorem dd_Re_levelOf_13 : decode cc_Re_levelOf 13 = .ok (.i2l, 1) := by decide +kernel
theorem dd_Re_levelOf_14 : decode cc_Re_levelOf 14 = .ok (.invokestatic 63, 3) := by decide +kernel
theorem dd_Re_levelOf_17 : decode cc_Re_levelOf 17 = .ok (.ifCond .eq 41, 3) := by decide +kernel
theorem dd_Re_levelOf_20 : decode cc_Re_levelOf 20 = .ok (.iload_n 2, 1) := by decide +kernel
theorem dd_Re_levelOf_21 : decode cc_Re_levelOf 21 = .ok (.i2l, 1) := by decide +kernel
theorem dd_Re_levelOf_22 : decode cc_Re_levelOf 22 = .ok (.lconst 0, 1) := by decide +kernel
theorem dd_Re_levelOf_23 : decode cc_Re_levelOf 23 = .ok (.aload_n 0, 1) := by decide +kernel
theorem dd_Re_levelOf_24 : decode cc_Re_levelOf 24 = .ok (.getfield 25, 3) := by decide +kernel
theorem dd_Re_levelOf_27 : decode cc_Re_levelOf 27 = .ok (.iload_n 1, 1) := by decide +kernel
theorem dd_Re_levelOf_28 : decode cc_Re_levelOf 28 = .ok (.iaload, 1) := by decide +kernel
theorem dd_Re_levelOf_29 : decode cc_Re_levelOf 29 = .ok (.iconst 1, 1) := by decide +kernel
theorem dd_Re_levelOf_30 : decode cc_Re_levelOf 30 = .ok (.isub, 1) := by decide +kernel
theorem dd_Re_levelOf_31 : decode cc_Re_levelOf 31 = .ok (.i2l, 1) := by decide +kernel
theorem dd_Re_levelOf_32 : decode cc_Re_levelOf 32 = .ok (.invokestatic 63, 3) := by decide +kernel
theorem dd_Re_levelOf_35 : decode cc_Re_levelOf 35 = .ok (.ifCond .eq 23, 3) := by decide +kernel
theorem dd_Re_levelOf_38 : decode cc_Re_levelOf 38 = .ok (.iload_n 3, 1) := by decide +kernel
theorem dd_Re_levelOf_39 : decode cc_Re_levelOf 39 = .ok (.i2l, 1) := by decide +kernel
theorem dd_Re_levelOf_40 : decode cc_Re_levelOf 40 = .ok (.ldc2_w 104, 3) := by decide +kernel
theorem dd_Re_levelOf_43 : decode cc_Re_levelOf 43 = .ok (.aload_n 0, 1) := by decide +kernel
theorem dd_Re_levelOf_44 : decode cc_Re_levelOf 44 = .ok (.getfield 25, 3) := by decide +kernel
theorem dd_Re_levelOf_47 : decode cc_Re_levelOf 47 = .ok (.iload_n 1, 1) := by decide +kernel
theorem dd_Re_levelOf_48 : decode cc_Re_levelOf 48 = .ok (.iaload, 1) := by decide +kernel
theorem dd_Re_levelOf_49 : decode cc_Re_levelOf 49 = .ok (.iconst 1, 1) := by decide +kernel
theorem dd_Re_levelOf_50 : decode cc_Re_levelOf 50 = .ok (.isub, 1) := by decide +kernel
theorem dd_Re_levelOf_51 : decode cc_Re_levelOf 51 = .ok (.i2l, 1) := by decide +kernel
theorem dd_Re_levelOf_52 : decode cc_Re_levelOf 52 = .ok (.invokestatic 63, 3) := by decide +kernel
theorem dd_Re_levelOf_55 : decode cc_Re_levelOf 55 = .ok (.ifCond .ne 5, 3) := by decide +kernel
theorem dd_Re_levelOf_58 : decode cc_Re_levelOf 58 = .ok (.iconst (-1), 1) := by decide +kernel
theorem dd_Re_levelOf_59 : decode cc_Re_levelOf 59 = .ok (.ireturn, 1) := by decide +kernel
theorem dd_Re_levelOf_60 : decode cc_Re_levelOf 60 = .ok (.iload_n 3, 1) := by decide +kernel
theorem dd_Re_levelOf_61 : decode cc_Re_levelOf 61 = .ok (.ifCond .ge 17, 3) := by decide +kernel
theorem dd_Re_levelOf_64 : decode cc_Re_levelOf 64 = .ok (.aload_n 0, 1) := by decide +kernel
theorem dd_Re_levelOf_65 : decode cc_Re_levelOf 65 = .ok (.getfield 28, 3) := by decide +kernel
theorem dd_Re_levelOf_68 : decode cc_Re_levelOf 68 = .ok (.bipush 40, 2) := by decide +kernel
theorem dd_Re_levelOf_70 : decode cc_Re_levelOf 70 = .ok (.iload_n 1, 1) := by decide +kernel
theorem dd_Re_levelOf_71 : decode cc_Re_levelOf 71 = .ok (.imul, 1) := by decide +kernel
theorem dd_Re_levelOf_72 : decode cc_Re_levelOf 72 = .ok (.iload_n 2, 1) := by decide +kernel
theorem dd_Re_levelOf_73 : decode cc_Re_levelOf 73 = .ok (.iadd, 1) := by decide +kernel
theorem dd_Re_levelOf_74 : decode cc_Re_levelOf 74 = .ok (.iaload, 1) := by decide +kernel
theorem dd_Re_levelOf_75 : decode cc_Re_levelOf 75 = .ok (.goto 20, 3) := by decide +kernel
theorem dd_Re_levelOf_78 : decode cc_Re_levelOf 78 = .ok (.aload_n 0, 1) := by decide +kernel
theorem dd_Re_levelOf_79 : decode cc_Re_levelOf 79 = .ok (.getfield 32, 3) := by decide +kernel
theorem dd_Re_levelOf_82 : decode cc_Re_levelOf 82 = .ok (.sipush 1600, 3) := by decide +kernel
theorem dd_Re_levelOf_85 : decode cc_Re_levelOf 85 = .ok (.iload_n 1, 1) := by decide +kernel
theorem dd_Re_levelOf_86 : decode cc_Re_levelOf 86 = .ok (.imul, 1) := by decide +kernel
theorem dd_Re_levelOf_87 : decode cc_Re_levelOf 87 = .ok (.bipush 40, 2) := by decide +kernel
theorem dd_Re_levelOf_89 : decode cc_Re_levelOf 89 = .ok (.iload_n 2, 1) := by decide +kernel
theorem dd_Re_levelOf_90 : decode cc_Re_levelOf 90 = .ok (.imul, 1) := by decide +kernel
theorem dd_Re_levelOf_91 : decode cc_Re_levelOf 91 = .ok (.iadd, 1) := by decide +kernel
theorem dd_Re_levelOf_92 : decode cc_Re_levelOf 92 = .ok (.iload_n 3, 1) := by decide +kernel
theorem dd_Re_levelOf_93 : decode cc_Re_levelOf 93 = .ok (.iadd, 1) := by decide +kernel
theorem dd_Re_levelOf_94 : decode cc_Re_levelOf 94 = .ok (.iaload, 1) := by decide +kernel
theorem dd_Re_levelOf_95 : decode cc_Re_levelOf 95 = .ok (.ireturn, 1) := by decide +kernel
theorem dd_Re_take_0 : decode cc_Re_take 0 = .ok (.aload_n 0, 1) := by decide +kernel
theorem dd_Re_take_1 : decode cc_Re_take 1 = .ok (.aload_n 0, 1) := by decide +kernel
theorem dd_Re_take_2 : decode cc_Re_take 2 = .ok (.getfield 25, 3) := by decide +kernel
theorem dd_Re_take_5 : decode cc_Re_take 5 = .ok (.iload_n 1, 1) := by decide +kernel
theorem dd_Re_take_6 : decode cc_Re_take 6 = .ok (.iaload, 1) := by decide +kernel
theorem dd_Re_take_7 : decode cc_Re_take 7 = .ok (.putfield 106, 3) := by decide +kernel
theorem dd_Re_take_10 : decode cc_Re_take 10 = .ok (.aload_n 0, 1) := by decide +kernel
theorem dd_Re_take_11 : decode cc_Re_take 11 = .ok (.iload_n 1, 1) := by decide +kernel
theorem dd_Re_take_12 : decode cc_Re_take 12 = .ok (.putfield 109, 3) := by decide +kernel
theorem dd_Re_take_15 : decode cc_Re_take 15 = .ok (.return_, 1) := by decide +kernel
theorem dd_Re_weightOf_0 : decode cc_Re_weightOf 0 = .ok (.aload_n 0, 1) := by decide +kernel
theorem dd_Re_weightOf_1 : decode cc_Re_weightOf 1 = .ok (.getfield 28, 3) := by decide +kernel
theorem dd_Re_weightOf_4 : decode cc_Re_weightOf 4 = .ok (.bipush 40, 2) := by decide +kernel
theorem dd_Re_weightOf_6 : decode cc_Re_weightOf 6 = .ok (.aload_n 0, 1) := by decide +kernel
theorem dd_Re_weightOf_7 : decode cc_Re_weightOf 7 = .ok (.getfield 109, 3) := by decide +kernel
theorem dd_Re_weightOf_10 : decode cc_Re_weightOf 10 = .ok (.imul, 1) := by decide +kernel
theorem dd_Re_weightOf_11 : decode cc_Re_weightOf 11 = .ok (.iload_n 1, 1) := by decide +kernel
theorem dd_Re_weightOf_12 : decode cc_Re_weightOf 12 = .ok (.iadd, 1) := by decide +kernel
theorem dd_Re_weightOf_13 : decode cc_Re_weightOf 13 = .ok (.iaload, 1) := by decide +kernel
theorem dd_Re_weightOf_14 : decode cc_Re_weightOf 14 = .ok (.ireturn, 1) := by decide +kernel
theorem dd_Re_arcOf_0 : decode cc_Re_arcOf 0 = .ok (.aload_n 0, 1) := by decide +kernel
theorem dd_Re_arcOf_1 : decode cc_Re_arcOf 1 = .ok (.getfield 32, 3) := by decide +kernel
theorem dd_Re_arcOf_4 : decode cc_Re_arcOf 4 = .ok (.sipush 1600, 3) := by decide +kernel
theorem dd_Re_arcOf_7 : decode cc_Re_arcOf 7 = .ok (.aload_n 0, 1) := by decide +kernel
theorem dd_Re_arcOf_8 : decode cc_Re_arcOf 8 = .ok (.getfield 109, 3) := by decide +kernel
theorem dd_Re_arcOf_11 : decode cc_Re_arcOf 11 = .ok (.imul, 1) := by decide +kernel
theorem dd_Re_arcOf_12 : decode cc_Re_arcOf 12 = .ok (.bipush 40, 2) := by decide +kernel
theorem dd_Re_arcOf_14 : decode cc_Re_arcOf 14 = .ok (.iload_n 1, 1) := by decide +kernel
theorem dd_Re_arcOf_15 : decode cc_Re_arcOf 15 = .ok (.imul, 1) := by decide +kernel
theorem dd_Re_arcOf_16 : decode cc_Re_arcOf 16 = .ok (.iadd, 1) := by decide +kernel
theorem dd_Re_arcOf_17 : decode cc_Re_arcOf 17 = .ok (.iload_n 2, 1) := by decide +kernel
theorem dd_Re_arcOf_18 : decode cc_Re_arcOf 18 = .ok (.iadd, 1) := by decide +kernel
theorem dd_Re_arcOf_19 : decode cc_Re_arcOf 19 = .ok (.iaload, 1) := by decide +kernel
theorem dd_Re_arcOf_20 : decode cc_Re_arcOf 20 = .ok (.ireturn, 1) := by decide +kernel
theorem dd_Re_sumOf_0 : decode cc_Re_sumOf 0 = .ok (.lconst 0, 1) := by decide +kernel
theorem dd_Re_sumOf_1 : decode cc_Re_sumOf 1 = .ok (.lstore_n 2, 1) := by decide +kernel
theorem dd_Re_sumOf_2 : decode cc_Re_sumOf 2 = .ok (.iconst 0, 1) := by decide +kernel
theorem dd_Re_sumOf_3 : decode cc_Re_sumOf 3 = .ok (.istore 4, 2) := by decide +kernel
theorem dd_Re_sumOf_5 : decode cc_Re_sumOf 5 = .ok (.iload 4, 2) := by decide +kernel
theorem dd_Re_sumOf_7 : decode cc_Re_sumOf 7 = .ok (.aload_n 0, 1) := by decide +kernel
theorem dd_Re_sumOf_8 : decode cc_Re_sumOf 8 = .ok (.getfield 106, 3) := by decide +kernel
theorem dd_Re_sumOf_11 : decode cc_Re_sumOf 11 = .ok (.if_icmp .ge 34, 3) := by decide +kernel
theorem dd_Re_sumOf_14 : decode cc_Re_sumOf 14 = .ok (.lload_n 2, 1) := by decide +kernel
theorem dd_Re_sumOf_15 : decode cc_Re_sumOf 15 = .ok (.aload_n 0, 1) := by decide +kernel
theorem dd_Re_sumOf_16 : decode cc_Re_sumOf 16 = .ok (.getfield 38, 3) := by decide +kernel
theorem dd_Re_sumOf_19 : decode cc_Re_sumOf 19 = .ok (.iload 4, 2) := by decide +kernel
theorem dd_Re_sumOf_21 : decode cc_Re_sumOf 21 = .ok (.iaload, 1) := by decide +kernel
theorem dd_Re_sumOf_22 : decode cc_Re_sumOf 22 = .ok (.iload_n 1, 1) := by decide +kernel
theorem dd_Re_sumOf_23 : decode cc_Re_sumOf 23 = .ok (.if_icmp .ne 13, 3) := by decide +kernel
theorem dd_Re_sumOf_26 : decode cc_Re_sumOf 26 = .ok (.aload_n 0, 1) := by decide +kernel
theorem dd_Re_sumOf_27 : decode cc_Re_sumOf 27 = .ok (.iload 4, 2) := by decide +kernel
theorem dd_Re_sumOf_29 : decode cc_Re_sumOf 29 = .ok (.invokevirtual 112, 3) := by decide +kernel
theorem dd_Re_sumOf_32 : decode cc_Re_sumOf 32 = .ok (.i2l, 1) := by decide +kernel
theorem dd_Re_sumOf_33 : decode cc_Re_sumOf 33 = .ok (.goto 4, 3) := by decide +kernel
theorem dd_Re_sumOf_36 : decode cc_Re_sumOf 36 = .ok (.lconst 0, 1) := by decide +kernel
theorem dd_Re_sumOf_37 : decode cc_Re_sumOf 37 = .ok (.ladd, 1) := by decide +kernel
theorem dd_Re_sumOf_38 : decode cc_Re_sumOf 38 = .ok (.lstore_n 2, 1) := by decide +kernel
theorem dd_Re_sumOf_39 : decode cc_Re_sumOf 39 = .ok (.iinc 4 1, 3) := by decide +kernel
theorem dd_Re_sumOf_42 : decode cc_Re_sumOf 42 = .ok (.goto (-37), 3) := by decide +kernel
theorem dd_Re_sumOf_45 : decode cc_Re_sumOf 45 = .ok (.lload_n 2, 1) := by decide +kernel
theorem dd_Re_sumOf_46 : decode cc_Re_sumOf 46 = .ok (.lreturn, 1) := by decide +kernel
theorem dd_Re_rowOver_0 : decode cc_Re_rowOver 0 = .ok (.lconst 0, 1) := by decide +kernel
theorem dd_Re_rowOver_1 : decode cc_Re_rowOver 1 = .ok (.lstore_n 1, 1) := by decide +kernel
theorem dd_Re_rowOver_2 : decode cc_Re_rowOver 2 = .ok (.iconst 0, 1) := by decide +kernel
theorem dd_Re_rowOver_3 : decode cc_Re_rowOver 3 = .ok (.istore_n 3, 1) := by decide +kernel
theorem dd_Re_rowOver_4 : decode cc_Re_rowOver 4 = .ok (.iload_n 3, 1) := by decide +kernel
theorem dd_Re_rowOver_5 : decode cc_Re_rowOver 5 = .ok (.aload_n 0, 1) := by decide +kernel
theorem dd_Re_rowOver_6 : decode cc_Re_rowOver 6 = .ok (.getfield 80, 3) := by decide +kernel
theorem dd_Re_rowOver_9 : decode cc_Re_rowOver 9 = .ok (.if_icmp .ge 72, 3) := by decide +kernel
theorem dd_Re_rowOver_12 : decode cc_Re_rowOver 12 = .ok (.aload_n 0, 1) := by decide +kernel
theorem dd_Re_rowOver_13 : decode cc_Re_rowOver 13 = .ok (.iload_n 3, 1) := by decide +kernel
theorem dd_Re_rowOver_14 : decode cc_Re_rowOver 14 = .ok (.invokevirtual 115, 3) := by decide +kernel
theorem dd_Re_rowOver_17 : decode cc_Re_rowOver 17 = .ok (.lstore 4, 2) := by decide +kernel
theorem dd_Re_rowOver_19 : decode cc_Re_rowOver 19 = .ok (.lload_n 1, 1) := by decide +kernel
theorem dd_Re_rowOver_20 : decode cc_Re_rowOver 20 = .ok (.lload 4, 2) := by decide +kernel
theorem dd_Re_rowOver_22 : decode cc_Re_rowOver 22 = .ok (.aload_n 0, 1) := by decide +kernel
theorem dd_Re_rowOver_23 : decode cc_Re_rowOver 23 = .ok (.getfield 19, 3) := by decide +kernel
theorem dd_Re_rowOver_26 : decode cc_Re_rowOver 26 = .ok (.iload_n 3, 1) := by decide +kernel
theorem dd_Re_rowOver_27 : decode cc_Re_rowOver 27 = .ok (.iaload, 1) := by decide +kernel
theorem dd_Re_rowOver_28 : decode cc_Re_rowOver 28 = .ok (.i2l, 1) := by decide +kernel
theorem dd_Re_rowOver_29 : decode cc_Re_rowOver 29 = .ok (.lcmp, 1) := by decide +kernel
theorem dd_Re_rowOver_30 : decode cc_Re_rowOver 30 = .ok (.ifCond .ge 16, 3) := by decide +kernel
theorem dd_Re_rowOver_33 : decode cc_Re_rowOver 33 = .ok (.aload_n 0, 1) := by decide +kernel
theorem dd_Re_rowOver_34 : decode cc_Re_rowOver 34 = .ok (.getfield 19, 3) := by decide +kernel
theorem dd_Re_rowOver_37 : decode cc_Re_rowOver 37 = .ok (.iload_n 3, 1) := by decide +kernel
theorem dd_Re_rowOver_38 : decode cc_Re_rowOver 38 = .ok (.iaload, 1) := by decide +kernel
theorem dd_Re_rowOver_39 : decode cc_Re_rowOver 39 = .ok (.i2l, 1) := by decide +kernel
theorem dd_Re_rowOver_40 : decode cc_Re_rowOver 40 = .ok (.lload 4, 2) := by decide +kernel
theorem dd_Re_rowOver_42 : decode cc_Re_rowOver 42 = .ok (.lsub, 1) := by decide +kernel
theorem dd_Re_rowOver_43 : decode cc_Re_rowOver 43 = .ok (.goto 30, 3) := by decide +kernel
theorem dd_Re_rowOver_46 : decode cc_Re_rowOver 46 = .ok (.lload 4, 2) := by decide +kernel
theorem dd_Re_rowOver_48 : decode cc_Re_rowOver 48 = .ok (.aload_n 0, 1) := by decide +kernel
theorem dd_Re_rowOver_49 : decode cc_Re_rowOver 49 = .ok (.getfield 22, 3) := by decide +kernel
theorem dd_Re_rowOver_52 : decode cc_Re_rowOver 52 = .ok (.iload_n 3, 1) := by decide +kernel
theorem dd_Re_rowOver_53 : decode cc_Re_rowOver 53 = .ok (.iaload, 1) := by decide +kernel
theorem dd_Re_rowOver_54 : decode cc_Re_rowOver 54 = .ok (.i2l, 1) := by decide +kernel
theorem dd_Re_rowOver_55 : decode cc_Re_rowOver 55 = .ok (.lcmp, 1) := by decide +kernel
theorem dd_Re_rowOver_56 : decode cc_Re_rowOver 56 = .ok (.ifCond .le 16, 3) := by decide +kernel
theorem dd_Re_rowOver_59 : decode cc_Re_rowOver 59 = .ok (.lload 4, 2) := by decide +kernel
theorem dd_Re_rowOver_61 : decode cc_Re_rowOver 61 = .ok (.aload_n 0, 1) := by decide +kernel
theorem dd_Re_rowOver_62 : decode cc_Re_rowOver 62 = .ok (.getfield 22, 3) := by decide +kernel
theorem dd_Re_rowOver_65 : decode cc_Re_rowOver 65 = .ok (.iload_n 3, 1) := by decide +kernel
theorem dd_Re_rowOver_66 : decode cc_Re_rowOver 66 = .ok (.iaload, 1) := by decide +kernel
theorem dd_Re_rowOver_67 : decode cc_Re_rowOver 67 = .ok (.i2l, 1) := by decide +kernel
theorem dd_Re_rowOver_68 : decode cc_Re_rowOver 68 = .ok (.lsub, 1) := by decide +kernel
theorem dd_Re_rowOver_69 : decode cc_Re_rowOver 69 = .ok (.goto 4, 3) := by decide +kernel
theorem dd_Re_rowOver_72 : decode cc_Re_rowOver 72 = .ok (.lconst 0, 1) := by decide +kernel
theorem dd_Re_rowOver_73 : decode cc_Re_rowOver 73 = .ok (.ladd, 1) := by decide +kernel
theorem dd_Re_rowOver_74 : decode cc_Re_rowOver 74 = .ok (.lstore_n 1, 1) := by decide +kernel
theorem dd_Re_rowOver_75 : decode cc_Re_rowOver 75 = .ok (.iinc 3 1, 3) := by decide +kernel
theorem dd_Re_rowOver_78 : decode cc_Re_rowOver 78 = .ok (.goto (-74), 3) := by decide +kernel
theorem dd_Re_rowOver_81 : decode cc_Re_rowOver 81 = .ok (.lload_n 1, 1) := by decide +kernel
theorem dd_Re_rowOver_82 : decode cc_Re_rowOver 82 = .ok (.lreturn, 1) := by decide +kernel
theorem dd_Re_rowCut_0 : decode cc_Re_rowCut 0 = .ok (.lconst 0, 1) := by decide +kernel
theorem dd_Re_rowCut_1 : decode cc_Re_rowCut 1 = .ok (.lstore_n 1, 1) := by decide +kernel
theorem dd_Re_rowCut_2 : decode cc_Re_rowCut 2 = .ok (.iconst 0, 1) := by decide +kernel
theorem dd_Re_rowCut_3 : decode cc_Re_rowCut 3 = .ok (.istore_n 3, 1) := by decide +kernel
theorem dd_Re_rowCut_4 : decode cc_Re_rowCut 4 = .ok (.iload_n 3, 1) := by decide +kernel
theorem dd_Re_rowCut_5 : decode cc_Re_rowCut 5 = .ok (.aload_n 0, 1) := by decide +kernel
theorem dd_Re_rowCut_6 : decode cc_Re_rowCut 6 = .ok (.getfield 106, 3) := by decide +kernel
theorem dd_Re_rowCut_9 : decode cc_Re_rowCut 9 = .ok (.if_icmp .ge 55, 3) := by decide +kernel
theorem dd_Re_rowCut_12 : decode cc_Re_rowCut 12 = .ok (.iconst 0, 1) := by decide +kernel
theorem dd_Re_rowCut_13 : decode cc_Re_rowCut 13 = .ok (.istore 4, 2) := by decide +kernel
theorem dd_Re_rowCut_15 : decode cc_Re_rowCut 15 = .ok (.iload 4, 2) := by decide +kernel
theorem dd_Re_rowCut_17 : decode cc_Re_rowCut 17 = .ok (.iload_n 3, 1) := by decide +kernel
theorem dd_Re_rowCut_18 : decode cc_Re_rowCut 18 = .ok (.if_icmp .ge 40, 3) := by decide +kernel
theorem dd_Re_rowCut_21 : decode cc_Re_rowCut 21 = .ok (.lload_n 1, 1) := by decide +kernel
theorem dd_Re_rowCut_22 : decode cc_Re_rowCut 22 = .ok (.aload_n 0, 1) := by decide +kernel
theorem dd_Re_rowCut_23 : decode cc_Re_rowCut 23 = .ok (.getfield 38, 3) := by decide +kernel
theorem dd_Re_rowCut_26 : decode cc_Re_rowCut 26 = .ok (.iload_n 3, 1) := by decide +kernel
theorem dd_Re_rowCut_27 : decode cc_Re_rowCut 27 = .ok (.iaload, 1) := by decide +kernel
theorem dd_Re_rowCut_28 : decode cc_Re_rowCut 28 = .ok (.aload_n 0, 1) := by decide +kernel
theorem dd_Re_rowCut_29 : decode cc_Re_rowCut 29 = .ok (.getfield 38, 3) := by decide +kernel
theorem dd_Re_rowCut_32 : decode cc_Re_rowCut 32 = .ok (.iload 4, 2) := by decide +kernel
theorem dd_Re_rowCut_34 : decode cc_Re_rowCut 34 = .ok (.iaload, 1) := by decide +kernel
theorem dd_Re_rowCut_35 : decode cc_Re_rowCut 35 = .ok (.if_icmp .eq 14, 3) := by decide +kernel
theorem dd_Re_rowCut_38 : decode cc_Re_rowCut 38 = .ok (.aload_n 0, 1) := by decide +kernel
theorem dd_Re_rowCut_39 : decode cc_Re_rowCut 39 = .ok (.iload_n 3, 1) := by decide +kernel
theorem dd_Re_rowCut_40 : decode cc_Re_rowCut 40 = .ok (.iload 4, 2) := by decide +kernel
theorem dd_Re_rowCut_42 : decode cc_Re_rowCut 42 = .ok (.invokevirtual 119, 3) := by decide +kernel
theorem dd_Re_rowCut_45 : decode cc_Re_rowCut 45 = .ok (.i2l, 1) := by decide +kernel
theorem dd_Re_rowCut_46 : decode cc_Re_rowCut 46 = .ok (.goto 4, 3) := by decide +kernel
theorem dd_Re_rowCut_49 : decode cc_Re_rowCut 49 = .ok (.lconst 0, 1) := by decide +kernel
theorem dd_Re_rowCut_50 : decode cc_Re_rowCut 50 = .ok (.ladd, 1) := by decide +kernel
theorem dd_Re_rowCut_51 : decode cc_Re_rowCut 51 = .ok (.lstore_n 1, 1) := by decide +kernel
theorem dd_Re_rowCut_52 : decode cc_Re_rowCut 52 = .ok (.iinc 4 1, 3) := by decide +kernel
theorem dd_Re_rowCut_55 : decode cc_Re_rowCut 55 = .ok (.goto (-40), 3) := by decide +kernel
theorem dd_Re_rowCut_58 : decode cc_Re_rowCut 58 = .ok (.iinc 3 1, 3) := by decide +kernel
theorem dd_Re_rowCut_61 : decode cc_Re_rowCut 61 = .ok (.goto (-57), 3) := by decide +kernel
theorem dd_Re_rowCut_64 : decode cc_Re_rowCut 64 = .ok (.lload_n 1, 1) := by decide +kernel
theorem dd_Re_rowCut_65 : decode cc_Re_rowCut 65 = .ok (.lreturn, 1) := by decide +kernel
theorem dd_Re_rowGain_0 : decode cc_Re_rowGain 0 = .ok (.lconst 0, 1) := by decide +kernel
theorem dd_Re_rowGain_1 : decode cc_Re_rowGain 1 = .ok (.lstore_n 3, 1) := by decide +kernel
theorem dd_Re_rowGain_2 : decode cc_Re_rowGain 2 = .ok (.iconst 0, 1) := by decide +kernel
theorem dd_Re_rowGain_3 : decode cc_Re_rowGain 3 = .ok (.istore 5, 2) := by decide +kernel
theorem dd_Re_rowGain_5 : decode cc_Re_rowGain 5 = .ok (.iload 5, 2) := by decide +kernel
theorem dd_Re_rowGain_7 : decode cc_Re_rowGain 7 = .ok (.aload_n 0, 1) := by decide +kernel
theorem dd_Re_rowGain_8 : decode cc_Re_rowGain 8 = .ok (.getfield 106, 3) := by decide +kernel
theorem dd_Re_rowGain_11 : decode cc_Re_rowGain 11 = .ok (.if_icmp .ge 69, 3) := by decide +kernel
theorem dd_Re_rowGain_14 : decode cc_Re_rowGain 14 = .ok (.iload 5, 2) := by decide +kernel
theorem dd_Re_rowGain_16 : decode cc_Re_rowGain 16 = .ok (.iload_n 1, 1) := by decide +kernel
theorem dd_Re_rowGain_17 : decode cc_Re_rowGain 17 = .ok (.if_icmp .eq 57, 3) := by decide +kernel
theorem dd_Re_rowGain_20 : decode cc_Re_rowGain 20 = .ok (.lload_n 3, 1) := by decide +kernel
theorem dd_Re_rowGain_21 : decode cc_Re_rowGain 21 = .ok (.aload_n 0, 1) := by decide +kernel
theorem dd_Re_rowGain_22 : decode cc_Re_rowGain 22 = .ok (.getfield 38, 3) := by decide +kernel
theorem dd_Re_rowGain_25 : decode cc_Re_rowGain 25 = .ok (.iload 5, 2) := by decide +kernel
theorem dd_Re_rowGain_27 : decode cc_Re_rowGain 27 = .ok (.iaload, 1) := by decide +kernel
theorem dd_Re_rowGain_28 : decode cc_Re_rowGain 28 = .ok (.iload_n 2, 1) := by decide +kernel
theorem dd_Re_rowGain_29 : decode cc_Re_rowGain 29 = .ok (.if_icmp .ne 14, 3) := by decide +kernel
theorem dd_Re_rowGain_32 : decode cc_Re_rowGain 32 = .ok (.aload_n 0, 1) := by decide +kernel
theorem dd_Re_rowGain_33 : decode cc_Re_rowGain 33 = .ok (.iload_n 1, 1) := by decide +kernel
theorem dd_Re_rowGain_34 : decode cc_Re_rowGain 34 = .ok (.iload 5, 2) := by decide +kernel
theorem dd_Re_rowGain_36 : decode cc_Re_rowGain 36 = .ok (.invokevirtual 119, 3) := by decide +kernel
theorem dd_Re_rowGain_39 : decode cc_Re_rowGain 39 = .ok (.i2l, 1) := by decide +kernel
theorem dd_Re_rowGain_40 : decode cc_Re_rowGain 40 = .ok (.goto 32, 3) := by decide +kernel
theorem dd_Re_rowGain_43 : decode cc_Re_rowGain 43 = .ok (.aload_n 0, 1) := by decide +kernel
theorem dd_Re_rowGain_44 : decode cc_Re_rowGain 44 = .ok (.getfield 38, 3) := by decide +kernel
theorem dd_Re_rowGain_47 : decode cc_Re_rowGain 47 = .ok (.iload 5, 2) := by decide +kernel
theorem dd_Re_rowGain_49 : decode cc_Re_rowGain 49 = .ok (.iaload, 1) := by decide +kernel
theorem dd_Re_rowGain_50 : decode cc_Re_rowGain 50 = .ok (.aload_n 0, 1) := by decide +kernel
theorem dd_Re_rowGain_51 : decode cc_Re_rowGain 51 = .ok (.getfield 38, 3) := by decide +kernel
theorem dd_Re_rowGain_54 : decode cc_Re_rowGain 54 = .ok (.iload_n 1, 1) := by decide +kernel
theorem dd_Re_rowGain_55 : decode cc_Re_rowGain 55 = .ok (.iaload, 1) := by decide +kernel
theorem dd_Re_rowGain_56 : decode cc_Re_rowGain 56 = .ok (.if_icmp .ne 15, 3) := by decide +kernel
theorem dd_Re_rowGain_59 : decode cc_Re_rowGain 59 = .ok (.aload_n 0, 1) := by decide +kernel
theorem dd_Re_rowGain_60 : decode cc_Re_rowGain 60 = .ok (.iload_n 1, 1) := by decide +kernel
theorem dd_Re_rowGain_61 : decode cc_Re_rowGain 61 = .ok (.iload 5, 2) := by decide +kernel
theorem dd_Re_rowGain_63 : decode cc_Re_rowGain 63 = .ok (.invokevirtual 119, 3) := by decide +kernel
theorem dd_Re_rowGain_66 : decode cc_Re_rowGain 66 = .ok (.ineg, 1) := by decide +kernel
theorem dd_Re_rowGain_67 : decode cc_Re_rowGain 67 = .ok (.i2l, 1) := by decide +kernel
theorem dd_Re_rowGain_68 : decode cc_Re_rowGain 68 = .ok (.goto 4, 3) := by decide +kernel
theorem dd_Re_rowGain_71 : decode cc_Re_rowGain 71 = .ok (.lconst 0, 1) := by decide +kernel
theorem dd_Re_rowGain_72 : decode cc_Re_rowGain 72 = .ok (.ladd, 1) := by decide +kernel
theorem dd_Re_rowGain_73 : decode cc_Re_rowGain 73 = .ok (.lstore_n 3, 1) := by decide +kernel
theorem dd_Re_rowGain_74 : decode cc_Re_rowGain 74 = .ok (.iinc 5 1, 3) := by decide +kernel
theorem dd_Re_rowGain_77 : decode cc_Re_rowGain 77 = .ok (.goto (-72), 3) := by decide +kernel
theorem dd_Re_rowGain_80 : decode cc_Re_rowGain 80 = .ok (.iload_n 2, 1) := by decide +kernel
theorem dd_Re_rowGain_81 : decode cc_Re_rowGain 81 = .ok (.aload_n 0, 1) := by decide +kernel
theorem dd_Re_rowGain_82 : decode cc_Re_rowGain 82 = .ok (.getfield 38, 3) := by decide +kernel
theorem dd_Re_rowGain_85 : decode cc_Re_rowGain 85 = .ok (.iload_n 1, 1) := by decide +kernel
theorem dd_Re_rowGain_86 : decode cc_Re_rowGain 86 = .ok (.iaload, 1) := by decide +kernel
theorem dd_Re_rowGain_87 : decode cc_Re_rowGain 87 = .ok (.if_icmp .ne 7, 3) := by decide +kernel
theorem dd_Re_rowGain_90 : decode cc_Re_rowGain 90 = .ok (.lconst 0, 1) := by decide +kernel
theorem dd_Re_rowGain_91 : decode cc_Re_rowGain 91 = .ok (.goto 4, 3) := by decide +kernel
theorem dd_Re_rowGain_94 : decode cc_Re_rowGain 94 = .ok (.lload_n 3, 1) := by decide +kernel
theorem dd_Re_rowGain_95 : decode cc_Re_rowGain 95 = .ok (.lreturn, 1) := by decide +kernel
theorem dd_Re_takeSplit_0 : decode cc_Re_takeSplit 0 = .ok (.aload_n 0, 1) := by decide +kernel
theorem dd_Re_takeSplit_1 : decode cc_Re_takeSplit 1 = .ok (.invokevirtual 101, 3) := by decide +kernel
theorem dd_Re_takeSplit_4 : decode cc_Re_takeSplit 4 = .ok (.aload_n 0, 1) := by decide +kernel
theorem dd_Re_takeSplit_5 : decode cc_Re_takeSplit 5 = .ok (.iconst 0, 1) := by decide +kernel
theorem dd_Re_takeSplit_6 : decode cc_Re_takeSplit 6 = .ok (.invokevirtual 123, 3) := by decide +kernel
theorem dd_Re_takeSplit_9 : decode cc_Re_takeSplit 9 = .ok (.iconst 0, 1) := by decide +kernel
theorem dd_Re_takeSplit_10 : decode cc_Re_takeSplit 10 = .ok (.istore_n 1, 1) := by decide +kernel
theorem dd_Re_takeSplit_11 : decode cc_Re_takeSplit 11 = .ok (.iload_n 1, 1) := by decide +kernel
theorem dd_Re_takeSplit_12 : decode cc_Re_takeSplit 12 = .ok (.aload_n 0, 1) := by decide +kernel
theorem dd_Re_takeSplit_13 : decode cc_Re_takeSplit 13 = .ok (.getfield 67, 3) := by decide +kernel
theorem dd_Re_takeSplit_16 : decode cc_Re_takeSplit 16 = .ok (.if_icmp .ge 21, 3) := by decide +kernel
theorem dd_Re_takeSplit_19 : decode cc_Re_takeSplit 19 = .ok (.aload_n 0, 1) := by decide +kernel
theorem dd_Re_takeSplit_20 : decode cc_Re_takeSplit 20 = .ok (.getfield 38, 3) := by decide +kernel
theorem dd_Re_takeSplit_23 : decode cc_Re_takeSplit 23 = .ok (.iload_n 1, 1) := by decide +kernel
theorem dd_Re_takeSplit_24 : decode cc_Re_takeSplit 24 = .ok (.aload_n 0, 1) := by decide +kernel
theorem dd_Re_takeSplit_25 : decode cc_Re_takeSplit 25 = .ok (.getfield 16, 3) := by decide +kernel
theorem dd_Re_takeSplit_28 : decode cc_Re_takeSplit 28 = .ok (.iload_n 1, 1) := by decide +kernel
theorem dd_Re_takeSplit_29 : decode cc_Re_takeSplit 29 = .ok (.iaload, 1) := by decide +kernel
theorem dd_Re_takeSplit_30 : decode cc_Re_takeSplit 30 = .ok (.iastore, 1) := by decide +kernel
theorem dd_Re_takeSplit_31 : decode cc_Re_takeSplit 31 = .ok (.iinc 1 1, 3) := by decide +kernel
theorem dd_Re_takeSplit_34 : decode cc_Re_takeSplit 34 = .ok (.goto (-23), 3) := by decide +kernel
theorem dd_Re_takeSplit_37 : decode cc_Re_takeSplit 37 = .ok (.return_, 1) := by decide +kernel
theorem dd_Re_giveSplit_0 : decode cc_Re_giveSplit 0 = .ok (.iconst 0, 1) := by decide +kernel
theorem dd_Re_giveSplit_1 : decode cc_Re_giveSplit 1 = .ok (.istore_n 1, 1) := by decide +kernel
theorem dd_Re_giveSplit_2 : decode cc_Re_giveSplit 2 = .ok (.iload_n 1, 1) := by decide +kernel
theorem dd_Re_giveSplit_3 : decode cc_Re_giveSplit 3 = .ok (.aload_n 0, 1) := by decide +kernel
theorem dd_Re_giveSplit_4 : decode cc_Re_giveSplit 4 = .ok (.getfield 67, 3) := by decide +kernel
theorem dd_Re_giveSplit_7 : decode cc_Re_giveSplit 7 = .ok (.if_icmp .ge 21, 3) := by decide +kernel
theorem dd_Re_giveSplit_10 : decode cc_Re_giveSplit 10 = .ok (.aload_n 0, 1) := by decide +kernel
theorem dd_Re_giveSplit_11 : decode cc_Re_giveSplit 11 = .ok (.getfield 16, 3) := by decide +kernel
theorem dd_Re_giveSplit_14 : decode cc_Re_giveSplit 14 = .ok (.iload_n 1, 1) := by decide +kernel
theorem dd_Re_giveSplit_15 : decode cc_Re_giveSplit 15 = .ok (.aload_n 0, 1) := by decide +kernel
theorem dd_Re_giveSplit_16 : decode cc_Re_giveSplit 16 = .ok (.getfield 38, 3) := by decide +kernel
theorem dd_Re_giveSplit_19 : decode cc_Re_giveSplit 19 = .ok (.iload_n 1, 1) := by decide +kernel
theorem dd_Re_giveSplit_20 : decode cc_Re_giveSplit 20 = .ok (.iaload, 1) := by decide +kernel
theorem dd_Re_giveSplit_21 : decode cc_Re_giveSplit 21 = .ok (.iastore, 1) := by decide +kernel
theorem dd_Re_giveSplit_22 : decode cc_Re_giveSplit 22 = .ok (.iinc 1 1, 3) := by decide +kernel
theorem dd_Re_giveSplit_25 : decode cc_Re_giveSplit 25 = .ok (.goto (-23), 3) := by decide +kernel
theorem dd_Re_giveSplit_28 : decode cc_Re_giveSplit 28 = .ok (.return_, 1) := by decide +kernel
theorem dd_Re_of_0 : decode cc_Re_of 0 = .ok (.aload_n 0, 1) := by decide +kernel
theorem dd_Re_of_1 : decode cc_Re_of 1 = .ok (.iload_n 1, 1) := by decide +kernel
theorem dd_Re_of_2 : decode cc_Re_of 2 = .ok (.invokevirtual 71, 3) := by decide +kernel
theorem dd_Re_of_5 : decode cc_Re_of 5 = .ok (.ifCond .eq 15, 3) := by decide +kernel
theorem dd_Re_of_8 : decode cc_Re_of 8 = .ok (.iload_n 2, 1) := by decide +kernel
theorem dd_Re_of_9 : decode cc_Re_of 9 = .ok (.i2l, 1) := by decide +kernel
theorem dd_Re_of_10 : decode cc_Re_of 10 = .ok (.lconst 0, 1) := by decide +kernel
theorem dd_Re_of_11 : decode cc_Re_of 11 = .ok (.ldc2_w 127, 3) := by decide +kernel
theorem dd_Re_of_14 : decode cc_Re_of 14 = .ok (.invokestatic 63, 3) := by decide +kernel
theorem dd_Re_of_17 : decode cc_Re_of 17 = .ok (.ifCond .ne 5, 3) := by decide +kernel
theorem dd_Re_of_20 : decode cc_Re_of 20 = .ok (.iconst (-1), 1) := by decide +kernel
theorem dd_Re_of_21 : decode cc_Re_of 21 = .ok (.ireturn, 1) := by decide +kernel
theorem dd_Re_of_22 : decode cc_Re_of 22 = .ok (.iload_n 2, 1) := by decide +kernel
theorem dd_Re_of_23 : decode cc_Re_of 23 = .ok (.ifCond .ne 10, 3) := by decide +kernel
theorem dd_Re_of_26 : decode cc_Re_of 26 = .ok (.aload_n 0, 1) := by decide +kernel
theorem dd_Re_of_27 : decode cc_Re_of 27 = .ok (.getfield 7, 3) := by decide +kernel
theorem dd_Re_of_30 : decode cc_Re_of 30 = .ok (.iload_n 1, 1) := by decide +kernel
theorem dd_Re_of_31 : decode cc_Re_of 31 = .ok (.iaload, 1) := by decide +kernel
theorem dd_Re_of_32 : decode cc_Re_of 32 = .ok (.ireturn, 1) := by decide +kernel
theorem dd_Re_of_33 : decode cc_Re_of 33 = .ok (.iload_n 2, 1) := by decide +kernel
theorem dd_Re_of_34 : decode cc_Re_of 34 = .ok (.iconst 1, 1) := by decide +kernel
theorem dd_Re_of_35 : decode cc_Re_of 35 = .ok (.if_icmp .ne 10, 3) := by decide +kernel
theorem dd_Re_of_38 : decode cc_Re_of 38 = .ok (.aload_n 0, 1) := by decide +kernel
theorem dd_Re_of_39 : decode cc_Re_of 39 = .ok (.getfield 16, 3) := by decide +kernel
theorem dd_Re_of_42 : decode cc_Re_of 42 = .ok (.iload_n 1, 1) := by decide +kernel
theorem dd_Re_of_43 : decode cc_Re_of 43 = .ok (.iaload, 1) := by decide +kernel
theorem dd_Re_of_44 : decode cc_Re_of 44 = .ok (.ireturn, 1) := by decide +kernel
theorem dd_Re_of_45 : decode cc_Re_of 45 = .ok (.iconst 0, 1) := by decide +kernel
theorem dd_Re_of_46 : decode cc_Re_of 46 = .ok (.istore_n 3, 1) := by decide +kernel
theorem dd_Re_of_47 : decode cc_Re_of 47 = .ok (.iconst 0, 1) := by decide +kernel
theorem dd_Re_of_48 : decode cc_Re_of 48 = .ok (.istore 4, 2) := by decide +kernel
theorem dd_Re_of_50 : decode cc_Re_of 50 = .ok (.iload 4, 2) := by decide +kernel
theorem dd_Re_of_52 : decode cc_Re_of 52 = .ok (.aload_n 0, 1) := by decide +kernel
theorem dd_Re_of_53 : decode cc_Re_of 53 = .ok (.getfield 80, 3) := by decide +kernel
theorem dd_Re_of_56 : decode cc_Re_of 56 = .ok (.if_icmp .ge 91, 3) := by decide +kernel
theorem dd_Re_of_59 : decode cc_Re_of 59 = .ok (.iconst 0, 1) := by decide +kernel
theorem dd_Re_of_60 : decode cc_Re_of 60 = .ok (.istore 5, 2) := by decide +kernel
theorem dd_Re_of_62 : decode cc_Re_of 62 = .ok (.iconst 0, 1) := by decide +kernel
theorem dd_Re_of_63 : decode cc_Re_of 63 = .ok (.istore 6, 2) := by decide +kernel
theorem dd_Re_of_65 : decode cc_Re_of 65 = .ok (.iload 6, 2) := by decide +kernel
theorem dd_Re_of_67 : decode cc_Re_of 67 = .ok (.aload_n 0, 1) := by decide +kernel
theorem dd_Re_of_68 : decode cc_Re_of 68 = .ok (.getfield 67, 3) := by decide +kernel
theorem dd_Re_of_71 : decode cc_Re_of 71 = .ok (.if_icmp .ge 46, 3) := by decide +kernel
theorem dd_Re_of_74 : decode cc_Re_of 74 = .ok (.iload 5, 2) := by decide +kernel
theorem dd_Re_of_76 : decode cc_Re_of 76 = .ok (.aload_n 0, 1) := by decide +kernel
theorem dd_Re_of_77 : decode cc_Re_of 77 = .ok (.getfield 13, 3) := by decide +kernel
theorem dd_Re_of_80 : decode cc_Re_of 80 = .ok (.bipush 40, 2) := by decide +kernel
theorem dd_Re_of_82 : decode cc_Re_of 82 = .ok (.iload_n 1, 1) := by decide +kernel
theorem dd_Re_of_83 : decode cc_Re_of 83 = .ok (.imul, 1) := by decide +kernel
theorem dd_Re_of_84 : decode cc_Re_of 84 = .ok (.iload 6, 2) := by decide +kernel
theorem dd_Re_of_86 : decode cc_Re_of 86 = .ok (.iadd, 1) := by decide +kernel
theorem dd_Re_of_87 : decode cc_Re_of 87 = .ok (.iaload, 1) := by decide +kernel
theorem dd_Re_of_88 : decode cc_Re_of 88 = .ok (.ifCond .le 19, 3) := by decide +kernel
theorem dd_Re_of_91 : decode cc_Re_of 91 = .ok (.aload_n 0, 1) := by decide +kernel
theorem dd_Re_of_92 : decode cc_Re_of 92 = .ok (.getfield 16, 3) := by decide +kernel
theorem dd_Re_of_95 : decode cc_Re_of 95 = .ok (.iload 6, 2) := by decide +kernel
theorem dd_Re_of_97 : decode cc_Re_of 97 = .ok (.iaload, 1) := by decide +kernel
theorem dd_Re_of_98 : decode cc_Re_of 98 = .ok (.iload 4, 2) := by decide +kernel
theorem dd_Re_of_100 : decode cc_Re_of 100 = .ok (.if_icmp .ne 7, 3) := by decide +kernel
theorem dd_Re_of_103 : decode cc_Re_of 103 = .ok (.iconst 1, 1) := by decide +kernel
theorem dd_Re_of_104 : decode cc_Re_of 104 = .ok (.goto 4, 3) := by decide +kernel
theorem dd_Re_of_107 : decode cc_Re_of 107 = .ok (.iconst 0, 1) := by decide +kernel
theorem dd_Re_of_108 : decode cc_Re_of 108 = .ok (.ior, 1) := by decide +kernel
theorem dd_Re_of_109 : decode cc_Re_of 109 = .ok (.istore 5, 2) := by decide +kernel
theorem dd_Re_of_111 : decode cc_Re_of 111 = .ok (.iinc 6 1, 3) := by decide +kernel
theorem dd_Re_of_114 : decode cc_Re_of 114 = .ok (.goto (-49), 3) := by decide +kernel
theorem dd_Re_of_117 : decode cc_Re_of 117 = .ok (.iload_n 3, 1) := by decide +kernel
theorem dd_Re_of_118 : decode cc_Re_of 118 = .ok (.iload 5, 2) := by decide +kernel
theorem dd_Re_of_120 : decode cc_Re_of 120 = .ok (.ifCond .eq 18, 3) := by decide +kernel
theorem dd_Re_of_123 : decode cc_Re_of 123 = .ok (.iload 4, 2) := by decide +kernel
theorem dd_Re_of_125 : decode cc_Re_of 125 = .ok (.aload_n 0, 1) := by decide +kernel
theorem dd_Re_of_126 : decode cc_Re_of 126 = .ok (.getfield 16, 3) := by decide +kernel
theorem dd_Re_of_129 : decode cc_Re_of 129 = .ok (.iload_n 1, 1) := by decide +kernel
theorem dd_Re_of_130 : decode cc_Re_of 130 = .ok (.iaload, 1) := by decide +kernel
theorem dd_Re_of_131 : decode cc_Re_of 131 = .ok (.if_icmp .eq 7, 3) := by decide +kernel
theorem dd_Re_of_134 : decode cc_Re_of 134 = .ok (.iconst 1, 1) := by decide +kernel
theorem dd_Re_of_135 : decode cc_Re_of 135 = .ok (.goto 4, 3) := by decide +kernel
theorem dd_Re_of_138 : decode cc_Re_of 138 = .ok (.iconst 0, 1) := by decide +kernel
theorem dd_Re_of_139 : decode cc_Re_of 139 = .ok (.iadd, 1) := by decide +kernel
theorem dd_Re_of_140 : decode cc_Re_of 140 = .ok (.istore_n 3, 1) := by decide +kernel
theorem dd_Re_of_141 : decode cc_Re_of 141 = .ok (.iinc 4 1, 3) := by decide +kernel
theorem dd_Re_of_144 : decode cc_Re_of 144 = .ok (.goto (-94), 3) := by decide +kernel
theorem dd_Re_of_147 : decode cc_Re_of 147 = .ok (.iconst 0, 1) := by decide +kernel
theorem dd_Re_of_148 : decode cc_Re_of 148 = .ok (.istore 4, 2) := by decide +kernel
theorem dd_Re_of_150 : decode cc_Re_of 150 = .ok (.iconst 0, 1) := by decide +kernel
theorem dd_Re_of_151 : decode cc_Re_of 151 = .ok (.istore 5, 2) := by decide +kernel
theorem dd_Re_of_153 : decode cc_Re_of 153 = .ok (.iload 5, 2) := by decide +kernel
theorem dd_Re_of_155 : decode cc_Re_of 155 = .ok (.aload_n 0, 1) := by decide +kernel
theorem dd_Re_of_156 : decode cc_Re_of 156 = .ok (.getfield 67, 3) := by decide +kernel
theorem dd_Re_of_159 : decode cc_Re_of 159 = .ok (.if_icmp .ge 34, 3) := by decide +kernel
theorem dd_Re_of_162 : decode cc_Re_of 162 = .ok (.iload 4, 2) := by decide +kernel
theorem dd_Re_of_164 : decode cc_Re_of 164 = .ok (.aload_n 0, 1) := by decide +kernel
theorem dd_Re_of_165 : decode cc_Re_of 165 = .ok (.getfield 13, 3) := by decide +kernel
theorem dd_Re_of_168 : decode cc_Re_of 168 = .ok (.bipush 40, 2) := by decide +kernel
theorem dd_Re_of_170 : decode cc_Re_of 170 = .ok (.iload_n 1, 1) := by decide +kernel
theorem dd_Re_of_171 : decode cc_Re_of 171 = .ok (.imul, 1) := by decide +kernel
theorem dd_Re_of_172 : decode cc_Re_of 172 = .ok (.iload 5, 2) := by decide +kernel
theorem dd_Re_of_174 : decode cc_Re_of 174 = .ok (.iadd, 1) := by decide +kernel
theorem dd_Re_of_175 : decode cc_Re_of 175 = .ok (.iaload, 1) := by decide +kernel
theorem dd_Re_of_176 : decode cc_Re_of 176 = .ok (.ifCond .le 7, 3) := by decide +kernel
theorem dd_Re_of_179 : decode cc_Re_of 179 = .ok (.iconst 1, 1) := by decide +kernel
theorem dd_Re_of_180 : decode cc_Re_of 180 = .ok (.goto 4, 3) := by decide +kernel
theorem dd_Re_of_183 : decode cc_Re_of 183 = .ok (.iconst 0, 1) := by decide +kernel
theorem dd_Re_of_184 : decode cc_Re_of 184 = .ok (.iadd, 1) := by decide +kernel
theorem dd_Re_of_185 : decode cc_Re_of 185 = .ok (.istore 4, 2) := by decide +kernel
theorem dd_Re_of_187 : decode cc_Re_of 187 = .ok (.iinc 5 1, 3) := by decide +kernel
theorem dd_Re_of_190 : decode cc_Re_of 190 = .ok (.goto (-37), 3) := by decide +kernel
theorem dd_Re_of_193 : decode cc_Re_of 193 = .ok (.iload_n 2, 1) := by decide +kernel
theorem dd_Re_of_194 : decode cc_Re_of 194 = .ok (.iconst 2, 1) := by decide +kernel
theorem dd_Re_of_195 : decode cc_Re_of 195 = .ok (.if_icmp .ne 7, 3) := by decide +kernel
theorem dd_Re_of_198 : decode cc_Re_of 198 = .ok (.iload_n 3, 1) := by decide +kernel
theorem dd_Re_of_199 : decode cc_Re_of 199 = .ok (.goto 5, 3) := by decide +kernel
theorem dd_Re_of_202 : decode cc_Re_of 202 = .ok (.iload 4, 2) := by decide +kernel
theorem dd_Re_of_204 : decode cc_Re_of 204 = .ok (.ireturn, 1) := by decide +kernel
theorem dd_Re_between_0 : decode cc_Re_between 0 = .ok (.aload_n 0, 1) := by decide +kernel
theorem dd_Re_between_1 : decode cc_Re_between 1 = .ok (.iload_n 1, 1) := by decide +kernel
theorem dd_Re_between_2 : decode cc_Re_between 2 = .ok (.invokevirtual 71, 3) := by decide +kernel
theorem dd_Re_between_5 : decode cc_Re_between 5 = .ok (.ifCond .eq 25, 3) := by decide +kernel
theorem dd_Re_between_8 : decode cc_Re_between 8 = .ok (.aload_n 0, 1) := by decide +kernel
theorem dd_Re_between_9 : decode cc_Re_between 9 = .ok (.iload_n 2, 1) := by decide +kernel
theorem dd_Re_between_10 : decode cc_Re_between 10 = .ok (.invokevirtual 71, 3) := by decide +kernel
theorem dd_Re_between_13 : decode cc_Re_between 13 = .ok (.ifCond .eq 17, 3) := by decide +kernel
theorem dd_Re_between_16 : decode cc_Re_between 16 = .ok (.aload_n 0, 1) := by decide +kernel
theorem dd_Re_between_17 : decode cc_Re_between 17 = .ok (.getfield 13, 3) := by decide +kernel
theorem dd_Re_between_20 : decode cc_Re_between 20 = .ok (.bipush 40, 2) := by decide +kernel
theorem dd_Re_between_22 : decode cc_Re_between 22 = .ok (.iload_n 1, 1) := by decide +kernel
theorem dd_Re_between_23 : decode cc_Re_between 23 = .ok (.imul, 1) := by decide +kernel
theorem dd_Re_between_24 : decode cc_Re_between 24 = .ok (.iload_n 2, 1) := by decide +kernel
theorem dd_Re_between_25 : decode cc_Re_between 25 = .ok (.iadd, 1) := by decide +kernel
theorem dd_Re_between_26 : decode cc_Re_between 26 = .ok (.iaload, 1) := by decide +kernel
theorem dd_Re_between_27 : decode cc_Re_between 27 = .ok (.goto 4, 3) := by decide +kernel
theorem dd_Re_between_30 : decode cc_Re_between 30 = .ok (.iconst (-1), 1) := by decide +kernel
theorem dd_Re_between_31 : decode cc_Re_between 31 = .ok (.ireturn, 1) := by decide +kernel
theorem dd_Re_part_0 : decode cc_Re_part 0 = .ok (.aload_n 0, 1) := by decide +kernel
theorem dd_Re_part_1 : decode cc_Re_part 1 = .ok (.iload_n 1, 1) := by decide +kernel
theorem dd_Re_part_2 : decode cc_Re_part 2 = .ok (.invokevirtual 83, 3) := by decide +kernel
theorem dd_Re_part_5 : decode cc_Re_part 5 = .ok (.ifCond .eq 15, 3) := by decide +kernel
theorem dd_Re_part_8 : decode cc_Re_part 8 = .ok (.iload_n 2, 1) := by decide +kernel
theorem dd_Re_part_9 : decode cc_Re_part 9 = .ok (.i2l, 1) := by decide +kernel
theorem dd_Re_part_10 : decode cc_Re_part 10 = .ok (.lconst 0, 1) := by decide +kernel
theorem dd_Re_part_11 : decode cc_Re_part 11 = .ok (.ldc2_w 127, 3) := by decide +kernel
theorem dd_Re_part_14 : decode cc_Re_part 14 = .ok (.invokestatic 63, 3) := by decide +kernel
theorem dd_Re_part_17 : decode cc_Re_part 17 = .ok (.ifCond .ne 5, 3) := by decide +kernel
theorem dd_Re_part_20 : decode cc_Re_part 20 = .ok (.iconst (-1), 1) := by decide +kernel
theorem dd_Re_part_21 : decode cc_Re_part 21 = .ok (.ireturn, 1) := by decide +kernel
theorem dd_Re_part_22 : decode cc_Re_part 22 = .ok (.aload_n 0, 1) := by decide +kernel
theorem dd_Re_part_23 : decode cc_Re_part 23 = .ok (.invokevirtual 129, 3) := by decide +kernel
theorem dd_Re_part_26 : decode cc_Re_part 26 = .ok (.iconst 0, 1) := by decide +kernel
theorem dd_Re_part_27 : decode cc_Re_part 27 = .ok (.istore_n 3, 1) := by decide +kernel
theorem dd_Re_part_28 : decode cc_Re_part 28 = .ok (.iconst 0, 1) := by decide +kernel
theorem dd_Re_part_29 : decode cc_Re_part 29 = .ok (.istore 4, 2) := by decide +kernel
theorem dd_Re_part_31 : decode cc_Re_part 31 = .ok (.iload 4, 2) := by decide +kernel
theorem dd_Re_part_33 : decode cc_Re_part 33 = .ok (.aload_n 0, 1) := by decide +kernel
theorem dd_Re_part_34 : decode cc_Re_part 34 = .ok (.getfield 67, 3) := by decide +kernel
theorem dd_Re_part_37 : decode cc_Re_part 37 = .ok (.if_icmp .ge 28, 3) := by decide +kernel
theorem dd_Re_part_40 : decode cc_Re_part 40 = .ok (.iload_n 3, 1) := by decide +kernel
theorem dd_Re_part_41 : decode cc_Re_part 41 = .ok (.aload_n 0, 1) := by decide +kernel
theorem dd_Re_part_42 : decode cc_Re_part 42 = .ok (.getfield 16, 3) := by decide +kernel
theorem dd_Re_part_45 : decode cc_Re_part 45 = .ok (.iload 4, 2) := by decide +kernel
theorem dd_Re_part_47 : decode cc_Re_part 47 = .ok (.iaload, 1) := by decide +kernel
theorem dd_Re_part_48 : decode cc_Re_part 48 = .ok (.iload_n 1, 1) := by decide +kernel
theorem dd_Re_part_49 : decode cc_Re_part 49 = .ok (.if_icmp .ne 7, 3) := by decide +kernel
theorem dd_Re_part_52 : decode cc_Re_part 52 = .ok (.iconst 1, 1) := by decide +kernel
theorem dd_Re_part_53 : decode cc_Re_part 53 = .ok (.goto 4, 3) := by decide +kernel
theorem dd_Re_part_56 : decode cc_Re_part 56 = .ok (.iconst 0, 1) := by decide +kernel
theorem dd_Re_part_57 : decode cc_Re_part 57 = .ok (.iadd, 1) := by decide +kernel
theorem dd_Re_part_58 : decode cc_Re_part 58 = .ok (.istore_n 3, 1) := by decide +kernel
theorem dd_Re_part_59 : decode cc_Re_part 59 = .ok (.iinc 4 1, 3) := by decide +kernel
theorem dd_Re_part_62 : decode cc_Re_part 62 = .ok (.goto (-31), 3) := by decide +kernel
theorem dd_Re_part_65 : decode cc_Re_part 65 = .ok (.iload_n 2, 1) := by decide +kernel
theorem dd_Re_part_66 : decode cc_Re_part 66 = .ok (.ifCond .ne 12, 3) := by decide +kernel
theorem dd_Re_part_69 : decode cc_Re_part 69 = .ok (.aload_n 0, 1) := by decide +kernel
theorem dd_Re_part_70 : decode cc_Re_part 70 = .ok (.iload_n 1, 1) := by decide +kernel
theorem dd_Re_part_71 : decode cc_Re_part 71 = .ok (.invokevirtual 115, 3) := by decide +kernel
theorem dd_Re_part_74 : decode cc_Re_part 74 = .ok (.l2i, 1) := by decide +kernel
theorem dd_Re_part_75 : decode cc_Re_part 75 = .ok (.goto 32, 3) := by decide +kernel
theorem dd_Re_part_78 : decode cc_Re_part 78 = .ok (.iload_n 2, 1) := by decide +kernel
theorem dd_Re_part_79 : decode cc_Re_part 79 = .ok (.iconst 1, 1) := by decide +kernel
theorem dd_Re_part_80 : decode cc_Re_part 80 = .ok (.if_icmp .ne 7, 3) := by decide +kernel
theorem dd_Re_part_83 : decode cc_Re_part 83 = .ok (.iload_n 3, 1) := by decide +kernel
theorem dd_Re_part_84 : decode cc_Re_part 84 = .ok (.goto 23, 3) := by decide +kernel
theorem dd_Re_part_87 : decode cc_Re_part 87 = .ok (.iload_n 2, 1) := by decide +kernel
theorem dd_Re_part_88 : decode cc_Re_part 88 = .ok (.iconst 2, 1) := by decide +kernel
theorem dd_Re_part_89 : decode cc_Re_part 89 = .ok (.if_icmp .ne 12, 3) := by decide +kernel
theorem dd_Re_part_92 : decode cc_Re_part 92 = .ok (.aload_n 0, 1) := by decide +kernel
theorem dd_Re_part_93 : decode cc_Re_part 93 = .ok (.getfield 19, 3) := by decide +kernel
theorem dd_Re_part_96 : decode cc_Re_part 96 = .ok (.iload_n 1, 1) := by decide +kernel
theorem dd_Re_part_97 : decode cc_Re_part 97 = .ok (.iaload, 1) := by decide +kernel
theorem dd_Re_part_98 : decode cc_Re_part 98 = .ok (.goto 9, 3) := by decide +kernel
theorem dd_Re_part_101 : decode cc_Re_part 101 = .ok (.aload_n 0, 1) := by decide +kernel
theorem dd_Re_part_102 : decode cc_Re_part 102 = .ok (.getfield 22, 3) := by decide +kernel
theorem dd_Re_part_105 : decode cc_Re_part 105 = .ok (.iload_n 1, 1) := by decide +kernel
theorem dd_Re_part_106 : decode cc_Re_part 106 = .ok (.iaload, 1) := by decide +kernel
theorem dd_Re_part_107 : decode cc_Re_part 107 = .ok (.ireturn, 1) := by decide +kernel
theorem dd_Re_cut_0 : decode cc_Re_cut 0 = .ok (.aload_n 0, 1) := by decide +kernel
theorem dd_Re_cut_1 : decode cc_Re_cut 1 = .ok (.invokevirtual 129, 3) := by decide +kernel
theorem dd_Re_cut_4 : decode cc_Re_cut 4 = .ok (.aload_n 0, 1) := by decide +kernel
theorem dd_Re_cut_5 : decode cc_Re_cut 5 = .ok (.invokevirtual 132, 3) := by decide +kernel
theorem dd_Re_cut_8 : decode cc_Re_cut 8 = .ok (.l2i, 1) := by decide +kernel
theorem dd_Re_cut_9 : decode cc_Re_cut 9 = .ok (.ireturn, 1) := by decide +kernel
theorem dd_Re_over_0 : decode cc_Re_over 0 = .ok (.aload_n 0, 1) := by decide +kernel
theorem dd_Re_over_1 : decode cc_Re_over 1 = .ok (.invokevirtual 129, 3) := by decide +kernel
theorem dd_Re_over_4 : decode cc_Re_over 4 = .ok (.aload_n 0, 1) := by decide +kernel
theorem dd_Re_over_5 : decode cc_Re_over 5 = .ok (.invokevirtual 136, 3) := by decide +kernel
theorem dd_Re_over_8 : decode cc_Re_over 8 = .ok (.l2i, 1) := by decide +kernel
theorem dd_Re_over_9 : decode cc_Re_over 9 = .ok (.ireturn, 1) := by decide +kernel
theorem dd_Re_gain_0 : decode cc_Re_gain 0 = .ok (.aload_n 0, 1) := by decide +kernel
theorem dd_Re_gain_1 : decode cc_Re_gain 1 = .ok (.iload_n 1, 1) := by decide +kernel
theorem dd_Re_gain_2 : decode cc_Re_gain 2 = .ok (.invokevirtual 71, 3) := by decide +kernel
theorem dd_Re_gain_5 : decode cc_Re_gain 5 = .ok (.ifCond .eq 11, 3) := by decide +kernel
theorem dd_Re_gain_8 : decode cc_Re_gain 8 = .ok (.aload_n 0, 1) := by decide +kernel
theorem dd_Re_gain_9 : decode cc_Re_gain 9 = .ok (.iload_n 2, 1) := by decide +kernel
theorem dd_Re_gain_10 : decode cc_Re_gain 10 = .ok (.invokevirtual 83, 3) := by decide +kernel
theorem dd_Re_gain_13 : decode cc_Re_gain 13 = .ok (.ifCond .ne 6, 3) := by decide +kernel
theorem dd_Re_gain_16 : decode cc_Re_gain 16 = .ok (.ldc 139, 2) := by decide +kernel
theorem dd_Re_gain_18 : decode cc_Re_gain 18 = .ok (.ireturn, 1) := by decide +kernel
theorem dd_Re_gain_19 : decode cc_Re_gain 19 = .ok (.aload_n 0, 1) := by decide +kernel
theorem dd_Re_gain_20 : decode cc_Re_gain 20 = .ok (.invokevirtual 129, 3) := by decide +kernel
theorem dd_Re_gain_23 : decode cc_Re_gain 23 = .ok (.aload_n 0, 1) := by decide +kernel
theorem dd_Re_gain_24 : decode cc_Re_gain 24 = .ok (.iload_n 1, 1) := by decide +kernel
theorem dd_Re_gain_25 : decode cc_Re_gain 25 = .ok (.iload_n 2, 1) := by decide +kernel
theorem dd_Re_gain_26 : decode cc_Re_gain 26 = .ok (.invokevirtual 140, 3) := by decide +kernel
theorem dd_Re_gain_29 : decode cc_Re_gain 29 = .ok (.l2i, 1) := by decide +kernel
theorem dd_Re_gain_30 : decode cc_Re_gain 30 = .ok (.ireturn, 1) := by decide +kernel
theorem dd_Re_pass_0 : decode cc_Re_pass 0 = .ok (.aload_n 0, 1) := by decide +kernel
theorem dd_Re_pass_1 : decode cc_Re_pass 1 = .ok (.invokevirtual 136, 3) := by decide +kernel
theorem dd_Re_pass_4 : decode cc_Re_pass 4 = .ok (.lstore_n 1, 1) := by decide +kernel
theorem dd_Re_pass_5 : decode cc_Re_pass 5 = .ok (.aload_n 0, 1) := by decide +kernel
theorem dd_Re_pass_6 : decode cc_Re_pass 6 = .ok (.invokevirtual 132, 3) := by decide +kernel
theorem dd_Re_pass_9 : decode cc_Re_pass 9 = .ok (.lstore_n 3, 1) := by decide +kernel
theorem dd_Re_pass_10 : decode cc_Re_pass 10 = .ok (.lload_n 1, 1) := by decide +kernel
theorem dd_Re_pass_11 : decode cc_Re_pass 11 = .ok (.lstore 5, 2) := by decide +kernel
theorem dd_Re_pass_13 : decode cc_Re_pass 13 = .ok (.lload_n 3, 1) := by decide +kernel
theorem dd_Re_pass_14 : decode cc_Re_pass 14 = .ok (.lstore 7, 2) := by decide +kernel
theorem dd_Re_pass_16 : decode cc_Re_pass 16 = .ok (.iconst 0, 1) := by decide +kernel
theorem dd_Re_pass_17 : decode cc_Re_pass 17 = .ok (.istore 9, 2) := by decide +kernel
theorem dd_Re_pass_19 : decode cc_Re_pass 19 = .ok (.iload 9, 2) := by decide +kernel
theorem dd_Re_pass_21 : decode cc_Re_pass 21 = .ok (.aload_n 0, 1) := by decide +kernel
theorem dd_Re_pass_22 : decode cc_Re_pass 22 = .ok (.getfield 106, 3) := by decide +kernel
theorem dd_Re_pass_25 : decode cc_Re_pass 25 = .ok (.if_icmp .ge 31, 3) := by decide +kernel
theorem dd_Re_pass_28 : decode cc_Re_pass 28 = .ok (.aload_n 0, 1) := by decide +kernel
theorem dd_Re_pass_29 : decode cc_Re_pass 29 = .ok (.getfield 41, 3) := by decide +kernel
theorem dd_Re_pass_32 : decode cc_Re_pass 32 = .ok (.iload 9, 2) := by decide +kernel
theorem dd_Re_pass_34 : decode cc_Re_pass 34 = .ok (.iconst 1, 1) := by decide +kernel
theorem dd_Re_pass_35 : decode cc_Re_pass 35 = .ok (.bastore, 1) := by decide +kernel
theorem dd_Re_pass_36 : decode cc_Re_pass 36 = .ok (.aload_n 0, 1) := by decide +kernel
theorem dd_Re_pass_37 : decode cc_Re_pass 37 = .ok (.getfield 45, 3) := by decide +kernel
theorem dd_Re_pass_40 : decode cc_Re_pass 40 = .ok (.iload 9, 2) := by decide +kernel
theorem dd_Re_pass_42 : decode cc_Re_pass 42 = .ok (.aload_n 0, 1) := by decide +kernel
theorem dd_Re_pass_43 : decode cc_Re_pass 43 = .ok (.getfield 38, 3) := by decide +kernel
theorem dd_Re_pass_46 : decode cc_Re_pass 46 = .ok (.iload 9, 2) := by decide +kernel
theorem dd_Re_pass_48 : decode cc_Re_pass 48 = .ok (.iaload, 1) := by decide +kernel
theorem dd_Re_pass_49 : decode cc_Re_pass 49 = .ok (.iastore, 1) := by decide +kernel
theorem dd_Re_pass_50 : decode cc_Re_pass 50 = .ok (.iinc 9 1, 3) := by decide +kernel
theorem dd_Re_pass_53 : decode cc_Re_pass 53 = .ok (.goto (-34), 3) := by decide +kernel
theorem dd_Re_pass_56 : decode cc_Re_pass 56 = .ok (.iconst 0, 1) := by decide +kernel
theorem dd_Re_pass_57 : decode cc_Re_pass 57 = .ok (.istore 9, 2) := by decide +kernel
theorem dd_Re_pass_59 : decode cc_Re_pass 59 = .ok (.iconst 0, 1) := by decide +kernel
theorem dd_Re_pass_60 : decode cc_Re_pass 60 = .ok (.istore 10, 2) := by decide +kernel
theorem dd_Re_pass_62 : decode cc_Re_pass 62 = .ok (.iload 10, 2) := by decide +kernel
theorem dd_Re_pass_64 : decode cc_Re_pass 64 = .ok (.aload_n 0, 1) := by decide +kernel
theorem dd_Re_pass_65 : decode cc_Re_pass 65 = .ok (.getfield 106, 3) := by decide +kernel
theorem dd_Re_pass_68 : decode cc_Re_pass 68 = .ok (.if_icmp .ge 288, 3) := by decide +kernel
theorem dd_Re_pass_71 : decode cc_Re_pass 71 = .ok (.iconst (-1), 1) := by decide +kernel
theorem dd_Re_pass_72 : decode cc_Re_pass 72 = .ok (.istore 11, 2) := by decide +kernel
theorem dd_Re_pass_74 : decode cc_Re_pass 74 = .ok (.iconst 0, 1) := by decide +kernel
theorem dd_Re_pass_75 : decode cc_Re_pass 75 = .ok (.istore 12, 2) := by decide +kernel
theorem dd_Re_pass_77 : decode cc_Re_pass 77 = .ok (.lconst 0, 1) := by decide +kernel
theorem dd_Re_pass_78 : decode cc_Re_pass 78 = .ok (.lstore 13, 2) := by decide +kernel
theorem dd_Re_pass_80 : decode cc_Re_pass 80 = .ok (.lconst 0, 1) := by decide +kernel
theorem dd_Re_pass_81 : decode cc_Re_pass 81 = .ok (.lstore 15, 2) := by decide +kernel
theorem dd_Re_pass_83 : decode cc_Re_pass 83 = .ok (.iconst 0, 1) := by decide +kernel
theorem dd_Re_pass_84 : decode cc_Re_pass 84 = .ok (.istore 17, 2) := by decide +kernel
theorem dd_Re_pass_86 : decode cc_Re_pass 86 = .ok (.iload 17, 2) := by decide +kernel
theorem dd_Re_pass_88 : decode cc_Re_pass 88 = .ok (.aload_n 0, 1) := by decide +kernel
theorem dd_Re_pass_89 : decode cc_Re_pass 89 = .ok (.getfield 106, 3) := by decide +kernel
theorem dd_Re_pass_92 : decode cc_Re_pass 92 = .ok (.if_icmp .ge 160, 3) := by decide +kernel
theorem dd_Re_pass_95 : decode cc_Re_pass 95 = .ok (.aload_n 0, 1) := by decide +kernel
theorem dd_Re_pass_96 : decode cc_Re_pass 96 = .ok (.getfield 38, 3) := by decide +kernel
theorem dd_Re_pass_99 : decode cc_Re_pass 99 = .ok (.iload 17, 2) := by decide +kernel
theorem dd_Re_pass_101 : decode cc_Re_pass 101 = .ok (.iaload, 1) := by decide +kernel
theorem dd_Re_pass_102 : decode cc_Re_pass 102 = .ok (.istore 18, 2) := by decide +kernel
theorem dd_Re_pass_104 : decode cc_Re_pass 104 = .ok (.iconst 0, 1) := by decide +kernel
theorem dd_Re_pass_105 : decode cc_Re_pass 105 = .ok (.istore 19, 2) := by decide +kernel
theorem dd_Re_pass_107 : decode cc_Re_pass 107 = .ok (.iload 19, 2) := by decide +kernel
theorem dd_Re_pass_109 : decode cc_Re_pass 109 = .ok (.aload_n 0, 1) := by decide +kernel
theorem dd_Re_pass_110 : decode cc_Re_pass 110 = .ok (.getfield 80, 3) := by decide +kernel
theorem dd_Re_pass_113 : decode cc_Re_pass 113 = .ok (.if_icmp .ge 133, 3) := by decide +kernel
theorem dd_Re_pass_116 : decode cc_Re_pass 116 = .ok (.aload_n 0, 1) := by decide +kernel
theorem dd_Re_pass_117 : decode cc_Re_pass 117 = .ok (.getfield 41, 3) := by decide +kernel
theorem dd_Re_pass_120 : decode cc_Re_pass 120 = .ok (.iload 17, 2) := by decide +kernel
theorem dd_Re_pass_122 : decode cc_Re_pass 122 = .ok (.baload, 1) := by decide +kernel
theorem dd_Re_pass_123 : decode cc_Re_pass 123 = .ok (.ifCond .eq 123, 3) := by decide +kernel
theorem dd_Re_pass_126 : decode cc_Re_pass 126 = .ok (.iload 19, 2) := by decide +kernel
theorem dd_Re_pass_128 : decode cc_Re_pass 128 = .ok (.iload 18, 2) := by decide +kernel
theorem dd_Re_pass_130 : decode cc_Re_pass 130 = .ok (.if_icmp .ne 6, 3) := by decide +kernel
theorem dd_Re_pass_133 : decode cc_Re_pass 133 = .ok (.goto 107, 3) := by decide +kernel
theorem dd_Re_pass_136 : decode cc_Re_pass 136 = .ok (.aload_n 0, 1) := by decide +kernel
theorem dd_Re_pass_137 : decode cc_Re_pass 137 = .ok (.iload 17, 2) := by decide +kernel
theorem dd_Re_pass_139 : decode cc_Re_pass 139 = .ok (.iload 19, 2) := by decide +kernel
theorem dd_Re_pass_141 : decode cc_Re_pass 141 = .ok (.invokevirtual 140, 3) := by decide +kernel
theorem dd_Re_pass_144 : decode cc_Re_pass 144 = .ok (.lstore 20, 2) := by decide +kernel
theorem dd_Re_pass_146 : decode cc_Re_pass 146 = .ok (.aload_n 0, 1) := by decide +kernel
theorem dd_Re_pass_147 : decode cc_Re_pass 147 = .ok (.getfield 38, 3) := by decide +kernel
theorem dd_Re_pass_150 : decode cc_Re_pass 150 = .ok (.iload 17, 2) := by decide +kernel
theorem dd_Re_pass_152 : decode cc_Re_pass 152 = .ok (.iload 19, 2) := by decide +kernel
theorem dd_Re_pass_154 : decode cc_Re_pass 154 = .ok (.iastore, 1) := by decide +kernel
theorem dd_Re_pass_155 : decode cc_Re_pass 155 = .ok (.aload_n 0, 1) := by decide +kernel
theorem dd_Re_pass_156 : decode cc_Re_pass 156 = .ok (.invokevirtual 136, 3) := by decide +kernel
theorem dd_Re_pass_159 : decode cc_Re_pass 159 = .ok (.lstore 22, 2) := by decide +kernel
theorem dd_Re_pass_161 : decode cc_Re_pass 161 = .ok (.aload_n 0, 1) := by decide +kernel
theorem dd_Re_pass_162 : decode cc_Re_pass 162 = .ok (.getfield 38, 3) := by decide +kernel
theorem dd_Re_pass_165 : decode cc_Re_pass 165 = .ok (.iload 17, 2) := by decide +kernel
theorem dd_Re_pass_167 : decode cc_Re_pass 167 = .ok (.iload 18, 2) := by decide +kernel
theorem dd_Re_pass_169 : decode cc_Re_pass 169 = .ok (.iastore, 1) := by decide +kernel
theorem dd_Re_pass_170 : decode cc_Re_pass 170 = .ok (.lload 22, 2) := by decide +kernel
theorem dd_Re_pass_172 : decode cc_Re_pass 172 = .ok (.lload_n 1, 1) := by decide +kernel
theorem dd_Re_pass_173 : decode cc_Re_pass 173 = .ok (.lcmp, 1) := by decide +kernel
theorem dd_Re_pass_174 : decode cc_Re_pass 174 = .ok (.ifCond .le 6, 3) := by decide +kernel
theorem dd_Re_pass_177 : decode cc_Re_pass 177 = .ok (.goto 63, 3) := by decide +kernel
theorem dd_Re_pass_180 : decode cc_Re_pass 180 = .ok (.iload 11, 2) := by decide +kernel
theorem dd_Re_pass_182 : decode cc_Re_pass 182 = .ok (.ifCond .lt 27, 3) := by decide +kernel
theorem dd_Re_pass_185 : decode cc_Re_pass 185 = .ok (.lload 22, 2) := by decide +kernel
theorem dd_Re_pass_187 : decode cc_Re_pass 187 = .ok (.lload 13, 2) := by decide +kernel
theorem dd_Re_pass_189 : decode cc_Re_pass 189 = .ok (.lcmp, 1) := by decide +kernel
theorem dd_Re_pass_190 : decode cc_Re_pass 190 = .ok (.ifCond .lt 19, 3) := by decide +kernel
theorem dd_Re_pass_193 : decode cc_Re_pass 193 = .ok (.lload 22, 2) := by decide +kernel
theorem dd_Re_pass_195 : decode cc_Re_pass 195 = .ok (.lload 13, 2) := by decide +kernel
theorem dd_Re_pass_197 : decode cc_Re_pass 197 = .ok (.lcmp, 1) := by decide +kernel
theorem dd_Re_pass_198 : decode cc_Re_pass 198 = .ok (.ifCond .ne 15, 3) := by decide +kernel
theorem dd_Re_pass_201 : decode cc_Re_pass 201 = .ok (.lload 20, 2) := by decide +kernel
theorem dd_Re_pass_203 : decode cc_Re_pass 203 = .ok (.lload 15, 2) := by decide +kernel
theorem dd_Re_pass_205 : decode cc_Re_pass 205 = .ok (.lcmp, 1) := by decide +kernel
theorem dd_Re_pass_206 : decode cc_Re_pass 206 = .ok (.ifCond .le 7, 3) := by decide +kernel
theorem dd_Re_pass_209 : decode cc_Re_pass 209 = .ok (.iconst 1, 1) := by decide +kernel
theorem dd_Re_pass_210 : decode cc_Re_pass 210 = .ok (.goto 4, 3) := by decide +kernel
theorem dd_Re_pass_213 : decode cc_Re_pass 213 = .ok (.iconst 0, 1) := by decide +kernel
theorem dd_Re_pass_214 : decode cc_Re_pass 214 = .ok (.istore 24, 2) := by decide +kernel
theorem dd_Re_pass_216 : decode cc_Re_pass 216 = .ok (.iload 24, 2) := by decide +kernel
theorem dd_Re_pass_218 : decode cc_Re_pass 218 = .ok (.ifCond .ne 6, 3) := by decide +kernel
theorem dd_Re_pass_221 : decode cc_Re_pass 221 = .ok (.goto 19, 3) := by decide +kernel
theorem dd_Re_pass_224 : decode cc_Re_pass 224 = .ok (.iload 17, 2) := by decide +kernel
theorem dd_Re_pass_226 : decode cc_Re_pass 226 = .ok (.istore 11, 2) := by decide +kernel
theorem dd_Re_pass_228 : decode cc_Re_pass 228 = .ok (.iload 19, 2) := by decide +kernel
theorem dd_Re_pass_230 : decode cc_Re_pass 230 = .ok (.istore 12, 2) := by decide +kernel
theorem dd_Re_pass_232 : decode cc_Re_pass 232 = .ok (.lload 22, 2) := by decide +kernel
theorem dd_Re_pass_234 : decode cc_Re_pass 234 = .ok (.lstore 13, 2) := by decide +kernel
theorem dd_Re_pass_236 : decode cc_Re_pass 236 = .ok (.lload 20, 2) := by decide +kernel
theorem dd_Re_pass_238 : decode cc_Re_pass 238 = .ok (.lstore 15, 2) := by decide +kernel
theorem dd_Re_pass_240 : decode cc_Re_pass 240 = .ok (.iinc 19 1, 3) := by decide +kernel
theorem dd_Re_pass_243 : decode cc_Re_pass 243 = .ok (.goto (-136), 3) := by decide +kernel
theorem dd_Re_pass_246 : decode cc_Re_pass 246 = .ok (.iinc 17 1, 3) := by decide +kernel
theorem dd_Re_pass_249 : decode cc_Re_pass 249 = .ok (.goto (-163), 3) := by decide +kernel
theorem dd_Re_pass_252 : decode cc_Re_pass 252 = .ok (.iload 11, 2) := by decide +kernel
theorem dd_Re_pass_254 : decode cc_Re_pass 254 = .ok (.ifCond .ge 6, 3) := by decide +kernel
theorem dd_Re_pass_257 : decode cc_Re_pass 257 = .ok (.goto 99, 3) := by decide +kernel
theorem dd_Re_pass_260 : decode cc_Re_pass 260 = .ok (.aload_n 0, 1) := by decide +kernel
theorem dd_Re_pass_261 : decode cc_Re_pass 261 = .ok (.getfield 38, 3) := by decide +kernel
theorem dd_Re_pass_264 : decode cc_Re_pass 264 = .ok (.iload 11, 2) := by decide +kernel
theorem dd_Re_pass_266 : decode cc_Re_pass 266 = .ok (.iload 12, 2) := by decide +kernel
theorem dd_Re_pass_268 : decode cc_Re_pass 268 = .ok (.iastore, 1) := by decide +kernel
theorem dd_Re_pass_269 : decode cc_Re_pass 269 = .ok (.aload_n 0, 1) := by decide +kernel
theorem dd_Re_pass_270 : decode cc_Re_pass 270 = .ok (.getfield 41, 3) := by decide +kernel
theorem dd_Re_pass_273 : decode cc_Re_pass 273 = .ok (.iload 11, 2) := by decide +kernel
theorem dd_Re_pass_275 : decode cc_Re_pass 275 = .ok (.iconst 0, 1) := by decide +kernel
theorem dd_Re_pass_276 : decode cc_Re_pass 276 = .ok (.bastore, 1) := by decide +kernel
theorem dd_Re_pass_277 : decode cc_Re_pass 277 = .ok (.lload 13, 2) := by decide +kernel
theorem dd_Re_pass_279 : decode cc_Re_pass 279 = .ok (.lstore_n 1, 1) := by decide +kernel
theorem dd_Re_pass_280 : decode cc_Re_pass 280 = .ok (.lload_n 3, 1) := by decide +kernel
theorem dd_Re_pass_281 : decode cc_Re_pass 281 = .ok (.lload 15, 2) := by decide +kernel
theorem dd_Re_pass_283 : decode cc_Re_pass 283 = .ok (.lsub, 1) := by decide +kernel
theorem dd_Re_pass_284 : decode cc_Re_pass 284 = .ok (.lstore_n 3, 1) := by decide +kernel
theorem dd_Re_pass_285 : decode cc_Re_pass 285 = .ok (.lload_n 1, 1) := by decide +kernel
theorem dd_Re_pass_286 : decode cc_Re_pass 286 = .ok (.lload 5, 2) := by decide +kernel
theorem dd_Re_pass_288 : decode cc_Re_pass 288 = .ok (.lcmp, 1) := by decide +kernel
theorem dd_Re_pass_289 : decode cc_Re_pass 289 = .ok (.ifCond .gt 61, 3) := by decide +kernel
theorem dd_Re_pass_292 : decode cc_Re_pass 292 = .ok (.lload_n 1, 1) := by decide +kernel
theorem dd_Re_pass_293 : decode cc_Re_pass 293 = .ok (.lload 5, 2) := by decide +kernel
theorem dd_Re_pass_295 : decode cc_Re_pass 295 = .ok (.lcmp, 1) := by decide +kernel
theorem dd_Re_pass_296 : decode cc_Re_pass 296 = .ok (.ifCond .ne 13, 3) := by decide +kernel
theorem dd_Re_pass_299 : decode cc_Re_pass 299 = .ok (.lload_n 3, 1) := by decide +kernel
theorem dd_Re_pass_300 : decode cc_Re_pass 300 = .ok (.lload 7, 2) := by decide +kernel
theorem dd_Re_pass_302 : decode cc_Re_pass 302 = .ok (.lcmp, 1) := by decide +kernel
theorem dd_Re_pass_303 : decode cc_Re_pass 303 = .ok (.ifCond .lt 6, 3) := by decide +kernel
theorem dd_Re_pass_306 : decode cc_Re_pass 306 = .ok (.goto 44, 3) := by decide +kernel
theorem dd_Re_pass_309 : decode cc_Re_pass 309 = .ok (.iconst 1, 1) := by decide +kernel
theorem dd_Re_pass_310 : decode cc_Re_pass 310 = .ok (.istore 9, 2) := by decide +kernel
theorem dd_Re_pass_312 : decode cc_Re_pass 312 = .ok (.lload_n 1, 1) := by decide +kernel
theorem dd_Re_pass_313 : decode cc_Re_pass 313 = .ok (.lstore 5, 2) := by decide +kernel
theorem dd_Re_pass_315 : decode cc_Re_pass 315 = .ok (.lload_n 3, 1) := by decide +kernel
theorem dd_Re_pass_316 : decode cc_Re_pass 316 = .ok (.lstore 7, 2) := by decide +kernel
theorem dd_Re_pass_318 : decode cc_Re_pass 318 = .ok (.iconst 0, 1) := by decide +kernel
theorem dd_Re_pass_319 : decode cc_Re_pass 319 = .ok (.istore 17, 2) := by decide +kernel
theorem dd_Re_pass_321 : decode cc_Re_pass 321 = .ok (.iload 17, 2) := by decide +kernel
theorem dd_Re_pass_323 : decode cc_Re_pass 323 = .ok (.aload_n 0, 1) := by decide +kernel
theorem dd_Re_pass_324 : decode cc_Re_pass 324 = .ok (.getfield 106, 3) := by decide +kernel
theorem dd_Re_pass_327 : decode cc_Re_pass 327 = .ok (.if_icmp .ge 23, 3) := by decide +kernel
theorem dd_Re_pass_330 : decode cc_Re_pass 330 = .ok (.aload_n 0, 1) := by decide +kernel
theorem dd_Re_pass_331 : decode cc_Re_pass 331 = .ok (.getfield 45, 3) := by decide +kernel
theorem dd_Re_pass_334 : decode cc_Re_pass 334 = .ok (.iload 17, 2) := by decide +kernel
theorem dd_Re_pass_336 : decode cc_Re_pass 336 = .ok (.aload_n 0, 1) := by decide +kernel
theorem dd_Re_pass_337 : decode cc_Re_pass 337 = .ok (.getfield 38, 3) := by decide +kernel
theorem dd_Re_pass_340 : decode cc_Re_pass 340 = .ok (.iload 17, 2) := by decide +kernel
theorem dd_Re_pass_342 : decode cc_Re_pass 342 = .ok (.iaload, 1) := by decide +kernel
theorem dd_Re_pass_343 : decode cc_Re_pass 343 = .ok (.iastore, 1) := by decide +kernel
theorem dd_Re_pass_344 : decode cc_Re_pass 344 = .ok (.iinc 17 1, 3) := by decide +kernel
theorem dd_Re_pass_347 : decode cc_Re_pass 347 = .ok (.goto (-26), 3) := by decide +kernel
theorem dd_Re_pass_350 : decode cc_Re_pass 350 = .ok (.iinc 10 1, 3) := by decide +kernel
theorem dd_Re_pass_353 : decode cc_Re_pass 353 = .ok (.goto (-291), 3) := by decide +kernel
theorem dd_Re_pass_356 : decode cc_Re_pass 356 = .ok (.iconst 0, 1) := by decide +kernel
theorem dd_Re_pass_357 : decode cc_Re_pass 357 = .ok (.istore 10, 2) := by decide +kernel
theorem dd_Re_pass_359 : decode cc_Re_pass 359 = .ok (.iload 10, 2) := by decide +kernel
theorem dd_Re_pass_361 : decode cc_Re_pass 361 = .ok (.aload_n 0, 1) := by decide +kernel
theorem dd_Re_pass_362 : decode cc_Re_pass 362 = .ok (.getfield 106, 3) := by decide +kernel
theorem dd_Re_pass_365 : decode cc_Re_pass 365 = .ok (.if_icmp .ge 23, 3) := by decide +kernel
theorem dd_Re_pass_368 : decode cc_Re_pass 368 = .ok (.aload_n 0, 1) := by decide +kernel
theorem dd_Re_pass_369 : decode cc_Re_pass 369 = .ok (.getfield 38, 3) := by decide +kernel
theorem dd_Re_pass_372 : decode cc_Re_pass 372 = .ok (.iload 10, 2) := by decide +kernel
theorem dd_Re_pass_374 : decode cc_Re_pass 374 = .ok (.aload_n 0, 1) := by decide +kernel
theorem dd_Re_pass_375 : decode cc_Re_pass 375 = .ok (.getfield 45, 3) := by decide +kernel
theorem dd_Re_pass_378 : decode cc_Re_pass 378 = .ok (.iload 10, 2) := by decide +kernel
theorem dd_Re_pass_380 : decode cc_Re_pass 380 = .ok (.iaload, 1) := by decide +kernel
theorem dd_Re_pass_381 : decode cc_Re_pass 381 = .ok (.iastore, 1) := by decide +kernel
theorem dd_Re_pass_382 : decode cc_Re_pass 382 = .ok (.iinc 10 1, 3) := by decide +kernel
theorem dd_Re_pass_385 : decode cc_Re_pass 385 = .ok (.goto (-26), 3) := by decide +kernel
theorem dd_Re_pass_388 : decode cc_Re_pass 388 = .ok (.iload 9, 2) := by decide +kernel
theorem dd_Re_pass_390 : decode cc_Re_pass 390 = .ok (.ireturn, 1) := by decide +kernel
theorem dd_Re_passes_0 : decode cc_Re_passes 0 = .ok (.iconst 0, 1) := by decide +kernel
theorem dd_Re_passes_1 : decode cc_Re_passes 1 = .ok (.istore_n 1, 1) := by decide +kernel
theorem dd_Re_passes_2 : decode cc_Re_passes 2 = .ok (.iload_n 1, 1) := by decide +kernel
theorem dd_Re_passes_3 : decode cc_Re_passes 3 = .ok (.bipush 8, 2) := by decide +kernel
theorem dd_Re_passes_5 : decode cc_Re_passes 5 = .ok (.if_icmp .ge 16, 3) := by decide +kernel
theorem dd_Re_passes_8 : decode cc_Re_passes 8 = .ok (.aload_n 0, 1) := by decide +kernel
theorem dd_Re_passes_9 : decode cc_Re_passes 9 = .ok (.invokevirtual 144, 3) := by decide +kernel
theorem dd_Re_passes_12 : decode cc_Re_passes 12 = .ok (.ifCond .eq 9, 3) := by decide +kernel
theorem dd_Re_passes_15 : decode cc_Re_passes 15 = .ok (.iinc 1 1, 3) := by decide +kernel
theorem dd_Re_passes_18 : decode cc_Re_passes 18 = .ok (.goto (-16), 3) := by decide +kernel
theorem dd_Re_passes_21 : decode cc_Re_passes 21 = .ok (.iload_n 1, 1) := by decide +kernel
theorem dd_Re_passes_22 : decode cc_Re_passes 22 = .ok (.ireturn, 1) := by decide +kernel
theorem dd_Re_grows_0 : decode cc_Re_grows 0 = .ok (.iconst 0, 1) := by decide +kernel
theorem dd_Re_grows_1 : decode cc_Re_grows 1 = .ok (.istore_n 1, 1) := by decide +kernel
theorem dd_Re_grows_2 : decode cc_Re_grows 2 = .ok (.iload_n 1, 1) := by decide +kernel
theorem dd_Re_grows_3 : decode cc_Re_grows 3 = .ok (.aload_n 0, 1) := by decide +kernel
theorem dd_Re_grows_4 : decode cc_Re_grows 4 = .ok (.getfield 106, 3) := by decide +kernel
theorem dd_Re_grows_7 : decode cc_Re_grows 7 = .ok (.if_icmp .ge 23, 3) := by decide +kernel
theorem dd_Re_grows_10 : decode cc_Re_grows 10 = .ok (.aload_n 0, 1) := by decide +kernel
theorem dd_Re_grows_11 : decode cc_Re_grows 11 = .ok (.getfield 41, 3) := by decide +kernel
theorem dd_Re_grows_14 : decode cc_Re_grows 14 = .ok (.iload_n 1, 1) := by decide +kernel
theorem dd_Re_grows_15 : decode cc_Re_grows 15 = .ok (.iconst 1, 1) := by decide +kernel
theorem dd_Re_grows_16 : decode cc_Re_grows 16 = .ok (.bastore, 1) := by decide +kernel
theorem dd_Re_grows_17 : decode cc_Re_grows 17 = .ok (.aload_n 0, 1) := by decide +kernel
theorem dd_Re_grows_18 : decode cc_Re_grows 18 = .ok (.getfield 38, 3) := by decide +kernel
theorem dd_Re_grows_21 : decode cc_Re_grows 21 = .ok (.iload_n 1, 1) := by decide +kernel
theorem dd_Re_grows_22 : decode cc_Re_grows 22 = .ok (.iconst (-1), 1) := by decide +kernel
theorem dd_Re_grows_23 : decode cc_Re_grows 23 = .ok (.iastore, 1) := by decide +kernel
theorem dd_Re_grows_24 : decode cc_Re_grows 24 = .ok (.iinc 1 1, 3) := by decide +kernel
theorem dd_Re_grows_27 : decode cc_Re_grows 27 = .ok (.goto (-25), 3) := by decide +kernel
theorem dd_Re_grows_30 : decode cc_Re_grows 30 = .ok (.iconst 0, 1) := by decide +kernel
theorem dd_Re_grows_31 : decode cc_Re_grows 31 = .ok (.istore_n 1, 1) := by decide +kernel
theorem dd_Re_grows_32 : decode cc_Re_grows 32 = .ok (.iload_n 1, 1) := by decide +kernel
theorem dd_Re_grows_33 : decode cc_Re_grows 33 = .ok (.aload_n 0, 1) := by decide +kernel
theorem dd_Re_grows_34 : decode cc_Re_grows 34 = .ok (.getfield 106, 3) := by decide +kernel
theorem dd_Re_grows_37 : decode cc_Re_grows 37 = .ok (.if_icmp .ge 124, 3) := by decide +kernel
theorem dd_Re_grows_40 : decode cc_Re_grows 40 = .ok (.iconst (-1), 1) := by decide +kernel
theorem dd_Re_grows_41 : decode cc_Re_grows 41 = .ok (.istore_n 2, 1) := by decide +kernel
theorem dd_Re_grows_42 : decode cc_Re_grows 42 = .ok (.iconst 0, 1) := by decide +kernel
theorem dd_Re_grows_43 : decode cc_Re_grows 43 = .ok (.istore_n 3, 1) := by decide +kernel
theorem dd_Re_grows_44 : decode cc_Re_grows 44 = .ok (.iload_n 3, 1) := by decide +kernel
theorem dd_Re_grows_45 : decode cc_Re_grows 45 = .ok (.aload_n 0, 1) := by decide +kernel
theorem dd_Re_grows_46 : decode cc_Re_grows 46 = .ok (.getfield 106, 3) := by decide +kernel
theorem dd_Re_grows_49 : decode cc_Re_grows 49 = .ok (.if_icmp .ge 37, 3) := by decide +kernel
theorem dd_Re_grows_52 : decode cc_Re_grows 52 = .ok (.aload_n 0, 1) := by decide +kernel
theorem dd_Re_grows_53 : decode cc_Re_grows 53 = .ok (.getfield 41, 3) := by decide +kernel
theorem dd_Re_grows_56 : decode cc_Re_grows 56 = .ok (.iload_n 3, 1) := by decide +kernel
theorem dd_Re_grows_57 : decode cc_Re_grows 57 = .ok (.baload, 1) := by decide +kernel
theorem dd_Re_grows_58 : decode cc_Re_grows 58 = .ok (.ifCond .eq 22, 3) := by decide +kernel
theorem dd_Re_grows_61 : decode cc_Re_grows 61 = .ok (.iload_n 2, 1) := by decide +kernel
theorem dd_Re_grows_62 : decode cc_Re_grows 62 = .ok (.ifCond .lt 16, 3) := by decide +kernel
theorem dd_Re_grows_65 : decode cc_Re_grows 65 = .ok (.aload_n 0, 1) := by decide +kernel
theorem dd_Re_grows_66 : decode cc_Re_grows 66 = .ok (.iload_n 3, 1) := by decide +kernel
theorem dd_Re_grows_67 : decode cc_Re_grows 67 = .ok (.invokevirtual 112, 3) := by decide +kernel
theorem dd_Re_grows_70 : decode cc_Re_grows 70 = .ok (.aload_n 0, 1) := by decide +kernel
theorem dd_Re_grows_71 : decode cc_Re_grows 71 = .ok (.iload_n 2, 1) := by decide +kernel
theorem dd_Re_grows_72 : decode cc_Re_grows 72 = .ok (.invokevirtual 112, 3) := by decide +kernel
theorem dd_Re_grows_75 : decode cc_Re_grows 75 = .ok (.if_icmp .le 5, 3) := by decide +kernel
theorem dd_Re_grows_78 : decode cc_Re_grows 78 = .ok (.iload_n 3, 1) := by decide +kernel
theorem dd_Re_grows_79 : decode cc_Re_grows 79 = .ok (.istore_n 2, 1) := by decide +kernel
theorem dd_Re_grows_80 : decode cc_Re_grows 80 = .ok (.iinc 3 1, 3) := by decide +kernel
theorem dd_Re_grows_83 : decode cc_Re_grows 83 = .ok (.goto (-39), 3) := by decide +kernel
theorem dd_Re_grows_86 : decode cc_Re_grows 86 = .ok (.iconst 0, 1) := by decide +kernel
theorem dd_Re_grows_87 : decode cc_Re_grows 87 = .ok (.istore_n 3, 1) := by decide +kernel
theorem dd_Re_grows_88 : decode cc_Re_grows 88 = .ok (.iconst 1, 1) := by decide +kernel
theorem dd_Re_grows_89 : decode cc_Re_grows 89 = .ok (.istore 4, 2) := by decide +kernel
theorem dd_Re_grows_91 : decode cc_Re_grows 91 = .ok (.iload 4, 2) := by decide +kernel
theorem dd_Re_grows_93 : decode cc_Re_grows 93 = .ok (.aload_n 0, 1) := by decide +kernel
theorem dd_Re_grows_94 : decode cc_Re_grows 94 = .ok (.getfield 80, 3) := by decide +kernel
theorem dd_Re_grows_97 : decode cc_Re_grows 97 = .ok (.if_icmp .ge 44, 3) := by decide +kernel
theorem dd_Re_grows_100 : decode cc_Re_grows 100 = .ok (.aload_n 0, 1) := by decide +kernel
theorem dd_Re_grows_101 : decode cc_Re_grows 101 = .ok (.getfield 22, 3) := by decide +kernel
theorem dd_Re_grows_104 : decode cc_Re_grows 104 = .ok (.iload 4, 2) := by decide +kernel
theorem dd_Re_grows_106 : decode cc_Re_grows 106 = .ok (.iaload, 1) := by decide +kernel
theorem dd_Re_grows_107 : decode cc_Re_grows 107 = .ok (.i2l, 1) := by decide +kernel
theorem dd_Re_grows_108 : decode cc_Re_grows 108 = .ok (.aload_n 0, 1) := by decide +kernel
theorem dd_Re_grows_109 : decode cc_Re_grows 109 = .ok (.iload 4, 2) := by decide +kernel
theorem dd_Re_grows_111 : decode cc_Re_grows 111 = .ok (.invokevirtual 115, 3) := by decide +kernel
theorem dd_Re_grows_114 : decode cc_Re_grows 114 = .ok (.lsub, 1) := by decide +kernel
theorem dd_Re_grows_115 : decode cc_Re_grows 115 = .ok (.aload_n 0, 1) := by decide +kernel
theorem dd_Re_grows_116 : decode cc_Re_grows 116 = .ok (.getfield 22, 3) := by decide +kernel
theorem dd_Re_grows_119 : decode cc_Re_grows 119 = .ok (.iload_n 3, 1) := by decide +kernel
theorem dd_Re_grows_120 : decode cc_Re_grows 120 = .ok (.iaload, 1) := by decide +kernel
theorem dd_Re_grows_121 : decode cc_Re_grows 121 = .ok (.i2l, 1) := by decide +kernel
theorem dd_Re_grows_122 : decode cc_Re_grows 122 = .ok (.aload_n 0, 1) := by decide +kernel
theorem dd_Re_grows_123 : decode cc_Re_grows 123 = .ok (.iload_n 3, 1) := by decide +kernel
theorem dd_Re_grows_124 : decode cc_Re_grows 124 = .ok (.invokevirtual 115, 3) := by decide +kernel
theorem dd_Re_grows_127 : decode cc_Re_grows 127 = .ok (.lsub, 1) := by decide +kernel
theorem dd_Re_grows_128 : decode cc_Re_grows 128 = .ok (.lcmp, 1) := by decide +kernel
theorem dd_Re_grows_129 : decode cc_Re_grows 129 = .ok (.ifCond .le 6, 3) := by decide +kernel
theorem dd_Re_grows_132 : decode cc_Re_grows 132 = .ok (.iload 4, 2) := by decide +kernel
theorem dd_Re_grows_134 : decode cc_Re_grows 134 = .ok (.istore_n 3, 1) := by decide +kernel
theorem dd_Re_grows_135 : decode cc_Re_grows 135 = .ok (.iinc 4 1, 3) := by decide +kernel
theorem dd_Re_grows_138 : decode cc_Re_grows 138 = .ok (.goto (-47), 3) := by decide +kernel
theorem dd_Re_grows_141 : decode cc_Re_grows 141 = .ok (.aload_n 0, 1) := by decide +kernel
theorem dd_Re_grows_142 : decode cc_Re_grows 142 = .ok (.getfield 38, 3) := by decide +kernel
theorem dd_Re_grows_145 : decode cc_Re_grows 145 = .ok (.iload_n 2, 1) := by decide +kernel
theorem dd_Re_grows_146 : decode cc_Re_grows 146 = .ok (.iload_n 3, 1) := by decide +kernel
theorem dd_Re_grows_147 : decode cc_Re_grows 147 = .ok (.iastore, 1) := by decide +kernel
theorem dd_Re_grows_148 : decode cc_Re_grows 148 = .ok (.aload_n 0, 1) := by decide +kernel
theorem dd_Re_grows_149 : decode cc_Re_grows 149 = .ok (.getfield 41, 3) := by decide +kernel
theorem dd_Re_grows_152 : decode cc_Re_grows 152 = .ok (.iload_n 2, 1) := by decide +kernel
theorem dd_Re_grows_153 : decode cc_Re_grows 153 = .ok (.iconst 0, 1) := by decide +kernel
theorem dd_Re_grows_154 : decode cc_Re_grows 154 = .ok (.bastore, 1) := by decide +kernel
theorem dd_Re_grows_155 : decode cc_Re_grows 155 = .ok (.iinc 1 1, 3) := by decide +kernel
theorem dd_Re_grows_158 : decode cc_Re_grows 158 = .ok (.goto (-126), 3) := by decide +kernel
theorem dd_Re_grows_161 : decode cc_Re_grows 161 = .ok (.return_, 1) := by decide +kernel
theorem dd_Re_tries_0 : decode cc_Re_tries 0 = .ok (.iconst 0, 1) := by decide +kernel
theorem dd_Re_tries_1 : decode cc_Re_tries 1 = .ok (.istore_n 1, 1) := by decide +kernel
theorem dd_Re_tries_2 : decode cc_Re_tries 2 = .ok (.iload_n 1, 1) := by decide +kernel
theorem dd_Re_tries_3 : decode cc_Re_tries 3 = .ok (.aload_n 0, 1) := by decide +kernel
theorem dd_Re_tries_4 : decode cc_Re_tries 4 = .ok (.getfield 106, 3) := by decide +kernel
theorem dd_Re_tries_7 : decode cc_Re_tries 7 = .ok (.if_icmp .ge 16, 3) := by decide +kernel
theorem dd_Re_tries_10 : decode cc_Re_tries 10 = .ok (.aload_n 0, 1) := by decide +kernel
theorem dd_Re_tries_11 : decode cc_Re_tries 11 = .ok (.getfield 38, 3) := by decide +kernel
theorem dd_Re_tries_14 : decode cc_Re_tries 14 = .ok (.iload_n 1, 1) := by decide +kernel
theorem dd_Re_tries_15 : decode cc_Re_tries 15 = .ok (.iconst 0, 1) := by decide +kernel
theorem dd_Re_tries_16 : decode cc_Re_tries 16 = .ok (.iastore, 1) := by decide +kernel
theorem dd_Re_tries_17 : decode cc_Re_tries 17 = .ok (.iinc 1 1, 3) := by decide +kernel
theorem dd_Re_tries_20 : decode cc_Re_tries 20 = .ok (.goto (-18), 3) := by decide +kernel
theorem dd_Re_tries_23 : decode cc_Re_tries 23 = .ok (.ldc2_w 104, 3) := by decide +kernel
theorem dd_Re_tries_26 : decode cc_Re_tries 26 = .ok (.lstore_n 1, 1) := by decide +kernel
theorem dd_Re_tries_27 : decode cc_Re_tries 27 = .ok (.lconst 0, 1) := by decide +kernel
theorem dd_Re_tries_28 : decode cc_Re_tries 28 = .ok (.lstore_n 3, 1) := by decide +kernel
theorem dd_Re_tries_29 : decode cc_Re_tries 29 = .ok (.iconst 1, 1) := by decide +kernel
theorem dd_Re_tries_30 : decode cc_Re_tries 30 = .ok (.istore 5, 2) := by decide +kernel
theorem dd_Re_tries_32 : decode cc_Re_tries 32 = .ok (.iload 5, 2) := by decide +kernel
theorem dd_Re_tries_34 : decode cc_Re_tries 34 = .ok (.ifCond .eq 171, 3) := by decide +kernel
theorem dd_Re_tries_37 : decode cc_Re_tries 37 = .ok (.aload_n 0, 1) := by decide +kernel
theorem dd_Re_tries_38 : decode cc_Re_tries 38 = .ok (.invokevirtual 136, 3) := by decide +kernel
theorem dd_Re_tries_41 : decode cc_Re_tries 41 = .ok (.lstore 6, 2) := by decide +kernel
theorem dd_Re_tries_43 : decode cc_Re_tries 43 = .ok (.lload_n 1, 1) := by decide +kernel
theorem dd_Re_tries_44 : decode cc_Re_tries 44 = .ok (.lconst 0, 1) := by decide +kernel
theorem dd_Re_tries_45 : decode cc_Re_tries 45 = .ok (.lcmp, 1) := by decide +kernel
theorem dd_Re_tries_46 : decode cc_Re_tries 46 = .ok (.ifCond .lt 10, 3) := by decide +kernel
theorem dd_Re_tries_49 : decode cc_Re_tries 49 = .ok (.lload 6, 2) := by decide +kernel
theorem dd_Re_tries_51 : decode cc_Re_tries 51 = .ok (.lload_n 1, 1) := by decide +kernel
theorem dd_Re_tries_52 : decode cc_Re_tries 52 = .ok (.lcmp, 1) := by decide +kernel
theorem dd_Re_tries_53 : decode cc_Re_tries 53 = .ok (.ifCond .gt 10, 3) := by decide +kernel
theorem dd_Re_tries_56 : decode cc_Re_tries 56 = .ok (.aload_n 0, 1) := by decide +kernel
theorem dd_Re_tries_57 : decode cc_Re_tries 57 = .ok (.invokevirtual 132, 3) := by decide +kernel
theorem dd_Re_tries_60 : decode cc_Re_tries 60 = .ok (.goto 4, 3) := by decide +kernel
theorem dd_Re_tries_63 : decode cc_Re_tries 63 = .ok (.lconst 0, 1) := by decide +kernel
theorem dd_Re_tries_64 : decode cc_Re_tries 64 = .ok (.lstore 8, 2) := by decide +kernel
theorem dd_Re_tries_66 : decode cc_Re_tries 66 = .ok (.lload_n 1, 1) := by decide +kernel
theorem dd_Re_tries_67 : decode cc_Re_tries 67 = .ok (.lconst 0, 1) := by decide +kernel
theorem dd_Re_tries_68 : decode cc_Re_tries 68 = .ok (.lcmp, 1) := by decide +kernel
theorem dd_Re_tries_69 : decode cc_Re_tries 69 = .ok (.ifCond .lt 24, 3) := by decide +kernel
theorem dd_Re_tries_72 : decode cc_Re_tries 72 = .ok (.lload 6, 2) := by decide +kernel
theorem dd_Re_tries_74 : decode cc_Re_tries 74 = .ok (.lload_n 1, 1) := by decide +kernel
theorem dd_Re_tries_75 : decode cc_Re_tries 75 = .ok (.lcmp, 1) := by decide +kernel
theorem dd_Re_tries_76 : decode cc_Re_tries 76 = .ok (.ifCond .lt 17, 3) := by decide +kernel
theorem dd_Re_tries_79 : decode cc_Re_tries 79 = .ok (.lload 6, 2) := by decide +kernel
theorem dd_Re_tries_81 : decode cc_Re_tries 81 = .ok (.lload_n 1, 1) := by decide +kernel
theorem dd_Re_tries_82 : decode cc_Re_tries 82 = .ok (.lcmp, 1) := by decide +kernel
theorem dd_Re_tries_83 : decode cc_Re_tries 83 = .ok (.ifCond .ne 48, 3) := by decide +kernel
theorem dd_Re_tries_86 : decode cc_Re_tries 86 = .ok (.lload 8, 2) := by decide +kernel
theorem dd_Re_tries_88 : decode cc_Re_tries 88 = .ok (.lload_n 3, 1) := by decide +kernel
theorem dd_Re_tries_89 : decode cc_Re_tries 89 = .ok (.lcmp, 1) := by decide +kernel
theorem dd_Re_tries_90 : decode cc_Re_tries 90 = .ok (.ifCond .ge 41, 3) := by decide +kernel
theorem dd_Re_tries_93 : decode cc_Re_tries 93 = .ok (.lload 6, 2) := by decide +kernel
theorem dd_Re_tries_95 : decode cc_Re_tries 95 = .ok (.lstore_n 1, 1) := by decide +kernel
theorem dd_Re_tries_96 : decode cc_Re_tries 96 = .ok (.lload 8, 2) := by decide +kernel
theorem dd_Re_tries_98 : decode cc_Re_tries 98 = .ok (.lstore_n 3, 1) := by decide +kernel
theorem dd_Re_tries_99 : decode cc_Re_tries 99 = .ok (.iconst 0, 1) := by decide +kernel
theorem dd_Re_tries_100 : decode cc_Re_tries 100 = .ok (.istore 10, 2) := by decide +kernel
theorem dd_Re_tries_102 : decode cc_Re_tries 102 = .ok (.iload 10, 2) := by decide +kernel
theorem dd_Re_tries_104 : decode cc_Re_tries 104 = .ok (.aload_n 0, 1) := by decide +kernel
theorem dd_Re_tries_105 : decode cc_Re_tries 105 = .ok (.getfield 106, 3) := by decide +kernel
theorem dd_Re_tries_108 : decode cc_Re_tries 108 = .ok (.if_icmp .ge 23, 3) := by decide +kernel
theorem dd_Re_tries_111 : decode cc_Re_tries 111 = .ok (.aload_n 0, 1) := by decide +kernel
theorem dd_Re_tries_112 : decode cc_Re_tries 112 = .ok (.getfield 45, 3) := by decide +kernel
theorem dd_Re_tries_115 : decode cc_Re_tries 115 = .ok (.iload 10, 2) := by decide +kernel
theorem dd_Re_tries_117 : decode cc_Re_tries 117 = .ok (.aload_n 0, 1) := by decide +kernel
theorem dd_Re_tries_118 : decode cc_Re_tries 118 = .ok (.getfield 38, 3) := by decide +kernel
theorem dd_Re_tries_121 : decode cc_Re_tries 121 = .ok (.iload 10, 2) := by decide +kernel
theorem dd_Re_tries_123 : decode cc_Re_tries 123 = .ok (.iaload, 1) := by decide +kernel
theorem dd_Re_tries_124 : decode cc_Re_tries 124 = .ok (.iastore, 1) := by decide +kernel
theorem dd_Re_tries_125 : decode cc_Re_tries 125 = .ok (.iinc 10 1, 3) := by decide +kernel
theorem dd_Re_tries_128 : decode cc_Re_tries 128 = .ok (.goto (-26), 3) := by decide +kernel
theorem dd_Re_tries_131 : decode cc_Re_tries 131 = .ok (.aload_n 0, 1) := by decide +kernel
theorem dd_Re_tries_132 : decode cc_Re_tries 132 = .ok (.getfield 106, 3) := by decide +kernel
theorem dd_Re_tries_135 : decode cc_Re_tries 135 = .ok (.iconst 1, 1) := by decide +kernel
theorem dd_Re_tries_136 : decode cc_Re_tries 136 = .ok (.isub, 1) := by decide +kernel
theorem dd_Re_tries_137 : decode cc_Re_tries 137 = .ok (.istore 10, 2) := by decide +kernel
theorem dd_Re_tries_139 : decode cc_Re_tries 139 = .ok (.iload 10, 2) := by decide +kernel
theorem dd_Re_tries_141 : decode cc_Re_tries 141 = .ok (.ifCond .lt 33, 3) := by decide +kernel
theorem dd_Re_tries_144 : decode cc_Re_tries 144 = .ok (.aload_n 0, 1) := by decide +kernel
theorem dd_Re_tries_145 : decode cc_Re_tries 145 = .ok (.getfield 38, 3) := by decide +kernel
theorem dd_Re_tries_148 : decode cc_Re_tries 148 = .ok (.iload 10, 2) := by decide +kernel
theorem dd_Re_tries_150 : decode cc_Re_tries 150 = .ok (.iaload, 1) := by decide +kernel
theorem dd_Re_tries_151 : decode cc_Re_tries 151 = .ok (.aload_n 0, 1) := by decide +kernel
theorem dd_Re_tries_152 : decode cc_Re_tries 152 = .ok (.getfield 80, 3) := by decide +kernel
theorem dd_Re_tries_155 : decode cc_Re_tries 155 = .ok (.iconst 1, 1) := by decide +kernel
theorem dd_Re_tries_156 : decode cc_Re_tries 156 = .ok (.isub, 1) := by decide +kernel
theorem dd_Re_tries_157 : decode cc_Re_tries 157 = .ok (.if_icmp .ne 17, 3) := by decide +kernel
theorem dd_Re_tries_160 : decode cc_Re_tries 160 = .ok (.aload_n 0, 1) := by decide +kernel
theorem dd_Re_tries_161 : decode cc_Re_tries 161 = .ok (.getfield 38, 3) := by decide +kernel
theorem dd_Re_tries_164 : decode cc_Re_tries 164 = .ok (.iload 10, 2) := by decide +kernel
theorem dd_Re_tries_166 : decode cc_Re_tries 166 = .ok (.iinc 10 (-1), 3) := by decide +kernel
theorem dd_Re_tries_169 : decode cc_Re_tries 169 = .ok (.iconst 0, 1) := by decide +kernel
theorem dd_Re_tries_170 : decode cc_Re_tries 170 = .ok (.iastore, 1) := by decide +kernel
theorem dd_Re_tries_171 : decode cc_Re_tries 171 = .ok (.goto (-32), 3) := by decide +kernel
theorem dd_Re_tries_174 : decode cc_Re_tries 174 = .ok (.iload 10, 2) := by decide +kernel
theorem dd_Re_tries_176 : decode cc_Re_tries 176 = .ok (.ifCond .lt 7, 3) := by decide +kernel
theorem dd_Re_tries_179 : decode cc_Re_tries 179 = .ok (.iconst 1, 1) := by decide +kernel
theorem dd_Re_tries_180 : decode cc_Re_tries 180 = .ok (.goto 4, 3) := by decide +kernel
theorem dd_Re_tries_183 : decode cc_Re_tries 183 = .ok (.iconst 0, 1) := by decide +kernel
theorem dd_Re_tries_184 : decode cc_Re_tries 184 = .ok (.istore 5, 2) := by decide +kernel
theorem dd_Re_tries_186 : decode cc_Re_tries 186 = .ok (.iload 5, 2) := by decide +kernel
theorem dd_Re_tries_188 : decode cc_Re_tries 188 = .ok (.ifCond .eq 14, 3) := by decide +kernel
theorem dd_Re_tries_191 : decode cc_Re_tries 191 = .ok (.aload_n 0, 1) := by decide +kernel
theorem dd_Re_tries_192 : decode cc_Re_tries 192 = .ok (.getfield 38, 3) := by decide +kernel
theorem dd_Re_tries_195 : decode cc_Re_tries 195 = .ok (.iload 10, 2) := by decide +kernel
theorem dd_Re_tries_197 : decode cc_Re_tries 197 = .ok (.dup2, 1) := by decide +kernel
theorem dd_Re_tries_198 : decode cc_Re_tries 198 = .ok (.iaload, 1) := by decide +kernel
theorem dd_Re_tries_199 : decode cc_Re_tries 199 = .ok (.iconst 1, 1) := by decide +kernel
theorem dd_Re_tries_200 : decode cc_Re_tries 200 = .ok (.iadd, 1) := by decide +kernel
theorem dd_Re_tries_201 : decode cc_Re_tries 201 = .ok (.iastore, 1) := by decide +kernel
theorem dd_Re_tries_202 : decode cc_Re_tries 202 = .ok (.goto (-170), 3) := by decide +kernel
theorem dd_Re_tries_205 : decode cc_Re_tries 205 = .ok (.iconst 0, 1) := by decide +kernel
theorem dd_Re_tries_206 : decode cc_Re_tries 206 = .ok (.istore 6, 2) := by decide +kernel
theorem dd_Re_tries_208 : decode cc_Re_tries 208 = .ok (.iload 6, 2) := by decide +kernel
theorem dd_Re_tries_210 : decode cc_Re_tries 210 = .ok (.aload_n 0, 1) := by decide +kernel
theorem dd_Re_tries_211 : decode cc_Re_tries 211 = .ok (.getfield 106, 3) := by decide +kernel
theorem dd_Re_tries_214 : decode cc_Re_tries 214 = .ok (.if_icmp .ge 23, 3) := by decide +kernel
theorem dd_Re_tries_217 : decode cc_Re_tries 217 = .ok (.aload_n 0, 1) := by decide +kernel
theorem dd_Re_tries_218 : decode cc_Re_tries 218 = .ok (.getfield 38, 3) := by decide +kernel
theorem dd_Re_tries_221 : decode cc_Re_tries 221 = .ok (.iload 6, 2) := by decide +kernel
theorem dd_Re_tries_223 : decode cc_Re_tries 223 = .ok (.aload_n 0, 1) := by decide +kernel
theorem dd_Re_tries_224 : decode cc_Re_tries 224 = .ok (.getfield 45, 3) := by decide +kernel
theorem dd_Re_tries_227 : decode cc_Re_tries 227 = .ok (.iload 6, 2) := by decide +kernel
theorem dd_Re_tries_229 : decode cc_Re_tries 229 = .ok (.iaload, 1) := by decide +kernel
theorem dd_Re_tries_230 : decode cc_Re_tries 230 = .ok (.iastore, 1) := by decide +kernel
theorem dd_Re_tries_231 : decode cc_Re_tries 231 = .ok (.iinc 6 1, 3) := by decide +kernel
theorem dd_Re_tries_234 : decode cc_Re_tries 234 = .ok (.goto (-26), 3) := by decide +kernel
theorem dd_Re_tries_237 : decode cc_Re_tries 237 = .ok (.return_, 1) := by decide +kernel
theorem dd_Re_told_0 : decode cc_Re_told 0 = .ok (.aload_n 0, 1) := by decide +kernel
theorem dd_Re_told_1 : decode cc_Re_told 1 = .ok (.invokevirtual 136, 3) := by decide +kernel
theorem dd_Re_told_4 : decode cc_Re_told 4 = .ok (.lstore_n 1, 1) := by decide +kernel
theorem dd_Re_told_5 : decode cc_Re_told 5 = .ok (.lload_n 1, 1) := by decide +kernel
theorem dd_Re_told_6 : decode cc_Re_told 6 = .ok (.lconst 0, 1) := by decide +kernel
theorem dd_Re_told_7 : decode cc_Re_told 7 = .ok (.lcmp, 1) := by decide +kernel
theorem dd_Re_told_8 : decode cc_Re_told 8 = .ok (.ifCond .ne 11, 3) := by decide +kernel
theorem dd_Re_told_11 : decode cc_Re_told 11 = .ok (.aload_n 0, 1) := by decide +kernel
theorem dd_Re_told_12 : decode cc_Re_told 12 = .ok (.invokevirtual 132, 3) := by decide +kernel
theorem dd_Re_told_15 : decode cc_Re_told 15 = .ok (.l2i, 1) := by decide +kernel
theorem dd_Re_told_16 : decode cc_Re_told 16 = .ok (.goto 9, 3) := by decide +kernel
theorem dd_Re_told_19 : decode cc_Re_told 19 = .ok (.ldc2_w 148, 3) := by decide +kernel
theorem dd_Re_told_22 : decode cc_Re_told 22 = .ok (.lload_n 1, 1) := by decide +kernel
theorem dd_Re_told_23 : decode cc_Re_told 23 = .ok (.lsub, 1) := by decide +kernel
theorem dd_Re_told_24 : decode cc_Re_told 24 = .ok (.l2i, 1) := by decide +kernel
theorem dd_Re_told_25 : decode cc_Re_told 25 = .ok (.ireturn, 1) := by decide +kernel
theorem dd_Re_run_0 : decode cc_Re_run 0 = .ok (.aload_n 0, 1) := by decide +kernel
theorem dd_Re_run_1 : decode cc_Re_run 1 = .ok (.invokevirtual 101, 3) := by decide +kernel
theorem dd_Re_run_4 : decode cc_Re_run 4 = .ok (.aload_n 0, 1) := by decide +kernel
theorem dd_Re_run_5 : decode cc_Re_run 5 = .ok (.aload_n 0, 1) := by decide +kernel
theorem dd_Re_run_6 : decode cc_Re_run 6 = .ok (.getfield 91, 3) := by decide +kernel
theorem dd_Re_run_9 : decode cc_Re_run 9 = .ok (.iconst 1, 1) := by decide +kernel
theorem dd_Re_run_10 : decode cc_Re_run 10 = .ok (.isub, 1) := by decide +kernel
theorem dd_Re_run_11 : decode cc_Re_run 11 = .ok (.invokevirtual 123, 3) := by decide +kernel
theorem dd_Re_run_14 : decode cc_Re_run 14 = .ok (.aload_n 0, 1) := by decide +kernel
theorem dd_Re_run_15 : decode cc_Re_run 15 = .ok (.getfield 106, 3) := by decide +kernel
theorem dd_Re_run_18 : decode cc_Re_run 18 = .ok (.bipush 6, 2) := by decide +kernel
theorem dd_Re_run_20 : decode cc_Re_run 20 = .ok (.if_icmp .gt 10, 3) := by decide +kernel
theorem dd_Re_run_23 : decode cc_Re_run 23 = .ok (.aload_n 0, 1) := by decide +kernel
theorem dd_Re_run_24 : decode cc_Re_run 24 = .ok (.invokevirtual 150, 3) := by decide +kernel
theorem dd_Re_run_27 : decode cc_Re_run 27 = .ok (.goto 7, 3) := by decide +kernel
theorem dd_Re_run_30 : decode cc_Re_run 30 = .ok (.aload_n 0, 1) := by decide +kernel
theorem dd_Re_run_31 : decode cc_Re_run 31 = .ok (.invokevirtual 153, 3) := by decide +kernel
theorem dd_Re_run_34 : decode cc_Re_run 34 = .ok (.aload_n 0, 1) := by decide +kernel
theorem dd_Re_run_35 : decode cc_Re_run 35 = .ok (.invokevirtual 156, 3) := by decide +kernel
theorem dd_Re_run_38 : decode cc_Re_run 38 = .ok (.pop, 1) := by decide +kernel
theorem dd_Re_run_39 : decode cc_Re_run 39 = .ok (.aload_n 0, 1) := by decide +kernel
theorem dd_Re_run_40 : decode cc_Re_run 40 = .ok (.getfield 91, 3) := by decide +kernel
theorem dd_Re_run_43 : decode cc_Re_run 43 = .ok (.iconst 2, 1) := by decide +kernel
theorem dd_Re_run_44 : decode cc_Re_run 44 = .ok (.isub, 1) := by decide +kernel
theorem dd_Re_run_45 : decode cc_Re_run 45 = .ok (.istore_n 1, 1) := by decide +kernel
theorem dd_Re_run_46 : decode cc_Re_run 46 = .ok (.iload_n 1, 1) := by decide +kernel
theorem dd_Re_run_47 : decode cc_Re_run 47 = .ok (.ifCond .lt 85, 3) := by decide +kernel
theorem dd_Re_run_50 : decode cc_Re_run 50 = .ok (.aload_n 0, 1) := by decide +kernel
theorem dd_Re_run_51 : decode cc_Re_run 51 = .ok (.iload_n 1, 1) := by decide +kernel
theorem dd_Re_run_52 : decode cc_Re_run 52 = .ok (.invokevirtual 123, 3) := by decide +kernel
theorem dd_Re_run_55 : decode cc_Re_run 55 = .ok (.iconst 0, 1) := by decide +kernel
theorem dd_Re_run_56 : decode cc_Re_run 56 = .ok (.istore_n 2, 1) := by decide +kernel
theorem dd_Re_run_57 : decode cc_Re_run 57 = .ok (.iload_n 2, 1) := by decide +kernel
theorem dd_Re_run_58 : decode cc_Re_run 58 = .ok (.aload_n 0, 1) := by decide +kernel
theorem dd_Re_run_59 : decode cc_Re_run 59 = .ok (.getfield 106, 3) := by decide +kernel
theorem dd_Re_run_62 : decode cc_Re_run 62 = .ok (.if_icmp .ge 31, 3) := by decide +kernel
theorem dd_Re_run_65 : decode cc_Re_run 65 = .ok (.aload_n 0, 1) := by decide +kernel
theorem dd_Re_run_66 : decode cc_Re_run 66 = .ok (.getfield 48, 3) := by decide +kernel
theorem dd_Re_run_69 : decode cc_Re_run 69 = .ok (.iload_n 2, 1) := by decide +kernel
theorem dd_Re_run_70 : decode cc_Re_run 70 = .ok (.aload_n 0, 1) := by decide +kernel
theorem dd_Re_run_71 : decode cc_Re_run 71 = .ok (.getfield 38, 3) := by decide +kernel
theorem dd_Re_run_74 : decode cc_Re_run 74 = .ok (.aload_n 0, 1) := by decide +kernel
theorem dd_Re_run_75 : decode cc_Re_run 75 = .ok (.getfield 35, 3) := by decide +kernel
theorem dd_Re_run_78 : decode cc_Re_run 78 = .ok (.bipush 40, 2) := by decide +kernel
theorem dd_Re_run_80 : decode cc_Re_run 80 = .ok (.iload_n 1, 1) := by decide +kernel
theorem dd_Re_run_81 : decode cc_Re_run 81 = .ok (.imul, 1) := by decide +kernel
theorem dd_Re_run_82 : decode cc_Re_run 82 = .ok (.iload_n 2, 1) := by decide +kernel
theorem dd_Re_run_83 : decode cc_Re_run 83 = .ok (.iadd, 1) := by decide +kernel
theorem dd_Re_run_84 : decode cc_Re_run 84 = .ok (.iaload, 1) := by decide +kernel
theorem dd_Re_run_85 : decode cc_Re_run 85 = .ok (.iaload, 1) := by decide +kernel
theorem dd_Re_run_86 : decode cc_Re_run 86 = .ok (.iastore, 1) := by decide +kernel
theorem dd_Re_run_87 : decode cc_Re_run 87 = .ok (.iinc 2 1, 3) := by decide +kernel
theorem dd_Re_run_90 : decode cc_Re_run 90 = .ok (.goto (-33), 3) := by decide +kernel
theorem dd_Re_run_93 : decode cc_Re_run 93 = .ok (.iconst 0, 1) := by decide +kernel
theorem dd_Re_run_94 : decode cc_Re_run 94 = .ok (.istore_n 2, 1) := by decide +kernel
theorem dd_Re_run_95 : decode cc_Re_run 95 = .ok (.iload_n 2, 1) := by decide +kernel
theorem dd_Re_run_96 : decode cc_Re_run 96 = .ok (.aload_n 0, 1) := by decide +kernel
theorem dd_Re_run_97 : decode cc_Re_run 97 = .ok (.getfield 106, 3) := by decide +kernel
theorem dd_Re_run_100 : decode cc_Re_run 100 = .ok (.if_icmp .ge 21, 3) := by decide +kernel
theorem dd_Re_run_103 : decode cc_Re_run 103 = .ok (.aload_n 0, 1) := by decide +kernel
theorem dd_Re_run_104 : decode cc_Re_run 104 = .ok (.getfield 38, 3) := by decide +kernel
theorem dd_Re_run_107 : decode cc_Re_run 107 = .ok (.iload_n 2, 1) := by decide +kernel
theorem dd_Re_run_108 : decode cc_Re_run 108 = .ok (.aload_n 0, 1) := by decide +kernel
theorem dd_Re_run_109 : decode cc_Re_run 109 = .ok (.getfield 48, 3) := by decide +kernel
theorem dd_Re_run_112 : decode cc_Re_run 112 = .ok (.iload_n 2, 1) := by decide +kernel
theorem dd_Re_run_113 : decode cc_Re_run 113 = .ok (.iaload, 1) := by decide +kernel
theorem dd_Re_run_114 : decode cc_Re_run 114 = .ok (.iastore, 1) := by decide +kernel
theorem dd_Re_run_115 : decode cc_Re_run 115 = .ok (.iinc 2 1, 3) := by decide +kernel
theorem dd_Re_run_118 : decode cc_Re_run 118 = .ok (.goto (-23), 3) := by decide +kernel
theorem dd_Re_run_121 : decode cc_Re_run 121 = .ok (.aload_n 0, 1) := by decide +kernel
theorem dd_Re_run_122 : decode cc_Re_run 122 = .ok (.invokevirtual 156, 3) := by decide +kernel
theorem dd_Re_run_125 : decode cc_Re_run 125 = .ok (.pop, 1) := by decide +kernel
theorem dd_Re_run_126 : decode cc_Re_run 126 = .ok (.iinc 1 (-1), 3) := by decide +kernel
theorem dd_Re_run_129 : decode cc_Re_run 129 = .ok (.goto (-83), 3) := by decide +kernel
theorem dd_Re_run_132 : decode cc_Re_run 132 = .ok (.aload_n 0, 1) := by decide +kernel
theorem dd_Re_run_133 : decode cc_Re_run 133 = .ok (.invokevirtual 159, 3) := by decide +kernel
theorem dd_Re_run_136 : decode cc_Re_run 136 = .ok (.aload_n 0, 1) := by decide +kernel
theorem dd_Re_run_137 : decode cc_Re_run 137 = .ok (.invokevirtual 162, 3) := by decide +kernel
theorem dd_Re_run_140 : decode cc_Re_run 140 = .ok (.ireturn, 1) := by decide +kernel
theorem dd_Re_refine_0 : decode cc_Re_refine 0 = .ok (.aload_n 0, 1) := by decide +kernel
theorem dd_Re_refine_1 : decode cc_Re_refine 1 = .ok (.invokevirtual 129, 3) := by decide +kernel
theorem dd_Re_refine_4 : decode cc_Re_refine 4 = .ok (.aload_n 0, 1) := by decide +kernel
theorem dd_Re_refine_5 : decode cc_Re_refine 5 = .ok (.invokevirtual 156, 3) := by decide +kernel
theorem dd_Re_refine_8 : decode cc_Re_refine 8 = .ok (.istore_n 1, 1) := by decide +kernel
theorem dd_Re_refine_9 : decode cc_Re_refine 9 = .ok (.aload_n 0, 1) := by decide +kernel
theorem dd_Re_refine_10 : decode cc_Re_refine 10 = .ok (.invokevirtual 159, 3) := by decide +kernel
theorem dd_Re_refine_13 : decode cc_Re_refine 13 = .ok (.iload_n 1, 1) := by decide +kernel
theorem dd_Re_refine_14 : decode cc_Re_refine 14 = .ok (.ireturn, 1) := by decide +kernel
theorem dd_Re_grow_0 : decode cc_Re_grow 0 = .ok (.aload_n 0, 1) := by decide +kernel
theorem dd_Re_grow_1 : decode cc_Re_grow 1 = .ok (.invokevirtual 129, 3) := by decide +kernel
theorem dd_Re_grow_4 : decode cc_Re_grow 4 = .ok (.aload_n 0, 1) := by decide +kernel
theorem dd_Re_grow_5 : decode cc_Re_grow 5 = .ok (.invokevirtual 153, 3) := by decide +kernel
theorem dd_Re_grow_8 : decode cc_Re_grow 8 = .ok (.aload_n 0, 1) := by decide +kernel
theorem dd_Re_grow_9 : decode cc_Re_grow 9 = .ok (.invokevirtual 159, 3) := by decide +kernel
theorem dd_Re_grow_12 : decode cc_Re_grow 12 = .ok (.aload_n 0, 1) := by decide +kernel
theorem dd_Re_grow_13 : decode cc_Re_grow 13 = .ok (.invokevirtual 132, 3) := by decide +kernel
theorem dd_Re_grow_16 : decode cc_Re_grow 16 = .ok (.l2i, 1) := by decide +kernel
theorem dd_Re_grow_17 : decode cc_Re_grow 17 = .ok (.ireturn, 1) := by decide +kernel
theorem dd_Re_makeOrder_0 : decode cc_Re_makeOrder 0 = .ok (.iload_n 1, 1) := by decide +kernel
theorem dd_Re_makeOrder_1 : decode cc_Re_makeOrder 1 = .ok (.istore_n 2, 1) := by decide +kernel
theorem dd_Re_makeOrder_2 : decode cc_Re_makeOrder 2 = .ok (.iconst 0, 1) := by decide +kernel
theorem dd_Re_makeOrder_3 : decode cc_Re_makeOrder 3 = .ok (.istore_n 3, 1) := by decide +kernel
theorem dd_Re_makeOrder_4 : decode cc_Re_makeOrder 4 = .ok (.iload_n 3, 1) := by decide +kernel
theorem dd_Re_makeOrder_5 : decode cc_Re_makeOrder 5 = .ok (.aload_n 0, 1) := by decide +kernel
theorem dd_Re_makeOrder_6 : decode cc_Re_makeOrder 6 = .ok (.getfield 67, 3) := by decide +kernel
theorem dd_Re_makeOrder_9 : decode cc_Re_makeOrder 9 = .ok (.if_icmp .ge 16, 3) := by decide +kernel
theorem dd_Re_makeOrder_12 : decode cc_Re_makeOrder 12 = .ok (.aload_n 0, 1) := by decide +kernel
theorem dd_Re_makeOrder_13 : decode cc_Re_makeOrder 13 = .ok (.getfield 48, 3) := by decide +kernel
theorem dd_Re_makeOrder_16 : decode cc_Re_makeOrder 16 = .ok (.iload_n 3, 1) := by decide +kernel
theorem dd_Re_makeOrder_17 : decode cc_Re_makeOrder 17 = .ok (.iload_n 3, 1) := by decide +kernel
theorem dd_Re_makeOrder_18 : decode cc_Re_makeOrder 18 = .ok (.iastore, 1) := by decide +kernel
theorem dd_Re_makeOrder_19 : decode cc_Re_makeOrder 19 = .ok (.iinc 3 1, 3) := by decide +kernel
theorem dd_Re_makeOrder_22 : decode cc_Re_makeOrder 22 = .ok (.goto (-18), 3) := by decide +kernel
theorem dd_Re_makeOrder_25 : decode cc_Re_makeOrder 25 = .ok (.iconst 0, 1) := by decide +kernel
theorem dd_Re_makeOrder_26 : decode cc_Re_makeOrder 26 = .ok (.istore_n 3, 1) := by decide +kernel
theorem dd_Re_makeOrder_27 : decode cc_Re_makeOrder 27 = .ok (.iload_n 3, 1) := by decide +kernel
theorem dd_Re_makeOrder_28 : decode cc_Re_makeOrder 28 = .ok (.aload_n 0, 1) := by decide +kernel
theorem dd_Re_makeOrder_29 : decode cc_Re_makeOrder 29 = .ok (.getfield 67, 3) := by decide +kernel
theorem dd_Re_makeOrder_32 : decode cc_Re_makeOrder 32 = .ok (.if_icmp .ge 87, 3) := by decide +kernel
theorem dd_Re_makeOrder_35 : decode cc_Re_makeOrder 35 = .ok (.iload_n 2, 1) := by decide +kernel
theorem dd_Re_makeOrder_36 : decode cc_Re_makeOrder 36 = .ok (.ldc 165, 2) := by decide +kernel
theorem dd_Re_makeOrder_38 : decode cc_Re_makeOrder 38 = .ok (.imul, 1) := by decide +kernel
theorem dd_Re_makeOrder_39 : decode cc_Re_makeOrder 39 = .ok (.sipush 12345, 3) := by decide +kernel
theorem dd_Re_makeOrder_42 : decode cc_Re_makeOrder 42 = .ok (.iadd, 1) := by decide +kernel
theorem dd_Re_makeOrder_43 : decode cc_Re_makeOrder 43 = .ok (.istore_n 2, 1) := by decide +kernel
theorem dd_Re_makeOrder_44 : decode cc_Re_makeOrder 44 = .ok (.aload_n 0, 1) := by decide +kernel
theorem dd_Re_makeOrder_45 : decode cc_Re_makeOrder 45 = .ok (.getfield 67, 3) := by decide +kernel
theorem dd_Re_makeOrder_48 : decode cc_Re_makeOrder 48 = .ok (.iload_n 3, 1) := by decide +kernel
theorem dd_Re_makeOrder_49 : decode cc_Re_makeOrder 49 = .ok (.isub, 1) := by decide +kernel
theorem dd_Re_makeOrder_50 : decode cc_Re_makeOrder 50 = .ok (.istore 4, 2) := by decide +kernel
theorem dd_Re_makeOrder_52 : decode cc_Re_makeOrder 52 = .ok (.iload_n 2, 1) := by decide +kernel
theorem dd_Re_makeOrder_53 : decode cc_Re_makeOrder 53 = .ok (.bipush 16, 2) := by decide +kernel
theorem dd_Re_makeOrder_55 : decode cc_Re_makeOrder 55 = .ok (.iushr, 1) := by decide +kernel
theorem dd_Re_makeOrder_56 : decode cc_Re_makeOrder 56 = .ok (.sipush 32767, 3) := by decide +kernel
theorem dd_Re_makeOrder_59 : decode cc_Re_makeOrder 59 = .ok (.iand, 1) := by decide +kernel
theorem dd_Re_makeOrder_60 : decode cc_Re_makeOrder 60 = .ok (.iload 4, 2) := by decide +kernel
theorem dd_Re_makeOrder_62 : decode cc_Re_makeOrder 62 = .ok (.irem, 1) := by decide +kernel
theorem dd_Re_makeOrder_63 : decode cc_Re_makeOrder 63 = .ok (.istore 5, 2) := by decide +kernel
theorem dd_Re_makeOrder_65 : decode cc_Re_makeOrder 65 = .ok (.aload_n 0, 1) := by decide +kernel
theorem dd_Re_makeOrder_66 : decode cc_Re_makeOrder 66 = .ok (.getfield 51, 3) := by decide +kernel
theorem dd_Re_makeOrder_69 : decode cc_Re_makeOrder 69 = .ok (.iload_n 3, 1) := by decide +kernel
theorem dd_Re_makeOrder_70 : decode cc_Re_makeOrder 70 = .ok (.aload_n 0, 1) := by decide +kernel
theorem dd_Re_makeOrder_71 : decode cc_Re_makeOrder 71 = .ok (.getfield 48, 3) := by decide +kernel
theorem dd_Re_makeOrder_74 : decode cc_Re_makeOrder 74 = .ok (.iload 5, 2) := by decide +kernel
theorem dd_Re_makeOrder_76 : decode cc_Re_makeOrder 76 = .ok (.iaload, 1) := by decide +kernel
theorem dd_Re_makeOrder_77 : decode cc_Re_makeOrder 77 = .ok (.iastore, 1) := by decide +kernel
theorem dd_Re_makeOrder_78 : decode cc_Re_makeOrder 78 = .ok (.iload 5, 2) := by decide +kernel
theorem dd_Re_makeOrder_80 : decode cc_Re_makeOrder 80 = .ok (.istore 6, 2) := by decide +kernel
theorem dd_Re_makeOrder_82 : decode cc_Re_makeOrder 82 = .ok (.iload 6, 2) := by decide +kernel
theorem dd_Re_makeOrder_84 : decode cc_Re_makeOrder 84 = .ok (.iload 4, 2) := by decide +kernel
theorem dd_Re_makeOrder_86 : decode cc_Re_makeOrder 86 = .ok (.iconst 1, 1) := by decide +kernel
theorem dd_Re_makeOrder_87 : decode cc_Re_makeOrder 87 = .ok (.isub, 1) := by decide +kernel
theorem dd_Re_makeOrder_88 : decode cc_Re_makeOrder 88 = .ok (.if_icmp .ge 25, 3) := by decide +kernel
theorem dd_Re_makeOrder_91 : decode cc_Re_makeOrder 91 = .ok (.aload_n 0, 1) := by decide +kernel
theorem dd_Re_makeOrder_92 : decode cc_Re_makeOrder 92 = .ok (.getfield 48, 3) := by decide +kernel
theorem dd_Re_makeOrder_95 : decode cc_Re_makeOrder 95 = .ok (.iload 6, 2) := by decide +kernel
theorem dd_Re_makeOrder_97 : decode cc_Re_makeOrder 97 = .ok (.aload_n 0, 1) := by decide +kernel
theorem dd_Re_makeOrder_98 : decode cc_Re_makeOrder 98 = .ok (.getfield 48, 3) := by decide +kernel
theorem dd_Re_makeOrder_101 : decode cc_Re_makeOrder 101 = .ok (.iload 6, 2) := by decide +kernel
theorem dd_Re_makeOrder_103 : decode cc_Re_makeOrder 103 = .ok (.iconst 1, 1) := by decide +kernel
theorem dd_Re_makeOrder_104 : decode cc_Re_makeOrder 104 = .ok (.iadd, 1) := by decide +kernel
theorem dd_Re_makeOrder_105 : decode cc_Re_makeOrder 105 = .ok (.iaload, 1) := by decide +kernel
theorem dd_Re_makeOrder_106 : decode cc_Re_makeOrder 106 = .ok (.iastore, 1) := by decide +kernel
theorem dd_Re_makeOrder_107 : decode cc_Re_makeOrder 107 = .ok (.iinc 6 1, 3) := by decide +kernel
theorem dd_Re_makeOrder_110 : decode cc_Re_makeOrder 110 = .ok (.goto (-28), 3) := by decide +kernel
theorem dd_Re_makeOrder_113 : decode cc_Re_makeOrder 113 = .ok (.iinc 3 1, 3) := by decide +kernel
theorem dd_Re_makeOrder_116 : decode cc_Re_makeOrder 116 = .ok (.goto (-89), 3) := by decide +kernel
theorem dd_Re_makeOrder_119 : decode cc_Re_makeOrder 119 = .ok (.return_, 1) := by decide +kernel
theorem dd_Re_order_0 : decode cc_Re_order 0 = .ok (.aload_n 0, 1) := by decide +kernel
theorem dd_Re_order_1 : decode cc_Re_order 1 = .ok (.iload_n 1, 1) := by decide +kernel
theorem dd_Re_order_2 : decode cc_Re_order 2 = .ok (.invokevirtual 166, 3) := by decide +kernel
theorem dd_Re_order_5 : decode cc_Re_order 5 = .ok (.iload_n 2, 1) := by decide +kernel
theorem dd_Re_order_6 : decode cc_Re_order 6 = .ok (.i2l, 1) := by decide +kernel
theorem dd_Re_order_7 : decode cc_Re_order 7 = .ok (.lconst 0, 1) := by decide +kernel
theorem dd_Re_order_8 : decode cc_Re_order 8 = .ok (.aload_n 0, 1) := by decide +kernel
theorem dd_Re_order_9 : decode cc_Re_order 9 = .ok (.getfield 67, 3) := by decide +kernel
theorem dd_Re_order_12 : decode cc_Re_order 12 = .ok (.iconst 1, 1) := by decide +kernel
theorem dd_Re_order_13 : decode cc_Re_order 13 = .ok (.isub, 1) := by decide +kernel
theorem dd_Re_order_14 : decode cc_Re_order 14 = .ok (.i2l, 1) := by decide +kernel
theorem dd_Re_order_15 : decode cc_Re_order 15 = .ok (.invokestatic 63, 3) := by decide +kernel
theorem dd_Re_order_18 : decode cc_Re_order 18 = .ok (.ifCond .eq 12, 3) := by decide +kernel
theorem dd_Re_order_21 : decode cc_Re_order 21 = .ok (.aload_n 0, 1) := by decide +kernel
theorem dd_Re_order_22 : decode cc_Re_order 22 = .ok (.getfield 51, 3) := by decide +kernel
theorem dd_Re_order_25 : decode cc_Re_order 25 = .ok (.iload_n 2, 1) := by decide +kernel
theorem dd_Re_order_26 : decode cc_Re_order 26 = .ok (.iaload, 1) := by decide +kernel
theorem dd_Re_order_27 : decode cc_Re_order 27 = .ok (.goto 5, 3) := by decide +kernel
theorem dd_Re_order_30 : decode cc_Re_order 30 = .ok (.bipush (-2), 2) := by decide +kernel
theorem dd_Re_order_32 : decode cc_Re_order 32 = .ok (.ireturn, 1) := by decide +kernel
theorem dd_Re_stream_0 : decode cc_Re_stream 0 = .ok (.iload_n 2, 1) := by decide +kernel
theorem dd_Re_stream_1 : decode cc_Re_stream 1 = .ok (.i2l, 1) := by decide +kernel
theorem dd_Re_stream_2 : decode cc_Re_stream 2 = .ok (.lconst 0, 1) := by decide +kernel
theorem dd_Re_stream_3 : decode cc_Re_stream 3 = .ok (.ldc2_w 61, 3) := by decide +kernel
theorem dd_Re_stream_6 : decode cc_Re_stream 6 = .ok (.invokestatic 63, 3) := by decide +kernel
theorem dd_Re_stream_9 : decode cc_Re_stream 9 = .ok (.ifCond .ne 5, 3) := by decide +kernel
theorem dd_Re_stream_12 : decode cc_Re_stream 12 = .ok (.iconst (-1), 1) := by decide +kernel
theorem dd_Re_stream_13 : decode cc_Re_stream 13 = .ok (.ireturn, 1) := by decide +kernel
theorem dd_Re_stream_14 : decode cc_Re_stream 14 = .ok (.aload_n 0, 1) := by decide +kernel
theorem dd_Re_stream_15 : decode cc_Re_stream 15 = .ok (.iload_n 1, 1) := by decide +kernel
theorem dd_Re_stream_16 : decode cc_Re_stream 16 = .ok (.invokevirtual 166, 3) := by decide +kernel
theorem dd_Re_stream_19 : decode cc_Re_stream 19 = .ok (.aload_n 0, 1) := by decide +kernel
theorem dd_Re_stream_20 : decode cc_Re_stream 20 = .ok (.invokevirtual 129, 3) := by decide +kernel
theorem dd_Re_stream_23 : decode cc_Re_stream 23 = .ok (.iconst 0, 1) := by decide +kernel
theorem dd_Re_stream_24 : decode cc_Re_stream 24 = .ok (.istore_n 3, 1) := by decide +kernel
theorem dd_Re_stream_25 : decode cc_Re_stream 25 = .ok (.iload_n 3, 1) := by decide +kernel
theorem dd_Re_stream_26 : decode cc_Re_stream 26 = .ok (.aload_n 0, 1) := by decide +kernel
theorem dd_Re_stream_27 : decode cc_Re_stream 27 = .ok (.getfield 67, 3) := by decide +kernel
theorem dd_Re_stream_30 : decode cc_Re_stream 30 = .ok (.if_icmp .ge 16, 3) := by decide +kernel
theorem dd_Re_stream_33 : decode cc_Re_stream 33 = .ok (.aload_n 0, 1) := by decide +kernel
theorem dd_Re_stream_34 : decode cc_Re_stream 34 = .ok (.getfield 38, 3) := by decide +kernel
theorem dd_Re_stream_37 : decode cc_Re_stream 37 = .ok (.iload_n 3, 1) := by decide +kernel
theorem dd_Re_stream_38 : decode cc_Re_stream 38 = .ok (.iconst (-1), 1) := by decide +kernel
theorem dd_Re_stream_39 : decode cc_Re_stream 39 = .ok (.iastore, 1) := by decide +kernel
theorem dd_Re_stream_40 : decode cc_Re_stream 40 = .ok (.iinc 3 1, 3) := by decide +kernel
theorem dd_Re_stream_43 : decode cc_Re_stream 43 = .ok (.goto (-18), 3) := by decide +kernel
theorem dd_Re_stream_46 : decode cc_Re_stream 46 = .ok (.iconst 0, 1) := by decide +kernel
theorem dd_Re_stream_47 : decode cc_Re_stream 47 = .ok (.istore_n 3, 1) := by decide +kernel
theorem dd_Re_stream_48 : decode cc_Re_stream 48 = .ok (.iload_n 3, 1) := by decide +kernel
theorem dd_Re_stream_49 : decode cc_Re_stream 49 = .ok (.aload_n 0, 1) := by decide +kernel
theorem dd_Re_stream_50 : decode cc_Re_stream 50 = .ok (.getfield 67, 3) := by decide +kernel
theorem dd_Re_stream_53 : decode cc_Re_stream 53 = .ok (.if_icmp .ge 215, 3) := by decide +kernel
theorem dd_Re_stream_56 : decode cc_Re_stream 56 = .ok (.aload_n 0, 1) := by decide +kernel
theorem dd_Re_stream_57 : decode cc_Re_stream 57 = .ok (.getfield 51, 3) := by decide +kernel
theorem dd_Re_stream_60 : decode cc_Re_stream 60 = .ok (.iload_n 3, 1) := by decide +kernel
theorem dd_Re_stream_61 : decode cc_Re_stream 61 = .ok (.iaload, 1) := by decide +kernel
theorem dd_Re_stream_62 : decode cc_Re_stream 62 = .ok (.istore 4, 2) := by decide +kernel
theorem dd_Re_stream_64 : decode cc_Re_stream 64 = .ok (.iconst (-1), 1) := by decide +kernel
theorem dd_Re_stream_65 : decode cc_Re_stream 65 = .ok (.istore 5, 2) := by decide +kernel
theorem dd_Re_stream_67 : decode cc_Re_stream 67 = .ok (.lconst 0, 1) := by decide +kernel
theorem dd_Re_stream_68 : decode cc_Re_stream 68 = .ok (.lstore 6, 2) := by decide +kernel
theorem dd_Re_stream_70 : decode cc_Re_stream 70 = .ok (.iconst 0, 1) := by decide +kernel
theorem dd_Re_stream_71 : decode cc_Re_stream 71 = .ok (.istore 8, 2) := by decide +kernel
theorem dd_Re_stream_73 : decode cc_Re_stream 73 = .ok (.iload 8, 2) := by decide +kernel
theorem dd_Re_stream_75 : decode cc_Re_stream 75 = .ok (.aload_n 0, 1) := by decide +kernel
theorem dd_Re_stream_76 : decode cc_Re_stream 76 = .ok (.getfield 80, 3) := by decide +kernel
theorem dd_Re_stream_79 : decode cc_Re_stream 79 = .ok (.if_icmp .ge 128, 3) := by decide +kernel
theorem dd_Re_stream_82 : decode cc_Re_stream 82 = .ok (.aload_n 0, 1) := by decide +kernel
theorem dd_Re_stream_83 : decode cc_Re_stream 83 = .ok (.iload 8, 2) := by decide +kernel
theorem dd_Re_stream_85 : decode cc_Re_stream 85 = .ok (.invokevirtual 115, 3) := by decide +kernel
theorem dd_Re_stream_88 : decode cc_Re_stream 88 = .ok (.lstore 9, 2) := by decide +kernel
theorem dd_Re_stream_90 : decode cc_Re_stream 90 = .ok (.lload 9, 2) := by decide +kernel
theorem dd_Re_stream_92 : decode cc_Re_stream 92 = .ok (.aload_n 0, 1) := by decide +kernel
theorem dd_Re_stream_93 : decode cc_Re_stream 93 = .ok (.getfield 7, 3) := by decide +kernel
theorem dd_Re_stream_96 : decode cc_Re_stream 96 = .ok (.iload 4, 2) := by decide +kernel
theorem dd_Re_stream_98 : decode cc_Re_stream 98 = .ok (.iaload, 1) := by decide +kernel
theorem dd_Re_stream_99 : decode cc_Re_stream 99 = .ok (.i2l, 1) := by decide +kernel
theorem dd_Re_stream_100 : decode cc_Re_stream 100 = .ok (.ladd, 1) := by decide +kernel
theorem dd_Re_stream_101 : decode cc_Re_stream 101 = .ok (.aload_n 0, 1) := by decide +kernel
theorem dd_Re_stream_102 : decode cc_Re_stream 102 = .ok (.getfield 22, 3) := by decide +kernel
theorem dd_Re_stream_105 : decode cc_Re_stream 105 = .ok (.iload 8, 2) := by decide +kernel
theorem dd_Re_stream_107 : decode cc_Re_stream 107 = .ok (.iaload, 1) := by decide +kernel
theorem dd_Re_stream_108 : decode cc_Re_stream 108 = .ok (.i2l, 1) := by decide +kernel
theorem dd_Re_stream_109 : decode cc_Re_stream 109 = .ok (.lcmp, 1) := by decide +kernel
theorem dd_Re_stream_110 : decode cc_Re_stream 110 = .ok (.ifCond .le 6, 3) := by decide +kernel
theorem dd_Re_stream_113 : decode cc_Re_stream 113 = .ok (.goto 88, 3) := by decide +kernel
theorem dd_Re_stream_116 : decode cc_Re_stream 116 = .ok (.iload_n 2, 1) := by decide +kernel
theorem dd_Re_stream_117 : decode cc_Re_stream 117 = .ok (.i2l, 1) := by decide +kernel
theorem dd_Re_stream_118 : decode cc_Re_stream 118 = .ok (.lneg, 1) := by decide +kernel
theorem dd_Re_stream_119 : decode cc_Re_stream 119 = .ok (.lload 9, 2) := by decide +kernel
theorem dd_Re_stream_121 : decode cc_Re_stream 121 = .ok (.lmul, 1) := by decide +kernel
theorem dd_Re_stream_122 : decode cc_Re_stream 122 = .ok (.lstore 11, 2) := by decide +kernel
theorem dd_Re_stream_124 : decode cc_Re_stream 124 = .ok (.iconst 0, 1) := by decide +kernel
theorem dd_Re_stream_125 : decode cc_Re_stream 125 = .ok (.istore 13, 2) := by decide +kernel
theorem dd_Re_stream_127 : decode cc_Re_stream 127 = .ok (.iload 13, 2) := by decide +kernel
theorem dd_Re_stream_129 : decode cc_Re_stream 129 = .ok (.aload_n 0, 1) := by decide +kernel
theorem dd_Re_stream_130 : decode cc_Re_stream 130 = .ok (.getfield 67, 3) := by decide +kernel
theorem dd_Re_stream_133 : decode cc_Re_stream 133 = .ok (.if_icmp .ge 44, 3) := by decide +kernel
theorem dd_Re_stream_136 : decode cc_Re_stream 136 = .ok (.aload_n 0, 1) := by decide +kernel
theorem dd_Re_stream_137 : decode cc_Re_stream 137 = .ok (.getfield 38, 3) := by decide +kernel
theorem dd_Re_stream_140 : decode cc_Re_stream 140 = .ok (.iload 13, 2) := by decide +kernel
theorem dd_Re_stream_142 : decode cc_Re_stream 142 = .ok (.iaload, 1) := by decide +kernel
theorem dd_Re_stream_143 : decode cc_Re_stream 143 = .ok (.iload 8, 2) := by decide +kernel
theorem dd_Re_stream_145 : decode cc_Re_stream 145 = .ok (.if_icmp .ne 26, 3) := by decide +kernel
theorem dd_Re_stream_148 : decode cc_Re_stream 148 = .ok (.lload 11, 2) := by decide +kernel
theorem dd_Re_stream_150 : decode cc_Re_stream 150 = .ok (.ldc2_w 61, 3) := by decide +kernel
theorem dd_Re_stream_153 : decode cc_Re_stream 153 = .ok (.aload_n 0, 1) := by decide +kernel
theorem dd_Re_stream_154 : decode cc_Re_stream 154 = .ok (.getfield 13, 3) := by decide +kernel
theorem dd_Re_stream_157 : decode cc_Re_stream 157 = .ok (.bipush 40, 2) := by decide +kernel
theorem dd_Re_stream_159 : decode cc_Re_stream 159 = .ok (.iload 4, 2) := by decide +kernel
theorem dd_Re_stream_161 : decode cc_Re_stream 161 = .ok (.imul, 1) := by decide +kernel
theorem dd_Re_stream_162 : decode cc_Re_stream 162 = .ok (.iload 13, 2) := by decide +kernel
theorem dd_Re_stream_164 : decode cc_Re_stream 164 = .ok (.iadd, 1) := by decide +kernel
theorem dd_Re_stream_165 : decode cc_Re_stream 165 = .ok (.iaload, 1) := by decide +kernel
theorem dd_Re_stream_166 : decode cc_Re_stream 166 = .ok (.i2l, 1) := by decide +kernel
theorem dd_Re_stream_167 : decode cc_Re_stream 167 = .ok (.lmul, 1) := by decide +kernel
theorem dd_Re_stream_168 : decode cc_Re_stream 168 = .ok (.ladd, 1) := by decide +kernel
theorem dd_Re_stream_169 : decode cc_Re_stream 169 = .ok (.lstore 11, 2) := by decide +kernel
theorem dd_Re_stream_171 : decode cc_Re_stream 171 = .ok (.iinc 13 1, 3) := by decide +kernel
theorem dd_Re_stream_174 : decode cc_Re_stream 174 = .ok (.goto (-47), 3) := by decide +kernel
theorem dd_Re_stream_177 : decode cc_Re_stream 177 = .ok (.iload 5, 2) := by decide +kernel
theorem dd_Re_stream_179 : decode cc_Re_stream 179 = .ok (.ifCond .lt 14, 3) := by decide +kernel
theorem dd_Re_stream_182 : decode cc_Re_stream 182 = .ok (.lload 11, 2) := by decide +kernel
theorem dd_Re_stream_184 : decode cc_Re_stream 184 = .ok (.lload 6, 2) := by decide +kernel
theorem dd_Re_stream_186 : decode cc_Re_stream 186 = .ok (.lcmp, 1) := by decide +kernel
theorem dd_Re_stream_187 : decode cc_Re_stream 187 = .ok (.ifCond .gt 6, 3) := by decide +kernel
theorem dd_Re_stream_190 : decode cc_Re_stream 190 = .ok (.goto 11, 3) := by decide +kernel
theorem dd_Re_stream_193 : decode cc_Re_stream 193 = .ok (.iload 8, 2) := by decide +kernel
theorem dd_Re_stream_195 : decode cc_Re_stream 195 = .ok (.istore 5, 2) := by decide +kernel
theorem dd_Re_stream_197 : decode cc_Re_stream 197 = .ok (.lload 11, 2) := by decide +kernel
theorem dd_Re_stream_199 : decode cc_Re_stream 199 = .ok (.lstore 6, 2) := by decide +kernel
theorem dd_Re_stream_201 : decode cc_Re_stream 201 = .ok (.iinc 8 1, 3) := by decide +kernel
theorem dd_Re_stream_204 : decode cc_Re_stream 204 = .ok (.goto (-131), 3) := by decide +kernel
theorem dd_Re_stream_207 : decode cc_Re_stream 207 = .ok (.iload 5, 2) := by decide +kernel
theorem dd_Re_stream_209 : decode cc_Re_stream 209 = .ok (.ifCond .ge 44, 3) := by decide +kernel
theorem dd_Re_stream_212 : decode cc_Re_stream 212 = .ok (.iconst 0, 1) := by decide +kernel
theorem dd_Re_stream_213 : decode cc_Re_stream 213 = .ok (.istore 5, 2) := by decide +kernel
theorem dd_Re_stream_215 : decode cc_Re_stream 215 = .ok (.iconst 1, 1) := by decide +kernel
theorem dd_Re_stream_216 : decode cc_Re_stream 216 = .ok (.istore 8, 2) := by decide +kernel
theorem dd_Re_stream_218 : decode cc_Re_stream 218 = .ok (.iload 8, 2) := by decide +kernel
theorem dd_Re_stream_220 : decode cc_Re_stream 220 = .ok (.aload_n 0, 1) := by decide +kernel
theorem dd_Re_stream_221 : decode cc_Re_stream 221 = .ok (.getfield 80, 3) := by decide +kernel
theorem dd_Re_stream_224 : decode cc_Re_stream 224 = .ok (.if_icmp .ge 29, 3) := by decide +kernel
theorem dd_Re_stream_227 : decode cc_Re_stream 227 = .ok (.aload_n 0, 1) := by decide +kernel
theorem dd_Re_stream_228 : decode cc_Re_stream 228 = .ok (.iload 8, 2) := by decide +kernel
theorem dd_Re_stream_230 : decode cc_Re_stream 230 = .ok (.invokevirtual 115, 3) := by decide +kernel
theorem dd_Re_stream_233 : decode cc_Re_stream 233 = .ok (.aload_n 0, 1) := by decide +kernel
theorem dd_Re_stream_234 : decode cc_Re_stream 234 = .ok (.iload 5, 2) := by decide +kernel
theorem dd_Re_stream_236 : decode cc_Re_stream 236 = .ok (.invokevirtual 115, 3) := by decide +kernel
theorem dd_Re_stream_239 : decode cc_Re_stream 239 = .ok (.lcmp, 1) := by decide +kernel
theorem dd_Re_stream_240 : decode cc_Re_stream 240 = .ok (.ifCond .ge 7, 3) := by decide +kernel
theorem dd_Re_stream_243 : decode cc_Re_stream 243 = .ok (.iload 8, 2) := by decide +kernel
theorem dd_Re_stream_245 : decode cc_Re_stream 245 = .ok (.istore 5, 2) := by decide +kernel
theorem dd_Re_stream_247 : decode cc_Re_stream 247 = .ok (.iinc 8 1, 3) := by decide +kernel
theorem dd_Re_stream_250 : decode cc_Re_stream 250 = .ok (.goto (-32), 3) := by decide +kernel
theorem dd_Re_stream_253 : decode cc_Re_stream 253 = .ok (.aload_n 0, 1) := by decide +kernel
theorem dd_Re_stream_254 : decode cc_Re_stream 254 = .ok (.getfield 38, 3) := by decide +kernel
theorem dd_Re_stream_257 : decode cc_Re_stream 257 = .ok (.iload 4, 2) := by decide +kernel
theorem dd_Re_stream_259 : decode cc_Re_stream 259 = .ok (.iload 5, 2) := by decide +kernel
theorem dd_Re_stream_261 : decode cc_Re_stream 261 = .ok (.iastore, 1) := by decide +kernel
theorem dd_Re_stream_262 : decode cc_Re_stream 262 = .ok (.iinc 3 1, 3) := by decide +kernel
theorem dd_Re_stream_265 : decode cc_Re_stream 265 = .ok (.goto (-217), 3) := by decide +kernel
theorem dd_Re_stream_268 : decode cc_Re_stream 268 = .ok (.aload_n 0, 1) := by decide +kernel
theorem dd_Re_stream_269 : decode cc_Re_stream 269 = .ok (.invokevirtual 159, 3) := by decide +kernel
theorem dd_Re_stream_272 : decode cc_Re_stream 272 = .ok (.aload_n 0, 1) := by decide +kernel
theorem dd_Re_stream_273 : decode cc_Re_stream 273 = .ok (.invokevirtual 132, 3) := by decide +kernel
theorem dd_Re_stream_276 : decode cc_Re_stream 276 = .ok (.l2i, 1) := by decide +kernel
theorem dd_Re_stream_277 : decode cc_Re_stream 277 = .ok (.ireturn, 1) := by decide +kernel
theorem dd_Re_exact_0 : decode cc_Re_exact 0 = .ok (.lconst 1, 1) := by decide +kernel
theorem dd_Re_exact_1 : decode cc_Re_exact 1 = .ok (.lstore_n 1, 1) := by decide +kernel
theorem dd_Re_exact_2 : decode cc_Re_exact 2 = .ok (.iconst 0, 1) := by decide +kernel
theorem dd_Re_exact_3 : decode cc_Re_exact 3 = .ok (.istore_n 3, 1) := by decide +kernel
theorem dd_Re_exact_4 : decode cc_Re_exact 4 = .ok (.iload_n 3, 1) := by decide +kernel
theorem dd_Re_exact_5 : decode cc_Re_exact 5 = .ok (.aload_n 0, 1) := by decide +kernel
theorem dd_Re_exact_6 : decode cc_Re_exact 6 = .ok (.getfield 67, 3) := by decide +kernel
theorem dd_Re_exact_9 : decode cc_Re_exact 9 = .ok (.if_icmp .ge 25, 3) := by decide +kernel
theorem dd_Re_exact_12 : decode cc_Re_exact 12 = .ok (.lload_n 1, 1) := by decide +kernel
theorem dd_Re_exact_13 : decode cc_Re_exact 13 = .ok (.ldc2_w 169, 3) := by decide +kernel
theorem dd_Re_exact_16 : decode cc_Re_exact 16 = .ok (.lcmp, 1) := by decide +kernel
theorem dd_Re_exact_17 : decode cc_Re_exact 17 = .ok (.ifCond .gt 17, 3) := by decide +kernel
theorem dd_Re_exact_20 : decode cc_Re_exact 20 = .ok (.lload_n 1, 1) := by decide +kernel
theorem dd_Re_exact_21 : decode cc_Re_exact 21 = .ok (.aload_n 0, 1) := by decide +kernel
theorem dd_Re_exact_22 : decode cc_Re_exact 22 = .ok (.getfield 80, 3) := by decide +kernel
theorem dd_Re_exact_25 : decode cc_Re_exact 25 = .ok (.i2l, 1) := by decide +kernel
theorem dd_Re_exact_26 : decode cc_Re_exact 26 = .ok (.lmul, 1) := by decide +kernel
theorem dd_Re_exact_27 : decode cc_Re_exact 27 = .ok (.lstore_n 1, 1) := by decide +kernel
theorem dd_Re_exact_28 : decode cc_Re_exact 28 = .ok (.iinc 3 1, 3) := by decide +kernel
theorem dd_Re_exact_31 : decode cc_Re_exact 31 = .ok (.goto (-27), 3) := by decide +kernel
theorem dd_Re_exact_34 : decode cc_Re_exact 34 = .ok (.lload_n 1, 1) := by decide +kernel
theorem dd_Re_exact_35 : decode cc_Re_exact 35 = .ok (.ldc2_w 169, 3) := by decide +kernel
theorem dd_Re_exact_38 : decode cc_Re_exact 38 = .ok (.lcmp, 1) := by decide +kernel
theorem dd_Re_exact_39 : decode cc_Re_exact 39 = .ok (.ifCond .le 6, 3) := by decide +kernel
theorem dd_Re_exact_42 : decode cc_Re_exact 42 = .ok (.bipush (-4), 2) := by decide +kernel
theorem dd_Re_exact_44 : decode cc_Re_exact 44 = .ok (.ireturn, 1) := by decide +kernel
theorem dd_Re_exact_45 : decode cc_Re_exact 45 = .ok (.aload_n 0, 1) := by decide +kernel
theorem dd_Re_exact_46 : decode cc_Re_exact 46 = .ok (.invokevirtual 129, 3) := by decide +kernel
theorem dd_Re_exact_49 : decode cc_Re_exact 49 = .ok (.aload_n 0, 1) := by decide +kernel
theorem dd_Re_exact_50 : decode cc_Re_exact 50 = .ok (.invokevirtual 150, 3) := by decide +kernel
theorem dd_Re_exact_53 : decode cc_Re_exact 53 = .ok (.aload_n 0, 1) := by decide +kernel
theorem dd_Re_exact_54 : decode cc_Re_exact 54 = .ok (.invokevirtual 159, 3) := by decide +kernel
theorem dd_Re_exact_57 : decode cc_Re_exact 57 = .ok (.aload_n 0, 1) := by decide +kernel
theorem dd_Re_exact_58 : decode cc_Re_exact 58 = .ok (.invokevirtual 162, 3) := by decide +kernel
theorem dd_Re_exact_61 : decode cc_Re_exact 61 = .ok (.ireturn, 1) := by decide +kernel
theorem dd_Re_isOpen_0 : decode cc_Re_isOpen 0 = .ok (.aload_n 0, 1) := by decide +kernel
theorem dd_Re_isOpen_1 : decode cc_Re_isOpen 1 = .ok (.getfield 13, 3) := by decide +kernel
theorem dd_Re_isOpen_4 : decode cc_Re_isOpen 4 = .ok (.bipush 40, 2) := by decide +kernel
theorem dd_Re_isOpen_6 : decode cc_Re_isOpen 6 = .ok (.iload_n 1, 1) := by decide +kernel
theorem dd_Re_isOpen_7 : decode cc_Re_isOpen 7 = .ok (.imul, 1) := by decide +kernel
theorem dd_Re_isOpen_8 : decode cc_Re_isOpen 8 = .ok (.iload_n 2, 1) := by decide +kernel
theorem dd_Re_isOpen_9 : decode cc_Re_isOpen 9 = .ok (.iadd, 1) := by decide +kernel
theorem dd_Re_isOpen_10 : decode cc_Re_isOpen 10 = .ok (.iaload, 1) := by decide +kernel
theorem dd_Re_isOpen_11 : decode cc_Re_isOpen 11 = .ok (.ifCond .le 40, 3) := by decide +kernel
theorem dd_Re_isOpen_14 : decode cc_Re_isOpen 14 = .ok (.aload_n 0, 1) := by decide +kernel
theorem dd_Re_isOpen_15 : decode cc_Re_isOpen 15 = .ok (.getfield 16, 3) := by decide +kernel
theorem dd_Re_isOpen_18 : decode cc_Re_isOpen 18 = .ok (.iload_n 1, 1) := by decide +kernel
theorem dd_Re_isOpen_19 : decode cc_Re_isOpen 19 = .ok (.iaload, 1) := by decide +kernel
theorem dd_Re_isOpen_20 : decode cc_Re_isOpen 20 = .ok (.aload_n 0, 1) := by decide +kernel
theorem dd_Re_isOpen_21 : decode cc_Re_isOpen 21 = .ok (.getfield 16, 3) := by decide +kernel
theorem dd_Re_isOpen_24 : decode cc_Re_isOpen 24 = .ok (.iload_n 2, 1) := by decide +kernel
theorem dd_Re_isOpen_25 : decode cc_Re_isOpen 25 = .ok (.iaload, 1) := by decide +kernel
theorem dd_Re_isOpen_26 : decode cc_Re_isOpen 26 = .ok (.if_icmp .eq 25, 3) := by decide +kernel
theorem dd_Re_isOpen_29 : decode cc_Re_isOpen 29 = .ok (.aload_n 0, 1) := by decide +kernel
theorem dd_Re_isOpen_30 : decode cc_Re_isOpen 30 = .ok (.getfield 54, 3) := by decide +kernel
theorem dd_Re_isOpen_33 : decode cc_Re_isOpen 33 = .ok (.iload_n 1, 1) := by decide +kernel
theorem dd_Re_isOpen_34 : decode cc_Re_isOpen 34 = .ok (.baload, 1) := by decide +kernel
theorem dd_Re_isOpen_35 : decode cc_Re_isOpen 35 = .ok (.ifCond .ne 16, 3) := by decide +kernel
theorem dd_Re_isOpen_38 : decode cc_Re_isOpen 38 = .ok (.aload_n 0, 1) := by decide +kernel
theorem dd_Re_isOpen_39 : decode cc_Re_isOpen 39 = .ok (.getfield 54, 3) := by decide +kernel
theorem dd_Re_isOpen_42 : decode cc_Re_isOpen 42 = .ok (.iload_n 2, 1) := by decide +kernel
theorem dd_Re_isOpen_43 : decode cc_Re_isOpen 43 = .ok (.baload, 1) := by decide +kernel
theorem dd_Re_isOpen_44 : decode cc_Re_isOpen 44 = .ok (.ifCond .ne 7, 3) := by decide +kernel
theorem dd_Re_isOpen_47 : decode cc_Re_isOpen 47 = .ok (.iconst 1, 1) := by decide +kernel
theorem dd_Re_isOpen_48 : decode cc_Re_isOpen 48 = .ok (.goto 4, 3) := by decide +kernel
theorem dd_Re_isOpen_51 : decode cc_Re_isOpen 51 = .ok (.iconst 0, 1) := by decide +kernel
theorem dd_Re_isOpen_52 : decode cc_Re_isOpen 52 = .ok (.ireturn, 1) := by decide +kernel
theorem dd_Re_separate_0 : decode cc_Re_separate 0 = .ok (.iconst 0, 1) := by decide +kernel
theorem dd_Re_separate_1 : decode cc_Re_separate 1 = .ok (.istore_n 1, 1) := by decide +kernel
theorem dd_Re_separate_2 : decode cc_Re_separate 2 = .ok (.iload_n 1, 1) := by decide +kernel
theorem dd_Re_separate_3 : decode cc_Re_separate 3 = .ok (.aload_n 0, 1) := by decide +kernel
theorem dd_Re_separate_4 : decode cc_Re_separate 4 = .ok (.getfield 67, 3) := by decide +kernel
theorem dd_Re_separate_7 : decode cc_Re_separate 7 = .ok (.if_icmp .ge 16, 3) := by decide +kernel
theorem dd_Re_separate_10 : decode cc_Re_separate 10 = .ok (.aload_n 0, 1) := by decide +kernel
theorem dd_Re_separate_11 : decode cc_Re_separate 11 = .ok (.getfield 54, 3) := by decide +kernel
theorem dd_Re_separate_14 : decode cc_Re_separate 14 = .ok (.iload_n 1, 1) := by decide +kernel
theorem dd_Re_separate_15 : decode cc_Re_separate 15 = .ok (.iconst 0, 1) := by decide +kernel
theorem dd_Re_separate_16 : decode cc_Re_separate 16 = .ok (.bastore, 1) := by decide +kernel
theorem dd_Re_separate_17 : decode cc_Re_separate 17 = .ok (.iinc 1 1, 3) := by decide +kernel
theorem dd_Re_separate_20 : decode cc_Re_separate 20 = .ok (.goto (-18), 3) := by decide +kernel
theorem dd_Re_separate_23 : decode cc_Re_separate 23 = .ok (.iconst (-1), 1) := by decide +kernel
theorem dd_Re_separate_24 : decode cc_Re_separate 24 = .ok (.istore_n 1, 1) := by decide +kernel
theorem dd_Re_separate_25 : decode cc_Re_separate 25 = .ok (.iconst 0, 1) := by decide +kernel
theorem dd_Re_separate_26 : decode cc_Re_separate 26 = .ok (.istore_n 2, 1) := by decide +kernel
theorem dd_Re_separate_27 : decode cc_Re_separate 27 = .ok (.iconst 0, 1) := by decide +kernel
theorem dd_Re_separate_28 : decode cc_Re_separate 28 = .ok (.istore_n 3, 1) := by decide +kernel
theorem dd_Re_separate_29 : decode cc_Re_separate 29 = .ok (.iload_n 3, 1) := by decide +kernel
theorem dd_Re_separate_30 : decode cc_Re_separate 30 = .ok (.aload_n 0, 1) := by decide +kernel
theorem dd_Re_separate_31 : decode cc_Re_separate 31 = .ok (.getfield 67, 3) := by decide +kernel
theorem dd_Re_separate_34 : decode cc_Re_separate 34 = .ok (.if_icmp .ge 90, 3) := by decide +kernel
theorem dd_Re_separate_37 : decode cc_Re_separate 37 = .ok (.iconst 0, 1) := by decide +kernel
theorem dd_Re_separate_38 : decode cc_Re_separate 38 = .ok (.istore 4, 2) := by decide +kernel
theorem dd_Re_separate_40 : decode cc_Re_separate 40 = .ok (.iconst 0, 1) := by decide +kernel
theorem dd_Re_separate_41 : decode cc_Re_separate 41 = .ok (.istore 5, 2) := by decide +kernel
theorem dd_Re_separate_43 : decode cc_Re_separate 43 = .ok (.iload 5, 2) := by decide +kernel
theorem dd_Re_separate_45 : decode cc_Re_separate 45 = .ok (.aload_n 0, 1) := by decide +kernel
theorem dd_Re_separate_46 : decode cc_Re_separate 46 = .ok (.getfield 67, 3) := by decide +kernel
theorem dd_Re_separate_49 : decode cc_Re_separate 49 = .ok (.if_icmp .ge 29, 3) := by decide +kernel
theorem dd_Re_separate_52 : decode cc_Re_separate 52 = .ok (.iload 4, 2) := by decide +kernel
theorem dd_Re_separate_54 : decode cc_Re_separate 54 = .ok (.aload_n 0, 1) := by decide +kernel
theorem dd_Re_separate_55 : decode cc_Re_separate 55 = .ok (.iload_n 3, 1) := by decide +kernel
theorem dd_Re_separate_56 : decode cc_Re_separate 56 = .ok (.iload 5, 2) := by decide +kernel
theorem dd_Re_separate_58 : decode cc_Re_separate 58 = .ok (.invokevirtual 171, 3) := by decide +kernel
theorem dd_Re_separate_61 : decode cc_Re_separate 61 = .ok (.ifCond .eq 7, 3) := by decide +kernel
theorem dd_Re_separate_64 : decode cc_Re_separate 64 = .ok (.iconst 1, 1) := by decide +kernel
theorem dd_Re_separate_65 : decode cc_Re_separate 65 = .ok (.goto 4, 3) := by decide +kernel
theorem dd_Re_separate_68 : decode cc_Re_separate 68 = .ok (.iconst 0, 1) := by decide +kernel
theorem dd_Re_separate_69 : decode cc_Re_separate 69 = .ok (.iadd, 1) := by decide +kernel
theorem dd_Re_separate_70 : decode cc_Re_separate 70 = .ok (.istore 4, 2) := by decide +kernel
theorem dd_Re_separate_72 : decode cc_Re_separate 72 = .ok (.iinc 5 1, 3) := by decide +kernel
theorem dd_Re_separate_75 : decode cc_Re_separate 75 = .ok (.goto (-32), 3) := by decide +kernel
theorem dd_Re_separate_78 : decode cc_Re_separate 78 = .ok (.iload 4, 2) := by decide +kernel
theorem dd_Re_separate_80 : decode cc_Re_separate 80 = .ok (.ifCond .eq 38, 3) := by decide +kernel
theorem dd_Re_separate_83 : decode cc_Re_separate 83 = .ok (.iload 4, 2) := by decide +kernel
theorem dd_Re_separate_85 : decode cc_Re_separate 85 = .ok (.iload_n 2, 1) := by decide +kernel
theorem dd_Re_separate_86 : decode cc_Re_separate 86 = .ok (.if_icmp .lt 32, 3) := by decide +kernel
theorem dd_Re_separate_89 : decode cc_Re_separate 89 = .ok (.iload 4, 2) := by decide +kernel
theorem dd_Re_separate_91 : decode cc_Re_separate 91 = .ok (.iload_n 2, 1) := by decide +kernel
theorem dd_Re_separate_92 : decode cc_Re_separate 92 = .ok (.if_icmp .ne 21, 3) := by decide +kernel
theorem dd_Re_separate_95 : decode cc_Re_separate 95 = .ok (.aload_n 0, 1) := by decide +kernel
theorem dd_Re_separate_96 : decode cc_Re_separate 96 = .ok (.getfield 7, 3) := by decide +kernel
theorem dd_Re_separate_99 : decode cc_Re_separate 99 = .ok (.iload_n 3, 1) := by decide +kernel
theorem dd_Re_separate_100 : decode cc_Re_separate 100 = .ok (.iaload, 1) := by decide +kernel
theorem dd_Re_separate_101 : decode cc_Re_separate 101 = .ok (.aload_n 0, 1) := by decide +kernel
theorem dd_Re_separate_102 : decode cc_Re_separate 102 = .ok (.getfield 7, 3) := by decide +kernel
theorem dd_Re_separate_105 : decode cc_Re_separate 105 = .ok (.iload_n 1, 1) := by decide +kernel
theorem dd_Re_separate_106 : decode cc_Re_separate 106 = .ok (.iaload, 1) := by decide +kernel
theorem dd_Re_separate_107 : decode cc_Re_separate 107 = .ok (.if_icmp .lt 6, 3) := by decide +kernel
theorem dd_Re_separate_110 : decode cc_Re_separate 110 = .ok (.goto 8, 3) := by decide +kernel
theorem dd_Re_separate_113 : decode cc_Re_separate 113 = .ok (.iload_n 3, 1) := by decide +kernel
theorem dd_Re_separate_114 : decode cc_Re_separate 114 = .ok (.istore_n 1, 1) := by decide +kernel
theorem dd_Re_separate_115 : decode cc_Re_separate 115 = .ok (.iload 4, 2) := by decide +kernel
theorem dd_Re_separate_117 : decode cc_Re_separate 117 = .ok (.istore_n 2, 1) := by decide +kernel
theorem dd_Re_separate_118 : decode cc_Re_separate 118 = .ok (.iinc 3 1, 3) := by decide +kernel
theorem dd_Re_separate_121 : decode cc_Re_separate 121 = .ok (.goto (-92), 3) := by decide +kernel
theorem dd_Re_separate_124 : decode cc_Re_separate 124 = .ok (.iload_n 1, 1) := by decide +kernel
theorem dd_Re_separate_125 : decode cc_Re_separate 125 = .ok (.ifCond .ge 6, 3) := by decide +kernel
theorem dd_Re_separate_128 : decode cc_Re_separate 128 = .ok (.goto 13, 3) := by decide +kernel
theorem dd_Re_separate_131 : decode cc_Re_separate 131 = .ok (.aload_n 0, 1) := by decide +kernel
theorem dd_Re_separate_132 : decode cc_Re_separate 132 = .ok (.getfield 54, 3) := by decide +kernel
theorem dd_Re_separate_135 : decode cc_Re_separate 135 = .ok (.iload_n 1, 1) := by decide +kernel
theorem dd_Re_separate_136 : decode cc_Re_separate 136 = .ok (.iconst 1, 1) := by decide +kernel
theorem dd_Re_separate_137 : decode cc_Re_separate 137 = .ok (.bastore, 1) := by decide +kernel
theorem dd_Re_separate_138 : decode cc_Re_separate 138 = .ok (.goto (-115), 3) := by decide +kernel
theorem dd_Re_separate_141 : decode cc_Re_separate 141 = .ok (.aload_n 0, 1) := by decide +kernel
theorem dd_Re_separate_142 : decode cc_Re_separate 142 = .ok (.getfield 67, 3) := by decide +kernel
theorem dd_Re_separate_145 : decode cc_Re_separate 145 = .ok (.iconst 1, 1) := by decide +kernel
theorem dd_Re_separate_146 : decode cc_Re_separate 146 = .ok (.isub, 1) := by decide +kernel
theorem dd_Re_separate_147 : decode cc_Re_separate 147 = .ok (.istore_n 1, 1) := by decide +kernel
theorem dd_Re_separate_148 : decode cc_Re_separate 148 = .ok (.iload_n 1, 1) := by decide +kernel
theorem dd_Re_separate_149 : decode cc_Re_separate 149 = .ok (.ifCond .lt 62, 3) := by decide +kernel
theorem dd_Re_separate_152 : decode cc_Re_separate 152 = .ok (.aload_n 0, 1) := by decide +kernel
theorem dd_Re_separate_153 : decode cc_Re_separate 153 = .ok (.getfield 54, 3) := by decide +kernel
theorem dd_Re_separate_156 : decode cc_Re_separate 156 = .ok (.iload_n 1, 1) := by decide +kernel
theorem dd_Re_separate_157 : decode cc_Re_separate 157 = .ok (.baload, 1) := by decide +kernel
theorem dd_Re_separate_158 : decode cc_Re_separate 158 = .ok (.ifCond .ne 6, 3) := by decide +kernel
theorem dd_Re_separate_161 : decode cc_Re_separate 161 = .ok (.goto 44, 3) := by decide +kernel
theorem dd_Re_separate_164 : decode cc_Re_separate 164 = .ok (.aload_n 0, 1) := by decide +kernel
theorem dd_Re_separate_165 : decode cc_Re_separate 165 = .ok (.getfield 54, 3) := by decide +kernel
theorem dd_Re_separate_168 : decode cc_Re_separate 168 = .ok (.iload_n 1, 1) := by decide +kernel
theorem dd_Re_separate_169 : decode cc_Re_separate 169 = .ok (.iconst 0, 1) := by decide +kernel
theorem dd_Re_separate_170 : decode cc_Re_separate 170 = .ok (.bastore, 1) := by decide +kernel
theorem dd_Re_separate_171 : decode cc_Re_separate 171 = .ok (.iconst 0, 1) := by decide +kernel
theorem dd_Re_separate_172 : decode cc_Re_separate 172 = .ok (.istore_n 2, 1) := by decide +kernel
theorem dd_Re_separate_173 : decode cc_Re_separate 173 = .ok (.iconst 0, 1) := by decide +kernel
theorem dd_Re_separate_174 : decode cc_Re_separate 174 = .ok (.istore_n 3, 1) := by decide +kernel
theorem dd_Re_separate_175 : decode cc_Re_separate 175 = .ok (.iload_n 3, 1) := by decide +kernel
theorem dd_Re_separate_176 : decode cc_Re_separate 176 = .ok (.aload_n 0, 1) := by decide +kernel
theorem dd_Re_separate_177 : decode cc_Re_separate 177 = .ok (.getfield 67, 3) := by decide +kernel
theorem dd_Re_separate_180 : decode cc_Re_separate 180 = .ok (.if_icmp .ge 18, 3) := by decide +kernel
theorem dd_Re_separate_183 : decode cc_Re_separate 183 = .ok (.iload_n 2, 1) := by decide +kernel
theorem dd_Re_separate_184 : decode cc_Re_separate 184 = .ok (.aload_n 0, 1) := by decide +kernel
theorem dd_Re_separate_185 : decode cc_Re_separate 185 = .ok (.iload_n 1, 1) := by decide +kernel
theorem dd_Re_separate_186 : decode cc_Re_separate 186 = .ok (.iload_n 3, 1) := by decide +kernel
theorem dd_Re_separate_187 : decode cc_Re_separate 187 = .ok (.invokevirtual 171, 3) := by decide +kernel
theorem dd_Re_separate_190 : decode cc_Re_separate 190 = .ok (.ior, 1) := by decide +kernel
theorem dd_Re_separate_191 : decode cc_Re_separate 191 = .ok (.istore_n 2, 1) := by decide +kernel
theorem dd_Re_separate_192 : decode cc_Re_separate 192 = .ok (.iinc 3 1, 3) := by decide +kernel
theorem dd_Re_separate_195 : decode cc_Re_separate 195 = .ok (.goto (-20), 3) := by decide +kernel
theorem dd_Re_separate_198 : decode cc_Re_separate 198 = .ok (.aload_n 0, 1) := by decide +kernel
theorem dd_Re_separate_199 : decode cc_Re_separate 199 = .ok (.getfield 54, 3) := by decide +kernel
theorem dd_Re_separate_202 : decode cc_Re_separate 202 = .ok (.iload_n 1, 1) := by decide +kernel
theorem dd_Re_separate_203 : decode cc_Re_separate 203 = .ok (.iload_n 2, 1) := by decide +kernel
theorem dd_Re_separate_204 : decode cc_Re_separate 204 = .ok (.bastore, 1) := by decide +kernel
theorem dd_Re_separate_205 : decode cc_Re_separate 205 = .ok (.iinc 1 (-1), 3) := by decide +kernel
theorem dd_Re_separate_208 : decode cc_Re_separate 208 = .ok (.goto (-60), 3) := by decide +kernel
theorem dd_Re_separate_211 : decode cc_Re_separate 211 = .ok (.return_, 1) := by decide +kernel
theorem dd_Re_separator_0 : decode cc_Re_separator 0 = .ok (.aload_n 0, 1) := by decide +kernel
theorem dd_Re_separator_1 : decode cc_Re_separator 1 = .ok (.invokevirtual 175, 3) := by decide +kernel
theorem dd_Re_separator_4 : decode cc_Re_separator 4 = .ok (.iload_n 1, 1) := by decide +kernel
theorem dd_Re_separator_5 : decode cc_Re_separator 5 = .ok (.istore_n 2, 1) := by decide +kernel
theorem dd_Re_separator_6 : decode cc_Re_separator 6 = .ok (.iconst 0, 1) := by decide +kernel
theorem dd_Re_separator_7 : decode cc_Re_separator 7 = .ok (.istore_n 3, 1) := by decide +kernel
theorem dd_Re_separator_8 : decode cc_Re_separator 8 = .ok (.iload_n 3, 1) := by decide +kernel
theorem dd_Re_separator_9 : decode cc_Re_separator 9 = .ok (.aload_n 0, 1) := by decide +kernel
theorem dd_Re_separator_10 : decode cc_Re_separator 10 = .ok (.getfield 67, 3) := by decide +kernel
theorem dd_Re_separator_13 : decode cc_Re_separator 13 = .ok (.if_icmp .ge 31, 3) := by decide +kernel
theorem dd_Re_separator_16 : decode cc_Re_separator 16 = .ok (.iload_n 1, 1) := by decide +kernel
theorem dd_Re_separator_17 : decode cc_Re_separator 17 = .ok (.ifCond .lt 27, 3) := by decide +kernel
theorem dd_Re_separator_20 : decode cc_Re_separator 20 = .ok (.aload_n 0, 1) := by decide +kernel
theorem dd_Re_separator_21 : decode cc_Re_separator 21 = .ok (.getfield 54, 3) := by decide +kernel
theorem dd_Re_separator_24 : decode cc_Re_separator 24 = .ok (.iload_n 3, 1) := by decide +kernel
theorem dd_Re_separator_25 : decode cc_Re_separator 25 = .ok (.baload, 1) := by decide +kernel
theorem dd_Re_separator_26 : decode cc_Re_separator 26 = .ok (.ifCond .eq 12, 3) := by decide +kernel
theorem dd_Re_separator_29 : decode cc_Re_separator 29 = .ok (.iload_n 2, 1) := by decide +kernel
theorem dd_Re_separator_30 : decode cc_Re_separator 30 = .ok (.iinc 2 (-1), 3) := by decide +kernel
theorem dd_Re_separator_33 : decode cc_Re_separator 33 = .ok (.ifCond .ne 5, 3) := by decide +kernel
theorem dd_Re_separator_36 : decode cc_Re_separator 36 = .ok (.iload_n 3, 1) := by decide +kernel
theorem dd_Re_separator_37 : decode cc_Re_separator 37 = .ok (.ireturn, 1) := by decide +kernel
theorem dd_Re_separator_38 : decode cc_Re_separator 38 = .ok (.iinc 3 1, 3) := by decide +kernel
theorem dd_Re_separator_41 : decode cc_Re_separator 41 = .ok (.goto (-33), 3) := by decide +kernel
theorem dd_Re_separator_44 : decode cc_Re_separator 44 = .ok (.bipush (-2), 2) := by decide +kernel
theorem dd_Re_separator_46 : decode cc_Re_separator 46 = .ok (.ireturn, 1) := by decide +kernel
theorem dd_Re_count_0 : decode cc_Re_count 0 = .ok (.iconst 0, 1) := by decide +kernel
theorem dd_Re_count_1 : decode cc_Re_count 1 = .ok (.istore_n 2, 1) := by decide +kernel
theorem dd_Re_count_2 : decode cc_Re_count 2 = .ok (.iload_n 1, 1) := by decide +kernel
theorem dd_Re_count_3 : decode cc_Re_count 3 = .ok (.tableswitch 178 0 5 #[37, 42, 47, 103, 112, 151], 37) := by decide +kernel
theorem dd_Re_count_40 : decode cc_Re_count 40 = .ok (.aload_n 0, 1) := by decide +kernel
theorem dd_Re_count_41 : decode cc_Re_count 41 = .ok (.getfield 67, 3) := by decide +kernel
theorem dd_Re_count_44 : decode cc_Re_count 44 = .ok (.ireturn, 1) := by decide +kernel
theorem dd_Re_count_45 : decode cc_Re_count 45 = .ok (.aload_n 0, 1) := by decide +kernel
theorem dd_Re_count_46 : decode cc_Re_count 46 = .ok (.getfield 80, 3) := by decide +kernel
theorem dd_Re_count_49 : decode cc_Re_count 49 = .ok (.ireturn, 1) := by decide +kernel
theorem dd_Re_count_50 : decode cc_Re_count 50 = .ok (.iconst 0, 1) := by decide +kernel
theorem dd_Re_count_51 : decode cc_Re_count 51 = .ok (.istore_n 3, 1) := by decide +kernel
theorem dd_Re_count_52 : decode cc_Re_count 52 = .ok (.iload_n 3, 1) := by decide +kernel
theorem dd_Re_count_53 : decode cc_Re_count 53 = .ok (.aload_n 0, 1) := by decide +kernel
theorem dd_Re_count_54 : decode cc_Re_count 54 = .ok (.getfield 67, 3) := by decide +kernel
theorem dd_Re_count_57 : decode cc_Re_count 57 = .ok (.if_icmp .ge 47, 3) := by decide +kernel
theorem dd_Re_count_60 : decode cc_Re_count 60 = .ok (.iconst 0, 1) := by decide +kernel
theorem dd_Re_count_61 : decode cc_Re_count 61 = .ok (.istore 4, 2) := by decide +kernel
theorem dd_Re_count_63 : decode cc_Re_count 63 = .ok (.iload 4, 2) := by decide +kernel
theorem dd_Re_count_65 : decode cc_Re_count 65 = .ok (.iload_n 3, 1) := by decide +kernel
theorem dd_Re_count_66 : decode cc_Re_count 66 = .ok (.if_icmp .ge 32, 3) := by decide +kernel
theorem dd_Re_count_69 : decode cc_Re_count 69 = .ok (.iload_n 2, 1) := by decide +kernel
theorem dd_Re_count_70 : decode cc_Re_count 70 = .ok (.aload_n 0, 1) := by decide +kernel
theorem dd_Re_count_71 : decode cc_Re_count 71 = .ok (.getfield 13, 3) := by decide +kernel
theorem dd_Re_count_74 : decode cc_Re_count 74 = .ok (.bipush 40, 2) := by decide +kernel
theorem dd_Re_count_76 : decode cc_Re_count 76 = .ok (.iload_n 3, 1) := by decide +kernel
theorem dd_Re_count_77 : decode cc_Re_count 77 = .ok (.imul, 1) := by decide +kernel
theorem dd_Re_count_78 : decode cc_Re_count 78 = .ok (.iload 4, 2) := by decide +kernel
theorem dd_Re_count_80 : decode cc_Re_count 80 = .ok (.iadd, 1) := by decide +kernel
theorem dd_Re_count_81 : decode cc_Re_count 81 = .ok (.iaload, 1) := by decide +kernel
theorem dd_Re_count_82 : decode cc_Re_count 82 = .ok (.ifCond .le 7, 3) := by decide +kernel
theorem dd_Re_count_85 : decode cc_Re_count 85 = .ok (.iconst 1, 1) := by decide +kernel
theorem dd_Re_count_86 : decode cc_Re_count 86 = .ok (.goto 4, 3) := by decide +kernel
theorem dd_Re_count_89 : decode cc_Re_count 89 = .ok (.iconst 0, 1) := by decide +kernel
theorem dd_Re_count_90 : decode cc_Re_count 90 = .ok (.iadd, 1) := by decide +kernel
theorem dd_Re_count_91 : decode cc_Re_count 91 = .ok (.istore_n 2, 1) := by decide +kernel
theorem dd_Re_count_92 : decode cc_Re_count 92 = .ok (.iinc 4 1, 3) := by decide +kernel
theorem dd_Re_count_95 : decode cc_Re_count 95 = .ok (.goto (-32), 3) := by decide +kernel
theorem dd_Re_count_98 : decode cc_Re_count 98 = .ok (.iinc 3 1, 3) := by decide +kernel
theorem dd_Re_count_101 : decode cc_Re_count 101 = .ok (.goto (-49), 3) := by decide +kernel
theorem dd_Re_count_104 : decode cc_Re_count 104 = .ok (.iload_n 2, 1) := by decide +kernel
theorem dd_Re_count_105 : decode cc_Re_count 105 = .ok (.ireturn, 1) := by decide +kernel
theorem dd_Re_count_106 : decode cc_Re_count 106 = .ok (.aload_n 0, 1) := by decide +kernel
theorem dd_Re_count_107 : decode cc_Re_count 107 = .ok (.invokevirtual 101, 3) := by decide +kernel
theorem dd_Re_count_110 : decode cc_Re_count 110 = .ok (.aload_n 0, 1) := by decide +kernel
theorem dd_Re_count_111 : decode cc_Re_count 111 = .ok (.getfield 91, 3) := by decide +kernel
theorem dd_Re_count_114 : decode cc_Re_count 114 = .ok (.ireturn, 1) := by decide +kernel
theorem dd_Re_count_115 : decode cc_Re_count 115 = .ok (.aload_n 0, 1) := by decide +kernel
theorem dd_Re_count_116 : decode cc_Re_count 116 = .ok (.invokevirtual 175, 3) := by decide +kernel
theorem dd_Re_count_119 : decode cc_Re_count 119 = .ok (.iconst 0, 1) := by decide +kernel
theorem dd_Re_count_120 : decode cc_Re_count 120 = .ok (.istore_n 3, 1) := by decide +kernel
theorem dd_Re_count_121 : decode cc_Re_count 121 = .ok (.iload_n 3, 1) := by decide +kernel
theorem dd_Re_count_122 : decode cc_Re_count 122 = .ok (.aload_n 0, 1) := by decide +kernel
theorem dd_Re_count_123 : decode cc_Re_count 123 = .ok (.getfield 67, 3) := by decide +kernel
theorem dd_Re_count_126 : decode cc_Re_count 126 = .ok (.if_icmp .ge 26, 3) := by decide +kernel
theorem dd_Re_count_129 : decode cc_Re_count 129 = .ok (.iload_n 2, 1) := by decide +kernel
theorem dd_Re_count_130 : decode cc_Re_count 130 = .ok (.aload_n 0, 1) := by decide +kernel
theorem dd_Re_count_131 : decode cc_Re_count 131 = .ok (.getfield 54, 3) := by decide +kernel
theorem dd_Re_count_134 : decode cc_Re_count 134 = .ok (.iload_n 3, 1) := by decide +kernel
theorem dd_Re_count_135 : decode cc_Re_count 135 = .ok (.baload, 1) := by decide +kernel
theorem dd_Re_count_136 : decode cc_Re_count 136 = .ok (.ifCond .eq 7, 3) := by decide +kernel
theorem dd_Re_count_139 : decode cc_Re_count 139 = .ok (.iconst 1, 1) := by decide +kernel
theorem dd_Re_count_140 : decode cc_Re_count 140 = .ok (.goto 4, 3) := by decide +kernel
theorem dd_Re_count_143 : decode cc_Re_count 143 = .ok (.iconst 0, 1) := by decide +kernel
theorem dd_Re_count_144 : decode cc_Re_count 144 = .ok (.iadd, 1) := by decide +kernel
theorem dd_Re_count_145 : decode cc_Re_count 145 = .ok (.istore_n 2, 1) := by decide +kernel
theorem dd_Re_count_146 : decode cc_Re_count 146 = .ok (.iinc 3 1, 3) := by decide +kernel
theorem dd_Re_count_149 : decode cc_Re_count 149 = .ok (.goto (-28), 3) := by decide +kernel
theorem dd_Re_count_152 : decode cc_Re_count 152 = .ok (.iload_n 2, 1) := by decide +kernel
theorem dd_Re_count_153 : decode cc_Re_count 153 = .ok (.ireturn, 1) := by decide +kernel
theorem dd_Re_count_154 : decode cc_Re_count 154 = .ok (.iconst 0, 1) := by decide +kernel
theorem dd_Re_count_155 : decode cc_Re_count 155 = .ok (.istore_n 3, 1) := by decide +kernel
theorem dd_Re_count_156 : decode cc_Re_count 156 = .ok (.iload_n 3, 1) := by decide +kernel
theorem dd_Re_count_157 : decode cc_Re_count 157 = .ok (.aload_n 0, 1) := by decide +kernel
theorem dd_Re_count_158 : decode cc_Re_count 158 = .ok (.getfield 67, 3) := by decide +kernel
theorem dd_Re_count_161 : decode cc_Re_count 161 = .ok (.if_icmp .ge 18, 3) := by decide +kernel
theorem dd_Re_count_164 : decode cc_Re_count 164 = .ok (.iload_n 2, 1) := by decide +kernel
theorem dd_Re_count_165 : decode cc_Re_count 165 = .ok (.aload_n 0, 1) := by decide +kernel
theorem dd_Re_count_166 : decode cc_Re_count 166 = .ok (.iload_n 3, 1) := by decide +kernel
theorem dd_Re_count_167 : decode cc_Re_count 167 = .ok (.iconst 2, 1) := by decide +kernel
theorem dd_Re_count_168 : decode cc_Re_count 168 = .ok (.invokevirtual 178, 3) := by decide +kernel
theorem dd_Re_count_171 : decode cc_Re_count 171 = .ok (.iadd, 1) := by decide +kernel
theorem dd_Re_count_172 : decode cc_Re_count 172 = .ok (.istore_n 2, 1) := by decide +kernel
theorem dd_Re_count_173 : decode cc_Re_count 173 = .ok (.iinc 3 1, 3) := by decide +kernel
theorem dd_Re_count_176 : decode cc_Re_count 176 = .ok (.goto (-20), 3) := by decide +kernel
theorem dd_Re_count_179 : decode cc_Re_count 179 = .ok (.iload_n 2, 1) := by decide +kernel
theorem dd_Re_count_180 : decode cc_Re_count 180 = .ok (.ireturn, 1) := by decide +kernel
theorem dd_Re_count_181 : decode cc_Re_count 181 = .ok (.iconst (-1), 1) := by decide +kernel
theorem dd_Re_count_182 : decode cc_Re_count 182 = .ok (.ireturn, 1) := by decide +kernel
theorem dd_Re_new_0 : decode cc_Re_new 0 = .ok (.aload_n 0, 1) := by decide +kernel
theorem dd_Re_new_1 : decode cc_Re_new 1 = .ok (.invokespecial 1, 3) := by decide +kernel
theorem dd_Re_new_4 : decode cc_Re_new 4 = .ok (.aload_n 0, 1) := by decide +kernel
theorem dd_Re_new_5 : decode cc_Re_new 5 = .ok (.bipush 40, 2) := by decide +kernel
theorem dd_Re_new_7 : decode cc_Re_new 7 = .ok (.newarray .int, 2) := by decide +kernel
theorem dd_Re_new_9 : decode cc_Re_new 9 = .ok (.putfield 7, 3) := by decide +kernel
theorem dd_Re_new_12 : decode cc_Re_new 12 = .ok (.aload_n 0, 1) := by decide +kernel
theorem dd_Re_new_13 : decode cc_Re_new 13 = .ok (.sipush 1600, 3) := by decide +kernel
theorem dd_Re_new_16 : decode cc_Re_new 16 = .ok (.newarray .int, 2) := by decide +kernel
theorem dd_Re_new_18 : decode cc_Re_new 18 = .ok (.putfield 13, 3) := by decide +kernel
theorem dd_Re_new_21 : decode cc_Re_new 21 = .ok (.aload_n 0, 1) := by decide +kernel
theorem dd_Re_new_22 : decode cc_Re_new 22 = .ok (.bipush 40, 2) := by decide +kernel
theorem dd_Re_new_24 : decode cc_Re_new 24 = .ok (.newarray .int, 2) := by decide +kernel
theorem dd_Re_new_26 : decode cc_Re_new 26 = .ok (.putfield 16, 3) := by decide +kernel
theorem dd_Re_new_29 : decode cc_Re_new 29 = .ok (.aload_n 0, 1) := by decide +kernel
theorem dd_Re_new_30 : decode cc_Re_new 30 = .ok (.iconst 4, 1) := by decide +kernel
theorem dd_Re_new_31 : decode cc_Re_new 31 = .ok (.newarray .int, 2) := by decide +kernel
theorem dd_Re_new_33 : decode cc_Re_new 33 = .ok (.putfield 19, 3) := by decide +kernel
theorem dd_Re_new_36 : decode cc_Re_new 36 = .ok (.aload_n 0, 1) := by decide +kernel
theorem dd_Re_new_37 : decode cc_Re_new 37 = .ok (.iconst 4, 1) := by decide +kernel
theorem dd_Re_new_38 : decode cc_Re_new 38 = .ok (.newarray .int, 2) := by decide +kernel
theorem dd_Re_new_40 : decode cc_Re_new 40 = .ok (.putfield 22, 3) := by decide +kernel
theorem dd_Re_new_43 : decode cc_Re_new 43 = .ok (.aload_n 0, 1) := by decide +kernel
theorem dd_Re_new_44 : decode cc_Re_new 44 = .ok (.bipush 41, 2) := by decide +kernel
theorem dd_Re_new_46 : decode cc_Re_new 46 = .ok (.newarray .int, 2) := by decide +kernel
theorem dd_Re_new_48 : decode cc_Re_new 48 = .ok (.putfield 25, 3) := by decide +kernel
theorem dd_Re_new_51 : decode cc_Re_new 51 = .ok (.aload_n 0, 1) := by decide +kernel
theorem dd_Re_new_52 : decode cc_Re_new 52 = .ok (.sipush 1640, 3) := by decide +kernel
theorem dd_Re_new_55 : decode cc_Re_new 55 = .ok (.newarray .int, 2) := by decide +kernel
theorem dd_Re_new_57 : decode cc_Re_new 57 = .ok (.putfield 28, 3) := by decide +kernel
theorem dd_Re_new_60 : decode cc_Re_new 60 = .ok (.aload_n 0, 1) := by decide +kernel
theorem dd_Re_new_61 : decode cc_Re_new 61 = .ok (.ldc 31, 2) := by decide +kernel
theorem dd_Re_new_63 : decode cc_Re_new 63 = .ok (.newarray .int, 2) := by decide +kernel
theorem dd_Re_new_65 : decode cc_Re_new 65 = .ok (.putfield 32, 3) := by decide +kernel
theorem dd_Re_new_68 : decode cc_Re_new 68 = .ok (.aload_n 0, 1) := by decide +kernel
theorem dd_Re_new_69 : decode cc_Re_new 69 = .ok (.sipush 1640, 3) := by decide +kernel
theorem dd_Re_new_72 : decode cc_Re_new 72 = .ok (.newarray .int, 2) := by decide +kernel
theorem dd_Re_new_74 : decode cc_Re_new 74 = .ok (.putfield 35, 3) := by decide +kernel
theorem dd_Re_new_77 : decode cc_Re_new 77 = .ok (.aload_n 0, 1) := by decide +kernel
theorem dd_Re_new_78 : decode cc_Re_new 78 = .ok (.bipush 40, 2) := by decide +kernel
theorem dd_Re_new_80 : decode cc_Re_new 80 = .ok (.newarray .int, 2) := by decide +kernel
theorem dd_Re_new_82 : decode cc_Re_new 82 = .ok (.putfield 38, 3) := by decide +kernel
theorem dd_Re_new_85 : decode cc_Re_new 85 = .ok (.aload_n 0, 1) := by decide +kernel
theorem dd_Re_new_86 : decode cc_Re_new 86 = .ok (.bipush 40, 2) := by decide +kernel
theorem dd_Re_new_88 : decode cc_Re_new 88 = .ok (.newarray .boolean, 2) := by decide +kernel
theorem dd_Re_new_90 : decode cc_Re_new 90 = .ok (.putfield 41, 3) := by decide +kernel
theorem dd_Re_new_93 : decode cc_Re_new 93 = .ok (.aload_n 0, 1) := by decide +kernel
theorem dd_Re_new_94 : decode cc_Re_new 94 = .ok (.bipush 40, 2) := by decide +kernel
theorem dd_Re_new_96 : decode cc_Re_new 96 = .ok (.newarray .int, 2) := by decide +kernel
theorem dd_Re_new_98 : decode cc_Re_new 98 = .ok (.putfield 45, 3) := by decide +kernel
theorem dd_Re_new_101 : decode cc_Re_new 101 = .ok (.aload_n 0, 1) := by decide +kernel
theorem dd_Re_new_102 : decode cc_Re_new 102 = .ok (.bipush 40, 2) := by decide +kernel
theorem dd_Re_new_104 : decode cc_Re_new 104 = .ok (.newarray .int, 2) := by decide +kernel
theorem dd_Re_new_106 : decode cc_Re_new 106 = .ok (.putfield 48, 3) := by decide +kernel
theorem dd_Re_new_109 : decode cc_Re_new 109 = .ok (.aload_n 0, 1) := by decide +kernel
theorem dd_Re_new_110 : decode cc_Re_new 110 = .ok (.bipush 40, 2) := by decide +kernel
theorem dd_Re_new_112 : decode cc_Re_new 112 = .ok (.newarray .int, 2) := by decide +kernel
theorem dd_Re_new_114 : decode cc_Re_new 114 = .ok (.putfield 51, 3) := by decide +kernel
theorem dd_Re_new_117 : decode cc_Re_new 117 = .ok (.aload_n 0, 1) := by decide +kernel
theorem dd_Re_new_118 : decode cc_Re_new 118 = .ok (.bipush 40, 2) := by decide +kernel
theorem dd_Re_new_120 : decode cc_Re_new 120 = .ok (.newarray .boolean, 2) := by decide +kernel
theorem dd_Re_new_122 : decode cc_Re_new 122 = .ok (.putfield 54, 3) := by decide +kernel
theorem dd_Re_new_125 : decode cc_Re_new 125 = .ok (.aload_n 0, 1) := by decide +kernel
theorem dd_Re_new_126 : decode cc_Re_new 126 = .ok (.invokevirtual 57, 3) := by decide +kernel
theorem dd_Re_new_129 : decode cc_Re_new 129 = .ok (.pop, 1) := by decide +kernel
theorem dd_Re_new_130 : decode cc_Re_new 130 = .ok (.return_, 1) := by decide +kernel
