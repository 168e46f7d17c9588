theorem dd_Ba_node_0 : decode cc_Ba_node 0 = .ok (.iload_n 1, 1) := by decide +kernel
theorem dd_Ba_node_1 : decode cc_Ba_node 1 = .ok (.iconst 1, 1) := by decide +kernel
theorem dd_Ba_node_2 : decode cc_Ba_node 2 = .ok (.if_icmp .lt 10, 3) := by decide +kernel
theorem dd_Ba_node_5 : decode cc_Ba_node 5 = .ok (.iload_n 1, 1) := by decide +kernel
theorem dd_Ba_node_6 : decode cc_Ba_node 6 = .ok (.sipush 1000, 3) := by decide +kernel
theorem dd_Ba_node_9 : decode cc_Ba_node 9 = .ok (.if_icmp .le 5, 3) := by decide +kernel
theorem dd_Ba_node_12 : decode cc_Ba_node 12 = .ok (.iconst (-1), 1) := by decide +kernel
theorem dd_Ba_node_13 : decode cc_Ba_node 13 = .ok (.ireturn, 1) := by decide +kernel
theorem dd_Ba_node_14 : decode cc_Ba_node 14 = .ok (.aload_n 0, 1) := by decide +kernel
theorem dd_Ba_node_15 : decode cc_Ba_node 15 = .ok (.getfield 10, 3) := by decide +kernel
theorem dd_Ba_node_18 : decode cc_Ba_node 18 = .ok (.getfield 54, 3) := by decide +kernel
theorem dd_Ba_node_21 : decode cc_Ba_node 21 = .ok (.astore_n 2, 1) := by decide +kernel
theorem dd_Ba_node_22 : decode cc_Ba_node 22 = .ok (.aload_n 2, 1) := by decide +kernel
theorem dd_Ba_node_23 : decode cc_Ba_node 23 = .ok (.getfield 58, 3) := by decide +kernel
theorem dd_Ba_node_26 : decode cc_Ba_node 26 = .ok (.bipush 40, 2) := by decide +kernel
theorem dd_Ba_node_28 : decode cc_Ba_node 28 = .ok (.if_icmp .lt 6, 3) := by decide +kernel
theorem dd_Ba_node_31 : decode cc_Ba_node 31 = .ok (.bipush (-3), 2) := by decide +kernel
theorem dd_Ba_node_33 : decode cc_Ba_node 33 = .ok (.ireturn, 1) := by decide +kernel
theorem dd_Ba_node_34 : decode cc_Ba_node 34 = .ok (.aload_n 2, 1) := by decide +kernel
theorem dd_Ba_node_35 : decode cc_Ba_node 35 = .ok (.getfield 58, 3) := by decide +kernel
theorem dd_Ba_node_38 : decode cc_Ba_node 38 = .ok (.istore_n 3, 1) := by decide +kernel
theorem dd_Ba_node_39 : decode cc_Ba_node 39 = .ok (.aload_n 2, 1) := by decide +kernel
theorem dd_Ba_node_40 : decode cc_Ba_node 40 = .ok (.getfield 64, 3) := by decide +kernel
theorem dd_Ba_node_43 : decode cc_Ba_node 43 = .ok (.iload_n 3, 1) := by decide +kernel
theorem dd_Ba_node_44 : decode cc_Ba_node 44 = .ok (.iload_n 1, 1) := by decide +kernel
theorem dd_Ba_node_45 : decode cc_Ba_node 45 = .ok (.iastore, 1) := by decide +kernel
theorem dd_Ba_node_46 : decode cc_Ba_node 46 = .ok (.aload_n 2, 1) := by decide +kernel
theorem dd_Ba_node_47 : decode cc_Ba_node 47 = .ok (.iload_n 3, 1) := by decide +kernel
theorem dd_Ba_node_48 : decode cc_Ba_node 48 = .ok (.iconst 1, 1) := by decide +kernel
theorem dd_Ba_node_49 : decode cc_Ba_node 49 = .ok (.iadd, 1) := by decide +kernel
theorem dd_Ba_node_50 : decode cc_Ba_node 50 = .ok (.putfield 58, 3) := by decide +kernel
theorem dd_Ba_node_53 : decode cc_Ba_node 53 = .ok (.aload_n 0, 1) := by decide +kernel
theorem dd_Ba_node_54 : decode cc_Ba_node 54 = .ok (.getfield 10, 3) := by decide +kernel
theorem dd_Ba_node_57 : decode cc_Ba_node 57 = .ok (.getfield 68, 3) := by decide +kernel
theorem dd_Ba_node_60 : decode cc_Ba_node 60 = .ok (.iload_n 3, 1) := by decide +kernel
theorem dd_Ba_node_61 : decode cc_Ba_node 61 = .ok (.iconst 0, 1) := by decide +kernel
theorem dd_Ba_node_62 : decode cc_Ba_node 62 = .ok (.iastore, 1) := by decide +kernel
theorem dd_Ba_node_63 : decode cc_Ba_node 63 = .ok (.aload_n 0, 1) := by decide +kernel
theorem dd_Ba_node_64 : decode cc_Ba_node 64 = .ok (.getfield 22, 3) := by decide +kernel
theorem dd_Ba_node_67 : decode cc_Ba_node 67 = .ok (.iconst 0, 1) := by decide +kernel
theorem dd_Ba_node_68 : decode cc_Ba_node 68 = .ok (.putfield 71, 3) := by decide +kernel
theorem dd_Ba_node_71 : decode cc_Ba_node 71 = .ok (.iload_n 3, 1) := by decide +kernel
theorem dd_Ba_node_72 : decode cc_Ba_node 72 = .ok (.ireturn, 1) := by decide +kernel
theorem dd_Ba_arc_0 : decode cc_Ba_arc 0 = .ok (.aload_n 0, 1) := by decide +kernel
theorem dd_Ba_arc_1 : decode cc_Ba_arc 1 = .ok (.getfield 10, 3) := by decide +kernel
theorem dd_Ba_arc_4 : decode cc_Ba_arc 4 = .ok (.getfield 54, 3) := by decide +kernel
theorem dd_Ba_arc_7 : decode cc_Ba_arc 7 = .ok (.astore 4, 2) := by decide +kernel
theorem dd_Ba_arc_9 : decode cc_Ba_arc 9 = .ok (.aload 4, 2) := by decide +kernel
theorem dd_Ba_arc_11 : decode cc_Ba_arc 11 = .ok (.iload_n 1, 1) := by decide +kernel
theorem dd_Ba_arc_12 : decode cc_Ba_arc 12 = .ok (.invokevirtual 75, 3) := by decide +kernel
theorem dd_Ba_arc_15 : decode cc_Ba_arc 15 = .ok (.ifCond .eq 29, 3) := by decide +kernel
theorem dd_Ba_arc_18 : decode cc_Ba_arc 18 = .ok (.aload 4, 2) := by decide +kernel
theorem dd_Ba_arc_20 : decode cc_Ba_arc 20 = .ok (.iload_n 2, 1) := by decide +kernel
theorem dd_Ba_arc_21 : decode cc_Ba_arc 21 = .ok (.invokevirtual 75, 3) := by decide +kernel
theorem dd_Ba_arc_24 : decode cc_Ba_arc 24 = .ok (.ifCond .eq 20, 3) := by decide +kernel
theorem dd_Ba_arc_27 : decode cc_Ba_arc 27 = .ok (.iload_n 1, 1) := by decide +kernel
theorem dd_Ba_arc_28 : decode cc_Ba_arc 28 = .ok (.iload_n 2, 1) := by decide +kernel
theorem dd_Ba_arc_29 : decode cc_Ba_arc 29 = .ok (.if_icmp .eq 15, 3) := by decide +kernel
theorem dd_Ba_arc_32 : decode cc_Ba_arc 32 = .ok (.iload_n 3, 1) := by decide +kernel
theorem dd_Ba_arc_33 : decode cc_Ba_arc 33 = .ok (.iconst 1, 1) := by decide +kernel
theorem dd_Ba_arc_34 : decode cc_Ba_arc 34 = .ok (.if_icmp .lt 10, 3) := by decide +kernel
theorem dd_Ba_arc_37 : decode cc_Ba_arc 37 = .ok (.iload_n 3, 1) := by decide +kernel
theorem dd_Ba_arc_38 : decode cc_Ba_arc 38 = .ok (.sipush 1000, 3) := by decide +kernel
theorem dd_Ba_arc_41 : decode cc_Ba_arc 41 = .ok (.if_icmp .le 5, 3) := by decide +kernel
theorem dd_Ba_arc_44 : decode cc_Ba_arc 44 = .ok (.iconst (-1), 1) := by decide +kernel
theorem dd_Ba_arc_45 : decode cc_Ba_arc 45 = .ok (.ireturn, 1) := by decide +kernel
theorem dd_Ba_arc_46 : decode cc_Ba_arc 46 = .ok (.aload 4, 2) := by decide +kernel
theorem dd_Ba_arc_48 : decode cc_Ba_arc 48 = .ok (.iload_n 1, 1) := by decide +kernel
theorem dd_Ba_arc_49 : decode cc_Ba_arc 49 = .ok (.iload_n 2, 1) := by decide +kernel
theorem dd_Ba_arc_50 : decode cc_Ba_arc 50 = .ok (.invokevirtual 79, 3) := by decide +kernel
theorem dd_Ba_arc_53 : decode cc_Ba_arc 53 = .ok (.iload_n 3, 1) := by decide +kernel
theorem dd_Ba_arc_54 : decode cc_Ba_arc 54 = .ok (.iadd, 1) := by decide +kernel
theorem dd_Ba_arc_55 : decode cc_Ba_arc 55 = .ok (.istore 5, 2) := by decide +kernel
theorem dd_Ba_arc_57 : decode cc_Ba_arc 57 = .ok (.iload 5, 2) := by decide +kernel
theorem dd_Ba_arc_59 : decode cc_Ba_arc 59 = .ok (.ldc 83, 2) := by decide +kernel
theorem dd_Ba_arc_61 : decode cc_Ba_arc 61 = .ok (.if_icmp .le 6, 3) := by decide +kernel
theorem dd_Ba_arc_64 : decode cc_Ba_arc 64 = .ok (.bipush (-3), 2) := by decide +kernel
theorem dd_Ba_arc_66 : decode cc_Ba_arc 66 = .ok (.ireturn, 1) := by decide +kernel
theorem dd_Ba_arc_67 : decode cc_Ba_arc 67 = .ok (.aload 4, 2) := by decide +kernel
theorem dd_Ba_arc_69 : decode cc_Ba_arc 69 = .ok (.iload_n 1, 1) := by decide +kernel
theorem dd_Ba_arc_70 : decode cc_Ba_arc 70 = .ok (.iload_n 2, 1) := by decide +kernel
theorem dd_Ba_arc_71 : decode cc_Ba_arc 71 = .ok (.iload_n 3, 1) := by decide +kernel
theorem dd_Ba_arc_72 : decode cc_Ba_arc 72 = .ok (.invokevirtual 84, 3) := by decide +kernel
theorem dd_Ba_arc_75 : decode cc_Ba_arc 75 = .ok (.aload_n 0, 1) := by decide +kernel
theorem dd_Ba_arc_76 : decode cc_Ba_arc 76 = .ok (.getfield 22, 3) := by decide +kernel
theorem dd_Ba_arc_79 : decode cc_Ba_arc 79 = .ok (.iconst 0, 1) := by decide +kernel
theorem dd_Ba_arc_80 : decode cc_Ba_arc 80 = .ok (.putfield 71, 3) := by decide +kernel
theorem dd_Ba_arc_83 : decode cc_Ba_arc 83 = .ok (.iload 5, 2) := by decide +kernel
theorem dd_Ba_arc_85 : decode cc_Ba_arc 85 = .ok (.ireturn, 1) := by decide +kernel
theorem dd_Ba_startParts_0 : decode cc_Ba_startParts 0 = .ok (.aload_n 0, 1) := by decide +kernel
theorem dd_Ba_startParts_1 : decode cc_Ba_startParts 1 = .ok (.getfield 10, 3) := by decide +kernel
theorem dd_Ba_startParts_4 : decode cc_Ba_startParts 4 = .ok (.getfield 88, 3) := by decide +kernel
theorem dd_Ba_startParts_7 : decode cc_Ba_startParts 7 = .ok (.iload_n 1, 1) := by decide +kernel
theorem dd_Ba_startParts_8 : decode cc_Ba_startParts 8 = .ok (.invokevirtual 216, 3) := by decide +kernel
theorem dd_Ba_startParts_11 : decode cc_Ba_startParts 11 = .ok (.aload_n 0, 1) := by decide +kernel
theorem dd_Ba_startParts_12 : decode cc_Ba_startParts 12 = .ok (.getfield 10, 3) := by decide +kernel
theorem dd_Ba_startParts_15 : decode cc_Ba_startParts 15 = .ok (.getfield 68, 3) := by decide +kernel
theorem dd_Ba_startParts_18 : decode cc_Ba_startParts 18 = .ok (.iconst 0, 1) := by decide +kernel
theorem dd_Ba_startParts_19 : decode cc_Ba_startParts 19 = .ok (.invokestatic 219, 3) := by decide +kernel
theorem dd_Ba_startParts_22 : decode cc_Ba_startParts 22 = .ok (.aload_n 0, 1) := by decide +kernel
theorem dd_Ba_startParts_23 : decode cc_Ba_startParts 23 = .ok (.getfield 22, 3) := by decide +kernel
theorem dd_Ba_startParts_26 : decode cc_Ba_startParts 26 = .ok (.iconst 0, 1) := by decide +kernel
theorem dd_Ba_startParts_27 : decode cc_Ba_startParts 27 = .ok (.putfield 71, 3) := by decide +kernel
theorem dd_Ba_startParts_30 : decode cc_Ba_startParts 30 = .ok (.return_, 1) := by decide +kernel
theorem dd_Ba_parts_0 : decode cc_Ba_parts 0 = .ok (.iload_n 1, 1) := by decide +kernel
theorem dd_Ba_parts_1 : decode cc_Ba_parts 1 = .ok (.iconst 2, 1) := by decide +kernel
theorem dd_Ba_parts_2 : decode cc_Ba_parts 2 = .ok (.if_icmp .lt 8, 3) := by decide +kernel
theorem dd_Ba_parts_5 : decode cc_Ba_parts 5 = .ok (.iload_n 1, 1) := by decide +kernel
theorem dd_Ba_parts_6 : decode cc_Ba_parts 6 = .ok (.iconst 4, 1) := by decide +kernel
theorem dd_Ba_parts_7 : decode cc_Ba_parts 7 = .ok (.if_icmp .le 5, 3) := by decide +kernel
theorem dd_Ba_parts_10 : decode cc_Ba_parts 10 = .ok (.iconst (-1), 1) := by decide +kernel
theorem dd_Ba_parts_11 : decode cc_Ba_parts 11 = .ok (.ireturn, 1) := by decide +kernel
theorem dd_Ba_parts_12 : decode cc_Ba_parts 12 = .ok (.aload_n 0, 1) := by decide +kernel
theorem dd_Ba_parts_13 : decode cc_Ba_parts 13 = .ok (.getfield 10, 3) := by decide +kernel
theorem dd_Ba_parts_16 : decode cc_Ba_parts 16 = .ok (.getfield 88, 3) := by decide +kernel
theorem dd_Ba_parts_19 : decode cc_Ba_parts 19 = .ok (.getfield 92, 3) := by decide +kernel
theorem dd_Ba_parts_22 : decode cc_Ba_parts 22 = .ok (.istore_n 2, 1) := by decide +kernel
theorem dd_Ba_parts_23 : decode cc_Ba_parts 23 = .ok (.aload_n 0, 1) := by decide +kernel
theorem dd_Ba_parts_24 : decode cc_Ba_parts 24 = .ok (.iload_n 1, 1) := by decide +kernel
theorem dd_Ba_parts_25 : decode cc_Ba_parts 25 = .ok (.invokevirtual 97, 3) := by decide +kernel
theorem dd_Ba_parts_28 : decode cc_Ba_parts 28 = .ok (.iload_n 2, 1) := by decide +kernel
theorem dd_Ba_parts_29 : decode cc_Ba_parts 29 = .ok (.ireturn, 1) := by decide +kernel
theorem dd_Ba_bound_0 : decode cc_Ba_bound 0 = .ok (.aload_n 0, 1) := by decide +kernel
theorem dd_Ba_bound_1 : decode cc_Ba_bound 1 = .ok (.getfield 10, 3) := by decide +kernel
theorem dd_Ba_bound_4 : decode cc_Ba_bound 4 = .ok (.getfield 88, 3) := by decide +kernel
theorem dd_Ba_bound_7 : decode cc_Ba_bound 7 = .ok (.iload_n 1, 1) := by decide +kernel
theorem dd_Ba_bound_8 : decode cc_Ba_bound 8 = .ok (.invokevirtual 101, 3) := by decide +kernel
theorem dd_Ba_bound_11 : decode cc_Ba_bound 11 = .ok (.ifCond .eq 18, 3) := by decide +kernel
theorem dd_Ba_bound_14 : decode cc_Ba_bound 14 = .ok (.iload_n 2, 1) := by decide +kernel
theorem dd_Ba_bound_15 : decode cc_Ba_bound 15 = .ok (.ifCond .lt 14, 3) := by decide +kernel
theorem dd_Ba_bound_18 : decode cc_Ba_bound 18 = .ok (.iload_n 3, 1) := by decide +kernel
theorem dd_Ba_bound_19 : decode cc_Ba_bound 19 = .ok (.ldc 83, 2) := by decide +kernel
theorem dd_Ba_bound_21 : decode cc_Ba_bound 21 = .ok (.if_icmp .gt 8, 3) := by decide +kernel
theorem dd_Ba_bound_24 : decode cc_Ba_bound 24 = .ok (.iload_n 2, 1) := by decide +kernel
theorem dd_Ba_bound_25 : decode cc_Ba_bound 25 = .ok (.iload_n 3, 1) := by decide +kernel
theorem dd_Ba_bound_26 : decode cc_Ba_bound 26 = .ok (.if_icmp .le 5, 3) := by decide +kernel
theorem dd_Ba_bound_29 : decode cc_Ba_bound 29 = .ok (.iconst (-1), 1) := by decide +kernel
theorem dd_Ba_bound_30 : decode cc_Ba_bound 30 = .ok (.ireturn, 1) := by decide +kernel
theorem dd_Ba_bound_31 : decode cc_Ba_bound 31 = .ok (.aload_n 0, 1) := by decide +kernel
theorem dd_Ba_bound_32 : decode cc_Ba_bound 32 = .ok (.getfield 10, 3) := by decide +kernel
theorem dd_Ba_bound_35 : decode cc_Ba_bound 35 = .ok (.getfield 88, 3) := by decide +kernel
theorem dd_Ba_bound_38 : decode cc_Ba_bound 38 = .ok (.getfield 102, 3) := by decide +kernel
theorem dd_Ba_bound_41 : decode cc_Ba_bound 41 = .ok (.iload_n 1, 1) := by decide +kernel
theorem dd_Ba_bound_42 : decode cc_Ba_bound 42 = .ok (.iload_n 2, 1) := by decide +kernel
theorem dd_Ba_bound_43 : decode cc_Ba_bound 43 = .ok (.iastore, 1) := by decide +kernel
theorem dd_Ba_bound_44 : decode cc_Ba_bound 44 = .ok (.aload_n 0, 1) := by decide +kernel
theorem dd_Ba_bound_45 : decode cc_Ba_bound 45 = .ok (.getfield 10, 3) := by decide +kernel
theorem dd_Ba_bound_48 : decode cc_Ba_bound 48 = .ok (.getfield 88, 3) := by decide +kernel
theorem dd_Ba_bound_51 : decode cc_Ba_bound 51 = .ok (.getfield 105, 3) := by decide +kernel
theorem dd_Ba_bound_54 : decode cc_Ba_bound 54 = .ok (.iload_n 1, 1) := by decide +kernel
theorem dd_Ba_bound_55 : decode cc_Ba_bound 55 = .ok (.iload_n 3, 1) := by decide +kernel
theorem dd_Ba_bound_56 : decode cc_Ba_bound 56 = .ok (.iastore, 1) := by decide +kernel
theorem dd_Ba_bound_57 : decode cc_Ba_bound 57 = .ok (.iconst 0, 1) := by decide +kernel
theorem dd_Ba_bound_58 : decode cc_Ba_bound 58 = .ok (.ireturn, 1) := by decide +kernel
theorem dd_Ba_put_0 : decode cc_Ba_put 0 = .ok (.aload_n 0, 1) := by decide +kernel
theorem dd_Ba_put_1 : decode cc_Ba_put 1 = .ok (.getfield 10, 3) := by decide +kernel
theorem dd_Ba_put_4 : decode cc_Ba_put 4 = .ok (.getfield 54, 3) := by decide +kernel
theorem dd_Ba_put_7 : decode cc_Ba_put 7 = .ok (.iload_n 1, 1) := by decide +kernel
theorem dd_Ba_put_8 : decode cc_Ba_put 8 = .ok (.invokevirtual 75, 3) := by decide +kernel
theorem dd_Ba_put_11 : decode cc_Ba_put 11 = .ok (.ifCond .eq 17, 3) := by decide +kernel
theorem dd_Ba_put_14 : decode cc_Ba_put 14 = .ok (.aload_n 0, 1) := by decide +kernel
theorem dd_Ba_put_15 : decode cc_Ba_put 15 = .ok (.getfield 10, 3) := by decide +kernel
theorem dd_Ba_put_18 : decode cc_Ba_put 18 = .ok (.getfield 88, 3) := by decide +kernel
theorem dd_Ba_put_21 : decode cc_Ba_put 21 = .ok (.iload_n 2, 1) := by decide +kernel
theorem dd_Ba_put_22 : decode cc_Ba_put 22 = .ok (.invokevirtual 101, 3) := by decide +kernel
theorem dd_Ba_put_25 : decode cc_Ba_put 25 = .ok (.ifCond .ne 5, 3) := by decide +kernel
theorem dd_Ba_put_28 : decode cc_Ba_put 28 = .ok (.iconst (-1), 1) := by decide +kernel
theorem dd_Ba_put_29 : decode cc_Ba_put 29 = .ok (.ireturn, 1) := by decide +kernel
theorem dd_Ba_put_30 : decode cc_Ba_put 30 = .ok (.aload_n 0, 1) := by decide +kernel
theorem dd_Ba_put_31 : decode cc_Ba_put 31 = .ok (.getfield 10, 3) := by decide +kernel
theorem dd_Ba_put_34 : decode cc_Ba_put 34 = .ok (.getfield 68, 3) := by decide +kernel
theorem dd_Ba_put_37 : decode cc_Ba_put 37 = .ok (.iload_n 1, 1) := by decide +kernel
theorem dd_Ba_put_38 : decode cc_Ba_put 38 = .ok (.iaload, 1) := by decide +kernel
theorem dd_Ba_put_39 : decode cc_Ba_put 39 = .ok (.istore_n 3, 1) := by decide +kernel
theorem dd_Ba_put_40 : decode cc_Ba_put 40 = .ok (.aload_n 0, 1) := by decide +kernel
theorem dd_Ba_put_41 : decode cc_Ba_put 41 = .ok (.getfield 10, 3) := by decide +kernel
theorem dd_Ba_put_44 : decode cc_Ba_put 44 = .ok (.getfield 68, 3) := by decide +kernel
theorem dd_Ba_put_47 : decode cc_Ba_put 47 = .ok (.iload_n 1, 1) := by decide +kernel
theorem dd_Ba_put_48 : decode cc_Ba_put 48 = .ok (.iload_n 2, 1) := by decide +kernel
theorem dd_Ba_put_49 : decode cc_Ba_put 49 = .ok (.iastore, 1) := by decide +kernel
theorem dd_Ba_put_50 : decode cc_Ba_put 50 = .ok (.iload_n 3, 1) := by decide +kernel
theorem dd_Ba_put_51 : decode cc_Ba_put 51 = .ok (.ireturn, 1) := by decide +kernel
theorem dd_Ba_clear_0 : decode cc_Ba_clear 0 = .ok (.aload_n 0, 1) := by decide +kernel
theorem dd_Ba_clear_1 : decode cc_Ba_clear 1 = .ok (.getfield 10, 3) := by decide +kernel
theorem dd_Ba_clear_4 : decode cc_Ba_clear 4 = .ok (.getfield 54, 3) := by decide +kernel
theorem dd_Ba_clear_7 : decode cc_Ba_clear 7 = .ok (.getfield 58, 3) := by decide +kernel
theorem dd_Ba_clear_10 : decode cc_Ba_clear 10 = .ok (.istore_n 1, 1) := by decide +kernel
theorem dd_Ba_clear_11 : decode cc_Ba_clear 11 = .ok (.aload_n 0, 1) := by decide +kernel
theorem dd_Ba_clear_12 : decode cc_Ba_clear 12 = .ok (.getfield 10, 3) := by decide +kernel
theorem dd_Ba_clear_15 : decode cc_Ba_clear 15 = .ok (.getfield 54, 3) := by decide +kernel
theorem dd_Ba_clear_18 : decode cc_Ba_clear 18 = .ok (.iconst 0, 1) := by decide +kernel
theorem dd_Ba_clear_19 : decode cc_Ba_clear 19 = .ok (.invokevirtual 108, 3) := by decide +kernel
theorem dd_Ba_clear_22 : decode cc_Ba_clear 22 = .ok (.aload_n 0, 1) := by decide +kernel
theorem dd_Ba_clear_23 : decode cc_Ba_clear 23 = .ok (.iconst 2, 1) := by decide +kernel
theorem dd_Ba_clear_24 : decode cc_Ba_clear 24 = .ok (.invokevirtual 97, 3) := by decide +kernel
theorem dd_Ba_clear_27 : decode cc_Ba_clear 27 = .ok (.iload_n 1, 1) := by decide +kernel
theorem dd_Ba_clear_28 : decode cc_Ba_clear 28 = .ok (.ireturn, 1) := by decide +kernel
theorem dd_Ba_of_0 : decode cc_Ba_of 0 = .ok (.aload_n 0, 1) := by decide +kernel
theorem dd_Ba_of_1 : decode cc_Ba_of 1 = .ok (.getfield 10, 3) := by decide +kernel
theorem dd_Ba_of_4 : decode cc_Ba_of 4 = .ok (.getfield 54, 3) := by decide +kernel
theorem dd_Ba_of_7 : decode cc_Ba_of 7 = .ok (.iload_n 1, 1) := by decide +kernel
theorem dd_Ba_of_8 : decode cc_Ba_of 8 = .ok (.invokevirtual 75, 3) := by decide +kernel
theorem dd_Ba_of_11 : decode cc_Ba_of 11 = .ok (.ifCond .ne 5, 3) := by decide +kernel
theorem dd_Ba_of_14 : decode cc_Ba_of 14 = .ok (.iconst (-1), 1) := by decide +kernel
theorem dd_Ba_of_15 : decode cc_Ba_of 15 = .ok (.ireturn, 1) := by decide +kernel
theorem dd_Ba_of_16 : decode cc_Ba_of 16 = .ok (.iload_n 2, 1) := by decide +kernel
theorem dd_Ba_of_17 : decode cc_Ba_of 17 = .ok (.tableswitch 82 0 3 #[31, 44, 54, 70], 31) := by decide +kernel
theorem dd_Ba_of_48 : decode cc_Ba_of 48 = .ok (.aload_n 0, 1) := by decide +kernel
theorem dd_Ba_of_49 : decode cc_Ba_of 49 = .ok (.getfield 10, 3) := by decide +kernel
theorem dd_Ba_of_52 : decode cc_Ba_of 52 = .ok (.getfield 54, 3) := by decide +kernel
theorem dd_Ba_of_55 : decode cc_Ba_of 55 = .ok (.getfield 64, 3) := by decide +kernel
theorem dd_Ba_of_58 : decode cc_Ba_of 58 = .ok (.iload_n 1, 1) := by decide +kernel
theorem dd_Ba_of_59 : decode cc_Ba_of 59 = .ok (.iaload, 1) := by decide +kernel
theorem dd_Ba_of_60 : decode cc_Ba_of 60 = .ok (.ireturn, 1) := by decide +kernel
theorem dd_Ba_of_61 : decode cc_Ba_of 61 = .ok (.aload_n 0, 1) := by decide +kernel
theorem dd_Ba_of_62 : decode cc_Ba_of 62 = .ok (.getfield 10, 3) := by decide +kernel
theorem dd_Ba_of_65 : decode cc_Ba_of 65 = .ok (.getfield 68, 3) := by decide +kernel
theorem dd_Ba_of_68 : decode cc_Ba_of 68 = .ok (.iload_n 1, 1) := by decide +kernel
theorem dd_Ba_of_69 : decode cc_Ba_of 69 = .ok (.iaload, 1) := by decide +kernel
theorem dd_Ba_of_70 : decode cc_Ba_of 70 = .ok (.ireturn, 1) := by decide +kernel
theorem dd_Ba_of_71 : decode cc_Ba_of 71 = .ok (.aload_n 0, 1) := by decide +kernel
theorem dd_Ba_of_72 : decode cc_Ba_of 72 = .ok (.getfield 10, 3) := by decide +kernel
theorem dd_Ba_of_75 : decode cc_Ba_of 75 = .ok (.invokevirtual 111, 3) := by decide +kernel
theorem dd_Ba_of_78 : decode cc_Ba_of 78 = .ok (.aload_n 0, 1) := by decide +kernel
theorem dd_Ba_of_79 : decode cc_Ba_of 79 = .ok (.getfield 10, 3) := by decide +kernel
theorem dd_Ba_of_82 : decode cc_Ba_of 82 = .ok (.iload_n 1, 1) := by decide +kernel
theorem dd_Ba_of_83 : decode cc_Ba_of 83 = .ok (.invokevirtual 114, 3) := by decide +kernel
theorem dd_Ba_of_86 : decode cc_Ba_of 86 = .ok (.ireturn, 1) := by decide +kernel
theorem dd_Ba_of_87 : decode cc_Ba_of 87 = .ok (.aload_n 0, 1) := by decide +kernel
theorem dd_Ba_of_88 : decode cc_Ba_of 88 = .ok (.getfield 10, 3) := by decide +kernel
theorem dd_Ba_of_91 : decode cc_Ba_of 91 = .ok (.getfield 54, 3) := by decide +kernel
theorem dd_Ba_of_94 : decode cc_Ba_of 94 = .ok (.iload_n 1, 1) := by decide +kernel
theorem dd_Ba_of_95 : decode cc_Ba_of 95 = .ok (.invokevirtual 118, 3) := by decide +kernel
theorem dd_Ba_of_98 : decode cc_Ba_of 98 = .ok (.ireturn, 1) := by decide +kernel
theorem dd_Ba_of_99 : decode cc_Ba_of 99 = .ok (.iconst (-1), 1) := by decide +kernel
theorem dd_Ba_of_100 : decode cc_Ba_of 100 = .ok (.ireturn, 1) := by decide +kernel
theorem dd_Ba_between_0 : decode cc_Ba_between 0 = .ok (.aload_n 0, 1) := by decide +kernel
theorem dd_Ba_between_1 : decode cc_Ba_between 1 = .ok (.getfield 10, 3) := by decide +kernel
theorem dd_Ba_between_4 : decode cc_Ba_between 4 = .ok (.getfield 54, 3) := by decide +kernel
theorem dd_Ba_between_7 : decode cc_Ba_between 7 = .ok (.iload_n 1, 1) := by decide +kernel
theorem dd_Ba_between_8 : decode cc_Ba_between 8 = .ok (.invokevirtual 75, 3) := by decide +kernel
theorem dd_Ba_between_11 : decode cc_Ba_between 11 = .ok (.ifCond .eq 17, 3) := by decide +kernel
theorem dd_Ba_between_14 : decode cc_Ba_between 14 = .ok (.aload_n 0, 1) := by decide +kernel
theorem dd_Ba_between_15 : decode cc_Ba_between 15 = .ok (.getfield 10, 3) := by decide +kernel
theorem dd_Ba_between_18 : decode cc_Ba_between 18 = .ok (.getfield 54, 3) := by decide +kernel
theorem dd_Ba_between_21 : decode cc_Ba_between 21 = .ok (.iload_n 2, 1) := by decide +kernel
theorem dd_Ba_between_22 : decode cc_Ba_between 22 = .ok (.invokevirtual 75, 3) := by decide +kernel
theorem dd_Ba_between_25 : decode cc_Ba_between 25 = .ok (.ifCond .ne 5, 3) := by decide +kernel
theorem dd_Ba_between_28 : decode cc_Ba_between 28 = .ok (.iconst (-1), 1) := by decide +kernel
theorem dd_Ba_between_29 : decode cc_Ba_between 29 = .ok (.ireturn, 1) := by decide +kernel
theorem dd_Ba_between_30 : decode cc_Ba_between 30 = .ok (.aload_n 0, 1) := by decide +kernel
theorem dd_Ba_between_31 : decode cc_Ba_between 31 = .ok (.getfield 10, 3) := by decide +kernel
theorem dd_Ba_between_34 : decode cc_Ba_between 34 = .ok (.getfield 54, 3) := by decide +kernel
theorem dd_Ba_between_37 : decode cc_Ba_between 37 = .ok (.iload_n 1, 1) := by decide +kernel
theorem dd_Ba_between_38 : decode cc_Ba_between 38 = .ok (.iload_n 2, 1) := by decide +kernel
theorem dd_Ba_between_39 : decode cc_Ba_between 39 = .ok (.invokevirtual 79, 3) := by decide +kernel
theorem dd_Ba_between_42 : decode cc_Ba_between 42 = .ok (.ireturn, 1) := by decide +kernel
theorem dd_Ba_part_0 : decode cc_Ba_part 0 = .ok (.aload_n 0, 1) := by decide +kernel
theorem dd_Ba_part_1 : decode cc_Ba_part 1 = .ok (.getfield 10, 3) := by decide +kernel
theorem dd_Ba_part_4 : decode cc_Ba_part 4 = .ok (.getfield 88, 3) := by decide +kernel
theorem dd_Ba_part_7 : decode cc_Ba_part 7 = .ok (.iload_n 1, 1) := by decide +kernel
theorem dd_Ba_part_8 : decode cc_Ba_part 8 = .ok (.invokevirtual 101, 3) := by decide +kernel
theorem dd_Ba_part_11 : decode cc_Ba_part 11 = .ok (.ifCond .ne 5, 3) := by decide +kernel
theorem dd_Ba_part_14 : decode cc_Ba_part 14 = .ok (.iconst (-1), 1) := by decide +kernel
theorem dd_Ba_part_15 : decode cc_Ba_part 15 = .ok (.ireturn, 1) := by decide +kernel
theorem dd_Ba_part_16 : decode cc_Ba_part 16 = .ok (.iload_n 2, 1) := by decide +kernel
theorem dd_Ba_part_17 : decode cc_Ba_part 17 = .ok (.tableswitch 83 0 3 #[31, 48, 57, 70], 31) := by decide +kernel
theorem dd_Ba_part_48 : decode cc_Ba_part 48 = .ok (.aload_n 0, 1) := by decide +kernel
theorem dd_Ba_part_49 : decode cc_Ba_part 49 = .ok (.getfield 10, 3) := by decide +kernel
theorem dd_Ba_part_52 : decode cc_Ba_part 52 = .ok (.invokevirtual 111, 3) := by decide +kernel
theorem dd_Ba_part_55 : decode cc_Ba_part 55 = .ok (.aload_n 0, 1) := by decide +kernel
theorem dd_Ba_part_56 : decode cc_Ba_part 56 = .ok (.getfield 10, 3) := by decide +kernel
theorem dd_Ba_part_59 : decode cc_Ba_part 59 = .ok (.getfield 121, 3) := by decide +kernel
theorem dd_Ba_part_62 : decode cc_Ba_part 62 = .ok (.iload_n 1, 1) := by decide +kernel
theorem dd_Ba_part_63 : decode cc_Ba_part 63 = .ok (.iaload, 1) := by decide +kernel
theorem dd_Ba_part_64 : decode cc_Ba_part 64 = .ok (.ireturn, 1) := by decide +kernel
theorem dd_Ba_part_65 : decode cc_Ba_part 65 = .ok (.aload_n 0, 1) := by decide +kernel
theorem dd_Ba_part_66 : decode cc_Ba_part 66 = .ok (.getfield 10, 3) := by decide +kernel
theorem dd_Ba_part_69 : decode cc_Ba_part 69 = .ok (.iload_n 1, 1) := by decide +kernel
theorem dd_Ba_part_70 : decode cc_Ba_part 70 = .ok (.invokevirtual 124, 3) := by decide +kernel
theorem dd_Ba_part_73 : decode cc_Ba_part 73 = .ok (.ireturn, 1) := by decide +kernel
theorem dd_Ba_part_74 : decode cc_Ba_part 74 = .ok (.aload_n 0, 1) := by decide +kernel
theorem dd_Ba_part_75 : decode cc_Ba_part 75 = .ok (.getfield 10, 3) := by decide +kernel
theorem dd_Ba_part_78 : decode cc_Ba_part 78 = .ok (.getfield 88, 3) := by decide +kernel
theorem dd_Ba_part_81 : decode cc_Ba_part 81 = .ok (.getfield 102, 3) := by decide +kernel
theorem dd_Ba_part_84 : decode cc_Ba_part 84 = .ok (.iload_n 1, 1) := by decide +kernel
theorem dd_Ba_part_85 : decode cc_Ba_part 85 = .ok (.iaload, 1) := by decide +kernel
theorem dd_Ba_part_86 : decode cc_Ba_part 86 = .ok (.ireturn, 1) := by decide +kernel
theorem dd_Ba_part_87 : decode cc_Ba_part 87 = .ok (.aload_n 0, 1) := by decide +kernel
theorem dd_Ba_part_88 : decode cc_Ba_part 88 = .ok (.getfield 10, 3) := by decide +kernel
theorem dd_Ba_part_91 : decode cc_Ba_part 91 = .ok (.getfield 88, 3) := by decide +kernel
theorem dd_Ba_part_94 : decode cc_Ba_part 94 = .ok (.getfield 105, 3) := by decide +kernel
theorem dd_Ba_part_97 : decode cc_Ba_part 97 = .ok (.iload_n 1, 1) := by decide +kernel
theorem dd_Ba_part_98 : decode cc_Ba_part 98 = .ok (.iaload, 1) := by decide +kernel
theorem dd_Ba_part_99 : decode cc_Ba_part 99 = .ok (.ireturn, 1) := by decide +kernel
theorem dd_Ba_part_100 : decode cc_Ba_part 100 = .ok (.iconst (-1), 1) := by decide +kernel
theorem dd_Ba_part_101 : decode cc_Ba_part 101 = .ok (.ireturn, 1) := by decide +kernel
theorem dd_Ba_cut_0 : decode cc_Ba_cut 0 = .ok (.aload_n 0, 1) := by decide +kernel
theorem dd_Ba_cut_1 : decode cc_Ba_cut 1 = .ok (.getfield 10, 3) := by decide +kernel
theorem dd_Ba_cut_4 : decode cc_Ba_cut 4 = .ok (.invokevirtual 111, 3) := by decide +kernel
theorem dd_Ba_cut_7 : decode cc_Ba_cut 7 = .ok (.aload_n 0, 1) := by decide +kernel
theorem dd_Ba_cut_8 : decode cc_Ba_cut 8 = .ok (.getfield 10, 3) := by decide +kernel
theorem dd_Ba_cut_11 : decode cc_Ba_cut 11 = .ok (.getfield 127, 3) := by decide +kernel
theorem dd_Ba_cut_14 : decode cc_Ba_cut 14 = .ok (.ireturn, 1) := by decide +kernel
theorem dd_Ba_over_0 : decode cc_Ba_over 0 = .ok (.aload_n 0, 1) := by decide +kernel
theorem dd_Ba_over_1 : decode cc_Ba_over 1 = .ok (.getfield 10, 3) := by decide +kernel
theorem dd_Ba_over_4 : decode cc_Ba_over 4 = .ok (.invokevirtual 111, 3) := by decide +kernel
theorem dd_Ba_over_7 : decode cc_Ba_over 7 = .ok (.aload_n 0, 1) := by decide +kernel
theorem dd_Ba_over_8 : decode cc_Ba_over 8 = .ok (.getfield 10, 3) := by decide +kernel
theorem dd_Ba_over_11 : decode cc_Ba_over 11 = .ok (.getfield 130, 3) := by decide +kernel
theorem dd_Ba_over_14 : decode cc_Ba_over 14 = .ok (.ireturn, 1) := by decide +kernel
theorem dd_Ba_gain_0 : decode cc_Ba_gain 0 = .ok (.aload_n 0, 1) := by decide +kernel
theorem dd_Ba_gain_1 : decode cc_Ba_gain 1 = .ok (.getfield 10, 3) := by decide +kernel
theorem dd_Ba_gain_4 : decode cc_Ba_gain 4 = .ok (.getfield 54, 3) := by decide +kernel
theorem dd_Ba_gain_7 : decode cc_Ba_gain 7 = .ok (.iload_n 1, 1) := by decide +kernel
theorem dd_Ba_gain_8 : decode cc_Ba_gain 8 = .ok (.invokevirtual 75, 3) := by decide +kernel
theorem dd_Ba_gain_11 : decode cc_Ba_gain 11 = .ok (.ifCond .eq 17, 3) := by decide +kernel
theorem dd_Ba_gain_14 : decode cc_Ba_gain 14 = .ok (.aload_n 0, 1) := by decide +kernel
theorem dd_Ba_gain_15 : decode cc_Ba_gain 15 = .ok (.getfield 10, 3) := by decide +kernel
theorem dd_Ba_gain_18 : decode cc_Ba_gain 18 = .ok (.getfield 88, 3) := by decide +kernel
theorem dd_Ba_gain_21 : decode cc_Ba_gain 21 = .ok (.iload_n 2, 1) := by decide +kernel
theorem dd_Ba_gain_22 : decode cc_Ba_gain 22 = .ok (.invokevirtual 101, 3) := by decide +kernel
theorem dd_Ba_gain_25 : decode cc_Ba_gain 25 = .ok (.ifCond .ne 6, 3) := by decide +kernel
theorem dd_Ba_gain_28 : decode cc_Ba_gain 28 = .ok (.ldc 133, 2) := by decide +kernel
theorem dd_Ba_gain_30 : decode cc_Ba_gain 30 = .ok (.ireturn, 1) := by decide +kernel
theorem dd_Ba_gain_31 : decode cc_Ba_gain 31 = .ok (.aload_n 0, 1) := by decide +kernel
theorem dd_Ba_gain_32 : decode cc_Ba_gain 32 = .ok (.getfield 10, 3) := by decide +kernel
theorem dd_Ba_gain_35 : decode cc_Ba_gain 35 = .ok (.invokevirtual 111, 3) := by decide +kernel
theorem dd_Ba_gain_38 : decode cc_Ba_gain 38 = .ok (.aload_n 0, 1) := by decide +kernel
theorem dd_Ba_gain_39 : decode cc_Ba_gain 39 = .ok (.getfield 10, 3) := by decide +kernel
theorem dd_Ba_gain_42 : decode cc_Ba_gain 42 = .ok (.iload_n 1, 1) := by decide +kernel
theorem dd_Ba_gain_43 : decode cc_Ba_gain 43 = .ok (.iload_n 2, 1) := by decide +kernel
theorem dd_Ba_gain_44 : decode cc_Ba_gain 44 = .ok (.invokevirtual 134, 3) := by decide +kernel
theorem dd_Ba_gain_47 : decode cc_Ba_gain 47 = .ok (.ireturn, 1) := by decide +kernel
theorem dd_Ba_hasLevel_0 : decode cc_Ba_hasLevel 0 = .ok (.aload_n 0, 1) := by decide +kernel
theorem dd_Ba_hasLevel_1 : decode cc_Ba_hasLevel 1 = .ok (.getfield 22, 3) := by decide +kernel
theorem dd_Ba_hasLevel_4 : decode cc_Ba_hasLevel 4 = .ok (.aload_n 0, 1) := by decide +kernel
theorem dd_Ba_hasLevel_5 : decode cc_Ba_hasLevel 5 = .ok (.getfield 10, 3) := by decide +kernel
theorem dd_Ba_hasLevel_8 : decode cc_Ba_hasLevel 8 = .ok (.getfield 54, 3) := by decide +kernel
theorem dd_Ba_hasLevel_11 : decode cc_Ba_hasLevel 11 = .ok (.aload_n 0, 1) := by decide +kernel
theorem dd_Ba_hasLevel_12 : decode cc_Ba_hasLevel 12 = .ok (.getfield 10, 3) := by decide +kernel
theorem dd_Ba_hasLevel_15 : decode cc_Ba_hasLevel 15 = .ok (.getfield 88, 3) := by decide +kernel
theorem dd_Ba_hasLevel_18 : decode cc_Ba_hasLevel 18 = .ok (.getfield 92, 3) := by decide +kernel
theorem dd_Ba_hasLevel_21 : decode cc_Ba_hasLevel 21 = .ok (.aload_n 0, 1) := by decide +kernel
theorem dd_Ba_hasLevel_22 : decode cc_Ba_hasLevel 22 = .ok (.getfield 16, 3) := by decide +kernel
theorem dd_Ba_hasLevel_25 : decode cc_Ba_hasLevel 25 = .ok (.getfield 54, 3) := by decide +kernel
theorem dd_Ba_hasLevel_28 : decode cc_Ba_hasLevel 28 = .ok (.invokevirtual 154, 3) := by decide +kernel
theorem dd_Ba_hasLevel_31 : decode cc_Ba_hasLevel 31 = .ok (.iload_n 1, 1) := by decide +kernel
theorem dd_Ba_hasLevel_32 : decode cc_Ba_hasLevel 32 = .ok (.ifCond .lt 18, 3) := by decide +kernel
theorem dd_Ba_hasLevel_35 : decode cc_Ba_hasLevel 35 = .ok (.iload_n 1, 1) := by decide +kernel
theorem dd_Ba_hasLevel_36 : decode cc_Ba_hasLevel 36 = .ok (.aload_n 0, 1) := by decide +kernel
theorem dd_Ba_hasLevel_37 : decode cc_Ba_hasLevel 37 = .ok (.getfield 22, 3) := by decide +kernel
theorem dd_Ba_hasLevel_40 : decode cc_Ba_hasLevel 40 = .ok (.getfield 162, 3) := by decide +kernel
theorem dd_Ba_hasLevel_43 : decode cc_Ba_hasLevel 43 = .ok (.if_icmp .ge 7, 3) := by decide +kernel
theorem dd_Ba_hasLevel_46 : decode cc_Ba_hasLevel 46 = .ok (.iconst 1, 1) := by decide +kernel
theorem dd_Ba_hasLevel_47 : decode cc_Ba_hasLevel 47 = .ok (.goto 4, 3) := by decide +kernel
theorem dd_Ba_hasLevel_50 : decode cc_Ba_hasLevel 50 = .ok (.iconst 0, 1) := by decide +kernel
theorem dd_Ba_hasLevel_51 : decode cc_Ba_hasLevel 51 = .ok (.ireturn, 1) := by decide +kernel
theorem dd_Ba_level_0 : decode cc_Ba_level 0 = .ok (.iload_n 1, 1) := by decide +kernel
theorem dd_Ba_level_1 : decode cc_Ba_level 1 = .ok (.ifCond .lt 12, 3) := by decide +kernel
theorem dd_Ba_level_4 : decode cc_Ba_level 4 = .ok (.iload_n 2, 1) := by decide +kernel
theorem dd_Ba_level_5 : decode cc_Ba_level 5 = .ok (.ifCond .lt 8, 3) := by decide +kernel
theorem dd_Ba_level_8 : decode cc_Ba_level 8 = .ok (.iload_n 2, 1) := by decide +kernel
theorem dd_Ba_level_9 : decode cc_Ba_level 9 = .ok (.iconst 2, 1) := by decide +kernel
theorem dd_Ba_level_10 : decode cc_Ba_level 10 = .ok (.if_icmp .le 5, 3) := by decide +kernel
theorem dd_Ba_level_13 : decode cc_Ba_level 13 = .ok (.iconst (-1), 1) := by decide +kernel
theorem dd_Ba_level_14 : decode cc_Ba_level 14 = .ok (.ireturn, 1) := by decide +kernel
theorem dd_Ba_level_15 : decode cc_Ba_level 15 = .ok (.aload_n 0, 1) := by decide +kernel
theorem dd_Ba_level_16 : decode cc_Ba_level 16 = .ok (.iload_n 1, 1) := by decide +kernel
theorem dd_Ba_level_17 : decode cc_Ba_level 17 = .ok (.invokevirtual 137, 3) := by decide +kernel
theorem dd_Ba_level_20 : decode cc_Ba_level 20 = .ok (.ifCond .ne 6, 3) := by decide +kernel
theorem dd_Ba_level_23 : decode cc_Ba_level 23 = .ok (.bipush (-2), 2) := by decide +kernel
theorem dd_Ba_level_25 : decode cc_Ba_level 25 = .ok (.ireturn, 1) := by decide +kernel
theorem dd_Ba_level_26 : decode cc_Ba_level 26 = .ok (.aload_n 0, 1) := by decide +kernel
theorem dd_Ba_level_27 : decode cc_Ba_level 27 = .ok (.getfield 22, 3) := by decide +kernel
theorem dd_Ba_level_30 : decode cc_Ba_level 30 = .ok (.iload_n 1, 1) := by decide +kernel
theorem dd_Ba_level_31 : decode cc_Ba_level 31 = .ok (.aload_n 0, 1) := by decide +kernel
theorem dd_Ba_level_32 : decode cc_Ba_level 32 = .ok (.getfield 10, 3) := by decide +kernel
theorem dd_Ba_level_35 : decode cc_Ba_level 35 = .ok (.getfield 54, 3) := by decide +kernel
theorem dd_Ba_level_38 : decode cc_Ba_level 38 = .ok (.aload_n 0, 1) := by decide +kernel
theorem dd_Ba_level_39 : decode cc_Ba_level 39 = .ok (.getfield 16, 3) := by decide +kernel
theorem dd_Ba_level_42 : decode cc_Ba_level 42 = .ok (.getfield 54, 3) := by decide +kernel
theorem dd_Ba_level_45 : decode cc_Ba_level 45 = .ok (.invokevirtual 140, 3) := by decide +kernel
theorem dd_Ba_level_48 : decode cc_Ba_level 48 = .ok (.iload_n 2, 1) := by decide +kernel
theorem dd_Ba_level_49 : decode cc_Ba_level 49 = .ok (.lookupswitch 49 #[(0, 27), (1, 38)], 27) := by decide +kernel
theorem dd_Ba_level_76 : decode cc_Ba_level 76 = .ok (.aload_n 0, 1) := by decide +kernel
theorem dd_Ba_level_77 : decode cc_Ba_level 77 = .ok (.getfield 16, 3) := by decide +kernel
theorem dd_Ba_level_80 : decode cc_Ba_level 80 = .ok (.getfield 54, 3) := by decide +kernel
theorem dd_Ba_level_83 : decode cc_Ba_level 83 = .ok (.getfield 58, 3) := by decide +kernel
theorem dd_Ba_level_86 : decode cc_Ba_level 86 = .ok (.ireturn, 1) := by decide +kernel
theorem dd_Ba_level_87 : decode cc_Ba_level 87 = .ok (.aload_n 0, 1) := by decide +kernel
theorem dd_Ba_level_88 : decode cc_Ba_level 88 = .ok (.getfield 16, 3) := by decide +kernel
theorem dd_Ba_level_91 : decode cc_Ba_level 91 = .ok (.getfield 54, 3) := by decide +kernel
theorem dd_Ba_level_94 : decode cc_Ba_level 94 = .ok (.invokevirtual 144, 3) := by decide +kernel
theorem dd_Ba_level_97 : decode cc_Ba_level 97 = .ok (.ireturn, 1) := by decide +kernel
theorem dd_Ba_level_98 : decode cc_Ba_level 98 = .ok (.aload_n 0, 1) := by decide +kernel
theorem dd_Ba_level_99 : decode cc_Ba_level 99 = .ok (.getfield 16, 3) := by decide +kernel
theorem dd_Ba_level_102 : decode cc_Ba_level 102 = .ok (.getfield 54, 3) := by decide +kernel
theorem dd_Ba_level_105 : decode cc_Ba_level 105 = .ok (.invokevirtual 148, 3) := by decide +kernel
theorem dd_Ba_level_108 : decode cc_Ba_level 108 = .ok (.ireturn, 1) := by decide +kernel
theorem dd_Ba_inLevel_0 : decode cc_Ba_inLevel 0 = .ok (.aload_n 0, 1) := by decide +kernel
theorem dd_Ba_inLevel_1 : decode cc_Ba_inLevel 1 = .ok (.getfield 10, 3) := by decide +kernel
theorem dd_Ba_inLevel_4 : decode cc_Ba_inLevel 4 = .ok (.getfield 54, 3) := by decide +kernel
theorem dd_Ba_inLevel_7 : decode cc_Ba_inLevel 7 = .ok (.iload_n 2, 1) := by decide +kernel
theorem dd_Ba_inLevel_8 : decode cc_Ba_inLevel 8 = .ok (.invokevirtual 75, 3) := by decide +kernel
theorem dd_Ba_inLevel_11 : decode cc_Ba_inLevel 11 = .ok (.ifCond .eq 11, 3) := by decide +kernel
theorem dd_Ba_inLevel_14 : decode cc_Ba_inLevel 14 = .ok (.aload_n 0, 1) := by decide +kernel
theorem dd_Ba_inLevel_15 : decode cc_Ba_inLevel 15 = .ok (.iload_n 1, 1) := by decide +kernel
theorem dd_Ba_inLevel_16 : decode cc_Ba_inLevel 16 = .ok (.invokevirtual 137, 3) := by decide +kernel
theorem dd_Ba_inLevel_19 : decode cc_Ba_inLevel 19 = .ok (.ifCond .ne 5, 3) := by decide +kernel
theorem dd_Ba_inLevel_22 : decode cc_Ba_inLevel 22 = .ok (.iconst (-1), 1) := by decide +kernel
theorem dd_Ba_inLevel_23 : decode cc_Ba_inLevel 23 = .ok (.ireturn, 1) := by decide +kernel
theorem dd_Ba_inLevel_24 : decode cc_Ba_inLevel 24 = .ok (.aload_n 0, 1) := by decide +kernel
theorem dd_Ba_inLevel_25 : decode cc_Ba_inLevel 25 = .ok (.getfield 22, 3) := by decide +kernel
theorem dd_Ba_inLevel_28 : decode cc_Ba_inLevel 28 = .ok (.iload_n 1, 1) := by decide +kernel
theorem dd_Ba_inLevel_29 : decode cc_Ba_inLevel 29 = .ok (.iload_n 2, 1) := by decide +kernel
theorem dd_Ba_inLevel_30 : decode cc_Ba_inLevel 30 = .ok (.invokevirtual 151, 3) := by decide +kernel
theorem dd_Ba_inLevel_33 : decode cc_Ba_inLevel 33 = .ok (.ireturn, 1) := by decide +kernel
theorem dd_Ba_levelOf_0 : decode cc_Ba_levelOf 0 = .ok (.aload_n 0, 1) := by decide +kernel
theorem dd_Ba_levelOf_1 : decode cc_Ba_levelOf 1 = .ok (.iload_n 1, 1) := by decide +kernel
theorem dd_Ba_levelOf_2 : decode cc_Ba_levelOf 2 = .ok (.invokevirtual 137, 3) := by decide +kernel
theorem dd_Ba_levelOf_5 : decode cc_Ba_levelOf 5 = .ok (.ifCond .ne 5, 3) := by decide +kernel
theorem dd_Ba_levelOf_8 : decode cc_Ba_levelOf 8 = .ok (.iconst (-1), 1) := by decide +kernel
theorem dd_Ba_levelOf_9 : decode cc_Ba_levelOf 9 = .ok (.ireturn, 1) := by decide +kernel
theorem dd_Ba_levelOf_10 : decode cc_Ba_levelOf 10 = .ok (.aload_n 0, 1) := by decide +kernel
theorem dd_Ba_levelOf_11 : decode cc_Ba_levelOf 11 = .ok (.getfield 22, 3) := by decide +kernel
theorem dd_Ba_levelOf_14 : decode cc_Ba_levelOf 14 = .ok (.iload_n 1, 1) := by decide +kernel
theorem dd_Ba_levelOf_15 : decode cc_Ba_levelOf 15 = .ok (.aload_n 0, 1) := by decide +kernel
theorem dd_Ba_levelOf_16 : decode cc_Ba_levelOf 16 = .ok (.getfield 10, 3) := by decide +kernel
theorem dd_Ba_levelOf_19 : decode cc_Ba_levelOf 19 = .ok (.getfield 54, 3) := by decide +kernel
theorem dd_Ba_levelOf_22 : decode cc_Ba_levelOf 22 = .ok (.aload_n 0, 1) := by decide +kernel
theorem dd_Ba_levelOf_23 : decode cc_Ba_levelOf 23 = .ok (.getfield 16, 3) := by decide +kernel
theorem dd_Ba_levelOf_26 : decode cc_Ba_levelOf 26 = .ok (.getfield 54, 3) := by decide +kernel
theorem dd_Ba_levelOf_29 : decode cc_Ba_levelOf 29 = .ok (.invokevirtual 140, 3) := by decide +kernel
theorem dd_Ba_levelOf_32 : decode cc_Ba_levelOf 32 = .ok (.aload_n 0, 1) := by decide +kernel
theorem dd_Ba_levelOf_33 : decode cc_Ba_levelOf 33 = .ok (.getfield 16, 3) := by decide +kernel
theorem dd_Ba_levelOf_36 : decode cc_Ba_levelOf 36 = .ok (.getfield 54, 3) := by decide +kernel
theorem dd_Ba_levelOf_39 : decode cc_Ba_levelOf 39 = .ok (.iload_n 2, 1) := by decide +kernel
theorem dd_Ba_levelOf_40 : decode cc_Ba_levelOf 40 = .ok (.invokevirtual 75, 3) := by decide +kernel
theorem dd_Ba_levelOf_43 : decode cc_Ba_levelOf 43 = .ok (.ifCond .ne 5, 3) := by decide +kernel
theorem dd_Ba_levelOf_46 : decode cc_Ba_levelOf 46 = .ok (.iconst (-1), 1) := by decide +kernel
theorem dd_Ba_levelOf_47 : decode cc_Ba_levelOf 47 = .ok (.ireturn, 1) := by decide +kernel
theorem dd_Ba_levelOf_48 : decode cc_Ba_levelOf 48 = .ok (.iload_n 3, 1) := by decide +kernel
theorem dd_Ba_levelOf_49 : decode cc_Ba_levelOf 49 = .ok (.iconst (-1), 1) := by decide +kernel
theorem dd_Ba_levelOf_50 : decode cc_Ba_levelOf 50 = .ok (.if_icmp .ne 16, 3) := by decide +kernel
theorem dd_Ba_levelOf_53 : decode cc_Ba_levelOf 53 = .ok (.aload_n 0, 1) := by decide +kernel
theorem dd_Ba_levelOf_54 : decode cc_Ba_levelOf 54 = .ok (.getfield 16, 3) := by decide +kernel
theorem dd_Ba_levelOf_57 : decode cc_Ba_levelOf 57 = .ok (.getfield 54, 3) := by decide +kernel
theorem dd_Ba_levelOf_60 : decode cc_Ba_levelOf 60 = .ok (.getfield 64, 3) := by decide +kernel
theorem dd_Ba_levelOf_63 : decode cc_Ba_levelOf 63 = .ok (.iload_n 2, 1) := by decide +kernel
theorem dd_Ba_levelOf_64 : decode cc_Ba_levelOf 64 = .ok (.iaload, 1) := by decide +kernel
theorem dd_Ba_levelOf_65 : decode cc_Ba_levelOf 65 = .ok (.ireturn, 1) := by decide +kernel
theorem dd_Ba_levelOf_66 : decode cc_Ba_levelOf 66 = .ok (.aload_n 0, 1) := by decide +kernel
theorem dd_Ba_levelOf_67 : decode cc_Ba_levelOf 67 = .ok (.getfield 16, 3) := by decide +kernel
theorem dd_Ba_levelOf_70 : decode cc_Ba_levelOf 70 = .ok (.getfield 54, 3) := by decide +kernel
theorem dd_Ba_levelOf_73 : decode cc_Ba_levelOf 73 = .ok (.iload_n 3, 1) := by decide +kernel
theorem dd_Ba_levelOf_74 : decode cc_Ba_levelOf 74 = .ok (.invokevirtual 75, 3) := by decide +kernel
theorem dd_Ba_levelOf_77 : decode cc_Ba_levelOf 77 = .ok (.ifCond .eq 18, 3) := by decide +kernel
theorem dd_Ba_levelOf_80 : decode cc_Ba_levelOf 80 = .ok (.aload_n 0, 1) := by decide +kernel
theorem dd_Ba_levelOf_81 : decode cc_Ba_levelOf 81 = .ok (.getfield 16, 3) := by decide +kernel
theorem dd_Ba_levelOf_84 : decode cc_Ba_levelOf 84 = .ok (.getfield 54, 3) := by decide +kernel
theorem dd_Ba_levelOf_87 : decode cc_Ba_levelOf 87 = .ok (.iload_n 2, 1) := by decide +kernel
theorem dd_Ba_levelOf_88 : decode cc_Ba_levelOf 88 = .ok (.iload_n 3, 1) := by decide +kernel
theorem dd_Ba_levelOf_89 : decode cc_Ba_levelOf 89 = .ok (.invokevirtual 79, 3) := by decide +kernel
theorem dd_Ba_levelOf_92 : decode cc_Ba_levelOf 92 = .ok (.goto 4, 3) := by decide +kernel
theorem dd_Ba_levelOf_95 : decode cc_Ba_levelOf 95 = .ok (.iconst (-1), 1) := by decide +kernel
theorem dd_Ba_levelOf_96 : decode cc_Ba_levelOf 96 = .ok (.ireturn, 1) := by decide +kernel
theorem dd_Ba_splitFirst_0 : decode cc_Ba_splitFirst 0 = .ok (.aload_n 0, 1) := by decide +kernel
theorem dd_Ba_splitFirst_1 : decode cc_Ba_splitFirst 1 = .ok (.getfield 16, 3) := by decide +kernel
theorem dd_Ba_splitFirst_4 : decode cc_Ba_splitFirst 4 = .ok (.getfield 54, 3) := by decide +kernel
theorem dd_Ba_splitFirst_7 : decode cc_Ba_splitFirst 7 = .ok (.getfield 58, 3) := by decide +kernel
theorem dd_Ba_splitFirst_10 : decode cc_Ba_splitFirst 10 = .ok (.bipush 6, 2) := by decide +kernel
theorem dd_Ba_splitFirst_12 : decode cc_Ba_splitFirst 12 = .ok (.if_icmp .gt 17, 3) := by decide +kernel
theorem dd_Ba_splitFirst_15 : decode cc_Ba_splitFirst 15 = .ok (.aload_n 0, 1) := by decide +kernel
theorem dd_Ba_splitFirst_16 : decode cc_Ba_splitFirst 16 = .ok (.getfield 29, 3) := by decide +kernel
theorem dd_Ba_splitFirst_19 : decode cc_Ba_splitFirst 19 = .ok (.aload_n 0, 1) := by decide +kernel
theorem dd_Ba_splitFirst_20 : decode cc_Ba_splitFirst 20 = .ok (.getfield 16, 3) := by decide +kernel
theorem dd_Ba_splitFirst_23 : decode cc_Ba_splitFirst 23 = .ok (.invokevirtual 200, 3) := by decide +kernel
theorem dd_Ba_splitFirst_26 : decode cc_Ba_splitFirst 26 = .ok (.goto 10, 3) := by decide +kernel
theorem dd_Ba_splitFirst_29 : decode cc_Ba_splitFirst 29 = .ok (.aload_n 0, 1) := by decide +kernel
theorem dd_Ba_splitFirst_30 : decode cc_Ba_splitFirst 30 = .ok (.getfield 16, 3) := by decide +kernel
theorem dd_Ba_splitFirst_33 : decode cc_Ba_splitFirst 33 = .ok (.invokevirtual 182, 3) := by decide +kernel
theorem dd_Ba_splitFirst_36 : decode cc_Ba_splitFirst 36 = .ok (.return_, 1) := by decide +kernel
theorem dd_Ba_cutOrMiss_0 : decode cc_Ba_cutOrMiss 0 = .ok (.aload_n 0, 1) := by decide +kernel
theorem dd_Ba_cutOrMiss_1 : decode cc_Ba_cutOrMiss 1 = .ok (.getfield 10, 3) := by decide +kernel
theorem dd_Ba_cutOrMiss_4 : decode cc_Ba_cutOrMiss 4 = .ok (.invokevirtual 111, 3) := by decide +kernel
theorem dd_Ba_cutOrMiss_7 : decode cc_Ba_cutOrMiss 7 = .ok (.aload_n 0, 1) := by decide +kernel
theorem dd_Ba_cutOrMiss_8 : decode cc_Ba_cutOrMiss 8 = .ok (.getfield 10, 3) := by decide +kernel
theorem dd_Ba_cutOrMiss_11 : decode cc_Ba_cutOrMiss 11 = .ok (.getfield 130, 3) := by decide +kernel
theorem dd_Ba_cutOrMiss_14 : decode cc_Ba_cutOrMiss 14 = .ok (.ifCond .ne 13, 3) := by decide +kernel
theorem dd_Ba_cutOrMiss_17 : decode cc_Ba_cutOrMiss 17 = .ok (.aload_n 0, 1) := by decide +kernel
theorem dd_Ba_cutOrMiss_18 : decode cc_Ba_cutOrMiss 18 = .ok (.getfield 10, 3) := by decide +kernel
theorem dd_Ba_cutOrMiss_21 : decode cc_Ba_cutOrMiss 21 = .ok (.getfield 127, 3) := by decide +kernel
theorem dd_Ba_cutOrMiss_24 : decode cc_Ba_cutOrMiss 24 = .ok (.goto 13, 3) := by decide +kernel
theorem dd_Ba_cutOrMiss_27 : decode cc_Ba_cutOrMiss 27 = .ok (.bipush (-10), 2) := by decide +kernel
theorem dd_Ba_cutOrMiss_29 : decode cc_Ba_cutOrMiss 29 = .ok (.aload_n 0, 1) := by decide +kernel
theorem dd_Ba_cutOrMiss_30 : decode cc_Ba_cutOrMiss 30 = .ok (.getfield 10, 3) := by decide +kernel
theorem dd_Ba_cutOrMiss_33 : decode cc_Ba_cutOrMiss 33 = .ok (.getfield 130, 3) := by decide +kernel
theorem dd_Ba_cutOrMiss_36 : decode cc_Ba_cutOrMiss 36 = .ok (.isub, 1) := by decide +kernel
theorem dd_Ba_cutOrMiss_37 : decode cc_Ba_cutOrMiss 37 = .ok (.ireturn, 1) := by decide +kernel
theorem dd_Ba_run_0 : decode cc_Ba_run 0 = .ok (.aload_n 0, 1) := by decide +kernel
theorem dd_Ba_run_1 : decode cc_Ba_run 1 = .ok (.getfield 22, 3) := by decide +kernel
theorem dd_Ba_run_4 : decode cc_Ba_run 4 = .ok (.aload_n 0, 1) := by decide +kernel
theorem dd_Ba_run_5 : decode cc_Ba_run 5 = .ok (.getfield 10, 3) := by decide +kernel
theorem dd_Ba_run_8 : decode cc_Ba_run 8 = .ok (.getfield 54, 3) := by decide +kernel
theorem dd_Ba_run_11 : decode cc_Ba_run 11 = .ok (.aload_n 0, 1) := by decide +kernel
theorem dd_Ba_run_12 : decode cc_Ba_run 12 = .ok (.getfield 10, 3) := by decide +kernel
theorem dd_Ba_run_15 : decode cc_Ba_run 15 = .ok (.getfield 88, 3) := by decide +kernel
theorem dd_Ba_run_18 : decode cc_Ba_run 18 = .ok (.getfield 92, 3) := by decide +kernel
theorem dd_Ba_run_21 : decode cc_Ba_run 21 = .ok (.aload_n 0, 1) := by decide +kernel
theorem dd_Ba_run_22 : decode cc_Ba_run 22 = .ok (.getfield 16, 3) := by decide +kernel
theorem dd_Ba_run_25 : decode cc_Ba_run 25 = .ok (.getfield 54, 3) := by decide +kernel
theorem dd_Ba_run_28 : decode cc_Ba_run 28 = .ok (.invokevirtual 154, 3) := by decide +kernel
theorem dd_Ba_run_31 : decode cc_Ba_run 31 = .ok (.aload_n 0, 1) := by decide +kernel
theorem dd_Ba_run_32 : decode cc_Ba_run 32 = .ok (.getfield 16, 3) := by decide +kernel
theorem dd_Ba_run_35 : decode cc_Ba_run 35 = .ok (.getfield 88, 3) := by decide +kernel
theorem dd_Ba_run_38 : decode cc_Ba_run 38 = .ok (.aload_n 0, 1) := by decide +kernel
theorem dd_Ba_run_39 : decode cc_Ba_run 39 = .ok (.getfield 10, 3) := by decide +kernel
theorem dd_Ba_run_42 : decode cc_Ba_run 42 = .ok (.getfield 88, 3) := by decide +kernel
theorem dd_Ba_run_45 : decode cc_Ba_run 45 = .ok (.invokevirtual 158, 3) := by decide +kernel
theorem dd_Ba_run_48 : decode cc_Ba_run 48 = .ok (.aload_n 0, 1) := by decide +kernel
theorem dd_Ba_run_49 : decode cc_Ba_run 49 = .ok (.getfield 22, 3) := by decide +kernel
theorem dd_Ba_run_52 : decode cc_Ba_run 52 = .ok (.getfield 162, 3) := by decide +kernel
theorem dd_Ba_run_55 : decode cc_Ba_run 55 = .ok (.iconst 1, 1) := by decide +kernel
theorem dd_Ba_run_56 : decode cc_Ba_run 56 = .ok (.isub, 1) := by decide +kernel
theorem dd_Ba_run_57 : decode cc_Ba_run 57 = .ok (.istore_n 1, 1) := by decide +kernel
theorem dd_Ba_run_58 : decode cc_Ba_run 58 = .ok (.iload_n 1, 1) := by decide +kernel
theorem dd_Ba_run_59 : decode cc_Ba_run 59 = .ok (.istore_n 2, 1) := by decide +kernel
theorem dd_Ba_run_60 : decode cc_Ba_run 60 = .ok (.iload_n 2, 1) := by decide +kernel
theorem dd_Ba_run_61 : decode cc_Ba_run 61 = .ok (.ifCond .lt 119, 3) := by decide +kernel
theorem dd_Ba_run_64 : decode cc_Ba_run 64 = .ok (.aload_n 0, 1) := by decide +kernel
theorem dd_Ba_run_65 : decode cc_Ba_run 65 = .ok (.getfield 22, 3) := by decide +kernel
theorem dd_Ba_run_68 : decode cc_Ba_run 68 = .ok (.iload_n 2, 1) := by decide +kernel
theorem dd_Ba_run_69 : decode cc_Ba_run 69 = .ok (.aload_n 0, 1) := by decide +kernel
theorem dd_Ba_run_70 : decode cc_Ba_run 70 = .ok (.getfield 10, 3) := by decide +kernel
theorem dd_Ba_run_73 : decode cc_Ba_run 73 = .ok (.getfield 54, 3) := by decide +kernel
theorem dd_Ba_run_76 : decode cc_Ba_run 76 = .ok (.aload_n 0, 1) := by decide +kernel
theorem dd_Ba_run_77 : decode cc_Ba_run 77 = .ok (.getfield 16, 3) := by decide +kernel
theorem dd_Ba_run_80 : decode cc_Ba_run 80 = .ok (.getfield 54, 3) := by decide +kernel
theorem dd_Ba_run_83 : decode cc_Ba_run 83 = .ok (.invokevirtual 140, 3) := by decide +kernel
theorem dd_Ba_run_86 : decode cc_Ba_run 86 = .ok (.iload_n 2, 1) := by decide +kernel
theorem dd_Ba_run_87 : decode cc_Ba_run 87 = .ok (.iload_n 1, 1) := by decide +kernel
theorem dd_Ba_run_88 : decode cc_Ba_run 88 = .ok (.if_icmp .ne 10, 3) := by decide +kernel
theorem dd_Ba_run_91 : decode cc_Ba_run 91 = .ok (.aload_n 0, 1) := by decide +kernel
theorem dd_Ba_run_92 : decode cc_Ba_run 92 = .ok (.invokevirtual 165, 3) := by decide +kernel
theorem dd_Ba_run_95 : decode cc_Ba_run 95 = .ok (.goto 35, 3) := by decide +kernel
theorem dd_Ba_run_98 : decode cc_Ba_run 98 = .ok (.aload_n 0, 1) := by decide +kernel
theorem dd_Ba_run_99 : decode cc_Ba_run 99 = .ok (.getfield 22, 3) := by decide +kernel
theorem dd_Ba_run_102 : decode cc_Ba_run 102 = .ok (.iload_n 2, 1) := by decide +kernel
theorem dd_Ba_run_103 : decode cc_Ba_run 103 = .ok (.aload_n 0, 1) := by decide +kernel
theorem dd_Ba_run_104 : decode cc_Ba_run 104 = .ok (.getfield 10, 3) := by decide +kernel
theorem dd_Ba_run_107 : decode cc_Ba_run 107 = .ok (.getfield 68, 3) := by decide +kernel
theorem dd_Ba_run_110 : decode cc_Ba_run 110 = .ok (.aload_n 0, 1) := by decide +kernel
theorem dd_Ba_run_111 : decode cc_Ba_run 111 = .ok (.getfield 16, 3) := by decide +kernel
theorem dd_Ba_run_114 : decode cc_Ba_run 114 = .ok (.getfield 68, 3) := by decide +kernel
theorem dd_Ba_run_117 : decode cc_Ba_run 117 = .ok (.aload_n 0, 1) := by decide +kernel
theorem dd_Ba_run_118 : decode cc_Ba_run 118 = .ok (.getfield 10, 3) := by decide +kernel
theorem dd_Ba_run_121 : decode cc_Ba_run 121 = .ok (.getfield 54, 3) := by decide +kernel
theorem dd_Ba_run_124 : decode cc_Ba_run 124 = .ok (.getfield 58, 3) := by decide +kernel
theorem dd_Ba_run_127 : decode cc_Ba_run 127 = .ok (.invokevirtual 168, 3) := by decide +kernel
theorem dd_Ba_run_130 : decode cc_Ba_run 130 = .ok (.aload_n 0, 1) := by decide +kernel
theorem dd_Ba_run_131 : decode cc_Ba_run 131 = .ok (.getfield 36, 3) := by decide +kernel
theorem dd_Ba_run_134 : decode cc_Ba_run 134 = .ok (.aload_n 0, 1) := by decide +kernel
theorem dd_Ba_run_135 : decode cc_Ba_run 135 = .ok (.getfield 16, 3) := by decide +kernel
theorem dd_Ba_run_138 : decode cc_Ba_run 138 = .ok (.invokevirtual 172, 3) := by decide +kernel
theorem dd_Ba_run_141 : decode cc_Ba_run 141 = .ok (.pop, 1) := by decide +kernel
theorem dd_Ba_run_142 : decode cc_Ba_run 142 = .ok (.aload_n 0, 1) := by decide +kernel
theorem dd_Ba_run_143 : decode cc_Ba_run 143 = .ok (.getfield 22, 3) := by decide +kernel
theorem dd_Ba_run_146 : decode cc_Ba_run 146 = .ok (.iload_n 2, 1) := by decide +kernel
theorem dd_Ba_run_147 : decode cc_Ba_run 147 = .ok (.aload_n 0, 1) := by decide +kernel
theorem dd_Ba_run_148 : decode cc_Ba_run 148 = .ok (.getfield 16, 3) := by decide +kernel
theorem dd_Ba_run_151 : decode cc_Ba_run 151 = .ok (.getfield 68, 3) := by decide +kernel
theorem dd_Ba_run_154 : decode cc_Ba_run 154 = .ok (.aload_n 0, 1) := by decide +kernel
theorem dd_Ba_run_155 : decode cc_Ba_run 155 = .ok (.getfield 10, 3) := by decide +kernel
theorem dd_Ba_run_158 : decode cc_Ba_run 158 = .ok (.getfield 68, 3) := by decide +kernel
theorem dd_Ba_run_161 : decode cc_Ba_run 161 = .ok (.aload_n 0, 1) := by decide +kernel
theorem dd_Ba_run_162 : decode cc_Ba_run 162 = .ok (.getfield 10, 3) := by decide +kernel
theorem dd_Ba_run_165 : decode cc_Ba_run 165 = .ok (.getfield 54, 3) := by decide +kernel
theorem dd_Ba_run_168 : decode cc_Ba_run 168 = .ok (.getfield 58, 3) := by decide +kernel
theorem dd_Ba_run_171 : decode cc_Ba_run 171 = .ok (.invokevirtual 176, 3) := by decide +kernel
theorem dd_Ba_run_174 : decode cc_Ba_run 174 = .ok (.iinc 2 (-1), 3) := by decide +kernel
theorem dd_Ba_run_177 : decode cc_Ba_run 177 = .ok (.goto (-117), 3) := by decide +kernel
theorem dd_Ba_run_180 : decode cc_Ba_run 180 = .ok (.aload_n 0, 1) := by decide +kernel
theorem dd_Ba_run_181 : decode cc_Ba_run 181 = .ok (.invokevirtual 179, 3) := by decide +kernel
theorem dd_Ba_run_184 : decode cc_Ba_run 184 = .ok (.ireturn, 1) := by decide +kernel
theorem dd_Ba_refine_0 : decode cc_Ba_refine 0 = .ok (.aload_n 0, 1) := by decide +kernel
theorem dd_Ba_refine_1 : decode cc_Ba_refine 1 = .ok (.getfield 36, 3) := by decide +kernel
theorem dd_Ba_refine_4 : decode cc_Ba_refine 4 = .ok (.aload_n 0, 1) := by decide +kernel
theorem dd_Ba_refine_5 : decode cc_Ba_refine 5 = .ok (.getfield 10, 3) := by decide +kernel
theorem dd_Ba_refine_8 : decode cc_Ba_refine 8 = .ok (.invokevirtual 172, 3) := by decide +kernel
theorem dd_Ba_refine_11 : decode cc_Ba_refine 11 = .ok (.ireturn, 1) := by decide +kernel
theorem dd_Ba_grow_0 : decode cc_Ba_grow 0 = .ok (.aload_n 0, 1) := by decide +kernel
theorem dd_Ba_grow_1 : decode cc_Ba_grow 1 = .ok (.getfield 10, 3) := by decide +kernel
theorem dd_Ba_grow_4 : decode cc_Ba_grow 4 = .ok (.invokevirtual 182, 3) := by decide +kernel
theorem dd_Ba_grow_7 : decode cc_Ba_grow 7 = .ok (.aload_n 0, 1) := by decide +kernel
theorem dd_Ba_grow_8 : decode cc_Ba_grow 8 = .ok (.getfield 10, 3) := by decide +kernel
theorem dd_Ba_grow_11 : decode cc_Ba_grow 11 = .ok (.invokevirtual 111, 3) := by decide +kernel
theorem dd_Ba_grow_14 : decode cc_Ba_grow 14 = .ok (.aload_n 0, 1) := by decide +kernel
theorem dd_Ba_grow_15 : decode cc_Ba_grow 15 = .ok (.getfield 10, 3) := by decide +kernel
theorem dd_Ba_grow_18 : decode cc_Ba_grow 18 = .ok (.getfield 127, 3) := by decide +kernel
theorem dd_Ba_grow_21 : decode cc_Ba_grow 21 = .ok (.ireturn, 1) := by decide +kernel
theorem dd_Ba_stream_0 : decode cc_Ba_stream 0 = .ok (.iload_n 2, 1) := by decide +kernel
theorem dd_Ba_stream_1 : decode cc_Ba_stream 1 = .ok (.ifCond .lt 10, 3) := by decide +kernel
theorem dd_Ba_stream_4 : decode cc_Ba_stream 4 = .ok (.iload_n 2, 1) := by decide +kernel
theorem dd_Ba_stream_5 : decode cc_Ba_stream 5 = .ok (.sipush 1000, 3) := by decide +kernel
theorem dd_Ba_stream_8 : decode cc_Ba_stream 8 = .ok (.if_icmp .le 5, 3) := by decide +kernel
theorem dd_Ba_stream_11 : decode cc_Ba_stream 11 = .ok (.iconst (-1), 1) := by decide +kernel
theorem dd_Ba_stream_12 : decode cc_Ba_stream 12 = .ok (.ireturn, 1) := by decide +kernel
theorem dd_Ba_stream_13 : decode cc_Ba_stream 13 = .ok (.aload_n 0, 1) := by decide +kernel
theorem dd_Ba_stream_14 : decode cc_Ba_stream 14 = .ok (.getfield 43, 3) := by decide +kernel
theorem dd_Ba_stream_17 : decode cc_Ba_stream 17 = .ok (.iload_n 1, 1) := by decide +kernel
theorem dd_Ba_stream_18 : decode cc_Ba_stream 18 = .ok (.aload_n 0, 1) := by decide +kernel
theorem dd_Ba_stream_19 : decode cc_Ba_stream 19 = .ok (.getfield 10, 3) := by decide +kernel
theorem dd_Ba_stream_22 : decode cc_Ba_stream 22 = .ok (.getfield 54, 3) := by decide +kernel
theorem dd_Ba_stream_25 : decode cc_Ba_stream 25 = .ok (.getfield 58, 3) := by decide +kernel
theorem dd_Ba_stream_28 : decode cc_Ba_stream 28 = .ok (.invokevirtual 185, 3) := by decide +kernel
theorem dd_Ba_stream_31 : decode cc_Ba_stream 31 = .ok (.aload_n 0, 1) := by decide +kernel
theorem dd_Ba_stream_32 : decode cc_Ba_stream 32 = .ok (.getfield 10, 3) := by decide +kernel
theorem dd_Ba_stream_35 : decode cc_Ba_stream 35 = .ok (.aload_n 0, 1) := by decide +kernel
theorem dd_Ba_stream_36 : decode cc_Ba_stream 36 = .ok (.getfield 43, 3) := by decide +kernel
theorem dd_Ba_stream_39 : decode cc_Ba_stream 39 = .ok (.getfield 189, 3) := by decide +kernel
theorem dd_Ba_stream_42 : decode cc_Ba_stream 42 = .ok (.iload_n 2, 1) := by decide +kernel
theorem dd_Ba_stream_43 : decode cc_Ba_stream 43 = .ok (.invokevirtual 192, 3) := by decide +kernel
theorem dd_Ba_stream_46 : decode cc_Ba_stream 46 = .ok (.aload_n 0, 1) := by decide +kernel
theorem dd_Ba_stream_47 : decode cc_Ba_stream 47 = .ok (.getfield 10, 3) := by decide +kernel
theorem dd_Ba_stream_50 : decode cc_Ba_stream 50 = .ok (.invokevirtual 111, 3) := by decide +kernel
theorem dd_Ba_stream_53 : decode cc_Ba_stream 53 = .ok (.aload_n 0, 1) := by decide +kernel
theorem dd_Ba_stream_54 : decode cc_Ba_stream 54 = .ok (.getfield 10, 3) := by decide +kernel
theorem dd_Ba_stream_57 : decode cc_Ba_stream 57 = .ok (.getfield 127, 3) := by decide +kernel
theorem dd_Ba_stream_60 : decode cc_Ba_stream 60 = .ok (.ireturn, 1) := by decide +kernel
theorem dd_Ba_order_0 : decode cc_Ba_order 0 = .ok (.aload_n 0, 1) := by decide +kernel
theorem dd_Ba_order_1 : decode cc_Ba_order 1 = .ok (.getfield 10, 3) := by decide +kernel
theorem dd_Ba_order_4 : decode cc_Ba_order 4 = .ok (.getfield 54, 3) := by decide +kernel
theorem dd_Ba_order_7 : decode cc_Ba_order 7 = .ok (.iload_n 2, 1) := by decide +kernel
theorem dd_Ba_order_8 : decode cc_Ba_order 8 = .ok (.invokevirtual 75, 3) := by decide +kernel
theorem dd_Ba_order_11 : decode cc_Ba_order 11 = .ok (.ifCond .ne 6, 3) := by decide +kernel
theorem dd_Ba_order_14 : decode cc_Ba_order 14 = .ok (.bipush (-2), 2) := by decide +kernel
theorem dd_Ba_order_16 : decode cc_Ba_order 16 = .ok (.ireturn, 1) := by decide +kernel
theorem dd_Ba_order_17 : decode cc_Ba_order 17 = .ok (.aload_n 0, 1) := by decide +kernel
theorem dd_Ba_order_18 : decode cc_Ba_order 18 = .ok (.getfield 43, 3) := by decide +kernel
theorem dd_Ba_order_21 : decode cc_Ba_order 21 = .ok (.iload_n 1, 1) := by decide +kernel
theorem dd_Ba_order_22 : decode cc_Ba_order 22 = .ok (.aload_n 0, 1) := by decide +kernel
theorem dd_Ba_order_23 : decode cc_Ba_order 23 = .ok (.getfield 10, 3) := by decide +kernel
theorem dd_Ba_order_26 : decode cc_Ba_order 26 = .ok (.getfield 54, 3) := by decide +kernel
theorem dd_Ba_order_29 : decode cc_Ba_order 29 = .ok (.getfield 58, 3) := by decide +kernel
theorem dd_Ba_order_32 : decode cc_Ba_order 32 = .ok (.invokevirtual 185, 3) := by decide +kernel
theorem dd_Ba_order_35 : decode cc_Ba_order 35 = .ok (.aload_n 0, 1) := by decide +kernel
theorem dd_Ba_order_36 : decode cc_Ba_order 36 = .ok (.getfield 43, 3) := by decide +kernel
theorem dd_Ba_order_39 : decode cc_Ba_order 39 = .ok (.getfield 189, 3) := by decide +kernel
theorem dd_Ba_order_42 : decode cc_Ba_order 42 = .ok (.iload_n 2, 1) := by decide +kernel
theorem dd_Ba_order_43 : decode cc_Ba_order 43 = .ok (.iaload, 1) := by decide +kernel
theorem dd_Ba_order_44 : decode cc_Ba_order 44 = .ok (.ireturn, 1) := by decide +kernel
theorem dd_Ba_hasTooManySplits_0 : decode cc_Ba_hasTooManySplits 0 = .ok (.iconst 1, 1) := by decide +kernel
theorem dd_Ba_hasTooManySplits_1 : decode cc_Ba_hasTooManySplits 1 = .ok (.istore_n 1, 1) := by decide +kernel
theorem dd_Ba_hasTooManySplits_2 : decode cc_Ba_hasTooManySplits 2 = .ok (.iconst 0, 1) := by decide +kernel
theorem dd_Ba_hasTooManySplits_3 : decode cc_Ba_hasTooManySplits 3 = .ok (.istore_n 2, 1) := by decide +kernel
theorem dd_Ba_hasTooManySplits_4 : decode cc_Ba_hasTooManySplits 4 = .ok (.iload_n 2, 1) := by decide +kernel
theorem dd_Ba_hasTooManySplits_5 : decode cc_Ba_hasTooManySplits 5 = .ok (.aload_n 0, 1) := by decide +kernel
theorem dd_Ba_hasTooManySplits_6 : decode cc_Ba_hasTooManySplits 6 = .ok (.getfield 10, 3) := by decide +kernel
theorem dd_Ba_hasTooManySplits_9 : decode cc_Ba_hasTooManySplits 9 = .ok (.getfield 54, 3) := by decide +kernel
theorem dd_Ba_hasTooManySplits_12 : decode cc_Ba_hasTooManySplits 12 = .ok (.getfield 58, 3) := by decide +kernel
theorem dd_Ba_hasTooManySplits_15 : decode cc_Ba_hasTooManySplits 15 = .ok (.if_icmp .ge 28, 3) := by decide +kernel
theorem dd_Ba_hasTooManySplits_18 : decode cc_Ba_hasTooManySplits 18 = .ok (.iload_n 1, 1) := by decide +kernel
theorem dd_Ba_hasTooManySplits_19 : decode cc_Ba_hasTooManySplits 19 = .ok (.ldc 224, 2) := by decide +kernel
theorem dd_Ba_hasTooManySplits_21 : decode cc_Ba_hasTooManySplits 21 = .ok (.if_icmp .gt 22, 3) := by decide +kernel
theorem dd_Ba_hasTooManySplits_24 : decode cc_Ba_hasTooManySplits 24 = .ok (.iload_n 1, 1) := by decide +kernel
theorem dd_Ba_hasTooManySplits_25 : decode cc_Ba_hasTooManySplits 25 = .ok (.aload_n 0, 1) := by decide +kernel
theorem dd_Ba_hasTooManySplits_26 : decode cc_Ba_hasTooManySplits 26 = .ok (.getfield 10, 3) := by decide +kernel
theorem dd_Ba_hasTooManySplits_29 : decode cc_Ba_hasTooManySplits 29 = .ok (.getfield 88, 3) := by decide +kernel
theorem dd_Ba_hasTooManySplits_32 : decode cc_Ba_hasTooManySplits 32 = .ok (.getfield 92, 3) := by decide +kernel
theorem dd_Ba_hasTooManySplits_35 : decode cc_Ba_hasTooManySplits 35 = .ok (.imul, 1) := by decide +kernel
theorem dd_Ba_hasTooManySplits_36 : decode cc_Ba_hasTooManySplits 36 = .ok (.istore_n 1, 1) := by decide +kernel
theorem dd_Ba_hasTooManySplits_37 : decode cc_Ba_hasTooManySplits 37 = .ok (.iinc 2 1, 3) := by decide +kernel
theorem dd_Ba_hasTooManySplits_40 : decode cc_Ba_hasTooManySplits 40 = .ok (.goto (-36), 3) := by decide +kernel
theorem dd_Ba_hasTooManySplits_43 : decode cc_Ba_hasTooManySplits 43 = .ok (.iload_n 1, 1) := by decide +kernel
theorem dd_Ba_hasTooManySplits_44 : decode cc_Ba_hasTooManySplits 44 = .ok (.ldc 224, 2) := by decide +kernel
theorem dd_Ba_hasTooManySplits_46 : decode cc_Ba_hasTooManySplits 46 = .ok (.if_icmp .le 7, 3) := by decide +kernel
theorem dd_Ba_hasTooManySplits_49 : decode cc_Ba_hasTooManySplits 49 = .ok (.iconst 1, 1) := by decide +kernel
theorem dd_Ba_hasTooManySplits_50 : decode cc_Ba_hasTooManySplits 50 = .ok (.goto 4, 3) := by decide +kernel
theorem dd_Ba_hasTooManySplits_53 : decode cc_Ba_hasTooManySplits 53 = .ok (.iconst 0, 1) := by decide +kernel
theorem dd_Ba_hasTooManySplits_54 : decode cc_Ba_hasTooManySplits 54 = .ok (.ireturn, 1) := by decide +kernel
theorem dd_Ba_exact_0 : decode cc_Ba_exact 0 = .ok (.aload_n 0, 1) := by decide +kernel
theorem dd_Ba_exact_1 : decode cc_Ba_exact 1 = .ok (.invokevirtual 196, 3) := by decide +kernel
theorem dd_Ba_exact_4 : decode cc_Ba_exact 4 = .ok (.ifCond .eq 6, 3) := by decide +kernel
theorem dd_Ba_exact_7 : decode cc_Ba_exact 7 = .ok (.bipush (-4), 2) := by decide +kernel
theorem dd_Ba_exact_9 : decode cc_Ba_exact 9 = .ok (.ireturn, 1) := by decide +kernel
theorem dd_Ba_exact_10 : decode cc_Ba_exact 10 = .ok (.aload_n 0, 1) := by decide +kernel
theorem dd_Ba_exact_11 : decode cc_Ba_exact 11 = .ok (.getfield 29, 3) := by decide +kernel
theorem dd_Ba_exact_14 : decode cc_Ba_exact 14 = .ok (.aload_n 0, 1) := by decide +kernel
theorem dd_Ba_exact_15 : decode cc_Ba_exact 15 = .ok (.getfield 10, 3) := by decide +kernel
theorem dd_Ba_exact_18 : decode cc_Ba_exact 18 = .ok (.invokevirtual 200, 3) := by decide +kernel
theorem dd_Ba_exact_21 : decode cc_Ba_exact 21 = .ok (.aload_n 0, 1) := by decide +kernel
theorem dd_Ba_exact_22 : decode cc_Ba_exact 22 = .ok (.invokevirtual 179, 3) := by decide +kernel
theorem dd_Ba_exact_25 : decode cc_Ba_exact 25 = .ok (.ireturn, 1) := by decide +kernel
theorem dd_Ba_separator_0 : decode cc_Ba_separator 0 = .ok (.aload_n 0, 1) := by decide +kernel
theorem dd_Ba_separator_1 : decode cc_Ba_separator 1 = .ok (.getfield 50, 3) := by decide +kernel
theorem dd_Ba_separator_4 : decode cc_Ba_separator 4 = .ok (.aload_n 0, 1) := by decide +kernel
theorem dd_Ba_separator_5 : decode cc_Ba_separator 5 = .ok (.getfield 10, 3) := by decide +kernel
theorem dd_Ba_separator_8 : decode cc_Ba_separator 8 = .ok (.invokevirtual 204, 3) := by decide +kernel
theorem dd_Ba_separator_11 : decode cc_Ba_separator 11 = .ok (.aload_n 0, 1) := by decide +kernel
theorem dd_Ba_separator_12 : decode cc_Ba_separator 12 = .ok (.getfield 50, 3) := by decide +kernel
theorem dd_Ba_separator_15 : decode cc_Ba_separator 15 = .ok (.iload_n 1, 1) := by decide +kernel
theorem dd_Ba_separator_16 : decode cc_Ba_separator 16 = .ok (.invokevirtual 207, 3) := by decide +kernel
theorem dd_Ba_separator_19 : decode cc_Ba_separator 19 = .ok (.ireturn, 1) := by decide +kernel
theorem dd_Ba_count_0 : decode cc_Ba_count 0 = .ok (.iload_n 1, 1) := by decide +kernel
theorem dd_Ba_count_1 : decode cc_Ba_count 1 = .ok (.tableswitch 145 0 5 #[39, 50, 61, 72, 111, 130], 39) := by decide +kernel
theorem dd_Ba_count_40 : decode cc_Ba_count 40 = .ok (.aload_n 0, 1) := by decide +kernel
theorem dd_Ba_count_41 : decode cc_Ba_count 41 = .ok (.getfield 10, 3) := by decide +kernel
theorem dd_Ba_count_44 : decode cc_Ba_count 44 = .ok (.getfield 54, 3) := by decide +kernel
theorem dd_Ba_count_47 : decode cc_Ba_count 47 = .ok (.getfield 58, 3) := by decide +kernel
theorem dd_Ba_count_50 : decode cc_Ba_count 50 = .ok (.ireturn, 1) := by decide +kernel
theorem dd_Ba_count_51 : decode cc_Ba_count 51 = .ok (.aload_n 0, 1) := by decide +kernel
theorem dd_Ba_count_52 : decode cc_Ba_count 52 = .ok (.getfield 10, 3) := by decide +kernel
theorem dd_Ba_count_55 : decode cc_Ba_count 55 = .ok (.getfield 88, 3) := by decide +kernel
theorem dd_Ba_count_58 : decode cc_Ba_count 58 = .ok (.getfield 92, 3) := by decide +kernel
theorem dd_Ba_count_61 : decode cc_Ba_count 61 = .ok (.ireturn, 1) := by decide +kernel
theorem dd_Ba_count_62 : decode cc_Ba_count 62 = .ok (.aload_n 0, 1) := by decide +kernel
theorem dd_Ba_count_63 : decode cc_Ba_count 63 = .ok (.getfield 10, 3) := by decide +kernel
theorem dd_Ba_count_66 : decode cc_Ba_count 66 = .ok (.getfield 54, 3) := by decide +kernel
theorem dd_Ba_count_69 : decode cc_Ba_count 69 = .ok (.invokevirtual 144, 3) := by decide +kernel
theorem dd_Ba_count_72 : decode cc_Ba_count 72 = .ok (.ireturn, 1) := by decide +kernel
theorem dd_Ba_count_73 : decode cc_Ba_count 73 = .ok (.aload_n 0, 1) := by decide +kernel
theorem dd_Ba_count_74 : decode cc_Ba_count 74 = .ok (.getfield 22, 3) := by decide +kernel
theorem dd_Ba_count_77 : decode cc_Ba_count 77 = .ok (.aload_n 0, 1) := by decide +kernel
theorem dd_Ba_count_78 : decode cc_Ba_count 78 = .ok (.getfield 10, 3) := by decide +kernel
theorem dd_Ba_count_81 : decode cc_Ba_count 81 = .ok (.getfield 54, 3) := by decide +kernel
theorem dd_Ba_count_84 : decode cc_Ba_count 84 = .ok (.aload_n 0, 1) := by decide +kernel
theorem dd_Ba_count_85 : decode cc_Ba_count 85 = .ok (.getfield 10, 3) := by decide +kernel
theorem dd_Ba_count_88 : decode cc_Ba_count 88 = .ok (.getfield 88, 3) := by decide +kernel
theorem dd_Ba_count_91 : decode cc_Ba_count 91 = .ok (.getfield 92, 3) := by decide +kernel
theorem dd_Ba_count_94 : decode cc_Ba_count 94 = .ok (.aload_n 0, 1) := by decide +kernel
theorem dd_Ba_count_95 : decode cc_Ba_count 95 = .ok (.getfield 16, 3) := by decide +kernel
theorem dd_Ba_count_98 : decode cc_Ba_count 98 = .ok (.getfield 54, 3) := by decide +kernel
theorem dd_Ba_count_101 : decode cc_Ba_count 101 = .ok (.invokevirtual 154, 3) := by decide +kernel
theorem dd_Ba_count_104 : decode cc_Ba_count 104 = .ok (.aload_n 0, 1) := by decide +kernel
theorem dd_Ba_count_105 : decode cc_Ba_count 105 = .ok (.getfield 22, 3) := by decide +kernel
theorem dd_Ba_count_108 : decode cc_Ba_count 108 = .ok (.getfield 162, 3) := by decide +kernel
theorem dd_Ba_count_111 : decode cc_Ba_count 111 = .ok (.ireturn, 1) := by decide +kernel
theorem dd_Ba_count_112 : decode cc_Ba_count 112 = .ok (.aload_n 0, 1) := by decide +kernel
theorem dd_Ba_count_113 : decode cc_Ba_count 113 = .ok (.getfield 50, 3) := by decide +kernel
theorem dd_Ba_count_116 : decode cc_Ba_count 116 = .ok (.aload_n 0, 1) := by decide +kernel
theorem dd_Ba_count_117 : decode cc_Ba_count 117 = .ok (.getfield 10, 3) := by decide +kernel
theorem dd_Ba_count_120 : decode cc_Ba_count 120 = .ok (.invokevirtual 204, 3) := by decide +kernel
theorem dd_Ba_count_123 : decode cc_Ba_count 123 = .ok (.aload_n 0, 1) := by decide +kernel
theorem dd_Ba_count_124 : decode cc_Ba_count 124 = .ok (.getfield 50, 3) := by decide +kernel
theorem dd_Ba_count_127 : decode cc_Ba_count 127 = .ok (.invokevirtual 210, 3) := by decide +kernel
theorem dd_Ba_count_130 : decode cc_Ba_count 130 = .ok (.ireturn, 1) := by decide +kernel
theorem dd_Ba_count_131 : decode cc_Ba_count 131 = .ok (.aload_n 0, 1) := by decide +kernel
theorem dd_Ba_count_132 : decode cc_Ba_count 132 = .ok (.getfield 10, 3) := by decide +kernel
theorem dd_Ba_count_135 : decode cc_Ba_count 135 = .ok (.invokevirtual 111, 3) := by decide +kernel
theorem dd_Ba_count_138 : decode cc_Ba_count 138 = .ok (.aload_n 0, 1) := by decide +kernel
theorem dd_Ba_count_139 : decode cc_Ba_count 139 = .ok (.getfield 10, 3) := by decide +kernel
theorem dd_Ba_count_142 : decode cc_Ba_count 142 = .ok (.invokevirtual 213, 3) := by decide +kernel
theorem dd_Ba_count_145 : decode cc_Ba_count 145 = .ok (.ireturn, 1) := by decide +kernel
theorem dd_Ba_count_146 : decode cc_Ba_count 146 = .ok (.iconst (-1), 1) := by decide +kernel
theorem dd_Ba_count_147 : decode cc_Ba_count 147 = .ok (.ireturn, 1) := by decide +kernel
theorem dd_Ba_new_0 : decode cc_Ba_new 0 = .ok (.aload_n 0, 1) := by decide +kernel
theorem dd_Ba_new_1 : decode cc_Ba_new 1 = .ok (.invokespecial 1, 3) := by decide +kernel
theorem dd_Ba_new_4 : decode cc_Ba_new 4 = .ok (.aload_n 0, 1) := by decide +kernel
theorem dd_Ba_new_5 : decode cc_Ba_new 5 = .ok (.new 7, 3) := by decide +kernel
theorem dd_Ba_new_8 : decode cc_Ba_new 8 = .ok (.dup, 1) := by decide +kernel
theorem dd_Ba_new_9 : decode cc_Ba_new 9 = .ok (.invokespecial 9, 3) := by decide +kernel
theorem dd_Ba_new_12 : decode cc_Ba_new 12 = .ok (.putfield 10, 3) := by decide +kernel
theorem dd_Ba_new_15 : decode cc_Ba_new 15 = .ok (.aload_n 0, 1) := by decide +kernel
theorem dd_Ba_new_16 : decode cc_Ba_new 16 = .ok (.new 7, 3) := by decide +kernel
theorem dd_Ba_new_19 : decode cc_Ba_new 19 = .ok (.dup, 1) := by decide +kernel
theorem dd_Ba_new_20 : decode cc_Ba_new 20 = .ok (.invokespecial 9, 3) := by decide +kernel
theorem dd_Ba_new_23 : decode cc_Ba_new 23 = .ok (.putfield 16, 3) := by decide +kernel
theorem dd_Ba_new_26 : decode cc_Ba_new 26 = .ok (.aload_n 0, 1) := by decide +kernel
theorem dd_Ba_new_27 : decode cc_Ba_new 27 = .ok (.new 19, 3) := by decide +kernel
theorem dd_Ba_new_30 : decode cc_Ba_new 30 = .ok (.dup, 1) := by decide +kernel
theorem dd_Ba_new_31 : decode cc_Ba_new 31 = .ok (.invokespecial 21, 3) := by decide +kernel
theorem dd_Ba_new_34 : decode cc_Ba_new 34 = .ok (.putfield 22, 3) := by decide +kernel
theorem dd_Ba_new_37 : decode cc_Ba_new 37 = .ok (.aload_n 0, 1) := by decide +kernel
theorem dd_Ba_new_38 : decode cc_Ba_new 38 = .ok (.new 26, 3) := by decide +kernel
theorem dd_Ba_new_41 : decode cc_Ba_new 41 = .ok (.dup, 1) := by decide +kernel
theorem dd_Ba_new_42 : decode cc_Ba_new 42 = .ok (.invokespecial 28, 3) := by decide +kernel
theorem dd_Ba_new_45 : decode cc_Ba_new 45 = .ok (.putfield 29, 3) := by decide +kernel
theorem dd_Ba_new_48 : decode cc_Ba_new 48 = .ok (.aload_n 0, 1) := by decide +kernel
theorem dd_Ba_new_49 : decode cc_Ba_new 49 = .ok (.new 33, 3) := by decide +kernel
theorem dd_Ba_new_52 : decode cc_Ba_new 52 = .ok (.dup, 1) := by decide +kernel
theorem dd_Ba_new_53 : decode cc_Ba_new 53 = .ok (.invokespecial 35, 3) := by decide +kernel
theorem dd_Ba_new_56 : decode cc_Ba_new 56 = .ok (.putfield 36, 3) := by decide +kernel
theorem dd_Ba_new_59 : decode cc_Ba_new 59 = .ok (.aload_n 0, 1) := by decide +kernel
theorem dd_Ba_new_60 : decode cc_Ba_new 60 = .ok (.new 40, 3) := by decide +kernel
theorem dd_Ba_new_63 : decode cc_Ba_new 63 = .ok (.dup, 1) := by decide +kernel
theorem dd_Ba_new_64 : decode cc_Ba_new 64 = .ok (.invokespecial 42, 3) := by decide +kernel
theorem dd_Ba_new_67 : decode cc_Ba_new 67 = .ok (.putfield 43, 3) := by decide +kernel
theorem dd_Ba_new_70 : decode cc_Ba_new 70 = .ok (.aload_n 0, 1) := by decide +kernel
theorem dd_Ba_new_71 : decode cc_Ba_new 71 = .ok (.new 47, 3) := by decide +kernel
theorem dd_Ba_new_74 : decode cc_Ba_new 74 = .ok (.dup, 1) := by decide +kernel
theorem dd_Ba_new_75 : decode cc_Ba_new 75 = .ok (.invokespecial 49, 3) := by decide +kernel
theorem dd_Ba_new_78 : decode cc_Ba_new 78 = .ok (.putfield 50, 3) := by decide +kernel
theorem dd_Ba_new_81 : decode cc_Ba_new 81 = .ok (.return_, 1) := by decide +kernel
