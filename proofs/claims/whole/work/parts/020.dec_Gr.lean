theorem dd_Gr_has_0 : decode cc_Gr_has 0 = .ok (.iload_n 1, 1) := by decide +kernel
theorem dd_Gr_has_1 : decode cc_Gr_has 1 = .ok (.ifCond .lt 15, 3) := by decide +kernel
theorem dd_Gr_has_4 : decode cc_Gr_has 4 = .ok (.iload_n 1, 1) := by decide +kernel
theorem dd_Gr_has_5 : decode cc_Gr_has 5 = .ok (.aload_n 0, 1) := by decide +kernel
theorem dd_Gr_has_6 : decode cc_Gr_has 6 = .ok (.getfield 9, 3) := by decide +kernel
theorem dd_Gr_has_9 : decode cc_Gr_has 9 = .ok (.if_icmp .ge 7, 3) := by decide +kernel
theorem dd_Gr_has_12 : decode cc_Gr_has 12 = .ok (.iconst 1, 1) := by decide +kernel
theorem dd_Gr_has_13 : decode cc_Gr_has 13 = .ok (.goto 4, 3) := by decide +kernel
theorem dd_Gr_has_16 : decode cc_Gr_has 16 = .ok (.iconst 0, 1) := by decide +kernel
theorem dd_Gr_has_17 : decode cc_Gr_has 17 = .ok (.ireturn, 1) := by decide +kernel
theorem dd_Gr_empty_0 : decode cc_Gr_empty 0 = .ok (.aload_n 0, 1) := by decide +kernel
theorem dd_Gr_empty_1 : decode cc_Gr_empty 1 = .ok (.iload_n 1, 1) := by decide +kernel
theorem dd_Gr_empty_2 : decode cc_Gr_empty 2 = .ok (.putfield 9, 3) := by decide +kernel
theorem dd_Gr_empty_5 : decode cc_Gr_empty 5 = .ok (.aload_n 0, 1) := by decide +kernel
theorem dd_Gr_empty_6 : decode cc_Gr_empty 6 = .ok (.getfield 15, 3) := by decide +kernel
theorem dd_Gr_empty_9 : decode cc_Gr_empty 9 = .ok (.iconst 0, 1) := by decide +kernel
theorem dd_Gr_empty_10 : decode cc_Gr_empty 10 = .ok (.invokestatic 22, 3) := by decide +kernel
theorem dd_Gr_empty_13 : decode cc_Gr_empty 13 = .ok (.aload_n 0, 1) := by decide +kernel
theorem dd_Gr_empty_14 : decode cc_Gr_empty 14 = .ok (.getfield 19, 3) := by decide +kernel
theorem dd_Gr_empty_17 : decode cc_Gr_empty 17 = .ok (.iconst 0, 1) := by decide +kernel
theorem dd_Gr_empty_18 : decode cc_Gr_empty 18 = .ok (.invokestatic 22, 3) := by decide +kernel
theorem dd_Gr_empty_21 : decode cc_Gr_empty 21 = .ok (.return_, 1) := by decide +kernel
theorem dd_Gr_arcOf_0 : decode cc_Gr_arcOf 0 = .ok (.aload_n 0, 1) := by decide +kernel
theorem dd_Gr_arcOf_1 : decode cc_Gr_arcOf 1 = .ok (.getfield 19, 3) := by decide +kernel
theorem dd_Gr_arcOf_4 : decode cc_Gr_arcOf 4 = .ok (.iload_n 1, 1) := by decide +kernel
theorem dd_Gr_arcOf_5 : decode cc_Gr_arcOf 5 = .ok (.bipush 40, 2) := by decide +kernel
theorem dd_Gr_arcOf_7 : decode cc_Gr_arcOf 7 = .ok (.imul, 1) := by decide +kernel
theorem dd_Gr_arcOf_8 : decode cc_Gr_arcOf 8 = .ok (.iload_n 2, 1) := by decide +kernel
theorem dd_Gr_arcOf_9 : decode cc_Gr_arcOf 9 = .ok (.iadd, 1) := by decide +kernel
theorem dd_Gr_arcOf_10 : decode cc_Gr_arcOf 10 = .ok (.iaload, 1) := by decide +kernel
theorem dd_Gr_arcOf_11 : decode cc_Gr_arcOf 11 = .ok (.ireturn, 1) := by decide +kernel
theorem dd_Gr_addArc_0 : decode cc_Gr_addArc 0 = .ok (.aload_n 0, 1) := by decide +kernel
theorem dd_Gr_addArc_1 : decode cc_Gr_addArc 1 = .ok (.getfield 19, 3) := by decide +kernel
theorem dd_Gr_addArc_4 : decode cc_Gr_addArc 4 = .ok (.iload_n 1, 1) := by decide +kernel
theorem dd_Gr_addArc_5 : decode cc_Gr_addArc 5 = .ok (.bipush 40, 2) := by decide +kernel
theorem dd_Gr_addArc_7 : decode cc_Gr_addArc 7 = .ok (.imul, 1) := by decide +kernel
theorem dd_Gr_addArc_8 : decode cc_Gr_addArc 8 = .ok (.iload_n 2, 1) := by decide +kernel
theorem dd_Gr_addArc_9 : decode cc_Gr_addArc 9 = .ok (.iadd, 1) := by decide +kernel
theorem dd_Gr_addArc_10 : decode cc_Gr_addArc 10 = .ok (.dup2, 1) := by decide +kernel
theorem dd_Gr_addArc_11 : decode cc_Gr_addArc 11 = .ok (.iaload, 1) := by decide +kernel
theorem dd_Gr_addArc_12 : decode cc_Gr_addArc 12 = .ok (.iload_n 3, 1) := by decide +kernel
theorem dd_Gr_addArc_13 : decode cc_Gr_addArc 13 = .ok (.iadd, 1) := by decide +kernel
theorem dd_Gr_addArc_14 : decode cc_Gr_addArc 14 = .ok (.iastore, 1) := by decide +kernel
theorem dd_Gr_addArc_15 : decode cc_Gr_addArc 15 = .ok (.aload_n 0, 1) := by decide +kernel
theorem dd_Gr_addArc_16 : decode cc_Gr_addArc 16 = .ok (.getfield 19, 3) := by decide +kernel
theorem dd_Gr_addArc_19 : decode cc_Gr_addArc 19 = .ok (.iload_n 2, 1) := by decide +kernel
theorem dd_Gr_addArc_20 : decode cc_Gr_addArc 20 = .ok (.bipush 40, 2) := by decide +kernel
theorem dd_Gr_addArc_22 : decode cc_Gr_addArc 22 = .ok (.imul, 1) := by decide +kernel
theorem dd_Gr_addArc_23 : decode cc_Gr_addArc 23 = .ok (.iload_n 1, 1) := by decide +kernel
theorem dd_Gr_addArc_24 : decode cc_Gr_addArc 24 = .ok (.iadd, 1) := by decide +kernel
theorem dd_Gr_addArc_25 : decode cc_Gr_addArc 25 = .ok (.dup2, 1) := by decide +kernel
theorem dd_Gr_addArc_26 : decode cc_Gr_addArc 26 = .ok (.iaload, 1) := by decide +kernel
theorem dd_Gr_addArc_27 : decode cc_Gr_addArc 27 = .ok (.iload_n 3, 1) := by decide +kernel
theorem dd_Gr_addArc_28 : decode cc_Gr_addArc 28 = .ok (.iadd, 1) := by decide +kernel
theorem dd_Gr_addArc_29 : decode cc_Gr_addArc 29 = .ok (.iastore, 1) := by decide +kernel
theorem dd_Gr_addArc_30 : decode cc_Gr_addArc 30 = .ok (.return_, 1) := by decide +kernel
theorem dd_Gr_total_0 : decode cc_Gr_total 0 = .ok (.iconst 0, 1) := by decide +kernel
theorem dd_Gr_total_1 : decode cc_Gr_total 1 = .ok (.istore_n 1, 1) := by decide +kernel
theorem dd_Gr_total_2 : decode cc_Gr_total 2 = .ok (.iconst 0, 1) := by decide +kernel
theorem dd_Gr_total_3 : decode cc_Gr_total 3 = .ok (.istore_n 2, 1) := by decide +kernel
theorem dd_Gr_total_4 : decode cc_Gr_total 4 = .ok (.iload_n 2, 1) := by decide +kernel
theorem dd_Gr_total_5 : decode cc_Gr_total 5 = .ok (.aload_n 0, 1) := by decide +kernel
theorem dd_Gr_total_6 : decode cc_Gr_total 6 = .ok (.getfield 9, 3) := by decide +kernel
theorem dd_Gr_total_9 : decode cc_Gr_total 9 = .ok (.if_icmp .ge 18, 3) := by decide +kernel
theorem dd_Gr_total_12 : decode cc_Gr_total 12 = .ok (.iload_n 1, 1) := by decide +kernel
theorem dd_Gr_total_13 : decode cc_Gr_total 13 = .ok (.aload_n 0, 1) := by decide +kernel
theorem dd_Gr_total_14 : decode cc_Gr_total 14 = .ok (.getfield 15, 3) := by decide +kernel
theorem dd_Gr_total_17 : decode cc_Gr_total 17 = .ok (.iload_n 2, 1) := by decide +kernel
theorem dd_Gr_total_18 : decode cc_Gr_total 18 = .ok (.iaload, 1) := by decide +kernel
theorem dd_Gr_total_19 : decode cc_Gr_total 19 = .ok (.iadd, 1) := by decide +kernel
theorem dd_Gr_total_20 : decode cc_Gr_total 20 = .ok (.istore_n 1, 1) := by decide +kernel
theorem dd_Gr_total_21 : decode cc_Gr_total 21 = .ok (.iinc 2 1, 3) := by decide +kernel
theorem dd_Gr_total_24 : decode cc_Gr_total 24 = .ok (.goto (-20), 3) := by decide +kernel
theorem dd_Gr_total_27 : decode cc_Gr_total 27 = .ok (.iload_n 1, 1) := by decide +kernel
theorem dd_Gr_total_28 : decode cc_Gr_total 28 = .ok (.ireturn, 1) := by decide +kernel
theorem dd_Gr_neighbours_0 : decode cc_Gr_neighbours 0 = .ok (.iconst 0, 1) := by decide +kernel
theorem dd_Gr_neighbours_1 : decode cc_Gr_neighbours 1 = .ok (.istore_n 2, 1) := by decide +kernel
theorem dd_Gr_neighbours_2 : decode cc_Gr_neighbours 2 = .ok (.iconst 0, 1) := by decide +kernel
theorem dd_Gr_neighbours_3 : decode cc_Gr_neighbours 3 = .ok (.istore_n 3, 1) := by decide +kernel
theorem dd_Gr_neighbours_4 : decode cc_Gr_neighbours 4 = .ok (.iload_n 3, 1) := by decide +kernel
theorem dd_Gr_neighbours_5 : decode cc_Gr_neighbours 5 = .ok (.aload_n 0, 1) := by decide +kernel
theorem dd_Gr_neighbours_6 : decode cc_Gr_neighbours 6 = .ok (.getfield 9, 3) := by decide +kernel
theorem dd_Gr_neighbours_9 : decode cc_Gr_neighbours 9 = .ok (.if_icmp .ge 21, 3) := by decide +kernel
theorem dd_Gr_neighbours_12 : decode cc_Gr_neighbours 12 = .ok (.aload_n 0, 1) := by decide +kernel
theorem dd_Gr_neighbours_13 : decode cc_Gr_neighbours 13 = .ok (.iload_n 1, 1) := by decide +kernel
theorem dd_Gr_neighbours_14 : decode cc_Gr_neighbours 14 = .ok (.iload_n 3, 1) := by decide +kernel
theorem dd_Gr_neighbours_15 : decode cc_Gr_neighbours 15 = .ok (.invokevirtual 28, 3) := by decide +kernel
theorem dd_Gr_neighbours_18 : decode cc_Gr_neighbours 18 = .ok (.ifCond .le 6, 3) := by decide +kernel
theorem dd_Gr_neighbours_21 : decode cc_Gr_neighbours 21 = .ok (.iinc 2 1, 3) := by decide +kernel
theorem dd_Gr_neighbours_24 : decode cc_Gr_neighbours 24 = .ok (.iinc 3 1, 3) := by decide +kernel
theorem dd_Gr_neighbours_27 : decode cc_Gr_neighbours 27 = .ok (.goto (-23), 3) := by decide +kernel
theorem dd_Gr_neighbours_30 : decode cc_Gr_neighbours 30 = .ok (.iload_n 2, 1) := by decide +kernel
theorem dd_Gr_neighbours_31 : decode cc_Gr_neighbours 31 = .ok (.ireturn, 1) := by decide +kernel
theorem dd_Gr_arcCount_0 : decode cc_Gr_arcCount 0 = .ok (.iconst 0, 1) := by decide +kernel
theorem dd_Gr_arcCount_1 : decode cc_Gr_arcCount 1 = .ok (.istore_n 1, 1) := by decide +kernel
theorem dd_Gr_arcCount_2 : decode cc_Gr_arcCount 2 = .ok (.iconst 0, 1) := by decide +kernel
theorem dd_Gr_arcCount_3 : decode cc_Gr_arcCount 3 = .ok (.istore_n 2, 1) := by decide +kernel
theorem dd_Gr_arcCount_4 : decode cc_Gr_arcCount 4 = .ok (.iload_n 2, 1) := by decide +kernel
theorem dd_Gr_arcCount_5 : decode cc_Gr_arcCount 5 = .ok (.aload_n 0, 1) := by decide +kernel
theorem dd_Gr_arcCount_6 : decode cc_Gr_arcCount 6 = .ok (.getfield 9, 3) := by decide +kernel
theorem dd_Gr_arcCount_9 : decode cc_Gr_arcCount 9 = .ok (.if_icmp .ge 17, 3) := by decide +kernel
theorem dd_Gr_arcCount_12 : decode cc_Gr_arcCount 12 = .ok (.iload_n 1, 1) := by decide +kernel
theorem dd_Gr_arcCount_13 : decode cc_Gr_arcCount 13 = .ok (.aload_n 0, 1) := by decide +kernel
theorem dd_Gr_arcCount_14 : decode cc_Gr_arcCount 14 = .ok (.iload_n 2, 1) := by decide +kernel
theorem dd_Gr_arcCount_15 : decode cc_Gr_arcCount 15 = .ok (.invokevirtual 32, 3) := by decide +kernel
theorem dd_Gr_arcCount_18 : decode cc_Gr_arcCount 18 = .ok (.iadd, 1) := by decide +kernel
theorem dd_Gr_arcCount_19 : decode cc_Gr_arcCount 19 = .ok (.istore_n 1, 1) := by decide +kernel
theorem dd_Gr_arcCount_20 : decode cc_Gr_arcCount 20 = .ok (.iinc 2 1, 3) := by decide +kernel
theorem dd_Gr_arcCount_23 : decode cc_Gr_arcCount 23 = .ok (.goto (-19), 3) := by decide +kernel
theorem dd_Gr_arcCount_26 : decode cc_Gr_arcCount 26 = .ok (.iload_n 1, 1) := by decide +kernel
theorem dd_Gr_arcCount_27 : decode cc_Gr_arcCount 27 = .ok (.iconst 1, 1) := by decide +kernel
theorem dd_Gr_arcCount_28 : decode cc_Gr_arcCount 28 = .ok (.ishr, 1) := by decide +kernel
theorem dd_Gr_arcCount_29 : decode cc_Gr_arcCount 29 = .ok (.ireturn, 1) := by decide +kernel
theorem dd_Gr_arcSum_0 : decode cc_Gr_arcSum 0 = .ok (.iconst 0, 1) := by decide +kernel
theorem dd_Gr_arcSum_1 : decode cc_Gr_arcSum 1 = .ok (.istore_n 1, 1) := by decide +kernel
theorem dd_Gr_arcSum_2 : decode cc_Gr_arcSum 2 = .ok (.iconst 0, 1) := by decide +kernel
theorem dd_Gr_arcSum_3 : decode cc_Gr_arcSum 3 = .ok (.istore_n 2, 1) := by decide +kernel
theorem dd_Gr_arcSum_4 : decode cc_Gr_arcSum 4 = .ok (.iload_n 2, 1) := by decide +kernel
theorem dd_Gr_arcSum_5 : decode cc_Gr_arcSum 5 = .ok (.aload_n 0, 1) := by decide +kernel
theorem dd_Gr_arcSum_6 : decode cc_Gr_arcSum 6 = .ok (.getfield 9, 3) := by decide +kernel
theorem dd_Gr_arcSum_9 : decode cc_Gr_arcSum 9 = .ok (.if_icmp .ge 36, 3) := by decide +kernel
theorem dd_Gr_arcSum_12 : decode cc_Gr_arcSum 12 = .ok (.iload_n 2, 1) := by decide +kernel
theorem dd_Gr_arcSum_13 : decode cc_Gr_arcSum 13 = .ok (.iconst 1, 1) := by decide +kernel
theorem dd_Gr_arcSum_14 : decode cc_Gr_arcSum 14 = .ok (.iadd, 1) := by decide +kernel
theorem dd_Gr_arcSum_15 : decode cc_Gr_arcSum 15 = .ok (.istore_n 3, 1) := by decide +kernel
theorem dd_Gr_arcSum_16 : decode cc_Gr_arcSum 16 = .ok (.iload_n 3, 1) := by decide +kernel
theorem dd_Gr_arcSum_17 : decode cc_Gr_arcSum 17 = .ok (.aload_n 0, 1) := by decide +kernel
theorem dd_Gr_arcSum_18 : decode cc_Gr_arcSum 18 = .ok (.getfield 9, 3) := by decide +kernel
theorem dd_Gr_arcSum_21 : decode cc_Gr_arcSum 21 = .ok (.if_icmp .ge 18, 3) := by decide +kernel
theorem dd_Gr_arcSum_24 : decode cc_Gr_arcSum 24 = .ok (.iload_n 1, 1) := by decide +kernel
theorem dd_Gr_arcSum_25 : decode cc_Gr_arcSum 25 = .ok (.aload_n 0, 1) := by decide +kernel
theorem dd_Gr_arcSum_26 : decode cc_Gr_arcSum 26 = .ok (.iload_n 2, 1) := by decide +kernel
theorem dd_Gr_arcSum_27 : decode cc_Gr_arcSum 27 = .ok (.iload_n 3, 1) := by decide +kernel
theorem dd_Gr_arcSum_28 : decode cc_Gr_arcSum 28 = .ok (.invokevirtual 28, 3) := by decide +kernel
theorem dd_Gr_arcSum_31 : decode cc_Gr_arcSum 31 = .ok (.iadd, 1) := by decide +kernel
theorem dd_Gr_arcSum_32 : decode cc_Gr_arcSum 32 = .ok (.istore_n 1, 1) := by decide +kernel
theorem dd_Gr_arcSum_33 : decode cc_Gr_arcSum 33 = .ok (.iinc 3 1, 3) := by decide +kernel
theorem dd_Gr_arcSum_36 : decode cc_Gr_arcSum 36 = .ok (.goto (-20), 3) := by decide +kernel
theorem dd_Gr_arcSum_39 : decode cc_Gr_arcSum 39 = .ok (.iinc 2 1, 3) := by decide +kernel
theorem dd_Gr_arcSum_42 : decode cc_Gr_arcSum 42 = .ok (.goto (-38), 3) := by decide +kernel
theorem dd_Gr_arcSum_45 : decode cc_Gr_arcSum 45 = .ok (.iload_n 1, 1) := by decide +kernel
theorem dd_Gr_arcSum_46 : decode cc_Gr_arcSum 46 = .ok (.ireturn, 1) := by decide +kernel
theorem dd_Gr_new_0 : decode cc_Gr_new 0 = .ok (.aload_n 0, 1) := by decide +kernel
theorem dd_Gr_new_1 : decode cc_Gr_new 1 = .ok (.invokespecial 3, 3) := by decide +kernel
theorem dd_Gr_new_4 : decode cc_Gr_new 4 = .ok (.aload_n 0, 1) := by decide +kernel
theorem dd_Gr_new_5 : decode cc_Gr_new 5 = .ok (.iconst 0, 1) := by decide +kernel
theorem dd_Gr_new_6 : decode cc_Gr_new 6 = .ok (.putfield 9, 3) := by decide +kernel
theorem dd_Gr_new_9 : decode cc_Gr_new 9 = .ok (.aload_n 0, 1) := by decide +kernel
theorem dd_Gr_new_10 : decode cc_Gr_new 10 = .ok (.bipush 40, 2) := by decide +kernel
theorem dd_Gr_new_12 : decode cc_Gr_new 12 = .ok (.newarray .int, 2) := by decide +kernel
theorem dd_Gr_new_14 : decode cc_Gr_new 14 = .ok (.putfield 15, 3) := by decide +kernel
theorem dd_Gr_new_17 : decode cc_Gr_new 17 = .ok (.aload_n 0, 1) := by decide +kernel
theorem dd_Gr_new_18 : decode cc_Gr_new 18 = .ok (.sipush 1600, 3) := by decide +kernel
theorem dd_Gr_new_21 : decode cc_Gr_new 21 = .ok (.newarray .int, 2) := by decide +kernel
theorem dd_Gr_new_23 : decode cc_Gr_new 23 = .ok (.putfield 19, 3) := by decide +kernel
theorem dd_Gr_new_26 : decode cc_Gr_new 26 = .ok (.return_, 1) := by decide +kernel
