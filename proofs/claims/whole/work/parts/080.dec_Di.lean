theorem dd_Di_isCut_0 : decode cc_Di_isCut 0 = .ok (.aload_n 0, 1) := by decide +kernel
theorem dd_Di_isCut_1 : decode cc_Di_isCut 1 = .ok (.getfield 23, 3) := by decide +kernel
theorem dd_Di_isCut_4 : decode cc_Di_isCut 4 = .ok (.iload_n 1, 1) := by decide +kernel
theorem dd_Di_isCut_5 : decode cc_Di_isCut 5 = .ok (.iload_n 2, 1) := by decide +kernel
theorem dd_Di_isCut_6 : decode cc_Di_isCut 6 = .ok (.invokevirtual 50, 3) := by decide +kernel
theorem dd_Di_isCut_9 : decode cc_Di_isCut 9 = .ok (.ifCond .le 22, 3) := by decide +kernel
theorem dd_Di_isCut_12 : decode cc_Di_isCut 12 = .ok (.aload_n 0, 1) := by decide +kernel
theorem dd_Di_isCut_13 : decode cc_Di_isCut 13 = .ok (.getfield 54, 3) := by decide +kernel
theorem dd_Di_isCut_16 : decode cc_Di_isCut 16 = .ok (.iload_n 1, 1) := by decide +kernel
theorem dd_Di_isCut_17 : decode cc_Di_isCut 17 = .ok (.iaload, 1) := by decide +kernel
theorem dd_Di_isCut_18 : decode cc_Di_isCut 18 = .ok (.aload_n 0, 1) := by decide +kernel
theorem dd_Di_isCut_19 : decode cc_Di_isCut 19 = .ok (.getfield 54, 3) := by decide +kernel
theorem dd_Di_isCut_22 : decode cc_Di_isCut 22 = .ok (.iload_n 2, 1) := by decide +kernel
theorem dd_Di_isCut_23 : decode cc_Di_isCut 23 = .ok (.iaload, 1) := by decide +kernel
theorem dd_Di_isCut_24 : decode cc_Di_isCut 24 = .ok (.if_icmp .eq 7, 3) := by decide +kernel
theorem dd_Di_isCut_27 : decode cc_Di_isCut 27 = .ok (.iconst 1, 1) := by decide +kernel
theorem dd_Di_isCut_28 : decode cc_Di_isCut 28 = .ok (.goto 4, 3) := by decide +kernel
theorem dd_Di_isCut_31 : decode cc_Di_isCut 31 = .ok (.iconst 0, 1) := by decide +kernel
theorem dd_Di_isCut_32 : decode cc_Di_isCut 32 = .ok (.ireturn, 1) := by decide +kernel
theorem dd_Di_start_0 : decode cc_Di_start 0 = .ok (.iconst 0, 1) := by decide +kernel
theorem dd_Di_start_1 : decode cc_Di_start 1 = .ok (.istore_n 2, 1) := by decide +kernel
theorem dd_Di_start_2 : decode cc_Di_start 2 = .ok (.iload_n 2, 1) := by decide +kernel
theorem dd_Di_start_3 : decode cc_Di_start 3 = .ok (.aload_n 0, 1) := by decide +kernel
theorem dd_Di_start_4 : decode cc_Di_start 4 = .ok (.getfield 19, 3) := by decide +kernel
theorem dd_Di_start_7 : decode cc_Di_start 7 = .ok (.if_icmp .ge 58, 3) := by decide +kernel
theorem dd_Di_start_10 : decode cc_Di_start 10 = .ok (.aload_n 0, 1) := by decide +kernel
theorem dd_Di_start_11 : decode cc_Di_start 11 = .ok (.getfield 9, 3) := by decide +kernel
theorem dd_Di_start_14 : decode cc_Di_start 14 = .ok (.iload_n 2, 1) := by decide +kernel
theorem dd_Di_start_15 : decode cc_Di_start 15 = .ok (.iconst 0, 1) := by decide +kernel
theorem dd_Di_start_16 : decode cc_Di_start 16 = .ok (.bastore, 1) := by decide +kernel
theorem dd_Di_start_17 : decode cc_Di_start 17 = .ok (.aload_n 0, 1) := by decide +kernel
theorem dd_Di_start_18 : decode cc_Di_start 18 = .ok (.getfield 15, 3) := by decide +kernel
theorem dd_Di_start_21 : decode cc_Di_start 21 = .ok (.iload_n 2, 1) := by decide +kernel
theorem dd_Di_start_22 : decode cc_Di_start 22 = .ok (.iconst 0, 1) := by decide +kernel
theorem dd_Di_start_23 : decode cc_Di_start 23 = .ok (.iastore, 1) := by decide +kernel
theorem dd_Di_start_24 : decode cc_Di_start 24 = .ok (.iconst 0, 1) := by decide +kernel
theorem dd_Di_start_25 : decode cc_Di_start 25 = .ok (.istore_n 3, 1) := by decide +kernel
theorem dd_Di_start_26 : decode cc_Di_start 26 = .ok (.iload_n 3, 1) := by decide +kernel
theorem dd_Di_start_27 : decode cc_Di_start 27 = .ok (.aload_n 0, 1) := by decide +kernel
theorem dd_Di_start_28 : decode cc_Di_start 28 = .ok (.getfield 19, 3) := by decide +kernel
theorem dd_Di_start_31 : decode cc_Di_start 31 = .ok (.if_icmp .ge 28, 3) := by decide +kernel
theorem dd_Di_start_34 : decode cc_Di_start 34 = .ok (.aload_n 1, 1) := by decide +kernel
theorem dd_Di_start_35 : decode cc_Di_start 35 = .ok (.iload_n 2, 1) := by decide +kernel
theorem dd_Di_start_36 : decode cc_Di_start 36 = .ok (.iload_n 3, 1) := by decide +kernel
theorem dd_Di_start_37 : decode cc_Di_start 37 = .ok (.invokestatic 57, 3) := by decide +kernel
theorem dd_Di_start_40 : decode cc_Di_start 40 = .ok (.ifCond .eq 13, 3) := by decide +kernel
theorem dd_Di_start_43 : decode cc_Di_start 43 = .ok (.aload_n 0, 1) := by decide +kernel
theorem dd_Di_start_44 : decode cc_Di_start 44 = .ok (.getfield 15, 3) := by decide +kernel
theorem dd_Di_start_47 : decode cc_Di_start 47 = .ok (.iload_n 2, 1) := by decide +kernel
theorem dd_Di_start_48 : decode cc_Di_start 48 = .ok (.dup2, 1) := by decide +kernel
theorem dd_Di_start_49 : decode cc_Di_start 49 = .ok (.iaload, 1) := by decide +kernel
theorem dd_Di_start_50 : decode cc_Di_start 50 = .ok (.iconst 1, 1) := by decide +kernel
theorem dd_Di_start_51 : decode cc_Di_start 51 = .ok (.iadd, 1) := by decide +kernel
theorem dd_Di_start_52 : decode cc_Di_start 52 = .ok (.iastore, 1) := by decide +kernel
theorem dd_Di_start_53 : decode cc_Di_start 53 = .ok (.iinc 3 1, 3) := by decide +kernel
theorem dd_Di_start_56 : decode cc_Di_start 56 = .ok (.goto (-30), 3) := by decide +kernel
theorem dd_Di_start_59 : decode cc_Di_start 59 = .ok (.iinc 2 1, 3) := by decide +kernel
theorem dd_Di_start_62 : decode cc_Di_start 62 = .ok (.goto (-60), 3) := by decide +kernel
theorem dd_Di_start_65 : decode cc_Di_start 65 = .ok (.return_, 1) := by decide +kernel
theorem dd_Di_busiest_0 : decode cc_Di_busiest 0 = .ok (.iconst 0, 1) := by decide +kernel
theorem dd_Di_busiest_1 : decode cc_Di_busiest 1 = .ok (.istore_n 2, 1) := by decide +kernel
theorem dd_Di_busiest_2 : decode cc_Di_busiest 2 = .ok (.iconst 1, 1) := by decide +kernel
theorem dd_Di_busiest_3 : decode cc_Di_busiest 3 = .ok (.istore_n 3, 1) := by decide +kernel
theorem dd_Di_busiest_4 : decode cc_Di_busiest 4 = .ok (.iload_n 3, 1) := by decide +kernel
theorem dd_Di_busiest_5 : decode cc_Di_busiest 5 = .ok (.aload_n 0, 1) := by decide +kernel
theorem dd_Di_busiest_6 : decode cc_Di_busiest 6 = .ok (.getfield 19, 3) := by decide +kernel
theorem dd_Di_busiest_9 : decode cc_Di_busiest 9 = .ok (.if_icmp .ge 68, 3) := by decide +kernel
theorem dd_Di_busiest_12 : decode cc_Di_busiest 12 = .ok (.aload_n 1, 1) := by decide +kernel
theorem dd_Di_busiest_13 : decode cc_Di_busiest 13 = .ok (.getfield 61, 3) := by decide +kernel
theorem dd_Di_busiest_16 : decode cc_Di_busiest 16 = .ok (.iload_n 3, 1) := by decide +kernel
theorem dd_Di_busiest_17 : decode cc_Di_busiest 17 = .ok (.iaload, 1) := by decide +kernel
theorem dd_Di_busiest_18 : decode cc_Di_busiest 18 = .ok (.aload_n 1, 1) := by decide +kernel
theorem dd_Di_busiest_19 : decode cc_Di_busiest 19 = .ok (.getfield 61, 3) := by decide +kernel
theorem dd_Di_busiest_22 : decode cc_Di_busiest 22 = .ok (.iload_n 2, 1) := by decide +kernel
theorem dd_Di_busiest_23 : decode cc_Di_busiest 23 = .ok (.iaload, 1) := by decide +kernel
theorem dd_Di_busiest_24 : decode cc_Di_busiest 24 = .ok (.if_icmp .ge 7, 3) := by decide +kernel
theorem dd_Di_busiest_27 : decode cc_Di_busiest 27 = .ok (.iconst 1, 1) := by decide +kernel
theorem dd_Di_busiest_28 : decode cc_Di_busiest 28 = .ok (.goto 4, 3) := by decide +kernel
theorem dd_Di_busiest_31 : decode cc_Di_busiest 31 = .ok (.iconst 0, 1) := by decide +kernel
theorem dd_Di_busiest_32 : decode cc_Di_busiest 32 = .ok (.istore 4, 2) := by decide +kernel
theorem dd_Di_busiest_34 : decode cc_Di_busiest 34 = .ok (.aload_n 0, 1) := by decide +kernel
theorem dd_Di_busiest_35 : decode cc_Di_busiest 35 = .ok (.getfield 15, 3) := by decide +kernel
theorem dd_Di_busiest_38 : decode cc_Di_busiest 38 = .ok (.iload_n 3, 1) := by decide +kernel
theorem dd_Di_busiest_39 : decode cc_Di_busiest 39 = .ok (.iaload, 1) := by decide +kernel
theorem dd_Di_busiest_40 : decode cc_Di_busiest 40 = .ok (.aload_n 0, 1) := by decide +kernel
theorem dd_Di_busiest_41 : decode cc_Di_busiest 41 = .ok (.getfield 15, 3) := by decide +kernel
theorem dd_Di_busiest_44 : decode cc_Di_busiest 44 = .ok (.iload_n 2, 1) := by decide +kernel
theorem dd_Di_busiest_45 : decode cc_Di_busiest 45 = .ok (.iaload, 1) := by decide +kernel
theorem dd_Di_busiest_46 : decode cc_Di_busiest 46 = .ok (.if_icmp .gt 23, 3) := by decide +kernel
theorem dd_Di_busiest_49 : decode cc_Di_busiest 49 = .ok (.aload_n 0, 1) := by decide +kernel
theorem dd_Di_busiest_50 : decode cc_Di_busiest 50 = .ok (.getfield 15, 3) := by decide +kernel
theorem dd_Di_busiest_53 : decode cc_Di_busiest 53 = .ok (.iload_n 3, 1) := by decide +kernel
theorem dd_Di_busiest_54 : decode cc_Di_busiest 54 = .ok (.iaload, 1) := by decide +kernel
theorem dd_Di_busiest_55 : decode cc_Di_busiest 55 = .ok (.aload_n 0, 1) := by decide +kernel
theorem dd_Di_busiest_56 : decode cc_Di_busiest 56 = .ok (.getfield 15, 3) := by decide +kernel
theorem dd_Di_busiest_59 : decode cc_Di_busiest 59 = .ok (.iload_n 2, 1) := by decide +kernel
theorem dd_Di_busiest_60 : decode cc_Di_busiest 60 = .ok (.iaload, 1) := by decide +kernel
theorem dd_Di_busiest_61 : decode cc_Di_busiest 61 = .ok (.if_icmp .ne 10, 3) := by decide +kernel
theorem dd_Di_busiest_64 : decode cc_Di_busiest 64 = .ok (.iload 4, 2) := by decide +kernel
theorem dd_Di_busiest_66 : decode cc_Di_busiest 66 = .ok (.ifCond .eq 5, 3) := by decide +kernel
theorem dd_Di_busiest_69 : decode cc_Di_busiest 69 = .ok (.iload_n 3, 1) := by decide +kernel
theorem dd_Di_busiest_70 : decode cc_Di_busiest 70 = .ok (.istore_n 2, 1) := by decide +kernel
theorem dd_Di_busiest_71 : decode cc_Di_busiest 71 = .ok (.iinc 3 1, 3) := by decide +kernel
theorem dd_Di_busiest_74 : decode cc_Di_busiest 74 = .ok (.goto (-70), 3) := by decide +kernel
theorem dd_Di_busiest_77 : decode cc_Di_busiest 77 = .ok (.iload_n 2, 1) := by decide +kernel
theorem dd_Di_busiest_78 : decode cc_Di_busiest 78 = .ok (.ireturn, 1) := by decide +kernel
theorem dd_Di_takeIn_0 : decode cc_Di_takeIn 0 = .ok (.aload_n 0, 1) := by decide +kernel
theorem dd_Di_takeIn_1 : decode cc_Di_takeIn 1 = .ok (.getfield 9, 3) := by decide +kernel
theorem dd_Di_takeIn_4 : decode cc_Di_takeIn 4 = .ok (.iload_n 2, 1) := by decide +kernel
theorem dd_Di_takeIn_5 : decode cc_Di_takeIn 5 = .ok (.iconst 1, 1) := by decide +kernel
theorem dd_Di_takeIn_6 : decode cc_Di_takeIn 6 = .ok (.bastore, 1) := by decide +kernel
theorem dd_Di_takeIn_7 : decode cc_Di_takeIn 7 = .ok (.aload_n 0, 1) := by decide +kernel
theorem dd_Di_takeIn_8 : decode cc_Di_takeIn 8 = .ok (.getfield 15, 3) := by decide +kernel
theorem dd_Di_takeIn_11 : decode cc_Di_takeIn 11 = .ok (.iload_n 2, 1) := by decide +kernel
theorem dd_Di_takeIn_12 : decode cc_Di_takeIn 12 = .ok (.iconst 0, 1) := by decide +kernel
theorem dd_Di_takeIn_13 : decode cc_Di_takeIn 13 = .ok (.iastore, 1) := by decide +kernel
theorem dd_Di_takeIn_14 : decode cc_Di_takeIn 14 = .ok (.iconst 0, 1) := by decide +kernel
theorem dd_Di_takeIn_15 : decode cc_Di_takeIn 15 = .ok (.istore_n 3, 1) := by decide +kernel
theorem dd_Di_takeIn_16 : decode cc_Di_takeIn 16 = .ok (.iload_n 3, 1) := by decide +kernel
theorem dd_Di_takeIn_17 : decode cc_Di_takeIn 17 = .ok (.aload_n 0, 1) := by decide +kernel
theorem dd_Di_takeIn_18 : decode cc_Di_takeIn 18 = .ok (.getfield 19, 3) := by decide +kernel
theorem dd_Di_takeIn_21 : decode cc_Di_takeIn 21 = .ok (.if_icmp .ge 37, 3) := by decide +kernel
theorem dd_Di_takeIn_24 : decode cc_Di_takeIn 24 = .ok (.aload_n 0, 1) := by decide +kernel
theorem dd_Di_takeIn_25 : decode cc_Di_takeIn 25 = .ok (.getfield 9, 3) := by decide +kernel
theorem dd_Di_takeIn_28 : decode cc_Di_takeIn 28 = .ok (.iload_n 3, 1) := by decide +kernel
theorem dd_Di_takeIn_29 : decode cc_Di_takeIn 29 = .ok (.baload, 1) := by decide +kernel
theorem dd_Di_takeIn_30 : decode cc_Di_takeIn 30 = .ok (.ifCond .ne 22, 3) := by decide +kernel
theorem dd_Di_takeIn_33 : decode cc_Di_takeIn 33 = .ok (.aload_n 1, 1) := by decide +kernel
theorem dd_Di_takeIn_34 : decode cc_Di_takeIn 34 = .ok (.iload_n 2, 1) := by decide +kernel
theorem dd_Di_takeIn_35 : decode cc_Di_takeIn 35 = .ok (.iload_n 3, 1) := by decide +kernel
theorem dd_Di_takeIn_36 : decode cc_Di_takeIn 36 = .ok (.invokestatic 57, 3) := by decide +kernel
theorem dd_Di_takeIn_39 : decode cc_Di_takeIn 39 = .ok (.ifCond .eq 13, 3) := by decide +kernel
theorem dd_Di_takeIn_42 : decode cc_Di_takeIn 42 = .ok (.aload_n 0, 1) := by decide +kernel
theorem dd_Di_takeIn_43 : decode cc_Di_takeIn 43 = .ok (.getfield 15, 3) := by decide +kernel
theorem dd_Di_takeIn_46 : decode cc_Di_takeIn 46 = .ok (.iload_n 3, 1) := by decide +kernel
theorem dd_Di_takeIn_47 : decode cc_Di_takeIn 47 = .ok (.dup2, 1) := by decide +kernel
theorem dd_Di_takeIn_48 : decode cc_Di_takeIn 48 = .ok (.iaload, 1) := by decide +kernel
theorem dd_Di_takeIn_49 : decode cc_Di_takeIn 49 = .ok (.iconst 1, 1) := by decide +kernel
theorem dd_Di_takeIn_50 : decode cc_Di_takeIn 50 = .ok (.isub, 1) := by decide +kernel
theorem dd_Di_takeIn_51 : decode cc_Di_takeIn 51 = .ok (.iastore, 1) := by decide +kernel
theorem dd_Di_takeIn_52 : decode cc_Di_takeIn 52 = .ok (.iinc 3 1, 3) := by decide +kernel
theorem dd_Di_takeIn_55 : decode cc_Di_takeIn 55 = .ok (.goto (-39), 3) := by decide +kernel
theorem dd_Di_takeIn_58 : decode cc_Di_takeIn 58 = .ok (.return_, 1) := by decide +kernel
theorem dd_Di_isNeeded_0 : decode cc_Di_isNeeded 0 = .ok (.iconst 0, 1) := by decide +kernel
theorem dd_Di_isNeeded_1 : decode cc_Di_isNeeded 1 = .ok (.istore_n 3, 1) := by decide +kernel
theorem dd_Di_isNeeded_2 : decode cc_Di_isNeeded 2 = .ok (.iload_n 3, 1) := by decide +kernel
theorem dd_Di_isNeeded_3 : decode cc_Di_isNeeded 3 = .ok (.aload_n 0, 1) := by decide +kernel
theorem dd_Di_isNeeded_4 : decode cc_Di_isNeeded 4 = .ok (.getfield 19, 3) := by decide +kernel
theorem dd_Di_isNeeded_7 : decode cc_Di_isNeeded 7 = .ok (.if_icmp .ge 29, 3) := by decide +kernel
theorem dd_Di_isNeeded_10 : decode cc_Di_isNeeded 10 = .ok (.aload_n 0, 1) := by decide +kernel
theorem dd_Di_isNeeded_11 : decode cc_Di_isNeeded 11 = .ok (.getfield 9, 3) := by decide +kernel
theorem dd_Di_isNeeded_14 : decode cc_Di_isNeeded 14 = .ok (.iload_n 3, 1) := by decide +kernel
theorem dd_Di_isNeeded_15 : decode cc_Di_isNeeded 15 = .ok (.baload, 1) := by decide +kernel
theorem dd_Di_isNeeded_16 : decode cc_Di_isNeeded 16 = .ok (.ifCond .ne 14, 3) := by decide +kernel
theorem dd_Di_isNeeded_19 : decode cc_Di_isNeeded 19 = .ok (.aload_n 1, 1) := by decide +kernel
theorem dd_Di_isNeeded_20 : decode cc_Di_isNeeded 20 = .ok (.iload_n 2, 1) := by decide +kernel
theorem dd_Di_isNeeded_21 : decode cc_Di_isNeeded 21 = .ok (.iload_n 3, 1) := by decide +kernel
theorem dd_Di_isNeeded_22 : decode cc_Di_isNeeded 22 = .ok (.invokestatic 57, 3) := by decide +kernel
theorem dd_Di_isNeeded_25 : decode cc_Di_isNeeded 25 = .ok (.ifCond .eq 5, 3) := by decide +kernel
theorem dd_Di_isNeeded_28 : decode cc_Di_isNeeded 28 = .ok (.iconst 1, 1) := by decide +kernel
theorem dd_Di_isNeeded_29 : decode cc_Di_isNeeded 29 = .ok (.ireturn, 1) := by decide +kernel
theorem dd_Di_isNeeded_30 : decode cc_Di_isNeeded 30 = .ok (.iinc 3 1, 3) := by decide +kernel
theorem dd_Di_isNeeded_33 : decode cc_Di_isNeeded 33 = .ok (.goto (-31), 3) := by decide +kernel
theorem dd_Di_isNeeded_36 : decode cc_Di_isNeeded 36 = .ok (.iconst 0, 1) := by decide +kernel
theorem dd_Di_isNeeded_37 : decode cc_Di_isNeeded 37 = .ok (.ireturn, 1) := by decide +kernel
theorem dd_Di_find_0 : decode cc_Di_find 0 = .ok (.aload_n 0, 1) := by decide +kernel
theorem dd_Di_find_1 : decode cc_Di_find 1 = .ok (.aload_n 1, 1) := by decide +kernel
theorem dd_Di_find_2 : decode cc_Di_find 2 = .ok (.getfield 23, 3) := by decide +kernel
theorem dd_Di_find_5 : decode cc_Di_find 5 = .ok (.getfield 29, 3) := by decide +kernel
theorem dd_Di_find_8 : decode cc_Di_find 8 = .ok (.putfield 19, 3) := by decide +kernel
theorem dd_Di_find_11 : decode cc_Di_find 11 = .ok (.aload_n 0, 1) := by decide +kernel
theorem dd_Di_find_12 : decode cc_Di_find 12 = .ok (.aload_n 1, 1) := by decide +kernel
theorem dd_Di_find_13 : decode cc_Di_find 13 = .ok (.invokevirtual 34, 3) := by decide +kernel
theorem dd_Di_find_16 : decode cc_Di_find 16 = .ok (.iconst 0, 1) := by decide +kernel
theorem dd_Di_find_17 : decode cc_Di_find 17 = .ok (.istore_n 2, 1) := by decide +kernel
theorem dd_Di_find_18 : decode cc_Di_find 18 = .ok (.iload_n 2, 1) := by decide +kernel
theorem dd_Di_find_19 : decode cc_Di_find 19 = .ok (.aload_n 0, 1) := by decide +kernel
theorem dd_Di_find_20 : decode cc_Di_find 20 = .ok (.getfield 19, 3) := by decide +kernel
theorem dd_Di_find_23 : decode cc_Di_find 23 = .ok (.if_icmp .ge 33, 3) := by decide +kernel
theorem dd_Di_find_26 : decode cc_Di_find 26 = .ok (.aload_n 0, 1) := by decide +kernel
theorem dd_Di_find_27 : decode cc_Di_find 27 = .ok (.aload_n 1, 1) := by decide +kernel
theorem dd_Di_find_28 : decode cc_Di_find 28 = .ok (.getfield 23, 3) := by decide +kernel
theorem dd_Di_find_31 : decode cc_Di_find 31 = .ok (.invokevirtual 38, 3) := by decide +kernel
theorem dd_Di_find_34 : decode cc_Di_find 34 = .ok (.istore_n 3, 1) := by decide +kernel
theorem dd_Di_find_35 : decode cc_Di_find 35 = .ok (.aload_n 0, 1) := by decide +kernel
theorem dd_Di_find_36 : decode cc_Di_find 36 = .ok (.getfield 15, 3) := by decide +kernel
theorem dd_Di_find_39 : decode cc_Di_find 39 = .ok (.iload_n 3, 1) := by decide +kernel
theorem dd_Di_find_40 : decode cc_Di_find 40 = .ok (.iaload, 1) := by decide +kernel
theorem dd_Di_find_41 : decode cc_Di_find 41 = .ok (.ifCond .le 9, 3) := by decide +kernel
theorem dd_Di_find_44 : decode cc_Di_find 44 = .ok (.aload_n 0, 1) := by decide +kernel
theorem dd_Di_find_45 : decode cc_Di_find 45 = .ok (.aload_n 1, 1) := by decide +kernel
theorem dd_Di_find_46 : decode cc_Di_find 46 = .ok (.iload_n 3, 1) := by decide +kernel
theorem dd_Di_find_47 : decode cc_Di_find 47 = .ok (.invokevirtual 42, 3) := by decide +kernel
theorem dd_Di_find_50 : decode cc_Di_find 50 = .ok (.iinc 2 1, 3) := by decide +kernel
theorem dd_Di_find_53 : decode cc_Di_find 53 = .ok (.goto (-35), 3) := by decide +kernel
theorem dd_Di_find_56 : decode cc_Di_find 56 = .ok (.aload_n 0, 1) := by decide +kernel
theorem dd_Di_find_57 : decode cc_Di_find 57 = .ok (.getfield 19, 3) := by decide +kernel
theorem dd_Di_find_60 : decode cc_Di_find 60 = .ok (.iconst 1, 1) := by decide +kernel
theorem dd_Di_find_61 : decode cc_Di_find 61 = .ok (.isub, 1) := by decide +kernel
theorem dd_Di_find_62 : decode cc_Di_find 62 = .ok (.istore_n 2, 1) := by decide +kernel
theorem dd_Di_find_63 : decode cc_Di_find 63 = .ok (.iload_n 2, 1) := by decide +kernel
theorem dd_Di_find_64 : decode cc_Di_find 64 = .ok (.ifCond .lt 38, 3) := by decide +kernel
theorem dd_Di_find_67 : decode cc_Di_find 67 = .ok (.aload_n 0, 1) := by decide +kernel
theorem dd_Di_find_68 : decode cc_Di_find 68 = .ok (.getfield 9, 3) := by decide +kernel
theorem dd_Di_find_71 : decode cc_Di_find 71 = .ok (.iload_n 2, 1) := by decide +kernel
theorem dd_Di_find_72 : decode cc_Di_find 72 = .ok (.aload_n 0, 1) := by decide +kernel
theorem dd_Di_find_73 : decode cc_Di_find 73 = .ok (.getfield 9, 3) := by decide +kernel
theorem dd_Di_find_76 : decode cc_Di_find 76 = .ok (.iload_n 2, 1) := by decide +kernel
theorem dd_Di_find_77 : decode cc_Di_find 77 = .ok (.baload, 1) := by decide +kernel
theorem dd_Di_find_78 : decode cc_Di_find 78 = .ok (.ifCond .eq 16, 3) := by decide +kernel
theorem dd_Di_find_81 : decode cc_Di_find 81 = .ok (.aload_n 0, 1) := by decide +kernel
theorem dd_Di_find_82 : decode cc_Di_find 82 = .ok (.aload_n 1, 1) := by decide +kernel
theorem dd_Di_find_83 : decode cc_Di_find 83 = .ok (.iload_n 2, 1) := by decide +kernel
theorem dd_Di_find_84 : decode cc_Di_find 84 = .ok (.invokevirtual 46, 3) := by decide +kernel
theorem dd_Di_find_87 : decode cc_Di_find 87 = .ok (.ifCond .eq 7, 3) := by decide +kernel
theorem dd_Di_find_90 : decode cc_Di_find 90 = .ok (.iconst 1, 1) := by decide +kernel
theorem dd_Di_find_91 : decode cc_Di_find 91 = .ok (.goto 4, 3) := by decide +kernel
theorem dd_Di_find_94 : decode cc_Di_find 94 = .ok (.iconst 0, 1) := by decide +kernel
theorem dd_Di_find_95 : decode cc_Di_find 95 = .ok (.bastore, 1) := by decide +kernel
theorem dd_Di_find_96 : decode cc_Di_find 96 = .ok (.iinc 2 (-1), 3) := by decide +kernel
theorem dd_Di_find_99 : decode cc_Di_find 99 = .ok (.goto (-36), 3) := by decide +kernel
theorem dd_Di_find_102 : decode cc_Di_find 102 = .ok (.return_, 1) := by decide +kernel
theorem dd_Di_held_0 : decode cc_Di_held 0 = .ok (.iconst 0, 1) := by decide +kernel
theorem dd_Di_held_1 : decode cc_Di_held 1 = .ok (.istore_n 1, 1) := by decide +kernel
theorem dd_Di_held_2 : decode cc_Di_held 2 = .ok (.iconst 0, 1) := by decide +kernel
theorem dd_Di_held_3 : decode cc_Di_held 3 = .ok (.istore_n 2, 1) := by decide +kernel
theorem dd_Di_held_4 : decode cc_Di_held 4 = .ok (.iload_n 2, 1) := by decide +kernel
theorem dd_Di_held_5 : decode cc_Di_held 5 = .ok (.aload_n 0, 1) := by decide +kernel
theorem dd_Di_held_6 : decode cc_Di_held 6 = .ok (.getfield 19, 3) := by decide +kernel
theorem dd_Di_held_9 : decode cc_Di_held 9 = .ok (.if_icmp .ge 26, 3) := by decide +kernel
theorem dd_Di_held_12 : decode cc_Di_held 12 = .ok (.iload_n 1, 1) := by decide +kernel
theorem dd_Di_held_13 : decode cc_Di_held 13 = .ok (.aload_n 0, 1) := by decide +kernel
theorem dd_Di_held_14 : decode cc_Di_held 14 = .ok (.getfield 9, 3) := by decide +kernel
theorem dd_Di_held_17 : decode cc_Di_held 17 = .ok (.iload_n 2, 1) := by decide +kernel
theorem dd_Di_held_18 : decode cc_Di_held 18 = .ok (.baload, 1) := by decide +kernel
theorem dd_Di_held_19 : decode cc_Di_held 19 = .ok (.ifCond .eq 7, 3) := by decide +kernel
theorem dd_Di_held_22 : decode cc_Di_held 22 = .ok (.iconst 1, 1) := by decide +kernel
theorem dd_Di_held_23 : decode cc_Di_held 23 = .ok (.goto 4, 3) := by decide +kernel
theorem dd_Di_held_26 : decode cc_Di_held 26 = .ok (.iconst 0, 1) := by decide +kernel
theorem dd_Di_held_27 : decode cc_Di_held 27 = .ok (.iadd, 1) := by decide +kernel
theorem dd_Di_held_28 : decode cc_Di_held 28 = .ok (.istore_n 1, 1) := by decide +kernel
theorem dd_Di_held_29 : decode cc_Di_held 29 = .ok (.iinc 2 1, 3) := by decide +kernel
theorem dd_Di_held_32 : decode cc_Di_held 32 = .ok (.goto (-28), 3) := by decide +kernel
theorem dd_Di_held_35 : decode cc_Di_held 35 = .ok (.iload_n 1, 1) := by decide +kernel
theorem dd_Di_held_36 : decode cc_Di_held 36 = .ok (.ireturn, 1) := by decide +kernel
theorem dd_Di_nodeAt_0 : decode cc_Di_nodeAt 0 = .ok (.iconst 0, 1) := by decide +kernel
theorem dd_Di_nodeAt_1 : decode cc_Di_nodeAt 1 = .ok (.istore_n 2, 1) := by decide +kernel
theorem dd_Di_nodeAt_2 : decode cc_Di_nodeAt 2 = .ok (.iconst 0, 1) := by decide +kernel
theorem dd_Di_nodeAt_3 : decode cc_Di_nodeAt 3 = .ok (.istore_n 3, 1) := by decide +kernel
theorem dd_Di_nodeAt_4 : decode cc_Di_nodeAt 4 = .ok (.iload_n 3, 1) := by decide +kernel
theorem dd_Di_nodeAt_5 : decode cc_Di_nodeAt 5 = .ok (.aload_n 0, 1) := by decide +kernel
theorem dd_Di_nodeAt_6 : decode cc_Di_nodeAt 6 = .ok (.getfield 19, 3) := by decide +kernel
theorem dd_Di_nodeAt_9 : decode cc_Di_nodeAt 9 = .ok (.if_icmp .ge 28, 3) := by decide +kernel
theorem dd_Di_nodeAt_12 : decode cc_Di_nodeAt 12 = .ok (.aload_n 0, 1) := by decide +kernel
theorem dd_Di_nodeAt_13 : decode cc_Di_nodeAt 13 = .ok (.getfield 9, 3) := by decide +kernel
theorem dd_Di_nodeAt_16 : decode cc_Di_nodeAt 16 = .ok (.iload_n 3, 1) := by decide +kernel
theorem dd_Di_nodeAt_17 : decode cc_Di_nodeAt 17 = .ok (.baload, 1) := by decide +kernel
theorem dd_Di_nodeAt_18 : decode cc_Di_nodeAt 18 = .ok (.ifCond .eq 13, 3) := by decide +kernel
theorem dd_Di_nodeAt_21 : decode cc_Di_nodeAt 21 = .ok (.iload_n 2, 1) := by decide +kernel
theorem dd_Di_nodeAt_22 : decode cc_Di_nodeAt 22 = .ok (.iload_n 1, 1) := by decide +kernel
theorem dd_Di_nodeAt_23 : decode cc_Di_nodeAt 23 = .ok (.if_icmp .ne 5, 3) := by decide +kernel
theorem dd_Di_nodeAt_26 : decode cc_Di_nodeAt 26 = .ok (.iload_n 3, 1) := by decide +kernel
theorem dd_Di_nodeAt_27 : decode cc_Di_nodeAt 27 = .ok (.ireturn, 1) := by decide +kernel
theorem dd_Di_nodeAt_28 : decode cc_Di_nodeAt 28 = .ok (.iinc 2 1, 3) := by decide +kernel
theorem dd_Di_nodeAt_31 : decode cc_Di_nodeAt 31 = .ok (.iinc 3 1, 3) := by decide +kernel
theorem dd_Di_nodeAt_34 : decode cc_Di_nodeAt 34 = .ok (.goto (-30), 3) := by decide +kernel
theorem dd_Di_nodeAt_37 : decode cc_Di_nodeAt 37 = .ok (.bipush (-2), 2) := by decide +kernel
theorem dd_Di_nodeAt_39 : decode cc_Di_nodeAt 39 = .ok (.ireturn, 1) := by decide +kernel
theorem dd_Di_new_0 : decode cc_Di_new 0 = .ok (.aload_n 0, 1) := by decide +kernel
theorem dd_Di_new_1 : decode cc_Di_new 1 = .ok (.invokespecial 3, 3) := by decide +kernel
theorem dd_Di_new_4 : decode cc_Di_new 4 = .ok (.aload_n 0, 1) := by decide +kernel
theorem dd_Di_new_5 : decode cc_Di_new 5 = .ok (.bipush 40, 2) := by decide +kernel
theorem dd_Di_new_7 : decode cc_Di_new 7 = .ok (.newarray .boolean, 2) := by decide +kernel
theorem dd_Di_new_9 : decode cc_Di_new 9 = .ok (.putfield 9, 3) := by decide +kernel
theorem dd_Di_new_12 : decode cc_Di_new 12 = .ok (.aload_n 0, 1) := by decide +kernel
theorem dd_Di_new_13 : decode cc_Di_new 13 = .ok (.bipush 40, 2) := by decide +kernel
theorem dd_Di_new_15 : decode cc_Di_new 15 = .ok (.newarray .int, 2) := by decide +kernel
theorem dd_Di_new_17 : decode cc_Di_new 17 = .ok (.putfield 15, 3) := by decide +kernel
theorem dd_Di_new_20 : decode cc_Di_new 20 = .ok (.aload_n 0, 1) := by decide +kernel
theorem dd_Di_new_21 : decode cc_Di_new 21 = .ok (.iconst 0, 1) := by decide +kernel
theorem dd_Di_new_22 : decode cc_Di_new 22 = .ok (.putfield 19, 3) := by decide +kernel
theorem dd_Di_new_25 : decode cc_Di_new 25 = .ok (.return_, 1) := by decide +kernel
