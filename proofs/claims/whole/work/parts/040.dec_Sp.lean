theorem dd_Sp_recountLinks_0 : decode cc_Sp_recountLinks 0 = .ok (.iconst 0, 1) := by decide +kernel
theorem dd_Sp_recountLinks_1 : decode cc_Sp_recountLinks 1 = .ok (.istore_n 2, 1) := by decide +kernel
theorem dd_Sp_recountLinks_2 : decode cc_Sp_recountLinks 2 = .ok (.iload_n 2, 1) := by decide +kernel
theorem dd_Sp_recountLinks_3 : decode cc_Sp_recountLinks 3 = .ok (.aload_n 0, 1) := by decide +kernel
theorem dd_Sp_recountLinks_4 : decode cc_Sp_recountLinks 4 = .ok (.getfield 12, 3) := by decide +kernel
theorem dd_Sp_recountLinks_7 : decode cc_Sp_recountLinks 7 = .ok (.getfield 48, 3) := by decide +kernel
theorem dd_Sp_recountLinks_10 : decode cc_Sp_recountLinks 10 = .ok (.if_icmp .ge 68, 3) := by decide +kernel
theorem dd_Sp_recountLinks_13 : decode cc_Sp_recountLinks 13 = .ok (.aload_n 0, 1) := by decide +kernel
theorem dd_Sp_recountLinks_14 : decode cc_Sp_recountLinks 14 = .ok (.getfield 12, 3) := by decide +kernel
theorem dd_Sp_recountLinks_17 : decode cc_Sp_recountLinks 17 = .ok (.iload_n 1, 1) := by decide +kernel
theorem dd_Sp_recountLinks_18 : decode cc_Sp_recountLinks 18 = .ok (.iload_n 2, 1) := by decide +kernel
theorem dd_Sp_recountLinks_19 : decode cc_Sp_recountLinks 19 = .ok (.invokevirtual 65, 3) := by decide +kernel
theorem dd_Sp_recountLinks_22 : decode cc_Sp_recountLinks 22 = .ok (.istore_n 3, 1) := by decide +kernel
theorem dd_Sp_recountLinks_23 : decode cc_Sp_recountLinks 23 = .ok (.aload_n 0, 1) := by decide +kernel
theorem dd_Sp_recountLinks_24 : decode cc_Sp_recountLinks 24 = .ok (.getfield 32, 3) := by decide +kernel
theorem dd_Sp_recountLinks_27 : decode cc_Sp_recountLinks 27 = .ok (.iload_n 1, 1) := by decide +kernel
theorem dd_Sp_recountLinks_28 : decode cc_Sp_recountLinks 28 = .ok (.iconst 4, 1) := by decide +kernel
theorem dd_Sp_recountLinks_29 : decode cc_Sp_recountLinks 29 = .ok (.imul, 1) := by decide +kernel
theorem dd_Sp_recountLinks_30 : decode cc_Sp_recountLinks 30 = .ok (.aload_n 0, 1) := by decide +kernel
theorem dd_Sp_recountLinks_31 : decode cc_Sp_recountLinks 31 = .ok (.getfield 25, 3) := by decide +kernel
theorem dd_Sp_recountLinks_34 : decode cc_Sp_recountLinks 34 = .ok (.iload_n 2, 1) := by decide +kernel
theorem dd_Sp_recountLinks_35 : decode cc_Sp_recountLinks 35 = .ok (.iaload, 1) := by decide +kernel
theorem dd_Sp_recountLinks_36 : decode cc_Sp_recountLinks 36 = .ok (.iadd, 1) := by decide +kernel
theorem dd_Sp_recountLinks_37 : decode cc_Sp_recountLinks 37 = .ok (.dup2, 1) := by decide +kernel
theorem dd_Sp_recountLinks_38 : decode cc_Sp_recountLinks 38 = .ok (.iaload, 1) := by decide +kernel
theorem dd_Sp_recountLinks_39 : decode cc_Sp_recountLinks 39 = .ok (.iload_n 3, 1) := by decide +kernel
theorem dd_Sp_recountLinks_40 : decode cc_Sp_recountLinks 40 = .ok (.iadd, 1) := by decide +kernel
theorem dd_Sp_recountLinks_41 : decode cc_Sp_recountLinks 41 = .ok (.iastore, 1) := by decide +kernel
theorem dd_Sp_recountLinks_42 : decode cc_Sp_recountLinks 42 = .ok (.iload_n 2, 1) := by decide +kernel
theorem dd_Sp_recountLinks_43 : decode cc_Sp_recountLinks 43 = .ok (.iload_n 1, 1) := by decide +kernel
theorem dd_Sp_recountLinks_44 : decode cc_Sp_recountLinks 44 = .ok (.if_icmp .ge 28, 3) := by decide +kernel
theorem dd_Sp_recountLinks_47 : decode cc_Sp_recountLinks 47 = .ok (.aload_n 0, 1) := by decide +kernel
theorem dd_Sp_recountLinks_48 : decode cc_Sp_recountLinks 48 = .ok (.getfield 25, 3) := by decide +kernel
theorem dd_Sp_recountLinks_51 : decode cc_Sp_recountLinks 51 = .ok (.iload_n 2, 1) := by decide +kernel
theorem dd_Sp_recountLinks_52 : decode cc_Sp_recountLinks 52 = .ok (.iaload, 1) := by decide +kernel
theorem dd_Sp_recountLinks_53 : decode cc_Sp_recountLinks 53 = .ok (.aload_n 0, 1) := by decide +kernel
theorem dd_Sp_recountLinks_54 : decode cc_Sp_recountLinks 54 = .ok (.getfield 25, 3) := by decide +kernel
theorem dd_Sp_recountLinks_57 : decode cc_Sp_recountLinks 57 = .ok (.iload_n 1, 1) := by decide +kernel
theorem dd_Sp_recountLinks_58 : decode cc_Sp_recountLinks 58 = .ok (.iaload, 1) := by decide +kernel
theorem dd_Sp_recountLinks_59 : decode cc_Sp_recountLinks 59 = .ok (.if_icmp .eq 13, 3) := by decide +kernel
theorem dd_Sp_recountLinks_62 : decode cc_Sp_recountLinks 62 = .ok (.aload_n 0, 1) := by decide +kernel
theorem dd_Sp_recountLinks_63 : decode cc_Sp_recountLinks 63 = .ok (.dup, 1) := by decide +kernel
theorem dd_Sp_recountLinks_64 : decode cc_Sp_recountLinks 64 = .ok (.getfield 35, 3) := by decide +kernel
theorem dd_Sp_recountLinks_67 : decode cc_Sp_recountLinks 67 = .ok (.iload_n 3, 1) := by decide +kernel
theorem dd_Sp_recountLinks_68 : decode cc_Sp_recountLinks 68 = .ok (.iadd, 1) := by decide +kernel
theorem dd_Sp_recountLinks_69 : decode cc_Sp_recountLinks 69 = .ok (.putfield 35, 3) := by decide +kernel
theorem dd_Sp_recountLinks_72 : decode cc_Sp_recountLinks 72 = .ok (.iinc 2 1, 3) := by decide +kernel
theorem dd_Sp_recountLinks_75 : decode cc_Sp_recountLinks 75 = .ok (.goto (-73), 3) := by decide +kernel
theorem dd_Sp_recountLinks_78 : decode cc_Sp_recountLinks 78 = .ok (.return_, 1) := by decide +kernel
theorem dd_Sp_recount_0 : decode cc_Sp_recount 0 = .ok (.aload_n 0, 1) := by decide +kernel
theorem dd_Sp_recount_1 : decode cc_Sp_recount 1 = .ok (.getfield 29, 3) := by decide +kernel
theorem dd_Sp_recount_4 : decode cc_Sp_recount 4 = .ok (.iconst 0, 1) := by decide +kernel
theorem dd_Sp_recount_5 : decode cc_Sp_recount 5 = .ok (.invokestatic 42, 3) := by decide +kernel
theorem dd_Sp_recount_8 : decode cc_Sp_recount 8 = .ok (.aload_n 0, 1) := by decide +kernel
theorem dd_Sp_recount_9 : decode cc_Sp_recount 9 = .ok (.getfield 32, 3) := by decide +kernel
theorem dd_Sp_recount_12 : decode cc_Sp_recount 12 = .ok (.iconst 0, 1) := by decide +kernel
theorem dd_Sp_recount_13 : decode cc_Sp_recount 13 = .ok (.invokestatic 42, 3) := by decide +kernel
theorem dd_Sp_recount_16 : decode cc_Sp_recount 16 = .ok (.aload_n 0, 1) := by decide +kernel
theorem dd_Sp_recount_17 : decode cc_Sp_recount 17 = .ok (.iconst 0, 1) := by decide +kernel
theorem dd_Sp_recount_18 : decode cc_Sp_recount 18 = .ok (.putfield 35, 3) := by decide +kernel
theorem dd_Sp_recount_21 : decode cc_Sp_recount 21 = .ok (.iconst 0, 1) := by decide +kernel
theorem dd_Sp_recount_22 : decode cc_Sp_recount 22 = .ok (.istore_n 1, 1) := by decide +kernel
theorem dd_Sp_recount_23 : decode cc_Sp_recount 23 = .ok (.iload_n 1, 1) := by decide +kernel
theorem dd_Sp_recount_24 : decode cc_Sp_recount 24 = .ok (.aload_n 0, 1) := by decide +kernel
theorem dd_Sp_recount_25 : decode cc_Sp_recount 25 = .ok (.getfield 12, 3) := by decide +kernel
theorem dd_Sp_recount_28 : decode cc_Sp_recount 28 = .ok (.getfield 48, 3) := by decide +kernel
theorem dd_Sp_recount_31 : decode cc_Sp_recount 31 = .ok (.if_icmp .ge 37, 3) := by decide +kernel
theorem dd_Sp_recount_34 : decode cc_Sp_recount 34 = .ok (.aload_n 0, 1) := by decide +kernel
theorem dd_Sp_recount_35 : decode cc_Sp_recount 35 = .ok (.getfield 29, 3) := by decide +kernel
theorem dd_Sp_recount_38 : decode cc_Sp_recount 38 = .ok (.aload_n 0, 1) := by decide +kernel
theorem dd_Sp_recount_39 : decode cc_Sp_recount 39 = .ok (.getfield 25, 3) := by decide +kernel
theorem dd_Sp_recount_42 : decode cc_Sp_recount 42 = .ok (.iload_n 1, 1) := by decide +kernel
theorem dd_Sp_recount_43 : decode cc_Sp_recount 43 = .ok (.iaload, 1) := by decide +kernel
theorem dd_Sp_recount_44 : decode cc_Sp_recount 44 = .ok (.dup2, 1) := by decide +kernel
theorem dd_Sp_recount_45 : decode cc_Sp_recount 45 = .ok (.iaload, 1) := by decide +kernel
theorem dd_Sp_recount_46 : decode cc_Sp_recount 46 = .ok (.aload_n 0, 1) := by decide +kernel
theorem dd_Sp_recount_47 : decode cc_Sp_recount 47 = .ok (.getfield 12, 3) := by decide +kernel
theorem dd_Sp_recount_50 : decode cc_Sp_recount 50 = .ok (.getfield 51, 3) := by decide +kernel
theorem dd_Sp_recount_53 : decode cc_Sp_recount 53 = .ok (.iload_n 1, 1) := by decide +kernel
theorem dd_Sp_recount_54 : decode cc_Sp_recount 54 = .ok (.iaload, 1) := by decide +kernel
theorem dd_Sp_recount_55 : decode cc_Sp_recount 55 = .ok (.iadd, 1) := by decide +kernel
theorem dd_Sp_recount_56 : decode cc_Sp_recount 56 = .ok (.iastore, 1) := by decide +kernel
theorem dd_Sp_recount_57 : decode cc_Sp_recount 57 = .ok (.aload_n 0, 1) := by decide +kernel
theorem dd_Sp_recount_58 : decode cc_Sp_recount 58 = .ok (.iload_n 1, 1) := by decide +kernel
theorem dd_Sp_recount_59 : decode cc_Sp_recount 59 = .ok (.invokevirtual 54, 3) := by decide +kernel
theorem dd_Sp_recount_62 : decode cc_Sp_recount 62 = .ok (.iinc 1 1, 3) := by decide +kernel
theorem dd_Sp_recount_65 : decode cc_Sp_recount 65 = .ok (.goto (-42), 3) := by decide +kernel
theorem dd_Sp_recount_68 : decode cc_Sp_recount 68 = .ok (.aload_n 0, 1) := by decide +kernel
theorem dd_Sp_recount_69 : decode cc_Sp_recount 69 = .ok (.iconst 0, 1) := by decide +kernel
theorem dd_Sp_recount_70 : decode cc_Sp_recount 70 = .ok (.putfield 39, 3) := by decide +kernel
theorem dd_Sp_recount_73 : decode cc_Sp_recount 73 = .ok (.iconst 0, 1) := by decide +kernel
theorem dd_Sp_recount_74 : decode cc_Sp_recount 74 = .ok (.istore_n 1, 1) := by decide +kernel
theorem dd_Sp_recount_75 : decode cc_Sp_recount 75 = .ok (.iload_n 1, 1) := by decide +kernel
theorem dd_Sp_recount_76 : decode cc_Sp_recount 76 = .ok (.aload_n 0, 1) := by decide +kernel
theorem dd_Sp_recount_77 : decode cc_Sp_recount 77 = .ok (.getfield 21, 3) := by decide +kernel
theorem dd_Sp_recount_80 : decode cc_Sp_recount 80 = .ok (.getfield 58, 3) := by decide +kernel
theorem dd_Sp_recount_83 : decode cc_Sp_recount 83 = .ok (.if_icmp .ge 32, 3) := by decide +kernel
theorem dd_Sp_recount_86 : decode cc_Sp_recount 86 = .ok (.aload_n 0, 1) := by decide +kernel
theorem dd_Sp_recount_87 : decode cc_Sp_recount 87 = .ok (.dup, 1) := by decide +kernel
theorem dd_Sp_recount_88 : decode cc_Sp_recount 88 = .ok (.getfield 39, 3) := by decide +kernel
theorem dd_Sp_recount_91 : decode cc_Sp_recount 91 = .ok (.aload_n 0, 1) := by decide +kernel
theorem dd_Sp_recount_92 : decode cc_Sp_recount 92 = .ok (.getfield 21, 3) := by decide +kernel
theorem dd_Sp_recount_95 : decode cc_Sp_recount 95 = .ok (.iload_n 1, 1) := by decide +kernel
theorem dd_Sp_recount_96 : decode cc_Sp_recount 96 = .ok (.aload_n 0, 1) := by decide +kernel
theorem dd_Sp_recount_97 : decode cc_Sp_recount 97 = .ok (.getfield 29, 3) := by decide +kernel
theorem dd_Sp_recount_100 : decode cc_Sp_recount 100 = .ok (.iload_n 1, 1) := by decide +kernel
theorem dd_Sp_recount_101 : decode cc_Sp_recount 101 = .ok (.iaload, 1) := by decide +kernel
theorem dd_Sp_recount_102 : decode cc_Sp_recount 102 = .ok (.invokevirtual 61, 3) := by decide +kernel
theorem dd_Sp_recount_105 : decode cc_Sp_recount 105 = .ok (.iadd, 1) := by decide +kernel
theorem dd_Sp_recount_106 : decode cc_Sp_recount 106 = .ok (.putfield 39, 3) := by decide +kernel
theorem dd_Sp_recount_109 : decode cc_Sp_recount 109 = .ok (.iinc 1 1, 3) := by decide +kernel
theorem dd_Sp_recount_112 : decode cc_Sp_recount 112 = .ok (.goto (-37), 3) := by decide +kernel
theorem dd_Sp_recount_115 : decode cc_Sp_recount 115 = .ok (.return_, 1) := by decide +kernel
theorem dd_Sp_overBehind_0 : decode cc_Sp_overBehind 0 = .ok (.aload_n 0, 1) := by decide +kernel
theorem dd_Sp_overBehind_1 : decode cc_Sp_overBehind 1 = .ok (.getfield 25, 3) := by decide +kernel
theorem dd_Sp_overBehind_4 : decode cc_Sp_overBehind 4 = .ok (.iload_n 1, 1) := by decide +kernel
theorem dd_Sp_overBehind_5 : decode cc_Sp_overBehind 5 = .ok (.iaload, 1) := by decide +kernel
theorem dd_Sp_overBehind_6 : decode cc_Sp_overBehind 6 = .ok (.istore_n 3, 1) := by decide +kernel
theorem dd_Sp_overBehind_7 : decode cc_Sp_overBehind 7 = .ok (.iload_n 3, 1) := by decide +kernel
theorem dd_Sp_overBehind_8 : decode cc_Sp_overBehind 8 = .ok (.iload_n 2, 1) := by decide +kernel
theorem dd_Sp_overBehind_9 : decode cc_Sp_overBehind 9 = .ok (.if_icmp .ne 8, 3) := by decide +kernel
theorem dd_Sp_overBehind_12 : decode cc_Sp_overBehind 12 = .ok (.aload_n 0, 1) := by decide +kernel
theorem dd_Sp_overBehind_13 : decode cc_Sp_overBehind 13 = .ok (.getfield 39, 3) := by decide +kernel
theorem dd_Sp_overBehind_16 : decode cc_Sp_overBehind 16 = .ok (.ireturn, 1) := by decide +kernel
theorem dd_Sp_overBehind_17 : decode cc_Sp_overBehind 17 = .ok (.aload_n 0, 1) := by decide +kernel
theorem dd_Sp_overBehind_18 : decode cc_Sp_overBehind 18 = .ok (.getfield 12, 3) := by decide +kernel
theorem dd_Sp_overBehind_21 : decode cc_Sp_overBehind 21 = .ok (.getfield 51, 3) := by decide +kernel
theorem dd_Sp_overBehind_24 : decode cc_Sp_overBehind 24 = .ok (.iload_n 1, 1) := by decide +kernel
theorem dd_Sp_overBehind_25 : decode cc_Sp_overBehind 25 = .ok (.iaload, 1) := by decide +kernel
theorem dd_Sp_overBehind_26 : decode cc_Sp_overBehind 26 = .ok (.istore 4, 2) := by decide +kernel
theorem dd_Sp_overBehind_28 : decode cc_Sp_overBehind 28 = .ok (.aload_n 0, 1) := by decide +kernel
theorem dd_Sp_overBehind_29 : decode cc_Sp_overBehind 29 = .ok (.getfield 39, 3) := by decide +kernel
theorem dd_Sp_overBehind_32 : decode cc_Sp_overBehind 32 = .ok (.aload_n 0, 1) := by decide +kernel
theorem dd_Sp_overBehind_33 : decode cc_Sp_overBehind 33 = .ok (.getfield 21, 3) := by decide +kernel
theorem dd_Sp_overBehind_36 : decode cc_Sp_overBehind 36 = .ok (.iload_n 3, 1) := by decide +kernel
theorem dd_Sp_overBehind_37 : decode cc_Sp_overBehind 37 = .ok (.aload_n 0, 1) := by decide +kernel
theorem dd_Sp_overBehind_38 : decode cc_Sp_overBehind 38 = .ok (.getfield 29, 3) := by decide +kernel
theorem dd_Sp_overBehind_41 : decode cc_Sp_overBehind 41 = .ok (.iload_n 3, 1) := by decide +kernel
theorem dd_Sp_overBehind_42 : decode cc_Sp_overBehind 42 = .ok (.iaload, 1) := by decide +kernel
theorem dd_Sp_overBehind_43 : decode cc_Sp_overBehind 43 = .ok (.invokevirtual 61, 3) := by decide +kernel
theorem dd_Sp_overBehind_46 : decode cc_Sp_overBehind 46 = .ok (.isub, 1) := by decide +kernel
theorem dd_Sp_overBehind_47 : decode cc_Sp_overBehind 47 = .ok (.aload_n 0, 1) := by decide +kernel
theorem dd_Sp_overBehind_48 : decode cc_Sp_overBehind 48 = .ok (.getfield 21, 3) := by decide +kernel
theorem dd_Sp_overBehind_51 : decode cc_Sp_overBehind 51 = .ok (.iload_n 2, 1) := by decide +kernel
theorem dd_Sp_overBehind_52 : decode cc_Sp_overBehind 52 = .ok (.aload_n 0, 1) := by decide +kernel
theorem dd_Sp_overBehind_53 : decode cc_Sp_overBehind 53 = .ok (.getfield 29, 3) := by decide +kernel
theorem dd_Sp_overBehind_56 : decode cc_Sp_overBehind 56 = .ok (.iload_n 2, 1) := by decide +kernel
theorem dd_Sp_overBehind_57 : decode cc_Sp_overBehind 57 = .ok (.iaload, 1) := by decide +kernel
theorem dd_Sp_overBehind_58 : decode cc_Sp_overBehind 58 = .ok (.invokevirtual 61, 3) := by decide +kernel
theorem dd_Sp_overBehind_61 : decode cc_Sp_overBehind 61 = .ok (.isub, 1) := by decide +kernel
theorem dd_Sp_overBehind_62 : decode cc_Sp_overBehind 62 = .ok (.aload_n 0, 1) := by decide +kernel
theorem dd_Sp_overBehind_63 : decode cc_Sp_overBehind 63 = .ok (.getfield 21, 3) := by decide +kernel
theorem dd_Sp_overBehind_66 : decode cc_Sp_overBehind 66 = .ok (.iload_n 3, 1) := by decide +kernel
theorem dd_Sp_overBehind_67 : decode cc_Sp_overBehind 67 = .ok (.aload_n 0, 1) := by decide +kernel
theorem dd_Sp_overBehind_68 : decode cc_Sp_overBehind 68 = .ok (.getfield 29, 3) := by decide +kernel
theorem dd_Sp_overBehind_71 : decode cc_Sp_overBehind 71 = .ok (.iload_n 3, 1) := by decide +kernel
theorem dd_Sp_overBehind_72 : decode cc_Sp_overBehind 72 = .ok (.iaload, 1) := by decide +kernel
theorem dd_Sp_overBehind_73 : decode cc_Sp_overBehind 73 = .ok (.iload 4, 2) := by decide +kernel
theorem dd_Sp_overBehind_75 : decode cc_Sp_overBehind 75 = .ok (.isub, 1) := by decide +kernel
theorem dd_Sp_overBehind_76 : decode cc_Sp_overBehind 76 = .ok (.invokevirtual 61, 3) := by decide +kernel
theorem dd_Sp_overBehind_79 : decode cc_Sp_overBehind 79 = .ok (.iadd, 1) := by decide +kernel
theorem dd_Sp_overBehind_80 : decode cc_Sp_overBehind 80 = .ok (.aload_n 0, 1) := by decide +kernel
theorem dd_Sp_overBehind_81 : decode cc_Sp_overBehind 81 = .ok (.getfield 21, 3) := by decide +kernel
theorem dd_Sp_overBehind_84 : decode cc_Sp_overBehind 84 = .ok (.iload_n 2, 1) := by decide +kernel
theorem dd_Sp_overBehind_85 : decode cc_Sp_overBehind 85 = .ok (.aload_n 0, 1) := by decide +kernel
theorem dd_Sp_overBehind_86 : decode cc_Sp_overBehind 86 = .ok (.getfield 29, 3) := by decide +kernel
theorem dd_Sp_overBehind_89 : decode cc_Sp_overBehind 89 = .ok (.iload_n 2, 1) := by decide +kernel
theorem dd_Sp_overBehind_90 : decode cc_Sp_overBehind 90 = .ok (.iaload, 1) := by decide +kernel
theorem dd_Sp_overBehind_91 : decode cc_Sp_overBehind 91 = .ok (.iload 4, 2) := by decide +kernel
theorem dd_Sp_overBehind_93 : decode cc_Sp_overBehind 93 = .ok (.iadd, 1) := by decide +kernel
theorem dd_Sp_overBehind_94 : decode cc_Sp_overBehind 94 = .ok (.invokevirtual 61, 3) := by decide +kernel
theorem dd_Sp_overBehind_97 : decode cc_Sp_overBehind 97 = .ok (.iadd, 1) := by decide +kernel
theorem dd_Sp_overBehind_98 : decode cc_Sp_overBehind 98 = .ok (.ireturn, 1) := by decide +kernel
theorem dd_Sp_gainOf_0 : decode cc_Sp_gainOf 0 = .ok (.aload_n 0, 1) := by decide +kernel
theorem dd_Sp_gainOf_1 : decode cc_Sp_gainOf 1 = .ok (.getfield 32, 3) := by decide +kernel
theorem dd_Sp_gainOf_4 : decode cc_Sp_gainOf 4 = .ok (.iload_n 1, 1) := by decide +kernel
theorem dd_Sp_gainOf_5 : decode cc_Sp_gainOf 5 = .ok (.iconst 4, 1) := by decide +kernel
theorem dd_Sp_gainOf_6 : decode cc_Sp_gainOf 6 = .ok (.imul, 1) := by decide +kernel
theorem dd_Sp_gainOf_7 : decode cc_Sp_gainOf 7 = .ok (.iload_n 2, 1) := by decide +kernel
theorem dd_Sp_gainOf_8 : decode cc_Sp_gainOf 8 = .ok (.iadd, 1) := by decide +kernel
theorem dd_Sp_gainOf_9 : decode cc_Sp_gainOf 9 = .ok (.iaload, 1) := by decide +kernel
theorem dd_Sp_gainOf_10 : decode cc_Sp_gainOf 10 = .ok (.aload_n 0, 1) := by decide +kernel
theorem dd_Sp_gainOf_11 : decode cc_Sp_gainOf 11 = .ok (.getfield 32, 3) := by decide +kernel
theorem dd_Sp_gainOf_14 : decode cc_Sp_gainOf 14 = .ok (.iload_n 1, 1) := by decide +kernel
theorem dd_Sp_gainOf_15 : decode cc_Sp_gainOf 15 = .ok (.iconst 4, 1) := by decide +kernel
theorem dd_Sp_gainOf_16 : decode cc_Sp_gainOf 16 = .ok (.imul, 1) := by decide +kernel
theorem dd_Sp_gainOf_17 : decode cc_Sp_gainOf 17 = .ok (.aload_n 0, 1) := by decide +kernel
theorem dd_Sp_gainOf_18 : decode cc_Sp_gainOf 18 = .ok (.getfield 25, 3) := by decide +kernel
theorem dd_Sp_gainOf_21 : decode cc_Sp_gainOf 21 = .ok (.iload_n 1, 1) := by decide +kernel
theorem dd_Sp_gainOf_22 : decode cc_Sp_gainOf 22 = .ok (.iaload, 1) := by decide +kernel
theorem dd_Sp_gainOf_23 : decode cc_Sp_gainOf 23 = .ok (.iadd, 1) := by decide +kernel
theorem dd_Sp_gainOf_24 : decode cc_Sp_gainOf 24 = .ok (.iaload, 1) := by decide +kernel
theorem dd_Sp_gainOf_25 : decode cc_Sp_gainOf 25 = .ok (.isub, 1) := by decide +kernel
theorem dd_Sp_gainOf_26 : decode cc_Sp_gainOf 26 = .ok (.ireturn, 1) := by decide +kernel
theorem dd_Sp_shift_0 : decode cc_Sp_shift 0 = .ok (.aload_n 0, 1) := by decide +kernel
theorem dd_Sp_shift_1 : decode cc_Sp_shift 1 = .ok (.getfield 25, 3) := by decide +kernel
theorem dd_Sp_shift_4 : decode cc_Sp_shift 4 = .ok (.iload_n 1, 1) := by decide +kernel
theorem dd_Sp_shift_5 : decode cc_Sp_shift 5 = .ok (.iaload, 1) := by decide +kernel
theorem dd_Sp_shift_6 : decode cc_Sp_shift 6 = .ok (.istore_n 3, 1) := by decide +kernel
theorem dd_Sp_shift_7 : decode cc_Sp_shift 7 = .ok (.aload_n 0, 1) := by decide +kernel
theorem dd_Sp_shift_8 : decode cc_Sp_shift 8 = .ok (.aload_n 0, 1) := by decide +kernel
theorem dd_Sp_shift_9 : decode cc_Sp_shift 9 = .ok (.iload_n 1, 1) := by decide +kernel
theorem dd_Sp_shift_10 : decode cc_Sp_shift 10 = .ok (.iload_n 2, 1) := by decide +kernel
theorem dd_Sp_shift_11 : decode cc_Sp_shift 11 = .ok (.invokevirtual 68, 3) := by decide +kernel
theorem dd_Sp_shift_14 : decode cc_Sp_shift 14 = .ok (.putfield 39, 3) := by decide +kernel
theorem dd_Sp_shift_17 : decode cc_Sp_shift 17 = .ok (.aload_n 0, 1) := by decide +kernel
theorem dd_Sp_shift_18 : decode cc_Sp_shift 18 = .ok (.dup, 1) := by decide +kernel
theorem dd_Sp_shift_19 : decode cc_Sp_shift 19 = .ok (.getfield 35, 3) := by decide +kernel
theorem dd_Sp_shift_22 : decode cc_Sp_shift 22 = .ok (.aload_n 0, 1) := by decide +kernel
theorem dd_Sp_shift_23 : decode cc_Sp_shift 23 = .ok (.iload_n 1, 1) := by decide +kernel
theorem dd_Sp_shift_24 : decode cc_Sp_shift 24 = .ok (.iload_n 2, 1) := by decide +kernel
theorem dd_Sp_shift_25 : decode cc_Sp_shift 25 = .ok (.invokevirtual 71, 3) := by decide +kernel
theorem dd_Sp_shift_28 : decode cc_Sp_shift 28 = .ok (.isub, 1) := by decide +kernel
theorem dd_Sp_shift_29 : decode cc_Sp_shift 29 = .ok (.putfield 35, 3) := by decide +kernel
theorem dd_Sp_shift_32 : decode cc_Sp_shift 32 = .ok (.aload_n 0, 1) := by decide +kernel
theorem dd_Sp_shift_33 : decode cc_Sp_shift 33 = .ok (.getfield 29, 3) := by decide +kernel
theorem dd_Sp_shift_36 : decode cc_Sp_shift 36 = .ok (.iload_n 3, 1) := by decide +kernel
theorem dd_Sp_shift_37 : decode cc_Sp_shift 37 = .ok (.dup2, 1) := by decide +kernel
theorem dd_Sp_shift_38 : decode cc_Sp_shift 38 = .ok (.iaload, 1) := by decide +kernel
theorem dd_Sp_shift_39 : decode cc_Sp_shift 39 = .ok (.aload_n 0, 1) := by decide +kernel
theorem dd_Sp_shift_40 : decode cc_Sp_shift 40 = .ok (.getfield 12, 3) := by decide +kernel
theorem dd_Sp_shift_43 : decode cc_Sp_shift 43 = .ok (.getfield 51, 3) := by decide +kernel
theorem dd_Sp_shift_46 : decode cc_Sp_shift 46 = .ok (.iload_n 1, 1) := by decide +kernel
theorem dd_Sp_shift_47 : decode cc_Sp_shift 47 = .ok (.iaload, 1) := by decide +kernel
theorem dd_Sp_shift_48 : decode cc_Sp_shift 48 = .ok (.isub, 1) := by decide +kernel
theorem dd_Sp_shift_49 : decode cc_Sp_shift 49 = .ok (.iastore, 1) := by decide +kernel
theorem dd_Sp_shift_50 : decode cc_Sp_shift 50 = .ok (.aload_n 0, 1) := by decide +kernel
theorem dd_Sp_shift_51 : decode cc_Sp_shift 51 = .ok (.getfield 29, 3) := by decide +kernel
theorem dd_Sp_shift_54 : decode cc_Sp_shift 54 = .ok (.iload_n 2, 1) := by decide +kernel
theorem dd_Sp_shift_55 : decode cc_Sp_shift 55 = .ok (.dup2, 1) := by decide +kernel
theorem dd_Sp_shift_56 : decode cc_Sp_shift 56 = .ok (.iaload, 1) := by decide +kernel
theorem dd_Sp_shift_57 : decode cc_Sp_shift 57 = .ok (.aload_n 0, 1) := by decide +kernel
theorem dd_Sp_shift_58 : decode cc_Sp_shift 58 = .ok (.getfield 12, 3) := by decide +kernel
theorem dd_Sp_shift_61 : decode cc_Sp_shift 61 = .ok (.getfield 51, 3) := by decide +kernel
theorem dd_Sp_shift_64 : decode cc_Sp_shift 64 = .ok (.iload_n 1, 1) := by decide +kernel
theorem dd_Sp_shift_65 : decode cc_Sp_shift 65 = .ok (.iaload, 1) := by decide +kernel
theorem dd_Sp_shift_66 : decode cc_Sp_shift 66 = .ok (.iadd, 1) := by decide +kernel
theorem dd_Sp_shift_67 : decode cc_Sp_shift 67 = .ok (.iastore, 1) := by decide +kernel
theorem dd_Sp_shift_68 : decode cc_Sp_shift 68 = .ok (.iconst 0, 1) := by decide +kernel
theorem dd_Sp_shift_69 : decode cc_Sp_shift 69 = .ok (.istore 4, 2) := by decide +kernel
theorem dd_Sp_shift_71 : decode cc_Sp_shift 71 = .ok (.iload 4, 2) := by decide +kernel
theorem dd_Sp_shift_73 : decode cc_Sp_shift 73 = .ok (.aload_n 0, 1) := by decide +kernel
theorem dd_Sp_shift_74 : decode cc_Sp_shift 74 = .ok (.getfield 12, 3) := by decide +kernel
theorem dd_Sp_shift_77 : decode cc_Sp_shift 77 = .ok (.getfield 48, 3) := by decide +kernel
theorem dd_Sp_shift_80 : decode cc_Sp_shift 80 = .ok (.if_icmp .ge 53, 3) := by decide +kernel
theorem dd_Sp_shift_83 : decode cc_Sp_shift 83 = .ok (.aload_n 0, 1) := by decide +kernel
theorem dd_Sp_shift_84 : decode cc_Sp_shift 84 = .ok (.getfield 12, 3) := by decide +kernel
theorem dd_Sp_shift_87 : decode cc_Sp_shift 87 = .ok (.iload_n 1, 1) := by decide +kernel
theorem dd_Sp_shift_88 : decode cc_Sp_shift 88 = .ok (.iload 4, 2) := by decide +kernel
theorem dd_Sp_shift_90 : decode cc_Sp_shift 90 = .ok (.invokevirtual 65, 3) := by decide +kernel
theorem dd_Sp_shift_93 : decode cc_Sp_shift 93 = .ok (.istore 5, 2) := by decide +kernel
theorem dd_Sp_shift_95 : decode cc_Sp_shift 95 = .ok (.aload_n 0, 1) := by decide +kernel
theorem dd_Sp_shift_96 : decode cc_Sp_shift 96 = .ok (.getfield 32, 3) := by decide +kernel
theorem dd_Sp_shift_99 : decode cc_Sp_shift 99 = .ok (.iload 4, 2) := by decide +kernel
theorem dd_Sp_shift_101 : decode cc_Sp_shift 101 = .ok (.iconst 4, 1) := by decide +kernel
theorem dd_Sp_shift_102 : decode cc_Sp_shift 102 = .ok (.imul, 1) := by decide +kernel
theorem dd_Sp_shift_103 : decode cc_Sp_shift 103 = .ok (.iload_n 3, 1) := by decide +kernel
theorem dd_Sp_shift_104 : decode cc_Sp_shift 104 = .ok (.iadd, 1) := by decide +kernel
theorem dd_Sp_shift_105 : decode cc_Sp_shift 105 = .ok (.dup2, 1) := by decide +kernel
theorem dd_Sp_shift_106 : decode cc_Sp_shift 106 = .ok (.iaload, 1) := by decide +kernel
theorem dd_Sp_shift_107 : decode cc_Sp_shift 107 = .ok (.iload 5, 2) := by decide +kernel
theorem dd_Sp_shift_109 : decode cc_Sp_shift 109 = .ok (.isub, 1) := by decide +kernel
theorem dd_Sp_shift_110 : decode cc_Sp_shift 110 = .ok (.iastore, 1) := by decide +kernel
theorem dd_Sp_shift_111 : decode cc_Sp_shift 111 = .ok (.aload_n 0, 1) := by decide +kernel
theorem dd_Sp_shift_112 : decode cc_Sp_shift 112 = .ok (.getfield 32, 3) := by decide +kernel
theorem dd_Sp_shift_115 : decode cc_Sp_shift 115 = .ok (.iload 4, 2) := by decide +kernel
theorem dd_Sp_shift_117 : decode cc_Sp_shift 117 = .ok (.iconst 4, 1) := by decide +kernel
theorem dd_Sp_shift_118 : decode cc_Sp_shift 118 = .ok (.imul, 1) := by decide +kernel
theorem dd_Sp_shift_119 : decode cc_Sp_shift 119 = .ok (.iload_n 2, 1) := by decide +kernel
theorem dd_Sp_shift_120 : decode cc_Sp_shift 120 = .ok (.iadd, 1) := by decide +kernel
theorem dd_Sp_shift_121 : decode cc_Sp_shift 121 = .ok (.dup2, 1) := by decide +kernel
theorem dd_Sp_shift_122 : decode cc_Sp_shift 122 = .ok (.iaload, 1) := by decide +kernel
theorem dd_Sp_shift_123 : decode cc_Sp_shift 123 = .ok (.iload 5, 2) := by decide +kernel
theorem dd_Sp_shift_125 : decode cc_Sp_shift 125 = .ok (.iadd, 1) := by decide +kernel
theorem dd_Sp_shift_126 : decode cc_Sp_shift 126 = .ok (.iastore, 1) := by decide +kernel
theorem dd_Sp_shift_127 : decode cc_Sp_shift 127 = .ok (.iinc 4 1, 3) := by decide +kernel
theorem dd_Sp_shift_130 : decode cc_Sp_shift 130 = .ok (.goto (-59), 3) := by decide +kernel
theorem dd_Sp_shift_133 : decode cc_Sp_shift 133 = .ok (.aload_n 0, 1) := by decide +kernel
theorem dd_Sp_shift_134 : decode cc_Sp_shift 134 = .ok (.getfield 25, 3) := by decide +kernel
theorem dd_Sp_shift_137 : decode cc_Sp_shift 137 = .ok (.iload_n 1, 1) := by decide +kernel
theorem dd_Sp_shift_138 : decode cc_Sp_shift 138 = .ok (.iload_n 2, 1) := by decide +kernel
theorem dd_Sp_shift_139 : decode cc_Sp_shift 139 = .ok (.iastore, 1) := by decide +kernel
theorem dd_Sp_shift_140 : decode cc_Sp_shift 140 = .ok (.return_, 1) := by decide +kernel
theorem dd_Sp_nodesIn_0 : decode cc_Sp_nodesIn 0 = .ok (.iconst 0, 1) := by decide +kernel
theorem dd_Sp_nodesIn_1 : decode cc_Sp_nodesIn 1 = .ok (.istore_n 2, 1) := by decide +kernel
theorem dd_Sp_nodesIn_2 : decode cc_Sp_nodesIn 2 = .ok (.iconst 0, 1) := by decide +kernel
theorem dd_Sp_nodesIn_3 : decode cc_Sp_nodesIn 3 = .ok (.istore_n 3, 1) := by decide +kernel
theorem dd_Sp_nodesIn_4 : decode cc_Sp_nodesIn 4 = .ok (.iload_n 3, 1) := by decide +kernel
theorem dd_Sp_nodesIn_5 : decode cc_Sp_nodesIn 5 = .ok (.aload_n 0, 1) := by decide +kernel
theorem dd_Sp_nodesIn_6 : decode cc_Sp_nodesIn 6 = .ok (.getfield 12, 3) := by decide +kernel
theorem dd_Sp_nodesIn_9 : decode cc_Sp_nodesIn 9 = .ok (.getfield 48, 3) := by decide +kernel
theorem dd_Sp_nodesIn_12 : decode cc_Sp_nodesIn 12 = .ok (.if_icmp .ge 22, 3) := by decide +kernel
theorem dd_Sp_nodesIn_15 : decode cc_Sp_nodesIn 15 = .ok (.aload_n 0, 1) := by decide +kernel
theorem dd_Sp_nodesIn_16 : decode cc_Sp_nodesIn 16 = .ok (.getfield 25, 3) := by decide +kernel
theorem dd_Sp_nodesIn_19 : decode cc_Sp_nodesIn 19 = .ok (.iload_n 3, 1) := by decide +kernel
theorem dd_Sp_nodesIn_20 : decode cc_Sp_nodesIn 20 = .ok (.iaload, 1) := by decide +kernel
theorem dd_Sp_nodesIn_21 : decode cc_Sp_nodesIn 21 = .ok (.iload_n 1, 1) := by decide +kernel
theorem dd_Sp_nodesIn_22 : decode cc_Sp_nodesIn 22 = .ok (.if_icmp .ne 6, 3) := by decide +kernel
theorem dd_Sp_nodesIn_25 : decode cc_Sp_nodesIn 25 = .ok (.iinc 2 1, 3) := by decide +kernel
theorem dd_Sp_nodesIn_28 : decode cc_Sp_nodesIn 28 = .ok (.iinc 3 1, 3) := by decide +kernel
theorem dd_Sp_nodesIn_31 : decode cc_Sp_nodesIn 31 = .ok (.goto (-27), 3) := by decide +kernel
theorem dd_Sp_nodesIn_34 : decode cc_Sp_nodesIn 34 = .ok (.iload_n 2, 1) := by decide +kernel
theorem dd_Sp_nodesIn_35 : decode cc_Sp_nodesIn 35 = .ok (.ireturn, 1) := by decide +kernel
theorem dd_Sp_volume_0 : decode cc_Sp_volume 0 = .ok (.iconst 0, 1) := by decide +kernel
theorem dd_Sp_volume_1 : decode cc_Sp_volume 1 = .ok (.istore_n 2, 1) := by decide +kernel
theorem dd_Sp_volume_2 : decode cc_Sp_volume 2 = .ok (.iconst 0, 1) := by decide +kernel
theorem dd_Sp_volume_3 : decode cc_Sp_volume 3 = .ok (.istore_n 3, 1) := by decide +kernel
theorem dd_Sp_volume_4 : decode cc_Sp_volume 4 = .ok (.iload_n 3, 1) := by decide +kernel
theorem dd_Sp_volume_5 : decode cc_Sp_volume 5 = .ok (.aload_n 0, 1) := by decide +kernel
theorem dd_Sp_volume_6 : decode cc_Sp_volume 6 = .ok (.getfield 21, 3) := by decide +kernel
theorem dd_Sp_volume_9 : decode cc_Sp_volume 9 = .ok (.getfield 58, 3) := by decide +kernel
theorem dd_Sp_volume_12 : decode cc_Sp_volume 12 = .ok (.if_icmp .ge 35, 3) := by decide +kernel
theorem dd_Sp_volume_15 : decode cc_Sp_volume 15 = .ok (.iload_n 3, 1) := by decide +kernel
theorem dd_Sp_volume_16 : decode cc_Sp_volume 16 = .ok (.aload_n 0, 1) := by decide +kernel
theorem dd_Sp_volume_17 : decode cc_Sp_volume 17 = .ok (.getfield 25, 3) := by decide +kernel
theorem dd_Sp_volume_20 : decode cc_Sp_volume 20 = .ok (.iload_n 1, 1) := by decide +kernel
theorem dd_Sp_volume_21 : decode cc_Sp_volume 21 = .ok (.iaload, 1) := by decide +kernel
theorem dd_Sp_volume_22 : decode cc_Sp_volume 22 = .ok (.if_icmp .eq 19, 3) := by decide +kernel
theorem dd_Sp_volume_25 : decode cc_Sp_volume 25 = .ok (.aload_n 0, 1) := by decide +kernel
theorem dd_Sp_volume_26 : decode cc_Sp_volume 26 = .ok (.getfield 32, 3) := by decide +kernel
theorem dd_Sp_volume_29 : decode cc_Sp_volume 29 = .ok (.iload_n 1, 1) := by decide +kernel
theorem dd_Sp_volume_30 : decode cc_Sp_volume 30 = .ok (.iconst 4, 1) := by decide +kernel
theorem dd_Sp_volume_31 : decode cc_Sp_volume 31 = .ok (.imul, 1) := by decide +kernel
theorem dd_Sp_volume_32 : decode cc_Sp_volume 32 = .ok (.iload_n 3, 1) := by decide +kernel
theorem dd_Sp_volume_33 : decode cc_Sp_volume 33 = .ok (.iadd, 1) := by decide +kernel
theorem dd_Sp_volume_34 : decode cc_Sp_volume 34 = .ok (.iaload, 1) := by decide +kernel
theorem dd_Sp_volume_35 : decode cc_Sp_volume 35 = .ok (.ifCond .le 6, 3) := by decide +kernel
theorem dd_Sp_volume_38 : decode cc_Sp_volume 38 = .ok (.iinc 2 1, 3) := by decide +kernel
theorem dd_Sp_volume_41 : decode cc_Sp_volume 41 = .ok (.iinc 3 1, 3) := by decide +kernel
theorem dd_Sp_volume_44 : decode cc_Sp_volume 44 = .ok (.goto (-40), 3) := by decide +kernel
theorem dd_Sp_volume_47 : decode cc_Sp_volume 47 = .ok (.iload_n 2, 1) := by decide +kernel
theorem dd_Sp_volume_48 : decode cc_Sp_volume 48 = .ok (.ireturn, 1) := by decide +kernel
theorem dd_Sp_volumes_0 : decode cc_Sp_volumes 0 = .ok (.iconst 0, 1) := by decide +kernel
theorem dd_Sp_volumes_1 : decode cc_Sp_volumes 1 = .ok (.istore_n 1, 1) := by decide +kernel
theorem dd_Sp_volumes_2 : decode cc_Sp_volumes 2 = .ok (.iconst 0, 1) := by decide +kernel
theorem dd_Sp_volumes_3 : decode cc_Sp_volumes 3 = .ok (.istore_n 2, 1) := by decide +kernel
theorem dd_Sp_volumes_4 : decode cc_Sp_volumes 4 = .ok (.iload_n 2, 1) := by decide +kernel
theorem dd_Sp_volumes_5 : decode cc_Sp_volumes 5 = .ok (.aload_n 0, 1) := by decide +kernel
theorem dd_Sp_volumes_6 : decode cc_Sp_volumes 6 = .ok (.getfield 12, 3) := by decide +kernel
theorem dd_Sp_volumes_9 : decode cc_Sp_volumes 9 = .ok (.getfield 48, 3) := by decide +kernel
theorem dd_Sp_volumes_12 : decode cc_Sp_volumes 12 = .ok (.if_icmp .ge 17, 3) := by decide +kernel
theorem dd_Sp_volumes_15 : decode cc_Sp_volumes 15 = .ok (.iload_n 1, 1) := by decide +kernel
theorem dd_Sp_volumes_16 : decode cc_Sp_volumes 16 = .ok (.aload_n 0, 1) := by decide +kernel
theorem dd_Sp_volumes_17 : decode cc_Sp_volumes 17 = .ok (.iload_n 2, 1) := by decide +kernel
theorem dd_Sp_volumes_18 : decode cc_Sp_volumes 18 = .ok (.invokevirtual 74, 3) := by decide +kernel
theorem dd_Sp_volumes_21 : decode cc_Sp_volumes 21 = .ok (.iadd, 1) := by decide +kernel
theorem dd_Sp_volumes_22 : decode cc_Sp_volumes 22 = .ok (.istore_n 1, 1) := by decide +kernel
theorem dd_Sp_volumes_23 : decode cc_Sp_volumes 23 = .ok (.iinc 2 1, 3) := by decide +kernel
theorem dd_Sp_volumes_26 : decode cc_Sp_volumes 26 = .ok (.goto (-22), 3) := by decide +kernel
theorem dd_Sp_volumes_29 : decode cc_Sp_volumes 29 = .ok (.iload_n 1, 1) := by decide +kernel
theorem dd_Sp_volumes_30 : decode cc_Sp_volumes 30 = .ok (.ireturn, 1) := by decide +kernel
theorem dd_Sp_takeAllOut_0 : decode cc_Sp_takeAllOut 0 = .ok (.aload_n 0, 1) := by decide +kernel
theorem dd_Sp_takeAllOut_1 : decode cc_Sp_takeAllOut 1 = .ok (.getfield 25, 3) := by decide +kernel
theorem dd_Sp_takeAllOut_4 : decode cc_Sp_takeAllOut 4 = .ok (.iconst (-1), 1) := by decide +kernel
theorem dd_Sp_takeAllOut_5 : decode cc_Sp_takeAllOut 5 = .ok (.invokestatic 42, 3) := by decide +kernel
theorem dd_Sp_takeAllOut_8 : decode cc_Sp_takeAllOut 8 = .ok (.aload_n 0, 1) := by decide +kernel
theorem dd_Sp_takeAllOut_9 : decode cc_Sp_takeAllOut 9 = .ok (.getfield 29, 3) := by decide +kernel
theorem dd_Sp_takeAllOut_12 : decode cc_Sp_takeAllOut 12 = .ok (.iconst 0, 1) := by decide +kernel
theorem dd_Sp_takeAllOut_13 : decode cc_Sp_takeAllOut 13 = .ok (.invokestatic 42, 3) := by decide +kernel
theorem dd_Sp_takeAllOut_16 : decode cc_Sp_takeAllOut 16 = .ok (.return_, 1) := by decide +kernel
theorem dd_Sp_place_0 : decode cc_Sp_place 0 = .ok (.aload_n 0, 1) := by decide +kernel
theorem dd_Sp_place_1 : decode cc_Sp_place 1 = .ok (.getfield 25, 3) := by decide +kernel
theorem dd_Sp_place_4 : decode cc_Sp_place 4 = .ok (.iload_n 1, 1) := by decide +kernel
theorem dd_Sp_place_5 : decode cc_Sp_place 5 = .ok (.iload_n 2, 1) := by decide +kernel
theorem dd_Sp_place_6 : decode cc_Sp_place 6 = .ok (.iastore, 1) := by decide +kernel
theorem dd_Sp_place_7 : decode cc_Sp_place 7 = .ok (.aload_n 0, 1) := by decide +kernel
theorem dd_Sp_place_8 : decode cc_Sp_place 8 = .ok (.getfield 29, 3) := by decide +kernel
theorem dd_Sp_place_11 : decode cc_Sp_place 11 = .ok (.iload_n 2, 1) := by decide +kernel
theorem dd_Sp_place_12 : decode cc_Sp_place 12 = .ok (.dup2, 1) := by decide +kernel
theorem dd_Sp_place_13 : decode cc_Sp_place 13 = .ok (.iaload, 1) := by decide +kernel
theorem dd_Sp_place_14 : decode cc_Sp_place 14 = .ok (.aload_n 0, 1) := by decide +kernel
theorem dd_Sp_place_15 : decode cc_Sp_place 15 = .ok (.getfield 12, 3) := by decide +kernel
theorem dd_Sp_place_18 : decode cc_Sp_place 18 = .ok (.getfield 51, 3) := by decide +kernel
theorem dd_Sp_place_21 : decode cc_Sp_place 21 = .ok (.iload_n 1, 1) := by decide +kernel
theorem dd_Sp_place_22 : decode cc_Sp_place 22 = .ok (.iaload, 1) := by decide +kernel
theorem dd_Sp_place_23 : decode cc_Sp_place 23 = .ok (.iadd, 1) := by decide +kernel
theorem dd_Sp_place_24 : decode cc_Sp_place 24 = .ok (.iastore, 1) := by decide +kernel
theorem dd_Sp_place_25 : decode cc_Sp_place 25 = .ok (.return_, 1) := by decide +kernel
theorem dd_Sp_heaviestOutside_0 : decode cc_Sp_heaviestOutside 0 = .ok (.iconst 0, 1) := by decide +kernel
theorem dd_Sp_heaviestOutside_1 : decode cc_Sp_heaviestOutside 1 = .ok (.istore_n 1, 1) := by decide +kernel
theorem dd_Sp_heaviestOutside_2 : decode cc_Sp_heaviestOutside 2 = .ok (.iconst 0, 1) := by decide +kernel
theorem dd_Sp_heaviestOutside_3 : decode cc_Sp_heaviestOutside 3 = .ok (.istore_n 2, 1) := by decide +kernel
theorem dd_Sp_heaviestOutside_4 : decode cc_Sp_heaviestOutside 4 = .ok (.iconst 0, 1) := by decide +kernel
theorem dd_Sp_heaviestOutside_5 : decode cc_Sp_heaviestOutside 5 = .ok (.istore_n 3, 1) := by decide +kernel
theorem dd_Sp_heaviestOutside_6 : decode cc_Sp_heaviestOutside 6 = .ok (.iload_n 3, 1) := by decide +kernel
theorem dd_Sp_heaviestOutside_7 : decode cc_Sp_heaviestOutside 7 = .ok (.aload_n 0, 1) := by decide +kernel
theorem dd_Sp_heaviestOutside_8 : decode cc_Sp_heaviestOutside 8 = .ok (.getfield 12, 3) := by decide +kernel
theorem dd_Sp_heaviestOutside_11 : decode cc_Sp_heaviestOutside 11 = .ok (.getfield 48, 3) := by decide +kernel
theorem dd_Sp_heaviestOutside_14 : decode cc_Sp_heaviestOutside 14 = .ok (.if_icmp .ge 44, 3) := by decide +kernel
theorem dd_Sp_heaviestOutside_17 : decode cc_Sp_heaviestOutside 17 = .ok (.aload_n 0, 1) := by decide +kernel
theorem dd_Sp_heaviestOutside_18 : decode cc_Sp_heaviestOutside 18 = .ok (.getfield 25, 3) := by decide +kernel
theorem dd_Sp_heaviestOutside_21 : decode cc_Sp_heaviestOutside 21 = .ok (.iload_n 3, 1) := by decide +kernel
theorem dd_Sp_heaviestOutside_22 : decode cc_Sp_heaviestOutside 22 = .ok (.iaload, 1) := by decide +kernel
theorem dd_Sp_heaviestOutside_23 : decode cc_Sp_heaviestOutside 23 = .ok (.iconst (-1), 1) := by decide +kernel
theorem dd_Sp_heaviestOutside_24 : decode cc_Sp_heaviestOutside 24 = .ok (.if_icmp .ne 28, 3) := by decide +kernel
theorem dd_Sp_heaviestOutside_27 : decode cc_Sp_heaviestOutside 27 = .ok (.aload_n 0, 1) := by decide +kernel
theorem dd_Sp_heaviestOutside_28 : decode cc_Sp_heaviestOutside 28 = .ok (.getfield 12, 3) := by decide +kernel
theorem dd_Sp_heaviestOutside_31 : decode cc_Sp_heaviestOutside 31 = .ok (.getfield 51, 3) := by decide +kernel
theorem dd_Sp_heaviestOutside_34 : decode cc_Sp_heaviestOutside 34 = .ok (.iload_n 3, 1) := by decide +kernel
theorem dd_Sp_heaviestOutside_35 : decode cc_Sp_heaviestOutside 35 = .ok (.iaload, 1) := by decide +kernel
theorem dd_Sp_heaviestOutside_36 : decode cc_Sp_heaviestOutside 36 = .ok (.iload_n 2, 1) := by decide +kernel
theorem dd_Sp_heaviestOutside_37 : decode cc_Sp_heaviestOutside 37 = .ok (.if_icmp .le 15, 3) := by decide +kernel
theorem dd_Sp_heaviestOutside_40 : decode cc_Sp_heaviestOutside 40 = .ok (.iload_n 3, 1) := by decide +kernel
theorem dd_Sp_heaviestOutside_41 : decode cc_Sp_heaviestOutside 41 = .ok (.istore_n 1, 1) := by decide +kernel
theorem dd_Sp_heaviestOutside_42 : decode cc_Sp_heaviestOutside 42 = .ok (.aload_n 0, 1) := by decide +kernel
theorem dd_Sp_heaviestOutside_43 : decode cc_Sp_heaviestOutside 43 = .ok (.getfield 12, 3) := by decide +kernel
theorem dd_Sp_heaviestOutside_46 : decode cc_Sp_heaviestOutside 46 = .ok (.getfield 51, 3) := by decide +kernel
theorem dd_Sp_heaviestOutside_49 : decode cc_Sp_heaviestOutside 49 = .ok (.iload_n 3, 1) := by decide +kernel
theorem dd_Sp_heaviestOutside_50 : decode cc_Sp_heaviestOutside 50 = .ok (.iaload, 1) := by decide +kernel
theorem dd_Sp_heaviestOutside_51 : decode cc_Sp_heaviestOutside 51 = .ok (.istore_n 2, 1) := by decide +kernel
theorem dd_Sp_heaviestOutside_52 : decode cc_Sp_heaviestOutside 52 = .ok (.iinc 3 1, 3) := by decide +kernel
theorem dd_Sp_heaviestOutside_55 : decode cc_Sp_heaviestOutside 55 = .ok (.goto (-49), 3) := by decide +kernel
theorem dd_Sp_heaviestOutside_58 : decode cc_Sp_heaviestOutside 58 = .ok (.iload_n 1, 1) := by decide +kernel
theorem dd_Sp_heaviestOutside_59 : decode cc_Sp_heaviestOutside 59 = .ok (.ireturn, 1) := by decide +kernel
theorem dd_Sp_roomiestPart_0 : decode cc_Sp_roomiestPart 0 = .ok (.iconst 0, 1) := by decide +kernel
theorem dd_Sp_roomiestPart_1 : decode cc_Sp_roomiestPart 1 = .ok (.istore_n 1, 1) := by decide +kernel
theorem dd_Sp_roomiestPart_2 : decode cc_Sp_roomiestPart 2 = .ok (.iconst 1, 1) := by decide +kernel
theorem dd_Sp_roomiestPart_3 : decode cc_Sp_roomiestPart 3 = .ok (.istore_n 2, 1) := by decide +kernel
theorem dd_Sp_roomiestPart_4 : decode cc_Sp_roomiestPart 4 = .ok (.iload_n 2, 1) := by decide +kernel
theorem dd_Sp_roomiestPart_5 : decode cc_Sp_roomiestPart 5 = .ok (.aload_n 0, 1) := by decide +kernel
theorem dd_Sp_roomiestPart_6 : decode cc_Sp_roomiestPart 6 = .ok (.getfield 21, 3) := by decide +kernel
theorem dd_Sp_roomiestPart_9 : decode cc_Sp_roomiestPart 9 = .ok (.getfield 58, 3) := by decide +kernel
theorem dd_Sp_roomiestPart_12 : decode cc_Sp_roomiestPart 12 = .ok (.if_icmp .ge 46, 3) := by decide +kernel
theorem dd_Sp_roomiestPart_15 : decode cc_Sp_roomiestPart 15 = .ok (.aload_n 0, 1) := by decide +kernel
theorem dd_Sp_roomiestPart_16 : decode cc_Sp_roomiestPart 16 = .ok (.getfield 21, 3) := by decide +kernel
theorem dd_Sp_roomiestPart_19 : decode cc_Sp_roomiestPart 19 = .ok (.getfield 92, 3) := by decide +kernel
theorem dd_Sp_roomiestPart_22 : decode cc_Sp_roomiestPart 22 = .ok (.iload_n 2, 1) := by decide +kernel
theorem dd_Sp_roomiestPart_23 : decode cc_Sp_roomiestPart 23 = .ok (.iaload, 1) := by decide +kernel
theorem dd_Sp_roomiestPart_24 : decode cc_Sp_roomiestPart 24 = .ok (.aload_n 0, 1) := by decide +kernel
theorem dd_Sp_roomiestPart_25 : decode cc_Sp_roomiestPart 25 = .ok (.getfield 29, 3) := by decide +kernel
theorem dd_Sp_roomiestPart_28 : decode cc_Sp_roomiestPart 28 = .ok (.iload_n 2, 1) := by decide +kernel
theorem dd_Sp_roomiestPart_29 : decode cc_Sp_roomiestPart 29 = .ok (.iaload, 1) := by decide +kernel
theorem dd_Sp_roomiestPart_30 : decode cc_Sp_roomiestPart 30 = .ok (.isub, 1) := by decide +kernel
theorem dd_Sp_roomiestPart_31 : decode cc_Sp_roomiestPart 31 = .ok (.aload_n 0, 1) := by decide +kernel
theorem dd_Sp_roomiestPart_32 : decode cc_Sp_roomiestPart 32 = .ok (.getfield 21, 3) := by decide +kernel
theorem dd_Sp_roomiestPart_35 : decode cc_Sp_roomiestPart 35 = .ok (.getfield 92, 3) := by decide +kernel
theorem dd_Sp_roomiestPart_38 : decode cc_Sp_roomiestPart 38 = .ok (.iload_n 1, 1) := by decide +kernel
theorem dd_Sp_roomiestPart_39 : decode cc_Sp_roomiestPart 39 = .ok (.iaload, 1) := by decide +kernel
theorem dd_Sp_roomiestPart_40 : decode cc_Sp_roomiestPart 40 = .ok (.aload_n 0, 1) := by decide +kernel
theorem dd_Sp_roomiestPart_41 : decode cc_Sp_roomiestPart 41 = .ok (.getfield 29, 3) := by decide +kernel
theorem dd_Sp_roomiestPart_44 : decode cc_Sp_roomiestPart 44 = .ok (.iload_n 1, 1) := by decide +kernel
theorem dd_Sp_roomiestPart_45 : decode cc_Sp_roomiestPart 45 = .ok (.iaload, 1) := by decide +kernel
theorem dd_Sp_roomiestPart_46 : decode cc_Sp_roomiestPart 46 = .ok (.isub, 1) := by decide +kernel
theorem dd_Sp_roomiestPart_47 : decode cc_Sp_roomiestPart 47 = .ok (.if_icmp .le 5, 3) := by decide +kernel
theorem dd_Sp_roomiestPart_50 : decode cc_Sp_roomiestPart 50 = .ok (.iload_n 2, 1) := by decide +kernel
theorem dd_Sp_roomiestPart_51 : decode cc_Sp_roomiestPart 51 = .ok (.istore_n 1, 1) := by decide +kernel
theorem dd_Sp_roomiestPart_52 : decode cc_Sp_roomiestPart 52 = .ok (.iinc 2 1, 3) := by decide +kernel
theorem dd_Sp_roomiestPart_55 : decode cc_Sp_roomiestPart 55 = .ok (.goto (-51), 3) := by decide +kernel
theorem dd_Sp_roomiestPart_58 : decode cc_Sp_roomiestPart 58 = .ok (.iload_n 1, 1) := by decide +kernel
theorem dd_Sp_roomiestPart_59 : decode cc_Sp_roomiestPart 59 = .ok (.ireturn, 1) := by decide +kernel
theorem dd_Sp_growAll_0 : decode cc_Sp_growAll 0 = .ok (.aload_n 0, 1) := by decide +kernel
theorem dd_Sp_growAll_1 : decode cc_Sp_growAll 1 = .ok (.invokevirtual 78, 3) := by decide +kernel
theorem dd_Sp_growAll_4 : decode cc_Sp_growAll 4 = .ok (.iconst 0, 1) := by decide +kernel
theorem dd_Sp_growAll_5 : decode cc_Sp_growAll 5 = .ok (.istore_n 1, 1) := by decide +kernel
theorem dd_Sp_growAll_6 : decode cc_Sp_growAll 6 = .ok (.iload_n 1, 1) := by decide +kernel
theorem dd_Sp_growAll_7 : decode cc_Sp_growAll 7 = .ok (.aload_n 0, 1) := by decide +kernel
theorem dd_Sp_growAll_8 : decode cc_Sp_growAll 8 = .ok (.getfield 12, 3) := by decide +kernel
theorem dd_Sp_growAll_11 : decode cc_Sp_growAll 11 = .ok (.getfield 48, 3) := by decide +kernel
theorem dd_Sp_growAll_14 : decode cc_Sp_growAll 14 = .ok (.if_icmp .ge 21, 3) := by decide +kernel
theorem dd_Sp_growAll_17 : decode cc_Sp_growAll 17 = .ok (.aload_n 0, 1) := by decide +kernel
theorem dd_Sp_growAll_18 : decode cc_Sp_growAll 18 = .ok (.aload_n 0, 1) := by decide +kernel
theorem dd_Sp_growAll_19 : decode cc_Sp_growAll 19 = .ok (.invokevirtual 81, 3) := by decide +kernel
theorem dd_Sp_growAll_22 : decode cc_Sp_growAll 22 = .ok (.aload_n 0, 1) := by decide +kernel
theorem dd_Sp_growAll_23 : decode cc_Sp_growAll 23 = .ok (.invokevirtual 85, 3) := by decide +kernel
theorem dd_Sp_growAll_26 : decode cc_Sp_growAll 26 = .ok (.invokevirtual 88, 3) := by decide +kernel
theorem dd_Sp_growAll_29 : decode cc_Sp_growAll 29 = .ok (.iinc 1 1, 3) := by decide +kernel
theorem dd_Sp_growAll_32 : decode cc_Sp_growAll 32 = .ok (.goto (-26), 3) := by decide +kernel
theorem dd_Sp_growAll_35 : decode cc_Sp_growAll 35 = .ok (.return_, 1) := by decide +kernel
theorem dd_Sp_arcsInto_0 : decode cc_Sp_arcsInto 0 = .ok (.iconst 0, 1) := by decide +kernel
theorem dd_Sp_arcsInto_1 : decode cc_Sp_arcsInto 1 = .ok (.istore_n 3, 1) := by decide +kernel
theorem dd_Sp_arcsInto_2 : decode cc_Sp_arcsInto 2 = .ok (.iconst 0, 1) := by decide +kernel
theorem dd_Sp_arcsInto_3 : decode cc_Sp_arcsInto 3 = .ok (.istore 4, 2) := by decide +kernel
theorem dd_Sp_arcsInto_5 : decode cc_Sp_arcsInto 5 = .ok (.iload 4, 2) := by decide +kernel
theorem dd_Sp_arcsInto_7 : decode cc_Sp_arcsInto 7 = .ok (.aload_n 0, 1) := by decide +kernel
theorem dd_Sp_arcsInto_8 : decode cc_Sp_arcsInto 8 = .ok (.getfield 12, 3) := by decide +kernel
theorem dd_Sp_arcsInto_11 : decode cc_Sp_arcsInto 11 = .ok (.getfield 48, 3) := by decide +kernel
theorem dd_Sp_arcsInto_14 : decode cc_Sp_arcsInto 14 = .ok (.if_icmp .ge 33, 3) := by decide +kernel
theorem dd_Sp_arcsInto_17 : decode cc_Sp_arcsInto 17 = .ok (.aload_n 0, 1) := by decide +kernel
theorem dd_Sp_arcsInto_18 : decode cc_Sp_arcsInto 18 = .ok (.getfield 25, 3) := by decide +kernel
theorem dd_Sp_arcsInto_21 : decode cc_Sp_arcsInto 21 = .ok (.iload 4, 2) := by decide +kernel
theorem dd_Sp_arcsInto_23 : decode cc_Sp_arcsInto 23 = .ok (.iaload, 1) := by decide +kernel
theorem dd_Sp_arcsInto_24 : decode cc_Sp_arcsInto 24 = .ok (.iload_n 2, 1) := by decide +kernel
theorem dd_Sp_arcsInto_25 : decode cc_Sp_arcsInto 25 = .ok (.if_icmp .ne 16, 3) := by decide +kernel
theorem dd_Sp_arcsInto_28 : decode cc_Sp_arcsInto 28 = .ok (.iload_n 3, 1) := by decide +kernel
theorem dd_Sp_arcsInto_29 : decode cc_Sp_arcsInto 29 = .ok (.aload_n 0, 1) := by decide +kernel
theorem dd_Sp_arcsInto_30 : decode cc_Sp_arcsInto 30 = .ok (.getfield 12, 3) := by decide +kernel
theorem dd_Sp_arcsInto_33 : decode cc_Sp_arcsInto 33 = .ok (.iload_n 1, 1) := by decide +kernel
theorem dd_Sp_arcsInto_34 : decode cc_Sp_arcsInto 34 = .ok (.iload 4, 2) := by decide +kernel
theorem dd_Sp_arcsInto_36 : decode cc_Sp_arcsInto 36 = .ok (.invokevirtual 65, 3) := by decide +kernel
theorem dd_Sp_arcsInto_39 : decode cc_Sp_arcsInto 39 = .ok (.iadd, 1) := by decide +kernel
theorem dd_Sp_arcsInto_40 : decode cc_Sp_arcsInto 40 = .ok (.istore_n 3, 1) := by decide +kernel
theorem dd_Sp_arcsInto_41 : decode cc_Sp_arcsInto 41 = .ok (.iinc 4 1, 3) := by decide +kernel
theorem dd_Sp_arcsInto_44 : decode cc_Sp_arcsInto 44 = .ok (.goto (-39), 3) := by decide +kernel
theorem dd_Sp_arcsInto_47 : decode cc_Sp_arcsInto 47 = .ok (.iload_n 3, 1) := by decide +kernel
theorem dd_Sp_arcsInto_48 : decode cc_Sp_arcsInto 48 = .ok (.ireturn, 1) := by decide +kernel
theorem dd_Sp_likedPart_0 : decode cc_Sp_likedPart 0 = .ok (.iconst (-1), 1) := by decide +kernel
theorem dd_Sp_likedPart_1 : decode cc_Sp_likedPart 1 = .ok (.istore_n 3, 1) := by decide +kernel
theorem dd_Sp_likedPart_2 : decode cc_Sp_likedPart 2 = .ok (.lconst 0, 1) := by decide +kernel
theorem dd_Sp_likedPart_3 : decode cc_Sp_likedPart 3 = .ok (.lstore 4, 2) := by decide +kernel
theorem dd_Sp_likedPart_5 : decode cc_Sp_likedPart 5 = .ok (.iconst 0, 1) := by decide +kernel
theorem dd_Sp_likedPart_6 : decode cc_Sp_likedPart 6 = .ok (.istore 6, 2) := by decide +kernel
theorem dd_Sp_likedPart_8 : decode cc_Sp_likedPart 8 = .ok (.iload 6, 2) := by decide +kernel
theorem dd_Sp_likedPart_10 : decode cc_Sp_likedPart 10 = .ok (.aload_n 0, 1) := by decide +kernel
theorem dd_Sp_likedPart_11 : decode cc_Sp_likedPart 11 = .ok (.getfield 21, 3) := by decide +kernel
theorem dd_Sp_likedPart_14 : decode cc_Sp_likedPart 14 = .ok (.getfield 58, 3) := by decide +kernel
theorem dd_Sp_likedPart_17 : decode cc_Sp_likedPart 17 = .ok (.if_icmp .ge 85, 3) := by decide +kernel
theorem dd_Sp_likedPart_20 : decode cc_Sp_likedPart 20 = .ok (.aload_n 0, 1) := by decide +kernel
theorem dd_Sp_likedPart_21 : decode cc_Sp_likedPart 21 = .ok (.getfield 29, 3) := by decide +kernel
theorem dd_Sp_likedPart_24 : decode cc_Sp_likedPart 24 = .ok (.iload 6, 2) := by decide +kernel
theorem dd_Sp_likedPart_26 : decode cc_Sp_likedPart 26 = .ok (.iaload, 1) := by decide +kernel
theorem dd_Sp_likedPart_27 : decode cc_Sp_likedPart 27 = .ok (.aload_n 0, 1) := by decide +kernel
theorem dd_Sp_likedPart_28 : decode cc_Sp_likedPart 28 = .ok (.getfield 12, 3) := by decide +kernel
theorem dd_Sp_likedPart_31 : decode cc_Sp_likedPart 31 = .ok (.getfield 51, 3) := by decide +kernel
theorem dd_Sp_likedPart_34 : decode cc_Sp_likedPart 34 = .ok (.iload_n 1, 1) := by decide +kernel
theorem dd_Sp_likedPart_35 : decode cc_Sp_likedPart 35 = .ok (.iaload, 1) := by decide +kernel
theorem dd_Sp_likedPart_36 : decode cc_Sp_likedPart 36 = .ok (.iadd, 1) := by decide +kernel
theorem dd_Sp_likedPart_37 : decode cc_Sp_likedPart 37 = .ok (.aload_n 0, 1) := by decide +kernel
theorem dd_Sp_likedPart_38 : decode cc_Sp_likedPart 38 = .ok (.getfield 21, 3) := by decide +kernel
theorem dd_Sp_likedPart_41 : decode cc_Sp_likedPart 41 = .ok (.getfield 92, 3) := by decide +kernel
theorem dd_Sp_likedPart_44 : decode cc_Sp_likedPart 44 = .ok (.iload 6, 2) := by decide +kernel
theorem dd_Sp_likedPart_46 : decode cc_Sp_likedPart 46 = .ok (.iaload, 1) := by decide +kernel
theorem dd_Sp_likedPart_47 : decode cc_Sp_likedPart 47 = .ok (.if_icmp .gt 49, 3) := by decide +kernel
theorem dd_Sp_likedPart_50 : decode cc_Sp_likedPart 50 = .ok (.ldc2_w 101, 3) := by decide +kernel
theorem dd_Sp_likedPart_53 : decode cc_Sp_likedPart 53 = .ok (.aload_n 0, 1) := by decide +kernel
theorem dd_Sp_likedPart_54 : decode cc_Sp_likedPart 54 = .ok (.iload_n 1, 1) := by decide +kernel
theorem dd_Sp_likedPart_55 : decode cc_Sp_likedPart 55 = .ok (.iload 6, 2) := by decide +kernel
theorem dd_Sp_likedPart_57 : decode cc_Sp_likedPart 57 = .ok (.invokevirtual 103, 3) := by decide +kernel
theorem dd_Sp_likedPart_60 : decode cc_Sp_likedPart 60 = .ok (.i2l, 1) := by decide +kernel
theorem dd_Sp_likedPart_61 : decode cc_Sp_likedPart 61 = .ok (.lmul, 1) := by decide +kernel
theorem dd_Sp_likedPart_62 : decode cc_Sp_likedPart 62 = .ok (.iload_n 2, 1) := by decide +kernel
theorem dd_Sp_likedPart_63 : decode cc_Sp_likedPart 63 = .ok (.i2l, 1) := by decide +kernel
theorem dd_Sp_likedPart_64 : decode cc_Sp_likedPart 64 = .ok (.aload_n 0, 1) := by decide +kernel
theorem dd_Sp_likedPart_65 : decode cc_Sp_likedPart 65 = .ok (.getfield 29, 3) := by decide +kernel
theorem dd_Sp_likedPart_68 : decode cc_Sp_likedPart 68 = .ok (.iload 6, 2) := by decide +kernel
theorem dd_Sp_likedPart_70 : decode cc_Sp_likedPart 70 = .ok (.iaload, 1) := by decide +kernel
theorem dd_Sp_likedPart_71 : decode cc_Sp_likedPart 71 = .ok (.i2l, 1) := by decide +kernel
theorem dd_Sp_likedPart_72 : decode cc_Sp_likedPart 72 = .ok (.lmul, 1) := by decide +kernel
theorem dd_Sp_likedPart_73 : decode cc_Sp_likedPart 73 = .ok (.lsub, 1) := by decide +kernel
theorem dd_Sp_likedPart_74 : decode cc_Sp_likedPart 74 = .ok (.lstore 7, 2) := by decide +kernel
theorem dd_Sp_likedPart_76 : decode cc_Sp_likedPart 76 = .ok (.iload_n 3, 1) := by decide +kernel
theorem dd_Sp_likedPart_77 : decode cc_Sp_likedPart 77 = .ok (.iconst (-1), 1) := by decide +kernel
theorem dd_Sp_likedPart_78 : decode cc_Sp_likedPart 78 = .ok (.if_icmp .eq 11, 3) := by decide +kernel
theorem dd_Sp_likedPart_81 : decode cc_Sp_likedPart 81 = .ok (.lload 7, 2) := by decide +kernel
theorem dd_Sp_likedPart_83 : decode cc_Sp_likedPart 83 = .ok (.lload 4, 2) := by decide +kernel
theorem dd_Sp_likedPart_85 : decode cc_Sp_likedPart 85 = .ok (.lcmp, 1) := by decide +kernel
theorem dd_Sp_likedPart_86 : decode cc_Sp_likedPart 86 = .ok (.ifCond .le 10, 3) := by decide +kernel
theorem dd_Sp_likedPart_89 : decode cc_Sp_likedPart 89 = .ok (.iload 6, 2) := by decide +kernel
theorem dd_Sp_likedPart_91 : decode cc_Sp_likedPart 91 = .ok (.istore_n 3, 1) := by decide +kernel
theorem dd_Sp_likedPart_92 : decode cc_Sp_likedPart 92 = .ok (.lload 7, 2) := by decide +kernel
theorem dd_Sp_likedPart_94 : decode cc_Sp_likedPart 94 = .ok (.lstore 4, 2) := by decide +kernel
theorem dd_Sp_likedPart_96 : decode cc_Sp_likedPart 96 = .ok (.iinc 6 1, 3) := by decide +kernel
theorem dd_Sp_likedPart_99 : decode cc_Sp_likedPart 99 = .ok (.goto (-91), 3) := by decide +kernel
theorem dd_Sp_likedPart_102 : decode cc_Sp_likedPart 102 = .ok (.iload_n 3, 1) := by decide +kernel
theorem dd_Sp_likedPart_103 : decode cc_Sp_likedPart 103 = .ok (.ireturn, 1) := by decide +kernel
theorem dd_Sp_lightestPart_0 : decode cc_Sp_lightestPart 0 = .ok (.iconst 0, 1) := by decide +kernel
theorem dd_Sp_lightestPart_1 : decode cc_Sp_lightestPart 1 = .ok (.istore_n 1, 1) := by decide +kernel
theorem dd_Sp_lightestPart_2 : decode cc_Sp_lightestPart 2 = .ok (.iconst 1, 1) := by decide +kernel
theorem dd_Sp_lightestPart_3 : decode cc_Sp_lightestPart 3 = .ok (.istore_n 2, 1) := by decide +kernel
theorem dd_Sp_lightestPart_4 : decode cc_Sp_lightestPart 4 = .ok (.iload_n 2, 1) := by decide +kernel
theorem dd_Sp_lightestPart_5 : decode cc_Sp_lightestPart 5 = .ok (.aload_n 0, 1) := by decide +kernel
theorem dd_Sp_lightestPart_6 : decode cc_Sp_lightestPart 6 = .ok (.getfield 21, 3) := by decide +kernel
theorem dd_Sp_lightestPart_9 : decode cc_Sp_lightestPart 9 = .ok (.getfield 58, 3) := by decide +kernel
theorem dd_Sp_lightestPart_12 : decode cc_Sp_lightestPart 12 = .ok (.if_icmp .ge 26, 3) := by decide +kernel
theorem dd_Sp_lightestPart_15 : decode cc_Sp_lightestPart 15 = .ok (.aload_n 0, 1) := by decide +kernel
theorem dd_Sp_lightestPart_16 : decode cc_Sp_lightestPart 16 = .ok (.getfield 29, 3) := by decide +kernel
theorem dd_Sp_lightestPart_19 : decode cc_Sp_lightestPart 19 = .ok (.iload_n 2, 1) := by decide +kernel
theorem dd_Sp_lightestPart_20 : decode cc_Sp_lightestPart 20 = .ok (.iaload, 1) := by decide +kernel
theorem dd_Sp_lightestPart_21 : decode cc_Sp_lightestPart 21 = .ok (.aload_n 0, 1) := by decide +kernel
theorem dd_Sp_lightestPart_22 : decode cc_Sp_lightestPart 22 = .ok (.getfield 29, 3) := by decide +kernel
theorem dd_Sp_lightestPart_25 : decode cc_Sp_lightestPart 25 = .ok (.iload_n 1, 1) := by decide +kernel
theorem dd_Sp_lightestPart_26 : decode cc_Sp_lightestPart 26 = .ok (.iaload, 1) := by decide +kernel
theorem dd_Sp_lightestPart_27 : decode cc_Sp_lightestPart 27 = .ok (.if_icmp .ge 5, 3) := by decide +kernel
theorem dd_Sp_lightestPart_30 : decode cc_Sp_lightestPart 30 = .ok (.iload_n 2, 1) := by decide +kernel
theorem dd_Sp_lightestPart_31 : decode cc_Sp_lightestPart 31 = .ok (.istore_n 1, 1) := by decide +kernel
theorem dd_Sp_lightestPart_32 : decode cc_Sp_lightestPart 32 = .ok (.iinc 2 1, 3) := by decide +kernel
theorem dd_Sp_lightestPart_35 : decode cc_Sp_lightestPart 35 = .ok (.goto (-31), 3) := by decide +kernel
theorem dd_Sp_lightestPart_38 : decode cc_Sp_lightestPart 38 = .ok (.iload_n 1, 1) := by decide +kernel
theorem dd_Sp_lightestPart_39 : decode cc_Sp_lightestPart 39 = .ok (.ireturn, 1) := by decide +kernel
theorem dd_Sp_streamAll_0 : decode cc_Sp_streamAll 0 = .ok (.aload_n 0, 1) := by decide +kernel
theorem dd_Sp_streamAll_1 : decode cc_Sp_streamAll 1 = .ok (.invokevirtual 78, 3) := by decide +kernel
theorem dd_Sp_streamAll_4 : decode cc_Sp_streamAll 4 = .ok (.iconst 0, 1) := by decide +kernel
theorem dd_Sp_streamAll_5 : decode cc_Sp_streamAll 5 = .ok (.istore_n 3, 1) := by decide +kernel
theorem dd_Sp_streamAll_6 : decode cc_Sp_streamAll 6 = .ok (.iload_n 3, 1) := by decide +kernel
theorem dd_Sp_streamAll_7 : decode cc_Sp_streamAll 7 = .ok (.aload_n 0, 1) := by decide +kernel
theorem dd_Sp_streamAll_8 : decode cc_Sp_streamAll 8 = .ok (.getfield 12, 3) := by decide +kernel
theorem dd_Sp_streamAll_11 : decode cc_Sp_streamAll 11 = .ok (.getfield 48, 3) := by decide +kernel
theorem dd_Sp_streamAll_14 : decode cc_Sp_streamAll 14 = .ok (.if_icmp .ge 44, 3) := by decide +kernel
theorem dd_Sp_streamAll_17 : decode cc_Sp_streamAll 17 = .ok (.aload_n 1, 1) := by decide +kernel
theorem dd_Sp_streamAll_18 : decode cc_Sp_streamAll 18 = .ok (.iload_n 3, 1) := by decide +kernel
theorem dd_Sp_streamAll_19 : decode cc_Sp_streamAll 19 = .ok (.iaload, 1) := by decide +kernel
theorem dd_Sp_streamAll_20 : decode cc_Sp_streamAll 20 = .ok (.istore 4, 2) := by decide +kernel
theorem dd_Sp_streamAll_22 : decode cc_Sp_streamAll 22 = .ok (.aload_n 0, 1) := by decide +kernel
theorem dd_Sp_streamAll_23 : decode cc_Sp_streamAll 23 = .ok (.iload 4, 2) := by decide +kernel
theorem dd_Sp_streamAll_25 : decode cc_Sp_streamAll 25 = .ok (.iload_n 2, 1) := by decide +kernel
theorem dd_Sp_streamAll_26 : decode cc_Sp_streamAll 26 = .ok (.invokevirtual 95, 3) := by decide +kernel
theorem dd_Sp_streamAll_29 : decode cc_Sp_streamAll 29 = .ok (.istore 5, 2) := by decide +kernel
theorem dd_Sp_streamAll_31 : decode cc_Sp_streamAll 31 = .ok (.aload_n 0, 1) := by decide +kernel
theorem dd_Sp_streamAll_32 : decode cc_Sp_streamAll 32 = .ok (.iload 4, 2) := by decide +kernel
theorem dd_Sp_streamAll_34 : decode cc_Sp_streamAll 34 = .ok (.iload 5, 2) := by decide +kernel
theorem dd_Sp_streamAll_36 : decode cc_Sp_streamAll 36 = .ok (.iconst (-1), 1) := by decide +kernel
theorem dd_Sp_streamAll_37 : decode cc_Sp_streamAll 37 = .ok (.if_icmp .ne 10, 3) := by decide +kernel
theorem dd_Sp_streamAll_40 : decode cc_Sp_streamAll 40 = .ok (.aload_n 0, 1) := by decide +kernel
theorem dd_Sp_streamAll_41 : decode cc_Sp_streamAll 41 = .ok (.invokevirtual 98, 3) := by decide +kernel
theorem dd_Sp_streamAll_44 : decode cc_Sp_streamAll 44 = .ok (.goto 5, 3) := by decide +kernel
theorem dd_Sp_streamAll_47 : decode cc_Sp_streamAll 47 = .ok (.iload 5, 2) := by decide +kernel
theorem dd_Sp_streamAll_49 : decode cc_Sp_streamAll 49 = .ok (.invokevirtual 88, 3) := by decide +kernel
theorem dd_Sp_streamAll_52 : decode cc_Sp_streamAll 52 = .ok (.iinc 3 1, 3) := by decide +kernel
theorem dd_Sp_streamAll_55 : decode cc_Sp_streamAll 55 = .ok (.goto (-49), 3) := by decide +kernel
theorem dd_Sp_streamAll_58 : decode cc_Sp_streamAll 58 = .ok (.return_, 1) := by decide +kernel
theorem dd_Sp_new_0 : decode cc_Sp_new 0 = .ok (.aload_n 0, 1) := by decide +kernel
theorem dd_Sp_new_1 : decode cc_Sp_new 1 = .ok (.invokespecial 3, 3) := by decide +kernel
theorem dd_Sp_new_4 : decode cc_Sp_new 4 = .ok (.aload_n 0, 1) := by decide +kernel
theorem dd_Sp_new_5 : decode cc_Sp_new 5 = .ok (.new 9, 3) := by decide +kernel
theorem dd_Sp_new_8 : decode cc_Sp_new 8 = .ok (.dup, 1) := by decide +kernel
theorem dd_Sp_new_9 : decode cc_Sp_new 9 = .ok (.invokespecial 11, 3) := by decide +kernel
theorem dd_Sp_new_12 : decode cc_Sp_new 12 = .ok (.putfield 12, 3) := by decide +kernel
theorem dd_Sp_new_15 : decode cc_Sp_new 15 = .ok (.aload_n 0, 1) := by decide +kernel
theorem dd_Sp_new_16 : decode cc_Sp_new 16 = .ok (.new 18, 3) := by decide +kernel
theorem dd_Sp_new_19 : decode cc_Sp_new 19 = .ok (.dup, 1) := by decide +kernel
theorem dd_Sp_new_20 : decode cc_Sp_new 20 = .ok (.invokespecial 20, 3) := by decide +kernel
theorem dd_Sp_new_23 : decode cc_Sp_new 23 = .ok (.putfield 21, 3) := by decide +kernel
theorem dd_Sp_new_26 : decode cc_Sp_new 26 = .ok (.aload_n 0, 1) := by decide +kernel
theorem dd_Sp_new_27 : decode cc_Sp_new 27 = .ok (.bipush 40, 2) := by decide +kernel
theorem dd_Sp_new_29 : decode cc_Sp_new 29 = .ok (.newarray .int, 2) := by decide +kernel
theorem dd_Sp_new_31 : decode cc_Sp_new 31 = .ok (.putfield 25, 3) := by decide +kernel
theorem dd_Sp_new_34 : decode cc_Sp_new 34 = .ok (.aload_n 0, 1) := by decide +kernel
theorem dd_Sp_new_35 : decode cc_Sp_new 35 = .ok (.iconst 4, 1) := by decide +kernel
theorem dd_Sp_new_36 : decode cc_Sp_new 36 = .ok (.newarray .int, 2) := by decide +kernel
theorem dd_Sp_new_38 : decode cc_Sp_new 38 = .ok (.putfield 29, 3) := by decide +kernel
theorem dd_Sp_new_41 : decode cc_Sp_new 41 = .ok (.aload_n 0, 1) := by decide +kernel
theorem dd_Sp_new_42 : decode cc_Sp_new 42 = .ok (.sipush 160, 3) := by decide +kernel
theorem dd_Sp_new_45 : decode cc_Sp_new 45 = .ok (.newarray .int, 2) := by decide +kernel
theorem dd_Sp_new_47 : decode cc_Sp_new 47 = .ok (.putfield 32, 3) := by decide +kernel
theorem dd_Sp_new_50 : decode cc_Sp_new 50 = .ok (.aload_n 0, 1) := by decide +kernel
theorem dd_Sp_new_51 : decode cc_Sp_new 51 = .ok (.iconst 0, 1) := by decide +kernel
theorem dd_Sp_new_52 : decode cc_Sp_new 52 = .ok (.putfield 35, 3) := by decide +kernel
theorem dd_Sp_new_55 : decode cc_Sp_new 55 = .ok (.aload_n 0, 1) := by decide +kernel
theorem dd_Sp_new_56 : decode cc_Sp_new 56 = .ok (.iconst 0, 1) := by decide +kernel
theorem dd_Sp_new_57 : decode cc_Sp_new 57 = .ok (.putfield 39, 3) := by decide +kernel
theorem dd_Sp_new_60 : decode cc_Sp_new 60 = .ok (.return_, 1) := by decide +kernel
