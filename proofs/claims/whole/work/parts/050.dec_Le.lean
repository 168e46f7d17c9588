theorem dd_Le_holder_0 : decode cc_Le_holder 0 = .ok (.aload_n 0, 1) := by decide +kernel
theorem dd_Le_holder_1 : decode cc_Le_holder 1 = .ok (.getfield 23, 3) := by decide +kernel
theorem dd_Le_holder_4 : decode cc_Le_holder 4 = .ok (.iload_n 1, 1) := by decide +kernel
theorem dd_Le_holder_5 : decode cc_Le_holder 5 = .ok (.bipush 40, 2) := by decide +kernel
theorem dd_Le_holder_7 : decode cc_Le_holder 7 = .ok (.imul, 1) := by decide +kernel
theorem dd_Le_holder_8 : decode cc_Le_holder 8 = .ok (.iload_n 2, 1) := by decide +kernel
theorem dd_Le_holder_9 : decode cc_Le_holder 9 = .ok (.iadd, 1) := by decide +kernel
theorem dd_Le_holder_10 : decode cc_Le_holder 10 = .ok (.iaload, 1) := by decide +kernel
theorem dd_Le_holder_11 : decode cc_Le_holder 11 = .ok (.ireturn, 1) := by decide +kernel
theorem dd_Le_drawInto_0 : decode cc_Le_drawInto 0 = .ok (.aload_n 3, 1) := by decide +kernel
theorem dd_Le_drawInto_1 : decode cc_Le_drawInto 1 = .ok (.aload_n 0, 1) := by decide +kernel
theorem dd_Le_drawInto_2 : decode cc_Le_drawInto 2 = .ok (.getfield 19, 3) := by decide +kernel
theorem dd_Le_drawInto_5 : decode cc_Le_drawInto 5 = .ok (.iload_n 1, 1) := by decide +kernel
theorem dd_Le_drawInto_6 : decode cc_Le_drawInto 6 = .ok (.iaload, 1) := by decide +kernel
theorem dd_Le_drawInto_7 : decode cc_Le_drawInto 7 = .ok (.invokevirtual 76, 3) := by decide +kernel
theorem dd_Le_drawInto_10 : decode cc_Le_drawInto 10 = .ok (.iconst 0, 1) := by decide +kernel
theorem dd_Le_drawInto_11 : decode cc_Le_drawInto 11 = .ok (.istore 4, 2) := by decide +kernel
theorem dd_Le_drawInto_13 : decode cc_Le_drawInto 13 = .ok (.iload 4, 2) := by decide +kernel
theorem dd_Le_drawInto_15 : decode cc_Le_drawInto 15 = .ok (.aload_n 2, 1) := by decide +kernel
theorem dd_Le_drawInto_16 : decode cc_Le_drawInto 16 = .ok (.getfield 32, 3) := by decide +kernel
theorem dd_Le_drawInto_19 : decode cc_Le_drawInto 19 = .ok (.if_icmp .ge 88, 3) := by decide +kernel
theorem dd_Le_drawInto_22 : decode cc_Le_drawInto 22 = .ok (.aload_n 0, 1) := by decide +kernel
theorem dd_Le_drawInto_23 : decode cc_Le_drawInto 23 = .ok (.iload_n 1, 1) := by decide +kernel
theorem dd_Le_drawInto_24 : decode cc_Le_drawInto 24 = .ok (.iload 4, 2) := by decide +kernel
theorem dd_Le_drawInto_26 : decode cc_Le_drawInto 26 = .ok (.invokevirtual 52, 3) := by decide +kernel
theorem dd_Le_drawInto_29 : decode cc_Le_drawInto 29 = .ok (.istore 5, 2) := by decide +kernel
theorem dd_Le_drawInto_31 : decode cc_Le_drawInto 31 = .ok (.aload_n 3, 1) := by decide +kernel
theorem dd_Le_drawInto_32 : decode cc_Le_drawInto 32 = .ok (.getfield 73, 3) := by decide +kernel
theorem dd_Le_drawInto_35 : decode cc_Le_drawInto 35 = .ok (.iload 5, 2) := by decide +kernel
theorem dd_Le_drawInto_37 : decode cc_Le_drawInto 37 = .ok (.dup2, 1) := by decide +kernel
theorem dd_Le_drawInto_38 : decode cc_Le_drawInto 38 = .ok (.iaload, 1) := by decide +kernel
theorem dd_Le_drawInto_39 : decode cc_Le_drawInto 39 = .ok (.aload_n 2, 1) := by decide +kernel
theorem dd_Le_drawInto_40 : decode cc_Le_drawInto 40 = .ok (.getfield 73, 3) := by decide +kernel
theorem dd_Le_drawInto_43 : decode cc_Le_drawInto 43 = .ok (.iload 4, 2) := by decide +kernel
theorem dd_Le_drawInto_45 : decode cc_Le_drawInto 45 = .ok (.iaload, 1) := by decide +kernel
theorem dd_Le_drawInto_46 : decode cc_Le_drawInto 46 = .ok (.iadd, 1) := by decide +kernel
theorem dd_Le_drawInto_47 : decode cc_Le_drawInto 47 = .ok (.iastore, 1) := by decide +kernel
theorem dd_Le_drawInto_48 : decode cc_Le_drawInto 48 = .ok (.iload 4, 2) := by decide +kernel
theorem dd_Le_drawInto_50 : decode cc_Le_drawInto 50 = .ok (.iconst 1, 1) := by decide +kernel
theorem dd_Le_drawInto_51 : decode cc_Le_drawInto 51 = .ok (.iadd, 1) := by decide +kernel
theorem dd_Le_drawInto_52 : decode cc_Le_drawInto 52 = .ok (.istore 6, 2) := by decide +kernel
theorem dd_Le_drawInto_54 : decode cc_Le_drawInto 54 = .ok (.iload 6, 2) := by decide +kernel
theorem dd_Le_drawInto_56 : decode cc_Le_drawInto 56 = .ok (.aload_n 2, 1) := by decide +kernel
theorem dd_Le_drawInto_57 : decode cc_Le_drawInto 57 = .ok (.getfield 32, 3) := by decide +kernel
theorem dd_Le_drawInto_60 : decode cc_Le_drawInto 60 = .ok (.if_icmp .ge 41, 3) := by decide +kernel
theorem dd_Le_drawInto_63 : decode cc_Le_drawInto 63 = .ok (.aload_n 0, 1) := by decide +kernel
theorem dd_Le_drawInto_64 : decode cc_Le_drawInto 64 = .ok (.iload_n 1, 1) := by decide +kernel
theorem dd_Le_drawInto_65 : decode cc_Le_drawInto 65 = .ok (.iload 6, 2) := by decide +kernel
theorem dd_Le_drawInto_67 : decode cc_Le_drawInto 67 = .ok (.invokevirtual 52, 3) := by decide +kernel
theorem dd_Le_drawInto_70 : decode cc_Le_drawInto 70 = .ok (.istore 7, 2) := by decide +kernel
theorem dd_Le_drawInto_72 : decode cc_Le_drawInto 72 = .ok (.iload 5, 2) := by decide +kernel
theorem dd_Le_drawInto_74 : decode cc_Le_drawInto 74 = .ok (.iload 7, 2) := by decide +kernel
theorem dd_Le_drawInto_76 : decode cc_Le_drawInto 76 = .ok (.if_icmp .eq 19, 3) := by decide +kernel
theorem dd_Le_drawInto_79 : decode cc_Le_drawInto 79 = .ok (.aload_n 3, 1) := by decide +kernel
theorem dd_Le_drawInto_80 : decode cc_Le_drawInto 80 = .ok (.iload 5, 2) := by decide +kernel
theorem dd_Le_drawInto_82 : decode cc_Le_drawInto 82 = .ok (.iload 7, 2) := by decide +kernel
theorem dd_Le_drawInto_84 : decode cc_Le_drawInto 84 = .ok (.aload_n 2, 1) := by decide +kernel
theorem dd_Le_drawInto_85 : decode cc_Le_drawInto 85 = .ok (.iload 4, 2) := by decide +kernel
theorem dd_Le_drawInto_87 : decode cc_Le_drawInto 87 = .ok (.iload 6, 2) := by decide +kernel
theorem dd_Le_drawInto_89 : decode cc_Le_drawInto 89 = .ok (.invokevirtual 70, 3) := by decide +kernel
theorem dd_Le_drawInto_92 : decode cc_Le_drawInto 92 = .ok (.invokevirtual 80, 3) := by decide +kernel
theorem dd_Le_drawInto_95 : decode cc_Le_drawInto 95 = .ok (.iinc 6 1, 3) := by decide +kernel
theorem dd_Le_drawInto_98 : decode cc_Le_drawInto 98 = .ok (.goto (-44), 3) := by decide +kernel
theorem dd_Le_drawInto_101 : decode cc_Le_drawInto 101 = .ok (.iinc 4 1, 3) := by decide +kernel
theorem dd_Le_drawInto_104 : decode cc_Le_drawInto 104 = .ok (.goto (-91), 3) := by decide +kernel
theorem dd_Le_drawInto_107 : decode cc_Le_drawInto 107 = .ok (.return_, 1) := by decide +kernel
theorem dd_Le_bestMate_0 : decode cc_Le_bestMate 0 = .ok (.iconst (-1), 1) := by decide +kernel
theorem dd_Le_bestMate_1 : decode cc_Le_bestMate 1 = .ok (.istore 5, 2) := by decide +kernel
theorem dd_Le_bestMate_3 : decode cc_Le_bestMate 3 = .ok (.iconst 0, 1) := by decide +kernel
theorem dd_Le_bestMate_4 : decode cc_Le_bestMate 4 = .ok (.istore 6, 2) := by decide +kernel
theorem dd_Le_bestMate_6 : decode cc_Le_bestMate 6 = .ok (.iconst 0, 1) := by decide +kernel
theorem dd_Le_bestMate_7 : decode cc_Le_bestMate 7 = .ok (.istore 7, 2) := by decide +kernel
theorem dd_Le_bestMate_9 : decode cc_Le_bestMate 9 = .ok (.iconst 0, 1) := by decide +kernel
theorem dd_Le_bestMate_10 : decode cc_Le_bestMate 10 = .ok (.istore 8, 2) := by decide +kernel
theorem dd_Le_bestMate_12 : decode cc_Le_bestMate 12 = .ok (.iload 8, 2) := by decide +kernel
theorem dd_Le_bestMate_14 : decode cc_Le_bestMate 14 = .ok (.aload_n 1, 1) := by decide +kernel
theorem dd_Le_bestMate_15 : decode cc_Le_bestMate 15 = .ok (.getfield 32, 3) := by decide +kernel
theorem dd_Le_bestMate_18 : decode cc_Le_bestMate 18 = .ok (.if_icmp .ge 120, 3) := by decide +kernel
theorem dd_Le_bestMate_21 : decode cc_Le_bestMate 21 = .ok (.aload_n 0, 1) := by decide +kernel
theorem dd_Le_bestMate_22 : decode cc_Le_bestMate 22 = .ok (.getfield 26, 3) := by decide +kernel
theorem dd_Le_bestMate_25 : decode cc_Le_bestMate 25 = .ok (.iload 8, 2) := by decide +kernel
theorem dd_Le_bestMate_27 : decode cc_Le_bestMate 27 = .ok (.iaload, 1) := by decide +kernel
theorem dd_Le_bestMate_28 : decode cc_Le_bestMate 28 = .ok (.iconst (-1), 1) := by decide +kernel
theorem dd_Le_bestMate_29 : decode cc_Le_bestMate 29 = .ok (.if_icmp .ne 13, 3) := by decide +kernel
theorem dd_Le_bestMate_32 : decode cc_Le_bestMate 32 = .ok (.aload_n 1, 1) := by decide +kernel
theorem dd_Le_bestMate_33 : decode cc_Le_bestMate 33 = .ok (.iload_n 2, 1) := by decide +kernel
theorem dd_Le_bestMate_34 : decode cc_Le_bestMate 34 = .ok (.iload 8, 2) := by decide +kernel
theorem dd_Le_bestMate_36 : decode cc_Le_bestMate 36 = .ok (.invokevirtual 70, 3) := by decide +kernel
theorem dd_Le_bestMate_39 : decode cc_Le_bestMate 39 = .ok (.goto 4, 3) := by decide +kernel
theorem dd_Le_bestMate_42 : decode cc_Le_bestMate 42 = .ok (.iconst 0, 1) := by decide +kernel
theorem dd_Le_bestMate_43 : decode cc_Le_bestMate 43 = .ok (.istore 9, 2) := by decide +kernel
theorem dd_Le_bestMate_45 : decode cc_Le_bestMate 45 = .ok (.aload_n 1, 1) := by decide +kernel
theorem dd_Le_bestMate_46 : decode cc_Le_bestMate 46 = .ok (.getfield 73, 3) := by decide +kernel
theorem dd_Le_bestMate_49 : decode cc_Le_bestMate 49 = .ok (.iload 8, 2) := by decide +kernel
theorem dd_Le_bestMate_51 : decode cc_Le_bestMate 51 = .ok (.iaload, 1) := by decide +kernel
theorem dd_Le_bestMate_52 : decode cc_Le_bestMate 52 = .ok (.istore 10, 2) := by decide +kernel
theorem dd_Le_bestMate_54 : decode cc_Le_bestMate 54 = .ok (.aload_n 1, 1) := by decide +kernel
theorem dd_Le_bestMate_55 : decode cc_Le_bestMate 55 = .ok (.getfield 73, 3) := by decide +kernel
theorem dd_Le_bestMate_58 : decode cc_Le_bestMate 58 = .ok (.iload_n 2, 1) := by decide +kernel
theorem dd_Le_bestMate_59 : decode cc_Le_bestMate 59 = .ok (.iaload, 1) := by decide +kernel
theorem dd_Le_bestMate_60 : decode cc_Le_bestMate 60 = .ok (.iload 10, 2) := by decide +kernel
theorem dd_Le_bestMate_62 : decode cc_Le_bestMate 62 = .ok (.iadd, 1) := by decide +kernel
theorem dd_Le_bestMate_63 : decode cc_Le_bestMate 63 = .ok (.iload 4, 2) := by decide +kernel
theorem dd_Le_bestMate_65 : decode cc_Le_bestMate 65 = .ok (.imul, 1) := by decide +kernel
theorem dd_Le_bestMate_66 : decode cc_Le_bestMate 66 = .ok (.iload_n 3, 1) := by decide +kernel
theorem dd_Le_bestMate_67 : decode cc_Le_bestMate 67 = .ok (.if_icmp .gt 7, 3) := by decide +kernel
theorem dd_Le_bestMate_70 : decode cc_Le_bestMate 70 = .ok (.iconst 1, 1) := by decide +kernel
theorem dd_Le_bestMate_71 : decode cc_Le_bestMate 71 = .ok (.goto 4, 3) := by decide +kernel
theorem dd_Le_bestMate_74 : decode cc_Le_bestMate 74 = .ok (.iconst 0, 1) := by decide +kernel
theorem dd_Le_bestMate_75 : decode cc_Le_bestMate 75 = .ok (.istore 11, 2) := by decide +kernel
theorem dd_Le_bestMate_77 : decode cc_Le_bestMate 77 = .ok (.iload 9, 2) := by decide +kernel
theorem dd_Le_bestMate_79 : decode cc_Le_bestMate 79 = .ok (.iload 6, 2) := by decide +kernel
theorem dd_Le_bestMate_81 : decode cc_Le_bestMate 81 = .ok (.if_icmp .gt 22, 3) := by decide +kernel
theorem dd_Le_bestMate_84 : decode cc_Le_bestMate 84 = .ok (.iload 9, 2) := by decide +kernel
theorem dd_Le_bestMate_86 : decode cc_Le_bestMate 86 = .ok (.ifCond .le 21, 3) := by decide +kernel
theorem dd_Le_bestMate_89 : decode cc_Le_bestMate 89 = .ok (.iload 9, 2) := by decide +kernel
theorem dd_Le_bestMate_91 : decode cc_Le_bestMate 91 = .ok (.iload 6, 2) := by decide +kernel
theorem dd_Le_bestMate_93 : decode cc_Le_bestMate 93 = .ok (.if_icmp .ne 14, 3) := by decide +kernel
theorem dd_Le_bestMate_96 : decode cc_Le_bestMate 96 = .ok (.iload 10, 2) := by decide +kernel
theorem dd_Le_bestMate_98 : decode cc_Le_bestMate 98 = .ok (.iload 7, 2) := by decide +kernel
theorem dd_Le_bestMate_100 : decode cc_Le_bestMate 100 = .ok (.if_icmp .ge 7, 3) := by decide +kernel
theorem dd_Le_bestMate_103 : decode cc_Le_bestMate 103 = .ok (.iconst 1, 1) := by decide +kernel
theorem dd_Le_bestMate_104 : decode cc_Le_bestMate 104 = .ok (.goto 4, 3) := by decide +kernel
theorem dd_Le_bestMate_107 : decode cc_Le_bestMate 107 = .ok (.iconst 0, 1) := by decide +kernel
theorem dd_Le_bestMate_108 : decode cc_Le_bestMate 108 = .ok (.istore 12, 2) := by decide +kernel
theorem dd_Le_bestMate_110 : decode cc_Le_bestMate 110 = .ok (.iload 11, 2) := by decide +kernel
theorem dd_Le_bestMate_112 : decode cc_Le_bestMate 112 = .ok (.ifCond .eq 20, 3) := by decide +kernel
theorem dd_Le_bestMate_115 : decode cc_Le_bestMate 115 = .ok (.iload 12, 2) := by decide +kernel
theorem dd_Le_bestMate_117 : decode cc_Le_bestMate 117 = .ok (.ifCond .eq 15, 3) := by decide +kernel
theorem dd_Le_bestMate_120 : decode cc_Le_bestMate 120 = .ok (.iload 8, 2) := by decide +kernel
theorem dd_Le_bestMate_122 : decode cc_Le_bestMate 122 = .ok (.istore 5, 2) := by decide +kernel
theorem dd_Le_bestMate_124 : decode cc_Le_bestMate 124 = .ok (.iload 9, 2) := by decide +kernel
theorem dd_Le_bestMate_126 : decode cc_Le_bestMate 126 = .ok (.istore 6, 2) := by decide +kernel
theorem dd_Le_bestMate_128 : decode cc_Le_bestMate 128 = .ok (.iload 10, 2) := by decide +kernel
theorem dd_Le_bestMate_130 : decode cc_Le_bestMate 130 = .ok (.istore 7, 2) := by decide +kernel
theorem dd_Le_bestMate_132 : decode cc_Le_bestMate 132 = .ok (.iinc 8 1, 3) := by decide +kernel
theorem dd_Le_bestMate_135 : decode cc_Le_bestMate 135 = .ok (.goto (-123), 3) := by decide +kernel
theorem dd_Le_bestMate_138 : decode cc_Le_bestMate 138 = .ok (.iload 5, 2) := by decide +kernel
theorem dd_Le_bestMate_140 : decode cc_Le_bestMate 140 = .ok (.ireturn, 1) := by decide +kernel
theorem dd_Le_joinAll_0 : decode cc_Le_joinAll 0 = .ok (.aload_n 0, 1) := by decide +kernel
theorem dd_Le_joinAll_1 : decode cc_Le_joinAll 1 = .ok (.getfield 26, 3) := by decide +kernel
theorem dd_Le_joinAll_4 : decode cc_Le_joinAll 4 = .ok (.iconst (-1), 1) := by decide +kernel
theorem dd_Le_joinAll_5 : decode cc_Le_joinAll 5 = .ok (.invokestatic 56, 3) := by decide +kernel
theorem dd_Le_joinAll_8 : decode cc_Le_joinAll 8 = .ok (.aload_n 1, 1) := by decide +kernel
theorem dd_Le_joinAll_9 : decode cc_Le_joinAll 9 = .ok (.invokevirtual 62, 3) := by decide +kernel
theorem dd_Le_joinAll_12 : decode cc_Le_joinAll 12 = .ok (.istore_n 3, 1) := by decide +kernel
theorem dd_Le_joinAll_13 : decode cc_Le_joinAll 13 = .ok (.iconst 0, 1) := by decide +kernel
theorem dd_Le_joinAll_14 : decode cc_Le_joinAll 14 = .ok (.istore 4, 2) := by decide +kernel
theorem dd_Le_joinAll_16 : decode cc_Le_joinAll 16 = .ok (.iconst 0, 1) := by decide +kernel
theorem dd_Le_joinAll_17 : decode cc_Le_joinAll 17 = .ok (.istore 5, 2) := by decide +kernel
theorem dd_Le_joinAll_19 : decode cc_Le_joinAll 19 = .ok (.iload 5, 2) := by decide +kernel
theorem dd_Le_joinAll_21 : decode cc_Le_joinAll 21 = .ok (.aload_n 1, 1) := by decide +kernel
theorem dd_Le_joinAll_22 : decode cc_Le_joinAll 22 = .ok (.getfield 32, 3) := by decide +kernel
theorem dd_Le_joinAll_25 : decode cc_Le_joinAll 25 = .ok (.if_icmp .ge 64, 3) := by decide +kernel
theorem dd_Le_joinAll_28 : decode cc_Le_joinAll 28 = .ok (.aload_n 0, 1) := by decide +kernel
theorem dd_Le_joinAll_29 : decode cc_Le_joinAll 29 = .ok (.getfield 26, 3) := by decide +kernel
theorem dd_Le_joinAll_32 : decode cc_Le_joinAll 32 = .ok (.iload 5, 2) := by decide +kernel
theorem dd_Le_joinAll_34 : decode cc_Le_joinAll 34 = .ok (.iaload, 1) := by decide +kernel
theorem dd_Le_joinAll_35 : decode cc_Le_joinAll 35 = .ok (.iconst (-1), 1) := by decide +kernel
theorem dd_Le_joinAll_36 : decode cc_Le_joinAll 36 = .ok (.if_icmp .ne 17, 3) := by decide +kernel
theorem dd_Le_joinAll_39 : decode cc_Le_joinAll 39 = .ok (.aload_n 0, 1) := by decide +kernel
theorem dd_Le_joinAll_40 : decode cc_Le_joinAll 40 = .ok (.aload_n 1, 1) := by decide +kernel
theorem dd_Le_joinAll_41 : decode cc_Le_joinAll 41 = .ok (.iload 5, 2) := by decide +kernel
theorem dd_Le_joinAll_43 : decode cc_Le_joinAll 43 = .ok (.iload_n 3, 1) := by decide +kernel
theorem dd_Le_joinAll_44 : decode cc_Le_joinAll 44 = .ok (.iconst 2, 1) := by decide +kernel
theorem dd_Le_joinAll_45 : decode cc_Le_joinAll 45 = .ok (.iload_n 2, 1) := by decide +kernel
theorem dd_Le_joinAll_46 : decode cc_Le_joinAll 46 = .ok (.imul, 1) := by decide +kernel
theorem dd_Le_joinAll_47 : decode cc_Le_joinAll 47 = .ok (.invokevirtual 66, 3) := by decide +kernel
theorem dd_Le_joinAll_50 : decode cc_Le_joinAll 50 = .ok (.goto 4, 3) := by decide +kernel
theorem dd_Le_joinAll_53 : decode cc_Le_joinAll 53 = .ok (.iconst (-1), 1) := by decide +kernel
theorem dd_Le_joinAll_54 : decode cc_Le_joinAll 54 = .ok (.istore 6, 2) := by decide +kernel
theorem dd_Le_joinAll_56 : decode cc_Le_joinAll 56 = .ok (.iload 6, 2) := by decide +kernel
theorem dd_Le_joinAll_58 : decode cc_Le_joinAll 58 = .ok (.iconst (-1), 1) := by decide +kernel
theorem dd_Le_joinAll_59 : decode cc_Le_joinAll 59 = .ok (.if_icmp .eq 24, 3) := by decide +kernel
theorem dd_Le_joinAll_62 : decode cc_Le_joinAll 62 = .ok (.aload_n 0, 1) := by decide +kernel
theorem dd_Le_joinAll_63 : decode cc_Le_joinAll 63 = .ok (.getfield 26, 3) := by decide +kernel
theorem dd_Le_joinAll_66 : decode cc_Le_joinAll 66 = .ok (.iload 5, 2) := by decide +kernel
theorem dd_Le_joinAll_68 : decode cc_Le_joinAll 68 = .ok (.iload 6, 2) := by decide +kernel
theorem dd_Le_joinAll_70 : decode cc_Le_joinAll 70 = .ok (.iastore, 1) := by decide +kernel
theorem dd_Le_joinAll_71 : decode cc_Le_joinAll 71 = .ok (.aload_n 0, 1) := by decide +kernel
theorem dd_Le_joinAll_72 : decode cc_Le_joinAll 72 = .ok (.getfield 26, 3) := by decide +kernel
theorem dd_Le_joinAll_75 : decode cc_Le_joinAll 75 = .ok (.iload 6, 2) := by decide +kernel
theorem dd_Le_joinAll_77 : decode cc_Le_joinAll 77 = .ok (.iload 5, 2) := by decide +kernel
theorem dd_Le_joinAll_79 : decode cc_Le_joinAll 79 = .ok (.iastore, 1) := by decide +kernel
theorem dd_Le_joinAll_80 : decode cc_Le_joinAll 80 = .ok (.iconst 1, 1) := by decide +kernel
theorem dd_Le_joinAll_81 : decode cc_Le_joinAll 81 = .ok (.istore 4, 2) := by decide +kernel
theorem dd_Le_joinAll_83 : decode cc_Le_joinAll 83 = .ok (.iinc 5 1, 3) := by decide +kernel
theorem dd_Le_joinAll_86 : decode cc_Le_joinAll 86 = .ok (.goto (-67), 3) := by decide +kernel
theorem dd_Le_joinAll_89 : decode cc_Le_joinAll 89 = .ok (.iload 4, 2) := by decide +kernel
theorem dd_Le_joinAll_91 : decode cc_Le_joinAll 91 = .ok (.ireturn, 1) := by decide +kernel
theorem dd_Le_numberJoined_0 : decode cc_Le_numberJoined 0 = .ok (.iconst 0, 1) := by decide +kernel
theorem dd_Le_numberJoined_1 : decode cc_Le_numberJoined 1 = .ok (.istore_n 2, 1) := by decide +kernel
theorem dd_Le_numberJoined_2 : decode cc_Le_numberJoined 2 = .ok (.iconst 0, 1) := by decide +kernel
theorem dd_Le_numberJoined_3 : decode cc_Le_numberJoined 3 = .ok (.istore_n 3, 1) := by decide +kernel
theorem dd_Le_numberJoined_4 : decode cc_Le_numberJoined 4 = .ok (.iload_n 3, 1) := by decide +kernel
theorem dd_Le_numberJoined_5 : decode cc_Le_numberJoined 5 = .ok (.iload_n 1, 1) := by decide +kernel
theorem dd_Le_numberJoined_6 : decode cc_Le_numberJoined 6 = .ok (.if_icmp .ge 75, 3) := by decide +kernel
theorem dd_Le_numberJoined_9 : decode cc_Le_numberJoined 9 = .ok (.aload_n 0, 1) := by decide +kernel
theorem dd_Le_numberJoined_10 : decode cc_Le_numberJoined 10 = .ok (.getfield 26, 3) := by decide +kernel
theorem dd_Le_numberJoined_13 : decode cc_Le_numberJoined 13 = .ok (.iload_n 3, 1) := by decide +kernel
theorem dd_Le_numberJoined_14 : decode cc_Le_numberJoined 14 = .ok (.iaload, 1) := by decide +kernel
theorem dd_Le_numberJoined_15 : decode cc_Le_numberJoined 15 = .ok (.iconst (-1), 1) := by decide +kernel
theorem dd_Le_numberJoined_16 : decode cc_Le_numberJoined 16 = .ok (.if_icmp .eq 13, 3) := by decide +kernel
theorem dd_Le_numberJoined_19 : decode cc_Le_numberJoined 19 = .ok (.aload_n 0, 1) := by decide +kernel
theorem dd_Le_numberJoined_20 : decode cc_Le_numberJoined 20 = .ok (.getfield 26, 3) := by decide +kernel
theorem dd_Le_numberJoined_23 : decode cc_Le_numberJoined 23 = .ok (.iload_n 3, 1) := by decide +kernel
theorem dd_Le_numberJoined_24 : decode cc_Le_numberJoined 24 = .ok (.iaload, 1) := by decide +kernel
theorem dd_Le_numberJoined_25 : decode cc_Le_numberJoined 25 = .ok (.iload_n 3, 1) := by decide +kernel
theorem dd_Le_numberJoined_26 : decode cc_Le_numberJoined 26 = .ok (.if_icmp .le 7, 3) := by decide +kernel
theorem dd_Le_numberJoined_29 : decode cc_Le_numberJoined 29 = .ok (.iconst 1, 1) := by decide +kernel
theorem dd_Le_numberJoined_30 : decode cc_Le_numberJoined 30 = .ok (.goto 4, 3) := by decide +kernel
theorem dd_Le_numberJoined_33 : decode cc_Le_numberJoined 33 = .ok (.iconst 0, 1) := by decide +kernel
theorem dd_Le_numberJoined_34 : decode cc_Le_numberJoined 34 = .ok (.istore 4, 2) := by decide +kernel
theorem dd_Le_numberJoined_36 : decode cc_Le_numberJoined 36 = .ok (.aload_n 0, 1) := by decide +kernel
theorem dd_Le_numberJoined_37 : decode cc_Le_numberJoined 37 = .ok (.getfield 29, 3) := by decide +kernel
theorem dd_Le_numberJoined_40 : decode cc_Le_numberJoined 40 = .ok (.iload_n 3, 1) := by decide +kernel
theorem dd_Le_numberJoined_41 : decode cc_Le_numberJoined 41 = .ok (.iload 4, 2) := by decide +kernel
theorem dd_Le_numberJoined_43 : decode cc_Le_numberJoined 43 = .ok (.ifCond .eq 7, 3) := by decide +kernel
theorem dd_Le_numberJoined_46 : decode cc_Le_numberJoined 46 = .ok (.iload_n 2, 1) := by decide +kernel
theorem dd_Le_numberJoined_47 : decode cc_Le_numberJoined 47 = .ok (.goto 14, 3) := by decide +kernel
theorem dd_Le_numberJoined_50 : decode cc_Le_numberJoined 50 = .ok (.aload_n 0, 1) := by decide +kernel
theorem dd_Le_numberJoined_51 : decode cc_Le_numberJoined 51 = .ok (.getfield 29, 3) := by decide +kernel
theorem dd_Le_numberJoined_54 : decode cc_Le_numberJoined 54 = .ok (.aload_n 0, 1) := by decide +kernel
theorem dd_Le_numberJoined_55 : decode cc_Le_numberJoined 55 = .ok (.getfield 26, 3) := by decide +kernel
theorem dd_Le_numberJoined_58 : decode cc_Le_numberJoined 58 = .ok (.iload_n 3, 1) := by decide +kernel
theorem dd_Le_numberJoined_59 : decode cc_Le_numberJoined 59 = .ok (.iaload, 1) := by decide +kernel
theorem dd_Le_numberJoined_60 : decode cc_Le_numberJoined 60 = .ok (.iaload, 1) := by decide +kernel
theorem dd_Le_numberJoined_61 : decode cc_Le_numberJoined 61 = .ok (.iastore, 1) := by decide +kernel
theorem dd_Le_numberJoined_62 : decode cc_Le_numberJoined 62 = .ok (.iload_n 2, 1) := by decide +kernel
theorem dd_Le_numberJoined_63 : decode cc_Le_numberJoined 63 = .ok (.iload 4, 2) := by decide +kernel
theorem dd_Le_numberJoined_65 : decode cc_Le_numberJoined 65 = .ok (.ifCond .eq 7, 3) := by decide +kernel
theorem dd_Le_numberJoined_68 : decode cc_Le_numberJoined 68 = .ok (.iconst 1, 1) := by decide +kernel
theorem dd_Le_numberJoined_69 : decode cc_Le_numberJoined 69 = .ok (.goto 4, 3) := by decide +kernel
theorem dd_Le_numberJoined_72 : decode cc_Le_numberJoined 72 = .ok (.iconst 0, 1) := by decide +kernel
theorem dd_Le_numberJoined_73 : decode cc_Le_numberJoined 73 = .ok (.iadd, 1) := by decide +kernel
theorem dd_Le_numberJoined_74 : decode cc_Le_numberJoined 74 = .ok (.istore_n 2, 1) := by decide +kernel
theorem dd_Le_numberJoined_75 : decode cc_Le_numberJoined 75 = .ok (.iinc 3 1, 3) := by decide +kernel
theorem dd_Le_numberJoined_78 : decode cc_Le_numberJoined 78 = .ok (.goto (-74), 3) := by decide +kernel
theorem dd_Le_numberJoined_81 : decode cc_Le_numberJoined 81 = .ok (.iload_n 2, 1) := by decide +kernel
theorem dd_Le_numberJoined_82 : decode cc_Le_numberJoined 82 = .ok (.ireturn, 1) := by decide +kernel
theorem dd_Le_makeLevel_0 : decode cc_Le_makeLevel 0 = .ok (.aload_n 0, 1) := by decide +kernel
theorem dd_Le_makeLevel_1 : decode cc_Le_makeLevel 1 = .ok (.getfield 19, 3) := by decide +kernel
theorem dd_Le_makeLevel_4 : decode cc_Le_makeLevel 4 = .ok (.iload_n 1, 1) := by decide +kernel
theorem dd_Le_makeLevel_5 : decode cc_Le_makeLevel 5 = .ok (.iconst 1, 1) := by decide +kernel
theorem dd_Le_makeLevel_6 : decode cc_Le_makeLevel 6 = .ok (.isub, 1) := by decide +kernel
theorem dd_Le_makeLevel_7 : decode cc_Le_makeLevel 7 = .ok (.iaload, 1) := by decide +kernel
theorem dd_Le_makeLevel_8 : decode cc_Le_makeLevel 8 = .ok (.bipush 6, 2) := by decide +kernel
theorem dd_Le_makeLevel_10 : decode cc_Le_makeLevel 10 = .ok (.if_icmp .gt 5, 3) := by decide +kernel
theorem dd_Le_makeLevel_13 : decode cc_Le_makeLevel 13 = .ok (.iconst 0, 1) := by decide +kernel
theorem dd_Le_makeLevel_14 : decode cc_Le_makeLevel 14 = .ok (.ireturn, 1) := by decide +kernel
theorem dd_Le_makeLevel_15 : decode cc_Le_makeLevel 15 = .ok (.aload_n 0, 1) := by decide +kernel
theorem dd_Le_makeLevel_16 : decode cc_Le_makeLevel 16 = .ok (.iload_n 1, 1) := by decide +kernel
theorem dd_Le_makeLevel_17 : decode cc_Le_makeLevel 17 = .ok (.iconst 1, 1) := by decide +kernel
theorem dd_Le_makeLevel_18 : decode cc_Le_makeLevel 18 = .ok (.isub, 1) := by decide +kernel
theorem dd_Le_makeLevel_19 : decode cc_Le_makeLevel 19 = .ok (.aload_n 2, 1) := by decide +kernel
theorem dd_Le_makeLevel_20 : decode cc_Le_makeLevel 20 = .ok (.aload 4, 2) := by decide +kernel
theorem dd_Le_makeLevel_22 : decode cc_Le_makeLevel 22 = .ok (.invokevirtual 40, 3) := by decide +kernel
theorem dd_Le_makeLevel_25 : decode cc_Le_makeLevel 25 = .ok (.aload_n 0, 1) := by decide +kernel
theorem dd_Le_makeLevel_26 : decode cc_Le_makeLevel 26 = .ok (.aload 4, 2) := by decide +kernel
theorem dd_Le_makeLevel_28 : decode cc_Le_makeLevel 28 = .ok (.iload_n 3, 1) := by decide +kernel
theorem dd_Le_makeLevel_29 : decode cc_Le_makeLevel 29 = .ok (.invokevirtual 44, 3) := by decide +kernel
theorem dd_Le_makeLevel_32 : decode cc_Le_makeLevel 32 = .ok (.ifCond .ne 5, 3) := by decide +kernel
theorem dd_Le_makeLevel_35 : decode cc_Le_makeLevel 35 = .ok (.iconst 0, 1) := by decide +kernel
theorem dd_Le_makeLevel_36 : decode cc_Le_makeLevel 36 = .ok (.ireturn, 1) := by decide +kernel
theorem dd_Le_makeLevel_37 : decode cc_Le_makeLevel 37 = .ok (.aload_n 0, 1) := by decide +kernel
theorem dd_Le_makeLevel_38 : decode cc_Le_makeLevel 38 = .ok (.getfield 19, 3) := by decide +kernel
theorem dd_Le_makeLevel_41 : decode cc_Le_makeLevel 41 = .ok (.iload_n 1, 1) := by decide +kernel
theorem dd_Le_makeLevel_42 : decode cc_Le_makeLevel 42 = .ok (.aload_n 0, 1) := by decide +kernel
theorem dd_Le_makeLevel_43 : decode cc_Le_makeLevel 43 = .ok (.aload 4, 2) := by decide +kernel
theorem dd_Le_makeLevel_45 : decode cc_Le_makeLevel 45 = .ok (.getfield 32, 3) := by decide +kernel
theorem dd_Le_makeLevel_48 : decode cc_Le_makeLevel 48 = .ok (.invokevirtual 48, 3) := by decide +kernel
theorem dd_Le_makeLevel_51 : decode cc_Le_makeLevel 51 = .ok (.iastore, 1) := by decide +kernel
theorem dd_Le_makeLevel_52 : decode cc_Le_makeLevel 52 = .ok (.iconst 0, 1) := by decide +kernel
theorem dd_Le_makeLevel_53 : decode cc_Le_makeLevel 53 = .ok (.istore 5, 2) := by decide +kernel
theorem dd_Le_makeLevel_55 : decode cc_Le_makeLevel 55 = .ok (.iload 5, 2) := by decide +kernel
theorem dd_Le_makeLevel_57 : decode cc_Le_makeLevel 57 = .ok (.aload_n 2, 1) := by decide +kernel
theorem dd_Le_makeLevel_58 : decode cc_Le_makeLevel 58 = .ok (.getfield 32, 3) := by decide +kernel
theorem dd_Le_makeLevel_61 : decode cc_Le_makeLevel 61 = .ok (.if_icmp .ge 35, 3) := by decide +kernel
theorem dd_Le_makeLevel_64 : decode cc_Le_makeLevel 64 = .ok (.aload_n 0, 1) := by decide +kernel
theorem dd_Le_makeLevel_65 : decode cc_Le_makeLevel 65 = .ok (.getfield 23, 3) := by decide +kernel
theorem dd_Le_makeLevel_68 : decode cc_Le_makeLevel 68 = .ok (.iload_n 1, 1) := by decide +kernel
theorem dd_Le_makeLevel_69 : decode cc_Le_makeLevel 69 = .ok (.bipush 40, 2) := by decide +kernel
theorem dd_Le_makeLevel_71 : decode cc_Le_makeLevel 71 = .ok (.imul, 1) := by decide +kernel
theorem dd_Le_makeLevel_72 : decode cc_Le_makeLevel 72 = .ok (.iload 5, 2) := by decide +kernel
theorem dd_Le_makeLevel_74 : decode cc_Le_makeLevel 74 = .ok (.iadd, 1) := by decide +kernel
theorem dd_Le_makeLevel_75 : decode cc_Le_makeLevel 75 = .ok (.aload_n 0, 1) := by decide +kernel
theorem dd_Le_makeLevel_76 : decode cc_Le_makeLevel 76 = .ok (.getfield 29, 3) := by decide +kernel
theorem dd_Le_makeLevel_79 : decode cc_Le_makeLevel 79 = .ok (.aload_n 0, 1) := by decide +kernel
theorem dd_Le_makeLevel_80 : decode cc_Le_makeLevel 80 = .ok (.iload_n 1, 1) := by decide +kernel
theorem dd_Le_makeLevel_81 : decode cc_Le_makeLevel 81 = .ok (.iconst 1, 1) := by decide +kernel
theorem dd_Le_makeLevel_82 : decode cc_Le_makeLevel 82 = .ok (.isub, 1) := by decide +kernel
theorem dd_Le_makeLevel_83 : decode cc_Le_makeLevel 83 = .ok (.iload 5, 2) := by decide +kernel
theorem dd_Le_makeLevel_85 : decode cc_Le_makeLevel 85 = .ok (.invokevirtual 52, 3) := by decide +kernel
theorem dd_Le_makeLevel_88 : decode cc_Le_makeLevel 88 = .ok (.iaload, 1) := by decide +kernel
theorem dd_Le_makeLevel_89 : decode cc_Le_makeLevel 89 = .ok (.iastore, 1) := by decide +kernel
theorem dd_Le_makeLevel_90 : decode cc_Le_makeLevel 90 = .ok (.iinc 5 1, 3) := by decide +kernel
theorem dd_Le_makeLevel_93 : decode cc_Le_makeLevel 93 = .ok (.goto (-38), 3) := by decide +kernel
theorem dd_Le_makeLevel_96 : decode cc_Le_makeLevel 96 = .ok (.iconst 1, 1) := by decide +kernel
theorem dd_Le_makeLevel_97 : decode cc_Le_makeLevel 97 = .ok (.ireturn, 1) := by decide +kernel
theorem dd_Le_renew_0 : decode cc_Le_renew 0 = .ok (.aload_n 0, 1) := by decide +kernel
theorem dd_Le_renew_1 : decode cc_Le_renew 1 = .ok (.getfield 9, 3) := by decide +kernel
theorem dd_Le_renew_4 : decode cc_Le_renew 4 = .ok (.ifCond .eq 4, 3) := by decide +kernel
theorem dd_Le_renew_7 : decode cc_Le_renew 7 = .ok (.return_, 1) := by decide +kernel
theorem dd_Le_renew_8 : decode cc_Le_renew 8 = .ok (.aload_n 0, 1) := by decide +kernel
theorem dd_Le_renew_9 : decode cc_Le_renew 9 = .ok (.iconst 1, 1) := by decide +kernel
theorem dd_Le_renew_10 : decode cc_Le_renew 10 = .ok (.putfield 9, 3) := by decide +kernel
theorem dd_Le_renew_13 : decode cc_Le_renew 13 = .ok (.aload_n 0, 1) := by decide +kernel
theorem dd_Le_renew_14 : decode cc_Le_renew 14 = .ok (.iconst 1, 1) := by decide +kernel
theorem dd_Le_renew_15 : decode cc_Le_renew 15 = .ok (.putfield 15, 3) := by decide +kernel
theorem dd_Le_renew_18 : decode cc_Le_renew 18 = .ok (.aload_n 0, 1) := by decide +kernel
theorem dd_Le_renew_19 : decode cc_Le_renew 19 = .ok (.getfield 19, 3) := by decide +kernel
theorem dd_Le_renew_22 : decode cc_Le_renew 22 = .ok (.iconst 0, 1) := by decide +kernel
theorem dd_Le_renew_23 : decode cc_Le_renew 23 = .ok (.aload_n 1, 1) := by decide +kernel
theorem dd_Le_renew_24 : decode cc_Le_renew 24 = .ok (.getfield 32, 3) := by decide +kernel
theorem dd_Le_renew_27 : decode cc_Le_renew 27 = .ok (.iastore, 1) := by decide +kernel
theorem dd_Le_renew_28 : decode cc_Le_renew 28 = .ok (.iconst 0, 1) := by decide +kernel
theorem dd_Le_renew_29 : decode cc_Le_renew 29 = .ok (.istore 4, 2) := by decide +kernel
theorem dd_Le_renew_31 : decode cc_Le_renew 31 = .ok (.iload 4, 2) := by decide +kernel
theorem dd_Le_renew_33 : decode cc_Le_renew 33 = .ok (.aload_n 1, 1) := by decide +kernel
theorem dd_Le_renew_34 : decode cc_Le_renew 34 = .ok (.getfield 32, 3) := by decide +kernel
theorem dd_Le_renew_37 : decode cc_Le_renew 37 = .ok (.if_icmp .ge 18, 3) := by decide +kernel
theorem dd_Le_renew_40 : decode cc_Le_renew 40 = .ok (.aload_n 0, 1) := by decide +kernel
theorem dd_Le_renew_41 : decode cc_Le_renew 41 = .ok (.getfield 23, 3) := by decide +kernel
theorem dd_Le_renew_44 : decode cc_Le_renew 44 = .ok (.iload 4, 2) := by decide +kernel
theorem dd_Le_renew_46 : decode cc_Le_renew 46 = .ok (.iload 4, 2) := by decide +kernel
theorem dd_Le_renew_48 : decode cc_Le_renew 48 = .ok (.iastore, 1) := by decide +kernel
theorem dd_Le_renew_49 : decode cc_Le_renew 49 = .ok (.iinc 4 1, 3) := by decide +kernel
theorem dd_Le_renew_52 : decode cc_Le_renew 52 = .ok (.goto (-21), 3) := by decide +kernel
theorem dd_Le_renew_55 : decode cc_Le_renew 55 = .ok (.iconst 1, 1) := by decide +kernel
theorem dd_Le_renew_56 : decode cc_Le_renew 56 = .ok (.istore 4, 2) := by decide +kernel
theorem dd_Le_renew_58 : decode cc_Le_renew 58 = .ok (.iload 4, 2) := by decide +kernel
theorem dd_Le_renew_60 : decode cc_Le_renew 60 = .ok (.bipush 40, 2) := by decide +kernel
theorem dd_Le_renew_62 : decode cc_Le_renew 62 = .ok (.if_icmp .ge 29, 3) := by decide +kernel
theorem dd_Le_renew_65 : decode cc_Le_renew 65 = .ok (.aload_n 0, 1) := by decide +kernel
theorem dd_Le_renew_66 : decode cc_Le_renew 66 = .ok (.iload 4, 2) := by decide +kernel
theorem dd_Le_renew_68 : decode cc_Le_renew 68 = .ok (.aload_n 1, 1) := by decide +kernel
theorem dd_Le_renew_69 : decode cc_Le_renew 69 = .ok (.iload_n 2, 1) := by decide +kernel
theorem dd_Le_renew_70 : decode cc_Le_renew 70 = .ok (.aload_n 3, 1) := by decide +kernel
theorem dd_Le_renew_71 : decode cc_Le_renew 71 = .ok (.invokevirtual 36, 3) := by decide +kernel
theorem dd_Le_renew_74 : decode cc_Le_renew 74 = .ok (.ifCond .eq 17, 3) := by decide +kernel
theorem dd_Le_renew_77 : decode cc_Le_renew 77 = .ok (.aload_n 0, 1) := by decide +kernel
theorem dd_Le_renew_78 : decode cc_Le_renew 78 = .ok (.iload 4, 2) := by decide +kernel
theorem dd_Le_renew_80 : decode cc_Le_renew 80 = .ok (.iconst 1, 1) := by decide +kernel
theorem dd_Le_renew_81 : decode cc_Le_renew 81 = .ok (.iadd, 1) := by decide +kernel
theorem dd_Le_renew_82 : decode cc_Le_renew 82 = .ok (.putfield 15, 3) := by decide +kernel
theorem dd_Le_renew_85 : decode cc_Le_renew 85 = .ok (.iinc 4 1, 3) := by decide +kernel
theorem dd_Le_renew_88 : decode cc_Le_renew 88 = .ok (.goto (-30), 3) := by decide +kernel
theorem dd_Le_renew_91 : decode cc_Le_renew 91 = .ok (.return_, 1) := by decide +kernel
theorem dd_Le_bringDown_0 : decode cc_Le_bringDown 0 = .ok (.iconst 0, 1) := by decide +kernel
theorem dd_Le_bringDown_1 : decode cc_Le_bringDown 1 = .ok (.istore 5, 2) := by decide +kernel
theorem dd_Le_bringDown_3 : decode cc_Le_bringDown 3 = .ok (.iload 5, 2) := by decide +kernel
theorem dd_Le_bringDown_5 : decode cc_Le_bringDown 5 = .ok (.iload 4, 2) := by decide +kernel
theorem dd_Le_bringDown_7 : decode cc_Le_bringDown 7 = .ok (.if_icmp .ge 22, 3) := by decide +kernel
theorem dd_Le_bringDown_10 : decode cc_Le_bringDown 10 = .ok (.aload_n 3, 1) := by decide +kernel
theorem dd_Le_bringDown_11 : decode cc_Le_bringDown 11 = .ok (.aload_n 0, 1) := by decide +kernel
theorem dd_Le_bringDown_12 : decode cc_Le_bringDown 12 = .ok (.iload_n 1, 1) := by decide +kernel
theorem dd_Le_bringDown_13 : decode cc_Le_bringDown 13 = .ok (.iload 5, 2) := by decide +kernel
theorem dd_Le_bringDown_15 : decode cc_Le_bringDown 15 = .ok (.invokevirtual 52, 3) := by decide +kernel
theorem dd_Le_bringDown_18 : decode cc_Le_bringDown 18 = .ok (.aload_n 2, 1) := by decide +kernel
theorem dd_Le_bringDown_19 : decode cc_Le_bringDown 19 = .ok (.iload 5, 2) := by decide +kernel
theorem dd_Le_bringDown_21 : decode cc_Le_bringDown 21 = .ok (.iaload, 1) := by decide +kernel
theorem dd_Le_bringDown_22 : decode cc_Le_bringDown 22 = .ok (.iastore, 1) := by decide +kernel
theorem dd_Le_bringDown_23 : decode cc_Le_bringDown 23 = .ok (.iinc 5 1, 3) := by decide +kernel
theorem dd_Le_bringDown_26 : decode cc_Le_bringDown 26 = .ok (.goto (-23), 3) := by decide +kernel
theorem dd_Le_bringDown_29 : decode cc_Le_bringDown 29 = .ok (.return_, 1) := by decide +kernel
theorem dd_Le_bringUp_0 : decode cc_Le_bringUp 0 = .ok (.iconst 0, 1) := by decide +kernel
theorem dd_Le_bringUp_1 : decode cc_Le_bringUp 1 = .ok (.istore 5, 2) := by decide +kernel
theorem dd_Le_bringUp_3 : decode cc_Le_bringUp 3 = .ok (.iload 5, 2) := by decide +kernel
theorem dd_Le_bringUp_5 : decode cc_Le_bringUp 5 = .ok (.iload 4, 2) := by decide +kernel
theorem dd_Le_bringUp_7 : decode cc_Le_bringUp 7 = .ok (.if_icmp .ge 22, 3) := by decide +kernel
theorem dd_Le_bringUp_10 : decode cc_Le_bringUp 10 = .ok (.aload_n 3, 1) := by decide +kernel
theorem dd_Le_bringUp_11 : decode cc_Le_bringUp 11 = .ok (.iload 5, 2) := by decide +kernel
theorem dd_Le_bringUp_13 : decode cc_Le_bringUp 13 = .ok (.aload_n 2, 1) := by decide +kernel
theorem dd_Le_bringUp_14 : decode cc_Le_bringUp 14 = .ok (.aload_n 0, 1) := by decide +kernel
theorem dd_Le_bringUp_15 : decode cc_Le_bringUp 15 = .ok (.iload_n 1, 1) := by decide +kernel
theorem dd_Le_bringUp_16 : decode cc_Le_bringUp 16 = .ok (.iload 5, 2) := by decide +kernel
theorem dd_Le_bringUp_18 : decode cc_Le_bringUp 18 = .ok (.invokevirtual 52, 3) := by decide +kernel
theorem dd_Le_bringUp_21 : decode cc_Le_bringUp 21 = .ok (.iaload, 1) := by decide +kernel
theorem dd_Le_bringUp_22 : decode cc_Le_bringUp 22 = .ok (.iastore, 1) := by decide +kernel
theorem dd_Le_bringUp_23 : decode cc_Le_bringUp 23 = .ok (.iinc 5 1, 3) := by decide +kernel
theorem dd_Le_bringUp_26 : decode cc_Le_bringUp 26 = .ok (.goto (-23), 3) := by decide +kernel
theorem dd_Le_bringUp_29 : decode cc_Le_bringUp 29 = .ok (.return_, 1) := by decide +kernel
theorem dd_Le_new_0 : decode cc_Le_new 0 = .ok (.aload_n 0, 1) := by decide +kernel
theorem dd_Le_new_1 : decode cc_Le_new 1 = .ok (.invokespecial 3, 3) := by decide +kernel
theorem dd_Le_new_4 : decode cc_Le_new 4 = .ok (.aload_n 0, 1) := by decide +kernel
theorem dd_Le_new_5 : decode cc_Le_new 5 = .ok (.iconst 0, 1) := by decide +kernel
theorem dd_Le_new_6 : decode cc_Le_new 6 = .ok (.putfield 9, 3) := by decide +kernel
theorem dd_Le_new_9 : decode cc_Le_new 9 = .ok (.aload_n 0, 1) := by decide +kernel
theorem dd_Le_new_10 : decode cc_Le_new 10 = .ok (.iconst 1, 1) := by decide +kernel
theorem dd_Le_new_11 : decode cc_Le_new 11 = .ok (.putfield 15, 3) := by decide +kernel
theorem dd_Le_new_14 : decode cc_Le_new 14 = .ok (.aload_n 0, 1) := by decide +kernel
theorem dd_Le_new_15 : decode cc_Le_new 15 = .ok (.bipush 40, 2) := by decide +kernel
theorem dd_Le_new_17 : decode cc_Le_new 17 = .ok (.newarray .int, 2) := by decide +kernel
theorem dd_Le_new_19 : decode cc_Le_new 19 = .ok (.putfield 19, 3) := by decide +kernel
theorem dd_Le_new_22 : decode cc_Le_new 22 = .ok (.aload_n 0, 1) := by decide +kernel
theorem dd_Le_new_23 : decode cc_Le_new 23 = .ok (.sipush 1600, 3) := by decide +kernel
theorem dd_Le_new_26 : decode cc_Le_new 26 = .ok (.newarray .int, 2) := by decide +kernel
theorem dd_Le_new_28 : decode cc_Le_new 28 = .ok (.putfield 23, 3) := by decide +kernel
theorem dd_Le_new_31 : decode cc_Le_new 31 = .ok (.aload_n 0, 1) := by decide +kernel
theorem dd_Le_new_32 : decode cc_Le_new 32 = .ok (.bipush 40, 2) := by decide +kernel
theorem dd_Le_new_34 : decode cc_Le_new 34 = .ok (.newarray .int, 2) := by decide +kernel
theorem dd_Le_new_36 : decode cc_Le_new 36 = .ok (.putfield 26, 3) := by decide +kernel
theorem dd_Le_new_39 : decode cc_Le_new 39 = .ok (.aload_n 0, 1) := by decide +kernel
theorem dd_Le_new_40 : decode cc_Le_new 40 = .ok (.bipush 40, 2) := by decide +kernel
theorem dd_Le_new_42 : decode cc_Le_new 42 = .ok (.newarray .int, 2) := by decide +kernel
theorem dd_Le_new_44 : decode cc_Le_new 44 = .ok (.putfield 29, 3) := by decide +kernel
theorem dd_Le_new_47 : decode cc_Le_new 47 = .ok (.return_, 1) := by decide +kernel
