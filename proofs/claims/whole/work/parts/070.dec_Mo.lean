theorem dd_Mo_keepBest_0 : decode cc_Mo_keepBest 0 = .ok (.aload_n 1, 1) := by decide +kernel
theorem dd_Mo_keepBest_1 : decode cc_Mo_keepBest 1 = .ok (.getfield 70, 3) := by decide +kernel
theorem dd_Mo_keepBest_4 : decode cc_Mo_keepBest 4 = .ok (.iconst 0, 1) := by decide +kernel
theorem dd_Mo_keepBest_5 : decode cc_Mo_keepBest 5 = .ok (.aload_n 0, 1) := by decide +kernel
theorem dd_Mo_keepBest_6 : decode cc_Mo_keepBest 6 = .ok (.getfield 15, 3) := by decide +kernel
theorem dd_Mo_keepBest_9 : decode cc_Mo_keepBest 9 = .ok (.iconst 0, 1) := by decide +kernel
theorem dd_Mo_keepBest_10 : decode cc_Mo_keepBest 10 = .ok (.bipush 40, 2) := by decide +kernel
theorem dd_Mo_keepBest_12 : decode cc_Mo_keepBest 12 = .ok (.invokestatic 73, 3) := by decide +kernel
theorem dd_Mo_keepBest_15 : decode cc_Mo_keepBest 15 = .ok (.aload_n 0, 1) := by decide +kernel
theorem dd_Mo_keepBest_16 : decode cc_Mo_keepBest 16 = .ok (.aload_n 1, 1) := by decide +kernel
theorem dd_Mo_keepBest_17 : decode cc_Mo_keepBest 17 = .ok (.getfield 79, 3) := by decide +kernel
theorem dd_Mo_keepBest_20 : decode cc_Mo_keepBest 20 = .ok (.putfield 19, 3) := by decide +kernel
theorem dd_Mo_keepBest_23 : decode cc_Mo_keepBest 23 = .ok (.aload_n 0, 1) := by decide +kernel
theorem dd_Mo_keepBest_24 : decode cc_Mo_keepBest 24 = .ok (.aload_n 1, 1) := by decide +kernel
theorem dd_Mo_keepBest_25 : decode cc_Mo_keepBest 25 = .ok (.getfield 82, 3) := by decide +kernel
theorem dd_Mo_keepBest_28 : decode cc_Mo_keepBest 28 = .ok (.putfield 23, 3) := by decide +kernel
theorem dd_Mo_keepBest_31 : decode cc_Mo_keepBest 31 = .ok (.return_, 1) := by decide +kernel
theorem dd_Mo_weigh_0 : decode cc_Mo_weigh 0 = .ok (.aload_n 1, 1) := by decide +kernel
theorem dd_Mo_weigh_1 : decode cc_Mo_weigh 1 = .ok (.iload_n 2, 1) := by decide +kernel
theorem dd_Mo_weigh_2 : decode cc_Mo_weigh 2 = .ok (.iload_n 3, 1) := by decide +kernel
theorem dd_Mo_weigh_3 : decode cc_Mo_weigh 3 = .ok (.invokevirtual 98, 3) := by decide +kernel
theorem dd_Mo_weigh_6 : decode cc_Mo_weigh 6 = .ok (.istore 4, 2) := by decide +kernel
theorem dd_Mo_weigh_8 : decode cc_Mo_weigh 8 = .ok (.aload_n 1, 1) := by decide +kernel
theorem dd_Mo_weigh_9 : decode cc_Mo_weigh 9 = .ok (.iload_n 2, 1) := by decide +kernel
theorem dd_Mo_weigh_10 : decode cc_Mo_weigh 10 = .ok (.iload_n 3, 1) := by decide +kernel
theorem dd_Mo_weigh_11 : decode cc_Mo_weigh 11 = .ok (.invokevirtual 102, 3) := by decide +kernel
theorem dd_Mo_weigh_14 : decode cc_Mo_weigh 14 = .ok (.istore 5, 2) := by decide +kernel
theorem dd_Mo_weigh_16 : decode cc_Mo_weigh 16 = .ok (.aload_n 0, 1) := by decide +kernel
theorem dd_Mo_weigh_17 : decode cc_Mo_weigh 17 = .ok (.getfield 26, 3) := by decide +kernel
theorem dd_Mo_weigh_20 : decode cc_Mo_weigh 20 = .ok (.iconst (-1), 1) := by decide +kernel
theorem dd_Mo_weigh_21 : decode cc_Mo_weigh 21 = .ok (.if_icmp .eq 12, 3) := by decide +kernel
theorem dd_Mo_weigh_24 : decode cc_Mo_weigh 24 = .ok (.iload 5, 2) := by decide +kernel
theorem dd_Mo_weigh_26 : decode cc_Mo_weigh 26 = .ok (.aload_n 0, 1) := by decide +kernel
theorem dd_Mo_weigh_27 : decode cc_Mo_weigh 27 = .ok (.getfield 35, 3) := by decide +kernel
theorem dd_Mo_weigh_30 : decode cc_Mo_weigh 30 = .ok (.if_icmp .le 7, 3) := by decide +kernel
theorem dd_Mo_weigh_33 : decode cc_Mo_weigh 33 = .ok (.iconst 1, 1) := by decide +kernel
theorem dd_Mo_weigh_34 : decode cc_Mo_weigh 34 = .ok (.goto 4, 3) := by decide +kernel
theorem dd_Mo_weigh_37 : decode cc_Mo_weigh 37 = .ok (.iconst 0, 1) := by decide +kernel
theorem dd_Mo_weigh_38 : decode cc_Mo_weigh 38 = .ok (.istore 6, 2) := by decide +kernel
theorem dd_Mo_weigh_40 : decode cc_Mo_weigh 40 = .ok (.iload 4, 2) := by decide +kernel
theorem dd_Mo_weigh_42 : decode cc_Mo_weigh 42 = .ok (.aload_n 0, 1) := by decide +kernel
theorem dd_Mo_weigh_43 : decode cc_Mo_weigh 43 = .ok (.getfield 32, 3) := by decide +kernel
theorem dd_Mo_weigh_46 : decode cc_Mo_weigh 46 = .ok (.if_icmp .lt 17, 3) := by decide +kernel
theorem dd_Mo_weigh_49 : decode cc_Mo_weigh 49 = .ok (.iload 4, 2) := by decide +kernel
theorem dd_Mo_weigh_51 : decode cc_Mo_weigh 51 = .ok (.aload_n 0, 1) := by decide +kernel
theorem dd_Mo_weigh_52 : decode cc_Mo_weigh 52 = .ok (.getfield 32, 3) := by decide +kernel
theorem dd_Mo_weigh_55 : decode cc_Mo_weigh 55 = .ok (.if_icmp .ne 30, 3) := by decide +kernel
theorem dd_Mo_weigh_58 : decode cc_Mo_weigh 58 = .ok (.iload 6, 2) := by decide +kernel
theorem dd_Mo_weigh_60 : decode cc_Mo_weigh 60 = .ok (.ifCond .eq 25, 3) := by decide +kernel
theorem dd_Mo_weigh_63 : decode cc_Mo_weigh 63 = .ok (.aload_n 0, 1) := by decide +kernel
theorem dd_Mo_weigh_64 : decode cc_Mo_weigh 64 = .ok (.iload_n 2, 1) := by decide +kernel
theorem dd_Mo_weigh_65 : decode cc_Mo_weigh 65 = .ok (.putfield 26, 3) := by decide +kernel
theorem dd_Mo_weigh_68 : decode cc_Mo_weigh 68 = .ok (.aload_n 0, 1) := by decide +kernel
theorem dd_Mo_weigh_69 : decode cc_Mo_weigh 69 = .ok (.iload_n 3, 1) := by decide +kernel
theorem dd_Mo_weigh_70 : decode cc_Mo_weigh 70 = .ok (.putfield 29, 3) := by decide +kernel
theorem dd_Mo_weigh_73 : decode cc_Mo_weigh 73 = .ok (.aload_n 0, 1) := by decide +kernel
theorem dd_Mo_weigh_74 : decode cc_Mo_weigh 74 = .ok (.iload 4, 2) := by decide +kernel
theorem dd_Mo_weigh_76 : decode cc_Mo_weigh 76 = .ok (.putfield 32, 3) := by decide +kernel
theorem dd_Mo_weigh_79 : decode cc_Mo_weigh 79 = .ok (.aload_n 0, 1) := by decide +kernel
theorem dd_Mo_weigh_80 : decode cc_Mo_weigh 80 = .ok (.iload 5, 2) := by decide +kernel
theorem dd_Mo_weigh_82 : decode cc_Mo_weigh 82 = .ok (.putfield 35, 3) := by decide +kernel
theorem dd_Mo_weigh_85 : decode cc_Mo_weigh 85 = .ok (.return_, 1) := by decide +kernel
theorem dd_Mo_findNext_0 : decode cc_Mo_findNext 0 = .ok (.aload_n 0, 1) := by decide +kernel
theorem dd_Mo_findNext_1 : decode cc_Mo_findNext 1 = .ok (.iconst (-1), 1) := by decide +kernel
theorem dd_Mo_findNext_2 : decode cc_Mo_findNext 2 = .ok (.putfield 26, 3) := by decide +kernel
theorem dd_Mo_findNext_5 : decode cc_Mo_findNext 5 = .ok (.aload_n 0, 1) := by decide +kernel
theorem dd_Mo_findNext_6 : decode cc_Mo_findNext 6 = .ok (.aload_n 1, 1) := by decide +kernel
theorem dd_Mo_findNext_7 : decode cc_Mo_findNext 7 = .ok (.getfield 79, 3) := by decide +kernel
theorem dd_Mo_findNext_10 : decode cc_Mo_findNext 10 = .ok (.putfield 32, 3) := by decide +kernel
theorem dd_Mo_findNext_13 : decode cc_Mo_findNext 13 = .ok (.aload_n 0, 1) := by decide +kernel
theorem dd_Mo_findNext_14 : decode cc_Mo_findNext 14 = .ok (.iconst 0, 1) := by decide +kernel
theorem dd_Mo_findNext_15 : decode cc_Mo_findNext 15 = .ok (.putfield 35, 3) := by decide +kernel
theorem dd_Mo_findNext_18 : decode cc_Mo_findNext 18 = .ok (.iconst 0, 1) := by decide +kernel
theorem dd_Mo_findNext_19 : decode cc_Mo_findNext 19 = .ok (.istore_n 2, 1) := by decide +kernel
theorem dd_Mo_findNext_20 : decode cc_Mo_findNext 20 = .ok (.iload_n 2, 1) := by decide +kernel
theorem dd_Mo_findNext_21 : decode cc_Mo_findNext 21 = .ok (.aload_n 1, 1) := by decide +kernel
theorem dd_Mo_findNext_22 : decode cc_Mo_findNext 22 = .ok (.getfield 51, 3) := by decide +kernel
theorem dd_Mo_findNext_25 : decode cc_Mo_findNext 25 = .ok (.getfield 55, 3) := by decide +kernel
theorem dd_Mo_findNext_28 : decode cc_Mo_findNext 28 = .ok (.if_icmp .ge 54, 3) := by decide +kernel
theorem dd_Mo_findNext_31 : decode cc_Mo_findNext 31 = .ok (.iconst 0, 1) := by decide +kernel
theorem dd_Mo_findNext_32 : decode cc_Mo_findNext 32 = .ok (.istore_n 3, 1) := by decide +kernel
theorem dd_Mo_findNext_33 : decode cc_Mo_findNext 33 = .ok (.aload_n 0, 1) := by decide +kernel
theorem dd_Mo_findNext_34 : decode cc_Mo_findNext 34 = .ok (.getfield 9, 3) := by decide +kernel
theorem dd_Mo_findNext_37 : decode cc_Mo_findNext 37 = .ok (.iload_n 2, 1) := by decide +kernel
theorem dd_Mo_findNext_38 : decode cc_Mo_findNext 38 = .ok (.baload, 1) := by decide +kernel
theorem dd_Mo_findNext_39 : decode cc_Mo_findNext 39 = .ok (.ifCond .eq 37, 3) := by decide +kernel
theorem dd_Mo_findNext_42 : decode cc_Mo_findNext 42 = .ok (.iload_n 3, 1) := by decide +kernel
theorem dd_Mo_findNext_43 : decode cc_Mo_findNext 43 = .ok (.aload_n 1, 1) := by decide +kernel
theorem dd_Mo_findNext_44 : decode cc_Mo_findNext 44 = .ok (.getfield 85, 3) := by decide +kernel
theorem dd_Mo_findNext_47 : decode cc_Mo_findNext 47 = .ok (.getfield 89, 3) := by decide +kernel
theorem dd_Mo_findNext_50 : decode cc_Mo_findNext 50 = .ok (.if_icmp .ge 26, 3) := by decide +kernel
theorem dd_Mo_findNext_53 : decode cc_Mo_findNext 53 = .ok (.iload_n 3, 1) := by decide +kernel
theorem dd_Mo_findNext_54 : decode cc_Mo_findNext 54 = .ok (.aload_n 1, 1) := by decide +kernel
theorem dd_Mo_findNext_55 : decode cc_Mo_findNext 55 = .ok (.getfield 70, 3) := by decide +kernel
theorem dd_Mo_findNext_58 : decode cc_Mo_findNext 58 = .ok (.iload_n 2, 1) := by decide +kernel
theorem dd_Mo_findNext_59 : decode cc_Mo_findNext 59 = .ok (.iaload, 1) := by decide +kernel
theorem dd_Mo_findNext_60 : decode cc_Mo_findNext 60 = .ok (.if_icmp .eq 10, 3) := by decide +kernel
theorem dd_Mo_findNext_63 : decode cc_Mo_findNext 63 = .ok (.aload_n 0, 1) := by decide +kernel
theorem dd_Mo_findNext_64 : decode cc_Mo_findNext 64 = .ok (.aload_n 1, 1) := by decide +kernel
theorem dd_Mo_findNext_65 : decode cc_Mo_findNext 65 = .ok (.iload_n 2, 1) := by decide +kernel
theorem dd_Mo_findNext_66 : decode cc_Mo_findNext 66 = .ok (.iload_n 3, 1) := by decide +kernel
theorem dd_Mo_findNext_67 : decode cc_Mo_findNext 67 = .ok (.invokevirtual 94, 3) := by decide +kernel
theorem dd_Mo_findNext_70 : decode cc_Mo_findNext 70 = .ok (.iinc 3 1, 3) := by decide +kernel
theorem dd_Mo_findNext_73 : decode cc_Mo_findNext 73 = .ok (.goto (-40), 3) := by decide +kernel
theorem dd_Mo_findNext_76 : decode cc_Mo_findNext 76 = .ok (.iinc 2 1, 3) := by decide +kernel
theorem dd_Mo_findNext_79 : decode cc_Mo_findNext 79 = .ok (.goto (-59), 3) := by decide +kernel
theorem dd_Mo_findNext_82 : decode cc_Mo_findNext 82 = .ok (.aload_n 0, 1) := by decide +kernel
theorem dd_Mo_findNext_83 : decode cc_Mo_findNext 83 = .ok (.getfield 26, 3) := by decide +kernel
theorem dd_Mo_findNext_86 : decode cc_Mo_findNext 86 = .ok (.iconst (-1), 1) := by decide +kernel
theorem dd_Mo_findNext_87 : decode cc_Mo_findNext 87 = .ok (.if_icmp .eq 7, 3) := by decide +kernel
theorem dd_Mo_findNext_90 : decode cc_Mo_findNext 90 = .ok (.iconst 1, 1) := by decide +kernel
theorem dd_Mo_findNext_91 : decode cc_Mo_findNext 91 = .ok (.goto 4, 3) := by decide +kernel
theorem dd_Mo_findNext_94 : decode cc_Mo_findNext 94 = .ok (.iconst 0, 1) := by decide +kernel
theorem dd_Mo_findNext_95 : decode cc_Mo_findNext 95 = .ok (.ireturn, 1) := by decide +kernel
theorem dd_Mo_isBetter_0 : decode cc_Mo_isBetter 0 = .ok (.aload_n 1, 1) := by decide +kernel
theorem dd_Mo_isBetter_1 : decode cc_Mo_isBetter 1 = .ok (.getfield 79, 3) := by decide +kernel
theorem dd_Mo_isBetter_4 : decode cc_Mo_isBetter 4 = .ok (.aload_n 0, 1) := by decide +kernel
theorem dd_Mo_isBetter_5 : decode cc_Mo_isBetter 5 = .ok (.getfield 19, 3) := by decide +kernel
theorem dd_Mo_isBetter_8 : decode cc_Mo_isBetter 8 = .ok (.if_icmp .lt 25, 3) := by decide +kernel
theorem dd_Mo_isBetter_11 : decode cc_Mo_isBetter 11 = .ok (.aload_n 1, 1) := by decide +kernel
theorem dd_Mo_isBetter_12 : decode cc_Mo_isBetter 12 = .ok (.getfield 79, 3) := by decide +kernel
theorem dd_Mo_isBetter_15 : decode cc_Mo_isBetter 15 = .ok (.aload_n 0, 1) := by decide +kernel
theorem dd_Mo_isBetter_16 : decode cc_Mo_isBetter 16 = .ok (.getfield 19, 3) := by decide +kernel
theorem dd_Mo_isBetter_19 : decode cc_Mo_isBetter 19 = .ok (.if_icmp .ne 18, 3) := by decide +kernel
theorem dd_Mo_isBetter_22 : decode cc_Mo_isBetter 22 = .ok (.aload_n 1, 1) := by decide +kernel
theorem dd_Mo_isBetter_23 : decode cc_Mo_isBetter 23 = .ok (.getfield 82, 3) := by decide +kernel
theorem dd_Mo_isBetter_26 : decode cc_Mo_isBetter 26 = .ok (.aload_n 0, 1) := by decide +kernel
theorem dd_Mo_isBetter_27 : decode cc_Mo_isBetter 27 = .ok (.getfield 23, 3) := by decide +kernel
theorem dd_Mo_isBetter_30 : decode cc_Mo_isBetter 30 = .ok (.if_icmp .ge 7, 3) := by decide +kernel
theorem dd_Mo_isBetter_33 : decode cc_Mo_isBetter 33 = .ok (.iconst 1, 1) := by decide +kernel
theorem dd_Mo_isBetter_34 : decode cc_Mo_isBetter 34 = .ok (.goto 4, 3) := by decide +kernel
theorem dd_Mo_isBetter_37 : decode cc_Mo_isBetter 37 = .ok (.iconst 0, 1) := by decide +kernel
theorem dd_Mo_isBetter_38 : decode cc_Mo_isBetter 38 = .ok (.ireturn, 1) := by decide +kernel
theorem dd_Mo_doPass_0 : decode cc_Mo_doPass 0 = .ok (.aload_n 1, 1) := by decide +kernel
theorem dd_Mo_doPass_1 : decode cc_Mo_doPass 1 = .ok (.invokevirtual 42, 3) := by decide +kernel
theorem dd_Mo_doPass_4 : decode cc_Mo_doPass 4 = .ok (.iconst 0, 1) := by decide +kernel
theorem dd_Mo_doPass_5 : decode cc_Mo_doPass 5 = .ok (.istore_n 2, 1) := by decide +kernel
theorem dd_Mo_doPass_6 : decode cc_Mo_doPass 6 = .ok (.iload_n 2, 1) := by decide +kernel
theorem dd_Mo_doPass_7 : decode cc_Mo_doPass 7 = .ok (.bipush 40, 2) := by decide +kernel
theorem dd_Mo_doPass_9 : decode cc_Mo_doPass 9 = .ok (.if_icmp .ge 16, 3) := by decide +kernel
theorem dd_Mo_doPass_12 : decode cc_Mo_doPass 12 = .ok (.aload_n 0, 1) := by decide +kernel
theorem dd_Mo_doPass_13 : decode cc_Mo_doPass 13 = .ok (.getfield 9, 3) := by decide +kernel
theorem dd_Mo_doPass_16 : decode cc_Mo_doPass 16 = .ok (.iload_n 2, 1) := by decide +kernel
theorem dd_Mo_doPass_17 : decode cc_Mo_doPass 17 = .ok (.iconst 1, 1) := by decide +kernel
theorem dd_Mo_doPass_18 : decode cc_Mo_doPass 18 = .ok (.bastore, 1) := by decide +kernel
theorem dd_Mo_doPass_19 : decode cc_Mo_doPass 19 = .ok (.iinc 2 1, 3) := by decide +kernel
theorem dd_Mo_doPass_22 : decode cc_Mo_doPass 22 = .ok (.goto (-16), 3) := by decide +kernel
theorem dd_Mo_doPass_25 : decode cc_Mo_doPass 25 = .ok (.aload_n 0, 1) := by decide +kernel
theorem dd_Mo_doPass_26 : decode cc_Mo_doPass 26 = .ok (.aload_n 1, 1) := by decide +kernel
theorem dd_Mo_doPass_27 : decode cc_Mo_doPass 27 = .ok (.invokevirtual 47, 3) := by decide +kernel
theorem dd_Mo_doPass_30 : decode cc_Mo_doPass 30 = .ok (.iconst 0, 1) := by decide +kernel
theorem dd_Mo_doPass_31 : decode cc_Mo_doPass 31 = .ok (.istore_n 2, 1) := by decide +kernel
theorem dd_Mo_doPass_32 : decode cc_Mo_doPass 32 = .ok (.iconst 0, 1) := by decide +kernel
theorem dd_Mo_doPass_33 : decode cc_Mo_doPass 33 = .ok (.istore_n 3, 1) := by decide +kernel
theorem dd_Mo_doPass_34 : decode cc_Mo_doPass 34 = .ok (.iload_n 3, 1) := by decide +kernel
theorem dd_Mo_doPass_35 : decode cc_Mo_doPass 35 = .ok (.aload_n 1, 1) := by decide +kernel
theorem dd_Mo_doPass_36 : decode cc_Mo_doPass 36 = .ok (.getfield 51, 3) := by decide +kernel
theorem dd_Mo_doPass_39 : decode cc_Mo_doPass 39 = .ok (.getfield 55, 3) := by decide +kernel
theorem dd_Mo_doPass_42 : decode cc_Mo_doPass 42 = .ok (.if_icmp .ge 54, 3) := by decide +kernel
theorem dd_Mo_doPass_45 : decode cc_Mo_doPass 45 = .ok (.aload_n 0, 1) := by decide +kernel
theorem dd_Mo_doPass_46 : decode cc_Mo_doPass 46 = .ok (.aload_n 1, 1) := by decide +kernel
theorem dd_Mo_doPass_47 : decode cc_Mo_doPass 47 = .ok (.invokevirtual 60, 3) := by decide +kernel
theorem dd_Mo_doPass_50 : decode cc_Mo_doPass 50 = .ok (.ifCond .eq 46, 3) := by decide +kernel
theorem dd_Mo_doPass_53 : decode cc_Mo_doPass 53 = .ok (.aload_n 1, 1) := by decide +kernel
theorem dd_Mo_doPass_54 : decode cc_Mo_doPass 54 = .ok (.aload_n 0, 1) := by decide +kernel
theorem dd_Mo_doPass_55 : decode cc_Mo_doPass 55 = .ok (.getfield 26, 3) := by decide +kernel
theorem dd_Mo_doPass_58 : decode cc_Mo_doPass 58 = .ok (.aload_n 0, 1) := by decide +kernel
theorem dd_Mo_doPass_59 : decode cc_Mo_doPass 59 = .ok (.getfield 29, 3) := by decide +kernel
theorem dd_Mo_doPass_62 : decode cc_Mo_doPass 62 = .ok (.invokevirtual 63, 3) := by decide +kernel
theorem dd_Mo_doPass_65 : decode cc_Mo_doPass 65 = .ok (.aload_n 0, 1) := by decide +kernel
theorem dd_Mo_doPass_66 : decode cc_Mo_doPass 66 = .ok (.getfield 9, 3) := by decide +kernel
theorem dd_Mo_doPass_69 : decode cc_Mo_doPass 69 = .ok (.aload_n 0, 1) := by decide +kernel
theorem dd_Mo_doPass_70 : decode cc_Mo_doPass 70 = .ok (.getfield 26, 3) := by decide +kernel
theorem dd_Mo_doPass_73 : decode cc_Mo_doPass 73 = .ok (.iconst 0, 1) := by decide +kernel
theorem dd_Mo_doPass_74 : decode cc_Mo_doPass 74 = .ok (.bastore, 1) := by decide +kernel
theorem dd_Mo_doPass_75 : decode cc_Mo_doPass 75 = .ok (.aload_n 0, 1) := by decide +kernel
theorem dd_Mo_doPass_76 : decode cc_Mo_doPass 76 = .ok (.aload_n 1, 1) := by decide +kernel
theorem dd_Mo_doPass_77 : decode cc_Mo_doPass 77 = .ok (.invokevirtual 67, 3) := by decide +kernel
theorem dd_Mo_doPass_80 : decode cc_Mo_doPass 80 = .ok (.ifCond .eq 10, 3) := by decide +kernel
theorem dd_Mo_doPass_83 : decode cc_Mo_doPass 83 = .ok (.aload_n 0, 1) := by decide +kernel
theorem dd_Mo_doPass_84 : decode cc_Mo_doPass 84 = .ok (.aload_n 1, 1) := by decide +kernel
theorem dd_Mo_doPass_85 : decode cc_Mo_doPass 85 = .ok (.invokevirtual 47, 3) := by decide +kernel
theorem dd_Mo_doPass_88 : decode cc_Mo_doPass 88 = .ok (.iconst 1, 1) := by decide +kernel
theorem dd_Mo_doPass_89 : decode cc_Mo_doPass 89 = .ok (.istore_n 2, 1) := by decide +kernel
theorem dd_Mo_doPass_90 : decode cc_Mo_doPass 90 = .ok (.iinc 3 1, 3) := by decide +kernel
theorem dd_Mo_doPass_93 : decode cc_Mo_doPass 93 = .ok (.goto (-59), 3) := by decide +kernel
theorem dd_Mo_doPass_96 : decode cc_Mo_doPass 96 = .ok (.aload_n 0, 1) := by decide +kernel
theorem dd_Mo_doPass_97 : decode cc_Mo_doPass 97 = .ok (.getfield 15, 3) := by decide +kernel
theorem dd_Mo_doPass_100 : decode cc_Mo_doPass 100 = .ok (.iconst 0, 1) := by decide +kernel
theorem dd_Mo_doPass_101 : decode cc_Mo_doPass 101 = .ok (.aload_n 1, 1) := by decide +kernel
theorem dd_Mo_doPass_102 : decode cc_Mo_doPass 102 = .ok (.getfield 70, 3) := by decide +kernel
theorem dd_Mo_doPass_105 : decode cc_Mo_doPass 105 = .ok (.iconst 0, 1) := by decide +kernel
theorem dd_Mo_doPass_106 : decode cc_Mo_doPass 106 = .ok (.bipush 40, 2) := by decide +kernel
theorem dd_Mo_doPass_108 : decode cc_Mo_doPass 108 = .ok (.invokestatic 73, 3) := by decide +kernel
theorem dd_Mo_doPass_111 : decode cc_Mo_doPass 111 = .ok (.iload_n 2, 1) := by decide +kernel
theorem dd_Mo_doPass_112 : decode cc_Mo_doPass 112 = .ok (.ireturn, 1) := by decide +kernel
theorem dd_Mo_doMoves_0 : decode cc_Mo_doMoves 0 = .ok (.iconst 0, 1) := by decide +kernel
theorem dd_Mo_doMoves_1 : decode cc_Mo_doMoves 1 = .ok (.istore_n 2, 1) := by decide +kernel
theorem dd_Mo_doMoves_2 : decode cc_Mo_doMoves 2 = .ok (.iload_n 2, 1) := by decide +kernel
theorem dd_Mo_doMoves_3 : decode cc_Mo_doMoves 3 = .ok (.bipush 8, 2) := by decide +kernel
theorem dd_Mo_doMoves_5 : decode cc_Mo_doMoves 5 = .ok (.if_icmp .ge 17, 3) := by decide +kernel
theorem dd_Mo_doMoves_8 : decode cc_Mo_doMoves 8 = .ok (.aload_n 0, 1) := by decide +kernel
theorem dd_Mo_doMoves_9 : decode cc_Mo_doMoves 9 = .ok (.aload_n 1, 1) := by decide +kernel
theorem dd_Mo_doMoves_10 : decode cc_Mo_doMoves 10 = .ok (.invokevirtual 38, 3) := by decide +kernel
theorem dd_Mo_doMoves_13 : decode cc_Mo_doMoves 13 = .ok (.ifCond .eq 9, 3) := by decide +kernel
theorem dd_Mo_doMoves_16 : decode cc_Mo_doMoves 16 = .ok (.iinc 2 1, 3) := by decide +kernel
theorem dd_Mo_doMoves_19 : decode cc_Mo_doMoves 19 = .ok (.goto (-17), 3) := by decide +kernel
theorem dd_Mo_doMoves_22 : decode cc_Mo_doMoves 22 = .ok (.iload_n 2, 1) := by decide +kernel
theorem dd_Mo_doMoves_23 : decode cc_Mo_doMoves 23 = .ok (.ireturn, 1) := by decide +kernel
theorem dd_Mo_new_0 : decode cc_Mo_new 0 = .ok (.aload_n 0, 1) := by decide +kernel
theorem dd_Mo_new_1 : decode cc_Mo_new 1 = .ok (.invokespecial 3, 3) := by decide +kernel
theorem dd_Mo_new_4 : decode cc_Mo_new 4 = .ok (.aload_n 0, 1) := by decide +kernel
theorem dd_Mo_new_5 : decode cc_Mo_new 5 = .ok (.bipush 40, 2) := by decide +kernel
theorem dd_Mo_new_7 : decode cc_Mo_new 7 = .ok (.newarray .boolean, 2) := by decide +kernel
theorem dd_Mo_new_9 : decode cc_Mo_new 9 = .ok (.putfield 9, 3) := by decide +kernel
theorem dd_Mo_new_12 : decode cc_Mo_new 12 = .ok (.aload_n 0, 1) := by decide +kernel
theorem dd_Mo_new_13 : decode cc_Mo_new 13 = .ok (.bipush 40, 2) := by decide +kernel
theorem dd_Mo_new_15 : decode cc_Mo_new 15 = .ok (.newarray .int, 2) := by decide +kernel
theorem dd_Mo_new_17 : decode cc_Mo_new 17 = .ok (.putfield 15, 3) := by decide +kernel
theorem dd_Mo_new_20 : decode cc_Mo_new 20 = .ok (.aload_n 0, 1) := by decide +kernel
theorem dd_Mo_new_21 : decode cc_Mo_new 21 = .ok (.iconst 0, 1) := by decide +kernel
theorem dd_Mo_new_22 : decode cc_Mo_new 22 = .ok (.putfield 19, 3) := by decide +kernel
theorem dd_Mo_new_25 : decode cc_Mo_new 25 = .ok (.aload_n 0, 1) := by decide +kernel
theorem dd_Mo_new_26 : decode cc_Mo_new 26 = .ok (.iconst 0, 1) := by decide +kernel
theorem dd_Mo_new_27 : decode cc_Mo_new 27 = .ok (.putfield 23, 3) := by decide +kernel
theorem dd_Mo_new_30 : decode cc_Mo_new 30 = .ok (.aload_n 0, 1) := by decide +kernel
theorem dd_Mo_new_31 : decode cc_Mo_new 31 = .ok (.iconst (-1), 1) := by decide +kernel
theorem dd_Mo_new_32 : decode cc_Mo_new 32 = .ok (.putfield 26, 3) := by decide +kernel
theorem dd_Mo_new_35 : decode cc_Mo_new 35 = .ok (.aload_n 0, 1) := by decide +kernel
theorem dd_Mo_new_36 : decode cc_Mo_new 36 = .ok (.iconst (-1), 1) := by decide +kernel
theorem dd_Mo_new_37 : decode cc_Mo_new 37 = .ok (.putfield 29, 3) := by decide +kernel
theorem dd_Mo_new_40 : decode cc_Mo_new 40 = .ok (.aload_n 0, 1) := by decide +kernel
theorem dd_Mo_new_41 : decode cc_Mo_new 41 = .ok (.iconst 0, 1) := by decide +kernel
theorem dd_Mo_new_42 : decode cc_Mo_new 42 = .ok (.putfield 32, 3) := by decide +kernel
theorem dd_Mo_new_45 : decode cc_Mo_new 45 = .ok (.aload_n 0, 1) := by decide +kernel
theorem dd_Mo_new_46 : decode cc_Mo_new 46 = .ok (.iconst 0, 1) := by decide +kernel
theorem dd_Mo_new_47 : decode cc_Mo_new 47 = .ok (.putfield 35, 3) := by decide +kernel
theorem dd_Mo_new_50 : decode cc_Mo_new 50 = .ok (.return_, 1) := by decide +kernel
