theorem dd_Od_draw_0 : decode cc_Od_draw 0 = .ok (.iconst 0, 1) := by decide +kernel
theorem dd_Od_draw_1 : decode cc_Od_draw 1 = .ok (.istore_n 3, 1) := by decide +kernel
theorem dd_Od_draw_2 : decode cc_Od_draw 2 = .ok (.iload_n 3, 1) := by decide +kernel
theorem dd_Od_draw_3 : decode cc_Od_draw 3 = .ok (.iload_n 2, 1) := by decide +kernel
theorem dd_Od_draw_4 : decode cc_Od_draw 4 = .ok (.if_icmp .ge 16, 3) := by decide +kernel
theorem dd_Od_draw_7 : decode cc_Od_draw 7 = .ok (.aload_n 0, 1) := by decide +kernel
theorem dd_Od_draw_8 : decode cc_Od_draw 8 = .ok (.getfield 15, 3) := by decide +kernel
theorem dd_Od_draw_11 : decode cc_Od_draw 11 = .ok (.iload_n 3, 1) := by decide +kernel
theorem dd_Od_draw_12 : decode cc_Od_draw 12 = .ok (.iload_n 3, 1) := by decide +kernel
theorem dd_Od_draw_13 : decode cc_Od_draw 13 = .ok (.iastore, 1) := by decide +kernel
theorem dd_Od_draw_14 : decode cc_Od_draw 14 = .ok (.iinc 3 1, 3) := by decide +kernel
theorem dd_Od_draw_17 : decode cc_Od_draw 17 = .ok (.goto (-15), 3) := by decide +kernel
theorem dd_Od_draw_20 : decode cc_Od_draw 20 = .ok (.iload_n 1, 1) := by decide +kernel
theorem dd_Od_draw_21 : decode cc_Od_draw 21 = .ok (.istore_n 3, 1) := by decide +kernel
theorem dd_Od_draw_22 : decode cc_Od_draw 22 = .ok (.iload_n 2, 1) := by decide +kernel
theorem dd_Od_draw_23 : decode cc_Od_draw 23 = .ok (.istore 4, 2) := by decide +kernel
theorem dd_Od_draw_25 : decode cc_Od_draw 25 = .ok (.iload 4, 2) := by decide +kernel
theorem dd_Od_draw_27 : decode cc_Od_draw 27 = .ok (.ifCond .le 71, 3) := by decide +kernel
theorem dd_Od_draw_30 : decode cc_Od_draw 30 = .ok (.iload_n 3, 1) := by decide +kernel
theorem dd_Od_draw_31 : decode cc_Od_draw 31 = .ok (.ldc 18, 2) := by decide +kernel
theorem dd_Od_draw_33 : decode cc_Od_draw 33 = .ok (.imul, 1) := by decide +kernel
theorem dd_Od_draw_34 : decode cc_Od_draw 34 = .ok (.sipush 12345, 3) := by decide +kernel
theorem dd_Od_draw_37 : decode cc_Od_draw 37 = .ok (.iadd, 1) := by decide +kernel
theorem dd_Od_draw_38 : decode cc_Od_draw 38 = .ok (.istore_n 3, 1) := by decide +kernel
theorem dd_Od_draw_39 : decode cc_Od_draw 39 = .ok (.iload_n 3, 1) := by decide +kernel
theorem dd_Od_draw_40 : decode cc_Od_draw 40 = .ok (.bipush 16, 2) := by decide +kernel
theorem dd_Od_draw_42 : decode cc_Od_draw 42 = .ok (.iushr, 1) := by decide +kernel
theorem dd_Od_draw_43 : decode cc_Od_draw 43 = .ok (.sipush 32767, 3) := by decide +kernel
theorem dd_Od_draw_46 : decode cc_Od_draw 46 = .ok (.iand, 1) := by decide +kernel
theorem dd_Od_draw_47 : decode cc_Od_draw 47 = .ok (.iload 4, 2) := by decide +kernel
theorem dd_Od_draw_49 : decode cc_Od_draw 49 = .ok (.irem, 1) := by decide +kernel
theorem dd_Od_draw_50 : decode cc_Od_draw 50 = .ok (.istore 5, 2) := by decide +kernel
theorem dd_Od_draw_52 : decode cc_Od_draw 52 = .ok (.aload_n 0, 1) := by decide +kernel
theorem dd_Od_draw_53 : decode cc_Od_draw 53 = .ok (.getfield 9, 3) := by decide +kernel
theorem dd_Od_draw_56 : decode cc_Od_draw 56 = .ok (.iload_n 2, 1) := by decide +kernel
theorem dd_Od_draw_57 : decode cc_Od_draw 57 = .ok (.iload 4, 2) := by decide +kernel
theorem dd_Od_draw_59 : decode cc_Od_draw 59 = .ok (.isub, 1) := by decide +kernel
theorem dd_Od_draw_60 : decode cc_Od_draw 60 = .ok (.aload_n 0, 1) := by decide +kernel
theorem dd_Od_draw_61 : decode cc_Od_draw 61 = .ok (.getfield 15, 3) := by decide +kernel
theorem dd_Od_draw_64 : decode cc_Od_draw 64 = .ok (.iload 5, 2) := by decide +kernel
theorem dd_Od_draw_66 : decode cc_Od_draw 66 = .ok (.iaload, 1) := by decide +kernel
theorem dd_Od_draw_67 : decode cc_Od_draw 67 = .ok (.iastore, 1) := by decide +kernel
theorem dd_Od_draw_68 : decode cc_Od_draw 68 = .ok (.aload_n 0, 1) := by decide +kernel
theorem dd_Od_draw_69 : decode cc_Od_draw 69 = .ok (.getfield 15, 3) := by decide +kernel
theorem dd_Od_draw_72 : decode cc_Od_draw 72 = .ok (.iload 5, 2) := by decide +kernel
theorem dd_Od_draw_74 : decode cc_Od_draw 74 = .ok (.iconst 1, 1) := by decide +kernel
theorem dd_Od_draw_75 : decode cc_Od_draw 75 = .ok (.iadd, 1) := by decide +kernel
theorem dd_Od_draw_76 : decode cc_Od_draw 76 = .ok (.aload_n 0, 1) := by decide +kernel
theorem dd_Od_draw_77 : decode cc_Od_draw 77 = .ok (.getfield 15, 3) := by decide +kernel
theorem dd_Od_draw_80 : decode cc_Od_draw 80 = .ok (.iload 5, 2) := by decide +kernel
theorem dd_Od_draw_82 : decode cc_Od_draw 82 = .ok (.iload 4, 2) := by decide +kernel
theorem dd_Od_draw_84 : decode cc_Od_draw 84 = .ok (.iconst 1, 1) := by decide +kernel
theorem dd_Od_draw_85 : decode cc_Od_draw 85 = .ok (.isub, 1) := by decide +kernel
theorem dd_Od_draw_86 : decode cc_Od_draw 86 = .ok (.iload 5, 2) := by decide +kernel
theorem dd_Od_draw_88 : decode cc_Od_draw 88 = .ok (.isub, 1) := by decide +kernel
theorem dd_Od_draw_89 : decode cc_Od_draw 89 = .ok (.invokestatic 19, 3) := by decide +kernel
theorem dd_Od_draw_92 : decode cc_Od_draw 92 = .ok (.iinc 4 (-1), 3) := by decide +kernel
theorem dd_Od_draw_95 : decode cc_Od_draw 95 = .ok (.goto (-70), 3) := by decide +kernel
theorem dd_Od_draw_98 : decode cc_Od_draw 98 = .ok (.return_, 1) := by decide +kernel
theorem dd_Od_new_0 : decode cc_Od_new 0 = .ok (.aload_n 0, 1) := by decide +kernel
theorem dd_Od_new_1 : decode cc_Od_new 1 = .ok (.invokespecial 3, 3) := by decide +kernel
theorem dd_Od_new_4 : decode cc_Od_new 4 = .ok (.aload_n 0, 1) := by decide +kernel
theorem dd_Od_new_5 : decode cc_Od_new 5 = .ok (.bipush 40, 2) := by decide +kernel
theorem dd_Od_new_7 : decode cc_Od_new 7 = .ok (.newarray .int, 2) := by decide +kernel
theorem dd_Od_new_9 : decode cc_Od_new 9 = .ok (.putfield 9, 3) := by decide +kernel
theorem dd_Od_new_12 : decode cc_Od_new 12 = .ok (.aload_n 0, 1) := by decide +kernel
theorem dd_Od_new_13 : decode cc_Od_new 13 = .ok (.bipush 40, 2) := by decide +kernel
theorem dd_Od_new_15 : decode cc_Od_new 15 = .ok (.newarray .int, 2) := by decide +kernel
theorem dd_Od_new_17 : decode cc_Od_new 17 = .ok (.putfield 15, 3) := by decide +kernel
theorem dd_Od_new_20 : decode cc_Od_new 20 = .ok (.return_, 1) := by decide +kernel
