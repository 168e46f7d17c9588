theorem dd_Se_leastOver_0 : decode cc_Se_leastOver 0 = .ok (.iconst 0, 1) := by decide +kernel
theorem dd_Se_leastOver_1 : decode cc_Se_leastOver 1 = .ok (.istore_n 3, 1) := by decide +kernel
theorem dd_Se_leastOver_2 : decode cc_Se_leastOver 2 = .ok (.iconst 0, 1) := by decide +kernel
theorem dd_Se_leastOver_3 : decode cc_Se_leastOver 3 = .ok (.istore 4, 2) := by decide +kernel
theorem dd_Se_leastOver_5 : decode cc_Se_leastOver 5 = .ok (.iconst 0, 1) := by decide +kernel
theorem dd_Se_leastOver_6 : decode cc_Se_leastOver 6 = .ok (.istore 5, 2) := by decide +kernel
theorem dd_Se_leastOver_8 : decode cc_Se_leastOver 8 = .ok (.iload 5, 2) := by decide +kernel
theorem dd_Se_leastOver_10 : decode cc_Se_leastOver 10 = .ok (.aload_n 1, 1) := by decide +kernel
theorem dd_Se_leastOver_11 : decode cc_Se_leastOver 11 = .ok (.getfield 74, 3) := by decide +kernel
theorem dd_Se_leastOver_14 : decode cc_Se_leastOver 14 = .ok (.if_icmp .ge 55, 3) := by decide +kernel
theorem dd_Se_leastOver_17 : decode cc_Se_leastOver 17 = .ok (.iload_n 3, 1) := by decide +kernel
theorem dd_Se_leastOver_18 : decode cc_Se_leastOver 18 = .ok (.iconst 0, 1) := by decide +kernel
theorem dd_Se_leastOver_19 : decode cc_Se_leastOver 19 = .ok (.aload_n 1, 1) := by decide +kernel
theorem dd_Se_leastOver_20 : decode cc_Se_leastOver 20 = .ok (.getfield 83, 3) := by decide +kernel
theorem dd_Se_leastOver_23 : decode cc_Se_leastOver 23 = .ok (.iload 5, 2) := by decide +kernel
theorem dd_Se_leastOver_25 : decode cc_Se_leastOver 25 = .ok (.iaload, 1) := by decide +kernel
theorem dd_Se_leastOver_26 : decode cc_Se_leastOver 26 = .ok (.aload_n 0, 1) := by decide +kernel
theorem dd_Se_leastOver_27 : decode cc_Se_leastOver 27 = .ok (.getfield 18, 3) := by decide +kernel
theorem dd_Se_leastOver_30 : decode cc_Se_leastOver 30 = .ok (.iload 5, 2) := by decide +kernel
theorem dd_Se_leastOver_32 : decode cc_Se_leastOver 32 = .ok (.iaload, 1) := by decide +kernel
theorem dd_Se_leastOver_33 : decode cc_Se_leastOver 33 = .ok (.isub, 1) := by decide +kernel
theorem dd_Se_leastOver_34 : decode cc_Se_leastOver 34 = .ok (.invokestatic 86, 3) := by decide +kernel
theorem dd_Se_leastOver_37 : decode cc_Se_leastOver 37 = .ok (.iadd, 1) := by decide +kernel
theorem dd_Se_leastOver_38 : decode cc_Se_leastOver 38 = .ok (.istore_n 3, 1) := by decide +kernel
theorem dd_Se_leastOver_39 : decode cc_Se_leastOver 39 = .ok (.iload 4, 2) := by decide +kernel
theorem dd_Se_leastOver_41 : decode cc_Se_leastOver 41 = .ok (.iconst 0, 1) := by decide +kernel
theorem dd_Se_leastOver_42 : decode cc_Se_leastOver 42 = .ok (.aload_n 0, 1) := by decide +kernel
theorem dd_Se_leastOver_43 : decode cc_Se_leastOver 43 = .ok (.getfield 18, 3) := by decide +kernel
theorem dd_Se_leastOver_46 : decode cc_Se_leastOver 46 = .ok (.iload 5, 2) := by decide +kernel
theorem dd_Se_leastOver_48 : decode cc_Se_leastOver 48 = .ok (.iaload, 1) := by decide +kernel
theorem dd_Se_leastOver_49 : decode cc_Se_leastOver 49 = .ok (.aload_n 1, 1) := by decide +kernel
theorem dd_Se_leastOver_50 : decode cc_Se_leastOver 50 = .ok (.getfield 92, 3) := by decide +kernel
theorem dd_Se_leastOver_53 : decode cc_Se_leastOver 53 = .ok (.iload 5, 2) := by decide +kernel
theorem dd_Se_leastOver_55 : decode cc_Se_leastOver 55 = .ok (.iaload, 1) := by decide +kernel
theorem dd_Se_leastOver_56 : decode cc_Se_leastOver 56 = .ok (.isub, 1) := by decide +kernel
theorem dd_Se_leastOver_57 : decode cc_Se_leastOver 57 = .ok (.invokestatic 86, 3) := by decide +kernel
theorem dd_Se_leastOver_60 : decode cc_Se_leastOver 60 = .ok (.iadd, 1) := by decide +kernel
theorem dd_Se_leastOver_61 : decode cc_Se_leastOver 61 = .ok (.istore 4, 2) := by decide +kernel
theorem dd_Se_leastOver_63 : decode cc_Se_leastOver 63 = .ok (.iinc 5 1, 3) := by decide +kernel
theorem dd_Se_leastOver_66 : decode cc_Se_leastOver 66 = .ok (.goto (-58), 3) := by decide +kernel
theorem dd_Se_leastOver_69 : decode cc_Se_leastOver 69 = .ok (.iload 4, 2) := by decide +kernel
theorem dd_Se_leastOver_71 : decode cc_Se_leastOver 71 = .ok (.iconst 0, 1) := by decide +kernel
theorem dd_Se_leastOver_72 : decode cc_Se_leastOver 72 = .ok (.iload_n 3, 1) := by decide +kernel
theorem dd_Se_leastOver_73 : decode cc_Se_leastOver 73 = .ok (.iload_n 2, 1) := by decide +kernel
theorem dd_Se_leastOver_74 : decode cc_Se_leastOver 74 = .ok (.isub, 1) := by decide +kernel
theorem dd_Se_leastOver_75 : decode cc_Se_leastOver 75 = .ok (.invokestatic 86, 3) := by decide +kernel
theorem dd_Se_leastOver_78 : decode cc_Se_leastOver 78 = .ok (.iadd, 1) := by decide +kernel
theorem dd_Se_leastOver_79 : decode cc_Se_leastOver 79 = .ok (.ireturn, 1) := by decide +kernel
theorem dd_Se_cutBehind_0 : decode cc_Se_cutBehind 0 = .ok (.iconst 0, 1) := by decide +kernel
theorem dd_Se_cutBehind_1 : decode cc_Se_cutBehind 1 = .ok (.istore_n 3, 1) := by decide +kernel
theorem dd_Se_cutBehind_2 : decode cc_Se_cutBehind 2 = .ok (.iconst 0, 1) := by decide +kernel
theorem dd_Se_cutBehind_3 : decode cc_Se_cutBehind 3 = .ok (.istore 4, 2) := by decide +kernel
theorem dd_Se_cutBehind_5 : decode cc_Se_cutBehind 5 = .ok (.iload 4, 2) := by decide +kernel
theorem dd_Se_cutBehind_7 : decode cc_Se_cutBehind 7 = .ok (.iload_n 2, 1) := by decide +kernel
theorem dd_Se_cutBehind_8 : decode cc_Se_cutBehind 8 = .ok (.if_icmp .ge 35, 3) := by decide +kernel
theorem dd_Se_cutBehind_11 : decode cc_Se_cutBehind 11 = .ok (.aload_n 0, 1) := by decide +kernel
theorem dd_Se_cutBehind_12 : decode cc_Se_cutBehind 12 = .ok (.getfield 9, 3) := by decide +kernel
theorem dd_Se_cutBehind_15 : decode cc_Se_cutBehind 15 = .ok (.iload 4, 2) := by decide +kernel
theorem dd_Se_cutBehind_17 : decode cc_Se_cutBehind 17 = .ok (.iaload, 1) := by decide +kernel
theorem dd_Se_cutBehind_18 : decode cc_Se_cutBehind 18 = .ok (.aload_n 0, 1) := by decide +kernel
theorem dd_Se_cutBehind_19 : decode cc_Se_cutBehind 19 = .ok (.getfield 9, 3) := by decide +kernel
theorem dd_Se_cutBehind_22 : decode cc_Se_cutBehind 22 = .ok (.iload_n 2, 1) := by decide +kernel
theorem dd_Se_cutBehind_23 : decode cc_Se_cutBehind 23 = .ok (.iaload, 1) := by decide +kernel
theorem dd_Se_cutBehind_24 : decode cc_Se_cutBehind 24 = .ok (.if_icmp .eq 13, 3) := by decide +kernel
theorem dd_Se_cutBehind_27 : decode cc_Se_cutBehind 27 = .ok (.iload_n 3, 1) := by decide +kernel
theorem dd_Se_cutBehind_28 : decode cc_Se_cutBehind 28 = .ok (.aload_n 1, 1) := by decide +kernel
theorem dd_Se_cutBehind_29 : decode cc_Se_cutBehind 29 = .ok (.iload_n 2, 1) := by decide +kernel
theorem dd_Se_cutBehind_30 : decode cc_Se_cutBehind 30 = .ok (.iload 4, 2) := by decide +kernel
theorem dd_Se_cutBehind_32 : decode cc_Se_cutBehind 32 = .ok (.invokevirtual 95, 3) := by decide +kernel
theorem dd_Se_cutBehind_35 : decode cc_Se_cutBehind 35 = .ok (.iadd, 1) := by decide +kernel
theorem dd_Se_cutBehind_36 : decode cc_Se_cutBehind 36 = .ok (.istore_n 3, 1) := by decide +kernel
theorem dd_Se_cutBehind_37 : decode cc_Se_cutBehind 37 = .ok (.iinc 4 1, 3) := by decide +kernel
theorem dd_Se_cutBehind_40 : decode cc_Se_cutBehind 40 = .ok (.goto (-35), 3) := by decide +kernel
theorem dd_Se_cutBehind_43 : decode cc_Se_cutBehind 43 = .ok (.iload_n 3, 1) := by decide +kernel
theorem dd_Se_cutBehind_44 : decode cc_Se_cutBehind 44 = .ok (.ireturn, 1) := by decide +kernel
theorem dd_Se_tryFrom_0 : decode cc_Se_tryFrom 0 = .ok (.aload_n 0, 1) := by decide +kernel
theorem dd_Se_tryFrom_1 : decode cc_Se_tryFrom 1 = .ok (.aload_n 1, 1) := by decide +kernel
theorem dd_Se_tryFrom_2 : decode cc_Se_tryFrom 2 = .ok (.getfield 63, 3) := by decide +kernel
theorem dd_Se_tryFrom_5 : decode cc_Se_tryFrom 5 = .ok (.iload 4, 2) := by decide +kernel
theorem dd_Se_tryFrom_7 : decode cc_Se_tryFrom 7 = .ok (.invokevirtual 67, 3) := by decide +kernel
theorem dd_Se_tryFrom_10 : decode cc_Se_tryFrom 10 = .ok (.istore 5, 2) := by decide +kernel
theorem dd_Se_tryFrom_12 : decode cc_Se_tryFrom 12 = .ok (.iload 5, 2) := by decide +kernel
theorem dd_Se_tryFrom_14 : decode cc_Se_tryFrom 14 = .ok (.aload_n 0, 1) := by decide +kernel
theorem dd_Se_tryFrom_15 : decode cc_Se_tryFrom 15 = .ok (.getfield 22, 3) := by decide +kernel
theorem dd_Se_tryFrom_18 : decode cc_Se_tryFrom 18 = .ok (.if_icmp .gt 20, 3) := by decide +kernel
theorem dd_Se_tryFrom_21 : decode cc_Se_tryFrom 21 = .ok (.iload 5, 2) := by decide +kernel
theorem dd_Se_tryFrom_23 : decode cc_Se_tryFrom 23 = .ok (.aload_n 0, 1) := by decide +kernel
theorem dd_Se_tryFrom_24 : decode cc_Se_tryFrom 24 = .ok (.getfield 22, 3) := by decide +kernel
theorem dd_Se_tryFrom_27 : decode cc_Se_tryFrom 27 = .ok (.if_icmp .ne 12, 3) := by decide +kernel
theorem dd_Se_tryFrom_30 : decode cc_Se_tryFrom 30 = .ok (.iload_n 3, 1) := by decide +kernel
theorem dd_Se_tryFrom_31 : decode cc_Se_tryFrom 31 = .ok (.aload_n 0, 1) := by decide +kernel
theorem dd_Se_tryFrom_32 : decode cc_Se_tryFrom 32 = .ok (.getfield 26, 3) := by decide +kernel
theorem dd_Se_tryFrom_35 : decode cc_Se_tryFrom 35 = .ok (.if_icmp .lt 4, 3) := by decide +kernel
theorem dd_Se_tryFrom_38 : decode cc_Se_tryFrom 38 = .ok (.return_, 1) := by decide +kernel
theorem dd_Se_tryFrom_39 : decode cc_Se_tryFrom 39 = .ok (.iload_n 2, 1) := by decide +kernel
theorem dd_Se_tryFrom_40 : decode cc_Se_tryFrom 40 = .ok (.aload_n 1, 1) := by decide +kernel
theorem dd_Se_tryFrom_41 : decode cc_Se_tryFrom 41 = .ok (.getfield 35, 3) := by decide +kernel
theorem dd_Se_tryFrom_44 : decode cc_Se_tryFrom 44 = .ok (.getfield 54, 3) := by decide +kernel
theorem dd_Se_tryFrom_47 : decode cc_Se_tryFrom 47 = .ok (.if_icmp .ge 9, 3) := by decide +kernel
theorem dd_Se_tryFrom_50 : decode cc_Se_tryFrom 50 = .ok (.iload_n 2, 1) := by decide +kernel
theorem dd_Se_tryFrom_51 : decode cc_Se_tryFrom 51 = .ok (.bipush 16, 2) := by decide +kernel
theorem dd_Se_tryFrom_53 : decode cc_Se_tryFrom 53 = .ok (.if_icmp .lt 30, 3) := by decide +kernel
theorem dd_Se_tryFrom_56 : decode cc_Se_tryFrom 56 = .ok (.aload_n 0, 1) := by decide +kernel
theorem dd_Se_tryFrom_57 : decode cc_Se_tryFrom 57 = .ok (.getfield 9, 3) := by decide +kernel
theorem dd_Se_tryFrom_60 : decode cc_Se_tryFrom 60 = .ok (.iconst 0, 1) := by decide +kernel
theorem dd_Se_tryFrom_61 : decode cc_Se_tryFrom 61 = .ok (.aload_n 0, 1) := by decide +kernel
theorem dd_Se_tryFrom_62 : decode cc_Se_tryFrom 62 = .ok (.getfield 15, 3) := by decide +kernel
theorem dd_Se_tryFrom_65 : decode cc_Se_tryFrom 65 = .ok (.iconst 0, 1) := by decide +kernel
theorem dd_Se_tryFrom_66 : decode cc_Se_tryFrom 66 = .ok (.bipush 40, 2) := by decide +kernel
theorem dd_Se_tryFrom_68 : decode cc_Se_tryFrom 68 = .ok (.invokestatic 57, 3) := by decide +kernel
theorem dd_Se_tryFrom_71 : decode cc_Se_tryFrom 71 = .ok (.aload_n 0, 1) := by decide +kernel
theorem dd_Se_tryFrom_72 : decode cc_Se_tryFrom 72 = .ok (.iload 5, 2) := by decide +kernel
theorem dd_Se_tryFrom_74 : decode cc_Se_tryFrom 74 = .ok (.putfield 22, 3) := by decide +kernel
theorem dd_Se_tryFrom_77 : decode cc_Se_tryFrom 77 = .ok (.aload_n 0, 1) := by decide +kernel
theorem dd_Se_tryFrom_78 : decode cc_Se_tryFrom 78 = .ok (.iload_n 3, 1) := by decide +kernel
theorem dd_Se_tryFrom_79 : decode cc_Se_tryFrom 79 = .ok (.putfield 26, 3) := by decide +kernel
theorem dd_Se_tryFrom_82 : decode cc_Se_tryFrom 82 = .ok (.return_, 1) := by decide +kernel
theorem dd_Se_tryFrom_83 : decode cc_Se_tryFrom 83 = .ok (.aload_n 1, 1) := by decide +kernel
theorem dd_Se_tryFrom_84 : decode cc_Se_tryFrom 84 = .ok (.getfield 35, 3) := by decide +kernel
theorem dd_Se_tryFrom_87 : decode cc_Se_tryFrom 87 = .ok (.getfield 71, 3) := by decide +kernel
theorem dd_Se_tryFrom_90 : decode cc_Se_tryFrom 90 = .ok (.iload_n 2, 1) := by decide +kernel
theorem dd_Se_tryFrom_91 : decode cc_Se_tryFrom 91 = .ok (.iaload, 1) := by decide +kernel
theorem dd_Se_tryFrom_92 : decode cc_Se_tryFrom 92 = .ok (.istore 6, 2) := by decide +kernel
theorem dd_Se_tryFrom_94 : decode cc_Se_tryFrom 94 = .ok (.iconst 0, 1) := by decide +kernel
theorem dd_Se_tryFrom_95 : decode cc_Se_tryFrom 95 = .ok (.istore 7, 2) := by decide +kernel
theorem dd_Se_tryFrom_97 : decode cc_Se_tryFrom 97 = .ok (.iload 7, 2) := by decide +kernel
theorem dd_Se_tryFrom_99 : decode cc_Se_tryFrom 99 = .ok (.aload_n 1, 1) := by decide +kernel
theorem dd_Se_tryFrom_100 : decode cc_Se_tryFrom 100 = .ok (.getfield 63, 3) := by decide +kernel
theorem dd_Se_tryFrom_103 : decode cc_Se_tryFrom 103 = .ok (.getfield 74, 3) := by decide +kernel
theorem dd_Se_tryFrom_106 : decode cc_Se_tryFrom 106 = .ok (.if_icmp .ge 65, 3) := by decide +kernel
theorem dd_Se_tryFrom_109 : decode cc_Se_tryFrom 109 = .ok (.aload_n 0, 1) := by decide +kernel
theorem dd_Se_tryFrom_110 : decode cc_Se_tryFrom 110 = .ok (.getfield 9, 3) := by decide +kernel
theorem dd_Se_tryFrom_113 : decode cc_Se_tryFrom 113 = .ok (.iload_n 2, 1) := by decide +kernel
theorem dd_Se_tryFrom_114 : decode cc_Se_tryFrom 114 = .ok (.iload 7, 2) := by decide +kernel
theorem dd_Se_tryFrom_116 : decode cc_Se_tryFrom 116 = .ok (.iastore, 1) := by decide +kernel
theorem dd_Se_tryFrom_117 : decode cc_Se_tryFrom 117 = .ok (.aload_n 0, 1) := by decide +kernel
theorem dd_Se_tryFrom_118 : decode cc_Se_tryFrom 118 = .ok (.getfield 18, 3) := by decide +kernel
theorem dd_Se_tryFrom_121 : decode cc_Se_tryFrom 121 = .ok (.iload 7, 2) := by decide +kernel
theorem dd_Se_tryFrom_123 : decode cc_Se_tryFrom 123 = .ok (.dup2, 1) := by decide +kernel
theorem dd_Se_tryFrom_124 : decode cc_Se_tryFrom 124 = .ok (.iaload, 1) := by decide +kernel
theorem dd_Se_tryFrom_125 : decode cc_Se_tryFrom 125 = .ok (.iload 6, 2) := by decide +kernel
theorem dd_Se_tryFrom_127 : decode cc_Se_tryFrom 127 = .ok (.iadd, 1) := by decide +kernel
theorem dd_Se_tryFrom_128 : decode cc_Se_tryFrom 128 = .ok (.iastore, 1) := by decide +kernel
theorem dd_Se_tryFrom_129 : decode cc_Se_tryFrom 129 = .ok (.aload_n 0, 1) := by decide +kernel
theorem dd_Se_tryFrom_130 : decode cc_Se_tryFrom 130 = .ok (.aload_n 1, 1) := by decide +kernel
theorem dd_Se_tryFrom_131 : decode cc_Se_tryFrom 131 = .ok (.iload_n 2, 1) := by decide +kernel
theorem dd_Se_tryFrom_132 : decode cc_Se_tryFrom 132 = .ok (.iconst 1, 1) := by decide +kernel
theorem dd_Se_tryFrom_133 : decode cc_Se_tryFrom 133 = .ok (.iadd, 1) := by decide +kernel
theorem dd_Se_tryFrom_134 : decode cc_Se_tryFrom 134 = .ok (.iload_n 3, 1) := by decide +kernel
theorem dd_Se_tryFrom_135 : decode cc_Se_tryFrom 135 = .ok (.aload_n 0, 1) := by decide +kernel
theorem dd_Se_tryFrom_136 : decode cc_Se_tryFrom 136 = .ok (.aload_n 1, 1) := by decide +kernel
theorem dd_Se_tryFrom_137 : decode cc_Se_tryFrom 137 = .ok (.getfield 35, 3) := by decide +kernel
theorem dd_Se_tryFrom_140 : decode cc_Se_tryFrom 140 = .ok (.iload_n 2, 1) := by decide +kernel
theorem dd_Se_tryFrom_141 : decode cc_Se_tryFrom 141 = .ok (.invokevirtual 79, 3) := by decide +kernel
theorem dd_Se_tryFrom_144 : decode cc_Se_tryFrom 144 = .ok (.iadd, 1) := by decide +kernel
theorem dd_Se_tryFrom_145 : decode cc_Se_tryFrom 145 = .ok (.iload 4, 2) := by decide +kernel
theorem dd_Se_tryFrom_147 : decode cc_Se_tryFrom 147 = .ok (.iload 6, 2) := by decide +kernel
theorem dd_Se_tryFrom_149 : decode cc_Se_tryFrom 149 = .ok (.isub, 1) := by decide +kernel
theorem dd_Se_tryFrom_150 : decode cc_Se_tryFrom 150 = .ok (.invokevirtual 47, 3) := by decide +kernel
theorem dd_Se_tryFrom_153 : decode cc_Se_tryFrom 153 = .ok (.aload_n 0, 1) := by decide +kernel
theorem dd_Se_tryFrom_154 : decode cc_Se_tryFrom 154 = .ok (.getfield 18, 3) := by decide +kernel
theorem dd_Se_tryFrom_157 : decode cc_Se_tryFrom 157 = .ok (.iload 7, 2) := by decide +kernel
theorem dd_Se_tryFrom_159 : decode cc_Se_tryFrom 159 = .ok (.dup2, 1) := by decide +kernel
theorem dd_Se_tryFrom_160 : decode cc_Se_tryFrom 160 = .ok (.iaload, 1) := by decide +kernel
theorem dd_Se_tryFrom_161 : decode cc_Se_tryFrom 161 = .ok (.iload 6, 2) := by decide +kernel
theorem dd_Se_tryFrom_163 : decode cc_Se_tryFrom 163 = .ok (.isub, 1) := by decide +kernel
theorem dd_Se_tryFrom_164 : decode cc_Se_tryFrom 164 = .ok (.iastore, 1) := by decide +kernel
theorem dd_Se_tryFrom_165 : decode cc_Se_tryFrom 165 = .ok (.iinc 7 1, 3) := by decide +kernel
theorem dd_Se_tryFrom_168 : decode cc_Se_tryFrom 168 = .ok (.goto (-71), 3) := by decide +kernel
theorem dd_Se_tryFrom_171 : decode cc_Se_tryFrom 171 = .ok (.return_, 1) := by decide +kernel
theorem dd_Se_findBest_0 : decode cc_Se_findBest 0 = .ok (.aload_n 0, 1) := by decide +kernel
theorem dd_Se_findBest_1 : decode cc_Se_findBest 1 = .ok (.getfield 18, 3) := by decide +kernel
theorem dd_Se_findBest_4 : decode cc_Se_findBest 4 = .ok (.iconst 0, 1) := by decide +kernel
theorem dd_Se_findBest_5 : decode cc_Se_findBest 5 = .ok (.invokestatic 29, 3) := by decide +kernel
theorem dd_Se_findBest_8 : decode cc_Se_findBest 8 = .ok (.aload_n 0, 1) := by decide +kernel
theorem dd_Se_findBest_9 : decode cc_Se_findBest 9 = .ok (.ldc 21, 2) := by decide +kernel
theorem dd_Se_findBest_11 : decode cc_Se_findBest 11 = .ok (.putfield 22, 3) := by decide +kernel
theorem dd_Se_findBest_14 : decode cc_Se_findBest 14 = .ok (.aload_n 0, 1) := by decide +kernel
theorem dd_Se_findBest_15 : decode cc_Se_findBest 15 = .ok (.ldc 21, 2) := by decide +kernel
theorem dd_Se_findBest_17 : decode cc_Se_findBest 17 = .ok (.putfield 26, 3) := by decide +kernel
theorem dd_Se_findBest_20 : decode cc_Se_findBest 20 = .ok (.aload_n 0, 1) := by decide +kernel
theorem dd_Se_findBest_21 : decode cc_Se_findBest 21 = .ok (.aload_n 1, 1) := by decide +kernel
theorem dd_Se_findBest_22 : decode cc_Se_findBest 22 = .ok (.iconst 0, 1) := by decide +kernel
theorem dd_Se_findBest_23 : decode cc_Se_findBest 23 = .ok (.iconst 0, 1) := by decide +kernel
theorem dd_Se_findBest_24 : decode cc_Se_findBest 24 = .ok (.aload_n 1, 1) := by decide +kernel
theorem dd_Se_findBest_25 : decode cc_Se_findBest 25 = .ok (.getfield 35, 3) := by decide +kernel
theorem dd_Se_findBest_28 : decode cc_Se_findBest 28 = .ok (.invokevirtual 41, 3) := by decide +kernel
theorem dd_Se_findBest_31 : decode cc_Se_findBest 31 = .ok (.invokevirtual 47, 3) := by decide +kernel
theorem dd_Se_findBest_34 : decode cc_Se_findBest 34 = .ok (.aload_n 0, 1) := by decide +kernel
theorem dd_Se_findBest_35 : decode cc_Se_findBest 35 = .ok (.getfield 15, 3) := by decide +kernel
theorem dd_Se_findBest_38 : decode cc_Se_findBest 38 = .ok (.iconst 0, 1) := by decide +kernel
theorem dd_Se_findBest_39 : decode cc_Se_findBest 39 = .ok (.aload_n 1, 1) := by decide +kernel
theorem dd_Se_findBest_40 : decode cc_Se_findBest 40 = .ok (.getfield 51, 3) := by decide +kernel
theorem dd_Se_findBest_43 : decode cc_Se_findBest 43 = .ok (.iconst 0, 1) := by decide +kernel
theorem dd_Se_findBest_44 : decode cc_Se_findBest 44 = .ok (.aload_n 1, 1) := by decide +kernel
theorem dd_Se_findBest_45 : decode cc_Se_findBest 45 = .ok (.getfield 35, 3) := by decide +kernel
theorem dd_Se_findBest_48 : decode cc_Se_findBest 48 = .ok (.getfield 54, 3) := by decide +kernel
theorem dd_Se_findBest_51 : decode cc_Se_findBest 51 = .ok (.invokestatic 57, 3) := by decide +kernel
theorem dd_Se_findBest_54 : decode cc_Se_findBest 54 = .ok (.return_, 1) := by decide +kernel
theorem dd_Se_new_0 : decode cc_Se_new 0 = .ok (.aload_n 0, 1) := by decide +kernel
theorem dd_Se_new_1 : decode cc_Se_new 1 = .ok (.invokespecial 3, 3) := by decide +kernel
theorem dd_Se_new_4 : decode cc_Se_new 4 = .ok (.aload_n 0, 1) := by decide +kernel
theorem dd_Se_new_5 : decode cc_Se_new 5 = .ok (.bipush 40, 2) := by decide +kernel
theorem dd_Se_new_7 : decode cc_Se_new 7 = .ok (.newarray .int, 2) := by decide +kernel
theorem dd_Se_new_9 : decode cc_Se_new 9 = .ok (.putfield 9, 3) := by decide +kernel
theorem dd_Se_new_12 : decode cc_Se_new 12 = .ok (.aload_n 0, 1) := by decide +kernel
theorem dd_Se_new_13 : decode cc_Se_new 13 = .ok (.bipush 40, 2) := by decide +kernel
theorem dd_Se_new_15 : decode cc_Se_new 15 = .ok (.newarray .int, 2) := by decide +kernel
theorem dd_Se_new_17 : decode cc_Se_new 17 = .ok (.putfield 15, 3) := by decide +kernel
theorem dd_Se_new_20 : decode cc_Se_new 20 = .ok (.aload_n 0, 1) := by decide +kernel
theorem dd_Se_new_21 : decode cc_Se_new 21 = .ok (.iconst 4, 1) := by decide +kernel
theorem dd_Se_new_22 : decode cc_Se_new 22 = .ok (.newarray .int, 2) := by decide +kernel
theorem dd_Se_new_24 : decode cc_Se_new 24 = .ok (.putfield 18, 3) := by decide +kernel
theorem dd_Se_new_27 : decode cc_Se_new 27 = .ok (.aload_n 0, 1) := by decide +kernel
theorem dd_Se_new_28 : decode cc_Se_new 28 = .ok (.ldc 21, 2) := by decide +kernel
theorem dd_Se_new_30 : decode cc_Se_new 30 = .ok (.putfield 22, 3) := by decide +kernel
theorem dd_Se_new_33 : decode cc_Se_new 33 = .ok (.aload_n 0, 1) := by decide +kernel
theorem dd_Se_new_34 : decode cc_Se_new 34 = .ok (.ldc 21, 2) := by decide +kernel
theorem dd_Se_new_36 : decode cc_Se_new 36 = .ok (.putfield 26, 3) := by decide +kernel
theorem dd_Se_new_39 : decode cc_Se_new 39 = .ok (.return_, 1) := by decide +kernel
