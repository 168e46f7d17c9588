theorem dd_Bo_has_0 : decode cc_Bo_has 0 = .ok (.iload_n 1, 1) := by decide +kernel
theorem dd_Bo_has_1 : decode cc_Bo_has 1 = .ok (.ifCond .lt 15, 3) := by decide +kernel
theorem dd_Bo_has_4 : decode cc_Bo_has 4 = .ok (.iload_n 1, 1) := by decide +kernel
theorem dd_Bo_has_5 : decode cc_Bo_has 5 = .ok (.aload_n 0, 1) := by decide +kernel
theorem dd_Bo_has_6 : decode cc_Bo_has 6 = .ok (.getfield 9, 3) := by decide +kernel
theorem dd_Bo_has_9 : decode cc_Bo_has 9 = .ok (.if_icmp .ge 7, 3) := by decide +kernel
theorem dd_Bo_has_12 : decode cc_Bo_has 12 = .ok (.iconst 1, 1) := by decide +kernel
theorem dd_Bo_has_13 : decode cc_Bo_has 13 = .ok (.goto 4, 3) := by decide +kernel
theorem dd_Bo_has_16 : decode cc_Bo_has 16 = .ok (.iconst 0, 1) := by decide +kernel
theorem dd_Bo_has_17 : decode cc_Bo_has 17 = .ok (.ireturn, 1) := by decide +kernel
theorem dd_Bo_start_0 : decode cc_Bo_start 0 = .ok (.aload_n 0, 1) := by decide +kernel
theorem dd_Bo_start_1 : decode cc_Bo_start 1 = .ok (.iload_n 1, 1) := by decide +kernel
theorem dd_Bo_start_2 : decode cc_Bo_start 2 = .ok (.putfield 9, 3) := by decide +kernel
theorem dd_Bo_start_5 : decode cc_Bo_start 5 = .ok (.aload_n 0, 1) := by decide +kernel
theorem dd_Bo_start_6 : decode cc_Bo_start 6 = .ok (.getfield 15, 3) := by decide +kernel
theorem dd_Bo_start_9 : decode cc_Bo_start 9 = .ok (.iconst 0, 1) := by decide +kernel
theorem dd_Bo_start_10 : decode cc_Bo_start 10 = .ok (.invokestatic 23, 3) := by decide +kernel
theorem dd_Bo_start_13 : decode cc_Bo_start 13 = .ok (.aload_n 0, 1) := by decide +kernel
theorem dd_Bo_start_14 : decode cc_Bo_start 14 = .ok (.getfield 20, 3) := by decide +kernel
theorem dd_Bo_start_17 : decode cc_Bo_start 17 = .ok (.ldc 19, 2) := by decide +kernel
theorem dd_Bo_start_19 : decode cc_Bo_start 19 = .ok (.invokestatic 23, 3) := by decide +kernel
theorem dd_Bo_start_22 : decode cc_Bo_start 22 = .ok (.return_, 1) := by decide +kernel
theorem dd_Bo_copyOf_0 : decode cc_Bo_copyOf 0 = .ok (.aload_n 0, 1) := by decide +kernel
theorem dd_Bo_copyOf_1 : decode cc_Bo_copyOf 1 = .ok (.aload_n 1, 1) := by decide +kernel
theorem dd_Bo_copyOf_2 : decode cc_Bo_copyOf 2 = .ok (.getfield 9, 3) := by decide +kernel
theorem dd_Bo_copyOf_5 : decode cc_Bo_copyOf 5 = .ok (.putfield 9, 3) := by decide +kernel
theorem dd_Bo_copyOf_8 : decode cc_Bo_copyOf 8 = .ok (.aload_n 1, 1) := by decide +kernel
theorem dd_Bo_copyOf_9 : decode cc_Bo_copyOf 9 = .ok (.getfield 15, 3) := by decide +kernel
theorem dd_Bo_copyOf_12 : decode cc_Bo_copyOf 12 = .ok (.iconst 0, 1) := by decide +kernel
theorem dd_Bo_copyOf_13 : decode cc_Bo_copyOf 13 = .ok (.aload_n 0, 1) := by decide +kernel
theorem dd_Bo_copyOf_14 : decode cc_Bo_copyOf 14 = .ok (.getfield 15, 3) := by decide +kernel
theorem dd_Bo_copyOf_17 : decode cc_Bo_copyOf 17 = .ok (.iconst 0, 1) := by decide +kernel
theorem dd_Bo_copyOf_18 : decode cc_Bo_copyOf 18 = .ok (.iconst 4, 1) := by decide +kernel
theorem dd_Bo_copyOf_19 : decode cc_Bo_copyOf 19 = .ok (.invokestatic 29, 3) := by decide +kernel
theorem dd_Bo_copyOf_22 : decode cc_Bo_copyOf 22 = .ok (.aload_n 1, 1) := by decide +kernel
theorem dd_Bo_copyOf_23 : decode cc_Bo_copyOf 23 = .ok (.getfield 20, 3) := by decide +kernel
theorem dd_Bo_copyOf_26 : decode cc_Bo_copyOf 26 = .ok (.iconst 0, 1) := by decide +kernel
theorem dd_Bo_copyOf_27 : decode cc_Bo_copyOf 27 = .ok (.aload_n 0, 1) := by decide +kernel
theorem dd_Bo_copyOf_28 : decode cc_Bo_copyOf 28 = .ok (.getfield 20, 3) := by decide +kernel
theorem dd_Bo_copyOf_31 : decode cc_Bo_copyOf 31 = .ok (.iconst 0, 1) := by decide +kernel
theorem dd_Bo_copyOf_32 : decode cc_Bo_copyOf 32 = .ok (.iconst 4, 1) := by decide +kernel
theorem dd_Bo_copyOf_33 : decode cc_Bo_copyOf 33 = .ok (.invokestatic 29, 3) := by decide +kernel
theorem dd_Bo_copyOf_36 : decode cc_Bo_copyOf 36 = .ok (.return_, 1) := by decide +kernel
theorem dd_Bo_miss_0 : decode cc_Bo_miss 0 = .ok (.iload_n 2, 1) := by decide +kernel
theorem dd_Bo_miss_1 : decode cc_Bo_miss 1 = .ok (.aload_n 0, 1) := by decide +kernel
theorem dd_Bo_miss_2 : decode cc_Bo_miss 2 = .ok (.getfield 15, 3) := by decide +kernel
theorem dd_Bo_miss_5 : decode cc_Bo_miss 5 = .ok (.iload_n 1, 1) := by decide +kernel
theorem dd_Bo_miss_6 : decode cc_Bo_miss 6 = .ok (.iaload, 1) := by decide +kernel
theorem dd_Bo_miss_7 : decode cc_Bo_miss 7 = .ok (.if_icmp .ge 12, 3) := by decide +kernel
theorem dd_Bo_miss_10 : decode cc_Bo_miss 10 = .ok (.aload_n 0, 1) := by decide +kernel
theorem dd_Bo_miss_11 : decode cc_Bo_miss 11 = .ok (.getfield 15, 3) := by decide +kernel
theorem dd_Bo_miss_14 : decode cc_Bo_miss 14 = .ok (.iload_n 1, 1) := by decide +kernel
theorem dd_Bo_miss_15 : decode cc_Bo_miss 15 = .ok (.iaload, 1) := by decide +kernel
theorem dd_Bo_miss_16 : decode cc_Bo_miss 16 = .ok (.iload_n 2, 1) := by decide +kernel
theorem dd_Bo_miss_17 : decode cc_Bo_miss 17 = .ok (.isub, 1) := by decide +kernel
theorem dd_Bo_miss_18 : decode cc_Bo_miss 18 = .ok (.ireturn, 1) := by decide +kernel
theorem dd_Bo_miss_19 : decode cc_Bo_miss 19 = .ok (.iload_n 2, 1) := by decide +kernel
theorem dd_Bo_miss_20 : decode cc_Bo_miss 20 = .ok (.aload_n 0, 1) := by decide +kernel
theorem dd_Bo_miss_21 : decode cc_Bo_miss 21 = .ok (.getfield 20, 3) := by decide +kernel
theorem dd_Bo_miss_24 : decode cc_Bo_miss 24 = .ok (.iload_n 1, 1) := by decide +kernel
theorem dd_Bo_miss_25 : decode cc_Bo_miss 25 = .ok (.iaload, 1) := by decide +kernel
theorem dd_Bo_miss_26 : decode cc_Bo_miss 26 = .ok (.if_icmp .le 14, 3) := by decide +kernel
theorem dd_Bo_miss_29 : decode cc_Bo_miss 29 = .ok (.iload_n 2, 1) := by decide +kernel
theorem dd_Bo_miss_30 : decode cc_Bo_miss 30 = .ok (.aload_n 0, 1) := by decide +kernel
theorem dd_Bo_miss_31 : decode cc_Bo_miss 31 = .ok (.getfield 20, 3) := by decide +kernel
theorem dd_Bo_miss_34 : decode cc_Bo_miss 34 = .ok (.iload_n 1, 1) := by decide +kernel
theorem dd_Bo_miss_35 : decode cc_Bo_miss 35 = .ok (.iaload, 1) := by decide +kernel
theorem dd_Bo_miss_36 : decode cc_Bo_miss 36 = .ok (.isub, 1) := by decide +kernel
theorem dd_Bo_miss_37 : decode cc_Bo_miss 37 = .ok (.goto 4, 3) := by decide +kernel
theorem dd_Bo_miss_40 : decode cc_Bo_miss 40 = .ok (.iconst 0, 1) := by decide +kernel
theorem dd_Bo_miss_41 : decode cc_Bo_miss 41 = .ok (.ireturn, 1) := by decide +kernel
theorem dd_Bo_new_0 : decode cc_Bo_new 0 = .ok (.aload_n 0, 1) := by decide +kernel
theorem dd_Bo_new_1 : decode cc_Bo_new 1 = .ok (.invokespecial 3, 3) := by decide +kernel
theorem dd_Bo_new_4 : decode cc_Bo_new 4 = .ok (.aload_n 0, 1) := by decide +kernel
theorem dd_Bo_new_5 : decode cc_Bo_new 5 = .ok (.iconst 2, 1) := by decide +kernel
theorem dd_Bo_new_6 : decode cc_Bo_new 6 = .ok (.putfield 9, 3) := by decide +kernel
theorem dd_Bo_new_9 : decode cc_Bo_new 9 = .ok (.aload_n 0, 1) := by decide +kernel
theorem dd_Bo_new_10 : decode cc_Bo_new 10 = .ok (.iconst 4, 1) := by decide +kernel
theorem dd_Bo_new_11 : decode cc_Bo_new 11 = .ok (.newarray .int, 2) := by decide +kernel
theorem dd_Bo_new_13 : decode cc_Bo_new 13 = .ok (.putfield 15, 3) := by decide +kernel
theorem dd_Bo_new_16 : decode cc_Bo_new 16 = .ok (.aload_n 0, 1) := by decide +kernel
theorem dd_Bo_new_17 : decode cc_Bo_new 17 = .ok (.iconst 4, 1) := by decide +kernel
theorem dd_Bo_new_18 : decode cc_Bo_new 18 = .ok (.newarray .int, 2) := by decide +kernel
theorem dd_Bo_new_20 : decode cc_Bo_new 20 = .ok (.dup, 1) := by decide +kernel
theorem dd_Bo_new_21 : decode cc_Bo_new 21 = .ok (.iconst 0, 1) := by decide +kernel
theorem dd_Bo_new_22 : decode cc_Bo_new 22 = .ok (.ldc 19, 2) := by decide +kernel
theorem dd_Bo_new_24 : decode cc_Bo_new 24 = .ok (.iastore, 1) := by decide +kernel
theorem dd_Bo_new_25 : decode cc_Bo_new 25 = .ok (.dup, 1) := by decide +kernel
theorem dd_Bo_new_26 : decode cc_Bo_new 26 = .ok (.iconst 1, 1) := by decide +kernel
theorem dd_Bo_new_27 : decode cc_Bo_new 27 = .ok (.ldc 19, 2) := by decide +kernel
theorem dd_Bo_new_29 : decode cc_Bo_new 29 = .ok (.iastore, 1) := by decide +kernel
theorem dd_Bo_new_30 : decode cc_Bo_new 30 = .ok (.dup, 1) := by decide +kernel
theorem dd_Bo_new_31 : decode cc_Bo_new 31 = .ok (.iconst 2, 1) := by decide +kernel
theorem dd_Bo_new_32 : decode cc_Bo_new 32 = .ok (.ldc 19, 2) := by decide +kernel
theorem dd_Bo_new_34 : decode cc_Bo_new 34 = .ok (.iastore, 1) := by decide +kernel
theorem dd_Bo_new_35 : decode cc_Bo_new 35 = .ok (.dup, 1) := by decide +kernel
theorem dd_Bo_new_36 : decode cc_Bo_new 36 = .ok (.iconst 3, 1) := by decide +kernel
theorem dd_Bo_new_37 : decode cc_Bo_new 37 = .ok (.ldc 19, 2) := by decide +kernel
theorem dd_Bo_new_39 : decode cc_Bo_new 39 = .ok (.iastore, 1) := by decide +kernel
theorem dd_Bo_new_40 : decode cc_Bo_new 40 = .ok (.putfield 20, 3) := by decide +kernel
theorem dd_Bo_new_43 : decode cc_Bo_new 43 = .ok (.return_, 1) := by decide +kernel
