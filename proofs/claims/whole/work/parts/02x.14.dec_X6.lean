theorem dX6_init_0 : decode cX6_init 0 = .ok (.aload_n 0, 1) := by decide +kernel
theorem dX6_init_1 : decode cX6_init 1 = .ok (.invokespecial 1, 3) := by decide +kernel
theorem dX6_init_4 : decode cX6_init 4 = .ok (.aload_n 0, 1) := by decide +kernel
theorem dX6_init_5 : decode cX6_init 5 = .ok (.iload_n 1, 1) := by decide +kernel
theorem dX6_init_6 : decode cX6_init 6 = .ok (.putfield 7, 3) := by decide +kernel
theorem dX6_init_9 : decode cX6_init 9 = .ok (.aload_n 0, 1) := by decide +kernel
theorem dX6_init_10 : decode cX6_init 10 = .ok (.aload_n 2, 1) := by decide +kernel
theorem dX6_init_11 : decode cX6_init 11 = .ok (.putfield 13, 3) := by decide +kernel
theorem dX6_init_14 : decode cX6_init 14 = .ok (.aload_n 0, 1) := by decide +kernel
theorem dX6_init_15 : decode cX6_init 15 = .ok (.iload_n 3, 1) := by decide +kernel
theorem dX6_init_16 : decode cX6_init 16 = .ok (.putfield 17, 3) := by decide +kernel
theorem dX6_init_19 : decode cX6_init 19 = .ok (.return_, 1) := by decide +kernel
theorem dX6_isBetween_0 : decode cX6_isBetween 0 = .ok (.aload_n 0, 1) := by decide +kernel
theorem dX6_isBetween_1 : decode cX6_isBetween 1 = .ok (.getfield 7, 3) := by decide +kernel
theorem dX6_isBetween_4 : decode cX6_isBetween 4 = .ok (.iload_n 1, 1) := by decide +kernel
theorem dX6_isBetween_5 : decode cX6_isBetween 5 = .ok (.if_icmp .lt 15, 3) := by decide +kernel
theorem dX6_isBetween_8 : decode cX6_isBetween 8 = .ok (.aload_n 0, 1) := by decide +kernel
theorem dX6_isBetween_9 : decode cX6_isBetween 9 = .ok (.getfield 7, 3) := by decide +kernel
theorem dX6_isBetween_12 : decode cX6_isBetween 12 = .ok (.iload_n 2, 1) := by decide +kernel
theorem dX6_isBetween_13 : decode cX6_isBetween 13 = .ok (.if_icmp .gt 7, 3) := by decide +kernel
theorem dX6_isBetween_16 : decode cX6_isBetween 16 = .ok (.iconst 1, 1) := by decide +kernel
theorem dX6_isBetween_17 : decode cX6_isBetween 17 = .ok (.goto 4, 3) := by decide +kernel
theorem dX6_isBetween_20 : decode cX6_isBetween 20 = .ok (.iconst 0, 1) := by decide +kernel
theorem dX6_isBetween_21 : decode cX6_isBetween 21 = .ok (.ireturn, 1) := by decide +kernel
