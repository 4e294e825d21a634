theorem dX3_init_0 : decode cX3_init 0 = .ok (.aload_n 0, 1) := by decide +kernel
theorem dX3_init_1 : decode cX3_init 1 = .ok (.invokespecial 3, 3) := by decide +kernel
theorem dX3_init_4 : decode cX3_init 4 = .ok (.aload_n 0, 1) := by decide +kernel
theorem dX3_init_5 : decode cX3_init 5 = .ok (.bipush 40, 2) := by decide +kernel
theorem dX3_init_7 : decode cX3_init 7 = .ok (.newarray .boolean, 2) := by decide +kernel
theorem dX3_init_9 : decode cX3_init 9 = .ok (.putfield 9, 3) := by decide +kernel
theorem dX3_init_12 : decode cX3_init 12 = .ok (.aload_n 0, 1) := by decide +kernel
theorem dX3_init_13 : decode cX3_init 13 = .ok (.iconst 0, 1) := by decide +kernel
theorem dX3_init_14 : decode cX3_init 14 = .ok (.putfield 15, 3) := by decide +kernel
theorem dX3_init_17 : decode cX3_init 17 = .ok (.aload_n 0, 1) := by decide +kernel
theorem dX3_init_18 : decode cX3_init 18 = .ok (.iconst 0, 1) := by decide +kernel
theorem dX3_init_19 : decode cX3_init 19 = .ok (.putfield 19, 3) := by decide +kernel
theorem dX3_init_22 : decode cX3_init 22 = .ok (.return_, 1) := by decide +kernel
theorem dX3_size_0 : decode cX3_size 0 = .ok (.aload_n 0, 1) := by decide +kernel
theorem dX3_size_1 : decode cX3_size 1 = .ok (.getfield 15, 3) := by decide +kernel
theorem dX3_size_4 : decode cX3_size 4 = .ok (.ireturn, 1) := by decide +kernel
theorem dX3_live_0 : decode cX3_live 0 = .ok (.aload_n 0, 1) := by decide +kernel
theorem dX3_live_1 : decode cX3_live 1 = .ok (.getfield 19, 3) := by decide +kernel
theorem dX3_live_4 : decode cX3_live 4 = .ok (.ireturn, 1) := by decide +kernel
theorem dX3_addNext_0 : decode cX3_addNext 0 = .ok (.aload_n 0, 1) := by decide +kernel
theorem dX3_addNext_1 : decode cX3_addNext 1 = .ok (.dup, 1) := by decide +kernel
theorem dX3_addNext_2 : decode cX3_addNext 2 = .ok (.getfield 15, 3) := by decide +kernel
theorem dX3_addNext_5 : decode cX3_addNext 5 = .ok (.iconst 1, 1) := by decide +kernel
theorem dX3_addNext_6 : decode cX3_addNext 6 = .ok (.iadd, 1) := by decide +kernel
theorem dX3_addNext_7 : decode cX3_addNext 7 = .ok (.putfield 15, 3) := by decide +kernel
theorem dX3_addNext_10 : decode cX3_addNext 10 = .ok (.aload_n 0, 1) := by decide +kernel
theorem dX3_addNext_11 : decode cX3_addNext 11 = .ok (.dup, 1) := by decide +kernel
theorem dX3_addNext_12 : decode cX3_addNext 12 = .ok (.getfield 19, 3) := by decide +kernel
theorem dX3_addNext_15 : decode cX3_addNext 15 = .ok (.iconst 1, 1) := by decide +kernel
theorem dX3_addNext_16 : decode cX3_addNext 16 = .ok (.iadd, 1) := by decide +kernel
theorem dX3_addNext_17 : decode cX3_addNext 17 = .ok (.putfield 19, 3) := by decide +kernel
theorem dX3_addNext_20 : decode cX3_addNext 20 = .ok (.aload_n 0, 1) := by decide +kernel
theorem dX3_addNext_21 : decode cX3_addNext 21 = .ok (.getfield 15, 3) := by decide +kernel
theorem dX3_addNext_24 : decode cX3_addNext 24 = .ok (.iconst 1, 1) := by decide +kernel
theorem dX3_addNext_25 : decode cX3_addNext 25 = .ok (.isub, 1) := by decide +kernel
theorem dX3_addNext_26 : decode cX3_addNext 26 = .ok (.ireturn, 1) := by decide +kernel
theorem dX3_isLive_0 : decode cX3_isLive 0 = .ok (.iload_n 1, 1) := by decide +kernel
theorem dX3_isLive_1 : decode cX3_isLive 1 = .ok (.ifCond .lt 33, 3) := by decide +kernel
theorem dX3_isLive_4 : decode cX3_isLive 4 = .ok (.iload_n 1, 1) := by decide +kernel
theorem dX3_isLive_5 : decode cX3_isLive 5 = .ok (.aload_n 0, 1) := by decide +kernel
theorem dX3_isLive_6 : decode cX3_isLive 6 = .ok (.getfield 15, 3) := by decide +kernel
theorem dX3_isLive_9 : decode cX3_isLive 9 = .ok (.if_icmp .ge 25, 3) := by decide +kernel
theorem dX3_isLive_12 : decode cX3_isLive 12 = .ok (.iload_n 1, 1) := by decide +kernel
theorem dX3_isLive_13 : decode cX3_isLive 13 = .ok (.aload_n 0, 1) := by decide +kernel
theorem dX3_isLive_14 : decode cX3_isLive 14 = .ok (.getfield 9, 3) := by decide +kernel
theorem dX3_isLive_17 : decode cX3_isLive 17 = .ok (.arraylength, 1) := by decide +kernel
theorem dX3_isLive_18 : decode cX3_isLive 18 = .ok (.if_icmp .ge 16, 3) := by decide +kernel
theorem dX3_isLive_21 : decode cX3_isLive 21 = .ok (.aload_n 0, 1) := by decide +kernel
theorem dX3_isLive_22 : decode cX3_isLive 22 = .ok (.getfield 9, 3) := by decide +kernel
theorem dX3_isLive_25 : decode cX3_isLive 25 = .ok (.iload_n 1, 1) := by decide +kernel
theorem dX3_isLive_26 : decode cX3_isLive 26 = .ok (.baload, 1) := by decide +kernel
theorem dX3_isLive_27 : decode cX3_isLive 27 = .ok (.ifCond .ne 7, 3) := by decide +kernel
theorem dX3_isLive_30 : decode cX3_isLive 30 = .ok (.iconst 1, 1) := by decide +kernel
theorem dX3_isLive_31 : decode cX3_isLive 31 = .ok (.goto 4, 3) := by decide +kernel
theorem dX3_isLive_34 : decode cX3_isLive 34 = .ok (.iconst 0, 1) := by decide +kernel
theorem dX3_isLive_35 : decode cX3_isLive 35 = .ok (.ireturn, 1) := by decide +kernel
theorem dX3_leaveOut_0 : decode cX3_leaveOut 0 = .ok (.aload_n 0, 1) := by decide +kernel
theorem dX3_leaveOut_1 : decode cX3_leaveOut 1 = .ok (.iload_n 1, 1) := by decide +kernel
theorem dX3_leaveOut_2 : decode cX3_leaveOut 2 = .ok (.invokevirtual 22, 3) := by decide +kernel
theorem dX3_leaveOut_5 : decode cX3_leaveOut 5 = .ok (.ifCond .eq 20, 3) := by decide +kernel
theorem dX3_leaveOut_8 : decode cX3_leaveOut 8 = .ok (.aload_n 0, 1) := by decide +kernel
theorem dX3_leaveOut_9 : decode cX3_leaveOut 9 = .ok (.getfield 9, 3) := by decide +kernel
theorem dX3_leaveOut_12 : decode cX3_leaveOut 12 = .ok (.iload_n 1, 1) := by decide +kernel
theorem dX3_leaveOut_13 : decode cX3_leaveOut 13 = .ok (.iconst 1, 1) := by decide +kernel
theorem dX3_leaveOut_14 : decode cX3_leaveOut 14 = .ok (.bastore, 1) := by decide +kernel
theorem dX3_leaveOut_15 : decode cX3_leaveOut 15 = .ok (.aload_n 0, 1) := by decide +kernel
theorem dX3_leaveOut_16 : decode cX3_leaveOut 16 = .ok (.dup, 1) := by decide +kernel
theorem dX3_leaveOut_17 : decode cX3_leaveOut 17 = .ok (.getfield 19, 3) := by decide +kernel
theorem dX3_leaveOut_20 : decode cX3_leaveOut 20 = .ok (.iconst 1, 1) := by decide +kernel
theorem dX3_leaveOut_21 : decode cX3_leaveOut 21 = .ok (.isub, 1) := by decide +kernel
theorem dX3_leaveOut_22 : decode cX3_leaveOut 22 = .ok (.putfield 19, 3) := by decide +kernel
theorem dX3_leaveOut_25 : decode cX3_leaveOut 25 = .ok (.return_, 1) := by decide +kernel
