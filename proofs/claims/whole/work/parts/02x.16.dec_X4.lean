theorem dX4_init_0 : decode cX4_init 0 = .ok (.aload_n 0, 1) := by decide +kernel
theorem dX4_init_1 : decode cX4_init 1 = .ok (.invokespecial 3, 3) := by decide +kernel
theorem dX4_init_4 : decode cX4_init 4 = .ok (.aload_n 0, 1) := by decide +kernel
theorem dX4_init_5 : decode cX4_init 5 = .ok (.bipush 40, 2) := by decide +kernel
theorem dX4_init_7 : decode cX4_init 7 = .ok (.newarray .int, 2) := by decide +kernel
theorem dX4_init_9 : decode cX4_init 9 = .ok (.putfield 9, 3) := by decide +kernel
theorem dX4_init_12 : decode cX4_init 12 = .ok (.aload_n 0, 1) := by decide +kernel
theorem dX4_init_13 : decode cX4_init 13 = .ok (.iconst 0, 1) := by decide +kernel
theorem dX4_init_14 : decode cX4_init 14 = .ok (.putfield 15, 3) := by decide +kernel
theorem dX4_init_17 : decode cX4_init 17 = .ok (.return_, 1) := by decide +kernel
theorem dX4_begin_0 : decode cX4_begin 0 = .ok (.aload_n 0, 1) := by decide +kernel
theorem dX4_begin_1 : decode cX4_begin 1 = .ok (.iload_n 1, 1) := by decide +kernel
theorem dX4_begin_2 : decode cX4_begin 2 = .ok (.putfield 15, 3) := by decide +kernel
theorem dX4_begin_5 : decode cX4_begin 5 = .ok (.aload_n 0, 1) := by decide +kernel
theorem dX4_begin_6 : decode cX4_begin 6 = .ok (.getfield 9, 3) := by decide +kernel
theorem dX4_begin_9 : decode cX4_begin 9 = .ok (.iconst 0, 1) := by decide +kernel
theorem dX4_begin_10 : decode cX4_begin 10 = .ok (.invokestatic 19, 3) := by decide +kernel
theorem dX4_begin_13 : decode cX4_begin 13 = .ok (.return_, 1) := by decide +kernel
theorem dX4_take_0 : decode cX4_take 0 = .ok (.iconst 0, 1) := by decide +kernel
theorem dX4_take_1 : decode cX4_take 1 = .ok (.istore_n 3, 1) := by decide +kernel
theorem dX4_take_2 : decode cX4_take 2 = .ok (.iload_n 3, 1) := by decide +kernel
theorem dX4_take_3 : decode cX4_take 3 = .ok (.aload_n 1, 1) := by decide +kernel
theorem dX4_take_4 : decode cX4_take 4 = .ok (.invokevirtual 25, 3) := by decide +kernel
theorem dX4_take_7 : decode cX4_take 7 = .ok (.if_icmp .ge 61, 3) := by decide +kernel
theorem dX4_take_10 : decode cX4_take 10 = .ok (.aload_n 1, 1) := by decide +kernel
theorem dX4_take_11 : decode cX4_take 11 = .ok (.iload_n 3, 1) := by decide +kernel
theorem dX4_take_12 : decode cX4_take 12 = .ok (.invokevirtual 31, 3) := by decide +kernel
theorem dX4_take_15 : decode cX4_take 15 = .ok (.istore 4, 2) := by decide +kernel
theorem dX4_take_17 : decode cX4_take 17 = .ok (.iload 4, 2) := by decide +kernel
theorem dX4_take_19 : decode cX4_take 19 = .ok (.invokestatic 35, 3) := by decide +kernel
theorem dX4_take_22 : decode cX4_take 22 = .ok (.istore 5, 2) := by decide +kernel
theorem dX4_take_24 : decode cX4_take 24 = .ok (.iload 4, 2) := by decide +kernel
theorem dX4_take_26 : decode cX4_take 26 = .ok (.invokestatic 38, 3) := by decide +kernel
theorem dX4_take_29 : decode cX4_take 29 = .ok (.aload_n 0, 1) := by decide +kernel
theorem dX4_take_30 : decode cX4_take 30 = .ok (.getfield 15, 3) := by decide +kernel
theorem dX4_take_33 : decode cX4_take 33 = .ok (.if_icmp .ne 29, 3) := by decide +kernel
theorem dX4_take_36 : decode cX4_take 36 = .ok (.aload_n 2, 1) := by decide +kernel
theorem dX4_take_37 : decode cX4_take 37 = .ok (.iload 5, 2) := by decide +kernel
theorem dX4_take_39 : decode cX4_take 39 = .ok (.invokevirtual 41, 3) := by decide +kernel
theorem dX4_take_42 : decode cX4_take 42 = .ok (.ifCond .eq 20, 3) := by decide +kernel
theorem dX4_take_45 : decode cX4_take 45 = .ok (.aload_n 0, 1) := by decide +kernel
theorem dX4_take_46 : decode cX4_take 46 = .ok (.getfield 9, 3) := by decide +kernel
theorem dX4_take_49 : decode cX4_take 49 = .ok (.iload 5, 2) := by decide +kernel
theorem dX4_take_51 : decode cX4_take 51 = .ok (.dup2, 1) := by decide +kernel
theorem dX4_take_52 : decode cX4_take 52 = .ok (.iaload, 1) := by decide +kernel
theorem dX4_take_53 : decode cX4_take 53 = .ok (.iconst 1, 1) := by decide +kernel
theorem dX4_take_54 : decode cX4_take 54 = .ok (.iload 4, 2) := by decide +kernel
theorem dX4_take_56 : decode cX4_take 56 = .ok (.invokestatic 47, 3) := by decide +kernel
theorem dX4_take_59 : decode cX4_take 59 = .ok (.ishl, 1) := by decide +kernel
theorem dX4_take_60 : decode cX4_take 60 = .ok (.ior, 1) := by decide +kernel
theorem dX4_take_61 : decode cX4_take 61 = .ok (.iastore, 1) := by decide +kernel
theorem dX4_take_62 : decode cX4_take 62 = .ok (.iinc 3 1, 3) := by decide +kernel
theorem dX4_take_65 : decode cX4_take 65 = .ok (.goto (-63), 3) := by decide +kernel
theorem dX4_take_68 : decode cX4_take 68 = .ok (.return_, 1) := by decide +kernel
theorem dX4_bitsOf_0 : decode cX4_bitsOf 0 = .ok (.iload_n 1, 1) := by decide +kernel
theorem dX4_bitsOf_1 : decode cX4_bitsOf 1 = .ok (.ifCond .lt 21, 3) := by decide +kernel
theorem dX4_bitsOf_4 : decode cX4_bitsOf 4 = .ok (.iload_n 1, 1) := by decide +kernel
theorem dX4_bitsOf_5 : decode cX4_bitsOf 5 = .ok (.aload_n 0, 1) := by decide +kernel
theorem dX4_bitsOf_6 : decode cX4_bitsOf 6 = .ok (.getfield 9, 3) := by decide +kernel
theorem dX4_bitsOf_9 : decode cX4_bitsOf 9 = .ok (.arraylength, 1) := by decide +kernel
theorem dX4_bitsOf_10 : decode cX4_bitsOf 10 = .ok (.if_icmp .ge 12, 3) := by decide +kernel
theorem dX4_bitsOf_13 : decode cX4_bitsOf 13 = .ok (.aload_n 0, 1) := by decide +kernel
theorem dX4_bitsOf_14 : decode cX4_bitsOf 14 = .ok (.getfield 9, 3) := by decide +kernel
theorem dX4_bitsOf_17 : decode cX4_bitsOf 17 = .ok (.iload_n 1, 1) := by decide +kernel
theorem dX4_bitsOf_18 : decode cX4_bitsOf 18 = .ok (.iaload, 1) := by decide +kernel
theorem dX4_bitsOf_19 : decode cX4_bitsOf 19 = .ok (.goto 4, 3) := by decide +kernel
theorem dX4_bitsOf_22 : decode cX4_bitsOf 22 = .ok (.iconst 0, 1) := by decide +kernel
theorem dX4_bitsOf_23 : decode cX4_bitsOf 23 = .ok (.ireturn, 1) := by decide +kernel
theorem dX4_frequency_0 : decode cX4_frequency 0 = .ok (.iconst 0, 1) := by decide +kernel
theorem dX4_frequency_1 : decode cX4_frequency 1 = .ok (.istore_n 1, 1) := by decide +kernel
theorem dX4_frequency_2 : decode cX4_frequency 2 = .ok (.aload_n 0, 1) := by decide +kernel
theorem dX4_frequency_3 : decode cX4_frequency 3 = .ok (.getfield 9, 3) := by decide +kernel
theorem dX4_frequency_6 : decode cX4_frequency 6 = .ok (.astore_n 2, 1) := by decide +kernel
theorem dX4_frequency_7 : decode cX4_frequency 7 = .ok (.aload_n 2, 1) := by decide +kernel
theorem dX4_frequency_8 : decode cX4_frequency 8 = .ok (.arraylength, 1) := by decide +kernel
theorem dX4_frequency_9 : decode cX4_frequency 9 = .ok (.istore_n 3, 1) := by decide +kernel
theorem dX4_frequency_10 : decode cX4_frequency 10 = .ok (.iconst 0, 1) := by decide +kernel
theorem dX4_frequency_11 : decode cX4_frequency 11 = .ok (.istore 4, 2) := by decide +kernel
theorem dX4_frequency_13 : decode cX4_frequency 13 = .ok (.iload 4, 2) := by decide +kernel
theorem dX4_frequency_15 : decode cX4_frequency 15 = .ok (.iload_n 3, 1) := by decide +kernel
theorem dX4_frequency_16 : decode cX4_frequency 16 = .ok (.if_icmp .ge 23, 3) := by decide +kernel
theorem dX4_frequency_19 : decode cX4_frequency 19 = .ok (.aload_n 2, 1) := by decide +kernel
theorem dX4_frequency_20 : decode cX4_frequency 20 = .ok (.iload 4, 2) := by decide +kernel
theorem dX4_frequency_22 : decode cX4_frequency 22 = .ok (.iaload, 1) := by decide +kernel
theorem dX4_frequency_23 : decode cX4_frequency 23 = .ok (.istore 5, 2) := by decide +kernel
theorem dX4_frequency_25 : decode cX4_frequency 25 = .ok (.iload 5, 2) := by decide +kernel
theorem dX4_frequency_27 : decode cX4_frequency 27 = .ok (.ifCond .eq 6, 3) := by decide +kernel
theorem dX4_frequency_30 : decode cX4_frequency 30 = .ok (.iinc 1 1, 3) := by decide +kernel
theorem dX4_frequency_33 : decode cX4_frequency 33 = .ok (.iinc 4 1, 3) := by decide +kernel
theorem dX4_frequency_36 : decode cX4_frequency 36 = .ok (.goto (-23), 3) := by decide +kernel
theorem dX4_frequency_39 : decode cX4_frequency 39 = .ok (.iload_n 1, 1) := by decide +kernel
theorem dX4_frequency_40 : decode cX4_frequency 40 = .ok (.ireturn, 1) := by decide +kernel
theorem dX4_share_0 : decode cX4_share 0 = .ok (.aload_n 0, 1) := by decide +kernel
theorem dX4_share_1 : decode cX4_share 1 = .ok (.iload_n 1, 1) := by decide +kernel
theorem dX4_share_2 : decode cX4_share 2 = .ok (.invokevirtual 50, 3) := by decide +kernel
theorem dX4_share_5 : decode cX4_share 5 = .ok (.invokestatic 53, 3) := by decide +kernel
theorem dX4_share_8 : decode cX4_share 8 = .ok (.istore_n 3, 1) := by decide +kernel
theorem dX4_share_9 : decode cX4_share 9 = .ok (.iload_n 3, 1) := by decide +kernel
theorem dX4_share_10 : decode cX4_share 10 = .ok (.ifCond .eq 7, 3) := by decide +kernel
theorem dX4_share_13 : decode cX4_share 13 = .ok (.iload_n 2, 1) := by decide +kernel
theorem dX4_share_14 : decode cX4_share 14 = .ok (.ifCond .ne 7, 3) := by decide +kernel
theorem dX4_share_17 : decode cX4_share 17 = .ok (.dconst 0, 1) := by decide +kernel
theorem dX4_share_18 : decode cX4_share 18 = .ok (.goto 8, 3) := by decide +kernel
theorem dX4_share_21 : decode cX4_share 21 = .ok (.iload_n 3, 1) := by decide +kernel
theorem dX4_share_22 : decode cX4_share 22 = .ok (.i2d, 1) := by decide +kernel
theorem dX4_share_23 : decode cX4_share 23 = .ok (.iload_n 2, 1) := by decide +kernel
theorem dX4_share_24 : decode cX4_share 24 = .ok (.i2d, 1) := by decide +kernel
theorem dX4_share_25 : decode cX4_share 25 = .ok (.ddiv, 1) := by decide +kernel
theorem dX4_share_26 : decode cX4_share 26 = .ok (.dreturn, 1) := by decide +kernel
