theorem dX0_init_0 : decode cX0_init 0 = .ok (.aload_n 0, 1) := by decide +kernel
theorem dX0_init_1 : decode cX0_init 1 = .ok (.invokespecial 3, 3) := by decide +kernel
theorem dX0_init_4 : decode cX0_init 4 = .ok (.aload_n 0, 1) := by decide +kernel
theorem dX0_init_5 : decode cX0_init 5 = .ok (.bipush 40, 2) := by decide +kernel
theorem dX0_init_7 : decode cX0_init 7 = .ok (.newarray .int, 2) := by decide +kernel
theorem dX0_init_9 : decode cX0_init 9 = .ok (.putfield 9, 3) := by decide +kernel
theorem dX0_init_12 : decode cX0_init 12 = .ok (.aload_n 0, 1) := by decide +kernel
theorem dX0_init_13 : decode cX0_init 13 = .ok (.bipush 40, 2) := by decide +kernel
theorem dX0_init_15 : decode cX0_init 15 = .ok (.newarray .double, 2) := by decide +kernel
theorem dX0_init_17 : decode cX0_init 17 = .ok (.putfield 15, 3) := by decide +kernel
theorem dX0_init_20 : decode cX0_init 20 = .ok (.aload_n 0, 1) := by decide +kernel
theorem dX0_init_21 : decode cX0_init 21 = .ok (.iconst 0, 1) := by decide +kernel
theorem dX0_init_22 : decode cX0_init 22 = .ok (.putfield 19, 3) := by decide +kernel
theorem dX0_init_25 : decode cX0_init 25 = .ok (.aload_n 0, 1) := by decide +kernel
theorem dX0_init_26 : decode cX0_init 26 = .ok (.iconst 0, 1) := by decide +kernel
theorem dX0_init_27 : decode cX0_init 27 = .ok (.putfield 23, 3) := by decide +kernel
theorem dX0_init_30 : decode cX0_init 30 = .ok (.return_, 1) := by decide +kernel
theorem dX0_begin_0 : decode cX0_begin 0 = .ok (.aload_n 0, 1) := by decide +kernel
theorem dX0_begin_1 : decode cX0_begin 1 = .ok (.iconst 0, 1) := by decide +kernel
theorem dX0_begin_2 : decode cX0_begin 2 = .ok (.putfield 19, 3) := by decide +kernel
theorem dX0_begin_5 : decode cX0_begin 5 = .ok (.aload_n 0, 1) := by decide +kernel
theorem dX0_begin_6 : decode cX0_begin 6 = .ok (.iload_n 1, 1) := by decide +kernel
theorem dX0_begin_7 : decode cX0_begin 7 = .ok (.putfield 23, 3) := by decide +kernel
theorem dX0_begin_10 : decode cX0_begin 10 = .ok (.return_, 1) := by decide +kernel
theorem dX0_put_0 : decode cX0_put 0 = .ok (.aload_n 0, 1) := by decide +kernel
theorem dX0_put_1 : decode cX0_put 1 = .ok (.getfield 19, 3) := by decide +kernel
theorem dX0_put_4 : decode cX0_put 4 = .ok (.aload_n 0, 1) := by decide +kernel
theorem dX0_put_5 : decode cX0_put 5 = .ok (.getfield 9, 3) := by decide +kernel
theorem dX0_put_8 : decode cX0_put 8 = .ok (.arraylength, 1) := by decide +kernel
theorem dX0_put_9 : decode cX0_put 9 = .ok (.if_icmp .lt 4, 3) := by decide +kernel
theorem dX0_put_12 : decode cX0_put 12 = .ok (.return_, 1) := by decide +kernel
theorem dX0_put_13 : decode cX0_put 13 = .ok (.aload_n 0, 1) := by decide +kernel
theorem dX0_put_14 : decode cX0_put 14 = .ok (.getfield 19, 3) := by decide +kernel
theorem dX0_put_17 : decode cX0_put 17 = .ok (.istore 4, 2) := by decide +kernel
theorem dX0_put_19 : decode cX0_put 19 = .ok (.iload 4, 2) := by decide +kernel
theorem dX0_put_21 : decode cX0_put 21 = .ok (.ifCond .le 55, 3) := by decide +kernel
theorem dX0_put_24 : decode cX0_put 24 = .ok (.aload_n 0, 1) := by decide +kernel
theorem dX0_put_25 : decode cX0_put 25 = .ok (.getfield 15, 3) := by decide +kernel
theorem dX0_put_28 : decode cX0_put 28 = .ok (.iload 4, 2) := by decide +kernel
theorem dX0_put_30 : decode cX0_put 30 = .ok (.iconst 1, 1) := by decide +kernel
theorem dX0_put_31 : decode cX0_put 31 = .ok (.isub, 1) := by decide +kernel
theorem dX0_put_32 : decode cX0_put 32 = .ok (.daload, 1) := by decide +kernel
theorem dX0_put_33 : decode cX0_put 33 = .ok (.dload_n 2, 1) := by decide +kernel
theorem dX0_put_34 : decode cX0_put 34 = .ok (.dcmp .g, 1) := by decide +kernel
theorem dX0_put_35 : decode cX0_put 35 = .ok (.ifCond .ge 41, 3) := by decide +kernel
theorem dX0_put_38 : decode cX0_put 38 = .ok (.aload_n 0, 1) := by decide +kernel
theorem dX0_put_39 : decode cX0_put 39 = .ok (.getfield 15, 3) := by decide +kernel
theorem dX0_put_42 : decode cX0_put 42 = .ok (.iload 4, 2) := by decide +kernel
theorem dX0_put_44 : decode cX0_put 44 = .ok (.aload_n 0, 1) := by decide +kernel
theorem dX0_put_45 : decode cX0_put 45 = .ok (.getfield 15, 3) := by decide +kernel
theorem dX0_put_48 : decode cX0_put 48 = .ok (.iload 4, 2) := by decide +kernel
theorem dX0_put_50 : decode cX0_put 50 = .ok (.iconst 1, 1) := by decide +kernel
theorem dX0_put_51 : decode cX0_put 51 = .ok (.isub, 1) := by decide +kernel
theorem dX0_put_52 : decode cX0_put 52 = .ok (.daload, 1) := by decide +kernel
theorem dX0_put_53 : decode cX0_put 53 = .ok (.dastore, 1) := by decide +kernel
theorem dX0_put_54 : decode cX0_put 54 = .ok (.aload_n 0, 1) := by decide +kernel
theorem dX0_put_55 : decode cX0_put 55 = .ok (.getfield 9, 3) := by decide +kernel
theorem dX0_put_58 : decode cX0_put 58 = .ok (.iload 4, 2) := by decide +kernel
theorem dX0_put_60 : decode cX0_put 60 = .ok (.aload_n 0, 1) := by decide +kernel
theorem dX0_put_61 : decode cX0_put 61 = .ok (.getfield 9, 3) := by decide +kernel
theorem dX0_put_64 : decode cX0_put 64 = .ok (.iload 4, 2) := by decide +kernel
theorem dX0_put_66 : decode cX0_put 66 = .ok (.iconst 1, 1) := by decide +kernel
theorem dX0_put_67 : decode cX0_put 67 = .ok (.isub, 1) := by decide +kernel
theorem dX0_put_68 : decode cX0_put 68 = .ok (.iaload, 1) := by decide +kernel
theorem dX0_put_69 : decode cX0_put 69 = .ok (.iastore, 1) := by decide +kernel
theorem dX0_put_70 : decode cX0_put 70 = .ok (.iinc 4 (-1), 3) := by decide +kernel
theorem dX0_put_73 : decode cX0_put 73 = .ok (.goto (-54), 3) := by decide +kernel
theorem dX0_put_76 : decode cX0_put 76 = .ok (.aload_n 0, 1) := by decide +kernel
theorem dX0_put_77 : decode cX0_put 77 = .ok (.getfield 15, 3) := by decide +kernel
theorem dX0_put_80 : decode cX0_put 80 = .ok (.iload 4, 2) := by decide +kernel
theorem dX0_put_82 : decode cX0_put 82 = .ok (.dload_n 2, 1) := by decide +kernel
theorem dX0_put_83 : decode cX0_put 83 = .ok (.dastore, 1) := by decide +kernel
theorem dX0_put_84 : decode cX0_put 84 = .ok (.aload_n 0, 1) := by decide +kernel
theorem dX0_put_85 : decode cX0_put 85 = .ok (.getfield 9, 3) := by decide +kernel
theorem dX0_put_88 : decode cX0_put 88 = .ok (.iload 4, 2) := by decide +kernel
theorem dX0_put_90 : decode cX0_put 90 = .ok (.iload_n 1, 1) := by decide +kernel
theorem dX0_put_91 : decode cX0_put 91 = .ok (.iastore, 1) := by decide +kernel
theorem dX0_put_92 : decode cX0_put 92 = .ok (.aload_n 0, 1) := by decide +kernel
theorem dX0_put_93 : decode cX0_put 93 = .ok (.dup, 1) := by decide +kernel
theorem dX0_put_94 : decode cX0_put 94 = .ok (.getfield 19, 3) := by decide +kernel
theorem dX0_put_97 : decode cX0_put 97 = .ok (.iconst 1, 1) := by decide +kernel
theorem dX0_put_98 : decode cX0_put 98 = .ok (.iadd, 1) := by decide +kernel
theorem dX0_put_99 : decode cX0_put 99 = .ok (.putfield 19, 3) := by decide +kernel
theorem dX0_put_102 : decode cX0_put 102 = .ok (.return_, 1) := by decide +kernel
theorem dX0_size_0 : decode cX0_size 0 = .ok (.aload_n 0, 1) := by decide +kernel
theorem dX0_size_1 : decode cX0_size 1 = .ok (.getfield 19, 3) := by decide +kernel
theorem dX0_size_4 : decode cX0_size 4 = .ok (.ireturn, 1) := by decide +kernel
theorem dX0_isRanked_0 : decode cX0_isRanked 0 = .ok (.aload_n 0, 1) := by decide +kernel
theorem dX0_isRanked_1 : decode cX0_isRanked 1 = .ok (.getfield 23, 3) := by decide +kernel
theorem dX0_isRanked_4 : decode cX0_isRanked 4 = .ok (.ireturn, 1) := by decide +kernel
theorem dX0_documentAt_0 : decode cX0_documentAt 0 = .ok (.iload_n 1, 1) := by decide +kernel
theorem dX0_documentAt_1 : decode cX0_documentAt 1 = .ok (.ifCond .lt 20, 3) := by decide +kernel
theorem dX0_documentAt_4 : decode cX0_documentAt 4 = .ok (.iload_n 1, 1) := by decide +kernel
theorem dX0_documentAt_5 : decode cX0_documentAt 5 = .ok (.aload_n 0, 1) := by decide +kernel
theorem dX0_documentAt_6 : decode cX0_documentAt 6 = .ok (.getfield 19, 3) := by decide +kernel
theorem dX0_documentAt_9 : decode cX0_documentAt 9 = .ok (.if_icmp .ge 12, 3) := by decide +kernel
theorem dX0_documentAt_12 : decode cX0_documentAt 12 = .ok (.aload_n 0, 1) := by decide +kernel
theorem dX0_documentAt_13 : decode cX0_documentAt 13 = .ok (.getfield 9, 3) := by decide +kernel
theorem dX0_documentAt_16 : decode cX0_documentAt 16 = .ok (.iload_n 1, 1) := by decide +kernel
theorem dX0_documentAt_17 : decode cX0_documentAt 17 = .ok (.iaload, 1) := by decide +kernel
theorem dX0_documentAt_18 : decode cX0_documentAt 18 = .ok (.goto 4, 3) := by decide +kernel
theorem dX0_documentAt_21 : decode cX0_documentAt 21 = .ok (.iconst 0, 1) := by decide +kernel
theorem dX0_documentAt_22 : decode cX0_documentAt 22 = .ok (.ireturn, 1) := by decide +kernel
theorem dX0_scoreAt_0 : decode cX0_scoreAt 0 = .ok (.iload_n 1, 1) := by decide +kernel
theorem dX0_scoreAt_1 : decode cX0_scoreAt 1 = .ok (.ifCond .lt 20, 3) := by decide +kernel
theorem dX0_scoreAt_4 : decode cX0_scoreAt 4 = .ok (.iload_n 1, 1) := by decide +kernel
theorem dX0_scoreAt_5 : decode cX0_scoreAt 5 = .ok (.aload_n 0, 1) := by decide +kernel
theorem dX0_scoreAt_6 : decode cX0_scoreAt 6 = .ok (.getfield 19, 3) := by decide +kernel
theorem dX0_scoreAt_9 : decode cX0_scoreAt 9 = .ok (.if_icmp .ge 12, 3) := by decide +kernel
theorem dX0_scoreAt_12 : decode cX0_scoreAt 12 = .ok (.aload_n 0, 1) := by decide +kernel
theorem dX0_scoreAt_13 : decode cX0_scoreAt 13 = .ok (.getfield 15, 3) := by decide +kernel
theorem dX0_scoreAt_16 : decode cX0_scoreAt 16 = .ok (.iload_n 1, 1) := by decide +kernel
theorem dX0_scoreAt_17 : decode cX0_scoreAt 17 = .ok (.daload, 1) := by decide +kernel
theorem dX0_scoreAt_18 : decode cX0_scoreAt 18 = .ok (.goto 4, 3) := by decide +kernel
theorem dX0_scoreAt_21 : decode cX0_scoreAt 21 = .ok (.dconst 0, 1) := by decide +kernel
theorem dX0_scoreAt_22 : decode cX0_scoreAt 22 = .ok (.dreturn, 1) := by decide +kernel
