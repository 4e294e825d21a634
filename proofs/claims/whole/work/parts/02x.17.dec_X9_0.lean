theorem dX9_init_0 : decode cX9_init 0 = .ok (.aload_n 0, 1) := by decide +kernel
theorem dX9_init_1 : decode cX9_init 1 = .ok (.invokespecial 1, 3) := by decide +kernel
theorem dX9_init_4 : decode cX9_init 4 = .ok (.aload_n 0, 1) := by decide +kernel
theorem dX9_init_5 : decode cX9_init 5 = .ok (.bipush 20, 2) := by decide +kernel
theorem dX9_init_7 : decode cX9_init 7 = .ok (.newarray .int, 2) := by decide +kernel
theorem dX9_init_9 : decode cX9_init 9 = .ok (.putfield 7, 3) := by decide +kernel
theorem dX9_init_12 : decode cX9_init 12 = .ok (.aload_n 0, 1) := by decide +kernel
theorem dX9_init_13 : decode cX9_init 13 = .ok (.sipush 800, 3) := by decide +kernel
theorem dX9_init_16 : decode cX9_init 16 = .ok (.newarray .int, 2) := by decide +kernel
theorem dX9_init_18 : decode cX9_init 18 = .ok (.putfield 13, 3) := by decide +kernel
theorem dX9_init_21 : decode cX9_init 21 = .ok (.aload_n 0, 1) := by decide +kernel
theorem dX9_init_22 : decode cX9_init 22 = .ok (.bipush 40, 2) := by decide +kernel
theorem dX9_init_24 : decode cX9_init 24 = .ok (.newarray .int, 2) := by decide +kernel
theorem dX9_init_26 : decode cX9_init 26 = .ok (.putfield 16, 3) := by decide +kernel
theorem dX9_init_29 : decode cX9_init 29 = .ok (.aload_n 0, 1) := by decide +kernel
theorem dX9_init_30 : decode cX9_init 30 = .ok (.sipush 4000, 3) := by decide +kernel
theorem dX9_init_33 : decode cX9_init 33 = .ok (.newarray .int, 2) := by decide +kernel
theorem dX9_init_35 : decode cX9_init 35 = .ok (.putfield 19, 3) := by decide +kernel
theorem dX9_init_38 : decode cX9_init 38 = .ok (.aload_n 0, 1) := by decide +kernel
theorem dX9_init_39 : decode cX9_init 39 = .ok (.bipush 60, 2) := by decide +kernel
theorem dX9_init_41 : decode cX9_init 41 = .ok (.newarray .long, 2) := by decide +kernel
theorem dX9_init_43 : decode cX9_init 43 = .ok (.putfield 22, 3) := by decide +kernel
theorem dX9_init_46 : decode cX9_init 46 = .ok (.aload_n 0, 1) := by decide +kernel
theorem dX9_init_47 : decode cX9_init 47 = .ok (.bipush 60, 2) := by decide +kernel
theorem dX9_init_49 : decode cX9_init 49 = .ok (.newarray .long, 2) := by decide +kernel
theorem dX9_init_51 : decode cX9_init 51 = .ok (.putfield 26, 3) := by decide +kernel
theorem dX9_init_54 : decode cX9_init 54 = .ok (.aload_n 0, 1) := by decide +kernel
theorem dX9_init_55 : decode cX9_init 55 = .ok (.bipush 60, 2) := by decide +kernel
theorem dX9_init_57 : decode cX9_init 57 = .ok (.newarray .int, 2) := by decide +kernel
theorem dX9_init_59 : decode cX9_init 59 = .ok (.putfield 29, 3) := by decide +kernel
theorem dX9_init_62 : decode cX9_init 62 = .ok (.aload_n 0, 1) := by decide +kernel
theorem dX9_init_63 : decode cX9_init 63 = .ok (.bipush 40, 2) := by decide +kernel
theorem dX9_init_65 : decode cX9_init 65 = .ok (.newarray .int, 2) := by decide +kernel
theorem dX9_init_67 : decode cX9_init 67 = .ok (.putfield 32, 3) := by decide +kernel
theorem dX9_init_70 : decode cX9_init 70 = .ok (.aload_n 0, 1) := by decide +kernel
theorem dX9_init_71 : decode cX9_init 71 = .ok (.bipush 40, 2) := by decide +kernel
theorem dX9_init_73 : decode cX9_init 73 = .ok (.newarray .double, 2) := by decide +kernel
theorem dX9_init_75 : decode cX9_init 75 = .ok (.putfield 35, 3) := by decide +kernel
theorem dX9_init_78 : decode cX9_init 78 = .ok (.aload_n 0, 1) := by decide +kernel
theorem dX9_init_79 : decode cX9_init 79 = .ok (.sipush 4001, 3) := by decide +kernel
theorem dX9_init_82 : decode cX9_init 82 = .ok (.newarray .byte, 2) := by decide +kernel
theorem dX9_init_84 : decode cX9_init 84 = .ok (.putfield 39, 3) := by decide +kernel
theorem dX9_init_87 : decode cX9_init 87 = .ok (.aload_n 0, 1) := by decide +kernel
theorem dX9_init_88 : decode cX9_init 88 = .ok (.iload_n 1, 1) := by decide +kernel
theorem dX9_init_89 : decode cX9_init 89 = .ok (.bipush 20, 2) := by decide +kernel
theorem dX9_init_91 : decode cX9_init 91 = .ok (.bipush 48, 2) := by decide +kernel
theorem dX9_init_93 : decode cX9_init 93 = .ok (.invokestatic 43, 3) := by decide +kernel
theorem dX9_init_96 : decode cX9_init 96 = .ok (.putfield 47, 3) := by decide +kernel
theorem dX9_init_99 : decode cX9_init 99 = .ok (.aload_n 0, 1) := by decide +kernel
theorem dX9_init_100 : decode cX9_init 100 = .ok (.iload_n 2, 1) := by decide +kernel
theorem dX9_init_101 : decode cX9_init 101 = .ok (.iconst 2, 1) := by decide +kernel
theorem dX9_init_102 : decode cX9_init 102 = .ok (.iconst 4, 1) := by decide +kernel
theorem dX9_init_103 : decode cX9_init 103 = .ok (.invokestatic 43, 3) := by decide +kernel
theorem dX9_init_106 : decode cX9_init 106 = .ok (.putfield 51, 3) := by decide +kernel
theorem dX9_init_109 : decode cX9_init 109 = .ok (.aload_n 0, 1) := by decide +kernel
theorem dX9_init_110 : decode cX9_init 110 = .ok (.iload_n 3, 1) := by decide +kernel
theorem dX9_init_111 : decode cX9_init 111 = .ok (.bipush 8, 2) := by decide +kernel
theorem dX9_init_113 : decode cX9_init 113 = .ok (.bipush 60, 2) := by decide +kernel
theorem dX9_init_115 : decode cX9_init 115 = .ok (.invokestatic 43, 3) := by decide +kernel
theorem dX9_init_118 : decode cX9_init 118 = .ok (.putfield 54, 3) := by decide +kernel
theorem dX9_init_121 : decode cX9_init 121 = .ok (.return_, 1) := by decide +kernel
theorem dX9_clamp_0 : decode cX9_clamp 0 = .ok (.iload_n 0, 1) := by decide +kernel
theorem dX9_clamp_1 : decode cX9_clamp 1 = .ok (.iload_n 1, 1) := by decide +kernel
theorem dX9_clamp_2 : decode cX9_clamp 2 = .ok (.if_icmp .ge 7, 3) := by decide +kernel
theorem dX9_clamp_5 : decode cX9_clamp 5 = .ok (.iload_n 1, 1) := by decide +kernel
theorem dX9_clamp_6 : decode cX9_clamp 6 = .ok (.goto 13, 3) := by decide +kernel
theorem dX9_clamp_9 : decode cX9_clamp 9 = .ok (.iload_n 0, 1) := by decide +kernel
theorem dX9_clamp_10 : decode cX9_clamp 10 = .ok (.iload_n 2, 1) := by decide +kernel
theorem dX9_clamp_11 : decode cX9_clamp 11 = .ok (.if_icmp .le 7, 3) := by decide +kernel
theorem dX9_clamp_14 : decode cX9_clamp 14 = .ok (.iload_n 2, 1) := by decide +kernel
theorem dX9_clamp_15 : decode cX9_clamp 15 = .ok (.goto 4, 3) := by decide +kernel
theorem dX9_clamp_18 : decode cX9_clamp 18 = .ok (.iload_n 0, 1) := by decide +kernel
theorem dX9_clamp_19 : decode cX9_clamp 19 = .ok (.ireturn, 1) := by decide +kernel
theorem dX9_thrown_0 : decode cX9_thrown 0 = .ok (.aload_n 0, 1) := by decide +kernel
theorem dX9_thrown_1 : decode cX9_thrown 1 = .ok (.getfield 57, 3) := by decide +kernel
theorem dX9_thrown_4 : decode cX9_thrown 4 = .ok (.ireturn, 1) := by decide +kernel
theorem dX9_fail_0 : decode cX9_fail 0 = .ok (.aload_n 0, 1) := by decide +kernel
theorem dX9_fail_1 : decode cX9_fail 1 = .ok (.iload_n 1, 1) := by decide +kernel
theorem dX9_fail_2 : decode cX9_fail 2 = .ok (.putfield 57, 3) := by decide +kernel
theorem dX9_fail_5 : decode cX9_fail 5 = .ok (.iconst 0, 1) := by decide +kernel
theorem dX9_fail_6 : decode cX9_fail 6 = .ok (.ireturn, 1) := by decide +kernel
theorem dX9_bits_0 : decode cX9_bits 0 = .ok (.iconst 0, 1) := by decide +kernel
theorem dX9_bits_1 : decode cX9_bits 1 = .ok (.istore_n 2, 1) := by decide +kernel
theorem dX9_bits_2 : decode cX9_bits 2 = .ok (.iconst 0, 1) := by decide +kernel
theorem dX9_bits_3 : decode cX9_bits 3 = .ok (.istore_n 3, 1) := by decide +kernel
theorem dX9_bits_4 : decode cX9_bits 4 = .ok (.iload_n 3, 1) := by decide +kernel
theorem dX9_bits_5 : decode cX9_bits 5 = .ok (.bipush 64, 2) := by decide +kernel
theorem dX9_bits_7 : decode cX9_bits 7 = .ok (.if_icmp .ge 22, 3) := by decide +kernel
theorem dX9_bits_10 : decode cX9_bits 10 = .ok (.lload_n 0, 1) := by decide +kernel
theorem dX9_bits_11 : decode cX9_bits 11 = .ok (.iload_n 3, 1) := by decide +kernel
theorem dX9_bits_12 : decode cX9_bits 12 = .ok (.lushr, 1) := by decide +kernel
theorem dX9_bits_13 : decode cX9_bits 13 = .ok (.lconst 1, 1) := by decide +kernel
theorem dX9_bits_14 : decode cX9_bits 14 = .ok (.land, 1) := by decide +kernel
theorem dX9_bits_15 : decode cX9_bits 15 = .ok (.lconst 0, 1) := by decide +kernel
theorem dX9_bits_16 : decode cX9_bits 16 = .ok (.lcmp, 1) := by decide +kernel
theorem dX9_bits_17 : decode cX9_bits 17 = .ok (.ifCond .eq 6, 3) := by decide +kernel
theorem dX9_bits_20 : decode cX9_bits 20 = .ok (.iinc 2 1, 3) := by decide +kernel
theorem dX9_bits_23 : decode cX9_bits 23 = .ok (.iinc 3 1, 3) := by decide +kernel
theorem dX9_bits_26 : decode cX9_bits 26 = .ok (.goto (-22), 3) := by decide +kernel
theorem dX9_bits_29 : decode cX9_bits 29 = .ok (.iload_n 2, 1) := by decide +kernel
theorem dX9_bits_30 : decode cX9_bits 30 = .ok (.ireturn, 1) := by decide +kernel
theorem dX9_in_0 : decode cX9_in 0 = .ok (.lload_n 0, 1) := by decide +kernel
theorem dX9_in_1 : decode cX9_in 1 = .ok (.iload_n 2, 1) := by decide +kernel
theorem dX9_in_2 : decode cX9_in 2 = .ok (.lushr, 1) := by decide +kernel
theorem dX9_in_3 : decode cX9_in 3 = .ok (.lconst 1, 1) := by decide +kernel
theorem dX9_in_4 : decode cX9_in 4 = .ok (.land, 1) := by decide +kernel
theorem dX9_in_5 : decode cX9_in 5 = .ok (.lconst 0, 1) := by decide +kernel
theorem dX9_in_6 : decode cX9_in 6 = .ok (.lcmp, 1) := by decide +kernel
theorem dX9_in_7 : decode cX9_in 7 = .ok (.ifCond .eq 7, 3) := by decide +kernel
theorem dX9_in_10 : decode cX9_in 10 = .ok (.iconst 1, 1) := by decide +kernel
theorem dX9_in_11 : decode cX9_in 11 = .ok (.goto 4, 3) := by decide +kernel
theorem dX9_in_14 : decode cX9_in 14 = .ok (.iconst 0, 1) := by decide +kernel
theorem dX9_in_15 : decode cX9_in 15 = .ok (.ireturn, 1) := by decide +kernel
theorem dX9_noWord_0 : decode cX9_noWord 0 = .ok (.iload_n 0, 1) := by decide +kernel
theorem dX9_noWord_1 : decode cX9_noWord 1 = .ok (.ifCond .lt 9, 3) := by decide +kernel
theorem dX9_noWord_4 : decode cX9_noWord 4 = .ok (.iload_n 0, 1) := by decide +kernel
theorem dX9_noWord_5 : decode cX9_noWord 5 = .ok (.bipush 99, 2) := by decide +kernel
theorem dX9_noWord_7 : decode cX9_noWord 7 = .ok (.if_icmp .le 7, 3) := by decide +kernel
theorem dX9_noWord_10 : decode cX9_noWord 10 = .ok (.iconst 1, 1) := by decide +kernel
theorem dX9_noWord_11 : decode cX9_noWord 11 = .ok (.goto 4, 3) := by decide +kernel
theorem dX9_noWord_14 : decode cX9_noWord 14 = .ok (.iconst 0, 1) := by decide +kernel
theorem dX9_noWord_15 : decode cX9_noWord 15 = .ok (.ireturn, 1) := by decide +kernel
theorem dX9_often_0 : decode cX9_often 0 = .ok (.aload_n 0, 1) := by decide +kernel
theorem dX9_often_1 : decode cX9_often 1 = .ok (.getfield 19, 3) := by decide +kernel
theorem dX9_often_4 : decode cX9_often 4 = .ok (.bipush 100, 2) := by decide +kernel
theorem dX9_often_6 : decode cX9_often 6 = .ok (.iload_n 1, 1) := by decide +kernel
theorem dX9_often_7 : decode cX9_often 7 = .ok (.imul, 1) := by decide +kernel
theorem dX9_often_8 : decode cX9_often 8 = .ok (.iload_n 2, 1) := by decide +kernel
theorem dX9_often_9 : decode cX9_often 9 = .ok (.iadd, 1) := by decide +kernel
theorem dX9_often_10 : decode cX9_often 10 = .ok (.iaload, 1) := by decide +kernel
theorem dX9_often_11 : decode cX9_often 11 = .ok (.ireturn, 1) := by decide +kernel
theorem dX9_word_0 : decode cX9_word 0 = .ok (.aload_n 0, 1) := by decide +kernel
theorem dX9_word_1 : decode cX9_word 1 = .ok (.iconst 0, 1) := by decide +kernel
theorem dX9_word_2 : decode cX9_word 2 = .ok (.putfield 57, 3) := by decide +kernel
theorem dX9_word_5 : decode cX9_word 5 = .ok (.iload_n 1, 1) := by decide +kernel
theorem dX9_word_6 : decode cX9_word 6 = .ok (.invokestatic 60, 3) := by decide +kernel
theorem dX9_word_9 : decode cX9_word 9 = .ok (.ifCond .eq 9, 3) := by decide +kernel
theorem dX9_word_12 : decode cX9_word 12 = .ok (.aload_n 0, 1) := by decide +kernel
theorem dX9_word_13 : decode cX9_word 13 = .ok (.iconst 1, 1) := by decide +kernel
theorem dX9_word_14 : decode cX9_word 14 = .ok (.invokevirtual 64, 3) := by decide +kernel
theorem dX9_word_17 : decode cX9_word 17 = .ok (.ireturn, 1) := by decide +kernel
theorem dX9_word_18 : decode cX9_word 18 = .ok (.aload_n 0, 1) := by decide +kernel
theorem dX9_word_19 : decode cX9_word 19 = .ok (.getfield 68, 3) := by decide +kernel
theorem dX9_word_22 : decode cX9_word 22 = .ok (.bipush 20, 2) := by decide +kernel
theorem dX9_word_24 : decode cX9_word 24 = .ok (.if_icmp .ne 9, 3) := by decide +kernel
theorem dX9_word_27 : decode cX9_word 27 = .ok (.aload_n 0, 1) := by decide +kernel
theorem dX9_word_28 : decode cX9_word 28 = .ok (.iconst 2, 1) := by decide +kernel
theorem dX9_word_29 : decode cX9_word 29 = .ok (.invokevirtual 64, 3) := by decide +kernel
theorem dX9_word_32 : decode cX9_word 32 = .ok (.ireturn, 1) := by decide +kernel
theorem dX9_word_33 : decode cX9_word 33 = .ok (.aload_n 0, 1) := by decide +kernel
theorem dX9_word_34 : decode cX9_word 34 = .ok (.getfield 7, 3) := by decide +kernel
theorem dX9_word_37 : decode cX9_word 37 = .ok (.aload_n 0, 1) := by decide +kernel
theorem dX9_word_38 : decode cX9_word 38 = .ok (.getfield 68, 3) := by decide +kernel
theorem dX9_word_41 : decode cX9_word 41 = .ok (.iload_n 1, 1) := by decide +kernel
theorem dX9_word_42 : decode cX9_word 42 = .ok (.iastore, 1) := by decide +kernel
theorem dX9_word_43 : decode cX9_word 43 = .ok (.aload_n 0, 1) := by decide +kernel
theorem dX9_word_44 : decode cX9_word 44 = .ok (.dup, 1) := by decide +kernel
theorem dX9_word_45 : decode cX9_word 45 = .ok (.getfield 68, 3) := by decide +kernel
theorem dX9_word_48 : decode cX9_word 48 = .ok (.iconst 1, 1) := by decide +kernel
theorem dX9_word_49 : decode cX9_word 49 = .ok (.iadd, 1) := by decide +kernel
theorem dX9_word_50 : decode cX9_word 50 = .ok (.putfield 68, 3) := by decide +kernel
theorem dX9_word_53 : decode cX9_word 53 = .ok (.aload_n 0, 1) := by decide +kernel
theorem dX9_word_54 : decode cX9_word 54 = .ok (.getfield 68, 3) := by decide +kernel
theorem dX9_word_57 : decode cX9_word 57 = .ok (.iconst 1, 1) := by decide +kernel
theorem dX9_word_58 : decode cX9_word 58 = .ok (.isub, 1) := by decide +kernel
theorem dX9_word_59 : decode cX9_word 59 = .ok (.ireturn, 1) := by decide +kernel
theorem dX9_buffered_0 : decode cX9_buffered 0 = .ok (.iconst 0, 1) := by decide +kernel
theorem dX9_buffered_1 : decode cX9_buffered 1 = .ok (.istore_n 1, 1) := by decide +kernel
theorem dX9_buffered_2 : decode cX9_buffered 2 = .ok (.aload_n 0, 1) := by decide +kernel
theorem dX9_buffered_3 : decode cX9_buffered 3 = .ok (.getfield 71, 3) := by decide +kernel
theorem dX9_buffered_6 : decode cX9_buffered 6 = .ok (.istore_n 2, 1) := by decide +kernel
theorem dX9_buffered_7 : decode cX9_buffered 7 = .ok (.iload_n 2, 1) := by decide +kernel
theorem dX9_buffered_8 : decode cX9_buffered 8 = .ok (.aload_n 0, 1) := by decide +kernel
theorem dX9_buffered_9 : decode cX9_buffered 9 = .ok (.getfield 74, 3) := by decide +kernel
theorem dX9_buffered_12 : decode cX9_buffered 12 = .ok (.if_icmp .ge 18, 3) := by decide +kernel
theorem dX9_buffered_15 : decode cX9_buffered 15 = .ok (.iload_n 1, 1) := by decide +kernel
theorem dX9_buffered_16 : decode cX9_buffered 16 = .ok (.aload_n 0, 1) := by decide +kernel
theorem dX9_buffered_17 : decode cX9_buffered 17 = .ok (.getfield 16, 3) := by decide +kernel
theorem dX9_buffered_20 : decode cX9_buffered 20 = .ok (.iload_n 2, 1) := by decide +kernel
theorem dX9_buffered_21 : decode cX9_buffered 21 = .ok (.iaload, 1) := by decide +kernel
theorem dX9_buffered_22 : decode cX9_buffered 22 = .ok (.iadd, 1) := by decide +kernel
theorem dX9_buffered_23 : decode cX9_buffered 23 = .ok (.istore_n 1, 1) := by decide +kernel
theorem dX9_buffered_24 : decode cX9_buffered 24 = .ok (.iinc 2 1, 3) := by decide +kernel
theorem dX9_buffered_27 : decode cX9_buffered 27 = .ok (.goto (-20), 3) := by decide +kernel
theorem dX9_buffered_30 : decode cX9_buffered 30 = .ok (.iload_n 1, 1) := by decide +kernel
theorem dX9_buffered_31 : decode cX9_buffered 31 = .ok (.ireturn, 1) := by decide +kernel
theorem dX9_close_0 : decode cX9_close 0 = .ok (.aload_n 0, 1) := by decide +kernel
theorem dX9_close_1 : decode cX9_close 1 = .ok (.iconst 0, 1) := by decide +kernel
theorem dX9_close_2 : decode cX9_close 2 = .ok (.putfield 57, 3) := by decide +kernel
theorem dX9_close_5 : decode cX9_close 5 = .ok (.aload_n 0, 1) := by decide +kernel
theorem dX9_close_6 : decode cX9_close 6 = .ok (.getfield 74, 3) := by decide +kernel
theorem dX9_close_9 : decode cX9_close 9 = .ok (.bipush 40, 2) := by decide +kernel
theorem dX9_close_11 : decode cX9_close 11 = .ok (.if_icmp .ne 9, 3) := by decide +kernel
theorem dX9_close_14 : decode cX9_close 14 = .ok (.aload_n 0, 1) := by decide +kernel
theorem dX9_close_15 : decode cX9_close 15 = .ok (.iconst 1, 1) := by decide +kernel
theorem dX9_close_16 : decode cX9_close 16 = .ok (.invokevirtual 64, 3) := by decide +kernel
theorem dX9_close_19 : decode cX9_close 19 = .ok (.ireturn, 1) := by decide +kernel
theorem dX9_close_20 : decode cX9_close 20 = .ok (.aload_n 0, 1) := by decide +kernel
theorem dX9_close_21 : decode cX9_close 21 = .ok (.invokevirtual 77, 3) := by decide +kernel
theorem dX9_close_24 : decode cX9_close 24 = .ok (.aload_n 0, 1) := by decide +kernel
theorem dX9_close_25 : decode cX9_close 25 = .ok (.getfield 68, 3) := by decide +kernel
theorem dX9_close_28 : decode cX9_close 28 = .ok (.iadd, 1) := by decide +kernel
theorem dX9_close_29 : decode cX9_close 29 = .ok (.aload_n 0, 1) := by decide +kernel
theorem dX9_close_30 : decode cX9_close 30 = .ok (.getfield 47, 3) := by decide +kernel
theorem dX9_close_33 : decode cX9_close 33 = .ok (.if_icmp .le 16, 3) := by decide +kernel
theorem dX9_close_36 : decode cX9_close 36 = .ok (.aload_n 0, 1) := by decide +kernel
theorem dX9_close_37 : decode cX9_close 37 = .ok (.invokevirtual 81, 3) := by decide +kernel
theorem dX9_close_40 : decode cX9_close 40 = .ok (.ifCond .ne 9, 3) := by decide +kernel
theorem dX9_close_43 : decode cX9_close 43 = .ok (.aload_n 0, 1) := by decide +kernel
theorem dX9_close_44 : decode cX9_close 44 = .ok (.iconst 2, 1) := by decide +kernel
theorem dX9_close_45 : decode cX9_close 45 = .ok (.invokevirtual 64, 3) := by decide +kernel
theorem dX9_close_48 : decode cX9_close 48 = .ok (.ireturn, 1) := by decide +kernel
theorem dX9_close_49 : decode cX9_close 49 = .ok (.iconst 0, 1) := by decide +kernel
theorem dX9_close_50 : decode cX9_close 50 = .ok (.istore_n 1, 1) := by decide +kernel
theorem dX9_close_51 : decode cX9_close 51 = .ok (.iload_n 1, 1) := by decide +kernel
theorem dX9_close_52 : decode cX9_close 52 = .ok (.aload_n 0, 1) := by decide +kernel
theorem dX9_close_53 : decode cX9_close 53 = .ok (.getfield 68, 3) := by decide +kernel
theorem dX9_close_56 : decode cX9_close 56 = .ok (.if_icmp .ge 52, 3) := by decide +kernel
theorem dX9_close_59 : decode cX9_close 59 = .ok (.aload_n 0, 1) := by decide +kernel
theorem dX9_close_60 : decode cX9_close 60 = .ok (.getfield 13, 3) := by decide +kernel
theorem dX9_close_63 : decode cX9_close 63 = .ok (.bipush 20, 2) := by decide +kernel
theorem dX9_close_65 : decode cX9_close 65 = .ok (.aload_n 0, 1) := by decide +kernel
theorem dX9_close_66 : decode cX9_close 66 = .ok (.getfield 74, 3) := by decide +kernel
theorem dX9_close_69 : decode cX9_close 69 = .ok (.imul, 1) := by decide +kernel
theorem dX9_close_70 : decode cX9_close 70 = .ok (.iload_n 1, 1) := by decide +kernel
theorem dX9_close_71 : decode cX9_close 71 = .ok (.iadd, 1) := by decide +kernel
theorem dX9_close_72 : decode cX9_close 72 = .ok (.aload_n 0, 1) := by decide +kernel
theorem dX9_close_73 : decode cX9_close 73 = .ok (.getfield 7, 3) := by decide +kernel
theorem dX9_close_76 : decode cX9_close 76 = .ok (.iload_n 1, 1) := by decide +kernel
theorem dX9_close_77 : decode cX9_close 77 = .ok (.iaload, 1) := by decide +kernel
theorem dX9_close_78 : decode cX9_close 78 = .ok (.iastore, 1) := by decide +kernel
theorem dX9_close_79 : decode cX9_close 79 = .ok (.aload_n 0, 1) := by decide +kernel
theorem dX9_close_80 : decode cX9_close 80 = .ok (.getfield 19, 3) := by decide +kernel
theorem dX9_close_83 : decode cX9_close 83 = .ok (.bipush 100, 2) := by decide +kernel
theorem dX9_close_85 : decode cX9_close 85 = .ok (.aload_n 0, 1) := by decide +kernel
theorem dX9_close_86 : decode cX9_close 86 = .ok (.getfield 74, 3) := by decide +kernel
theorem dX9_close_89 : decode cX9_close 89 = .ok (.imul, 1) := by decide +kernel
theorem dX9_close_90 : decode cX9_close 90 = .ok (.aload_n 0, 1) := by decide +kernel
theorem dX9_close_91 : decode cX9_close 91 = .ok (.getfield 7, 3) := by decide +kernel
theorem dX9_close_94 : decode cX9_close 94 = .ok (.iload_n 1, 1) := by decide +kernel
theorem dX9_close_95 : decode cX9_close 95 = .ok (.iaload, 1) := by decide +kernel
theorem dX9_close_96 : decode cX9_close 96 = .ok (.iadd, 1) := by decide +kernel
theorem dX9_close_97 : decode cX9_close 97 = .ok (.dup2, 1) := by decide +kernel
theorem dX9_close_98 : decode cX9_close 98 = .ok (.iaload, 1) := by decide +kernel
theorem dX9_close_99 : decode cX9_close 99 = .ok (.iconst 1, 1) := by decide +kernel
theorem dX9_close_100 : decode cX9_close 100 = .ok (.iadd, 1) := by decide +kernel
theorem dX9_close_101 : decode cX9_close 101 = .ok (.iastore, 1) := by decide +kernel
theorem dX9_close_102 : decode cX9_close 102 = .ok (.iinc 1 1, 3) := by decide +kernel
theorem dX9_close_105 : decode cX9_close 105 = .ok (.goto (-54), 3) := by decide +kernel
theorem dX9_close_108 : decode cX9_close 108 = .ok (.aload_n 0, 1) := by decide +kernel
theorem dX9_close_109 : decode cX9_close 109 = .ok (.getfield 16, 3) := by decide +kernel
theorem dX9_close_112 : decode cX9_close 112 = .ok (.aload_n 0, 1) := by decide +kernel
theorem dX9_close_113 : decode cX9_close 113 = .ok (.getfield 74, 3) := by decide +kernel
theorem dX9_close_116 : decode cX9_close 116 = .ok (.aload_n 0, 1) := by decide +kernel
theorem dX9_close_117 : decode cX9_close 117 = .ok (.getfield 68, 3) := by decide +kernel
theorem dX9_close_120 : decode cX9_close 120 = .ok (.iastore, 1) := by decide +kernel
theorem dX9_close_121 : decode cX9_close 121 = .ok (.aload_n 0, 1) := by decide +kernel
theorem dX9_close_122 : decode cX9_close 122 = .ok (.iconst 0, 1) := by decide +kernel
theorem dX9_close_123 : decode cX9_close 123 = .ok (.putfield 68, 3) := by decide +kernel
theorem dX9_close_126 : decode cX9_close 126 = .ok (.aload_n 0, 1) := by decide +kernel
theorem dX9_close_127 : decode cX9_close 127 = .ok (.dup, 1) := by decide +kernel
theorem dX9_close_128 : decode cX9_close 128 = .ok (.getfield 74, 3) := by decide +kernel
theorem dX9_close_131 : decode cX9_close 131 = .ok (.iconst 1, 1) := by decide +kernel
theorem dX9_close_132 : decode cX9_close 132 = .ok (.iadd, 1) := by decide +kernel
theorem dX9_close_133 : decode cX9_close 133 = .ok (.putfield 74, 3) := by decide +kernel
theorem dX9_close_136 : decode cX9_close 136 = .ok (.aload_n 0, 1) := by decide +kernel
theorem dX9_close_137 : decode cX9_close 137 = .ok (.getfield 74, 3) := by decide +kernel
theorem dX9_close_140 : decode cX9_close 140 = .ok (.iconst 1, 1) := by decide +kernel
theorem dX9_close_141 : decode cX9_close 141 = .ok (.isub, 1) := by decide +kernel
theorem dX9_close_142 : decode cX9_close 142 = .ok (.ireturn, 1) := by decide +kernel
theorem dX9_drop_0 : decode cX9_drop 0 = .ok (.aload_n 0, 1) := by decide +kernel
theorem dX9_drop_1 : decode cX9_drop 1 = .ok (.iconst 0, 1) := by decide +kernel
theorem dX9_drop_2 : decode cX9_drop 2 = .ok (.putfield 57, 3) := by decide +kernel
theorem dX9_drop_5 : decode cX9_drop 5 = .ok (.iload_n 1, 1) := by decide +kernel
theorem dX9_drop_6 : decode cX9_drop 6 = .ok (.ifCond .lt 22, 3) := by decide +kernel
theorem dX9_drop_9 : decode cX9_drop 9 = .ok (.iload_n 1, 1) := by decide +kernel
theorem dX9_drop_10 : decode cX9_drop 10 = .ok (.aload_n 0, 1) := by decide +kernel
theorem dX9_drop_11 : decode cX9_drop 11 = .ok (.getfield 74, 3) := by decide +kernel
theorem dX9_drop_14 : decode cX9_drop 14 = .ok (.if_icmp .ge 14, 3) := by decide +kernel
theorem dX9_drop_17 : decode cX9_drop 17 = .ok (.aload_n 0, 1) := by decide +kernel
theorem dX9_drop_18 : decode cX9_drop 18 = .ok (.getfield 85, 3) := by decide +kernel
theorem dX9_drop_21 : decode cX9_drop 21 = .ok (.iload_n 1, 1) := by decide +kernel
theorem dX9_drop_22 : decode cX9_drop 22 = .ok (.invokestatic 89, 3) := by decide +kernel
theorem dX9_drop_25 : decode cX9_drop 25 = .ok (.ifCond .eq 9, 3) := by decide +kernel
theorem dX9_drop_28 : decode cX9_drop 28 = .ok (.aload_n 0, 1) := by decide +kernel
theorem dX9_drop_29 : decode cX9_drop 29 = .ok (.iconst 1, 1) := by decide +kernel
theorem dX9_drop_30 : decode cX9_drop 30 = .ok (.invokevirtual 64, 3) := by decide +kernel
theorem dX9_drop_33 : decode cX9_drop 33 = .ok (.ireturn, 1) := by decide +kernel
theorem dX9_drop_34 : decode cX9_drop 34 = .ok (.aload_n 0, 1) := by decide +kernel
theorem dX9_drop_35 : decode cX9_drop 35 = .ok (.dup, 1) := by decide +kernel
theorem dX9_drop_36 : decode cX9_drop 36 = .ok (.getfield 85, 3) := by decide +kernel
theorem dX9_drop_39 : decode cX9_drop 39 = .ok (.lconst 1, 1) := by decide +kernel
theorem dX9_drop_40 : decode cX9_drop 40 = .ok (.iload_n 1, 1) := by decide +kernel
theorem dX9_drop_41 : decode cX9_drop 41 = .ok (.lshl, 1) := by decide +kernel
theorem dX9_drop_42 : decode cX9_drop 42 = .ok (.lor, 1) := by decide +kernel
theorem dX9_drop_43 : decode cX9_drop 43 = .ok (.putfield 85, 3) := by decide +kernel
theorem dX9_drop_46 : decode cX9_drop 46 = .ok (.aload_n 0, 1) := by decide +kernel
theorem dX9_drop_47 : decode cX9_drop 47 = .ok (.getfield 74, 3) := by decide +kernel
theorem dX9_drop_50 : decode cX9_drop 50 = .ok (.aload_n 0, 1) := by decide +kernel
theorem dX9_drop_51 : decode cX9_drop 51 = .ok (.getfield 85, 3) := by decide +kernel
theorem dX9_drop_54 : decode cX9_drop 54 = .ok (.invokestatic 93, 3) := by decide +kernel
theorem dX9_drop_57 : decode cX9_drop 57 = .ok (.isub, 1) := by decide +kernel
theorem dX9_drop_58 : decode cX9_drop 58 = .ok (.ireturn, 1) := by decide +kernel
theorem dX9_put_0 : decode cX9_put 0 = .ok (.aload_n 0, 1) := by decide +kernel
theorem dX9_put_1 : decode cX9_put 1 = .ok (.getfield 39, 3) := by decide +kernel
theorem dX9_put_4 : decode cX9_put 4 = .ok (.aload_n 0, 1) := by decide +kernel
theorem dX9_put_5 : decode cX9_put 5 = .ok (.getfield 97, 3) := by decide +kernel
theorem dX9_put_8 : decode cX9_put 8 = .ok (.iload_n 1, 1) := by decide +kernel
theorem dX9_put_9 : decode cX9_put 9 = .ok (.i2b, 1) := by decide +kernel
theorem dX9_put_10 : decode cX9_put 10 = .ok (.bastore, 1) := by decide +kernel
theorem dX9_put_11 : decode cX9_put 11 = .ok (.aload_n 0, 1) := by decide +kernel
theorem dX9_put_12 : decode cX9_put 12 = .ok (.dup, 1) := by decide +kernel
theorem dX9_put_13 : decode cX9_put 13 = .ok (.getfield 97, 3) := by decide +kernel
theorem dX9_put_16 : decode cX9_put 16 = .ok (.iconst 1, 1) := by decide +kernel
theorem dX9_put_17 : decode cX9_put 17 = .ok (.iadd, 1) := by decide +kernel
theorem dX9_put_18 : decode cX9_put 18 = .ok (.putfield 97, 3) := by decide +kernel
theorem dX9_put_21 : decode cX9_put 21 = .ok (.return_, 1) := by decide +kernel
theorem dX9_putWord_0 : decode cX9_putWord 0 = .ok (.iconst 0, 1) := by decide +kernel
theorem dX9_putWord_1 : decode cX9_putWord 1 = .ok (.istore 4, 2) := by decide +kernel
theorem dX9_putWord_3 : decode cX9_putWord 3 = .ok (.iconst 0, 1) := by decide +kernel
theorem dX9_putWord_4 : decode cX9_putWord 4 = .ok (.istore 5, 2) := by decide +kernel
theorem dX9_putWord_6 : decode cX9_putWord 6 = .ok (.iload 5, 2) := by decide +kernel
theorem dX9_putWord_8 : decode cX9_putWord 8 = .ok (.aload_n 0, 1) := by decide +kernel
theorem dX9_putWord_9 : decode cX9_putWord 9 = .ok (.getfield 74, 3) := by decide +kernel
theorem dX9_putWord_12 : decode cX9_putWord 12 = .ok (.if_icmp .ge 112, 3) := by decide +kernel
theorem dX9_putWord_15 : decode cX9_putWord 15 = .ok (.lload_n 1, 1) := by decide +kernel
theorem dX9_putWord_16 : decode cX9_putWord 16 = .ok (.iload 5, 2) := by decide +kernel
theorem dX9_putWord_18 : decode cX9_putWord 18 = .ok (.invokestatic 89, 3) := by decide +kernel
theorem dX9_putWord_21 : decode cX9_putWord 21 = .ok (.ifCond .eq 97, 3) := by decide +kernel
theorem dX9_putWord_24 : decode cX9_putWord 24 = .ok (.aload_n 0, 1) := by decide +kernel
theorem dX9_putWord_25 : decode cX9_putWord 25 = .ok (.iload 5, 2) := by decide +kernel
theorem dX9_putWord_27 : decode cX9_putWord 27 = .ok (.iload_n 3, 1) := by decide +kernel
theorem dX9_putWord_28 : decode cX9_putWord 28 = .ok (.invokevirtual 100, 3) := by decide +kernel
theorem dX9_putWord_31 : decode cX9_putWord 31 = .ok (.ifCond .ne 6, 3) := by decide +kernel
theorem dX9_putWord_34 : decode cX9_putWord 34 = .ok (.goto 84, 3) := by decide +kernel
theorem dX9_putWord_37 : decode cX9_putWord 37 = .ok (.aload_n 0, 1) := by decide +kernel
theorem dX9_putWord_38 : decode cX9_putWord 38 = .ok (.iload 5, 2) := by decide +kernel
theorem dX9_putWord_40 : decode cX9_putWord 40 = .ok (.iload 4, 2) := by decide +kernel
theorem dX9_putWord_42 : decode cX9_putWord 42 = .ok (.isub, 1) := by decide +kernel
theorem dX9_putWord_43 : decode cX9_putWord 43 = .ok (.invokevirtual 103, 3) := by decide +kernel
theorem dX9_putWord_46 : decode cX9_putWord 46 = .ok (.iload 5, 2) := by decide +kernel
theorem dX9_putWord_48 : decode cX9_putWord 48 = .ok (.istore 4, 2) := by decide +kernel
theorem dX9_putWord_50 : decode cX9_putWord 50 = .ok (.aload_n 0, 1) := by decide +kernel
theorem dX9_putWord_51 : decode cX9_putWord 51 = .ok (.aload_n 0, 1) := by decide +kernel
theorem dX9_putWord_52 : decode cX9_putWord 52 = .ok (.iload 5, 2) := by decide +kernel
theorem dX9_putWord_54 : decode cX9_putWord 54 = .ok (.iload_n 3, 1) := by decide +kernel
theorem dX9_putWord_55 : decode cX9_putWord 55 = .ok (.invokevirtual 100, 3) := by decide +kernel
theorem dX9_putWord_58 : decode cX9_putWord 58 = .ok (.invokevirtual 103, 3) := by decide +kernel
theorem dX9_putWord_61 : decode cX9_putWord 61 = .ok (.iconst 0, 1) := by decide +kernel
theorem dX9_putWord_62 : decode cX9_putWord 62 = .ok (.istore 6, 2) := by decide +kernel
theorem dX9_putWord_64 : decode cX9_putWord 64 = .ok (.iconst 0, 1) := by decide +kernel
theorem dX9_putWord_65 : decode cX9_putWord 65 = .ok (.istore 7, 2) := by decide +kernel
theorem dX9_putWord_67 : decode cX9_putWord 67 = .ok (.iload 7, 2) := by decide +kernel
theorem dX9_putWord_69 : decode cX9_putWord 69 = .ok (.aload_n 0, 1) := by decide +kernel
theorem dX9_putWord_70 : decode cX9_putWord 70 = .ok (.getfield 16, 3) := by decide +kernel
theorem dX9_putWord_73 : decode cX9_putWord 73 = .ok (.iload 5, 2) := by decide +kernel
theorem dX9_putWord_75 : decode cX9_putWord 75 = .ok (.iaload, 1) := by decide +kernel
theorem dX9_putWord_76 : decode cX9_putWord 76 = .ok (.if_icmp .ge 42, 3) := by decide +kernel
theorem dX9_putWord_79 : decode cX9_putWord 79 = .ok (.aload_n 0, 1) := by decide +kernel
theorem dX9_putWord_80 : decode cX9_putWord 80 = .ok (.getfield 13, 3) := by decide +kernel
theorem dX9_putWord_83 : decode cX9_putWord 83 = .ok (.bipush 20, 2) := by decide +kernel
theorem dX9_putWord_85 : decode cX9_putWord 85 = .ok (.iload 5, 2) := by decide +kernel
theorem dX9_putWord_87 : decode cX9_putWord 87 = .ok (.imul, 1) := by decide +kernel
theorem dX9_putWord_88 : decode cX9_putWord 88 = .ok (.iload 7, 2) := by decide +kernel
theorem dX9_putWord_90 : decode cX9_putWord 90 = .ok (.iadd, 1) := by decide +kernel
theorem dX9_putWord_91 : decode cX9_putWord 91 = .ok (.iaload, 1) := by decide +kernel
theorem dX9_putWord_92 : decode cX9_putWord 92 = .ok (.iload_n 3, 1) := by decide +kernel
theorem dX9_putWord_93 : decode cX9_putWord 93 = .ok (.if_icmp .eq 6, 3) := by decide +kernel
theorem dX9_putWord_96 : decode cX9_putWord 96 = .ok (.goto 16, 3) := by decide +kernel
theorem dX9_putWord_99 : decode cX9_putWord 99 = .ok (.aload_n 0, 1) := by decide +kernel
theorem dX9_putWord_100 : decode cX9_putWord 100 = .ok (.iload 7, 2) := by decide +kernel
theorem dX9_putWord_102 : decode cX9_putWord 102 = .ok (.iload 6, 2) := by decide +kernel
theorem dX9_putWord_104 : decode cX9_putWord 104 = .ok (.isub, 1) := by decide +kernel
theorem dX9_putWord_105 : decode cX9_putWord 105 = .ok (.invokevirtual 103, 3) := by decide +kernel
theorem dX9_putWord_108 : decode cX9_putWord 108 = .ok (.iload 7, 2) := by decide +kernel
theorem dX9_putWord_110 : decode cX9_putWord 110 = .ok (.istore 6, 2) := by decide +kernel
theorem dX9_putWord_112 : decode cX9_putWord 112 = .ok (.iinc 7 1, 3) := by decide +kernel
theorem dX9_putWord_115 : decode cX9_putWord 115 = .ok (.goto (-48), 3) := by decide +kernel
theorem dX9_putWord_118 : decode cX9_putWord 118 = .ok (.iinc 5 1, 3) := by decide +kernel
theorem dX9_putWord_121 : decode cX9_putWord 121 = .ok (.goto (-115), 3) := by decide +kernel
theorem dX9_putWord_124 : decode cX9_putWord 124 = .ok (.return_, 1) := by decide +kernel
theorem dX9_encode_0 : decode cX9_encode 0 = .ok (.lload_n 1, 1) := by decide +kernel
theorem dX9_encode_1 : decode cX9_encode 1 = .ok (.aload_n 0, 1) := by decide +kernel
theorem dX9_encode_2 : decode cX9_encode 2 = .ok (.getfield 107, 3) := by decide +kernel
theorem dX9_encode_5 : decode cX9_encode 5 = .ok (.lcmp, 1) := by decide +kernel
theorem dX9_encode_6 : decode cX9_encode 6 = .ok (.ifCond .ne 4, 3) := by decide +kernel
theorem dX9_encode_9 : decode cX9_encode 9 = .ok (.return_, 1) := by decide +kernel
theorem dX9_encode_10 : decode cX9_encode 10 = .ok (.aload_n 0, 1) := by decide +kernel
theorem dX9_encode_11 : decode cX9_encode 11 = .ok (.lload_n 1, 1) := by decide +kernel
theorem dX9_encode_12 : decode cX9_encode 12 = .ok (.putfield 107, 3) := by decide +kernel
theorem dX9_encode_15 : decode cX9_encode 15 = .ok (.aload_n 0, 1) := by decide +kernel
theorem dX9_encode_16 : decode cX9_encode 16 = .ok (.iconst 0, 1) := by decide +kernel
theorem dX9_encode_17 : decode cX9_encode 17 = .ok (.putfield 97, 3) := by decide +kernel
theorem dX9_encode_20 : decode cX9_encode 20 = .ok (.iconst 0, 1) := by decide +kernel
theorem dX9_encode_21 : decode cX9_encode 21 = .ok (.istore_n 3, 1) := by decide +kernel
theorem dX9_encode_22 : decode cX9_encode 22 = .ok (.iconst 0, 1) := by decide +kernel
theorem dX9_encode_23 : decode cX9_encode 23 = .ok (.istore 4, 2) := by decide +kernel
theorem dX9_encode_25 : decode cX9_encode 25 = .ok (.iload 4, 2) := by decide +kernel
theorem dX9_encode_27 : decode cX9_encode 27 = .ok (.bipush 100, 2) := by decide +kernel
theorem dX9_encode_29 : decode cX9_encode 29 = .ok (.if_icmp .ge 85, 3) := by decide +kernel
theorem dX9_encode_32 : decode cX9_encode 32 = .ok (.iconst 0, 1) := by decide +kernel
theorem dX9_encode_33 : decode cX9_encode 33 = .ok (.istore 5, 2) := by decide +kernel
theorem dX9_encode_35 : decode cX9_encode 35 = .ok (.iconst 0, 1) := by decide +kernel
theorem dX9_encode_36 : decode cX9_encode 36 = .ok (.istore 6, 2) := by decide +kernel
theorem dX9_encode_38 : decode cX9_encode 38 = .ok (.iload 6, 2) := by decide +kernel
theorem dX9_encode_40 : decode cX9_encode 40 = .ok (.aload_n 0, 1) := by decide +kernel
theorem dX9_encode_41 : decode cX9_encode 41 = .ok (.getfield 74, 3) := by decide +kernel
theorem dX9_encode_44 : decode cX9_encode 44 = .ok (.if_icmp .ge 32, 3) := by decide +kernel
theorem dX9_encode_47 : decode cX9_encode 47 = .ok (.lload_n 1, 1) := by decide +kernel
theorem dX9_encode_48 : decode cX9_encode 48 = .ok (.iload 6, 2) := by decide +kernel
theorem dX9_encode_50 : decode cX9_encode 50 = .ok (.invokestatic 89, 3) := by decide +kernel
theorem dX9_encode_53 : decode cX9_encode 53 = .ok (.ifCond .eq 17, 3) := by decide +kernel
theorem dX9_encode_56 : decode cX9_encode 56 = .ok (.aload_n 0, 1) := by decide +kernel
theorem dX9_encode_57 : decode cX9_encode 57 = .ok (.iload 6, 2) := by decide +kernel
theorem dX9_encode_59 : decode cX9_encode 59 = .ok (.iload 4, 2) := by decide +kernel
theorem dX9_encode_61 : decode cX9_encode 61 = .ok (.invokevirtual 100, 3) := by decide +kernel
theorem dX9_encode_64 : decode cX9_encode 64 = .ok (.ifCond .le 6, 3) := by decide +kernel
theorem dX9_encode_67 : decode cX9_encode 67 = .ok (.iinc 5 1, 3) := by decide +kernel
theorem dX9_encode_70 : decode cX9_encode 70 = .ok (.iinc 6 1, 3) := by decide +kernel
theorem dX9_encode_73 : decode cX9_encode 73 = .ok (.goto (-35), 3) := by decide +kernel
theorem dX9_encode_76 : decode cX9_encode 76 = .ok (.iload 5, 2) := by decide +kernel
theorem dX9_encode_78 : decode cX9_encode 78 = .ok (.ifCond .ne 6, 3) := by decide +kernel
theorem dX9_encode_81 : decode cX9_encode 81 = .ok (.goto 27, 3) := by decide +kernel
theorem dX9_encode_84 : decode cX9_encode 84 = .ok (.aload_n 0, 1) := by decide +kernel
theorem dX9_encode_85 : decode cX9_encode 85 = .ok (.iload 4, 2) := by decide +kernel
theorem dX9_encode_87 : decode cX9_encode 87 = .ok (.iload_n 3, 1) := by decide +kernel
theorem dX9_encode_88 : decode cX9_encode 88 = .ok (.isub, 1) := by decide +kernel
theorem dX9_encode_89 : decode cX9_encode 89 = .ok (.invokevirtual 103, 3) := by decide +kernel
theorem dX9_encode_92 : decode cX9_encode 92 = .ok (.iload 4, 2) := by decide +kernel
theorem dX9_encode_94 : decode cX9_encode 94 = .ok (.istore_n 3, 1) := by decide +kernel
theorem dX9_encode_95 : decode cX9_encode 95 = .ok (.aload_n 0, 1) := by decide +kernel
theorem dX9_encode_96 : decode cX9_encode 96 = .ok (.iload 5, 2) := by decide +kernel
theorem dX9_encode_98 : decode cX9_encode 98 = .ok (.invokevirtual 103, 3) := by decide +kernel
theorem dX9_encode_101 : decode cX9_encode 101 = .ok (.aload_n 0, 1) := by decide +kernel
theorem dX9_encode_102 : decode cX9_encode 102 = .ok (.lload_n 1, 1) := by decide +kernel
theorem dX9_encode_103 : decode cX9_encode 103 = .ok (.iload 4, 2) := by decide +kernel
theorem dX9_encode_105 : decode cX9_encode 105 = .ok (.invokevirtual 110, 3) := by decide +kernel
theorem dX9_encode_108 : decode cX9_encode 108 = .ok (.iinc 4 1, 3) := by decide +kernel
theorem dX9_encode_111 : decode cX9_encode 111 = .ok (.goto (-86), 3) := by decide +kernel
theorem dX9_encode_114 : decode cX9_encode 114 = .ok (.aload_n 0, 1) := by decide +kernel
theorem dX9_encode_115 : decode cX9_encode 115 = .ok (.bipush 127, 2) := by decide +kernel
theorem dX9_encode_117 : decode cX9_encode 117 = .ok (.invokevirtual 103, 3) := by decide +kernel
theorem dX9_encode_120 : decode cX9_encode 120 = .ok (.return_, 1) := by decide +kernel
theorem dX9_room_0 : decode cX9_room 0 = .ok (.aload_n 0, 1) := by decide +kernel
theorem dX9_room_1 : decode cX9_room 1 = .ok (.lload_n 1, 1) := by decide +kernel
theorem dX9_room_2 : decode cX9_room 2 = .ok (.invokevirtual 114, 3) := by decide +kernel
theorem dX9_room_5 : decode cX9_room 5 = .ok (.aload_n 0, 1) := by decide +kernel
theorem dX9_room_6 : decode cX9_room 6 = .ok (.getfield 97, 3) := by decide +kernel
theorem dX9_room_9 : decode cX9_room 9 = .ok (.bipush 15, 2) := by decide +kernel
theorem dX9_room_11 : decode cX9_room 11 = .ok (.iadd, 1) := by decide +kernel
theorem dX9_room_12 : decode cX9_room 12 = .ok (.bipush 16, 2) := by decide +kernel
theorem dX9_room_14 : decode cX9_room 14 = .ok (.idiv, 1) := by decide +kernel
theorem dX9_room_15 : decode cX9_room 15 = .ok (.istore_n 3, 1) := by decide +kernel
theorem dX9_room_16 : decode cX9_room 16 = .ok (.lconst 0, 1) := by decide +kernel
theorem dX9_room_17 : decode cX9_room 17 = .ok (.lstore 4, 2) := by decide +kernel
theorem dX9_room_19 : decode cX9_room 19 = .ok (.iconst 0, 1) := by decide +kernel
theorem dX9_room_20 : decode cX9_room 20 = .ok (.istore 6, 2) := by decide +kernel
theorem dX9_room_22 : decode cX9_room 22 = .ok (.iload 6, 2) := by decide +kernel
theorem dX9_room_24 : decode cX9_room 24 = .ok (.aload_n 0, 1) := by decide +kernel
theorem dX9_room_25 : decode cX9_room 25 = .ok (.getfield 54, 3) := by decide +kernel
theorem dX9_room_28 : decode cX9_room 28 = .ok (.if_icmp .ge 40, 3) := by decide +kernel
theorem dX9_room_31 : decode cX9_room 31 = .ok (.iload_n 3, 1) := by decide +kernel
theorem dX9_room_32 : decode cX9_room 32 = .ok (.ifCond .eq 30, 3) := by decide +kernel
theorem dX9_room_35 : decode cX9_room 35 = .ok (.aload_n 0, 1) := by decide +kernel
theorem dX9_room_36 : decode cX9_room 36 = .ok (.getfield 118, 3) := by decide +kernel
theorem dX9_room_39 : decode cX9_room 39 = .ok (.iload 6, 2) := by decide +kernel
theorem dX9_room_41 : decode cX9_room 41 = .ok (.invokestatic 89, 3) := by decide +kernel
theorem dX9_room_44 : decode cX9_room 44 = .ok (.ifCond .eq 6, 3) := by decide +kernel
theorem dX9_room_47 : decode cX9_room 47 = .ok (.goto 15, 3) := by decide +kernel
theorem dX9_room_50 : decode cX9_room 50 = .ok (.lload 4, 2) := by decide +kernel
theorem dX9_room_52 : decode cX9_room 52 = .ok (.lconst 1, 1) := by decide +kernel
theorem dX9_room_53 : decode cX9_room 53 = .ok (.iload 6, 2) := by decide +kernel
theorem dX9_room_55 : decode cX9_room 55 = .ok (.lshl, 1) := by decide +kernel
theorem dX9_room_56 : decode cX9_room 56 = .ok (.lor, 1) := by decide +kernel
theorem dX9_room_57 : decode cX9_room 57 = .ok (.lstore 4, 2) := by decide +kernel
theorem dX9_room_59 : decode cX9_room 59 = .ok (.iinc 3 (-1), 3) := by decide +kernel
theorem dX9_room_62 : decode cX9_room 62 = .ok (.iinc 6 1, 3) := by decide +kernel
theorem dX9_room_65 : decode cX9_room 65 = .ok (.goto (-43), 3) := by decide +kernel
theorem dX9_room_68 : decode cX9_room 68 = .ok (.iload_n 3, 1) := by decide +kernel
theorem dX9_room_69 : decode cX9_room 69 = .ok (.ifCond .ne 8, 3) := by decide +kernel
theorem dX9_room_72 : decode cX9_room 72 = .ok (.lload 4, 2) := by decide +kernel
theorem dX9_room_74 : decode cX9_room 74 = .ok (.goto 4, 3) := by decide +kernel
theorem dX9_room_77 : decode cX9_room 77 = .ok (.lconst 0, 1) := by decide +kernel
theorem dX9_room_78 : decode cX9_room 78 = .ok (.lreturn, 1) := by decide +kernel
theorem dX9_flushing_0 : decode cX9_flushing 0 = .ok (.aload_n 0, 1) := by decide +kernel
theorem dX9_flushing_1 : decode cX9_flushing 1 = .ok (.invokevirtual 77, 3) := by decide +kernel
theorem dX9_flushing_4 : decode cX9_flushing 4 = .ok (.ifCond .ne 5, 3) := by decide +kernel
theorem dX9_flushing_7 : decode cX9_flushing 7 = .ok (.iconst 1, 1) := by decide +kernel
theorem dX9_flushing_8 : decode cX9_flushing 8 = .ok (.ireturn, 1) := by decide +kernel
theorem dX9_flushing_9 : decode cX9_flushing 9 = .ok (.lconst 0, 1) := by decide +kernel
theorem dX9_flushing_10 : decode cX9_flushing 10 = .ok (.lstore_n 1, 1) := by decide +kernel
theorem dX9_flushing_11 : decode cX9_flushing 11 = .ok (.aload_n 0, 1) := by decide +kernel
theorem dX9_flushing_12 : decode cX9_flushing 12 = .ok (.getfield 71, 3) := by decide +kernel
theorem dX9_flushing_15 : decode cX9_flushing 15 = .ok (.istore_n 3, 1) := by decide +kernel
theorem dX9_flushing_16 : decode cX9_flushing 16 = .ok (.iload_n 3, 1) := by decide +kernel
theorem dX9_flushing_17 : decode cX9_flushing 17 = .ok (.aload_n 0, 1) := by decide +kernel
theorem dX9_flushing_18 : decode cX9_flushing 18 = .ok (.getfield 74, 3) := by decide +kernel
theorem dX9_flushing_21 : decode cX9_flushing 21 = .ok (.if_icmp .ge 35, 3) := by decide +kernel
theorem dX9_flushing_24 : decode cX9_flushing 24 = .ok (.aload_n 0, 1) := by decide +kernel
theorem dX9_flushing_25 : decode cX9_flushing 25 = .ok (.getfield 85, 3) := by decide +kernel
