theorem dX8_init_0 : decode cX8_init 0 = .ok (.aload_n 0, 1) := by decide +kernel
theorem dX8_init_1 : decode cX8_init 1 = .ok (.invokespecial 1, 3) := by decide +kernel
theorem dX8_init_4 : decode cX8_init 4 = .ok (.aload_n 0, 1) := by decide +kernel
theorem dX8_init_5 : decode cX8_init 5 = .ok (.iload_n 1, 1) := by decide +kernel
theorem dX8_init_6 : decode cX8_init 6 = .ok (.bipush 20, 2) := by decide +kernel
theorem dX8_init_8 : decode cX8_init 8 = .ok (.bipush 48, 2) := by decide +kernel
theorem dX8_init_10 : decode cX8_init 10 = .ok (.invokestatic 9, 3) := by decide +kernel
theorem dX8_init_13 : decode cX8_init 13 = .ok (.putfield 13, 3) := by decide +kernel
theorem dX8_init_16 : decode cX8_init 16 = .ok (.aload_n 0, 1) := by decide +kernel
theorem dX8_init_17 : decode cX8_init 17 = .ok (.bipush 20, 2) := by decide +kernel
theorem dX8_init_19 : decode cX8_init 19 = .ok (.newarray .int, 2) := by decide +kernel
theorem dX8_init_21 : decode cX8_init 21 = .ok (.putfield 17, 3) := by decide +kernel
theorem dX8_init_24 : decode cX8_init 24 = .ok (.aload_n 0, 1) := by decide +kernel
theorem dX8_init_25 : decode cX8_init 25 = .ok (.iconst 0, 1) := by decide +kernel
theorem dX8_init_26 : decode cX8_init 26 = .ok (.putfield 21, 3) := by decide +kernel
theorem dX8_init_29 : decode cX8_init 29 = .ok (.aload_n 0, 1) := by decide +kernel
theorem dX8_init_30 : decode cX8_init 30 = .ok (.new 24, 3) := by decide +kernel
theorem dX8_init_33 : decode cX8_init 33 = .ok (.dup, 1) := by decide +kernel
theorem dX8_init_34 : decode cX8_init 34 = .ok (.invokespecial 26, 3) := by decide +kernel
theorem dX8_init_37 : decode cX8_init 37 = .ok (.putfield 27, 3) := by decide +kernel
theorem dX8_init_40 : decode cX8_init 40 = .ok (.aload_n 0, 1) := by decide +kernel
theorem dX8_init_41 : decode cX8_init 41 = .ok (.new 31, 3) := by decide +kernel
theorem dX8_init_44 : decode cX8_init 44 = .ok (.dup, 1) := by decide +kernel
theorem dX8_init_45 : decode cX8_init 45 = .ok (.aload_n 0, 1) := by decide +kernel
theorem dX8_init_46 : decode cX8_init 46 = .ok (.getfield 13, 3) := by decide +kernel
theorem dX8_init_49 : decode cX8_init 49 = .ok (.invokespecial 33, 3) := by decide +kernel
theorem dX8_init_52 : decode cX8_init 52 = .ok (.putfield 36, 3) := by decide +kernel
theorem dX8_init_55 : decode cX8_init 55 = .ok (.new 40, 3) := by decide +kernel
theorem dX8_init_58 : decode cX8_init 58 = .ok (.dup, 1) := by decide +kernel
theorem dX8_init_59 : decode cX8_init 59 = .ok (.iload_n 3, 1) := by decide +kernel
theorem dX8_init_60 : decode cX8_init 60 = .ok (.bipush 8, 2) := by decide +kernel
theorem dX8_init_62 : decode cX8_init 62 = .ok (.bipush 60, 2) := by decide +kernel
theorem dX8_init_64 : decode cX8_init 64 = .ok (.invokestatic 9, 3) := by decide +kernel
theorem dX8_init_67 : decode cX8_init 67 = .ok (.invokespecial 42, 3) := by decide +kernel
theorem dX8_init_70 : decode cX8_init 70 = .ok (.astore 4, 2) := by decide +kernel
theorem dX8_init_72 : decode cX8_init 72 = .ok (.aload_n 0, 1) := by decide +kernel
theorem dX8_init_73 : decode cX8_init 73 = .ok (.new 43, 3) := by decide +kernel
theorem dX8_init_76 : decode cX8_init 76 = .ok (.dup, 1) := by decide +kernel
theorem dX8_init_77 : decode cX8_init 77 = .ok (.aload_n 0, 1) := by decide +kernel
theorem dX8_init_78 : decode cX8_init 78 = .ok (.getfield 27, 3) := by decide +kernel
theorem dX8_init_81 : decode cX8_init 81 = .ok (.aload 4, 2) := by decide +kernel
theorem dX8_init_83 : decode cX8_init 83 = .ok (.iload_n 2, 1) := by decide +kernel
theorem dX8_init_84 : decode cX8_init 84 = .ok (.iconst 2, 1) := by decide +kernel
theorem dX8_init_85 : decode cX8_init 85 = .ok (.iconst 4, 1) := by decide +kernel
theorem dX8_init_86 : decode cX8_init 86 = .ok (.invokestatic 9, 3) := by decide +kernel
theorem dX8_init_89 : decode cX8_init 89 = .ok (.invokespecial 45, 3) := by decide +kernel
theorem dX8_init_92 : decode cX8_init 92 = .ok (.putfield 48, 3) := by decide +kernel
theorem dX8_init_95 : decode cX8_init 95 = .ok (.aload_n 0, 1) := by decide +kernel
theorem dX8_init_96 : decode cX8_init 96 = .ok (.new 52, 3) := by decide +kernel
theorem dX8_init_99 : decode cX8_init 99 = .ok (.dup, 1) := by decide +kernel
theorem dX8_init_100 : decode cX8_init 100 = .ok (.invokespecial 54, 3) := by decide +kernel
theorem dX8_init_103 : decode cX8_init 103 = .ok (.putfield 55, 3) := by decide +kernel
theorem dX8_init_106 : decode cX8_init 106 = .ok (.aload_n 0, 1) := by decide +kernel
theorem dX8_init_107 : decode cX8_init 107 = .ok (.new 52, 3) := by decide +kernel
theorem dX8_init_110 : decode cX8_init 110 = .ok (.dup, 1) := by decide +kernel
theorem dX8_init_111 : decode cX8_init 111 = .ok (.invokespecial 54, 3) := by decide +kernel
theorem dX8_init_114 : decode cX8_init 114 = .ok (.putfield 59, 3) := by decide +kernel
theorem dX8_init_117 : decode cX8_init 117 = .ok (.aload_n 0, 1) := by decide +kernel
theorem dX8_init_118 : decode cX8_init 118 = .ok (.new 62, 3) := by decide +kernel
theorem dX8_init_121 : decode cX8_init 121 = .ok (.dup, 1) := by decide +kernel
theorem dX8_init_122 : decode cX8_init 122 = .ok (.invokespecial 64, 3) := by decide +kernel
theorem dX8_init_125 : decode cX8_init 125 = .ok (.putfield 65, 3) := by decide +kernel
theorem dX8_init_128 : decode cX8_init 128 = .ok (.return_, 1) := by decide +kernel
theorem dX8_word_0 : decode cX8_word 0 = .ok (.iload_n 1, 1) := by decide +kernel
theorem dX8_word_1 : decode cX8_word 1 = .ok (.invokestatic 69, 3) := by decide +kernel
theorem dX8_word_4 : decode cX8_word 4 = .ok (.ifCond .ne 13, 3) := by decide +kernel
theorem dX8_word_7 : decode cX8_word 7 = .ok (.new 73, 3) := by decide +kernel
theorem dX8_word_10 : decode cX8_word 10 = .ok (.dup, 1) := by decide +kernel
theorem dX8_word_11 : decode cX8_word 11 = .ok (.ldc 75, 2) := by decide +kernel
theorem dX8_word_13 : decode cX8_word 13 = .ok (.invokespecial 77, 3) := by decide +kernel
theorem dX8_word_16 : decode cX8_word 16 = .ok (.athrow, 1) := by decide +kernel
theorem dX8_word_17 : decode cX8_word 17 = .ok (.aload_n 0, 1) := by decide +kernel
theorem dX8_word_18 : decode cX8_word 18 = .ok (.getfield 21, 3) := by decide +kernel
theorem dX8_word_21 : decode cX8_word 21 = .ok (.bipush 20, 2) := by decide +kernel
theorem dX8_word_23 : decode cX8_word 23 = .ok (.if_icmp .lt 13, 3) := by decide +kernel
theorem dX8_word_26 : decode cX8_word 26 = .ok (.new 80, 3) := by decide +kernel
theorem dX8_word_29 : decode cX8_word 29 = .ok (.dup, 1) := by decide +kernel
theorem dX8_word_30 : decode cX8_word 30 = .ok (.ldc 82, 2) := by decide +kernel
theorem dX8_word_32 : decode cX8_word 32 = .ok (.invokespecial 84, 3) := by decide +kernel
theorem dX8_word_35 : decode cX8_word 35 = .ok (.athrow, 1) := by decide +kernel
theorem dX8_word_36 : decode cX8_word 36 = .ok (.aload_n 0, 1) := by decide +kernel
theorem dX8_word_37 : decode cX8_word 37 = .ok (.getfield 17, 3) := by decide +kernel
theorem dX8_word_40 : decode cX8_word 40 = .ok (.aload_n 0, 1) := by decide +kernel
theorem dX8_word_41 : decode cX8_word 41 = .ok (.getfield 21, 3) := by decide +kernel
theorem dX8_word_44 : decode cX8_word 44 = .ok (.iload_n 1, 1) := by decide +kernel
theorem dX8_word_45 : decode cX8_word 45 = .ok (.iastore, 1) := by decide +kernel
theorem dX8_word_46 : decode cX8_word 46 = .ok (.aload_n 0, 1) := by decide +kernel
theorem dX8_word_47 : decode cX8_word 47 = .ok (.dup, 1) := by decide +kernel
theorem dX8_word_48 : decode cX8_word 48 = .ok (.getfield 21, 3) := by decide +kernel
theorem dX8_word_51 : decode cX8_word 51 = .ok (.iconst 1, 1) := by decide +kernel
theorem dX8_word_52 : decode cX8_word 52 = .ok (.iadd, 1) := by decide +kernel
theorem dX8_word_53 : decode cX8_word 53 = .ok (.putfield 21, 3) := by decide +kernel
theorem dX8_word_56 : decode cX8_word 56 = .ok (.aload_n 0, 1) := by decide +kernel
theorem dX8_word_57 : decode cX8_word 57 = .ok (.getfield 21, 3) := by decide +kernel
theorem dX8_word_60 : decode cX8_word 60 = .ok (.iconst 1, 1) := by decide +kernel
theorem dX8_word_61 : decode cX8_word 61 = .ok (.isub, 1) := by decide +kernel
theorem dX8_word_62 : decode cX8_word 62 = .ok (.ireturn, 1) := by decide +kernel
theorem dX8_close_0 : decode cX8_close 0 = .ok (.aload_n 0, 1) := by decide +kernel
theorem dX8_close_1 : decode cX8_close 1 = .ok (.getfield 27, 3) := by decide +kernel
theorem dX8_close_4 : decode cX8_close 4 = .ok (.invokevirtual 85, 3) := by decide +kernel
theorem dX8_close_7 : decode cX8_close 7 = .ok (.bipush 40, 2) := by decide +kernel
theorem dX8_close_9 : decode cX8_close 9 = .ok (.if_icmp .lt 13, 3) := by decide +kernel
theorem dX8_close_12 : decode cX8_close 12 = .ok (.new 80, 3) := by decide +kernel
theorem dX8_close_15 : decode cX8_close 15 = .ok (.dup, 1) := by decide +kernel
theorem dX8_close_16 : decode cX8_close 16 = .ok (.ldc 89, 2) := by decide +kernel
theorem dX8_close_18 : decode cX8_close 18 = .ok (.invokespecial 84, 3) := by decide +kernel
theorem dX8_close_21 : decode cX8_close 21 = .ok (.athrow, 1) := by decide +kernel
theorem dX8_close_22 : decode cX8_close 22 = .ok (.aload_n 0, 1) := by decide +kernel
theorem dX8_close_23 : decode cX8_close 23 = .ok (.getfield 36, 3) := by decide +kernel
theorem dX8_close_26 : decode cX8_close 26 = .ok (.invokevirtual 91, 3) := by decide +kernel
theorem dX8_close_29 : decode cX8_close 29 = .ok (.aload_n 0, 1) := by decide +kernel
theorem dX8_close_30 : decode cX8_close 30 = .ok (.getfield 21, 3) := by decide +kernel
theorem dX8_close_33 : decode cX8_close 33 = .ok (.iadd, 1) := by decide +kernel
theorem dX8_close_34 : decode cX8_close 34 = .ok (.aload_n 0, 1) := by decide +kernel
theorem dX8_close_35 : decode cX8_close 35 = .ok (.getfield 13, 3) := by decide +kernel
theorem dX8_close_38 : decode cX8_close 38 = .ok (.if_icmp .le 20, 3) := by decide +kernel
theorem dX8_close_41 : decode cX8_close 41 = .ok (.aload_n 0, 1) := by decide +kernel
theorem dX8_close_42 : decode cX8_close 42 = .ok (.invokevirtual 92, 3) := by decide +kernel
theorem dX8_close_45 : decode cX8_close 45 = .ok (.ifCond .ne 13, 3) := by decide +kernel
theorem dX8_close_48 : decode cX8_close 48 = .ok (.new 96, 3) := by decide +kernel
theorem dX8_close_51 : decode cX8_close 51 = .ok (.dup, 1) := by decide +kernel
theorem dX8_close_52 : decode cX8_close 52 = .ok (.ldc 98, 2) := by decide +kernel
theorem dX8_close_54 : decode cX8_close 54 = .ok (.invokespecial 100, 3) := by decide +kernel
theorem dX8_close_57 : decode cX8_close 57 = .ok (.athrow, 1) := by decide +kernel
theorem dX8_close_58 : decode cX8_close 58 = .ok (.aload_n 0, 1) := by decide +kernel
theorem dX8_close_59 : decode cX8_close 59 = .ok (.getfield 27, 3) := by decide +kernel
theorem dX8_close_62 : decode cX8_close 62 = .ok (.invokevirtual 101, 3) := by decide +kernel
theorem dX8_close_65 : decode cX8_close 65 = .ok (.istore_n 1, 1) := by decide +kernel
theorem dX8_close_66 : decode cX8_close 66 = .ok (.iconst 0, 1) := by decide +kernel
theorem dX8_close_67 : decode cX8_close 67 = .ok (.istore_n 2, 1) := by decide +kernel
theorem dX8_close_68 : decode cX8_close 68 = .ok (.iload_n 2, 1) := by decide +kernel
theorem dX8_close_69 : decode cX8_close 69 = .ok (.aload_n 0, 1) := by decide +kernel
theorem dX8_close_70 : decode cX8_close 70 = .ok (.getfield 21, 3) := by decide +kernel
theorem dX8_close_73 : decode cX8_close 73 = .ok (.if_icmp .ge 27, 3) := by decide +kernel
theorem dX8_close_76 : decode cX8_close 76 = .ok (.aload_n 0, 1) := by decide +kernel
theorem dX8_close_77 : decode cX8_close 77 = .ok (.getfield 36, 3) := by decide +kernel
theorem dX8_close_80 : decode cX8_close 80 = .ok (.aload_n 0, 1) := by decide +kernel
theorem dX8_close_81 : decode cX8_close 81 = .ok (.getfield 17, 3) := by decide +kernel
theorem dX8_close_84 : decode cX8_close 84 = .ok (.iload_n 2, 1) := by decide +kernel
theorem dX8_close_85 : decode cX8_close 85 = .ok (.iaload, 1) := by decide +kernel
theorem dX8_close_86 : decode cX8_close 86 = .ok (.iload_n 1, 1) := by decide +kernel
theorem dX8_close_87 : decode cX8_close 87 = .ok (.iload_n 2, 1) := by decide +kernel
theorem dX8_close_88 : decode cX8_close 88 = .ok (.invokestatic 104, 3) := by decide +kernel
theorem dX8_close_91 : decode cX8_close 91 = .ok (.invokevirtual 107, 3) := by decide +kernel
theorem dX8_close_94 : decode cX8_close 94 = .ok (.iinc 2 1, 3) := by decide +kernel
theorem dX8_close_97 : decode cX8_close 97 = .ok (.goto (-29), 3) := by decide +kernel
theorem dX8_close_100 : decode cX8_close 100 = .ok (.aload_n 0, 1) := by decide +kernel
theorem dX8_close_101 : decode cX8_close 101 = .ok (.iconst 0, 1) := by decide +kernel
theorem dX8_close_102 : decode cX8_close 102 = .ok (.putfield 21, 3) := by decide +kernel
theorem dX8_close_105 : decode cX8_close 105 = .ok (.iload_n 1, 1) := by decide +kernel
theorem dX8_close_106 : decode cX8_close 106 = .ok (.ireturn, 1) := by decide +kernel
theorem dX8_drop_0 : decode cX8_drop 0 = .ok (.aload_n 0, 1) := by decide +kernel
theorem dX8_drop_1 : decode cX8_drop 1 = .ok (.getfield 27, 3) := by decide +kernel
theorem dX8_drop_4 : decode cX8_drop 4 = .ok (.iload_n 1, 1) := by decide +kernel
theorem dX8_drop_5 : decode cX8_drop 5 = .ok (.invokevirtual 110, 3) := by decide +kernel
theorem dX8_drop_8 : decode cX8_drop 8 = .ok (.ifCond .ne 13, 3) := by decide +kernel
theorem dX8_drop_11 : decode cX8_drop 11 = .ok (.new 113, 3) := by decide +kernel
theorem dX8_drop_14 : decode cX8_drop 14 = .ok (.dup, 1) := by decide +kernel
theorem dX8_drop_15 : decode cX8_drop 15 = .ok (.ldc 115, 2) := by decide +kernel
theorem dX8_drop_17 : decode cX8_drop 17 = .ok (.invokespecial 117, 3) := by decide +kernel
theorem dX8_drop_20 : decode cX8_drop 20 = .ok (.athrow, 1) := by decide +kernel
theorem dX8_drop_21 : decode cX8_drop 21 = .ok (.aload_n 0, 1) := by decide +kernel
theorem dX8_drop_22 : decode cX8_drop 22 = .ok (.getfield 27, 3) := by decide +kernel
theorem dX8_drop_25 : decode cX8_drop 25 = .ok (.iload_n 1, 1) := by decide +kernel
theorem dX8_drop_26 : decode cX8_drop 26 = .ok (.invokevirtual 118, 3) := by decide +kernel
theorem dX8_drop_29 : decode cX8_drop 29 = .ok (.aload_n 0, 1) := by decide +kernel
theorem dX8_drop_30 : decode cX8_drop 30 = .ok (.getfield 27, 3) := by decide +kernel
theorem dX8_drop_33 : decode cX8_drop 33 = .ok (.invokevirtual 121, 3) := by decide +kernel
theorem dX8_drop_36 : decode cX8_drop 36 = .ok (.ireturn, 1) := by decide +kernel
theorem dX8_flush_0 : decode cX8_flush 0 = .ok (.aload_n 0, 1) := by decide +kernel
theorem dX8_flush_1 : decode cX8_flush 1 = .ok (.invokevirtual 92, 3) := by decide +kernel
theorem dX8_flush_4 : decode cX8_flush 4 = .ok (.ifCond .ne 13, 3) := by decide +kernel
theorem dX8_flush_7 : decode cX8_flush 7 = .ok (.new 96, 3) := by decide +kernel
theorem dX8_flush_10 : decode cX8_flush 10 = .ok (.dup, 1) := by decide +kernel
theorem dX8_flush_11 : decode cX8_flush 11 = .ok (.ldc 98, 2) := by decide +kernel
theorem dX8_flush_13 : decode cX8_flush 13 = .ok (.invokespecial 100, 3) := by decide +kernel
theorem dX8_flush_16 : decode cX8_flush 16 = .ok (.athrow, 1) := by decide +kernel
theorem dX8_flush_17 : decode cX8_flush 17 = .ok (.aload_n 0, 1) := by decide +kernel
theorem dX8_flush_18 : decode cX8_flush 18 = .ok (.getfield 48, 3) := by decide +kernel
theorem dX8_flush_21 : decode cX8_flush 21 = .ok (.invokevirtual 124, 3) := by decide +kernel
theorem dX8_flush_24 : decode cX8_flush 24 = .ok (.ireturn, 1) := by decide +kernel
theorem dX8_finish_0 : decode cX8_finish 0 = .ok (.aload_n 0, 1) := by decide +kernel
theorem dX8_finish_1 : decode cX8_finish 1 = .ok (.invokevirtual 92, 3) := by decide +kernel
theorem dX8_finish_4 : decode cX8_finish 4 = .ok (.ifCond .ne 13, 3) := by decide +kernel
theorem dX8_finish_7 : decode cX8_finish 7 = .ok (.new 96, 3) := by decide +kernel
theorem dX8_finish_10 : decode cX8_finish 10 = .ok (.dup, 1) := by decide +kernel
theorem dX8_finish_11 : decode cX8_finish 11 = .ok (.ldc 98, 2) := by decide +kernel
theorem dX8_finish_13 : decode cX8_finish 13 = .ok (.invokespecial 100, 3) := by decide +kernel
theorem dX8_finish_16 : decode cX8_finish 16 = .ok (.athrow, 1) := by decide +kernel
theorem dX8_finish_17 : decode cX8_finish 17 = .ok (.aload_n 0, 1) := by decide +kernel
theorem dX8_finish_18 : decode cX8_finish 18 = .ok (.getfield 48, 3) := by decide +kernel
theorem dX8_finish_21 : decode cX8_finish 21 = .ok (.invokevirtual 125, 3) := by decide +kernel
theorem dX8_finish_24 : decode cX8_finish 24 = .ok (.ifCond .ne 13, 3) := by decide +kernel
theorem dX8_finish_27 : decode cX8_finish 27 = .ok (.new 96, 3) := by decide +kernel
theorem dX8_finish_30 : decode cX8_finish 30 = .ok (.dup, 1) := by decide +kernel
theorem dX8_finish_31 : decode cX8_finish 31 = .ok (.ldc 128, 2) := by decide +kernel
theorem dX8_finish_33 : decode cX8_finish 33 = .ok (.invokespecial 100, 3) := by decide +kernel
theorem dX8_finish_36 : decode cX8_finish 36 = .ok (.athrow, 1) := by decide +kernel
theorem dX8_finish_37 : decode cX8_finish 37 = .ok (.aload_n 0, 1) := by decide +kernel
theorem dX8_finish_38 : decode cX8_finish 38 = .ok (.getfield 48, 3) := by decide +kernel
theorem dX8_finish_41 : decode cX8_finish 41 = .ok (.invokevirtual 124, 3) := by decide +kernel
theorem dX8_finish_44 : decode cX8_finish 44 = .ok (.ireturn, 1) := by decide +kernel
theorem dX8_find_0 : decode cX8_find 0 = .ok (.iload_n 1, 1) := by decide +kernel
theorem dX8_find_1 : decode cX8_find 1 = .ok (.invokestatic 69, 3) := by decide +kernel
theorem dX8_find_4 : decode cX8_find 4 = .ok (.ifCond .eq 19, 3) := by decide +kernel
theorem dX8_find_7 : decode cX8_find 7 = .ok (.iload_n 2, 1) := by decide +kernel
theorem dX8_find_8 : decode cX8_find 8 = .ok (.invokestatic 69, 3) := by decide +kernel
theorem dX8_find_11 : decode cX8_find 11 = .ok (.ifCond .eq 12, 3) := by decide +kernel
theorem dX8_find_14 : decode cX8_find 14 = .ok (.iload_n 3, 1) := by decide +kernel
theorem dX8_find_15 : decode cX8_find 15 = .ok (.ifCond .lt 8, 3) := by decide +kernel
theorem dX8_find_18 : decode cX8_find 18 = .ok (.iload_n 3, 1) := by decide +kernel
theorem dX8_find_19 : decode cX8_find 19 = .ok (.iconst 3, 1) := by decide +kernel
theorem dX8_find_20 : decode cX8_find 20 = .ok (.if_icmp .le 13, 3) := by decide +kernel
theorem dX8_find_23 : decode cX8_find 23 = .ok (.new 73, 3) := by decide +kernel
theorem dX8_find_26 : decode cX8_find 26 = .ok (.dup, 1) := by decide +kernel
theorem dX8_find_27 : decode cX8_find 27 = .ok (.ldc 130, 2) := by decide +kernel
theorem dX8_find_29 : decode cX8_find 29 = .ok (.invokespecial 77, 3) := by decide +kernel
theorem dX8_find_32 : decode cX8_find 32 = .ok (.athrow, 1) := by decide +kernel
theorem dX8_find_33 : decode cX8_find 33 = .ok (.aload_n 0, 1) := by decide +kernel
theorem dX8_find_34 : decode cX8_find 34 = .ok (.iload_n 1, 1) := by decide +kernel
theorem dX8_find_35 : decode cX8_find 35 = .ok (.iload_n 2, 1) := by decide +kernel
theorem dX8_find_36 : decode cX8_find 36 = .ok (.invokevirtual 132, 3) := by decide +kernel
theorem dX8_find_39 : decode cX8_find 39 = .ok (.aload_n 0, 1) := by decide +kernel
theorem dX8_find_40 : decode cX8_find 40 = .ok (.getfield 65, 3) := by decide +kernel
theorem dX8_find_43 : decode cX8_find 43 = .ok (.iconst 0, 1) := by decide +kernel
theorem dX8_find_44 : decode cX8_find 44 = .ok (.invokevirtual 136, 3) := by decide +kernel
theorem dX8_find_47 : decode cX8_find 47 = .ok (.iconst 0, 1) := by decide +kernel
theorem dX8_find_48 : decode cX8_find 48 = .ok (.istore 4, 2) := by decide +kernel
theorem dX8_find_50 : decode cX8_find 50 = .ok (.iload 4, 2) := by decide +kernel
theorem dX8_find_52 : decode cX8_find 52 = .ok (.aload_n 0, 1) := by decide +kernel
theorem dX8_find_53 : decode cX8_find 53 = .ok (.getfield 27, 3) := by decide +kernel
theorem dX8_find_56 : decode cX8_find 56 = .ok (.invokevirtual 85, 3) := by decide +kernel
theorem dX8_find_59 : decode cX8_find 59 = .ok (.if_icmp .ge 29, 3) := by decide +kernel
theorem dX8_find_62 : decode cX8_find 62 = .ok (.aload_n 0, 1) := by decide +kernel
theorem dX8_find_63 : decode cX8_find 63 = .ok (.iload 4, 2) := by decide +kernel
theorem dX8_find_65 : decode cX8_find 65 = .ok (.iload_n 3, 1) := by decide +kernel
theorem dX8_find_66 : decode cX8_find 66 = .ok (.invokevirtual 140, 3) := by decide +kernel
theorem dX8_find_69 : decode cX8_find 69 = .ok (.ifCond .eq 13, 3) := by decide +kernel
theorem dX8_find_72 : decode cX8_find 72 = .ok (.aload_n 0, 1) := by decide +kernel
theorem dX8_find_73 : decode cX8_find 73 = .ok (.getfield 65, 3) := by decide +kernel
theorem dX8_find_76 : decode cX8_find 76 = .ok (.iload 4, 2) := by decide +kernel
theorem dX8_find_78 : decode cX8_find 78 = .ok (.dconst 0, 1) := by decide +kernel
theorem dX8_find_79 : decode cX8_find 79 = .ok (.invokevirtual 144, 3) := by decide +kernel
theorem dX8_find_82 : decode cX8_find 82 = .ok (.iinc 4 1, 3) := by decide +kernel
theorem dX8_find_85 : decode cX8_find 85 = .ok (.goto (-35), 3) := by decide +kernel
theorem dX8_find_88 : decode cX8_find 88 = .ok (.aload_n 0, 1) := by decide +kernel
theorem dX8_find_89 : decode cX8_find 89 = .ok (.getfield 65, 3) := by decide +kernel
theorem dX8_find_92 : decode cX8_find 92 = .ok (.invokevirtual 148, 3) := by decide +kernel
theorem dX8_find_95 : decode cX8_find 95 = .ok (.ireturn, 1) := by decide +kernel
theorem dX8_rank_0 : decode cX8_rank 0 = .ok (.iload_n 1, 1) := by decide +kernel
theorem dX8_rank_1 : decode cX8_rank 1 = .ok (.invokestatic 69, 3) := by decide +kernel
theorem dX8_rank_4 : decode cX8_rank 4 = .ok (.ifCond .eq 10, 3) := by decide +kernel
theorem dX8_rank_7 : decode cX8_rank 7 = .ok (.iload_n 2, 1) := by decide +kernel
theorem dX8_rank_8 : decode cX8_rank 8 = .ok (.invokestatic 69, 3) := by decide +kernel
theorem dX8_rank_11 : decode cX8_rank 11 = .ok (.ifCond .ne 13, 3) := by decide +kernel
theorem dX8_rank_14 : decode cX8_rank 14 = .ok (.new 73, 3) := by decide +kernel
theorem dX8_rank_17 : decode cX8_rank 17 = .ok (.dup, 1) := by decide +kernel
theorem dX8_rank_18 : decode cX8_rank 18 = .ok (.ldc 75, 2) := by decide +kernel
theorem dX8_rank_20 : decode cX8_rank 20 = .ok (.invokespecial 77, 3) := by decide +kernel
theorem dX8_rank_23 : decode cX8_rank 23 = .ok (.athrow, 1) := by decide +kernel
theorem dX8_rank_24 : decode cX8_rank 24 = .ok (.aload_n 0, 1) := by decide +kernel
theorem dX8_rank_25 : decode cX8_rank 25 = .ok (.iload_n 1, 1) := by decide +kernel
theorem dX8_rank_26 : decode cX8_rank 26 = .ok (.iload_n 2, 1) := by decide +kernel
theorem dX8_rank_27 : decode cX8_rank 27 = .ok (.invokevirtual 132, 3) := by decide +kernel
theorem dX8_rank_30 : decode cX8_rank 30 = .ok (.aload_n 0, 1) := by decide +kernel
theorem dX8_rank_31 : decode cX8_rank 31 = .ok (.getfield 55, 3) := by decide +kernel
theorem dX8_rank_34 : decode cX8_rank 34 = .ok (.invokevirtual 149, 3) := by decide +kernel
theorem dX8_rank_37 : decode cX8_rank 37 = .ok (.istore_n 3, 1) := by decide +kernel
theorem dX8_rank_38 : decode cX8_rank 38 = .ok (.aload_n 0, 1) := by decide +kernel
theorem dX8_rank_39 : decode cX8_rank 39 = .ok (.getfield 59, 3) := by decide +kernel
theorem dX8_rank_42 : decode cX8_rank 42 = .ok (.invokevirtual 149, 3) := by decide +kernel
theorem dX8_rank_45 : decode cX8_rank 45 = .ok (.istore 4, 2) := by decide +kernel
theorem dX8_rank_47 : decode cX8_rank 47 = .ok (.aload_n 0, 1) := by decide +kernel
theorem dX8_rank_48 : decode cX8_rank 48 = .ok (.getfield 65, 3) := by decide +kernel
theorem dX8_rank_51 : decode cX8_rank 51 = .ok (.iconst 1, 1) := by decide +kernel
theorem dX8_rank_52 : decode cX8_rank 52 = .ok (.invokevirtual 136, 3) := by decide +kernel
theorem dX8_rank_55 : decode cX8_rank 55 = .ok (.iconst 0, 1) := by decide +kernel
theorem dX8_rank_56 : decode cX8_rank 56 = .ok (.istore 5, 2) := by decide +kernel
theorem dX8_rank_58 : decode cX8_rank 58 = .ok (.iload 5, 2) := by decide +kernel
theorem dX8_rank_60 : decode cX8_rank 60 = .ok (.aload_n 0, 1) := by decide +kernel
theorem dX8_rank_61 : decode cX8_rank 61 = .ok (.getfield 27, 3) := by decide +kernel
theorem dX8_rank_64 : decode cX8_rank 64 = .ok (.invokevirtual 85, 3) := by decide +kernel
theorem dX8_rank_67 : decode cX8_rank 67 = .ok (.if_icmp .ge 50, 3) := by decide +kernel
theorem dX8_rank_70 : decode cX8_rank 70 = .ok (.aload_n 0, 1) := by decide +kernel
theorem dX8_rank_71 : decode cX8_rank 71 = .ok (.iload 5, 2) := by decide +kernel
theorem dX8_rank_73 : decode cX8_rank 73 = .ok (.iconst 1, 1) := by decide +kernel
theorem dX8_rank_74 : decode cX8_rank 74 = .ok (.invokevirtual 140, 3) := by decide +kernel
theorem dX8_rank_77 : decode cX8_rank 77 = .ok (.ifCond .eq 34, 3) := by decide +kernel
theorem dX8_rank_80 : decode cX8_rank 80 = .ok (.aload_n 0, 1) := by decide +kernel
theorem dX8_rank_81 : decode cX8_rank 81 = .ok (.getfield 65, 3) := by decide +kernel
theorem dX8_rank_84 : decode cX8_rank 84 = .ok (.iload 5, 2) := by decide +kernel
theorem dX8_rank_86 : decode cX8_rank 86 = .ok (.aload_n 0, 1) := by decide +kernel
theorem dX8_rank_87 : decode cX8_rank 87 = .ok (.getfield 55, 3) := by decide +kernel
theorem dX8_rank_90 : decode cX8_rank 90 = .ok (.iload 5, 2) := by decide +kernel
theorem dX8_rank_92 : decode cX8_rank 92 = .ok (.iload_n 3, 1) := by decide +kernel
theorem dX8_rank_93 : decode cX8_rank 93 = .ok (.invokevirtual 152, 3) := by decide +kernel
theorem dX8_rank_96 : decode cX8_rank 96 = .ok (.aload_n 0, 1) := by decide +kernel
theorem dX8_rank_97 : decode cX8_rank 97 = .ok (.getfield 59, 3) := by decide +kernel
theorem dX8_rank_100 : decode cX8_rank 100 = .ok (.iload 5, 2) := by decide +kernel
theorem dX8_rank_102 : decode cX8_rank 102 = .ok (.iload 4, 2) := by decide +kernel
theorem dX8_rank_104 : decode cX8_rank 104 = .ok (.invokevirtual 152, 3) := by decide +kernel
theorem dX8_rank_107 : decode cX8_rank 107 = .ok (.dadd, 1) := by decide +kernel
theorem dX8_rank_108 : decode cX8_rank 108 = .ok (.invokevirtual 144, 3) := by decide +kernel
theorem dX8_rank_111 : decode cX8_rank 111 = .ok (.iinc 5 1, 3) := by decide +kernel
theorem dX8_rank_114 : decode cX8_rank 114 = .ok (.goto (-56), 3) := by decide +kernel
theorem dX8_rank_117 : decode cX8_rank 117 = .ok (.aload_n 0, 1) := by decide +kernel
theorem dX8_rank_118 : decode cX8_rank 118 = .ok (.getfield 65, 3) := by decide +kernel
theorem dX8_rank_121 : decode cX8_rank 121 = .ok (.invokevirtual 148, 3) := by decide +kernel
theorem dX8_rank_124 : decode cX8_rank 124 = .ok (.ireturn, 1) := by decide +kernel
theorem dX8_result_0 : decode cX8_result 0 = .ok (.iload_n 1, 1) := by decide +kernel
theorem dX8_result_1 : decode cX8_result 1 = .ok (.ifCond .lt 14, 3) := by decide +kernel
theorem dX8_result_4 : decode cX8_result 4 = .ok (.iload_n 1, 1) := by decide +kernel
theorem dX8_result_5 : decode cX8_result 5 = .ok (.aload_n 0, 1) := by decide +kernel
theorem dX8_result_6 : decode cX8_result 6 = .ok (.getfield 65, 3) := by decide +kernel
theorem dX8_result_9 : decode cX8_result 9 = .ok (.invokevirtual 148, 3) := by decide +kernel
theorem dX8_result_12 : decode cX8_result 12 = .ok (.if_icmp .lt 13, 3) := by decide +kernel
theorem dX8_result_15 : decode cX8_result 15 = .ok (.new 113, 3) := by decide +kernel
theorem dX8_result_18 : decode cX8_result 18 = .ok (.dup, 1) := by decide +kernel
theorem dX8_result_19 : decode cX8_result 19 = .ok (.ldc 156, 2) := by decide +kernel
theorem dX8_result_21 : decode cX8_result 21 = .ok (.invokespecial 117, 3) := by decide +kernel
theorem dX8_result_24 : decode cX8_result 24 = .ok (.athrow, 1) := by decide +kernel
theorem dX8_result_25 : decode cX8_result 25 = .ok (.aload_n 0, 1) := by decide +kernel
theorem dX8_result_26 : decode cX8_result 26 = .ok (.getfield 65, 3) := by decide +kernel
theorem dX8_result_29 : decode cX8_result 29 = .ok (.iload_n 1, 1) := by decide +kernel
theorem dX8_result_30 : decode cX8_result 30 = .ok (.invokevirtual 158, 3) := by decide +kernel
theorem dX8_result_33 : decode cX8_result 33 = .ok (.ireturn, 1) := by decide +kernel
theorem dX8_score_0 : decode cX8_score 0 = .ok (.iload_n 1, 1) := by decide +kernel
theorem dX8_score_1 : decode cX8_score 1 = .ok (.ifCond .lt 14, 3) := by decide +kernel
theorem dX8_score_4 : decode cX8_score 4 = .ok (.iload_n 1, 1) := by decide +kernel
theorem dX8_score_5 : decode cX8_score 5 = .ok (.aload_n 0, 1) := by decide +kernel
theorem dX8_score_6 : decode cX8_score 6 = .ok (.getfield 65, 3) := by decide +kernel
theorem dX8_score_9 : decode cX8_score 9 = .ok (.invokevirtual 148, 3) := by decide +kernel
theorem dX8_score_12 : decode cX8_score 12 = .ok (.if_icmp .lt 13, 3) := by decide +kernel
theorem dX8_score_15 : decode cX8_score 15 = .ok (.new 113, 3) := by decide +kernel
theorem dX8_score_18 : decode cX8_score 18 = .ok (.dup, 1) := by decide +kernel
theorem dX8_score_19 : decode cX8_score 19 = .ok (.ldc 156, 2) := by decide +kernel
theorem dX8_score_21 : decode cX8_score 21 = .ok (.invokespecial 117, 3) := by decide +kernel
theorem dX8_score_24 : decode cX8_score 24 = .ok (.athrow, 1) := by decide +kernel
theorem dX8_score_25 : decode cX8_score 25 = .ok (.aload_n 0, 1) := by decide +kernel
theorem dX8_score_26 : decode cX8_score 26 = .ok (.getfield 65, 3) := by decide +kernel
theorem dX8_score_29 : decode cX8_score 29 = .ok (.invokevirtual 162, 3) := by decide +kernel
theorem dX8_score_32 : decode cX8_score 32 = .ok (.ifCond .ne 13, 3) := by decide +kernel
theorem dX8_score_35 : decode cX8_score 35 = .ok (.new 96, 3) := by decide +kernel
theorem dX8_score_38 : decode cX8_score 38 = .ok (.dup, 1) := by decide +kernel
theorem dX8_score_39 : decode cX8_score 39 = .ok (.ldc 165, 2) := by decide +kernel
theorem dX8_score_41 : decode cX8_score 41 = .ok (.invokespecial 100, 3) := by decide +kernel
theorem dX8_score_44 : decode cX8_score 44 = .ok (.athrow, 1) := by decide +kernel
theorem dX8_score_45 : decode cX8_score 45 = .ok (.aload_n 0, 1) := by decide +kernel
theorem dX8_score_46 : decode cX8_score 46 = .ok (.getfield 65, 3) := by decide +kernel
theorem dX8_score_49 : decode cX8_score 49 = .ok (.iload_n 1, 1) := by decide +kernel
theorem dX8_score_50 : decode cX8_score 50 = .ok (.invokevirtual 167, 3) := by decide +kernel
theorem dX8_score_53 : decode cX8_score 53 = .ok (.dreturn, 1) := by decide +kernel
theorem dX8_byteOf_0 : decode cX8_byteOf 0 = .ok (.aload_n 0, 1) := by decide +kernel
theorem dX8_byteOf_1 : decode cX8_byteOf 1 = .ok (.getfield 48, 3) := by decide +kernel
theorem dX8_byteOf_4 : decode cX8_byteOf 4 = .ok (.iload_n 1, 1) := by decide +kernel
theorem dX8_byteOf_5 : decode cX8_byteOf 5 = .ok (.iload_n 2, 1) := by decide +kernel
theorem dX8_byteOf_6 : decode cX8_byteOf 6 = .ok (.invokevirtual 171, 3) := by decide +kernel
theorem dX8_byteOf_9 : decode cX8_byteOf 9 = .ok (.ifCond .ne 13, 3) := by decide +kernel
theorem dX8_byteOf_12 : decode cX8_byteOf 12 = .ok (.new 174, 3) := by decide +kernel
theorem dX8_byteOf_15 : decode cX8_byteOf 15 = .ok (.dup, 1) := by decide +kernel
theorem dX8_byteOf_16 : decode cX8_byteOf 16 = .ok (.ldc 176, 2) := by decide +kernel
theorem dX8_byteOf_18 : decode cX8_byteOf 18 = .ok (.invokespecial 178, 3) := by decide +kernel
theorem dX8_byteOf_21 : decode cX8_byteOf 21 = .ok (.athrow, 1) := by decide +kernel
theorem dX8_byteOf_22 : decode cX8_byteOf 22 = .ok (.aload_n 0, 1) := by decide +kernel
theorem dX8_byteOf_23 : decode cX8_byteOf 23 = .ok (.getfield 48, 3) := by decide +kernel
theorem dX8_byteOf_26 : decode cX8_byteOf 26 = .ok (.iload_n 1, 1) := by decide +kernel
theorem dX8_byteOf_27 : decode cX8_byteOf 27 = .ok (.iload_n 2, 1) := by decide +kernel
theorem dX8_byteOf_28 : decode cX8_byteOf 28 = .ok (.invokevirtual 179, 3) := by decide +kernel
theorem dX8_byteOf_31 : decode cX8_byteOf 31 = .ok (.ireturn, 1) := by decide +kernel
theorem dX8_run_0 : decode cX8_run 0 = .ok (.iload_n 1, 1) := by decide +kernel
theorem dX8_run_1 : decode cX8_run 1 = .ok (.ifCond .lt 14, 3) := by decide +kernel
theorem dX8_run_4 : decode cX8_run 4 = .ok (.iload_n 1, 1) := by decide +kernel
theorem dX8_run_5 : decode cX8_run 5 = .ok (.aload_n 0, 1) := by decide +kernel
theorem dX8_run_6 : decode cX8_run 6 = .ok (.getfield 48, 3) := by decide +kernel
theorem dX8_run_9 : decode cX8_run 9 = .ok (.invokevirtual 124, 3) := by decide +kernel
theorem dX8_run_12 : decode cX8_run 12 = .ok (.if_icmp .lt 13, 3) := by decide +kernel
theorem dX8_run_15 : decode cX8_run 15 = .ok (.new 113, 3) := by decide +kernel
theorem dX8_run_18 : decode cX8_run 18 = .ok (.dup, 1) := by decide +kernel
theorem dX8_run_19 : decode cX8_run 19 = .ok (.ldc 183, 2) := by decide +kernel
theorem dX8_run_21 : decode cX8_run 21 = .ok (.invokespecial 117, 3) := by decide +kernel
theorem dX8_run_24 : decode cX8_run 24 = .ok (.athrow, 1) := by decide +kernel
theorem dX8_run_25 : decode cX8_run 25 = .ok (.iload_n 2, 1) := by decide +kernel
theorem dX8_run_26 : decode cX8_run 26 = .ok (.tableswitch 66 0 3 #[30, 39, 48, 57], 30) := by decide +kernel
theorem dX8_run_56 : decode cX8_run 56 = .ok (.aload_n 0, 1) := by decide +kernel
theorem dX8_run_57 : decode cX8_run 57 = .ok (.getfield 48, 3) := by decide +kernel
theorem dX8_run_60 : decode cX8_run 60 = .ok (.iload_n 1, 1) := by decide +kernel
theorem dX8_run_61 : decode cX8_run 61 = .ok (.invokevirtual 185, 3) := by decide +kernel
theorem dX8_run_64 : decode cX8_run 64 = .ok (.ireturn, 1) := by decide +kernel
theorem dX8_run_65 : decode cX8_run 65 = .ok (.aload_n 0, 1) := by decide +kernel
theorem dX8_run_66 : decode cX8_run 66 = .ok (.getfield 48, 3) := by decide +kernel
theorem dX8_run_69 : decode cX8_run 69 = .ok (.iload_n 1, 1) := by decide +kernel
theorem dX8_run_70 : decode cX8_run 70 = .ok (.invokevirtual 188, 3) := by decide +kernel
theorem dX8_run_73 : decode cX8_run 73 = .ok (.ireturn, 1) := by decide +kernel
theorem dX8_run_74 : decode cX8_run 74 = .ok (.aload_n 0, 1) := by decide +kernel
theorem dX8_run_75 : decode cX8_run 75 = .ok (.getfield 48, 3) := by decide +kernel
theorem dX8_run_78 : decode cX8_run 78 = .ok (.iload_n 1, 1) := by decide +kernel
theorem dX8_run_79 : decode cX8_run 79 = .ok (.invokevirtual 191, 3) := by decide +kernel
theorem dX8_run_82 : decode cX8_run 82 = .ok (.ireturn, 1) := by decide +kernel
theorem dX8_run_83 : decode cX8_run 83 = .ok (.aload_n 0, 1) := by decide +kernel
theorem dX8_run_84 : decode cX8_run 84 = .ok (.getfield 48, 3) := by decide +kernel
theorem dX8_run_87 : decode cX8_run 87 = .ok (.iload_n 1, 1) := by decide +kernel
theorem dX8_run_88 : decode cX8_run 88 = .ok (.invokevirtual 194, 3) := by decide +kernel
theorem dX8_run_91 : decode cX8_run 91 = .ok (.ireturn, 1) := by decide +kernel
theorem dX8_run_92 : decode cX8_run 92 = .ok (.new 73, 3) := by decide +kernel
theorem dX8_run_95 : decode cX8_run 95 = .ok (.dup, 1) := by decide +kernel
theorem dX8_run_96 : decode cX8_run 96 = .ok (.ldc 197, 2) := by decide +kernel
theorem dX8_run_98 : decode cX8_run 98 = .ok (.invokespecial 77, 3) := by decide +kernel
theorem dX8_run_101 : decode cX8_run 101 = .ok (.athrow, 1) := by decide +kernel
theorem dX8_count_0 : decode cX8_count 0 = .ok (.iload_n 1, 1) := by decide +kernel
theorem dX8_count_1 : decode cX8_count 1 = .ok (.tableswitch 132 0 9 #[55, 63, 71, 79, 87, 95, 103, 111, 119, 127], 55) := by decide +kernel
theorem dX8_count_56 : decode cX8_count 56 = .ok (.aload_n 0, 1) := by decide +kernel
theorem dX8_count_57 : decode cX8_count 57 = .ok (.getfield 27, 3) := by decide +kernel
theorem dX8_count_60 : decode cX8_count 60 = .ok (.invokevirtual 85, 3) := by decide +kernel
theorem dX8_count_63 : decode cX8_count 63 = .ok (.ireturn, 1) := by decide +kernel
theorem dX8_count_64 : decode cX8_count 64 = .ok (.aload_n 0, 1) := by decide +kernel
theorem dX8_count_65 : decode cX8_count 65 = .ok (.getfield 27, 3) := by decide +kernel
theorem dX8_count_68 : decode cX8_count 68 = .ok (.invokevirtual 121, 3) := by decide +kernel
theorem dX8_count_71 : decode cX8_count 71 = .ok (.ireturn, 1) := by decide +kernel
theorem dX8_count_72 : decode cX8_count 72 = .ok (.aload_n 0, 1) := by decide +kernel
theorem dX8_count_73 : decode cX8_count 73 = .ok (.getfield 36, 3) := by decide +kernel
theorem dX8_count_76 : decode cX8_count 76 = .ok (.invokevirtual 91, 3) := by decide +kernel
theorem dX8_count_79 : decode cX8_count 79 = .ok (.ireturn, 1) := by decide +kernel
theorem dX8_count_80 : decode cX8_count 80 = .ok (.aload_n 0, 1) := by decide +kernel
theorem dX8_count_81 : decode cX8_count 81 = .ok (.getfield 48, 3) := by decide +kernel
theorem dX8_count_84 : decode cX8_count 84 = .ok (.invokevirtual 124, 3) := by decide +kernel
theorem dX8_count_87 : decode cX8_count 87 = .ok (.ireturn, 1) := by decide +kernel
theorem dX8_count_88 : decode cX8_count 88 = .ok (.aload_n 0, 1) := by decide +kernel
theorem dX8_count_89 : decode cX8_count 89 = .ok (.getfield 48, 3) := by decide +kernel
theorem dX8_count_92 : decode cX8_count 92 = .ok (.invokevirtual 199, 3) := by decide +kernel
theorem dX8_count_95 : decode cX8_count 95 = .ok (.ireturn, 1) := by decide +kernel
theorem dX8_count_96 : decode cX8_count 96 = .ok (.aload_n 0, 1) := by decide +kernel
theorem dX8_count_97 : decode cX8_count 97 = .ok (.getfield 48, 3) := by decide +kernel
theorem dX8_count_100 : decode cX8_count 100 = .ok (.invokevirtual 202, 3) := by decide +kernel
theorem dX8_count_103 : decode cX8_count 103 = .ok (.ireturn, 1) := by decide +kernel
theorem dX8_count_104 : decode cX8_count 104 = .ok (.aload_n 0, 1) := by decide +kernel
theorem dX8_count_105 : decode cX8_count 105 = .ok (.getfield 48, 3) := by decide +kernel
theorem dX8_count_108 : decode cX8_count 108 = .ok (.invokevirtual 205, 3) := by decide +kernel
theorem dX8_count_111 : decode cX8_count 111 = .ok (.ireturn, 1) := by decide +kernel
theorem dX8_count_112 : decode cX8_count 112 = .ok (.aload_n 0, 1) := by decide +kernel
theorem dX8_count_113 : decode cX8_count 113 = .ok (.getfield 48, 3) := by decide +kernel
theorem dX8_count_116 : decode cX8_count 116 = .ok (.invokevirtual 208, 3) := by decide +kernel
theorem dX8_count_119 : decode cX8_count 119 = .ok (.ireturn, 1) := by decide +kernel
theorem dX8_count_120 : decode cX8_count 120 = .ok (.aload_n 0, 1) := by decide +kernel
theorem dX8_count_121 : decode cX8_count 121 = .ok (.getfield 48, 3) := by decide +kernel
theorem dX8_count_124 : decode cX8_count 124 = .ok (.invokevirtual 211, 3) := by decide +kernel
theorem dX8_count_127 : decode cX8_count 127 = .ok (.ireturn, 1) := by decide +kernel
theorem dX8_count_128 : decode cX8_count 128 = .ok (.aload_n 0, 1) := by decide +kernel
theorem dX8_count_129 : decode cX8_count 129 = .ok (.getfield 21, 3) := by decide +kernel
theorem dX8_count_132 : decode cX8_count 132 = .ok (.ireturn, 1) := by decide +kernel
theorem dX8_count_133 : decode cX8_count 133 = .ok (.iconst (-1), 1) := by decide +kernel
theorem dX8_count_134 : decode cX8_count 134 = .ok (.ireturn, 1) := by decide +kernel
theorem dX8_clamp_0 : decode cX8_clamp 0 = .ok (.iload_n 1, 1) := by decide +kernel
theorem dX8_clamp_1 : decode cX8_clamp 1 = .ok (.iload_n 2, 1) := by decide +kernel
theorem dX8_clamp_2 : decode cX8_clamp 2 = .ok (.iload_n 0, 1) := by decide +kernel
theorem dX8_clamp_3 : decode cX8_clamp 3 = .ok (.invokestatic 214, 3) := by decide +kernel
theorem dX8_clamp_6 : decode cX8_clamp 6 = .ok (.invokestatic 219, 3) := by decide +kernel
theorem dX8_clamp_9 : decode cX8_clamp 9 = .ok (.ireturn, 1) := by decide +kernel
theorem dX8_isWord_0 : decode cX8_isWord 0 = .ok (.iload_n 0, 1) := by decide +kernel
theorem dX8_isWord_1 : decode cX8_isWord 1 = .ok (.ifCond .lt 13, 3) := by decide +kernel
theorem dX8_isWord_4 : decode cX8_isWord 4 = .ok (.iload_n 0, 1) := by decide +kernel
theorem dX8_isWord_5 : decode cX8_isWord 5 = .ok (.bipush 100, 2) := by decide +kernel
theorem dX8_isWord_7 : decode cX8_isWord 7 = .ok (.if_icmp .ge 7, 3) := by decide +kernel
theorem dX8_isWord_10 : decode cX8_isWord 10 = .ok (.iconst 1, 1) := by decide +kernel
theorem dX8_isWord_11 : decode cX8_isWord 11 = .ok (.goto 4, 3) := by decide +kernel
theorem dX8_isWord_14 : decode cX8_isWord 14 = .ok (.iconst 0, 1) := by decide +kernel
theorem dX8_isWord_15 : decode cX8_isWord 15 = .ok (.ireturn, 1) := by decide +kernel
theorem dX8_flushBuffer_0 : decode cX8_flushBuffer 0 = .ok (.aload_n 0, 1) := by decide +kernel
theorem dX8_flushBuffer_1 : decode cX8_flushBuffer 1 = .ok (.getfield 36, 3) := by decide +kernel
theorem dX8_flushBuffer_4 : decode cX8_flushBuffer 4 = .ok (.invokevirtual 91, 3) := by decide +kernel
theorem dX8_flushBuffer_7 : decode cX8_flushBuffer 7 = .ok (.ifCond .ne 5, 3) := by decide +kernel
theorem dX8_flushBuffer_10 : decode cX8_flushBuffer 10 = .ok (.iconst 1, 1) := by decide +kernel
theorem dX8_flushBuffer_11 : decode cX8_flushBuffer 11 = .ok (.ireturn, 1) := by decide +kernel
theorem dX8_flushBuffer_12 : decode cX8_flushBuffer 12 = .ok (.aload_n 0, 1) := by decide +kernel
theorem dX8_flushBuffer_13 : decode cX8_flushBuffer 13 = .ok (.getfield 48, 3) := by decide +kernel
theorem dX8_flushBuffer_16 : decode cX8_flushBuffer 16 = .ok (.aload_n 0, 1) := by decide +kernel
theorem dX8_flushBuffer_17 : decode cX8_flushBuffer 17 = .ok (.getfield 36, 3) := by decide +kernel
theorem dX8_flushBuffer_20 : decode cX8_flushBuffer 20 = .ok (.invokevirtual 222, 3) := by decide +kernel
theorem dX8_flushBuffer_23 : decode cX8_flushBuffer 23 = .ok (.ifCond .ne 5, 3) := by decide +kernel
theorem dX8_flushBuffer_26 : decode cX8_flushBuffer 26 = .ok (.iconst 0, 1) := by decide +kernel
theorem dX8_flushBuffer_27 : decode cX8_flushBuffer 27 = .ok (.ireturn, 1) := by decide +kernel
theorem dX8_flushBuffer_28 : decode cX8_flushBuffer 28 = .ok (.aload_n 0, 1) := by decide +kernel
theorem dX8_flushBuffer_29 : decode cX8_flushBuffer 29 = .ok (.getfield 36, 3) := by decide +kernel
theorem dX8_flushBuffer_32 : decode cX8_flushBuffer 32 = .ok (.invokevirtual 226, 3) := by decide +kernel
theorem dX8_flushBuffer_35 : decode cX8_flushBuffer 35 = .ok (.aload_n 0, 1) := by decide +kernel
theorem dX8_flushBuffer_36 : decode cX8_flushBuffer 36 = .ok (.getfield 48, 3) := by decide +kernel
theorem dX8_flushBuffer_39 : decode cX8_flushBuffer 39 = .ok (.invokevirtual 229, 3) := by decide +kernel
theorem dX8_flushBuffer_42 : decode cX8_flushBuffer 42 = .ok (.iconst 1, 1) := by decide +kernel
theorem dX8_flushBuffer_43 : decode cX8_flushBuffer 43 = .ok (.ireturn, 1) := by decide +kernel
theorem dX8_lookUp_0 : decode cX8_lookUp 0 = .ok (.aload_n 0, 1) := by decide +kernel
theorem dX8_lookUp_1 : decode cX8_lookUp 1 = .ok (.getfield 55, 3) := by decide +kernel
theorem dX8_lookUp_4 : decode cX8_lookUp 4 = .ok (.iload_n 1, 1) := by decide +kernel
theorem dX8_lookUp_5 : decode cX8_lookUp 5 = .ok (.invokevirtual 232, 3) := by decide +kernel
theorem dX8_lookUp_8 : decode cX8_lookUp 8 = .ok (.aload_n 0, 1) := by decide +kernel
theorem dX8_lookUp_9 : decode cX8_lookUp 9 = .ok (.getfield 59, 3) := by decide +kernel
theorem dX8_lookUp_12 : decode cX8_lookUp 12 = .ok (.iload_n 2, 1) := by decide +kernel
theorem dX8_lookUp_13 : decode cX8_lookUp 13 = .ok (.invokevirtual 232, 3) := by decide +kernel
theorem dX8_lookUp_16 : decode cX8_lookUp 16 = .ok (.aload_n 0, 1) := by decide +kernel
theorem dX8_lookUp_17 : decode cX8_lookUp 17 = .ok (.getfield 48, 3) := by decide +kernel
theorem dX8_lookUp_20 : decode cX8_lookUp 20 = .ok (.aload_n 0, 1) := by decide +kernel
theorem dX8_lookUp_21 : decode cX8_lookUp 21 = .ok (.getfield 55, 3) := by decide +kernel
