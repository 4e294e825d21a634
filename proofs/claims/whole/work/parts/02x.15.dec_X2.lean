theorem dX2_init_0 : decode cX2_init 0 = .ok (.aload_n 0, 1) := by decide +kernel
theorem dX2_init_1 : decode cX2_init 1 = .ok (.invokespecial 3, 3) := by decide +kernel
theorem dX2_init_4 : decode cX2_init 4 = .ok (.aload_n 0, 1) := by decide +kernel
theorem dX2_init_5 : decode cX2_init 5 = .ok (.iload_n 1, 1) := by decide +kernel
theorem dX2_init_6 : decode cX2_init 6 = .ok (.bipush 16, 2) := by decide +kernel
theorem dX2_init_8 : decode cX2_init 8 = .ok (.imul, 1) := by decide +kernel
theorem dX2_init_9 : decode cX2_init 9 = .ok (.newarray .int, 2) := by decide +kernel
theorem dX2_init_11 : decode cX2_init 11 = .ok (.putfield 9, 3) := by decide +kernel
theorem dX2_init_14 : decode cX2_init 14 = .ok (.aload_n 0, 1) := by decide +kernel
theorem dX2_init_15 : decode cX2_init 15 = .ok (.iload_n 1, 1) := by decide +kernel
theorem dX2_init_16 : decode cX2_init 16 = .ok (.newarray .boolean, 2) := by decide +kernel
theorem dX2_init_18 : decode cX2_init 18 = .ok (.putfield 15, 3) := by decide +kernel
theorem dX2_init_21 : decode cX2_init 21 = .ok (.aload_n 0, 1) := by decide +kernel
theorem dX2_init_22 : decode cX2_init 22 = .ok (.iload_n 1, 1) := by decide +kernel
theorem dX2_init_23 : decode cX2_init 23 = .ok (.putfield 19, 3) := by decide +kernel
theorem dX2_init_26 : decode cX2_init 26 = .ok (.return_, 1) := by decide +kernel
theorem dX2_size_0 : decode cX2_size 0 = .ok (.aload_n 0, 1) := by decide +kernel
theorem dX2_size_1 : decode cX2_size 1 = .ok (.getfield 9, 3) := by decide +kernel
theorem dX2_size_4 : decode cX2_size 4 = .ok (.arraylength, 1) := by decide +kernel
theorem dX2_size_5 : decode cX2_size 5 = .ok (.ireturn, 1) := by decide +kernel
theorem dX2_free_0 : decode cX2_free 0 = .ok (.aload_n 0, 1) := by decide +kernel
theorem dX2_free_1 : decode cX2_free 1 = .ok (.getfield 19, 3) := by decide +kernel
theorem dX2_free_4 : decode cX2_free 4 = .ok (.ireturn, 1) := by decide +kernel
theorem dX2_has_0 : decode cX2_has 0 = .ok (.iload_n 1, 1) := by decide +kernel
theorem dX2_has_1 : decode cX2_has 1 = .ok (.ifCond .lt 26, 3) := by decide +kernel
theorem dX2_has_4 : decode cX2_has 4 = .ok (.iload_n 1, 1) := by decide +kernel
theorem dX2_has_5 : decode cX2_has 5 = .ok (.aload_n 0, 1) := by decide +kernel
theorem dX2_has_6 : decode cX2_has 6 = .ok (.getfield 15, 3) := by decide +kernel
theorem dX2_has_9 : decode cX2_has 9 = .ok (.arraylength, 1) := by decide +kernel
theorem dX2_has_10 : decode cX2_has 10 = .ok (.if_icmp .ge 17, 3) := by decide +kernel
theorem dX2_has_13 : decode cX2_has 13 = .ok (.iload_n 2, 1) := by decide +kernel
theorem dX2_has_14 : decode cX2_has 14 = .ok (.ifCond .lt 13, 3) := by decide +kernel
theorem dX2_has_17 : decode cX2_has 17 = .ok (.iload_n 2, 1) := by decide +kernel
theorem dX2_has_18 : decode cX2_has 18 = .ok (.bipush 16, 2) := by decide +kernel
theorem dX2_has_20 : decode cX2_has 20 = .ok (.if_icmp .ge 7, 3) := by decide +kernel
theorem dX2_has_23 : decode cX2_has 23 = .ok (.iconst 1, 1) := by decide +kernel
theorem dX2_has_24 : decode cX2_has 24 = .ok (.goto 4, 3) := by decide +kernel
theorem dX2_has_27 : decode cX2_has 27 = .ok (.iconst 0, 1) := by decide +kernel
theorem dX2_has_28 : decode cX2_has 28 = .ok (.ireturn, 1) := by decide +kernel
theorem dX2_cellAt_0 : decode cX2_cellAt 0 = .ok (.aload_n 0, 1) := by decide +kernel
theorem dX2_cellAt_1 : decode cX2_cellAt 1 = .ok (.iload_n 1, 1) := by decide +kernel
theorem dX2_cellAt_2 : decode cX2_cellAt 2 = .ok (.iload_n 2, 1) := by decide +kernel
theorem dX2_cellAt_3 : decode cX2_cellAt 3 = .ok (.invokevirtual 23, 3) := by decide +kernel
theorem dX2_cellAt_6 : decode cX2_cellAt 6 = .ok (.ifCond .eq 17, 3) := by decide +kernel
theorem dX2_cellAt_9 : decode cX2_cellAt 9 = .ok (.aload_n 0, 1) := by decide +kernel
theorem dX2_cellAt_10 : decode cX2_cellAt 10 = .ok (.getfield 9, 3) := by decide +kernel
theorem dX2_cellAt_13 : decode cX2_cellAt 13 = .ok (.iload_n 1, 1) := by decide +kernel
theorem dX2_cellAt_14 : decode cX2_cellAt 14 = .ok (.bipush 16, 2) := by decide +kernel
theorem dX2_cellAt_16 : decode cX2_cellAt 16 = .ok (.imul, 1) := by decide +kernel
theorem dX2_cellAt_17 : decode cX2_cellAt 17 = .ok (.iload_n 2, 1) := by decide +kernel
theorem dX2_cellAt_18 : decode cX2_cellAt 18 = .ok (.iadd, 1) := by decide +kernel
theorem dX2_cellAt_19 : decode cX2_cellAt 19 = .ok (.iaload, 1) := by decide +kernel
theorem dX2_cellAt_20 : decode cX2_cellAt 20 = .ok (.goto 4, 3) := by decide +kernel
theorem dX2_cellAt_23 : decode cX2_cellAt 23 = .ok (.iconst 0, 1) := by decide +kernel
theorem dX2_cellAt_24 : decode cX2_cellAt 24 = .ok (.ireturn, 1) := by decide +kernel
theorem dX2_hasRoomFor_0 : decode cX2_hasRoomFor 0 = .ok (.iload_n 1, 1) := by decide +kernel
theorem dX2_hasRoomFor_1 : decode cX2_hasRoomFor 1 = .ok (.invokestatic 27, 3) := by decide +kernel
theorem dX2_hasRoomFor_4 : decode cX2_hasRoomFor 4 = .ok (.aload_n 0, 1) := by decide +kernel
theorem dX2_hasRoomFor_5 : decode cX2_hasRoomFor 5 = .ok (.getfield 19, 3) := by decide +kernel
theorem dX2_hasRoomFor_8 : decode cX2_hasRoomFor 8 = .ok (.if_icmp .gt 7, 3) := by decide +kernel
theorem dX2_hasRoomFor_11 : decode cX2_hasRoomFor 11 = .ok (.iconst 1, 1) := by decide +kernel
theorem dX2_hasRoomFor_12 : decode cX2_hasRoomFor 12 = .ok (.goto 4, 3) := by decide +kernel
theorem dX2_hasRoomFor_15 : decode cX2_hasRoomFor 15 = .ok (.iconst 0, 1) := by decide +kernel
theorem dX2_hasRoomFor_16 : decode cX2_hasRoomFor 16 = .ok (.ireturn, 1) := by decide +kernel
theorem dX2_write_0 : decode cX2_write 0 = .ok (.aload_n 0, 1) := by decide +kernel
theorem dX2_write_1 : decode cX2_write 1 = .ok (.aload_n 1, 1) := by decide +kernel
theorem dX2_write_2 : decode cX2_write 2 = .ok (.invokevirtual 31, 3) := by decide +kernel
theorem dX2_write_5 : decode cX2_write 5 = .ok (.invokestatic 27, 3) := by decide +kernel
theorem dX2_write_8 : decode cX2_write 8 = .ok (.aload_n 0, 1) := by decide +kernel
theorem dX2_write_9 : decode cX2_write 9 = .ok (.getfield 19, 3) := by decide +kernel
theorem dX2_write_12 : decode cX2_write 12 = .ok (.invokestatic 37, 3) := by decide +kernel
theorem dX2_write_15 : decode cX2_write 15 = .ok (.invokevirtual 43, 3) := by decide +kernel
theorem dX2_write_18 : decode cX2_write 18 = .ok (.astore_n 3, 1) := by decide +kernel
theorem dX2_write_19 : decode cX2_write 19 = .ok (.iconst 0, 1) := by decide +kernel
theorem dX2_write_20 : decode cX2_write 20 = .ok (.istore 4, 2) := by decide +kernel
theorem dX2_write_22 : decode cX2_write 22 = .ok (.iload 4, 2) := by decide +kernel
theorem dX2_write_24 : decode cX2_write 24 = .ok (.aload_n 3, 1) := by decide +kernel
theorem dX2_write_25 : decode cX2_write 25 = .ok (.arraylength, 1) := by decide +kernel
theorem dX2_write_26 : decode cX2_write 26 = .ok (.if_icmp .ge 69, 3) := by decide +kernel
theorem dX2_write_29 : decode cX2_write 29 = .ok (.aload_n 3, 1) := by decide +kernel
theorem dX2_write_30 : decode cX2_write 30 = .ok (.iload 4, 2) := by decide +kernel
theorem dX2_write_32 : decode cX2_write 32 = .ok (.iaload, 1) := by decide +kernel
theorem dX2_write_33 : decode cX2_write 33 = .ok (.bipush 16, 2) := by decide +kernel
theorem dX2_write_35 : decode cX2_write 35 = .ok (.imul, 1) := by decide +kernel
theorem dX2_write_36 : decode cX2_write 36 = .ok (.istore 5, 2) := by decide +kernel
theorem dX2_write_38 : decode cX2_write 38 = .ok (.iconst 0, 1) := by decide +kernel
theorem dX2_write_39 : decode cX2_write 39 = .ok (.istore 6, 2) := by decide +kernel
theorem dX2_write_41 : decode cX2_write 41 = .ok (.iload 6, 2) := by decide +kernel
theorem dX2_write_43 : decode cX2_write 43 = .ok (.bipush 16, 2) := by decide +kernel
theorem dX2_write_45 : decode cX2_write 45 = .ok (.if_icmp .ge 44, 3) := by decide +kernel
theorem dX2_write_48 : decode cX2_write 48 = .ok (.iload 5, 2) := by decide +kernel
theorem dX2_write_50 : decode cX2_write 50 = .ok (.iload 6, 2) := by decide +kernel
theorem dX2_write_52 : decode cX2_write 52 = .ok (.iadd, 1) := by decide +kernel
theorem dX2_write_53 : decode cX2_write 53 = .ok (.aload_n 0, 1) := by decide +kernel
theorem dX2_write_54 : decode cX2_write 54 = .ok (.getfield 9, 3) := by decide +kernel
theorem dX2_write_57 : decode cX2_write 57 = .ok (.arraylength, 1) := by decide +kernel
theorem dX2_write_58 : decode cX2_write 58 = .ok (.if_icmp .ge 31, 3) := by decide +kernel
theorem dX2_write_61 : decode cX2_write 61 = .ok (.aload_n 0, 1) := by decide +kernel
theorem dX2_write_62 : decode cX2_write 62 = .ok (.getfield 9, 3) := by decide +kernel
theorem dX2_write_65 : decode cX2_write 65 = .ok (.iload 5, 2) := by decide +kernel
theorem dX2_write_67 : decode cX2_write 67 = .ok (.iload 6, 2) := by decide +kernel
theorem dX2_write_69 : decode cX2_write 69 = .ok (.iadd, 1) := by decide +kernel
theorem dX2_write_70 : decode cX2_write 70 = .ok (.aload_n 1, 1) := by decide +kernel
theorem dX2_write_71 : decode cX2_write 71 = .ok (.iload 4, 2) := by decide +kernel
theorem dX2_write_73 : decode cX2_write 73 = .ok (.bipush 16, 2) := by decide +kernel
theorem dX2_write_75 : decode cX2_write 75 = .ok (.imul, 1) := by decide +kernel
theorem dX2_write_76 : decode cX2_write 76 = .ok (.iload 6, 2) := by decide +kernel
theorem dX2_write_78 : decode cX2_write 78 = .ok (.iadd, 1) := by decide +kernel
theorem dX2_write_79 : decode cX2_write 79 = .ok (.invokevirtual 47, 3) := by decide +kernel
theorem dX2_write_82 : decode cX2_write 82 = .ok (.iastore, 1) := by decide +kernel
theorem dX2_write_83 : decode cX2_write 83 = .ok (.iinc 6 1, 3) := by decide +kernel
theorem dX2_write_86 : decode cX2_write 86 = .ok (.goto (-45), 3) := by decide +kernel
theorem dX2_write_89 : decode cX2_write 89 = .ok (.iinc 4 1, 3) := by decide +kernel
theorem dX2_write_92 : decode cX2_write 92 = .ok (.goto (-70), 3) := by decide +kernel
theorem dX2_write_95 : decode cX2_write 95 = .ok (.new 50, 3) := by decide +kernel
theorem dX2_write_98 : decode cX2_write 98 = .ok (.dup, 1) := by decide +kernel
theorem dX2_write_99 : decode cX2_write 99 = .ok (.iload_n 2, 1) := by decide +kernel
theorem dX2_write_100 : decode cX2_write 100 = .ok (.aload_n 3, 1) := by decide +kernel
theorem dX2_write_101 : decode cX2_write 101 = .ok (.aload_n 1, 1) := by decide +kernel
theorem dX2_write_102 : decode cX2_write 102 = .ok (.invokevirtual 31, 3) := by decide +kernel
theorem dX2_write_105 : decode cX2_write 105 = .ok (.invokespecial 52, 3) := by decide +kernel
theorem dX2_write_108 : decode cX2_write 108 = .ok (.areturn, 1) := by decide +kernel
theorem dX2_read_0 : decode cX2_read 0 = .ok (.aload_n 2, 1) := by decide +kernel
theorem dX2_read_1 : decode cX2_read 1 = .ok (.invokevirtual 55, 3) := by decide +kernel
theorem dX2_read_4 : decode cX2_read 4 = .ok (.iconst 0, 1) := by decide +kernel
theorem dX2_read_5 : decode cX2_read 5 = .ok (.istore_n 3, 1) := by decide +kernel
theorem dX2_read_6 : decode cX2_read 6 = .ok (.iload_n 3, 1) := by decide +kernel
theorem dX2_read_7 : decode cX2_read 7 = .ok (.aload_n 1, 1) := by decide +kernel
theorem dX2_read_8 : decode cX2_read 8 = .ok (.getfield 58, 3) := by decide +kernel
theorem dX2_read_11 : decode cX2_read 11 = .ok (.if_icmp .ge 62, 3) := by decide +kernel
theorem dX2_read_14 : decode cX2_read 14 = .ok (.iload_n 3, 1) := by decide +kernel
theorem dX2_read_15 : decode cX2_read 15 = .ok (.bipush 16, 2) := by decide +kernel
theorem dX2_read_17 : decode cX2_read 17 = .ok (.idiv, 1) := by decide +kernel
theorem dX2_read_18 : decode cX2_read 18 = .ok (.aload_n 1, 1) := by decide +kernel
theorem dX2_read_19 : decode cX2_read 19 = .ok (.getfield 61, 3) := by decide +kernel
theorem dX2_read_22 : decode cX2_read 22 = .ok (.arraylength, 1) := by decide +kernel
theorem dX2_read_23 : decode cX2_read 23 = .ok (.if_icmp .ge 50, 3) := by decide +kernel
theorem dX2_read_26 : decode cX2_read 26 = .ok (.aload_n 1, 1) := by decide +kernel
theorem dX2_read_27 : decode cX2_read 27 = .ok (.getfield 61, 3) := by decide +kernel
theorem dX2_read_30 : decode cX2_read 30 = .ok (.iload_n 3, 1) := by decide +kernel
theorem dX2_read_31 : decode cX2_read 31 = .ok (.bipush 16, 2) := by decide +kernel
theorem dX2_read_33 : decode cX2_read 33 = .ok (.idiv, 1) := by decide +kernel
theorem dX2_read_34 : decode cX2_read 34 = .ok (.iaload, 1) := by decide +kernel
theorem dX2_read_35 : decode cX2_read 35 = .ok (.bipush 16, 2) := by decide +kernel
theorem dX2_read_37 : decode cX2_read 37 = .ok (.imul, 1) := by decide +kernel
theorem dX2_read_38 : decode cX2_read 38 = .ok (.iload_n 3, 1) := by decide +kernel
theorem dX2_read_39 : decode cX2_read 39 = .ok (.bipush 16, 2) := by decide +kernel
theorem dX2_read_41 : decode cX2_read 41 = .ok (.irem, 1) := by decide +kernel
theorem dX2_read_42 : decode cX2_read 42 = .ok (.iadd, 1) := by decide +kernel
theorem dX2_read_43 : decode cX2_read 43 = .ok (.istore 4, 2) := by decide +kernel
theorem dX2_read_45 : decode cX2_read 45 = .ok (.iload 4, 2) := by decide +kernel
theorem dX2_read_47 : decode cX2_read 47 = .ok (.aload_n 0, 1) := by decide +kernel
theorem dX2_read_48 : decode cX2_read 48 = .ok (.getfield 9, 3) := by decide +kernel
theorem dX2_read_51 : decode cX2_read 51 = .ok (.arraylength, 1) := by decide +kernel
theorem dX2_read_52 : decode cX2_read 52 = .ok (.if_icmp .ge 15, 3) := by decide +kernel
theorem dX2_read_55 : decode cX2_read 55 = .ok (.aload_n 2, 1) := by decide +kernel
theorem dX2_read_56 : decode cX2_read 56 = .ok (.aload_n 0, 1) := by decide +kernel
theorem dX2_read_57 : decode cX2_read 57 = .ok (.getfield 9, 3) := by decide +kernel
theorem dX2_read_60 : decode cX2_read 60 = .ok (.iload 4, 2) := by decide +kernel
theorem dX2_read_62 : decode cX2_read 62 = .ok (.iaload, 1) := by decide +kernel
theorem dX2_read_63 : decode cX2_read 63 = .ok (.invokevirtual 64, 3) := by decide +kernel
theorem dX2_read_66 : decode cX2_read 66 = .ok (.pop, 1) := by decide +kernel
theorem dX2_read_67 : decode cX2_read 67 = .ok (.iinc 3 1, 3) := by decide +kernel
theorem dX2_read_70 : decode cX2_read 70 = .ok (.goto (-64), 3) := by decide +kernel
theorem dX2_read_73 : decode cX2_read 73 = .ok (.return_, 1) := by decide +kernel
theorem dX2_release_0 : decode cX2_release 0 = .ok (.aload_n 1, 1) := by decide +kernel
theorem dX2_release_1 : decode cX2_release 1 = .ok (.getfield 61, 3) := by decide +kernel
theorem dX2_release_4 : decode cX2_release 4 = .ok (.astore_n 2, 1) := by decide +kernel
theorem dX2_release_5 : decode cX2_release 5 = .ok (.aload_n 2, 1) := by decide +kernel
theorem dX2_release_6 : decode cX2_release 6 = .ok (.arraylength, 1) := by decide +kernel
theorem dX2_release_7 : decode cX2_release 7 = .ok (.istore_n 3, 1) := by decide +kernel
theorem dX2_release_8 : decode cX2_release 8 = .ok (.iconst 0, 1) := by decide +kernel
theorem dX2_release_9 : decode cX2_release 9 = .ok (.istore 4, 2) := by decide +kernel
theorem dX2_release_11 : decode cX2_release 11 = .ok (.iload 4, 2) := by decide +kernel
theorem dX2_release_13 : decode cX2_release 13 = .ok (.iload_n 3, 1) := by decide +kernel
theorem dX2_release_14 : decode cX2_release 14 = .ok (.if_icmp .ge 62, 3) := by decide +kernel
theorem dX2_release_17 : decode cX2_release 17 = .ok (.aload_n 2, 1) := by decide +kernel
theorem dX2_release_18 : decode cX2_release 18 = .ok (.iload 4, 2) := by decide +kernel
theorem dX2_release_20 : decode cX2_release 20 = .ok (.iaload, 1) := by decide +kernel
theorem dX2_release_21 : decode cX2_release 21 = .ok (.istore 5, 2) := by decide +kernel
theorem dX2_release_23 : decode cX2_release 23 = .ok (.iload 5, 2) := by decide +kernel
theorem dX2_release_25 : decode cX2_release 25 = .ok (.aload_n 0, 1) := by decide +kernel
theorem dX2_release_26 : decode cX2_release 26 = .ok (.getfield 15, 3) := by decide +kernel
theorem dX2_release_29 : decode cX2_release 29 = .ok (.arraylength, 1) := by decide +kernel
theorem dX2_release_30 : decode cX2_release 30 = .ok (.if_icmp .ge 40, 3) := by decide +kernel
theorem dX2_release_33 : decode cX2_release 33 = .ok (.aload_n 0, 1) := by decide +kernel
theorem dX2_release_34 : decode cX2_release 34 = .ok (.getfield 15, 3) := by decide +kernel
theorem dX2_release_37 : decode cX2_release 37 = .ok (.iload 5, 2) := by decide +kernel
theorem dX2_release_39 : decode cX2_release 39 = .ok (.baload, 1) := by decide +kernel
theorem dX2_release_40 : decode cX2_release 40 = .ok (.ifCond .eq 30, 3) := by decide +kernel
theorem dX2_release_43 : decode cX2_release 43 = .ok (.aload_n 0, 1) := by decide +kernel
theorem dX2_release_44 : decode cX2_release 44 = .ok (.getfield 15, 3) := by decide +kernel
theorem dX2_release_47 : decode cX2_release 47 = .ok (.iload 5, 2) := by decide +kernel
theorem dX2_release_49 : decode cX2_release 49 = .ok (.iconst 0, 1) := by decide +kernel
theorem dX2_release_50 : decode cX2_release 50 = .ok (.bastore, 1) := by decide +kernel
theorem dX2_release_51 : decode cX2_release 51 = .ok (.aload_n 0, 1) := by decide +kernel
theorem dX2_release_52 : decode cX2_release 52 = .ok (.dup, 1) := by decide +kernel
theorem dX2_release_53 : decode cX2_release 53 = .ok (.getfield 19, 3) := by decide +kernel
theorem dX2_release_56 : decode cX2_release 56 = .ok (.iconst 1, 1) := by decide +kernel
theorem dX2_release_57 : decode cX2_release 57 = .ok (.iadd, 1) := by decide +kernel
theorem dX2_release_58 : decode cX2_release 58 = .ok (.putfield 19, 3) := by decide +kernel
theorem dX2_release_61 : decode cX2_release 61 = .ok (.aload_n 0, 1) := by decide +kernel
theorem dX2_release_62 : decode cX2_release 62 = .ok (.iload 5, 2) := by decide +kernel
theorem dX2_release_64 : decode cX2_release 64 = .ok (.bipush 16, 2) := by decide +kernel
theorem dX2_release_66 : decode cX2_release 66 = .ok (.imul, 1) := by decide +kernel
theorem dX2_release_67 : decode cX2_release 67 = .ok (.invokevirtual 67, 3) := by decide +kernel
theorem dX2_release_70 : decode cX2_release 70 = .ok (.iinc 4 1, 3) := by decide +kernel
theorem dX2_release_73 : decode cX2_release 73 = .ok (.goto (-62), 3) := by decide +kernel
theorem dX2_release_76 : decode cX2_release 76 = .ok (.return_, 1) := by decide +kernel
theorem dX2_clear_0 : decode cX2_clear 0 = .ok (.iconst 0, 1) := by decide +kernel
theorem dX2_clear_1 : decode cX2_clear 1 = .ok (.istore_n 2, 1) := by decide +kernel
theorem dX2_clear_2 : decode cX2_clear 2 = .ok (.iload_n 2, 1) := by decide +kernel
theorem dX2_clear_3 : decode cX2_clear 3 = .ok (.bipush 16, 2) := by decide +kernel
theorem dX2_clear_5 : decode cX2_clear 5 = .ok (.if_icmp .ge 29, 3) := by decide +kernel
theorem dX2_clear_8 : decode cX2_clear 8 = .ok (.iload_n 1, 1) := by decide +kernel
theorem dX2_clear_9 : decode cX2_clear 9 = .ok (.iload_n 2, 1) := by decide +kernel
theorem dX2_clear_10 : decode cX2_clear 10 = .ok (.iadd, 1) := by decide +kernel
theorem dX2_clear_11 : decode cX2_clear 11 = .ok (.aload_n 0, 1) := by decide +kernel
theorem dX2_clear_12 : decode cX2_clear 12 = .ok (.getfield 9, 3) := by decide +kernel
theorem dX2_clear_15 : decode cX2_clear 15 = .ok (.arraylength, 1) := by decide +kernel
theorem dX2_clear_16 : decode cX2_clear 16 = .ok (.if_icmp .ge 18, 3) := by decide +kernel
theorem dX2_clear_19 : decode cX2_clear 19 = .ok (.aload_n 0, 1) := by decide +kernel
theorem dX2_clear_20 : decode cX2_clear 20 = .ok (.getfield 9, 3) := by decide +kernel
theorem dX2_clear_23 : decode cX2_clear 23 = .ok (.iload_n 1, 1) := by decide +kernel
theorem dX2_clear_24 : decode cX2_clear 24 = .ok (.iload_n 2, 1) := by decide +kernel
theorem dX2_clear_25 : decode cX2_clear 25 = .ok (.iadd, 1) := by decide +kernel
theorem dX2_clear_26 : decode cX2_clear 26 = .ok (.iconst 0, 1) := by decide +kernel
theorem dX2_clear_27 : decode cX2_clear 27 = .ok (.iastore, 1) := by decide +kernel
theorem dX2_clear_28 : decode cX2_clear 28 = .ok (.iinc 2 1, 3) := by decide +kernel
theorem dX2_clear_31 : decode cX2_clear 31 = .ok (.goto (-29), 3) := by decide +kernel
theorem dX2_clear_34 : decode cX2_clear 34 = .ok (.return_, 1) := by decide +kernel
theorem dX2_blocksFor_0 : decode cX2_blocksFor 0 = .ok (.iload_n 0, 1) := by decide +kernel
theorem dX2_blocksFor_1 : decode cX2_blocksFor 1 = .ok (.bipush 16, 2) := by decide +kernel
theorem dX2_blocksFor_3 : decode cX2_blocksFor 3 = .ok (.iadd, 1) := by decide +kernel
theorem dX2_blocksFor_4 : decode cX2_blocksFor 4 = .ok (.iconst 1, 1) := by decide +kernel
theorem dX2_blocksFor_5 : decode cX2_blocksFor 5 = .ok (.isub, 1) := by decide +kernel
theorem dX2_blocksFor_6 : decode cX2_blocksFor 6 = .ok (.bipush 16, 2) := by decide +kernel
theorem dX2_blocksFor_8 : decode cX2_blocksFor 8 = .ok (.idiv, 1) := by decide +kernel
theorem dX2_blocksFor_9 : decode cX2_blocksFor 9 = .ok (.ireturn, 1) := by decide +kernel
theorem dX2_takeLeast_0 : decode cX2_takeLeast 0 = .ok (.iload_n 1, 1) := by decide +kernel
theorem dX2_takeLeast_1 : decode cX2_takeLeast 1 = .ok (.newarray .int, 2) := by decide +kernel
theorem dX2_takeLeast_3 : decode cX2_takeLeast 3 = .ok (.astore_n 2, 1) := by decide +kernel
theorem dX2_takeLeast_4 : decode cX2_takeLeast 4 = .ok (.iconst 0, 1) := by decide +kernel
theorem dX2_takeLeast_5 : decode cX2_takeLeast 5 = .ok (.istore_n 3, 1) := by decide +kernel
theorem dX2_takeLeast_6 : decode cX2_takeLeast 6 = .ok (.iconst 0, 1) := by decide +kernel
theorem dX2_takeLeast_7 : decode cX2_takeLeast 7 = .ok (.istore 4, 2) := by decide +kernel
theorem dX2_takeLeast_9 : decode cX2_takeLeast 9 = .ok (.iload 4, 2) := by decide +kernel
theorem dX2_takeLeast_11 : decode cX2_takeLeast 11 = .ok (.aload_n 0, 1) := by decide +kernel
theorem dX2_takeLeast_12 : decode cX2_takeLeast 12 = .ok (.getfield 15, 3) := by decide +kernel
theorem dX2_takeLeast_15 : decode cX2_takeLeast 15 = .ok (.arraylength, 1) := by decide +kernel
theorem dX2_takeLeast_16 : decode cX2_takeLeast 16 = .ok (.if_icmp .ge 50, 3) := by decide +kernel
theorem dX2_takeLeast_19 : decode cX2_takeLeast 19 = .ok (.iload_n 3, 1) := by decide +kernel
theorem dX2_takeLeast_20 : decode cX2_takeLeast 20 = .ok (.iload_n 1, 1) := by decide +kernel
theorem dX2_takeLeast_21 : decode cX2_takeLeast 21 = .ok (.if_icmp .ge 45, 3) := by decide +kernel
theorem dX2_takeLeast_24 : decode cX2_takeLeast 24 = .ok (.aload_n 0, 1) := by decide +kernel
theorem dX2_takeLeast_25 : decode cX2_takeLeast 25 = .ok (.getfield 15, 3) := by decide +kernel
theorem dX2_takeLeast_28 : decode cX2_takeLeast 28 = .ok (.iload 4, 2) := by decide +kernel
theorem dX2_takeLeast_30 : decode cX2_takeLeast 30 = .ok (.baload, 1) := by decide +kernel
theorem dX2_takeLeast_31 : decode cX2_takeLeast 31 = .ok (.ifCond .ne 29, 3) := by decide +kernel
theorem dX2_takeLeast_34 : decode cX2_takeLeast 34 = .ok (.aload_n 0, 1) := by decide +kernel
theorem dX2_takeLeast_35 : decode cX2_takeLeast 35 = .ok (.getfield 15, 3) := by decide +kernel
theorem dX2_takeLeast_38 : decode cX2_takeLeast 38 = .ok (.iload 4, 2) := by decide +kernel
theorem dX2_takeLeast_40 : decode cX2_takeLeast 40 = .ok (.iconst 1, 1) := by decide +kernel
theorem dX2_takeLeast_41 : decode cX2_takeLeast 41 = .ok (.bastore, 1) := by decide +kernel
theorem dX2_takeLeast_42 : decode cX2_takeLeast 42 = .ok (.aload_n 0, 1) := by decide +kernel
theorem dX2_takeLeast_43 : decode cX2_takeLeast 43 = .ok (.dup, 1) := by decide +kernel
theorem dX2_takeLeast_44 : decode cX2_takeLeast 44 = .ok (.getfield 19, 3) := by decide +kernel
theorem dX2_takeLeast_47 : decode cX2_takeLeast 47 = .ok (.iconst 1, 1) := by decide +kernel
theorem dX2_takeLeast_48 : decode cX2_takeLeast 48 = .ok (.isub, 1) := by decide +kernel
theorem dX2_takeLeast_49 : decode cX2_takeLeast 49 = .ok (.putfield 19, 3) := by decide +kernel
theorem dX2_takeLeast_52 : decode cX2_takeLeast 52 = .ok (.aload_n 2, 1) := by decide +kernel
theorem dX2_takeLeast_53 : decode cX2_takeLeast 53 = .ok (.iload_n 3, 1) := by decide +kernel
theorem dX2_takeLeast_54 : decode cX2_takeLeast 54 = .ok (.iload 4, 2) := by decide +kernel
theorem dX2_takeLeast_56 : decode cX2_takeLeast 56 = .ok (.iastore, 1) := by decide +kernel
theorem dX2_takeLeast_57 : decode cX2_takeLeast 57 = .ok (.iinc 3 1, 3) := by decide +kernel
theorem dX2_takeLeast_60 : decode cX2_takeLeast 60 = .ok (.iinc 4 1, 3) := by decide +kernel
theorem dX2_takeLeast_63 : decode cX2_takeLeast 63 = .ok (.goto (-54), 3) := by decide +kernel
theorem dX2_takeLeast_66 : decode cX2_takeLeast 66 = .ok (.aload_n 2, 1) := by decide +kernel
theorem dX2_takeLeast_67 : decode cX2_takeLeast 67 = .ok (.areturn, 1) := by decide +kernel
