theorem dX7_init_0 : decode cX7_init 0 = .ok (.aload_n 0, 1) := by decide +kernel
theorem dX7_init_1 : decode cX7_init 1 = .ok (.invokespecial 3, 3) := by decide +kernel
theorem dX7_init_4 : decode cX7_init 4 = .ok (.aload_n 0, 1) := by decide +kernel
theorem dX7_init_5 : decode cX7_init 5 = .ok (.aload_n 1, 1) := by decide +kernel
theorem dX7_init_6 : decode cX7_init 6 = .ok (.putfield 9, 3) := by decide +kernel
theorem dX7_init_9 : decode cX7_init 9 = .ok (.aload_n 0, 1) := by decide +kernel
theorem dX7_init_10 : decode cX7_init 10 = .ok (.aload_n 2, 1) := by decide +kernel
theorem dX7_init_11 : decode cX7_init 11 = .ok (.putfield 15, 3) := by decide +kernel
theorem dX7_init_14 : decode cX7_init 14 = .ok (.aload_n 0, 1) := by decide +kernel
theorem dX7_init_15 : decode cX7_init 15 = .ok (.iload_n 3, 1) := by decide +kernel
theorem dX7_init_16 : decode cX7_init 16 = .ok (.putfield 19, 3) := by decide +kernel
theorem dX7_init_19 : decode cX7_init 19 = .ok (.aload_n 0, 1) := by decide +kernel
theorem dX7_init_20 : decode cX7_init 20 = .ok (.new 23, 3) := by decide +kernel
theorem dX7_init_23 : decode cX7_init 23 = .ok (.dup, 1) := by decide +kernel
theorem dX7_init_24 : decode cX7_init 24 = .ok (.invokespecial 25, 3) := by decide +kernel
theorem dX7_init_27 : decode cX7_init 27 = .ok (.putfield 26, 3) := by decide +kernel
theorem dX7_init_30 : decode cX7_init 30 = .ok (.aload_n 0, 1) := by decide +kernel
theorem dX7_init_31 : decode cX7_init 31 = .ok (.new 30, 3) := by decide +kernel
theorem dX7_init_34 : decode cX7_init 34 = .ok (.dup, 1) := by decide +kernel
theorem dX7_init_35 : decode cX7_init 35 = .ok (.sipush 800, 3) := by decide +kernel
theorem dX7_init_38 : decode cX7_init 38 = .ok (.invokespecial 32, 3) := by decide +kernel
theorem dX7_init_41 : decode cX7_init 41 = .ok (.putfield 35, 3) := by decide +kernel
theorem dX7_init_44 : decode cX7_init 44 = .ok (.aload_n 0, 1) := by decide +kernel
theorem dX7_init_45 : decode cX7_init 45 = .ok (.new 30, 3) := by decide +kernel
theorem dX7_init_48 : decode cX7_init 48 = .ok (.dup, 1) := by decide +kernel
theorem dX7_init_49 : decode cX7_init 49 = .ok (.sipush 800, 3) := by decide +kernel
theorem dX7_init_52 : decode cX7_init 52 = .ok (.invokespecial 32, 3) := by decide +kernel
theorem dX7_init_55 : decode cX7_init 55 = .ok (.putfield 39, 3) := by decide +kernel
theorem dX7_init_58 : decode cX7_init 58 = .ok (.aload_n 0, 1) := by decide +kernel
theorem dX7_init_59 : decode cX7_init 59 = .ok (.new 42, 3) := by decide +kernel
theorem dX7_init_62 : decode cX7_init 62 = .ok (.dup, 1) := by decide +kernel
theorem dX7_init_63 : decode cX7_init 63 = .ok (.aload_n 2, 1) := by decide +kernel
theorem dX7_init_64 : decode cX7_init 64 = .ok (.invokevirtual 44, 3) := by decide +kernel
theorem dX7_init_67 : decode cX7_init 67 = .ok (.invokespecial 50, 3) := by decide +kernel
theorem dX7_init_70 : decode cX7_init 70 = .ok (.putfield 51, 3) := by decide +kernel
theorem dX7_init_73 : decode cX7_init 73 = .ok (.aload_n 0, 1) := by decide +kernel
theorem dX7_init_74 : decode cX7_init 74 = .ok (.iconst 0, 1) := by decide +kernel
theorem dX7_init_75 : decode cX7_init 75 = .ok (.putfield 55, 3) := by decide +kernel
theorem dX7_init_78 : decode cX7_init 78 = .ok (.aload_n 0, 1) := by decide +kernel
theorem dX7_init_79 : decode cX7_init 79 = .ok (.iconst 0, 1) := by decide +kernel
theorem dX7_init_80 : decode cX7_init 80 = .ok (.putfield 58, 3) := by decide +kernel
theorem dX7_init_83 : decode cX7_init 83 = .ok (.aload_n 0, 1) := by decide +kernel
theorem dX7_init_84 : decode cX7_init 84 = .ok (.iconst 0, 1) := by decide +kernel
theorem dX7_init_85 : decode cX7_init 85 = .ok (.putfield 61, 3) := by decide +kernel
theorem dX7_init_88 : decode cX7_init 88 = .ok (.aload_n 0, 1) := by decide +kernel
theorem dX7_init_89 : decode cX7_init 89 = .ok (.iconst 0, 1) := by decide +kernel
theorem dX7_init_90 : decode cX7_init 90 = .ok (.putfield 64, 3) := by decide +kernel
theorem dX7_init_93 : decode cX7_init 93 = .ok (.return_, 1) := by decide +kernel
theorem dX7_size_0 : decode cX7_size 0 = .ok (.aload_n 0, 1) := by decide +kernel
theorem dX7_size_1 : decode cX7_size 1 = .ok (.getfield 26, 3) := by decide +kernel
theorem dX7_size_4 : decode cX7_size 4 = .ok (.invokevirtual 67, 3) := by decide +kernel
theorem dX7_size_7 : decode cX7_size 7 = .ok (.ireturn, 1) := by decide +kernel
theorem dX7_levelOf_0 : decode cX7_levelOf 0 = .ok (.aload_n 0, 1) := by decide +kernel
theorem dX7_levelOf_1 : decode cX7_levelOf 1 = .ok (.iload_n 1, 1) := by decide +kernel
theorem dX7_levelOf_2 : decode cX7_levelOf 2 = .ok (.invokevirtual 68, 3) := by decide +kernel
theorem dX7_levelOf_5 : decode cX7_levelOf 5 = .ok (.ifCond .eq 20, 3) := by decide +kernel
theorem dX7_levelOf_8 : decode cX7_levelOf 8 = .ok (.aload_n 0, 1) := by decide +kernel
theorem dX7_levelOf_9 : decode cX7_levelOf 9 = .ok (.getfield 26, 3) := by decide +kernel
theorem dX7_levelOf_12 : decode cX7_levelOf 12 = .ok (.iload_n 1, 1) := by decide +kernel
theorem dX7_levelOf_13 : decode cX7_levelOf 13 = .ok (.invokevirtual 72, 3) := by decide +kernel
theorem dX7_levelOf_16 : decode cX7_levelOf 16 = .ok (.checkcast 76, 3) := by decide +kernel
theorem dX7_levelOf_19 : decode cX7_levelOf 19 = .ok (.getfield 78, 3) := by decide +kernel
theorem dX7_levelOf_22 : decode cX7_levelOf 22 = .ok (.goto 4, 3) := by decide +kernel
theorem dX7_levelOf_25 : decode cX7_levelOf 25 = .ok (.iconst 0, 1) := by decide +kernel
theorem dX7_levelOf_26 : decode cX7_levelOf 26 = .ok (.ireturn, 1) := by decide +kernel
theorem dX7_blocksOf_0 : decode cX7_blocksOf 0 = .ok (.aload_n 0, 1) := by decide +kernel
theorem dX7_blocksOf_1 : decode cX7_blocksOf 1 = .ok (.iload_n 1, 1) := by decide +kernel
theorem dX7_blocksOf_2 : decode cX7_blocksOf 2 = .ok (.invokevirtual 68, 3) := by decide +kernel
theorem dX7_blocksOf_5 : decode cX7_blocksOf 5 = .ok (.ifCond .eq 21, 3) := by decide +kernel
theorem dX7_blocksOf_8 : decode cX7_blocksOf 8 = .ok (.aload_n 0, 1) := by decide +kernel
theorem dX7_blocksOf_9 : decode cX7_blocksOf 9 = .ok (.getfield 26, 3) := by decide +kernel
theorem dX7_blocksOf_12 : decode cX7_blocksOf 12 = .ok (.iload_n 1, 1) := by decide +kernel
theorem dX7_blocksOf_13 : decode cX7_blocksOf 13 = .ok (.invokevirtual 72, 3) := by decide +kernel
theorem dX7_blocksOf_16 : decode cX7_blocksOf 16 = .ok (.checkcast 76, 3) := by decide +kernel
theorem dX7_blocksOf_19 : decode cX7_blocksOf 19 = .ok (.getfield 81, 3) := by decide +kernel
theorem dX7_blocksOf_22 : decode cX7_blocksOf 22 = .ok (.arraylength, 1) := by decide +kernel
theorem dX7_blocksOf_23 : decode cX7_blocksOf 23 = .ok (.goto 4, 3) := by decide +kernel
theorem dX7_blocksOf_26 : decode cX7_blocksOf 26 = .ok (.iconst 0, 1) := by decide +kernel
theorem dX7_blocksOf_27 : decode cX7_blocksOf 27 = .ok (.ireturn, 1) := by decide +kernel
theorem dX7_firstBlockOf_0 : decode cX7_firstBlockOf 0 = .ok (.aload_n 0, 1) := by decide +kernel
theorem dX7_firstBlockOf_1 : decode cX7_firstBlockOf 1 = .ok (.iload_n 1, 1) := by decide +kernel
theorem dX7_firstBlockOf_2 : decode cX7_firstBlockOf 2 = .ok (.invokevirtual 85, 3) := by decide +kernel
theorem dX7_firstBlockOf_5 : decode cX7_firstBlockOf 5 = .ok (.ifCond .le 22, 3) := by decide +kernel
theorem dX7_firstBlockOf_8 : decode cX7_firstBlockOf 8 = .ok (.aload_n 0, 1) := by decide +kernel
theorem dX7_firstBlockOf_9 : decode cX7_firstBlockOf 9 = .ok (.getfield 26, 3) := by decide +kernel
theorem dX7_firstBlockOf_12 : decode cX7_firstBlockOf 12 = .ok (.iload_n 1, 1) := by decide +kernel
theorem dX7_firstBlockOf_13 : decode cX7_firstBlockOf 13 = .ok (.invokevirtual 72, 3) := by decide +kernel
theorem dX7_firstBlockOf_16 : decode cX7_firstBlockOf 16 = .ok (.checkcast 76, 3) := by decide +kernel
theorem dX7_firstBlockOf_19 : decode cX7_firstBlockOf 19 = .ok (.getfield 81, 3) := by decide +kernel
theorem dX7_firstBlockOf_22 : decode cX7_firstBlockOf 22 = .ok (.iconst 0, 1) := by decide +kernel
theorem dX7_firstBlockOf_23 : decode cX7_firstBlockOf 23 = .ok (.iaload, 1) := by decide +kernel
theorem dX7_firstBlockOf_24 : decode cX7_firstBlockOf 24 = .ok (.goto 4, 3) := by decide +kernel
theorem dX7_firstBlockOf_27 : decode cX7_firstBlockOf 27 = .ok (.iconst 0, 1) := by decide +kernel
theorem dX7_firstBlockOf_28 : decode cX7_firstBlockOf 28 = .ok (.ireturn, 1) := by decide +kernel
theorem dX7_bytesOf_0 : decode cX7_bytesOf 0 = .ok (.aload_n 0, 1) := by decide +kernel
theorem dX7_bytesOf_1 : decode cX7_bytesOf 1 = .ok (.iload_n 1, 1) := by decide +kernel
theorem dX7_bytesOf_2 : decode cX7_bytesOf 2 = .ok (.invokevirtual 68, 3) := by decide +kernel
theorem dX7_bytesOf_5 : decode cX7_bytesOf 5 = .ok (.ifCond .eq 20, 3) := by decide +kernel
theorem dX7_bytesOf_8 : decode cX7_bytesOf 8 = .ok (.aload_n 0, 1) := by decide +kernel
theorem dX7_bytesOf_9 : decode cX7_bytesOf 9 = .ok (.getfield 26, 3) := by decide +kernel
theorem dX7_bytesOf_12 : decode cX7_bytesOf 12 = .ok (.iload_n 1, 1) := by decide +kernel
theorem dX7_bytesOf_13 : decode cX7_bytesOf 13 = .ok (.invokevirtual 72, 3) := by decide +kernel
theorem dX7_bytesOf_16 : decode cX7_bytesOf 16 = .ok (.checkcast 76, 3) := by decide +kernel
theorem dX7_bytesOf_19 : decode cX7_bytesOf 19 = .ok (.getfield 89, 3) := by decide +kernel
theorem dX7_bytesOf_22 : decode cX7_bytesOf 22 = .ok (.goto 4, 3) := by decide +kernel
theorem dX7_bytesOf_25 : decode cX7_bytesOf 25 = .ok (.iconst 0, 1) := by decide +kernel
theorem dX7_bytesOf_26 : decode cX7_bytesOf 26 = .ok (.ireturn, 1) := by decide +kernel
theorem dX7_hasByte_0 : decode cX7_hasByte 0 = .ok (.aload_n 0, 1) := by decide +kernel
theorem dX7_hasByte_1 : decode cX7_hasByte 1 = .ok (.getfield 15, 3) := by decide +kernel
theorem dX7_hasByte_4 : decode cX7_hasByte 4 = .ok (.iload_n 1, 1) := by decide +kernel
theorem dX7_hasByte_5 : decode cX7_hasByte 5 = .ok (.iload_n 2, 1) := by decide +kernel
theorem dX7_hasByte_6 : decode cX7_hasByte 6 = .ok (.invokevirtual 91, 3) := by decide +kernel
theorem dX7_hasByte_9 : decode cX7_hasByte 9 = .ok (.ireturn, 1) := by decide +kernel
theorem dX7_byteAt_0 : decode cX7_byteAt 0 = .ok (.aload_n 0, 1) := by decide +kernel
theorem dX7_byteAt_1 : decode cX7_byteAt 1 = .ok (.getfield 15, 3) := by decide +kernel
theorem dX7_byteAt_4 : decode cX7_byteAt 4 = .ok (.iload_n 1, 1) := by decide +kernel
theorem dX7_byteAt_5 : decode cX7_byteAt 5 = .ok (.iload_n 2, 1) := by decide +kernel
theorem dX7_byteAt_6 : decode cX7_byteAt 6 = .ok (.invokevirtual 94, 3) := by decide +kernel
theorem dX7_byteAt_9 : decode cX7_byteAt 9 = .ok (.ireturn, 1) := by decide +kernel
theorem dX7_freeBlocks_0 : decode cX7_freeBlocks 0 = .ok (.aload_n 0, 1) := by decide +kernel
theorem dX7_freeBlocks_1 : decode cX7_freeBlocks 1 = .ok (.getfield 15, 3) := by decide +kernel
theorem dX7_freeBlocks_4 : decode cX7_freeBlocks 4 = .ok (.invokevirtual 98, 3) := by decide +kernel
theorem dX7_freeBlocks_7 : decode cX7_freeBlocks 7 = .ok (.ireturn, 1) := by decide +kernel
theorem dX7_blocksRead_0 : decode cX7_blocksRead 0 = .ok (.aload_n 0, 1) := by decide +kernel
theorem dX7_blocksRead_1 : decode cX7_blocksRead 1 = .ok (.getfield 55, 3) := by decide +kernel
theorem dX7_blocksRead_4 : decode cX7_blocksRead 4 = .ok (.ireturn, 1) := by decide +kernel
theorem dX7_blocksWritten_0 : decode cX7_blocksWritten 0 = .ok (.aload_n 0, 1) := by decide +kernel
theorem dX7_blocksWritten_1 : decode cX7_blocksWritten 1 = .ok (.getfield 58, 3) := by decide +kernel
theorem dX7_blocksWritten_4 : decode cX7_blocksWritten 4 = .ok (.ireturn, 1) := by decide +kernel
theorem dX7_mergesDone_0 : decode cX7_mergesDone 0 = .ok (.aload_n 0, 1) := by decide +kernel
theorem dX7_mergesDone_1 : decode cX7_mergesDone 1 = .ok (.getfield 61, 3) := by decide +kernel
theorem dX7_mergesDone_4 : decode cX7_mergesDone 4 = .ok (.ireturn, 1) := by decide +kernel
theorem dX7_mergesWithoutRoom_0 : decode cX7_mergesWithoutRoom 0 = .ok (.aload_n 0, 1) := by decide +kernel
theorem dX7_mergesWithoutRoom_1 : decode cX7_mergesWithoutRoom 1 = .ok (.getfield 64, 3) := by decide +kernel
theorem dX7_mergesWithoutRoom_4 : decode cX7_mergesWithoutRoom 4 = .ok (.ireturn, 1) := by decide +kernel
theorem dX7_append_0 : decode cX7_append 0 = .ok (.aload_n 0, 1) := by decide +kernel
theorem dX7_append_1 : decode cX7_append 1 = .ok (.getfield 35, 3) := by decide +kernel
theorem dX7_append_4 : decode cX7_append 4 = .ok (.invokevirtual 101, 3) := by decide +kernel
theorem dX7_append_7 : decode cX7_append 7 = .ok (.aload_n 0, 1) := by decide +kernel
theorem dX7_append_8 : decode cX7_append 8 = .ok (.getfield 35, 3) := by decide +kernel
theorem dX7_append_11 : decode cX7_append 11 = .ok (.aload_n 1, 1) := by decide +kernel
theorem dX7_append_12 : decode cX7_append 12 = .ok (.invokevirtual 104, 3) := by decide +kernel
theorem dX7_append_15 : decode cX7_append 15 = .ok (.aload_n 0, 1) := by decide +kernel
theorem dX7_append_16 : decode cX7_append 16 = .ok (.invokevirtual 108, 3) := by decide +kernel
theorem dX7_append_19 : decode cX7_append 19 = .ok (.ifCond .ne 5, 3) := by decide +kernel
theorem dX7_append_22 : decode cX7_append 22 = .ok (.iconst 0, 1) := by decide +kernel
theorem dX7_append_23 : decode cX7_append 23 = .ok (.ireturn, 1) := by decide +kernel
theorem dX7_append_24 : decode cX7_append 24 = .ok (.aload_n 0, 1) := by decide +kernel
theorem dX7_append_25 : decode cX7_append 25 = .ok (.aload_n 0, 1) := by decide +kernel
theorem dX7_append_26 : decode cX7_append 26 = .ok (.getfield 26, 3) := by decide +kernel
theorem dX7_append_29 : decode cX7_append 29 = .ok (.invokevirtual 67, 3) := by decide +kernel
theorem dX7_append_32 : decode cX7_append 32 = .ok (.iconst 0, 1) := by decide +kernel
theorem dX7_append_33 : decode cX7_append 33 = .ok (.invokevirtual 112, 3) := by decide +kernel
theorem dX7_append_36 : decode cX7_append 36 = .ok (.iconst 1, 1) := by decide +kernel
theorem dX7_append_37 : decode cX7_append 37 = .ok (.ireturn, 1) := by decide +kernel
theorem dX7_mergeFullLevels_0 : decode cX7_mergeFullLevels 0 = .ok (.iconst 0, 1) := by decide +kernel
theorem dX7_mergeFullLevels_1 : decode cX7_mergeFullLevels 1 = .ok (.istore_n 1, 1) := by decide +kernel
theorem dX7_mergeFullLevels_2 : decode cX7_mergeFullLevels 2 = .ok (.iload_n 1, 1) := by decide +kernel
theorem dX7_mergeFullLevels_3 : decode cX7_mergeFullLevels 3 = .ok (.bipush 60, 2) := by decide +kernel
theorem dX7_mergeFullLevels_5 : decode cX7_mergeFullLevels 5 = .ok (.if_icmp .ge 28, 3) := by decide +kernel
theorem dX7_mergeFullLevels_8 : decode cX7_mergeFullLevels 8 = .ok (.aload_n 0, 1) := by decide +kernel
theorem dX7_mergeFullLevels_9 : decode cX7_mergeFullLevels 9 = .ok (.invokevirtual 116, 3) := by decide +kernel
theorem dX7_mergeFullLevels_12 : decode cX7_mergeFullLevels 12 = .ok (.istore_n 2, 1) := by decide +kernel
theorem dX7_mergeFullLevels_13 : decode cX7_mergeFullLevels 13 = .ok (.iload_n 2, 1) := by decide +kernel
theorem dX7_mergeFullLevels_14 : decode cX7_mergeFullLevels 14 = .ok (.ifCond .lt 12, 3) := by decide +kernel
theorem dX7_mergeFullLevels_17 : decode cX7_mergeFullLevels 17 = .ok (.aload_n 0, 1) := by decide +kernel
theorem dX7_mergeFullLevels_18 : decode cX7_mergeFullLevels 18 = .ok (.iload_n 2, 1) := by decide +kernel
theorem dX7_mergeFullLevels_19 : decode cX7_mergeFullLevels 19 = .ok (.iload_n 2, 1) := by decide +kernel
theorem dX7_mergeFullLevels_20 : decode cX7_mergeFullLevels 20 = .ok (.invokevirtual 119, 3) := by decide +kernel
theorem dX7_mergeFullLevels_23 : decode cX7_mergeFullLevels 23 = .ok (.ifCond .ne 4, 3) := by decide +kernel
theorem dX7_mergeFullLevels_26 : decode cX7_mergeFullLevels 26 = .ok (.return_, 1) := by decide +kernel
theorem dX7_mergeFullLevels_27 : decode cX7_mergeFullLevels 27 = .ok (.iinc 1 1, 3) := by decide +kernel
theorem dX7_mergeFullLevels_30 : decode cX7_mergeFullLevels 30 = .ok (.goto (-28), 3) := by decide +kernel
theorem dX7_mergeFullLevels_33 : decode cX7_mergeFullLevels 33 = .ok (.return_, 1) := by decide +kernel
theorem dX7_mergeAll_0 : decode cX7_mergeAll 0 = .ok (.aload_n 0, 1) := by decide +kernel
theorem dX7_mergeAll_1 : decode cX7_mergeAll 1 = .ok (.getfield 26, 3) := by decide +kernel
theorem dX7_mergeAll_4 : decode cX7_mergeAll 4 = .ok (.invokevirtual 122, 3) := by decide +kernel
theorem dX7_mergeAll_7 : decode cX7_mergeAll 7 = .ok (.ifCond .eq 5, 3) := by decide +kernel
theorem dX7_mergeAll_10 : decode cX7_mergeAll 10 = .ok (.iconst 1, 1) := by decide +kernel
theorem dX7_mergeAll_11 : decode cX7_mergeAll 11 = .ok (.ireturn, 1) := by decide +kernel
theorem dX7_mergeAll_12 : decode cX7_mergeAll 12 = .ok (.iconst 0, 1) := by decide +kernel
theorem dX7_mergeAll_13 : decode cX7_mergeAll 13 = .ok (.istore_n 1, 1) := by decide +kernel
theorem dX7_mergeAll_14 : decode cX7_mergeAll 14 = .ok (.iconst 0, 1) := by decide +kernel
theorem dX7_mergeAll_15 : decode cX7_mergeAll 15 = .ok (.istore_n 2, 1) := by decide +kernel
theorem dX7_mergeAll_16 : decode cX7_mergeAll 16 = .ok (.iload_n 2, 1) := by decide +kernel
theorem dX7_mergeAll_17 : decode cX7_mergeAll 17 = .ok (.aload_n 0, 1) := by decide +kernel
theorem dX7_mergeAll_18 : decode cX7_mergeAll 18 = .ok (.getfield 26, 3) := by decide +kernel
theorem dX7_mergeAll_21 : decode cX7_mergeAll 21 = .ok (.invokevirtual 67, 3) := by decide +kernel
theorem dX7_mergeAll_24 : decode cX7_mergeAll 24 = .ok (.if_icmp .ge 28, 3) := by decide +kernel
theorem dX7_mergeAll_27 : decode cX7_mergeAll 27 = .ok (.iload_n 1, 1) := by decide +kernel
theorem dX7_mergeAll_28 : decode cX7_mergeAll 28 = .ok (.aload_n 0, 1) := by decide +kernel
theorem dX7_mergeAll_29 : decode cX7_mergeAll 29 = .ok (.getfield 26, 3) := by decide +kernel
theorem dX7_mergeAll_32 : decode cX7_mergeAll 32 = .ok (.iload_n 2, 1) := by decide +kernel
theorem dX7_mergeAll_33 : decode cX7_mergeAll 33 = .ok (.invokevirtual 72, 3) := by decide +kernel
theorem dX7_mergeAll_36 : decode cX7_mergeAll 36 = .ok (.checkcast 76, 3) := by decide +kernel
theorem dX7_mergeAll_39 : decode cX7_mergeAll 39 = .ok (.getfield 78, 3) := by decide +kernel
theorem dX7_mergeAll_42 : decode cX7_mergeAll 42 = .ok (.invokestatic 125, 3) := by decide +kernel
theorem dX7_mergeAll_45 : decode cX7_mergeAll 45 = .ok (.istore_n 1, 1) := by decide +kernel
theorem dX7_mergeAll_46 : decode cX7_mergeAll 46 = .ok (.iinc 2 1, 3) := by decide +kernel
theorem dX7_mergeAll_49 : decode cX7_mergeAll 49 = .ok (.goto (-33), 3) := by decide +kernel
theorem dX7_mergeAll_52 : decode cX7_mergeAll 52 = .ok (.aload_n 0, 1) := by decide +kernel
theorem dX7_mergeAll_53 : decode cX7_mergeAll 53 = .ok (.iconst 0, 1) := by decide +kernel
theorem dX7_mergeAll_54 : decode cX7_mergeAll 54 = .ok (.iload_n 1, 1) := by decide +kernel
theorem dX7_mergeAll_55 : decode cX7_mergeAll 55 = .ok (.invokevirtual 119, 3) := by decide +kernel
theorem dX7_mergeAll_58 : decode cX7_mergeAll 58 = .ok (.ireturn, 1) := by decide +kernel
theorem dX7_readAll_0 : decode cX7_readAll 0 = .ok (.iconst 0, 1) := by decide +kernel
theorem dX7_readAll_1 : decode cX7_readAll 1 = .ok (.istore_n 3, 1) := by decide +kernel
theorem dX7_readAll_2 : decode cX7_readAll 2 = .ok (.iload_n 3, 1) := by decide +kernel
theorem dX7_readAll_3 : decode cX7_readAll 3 = .ok (.aload_n 0, 1) := by decide +kernel
theorem dX7_readAll_4 : decode cX7_readAll 4 = .ok (.getfield 26, 3) := by decide +kernel
theorem dX7_readAll_7 : decode cX7_readAll 7 = .ok (.invokevirtual 67, 3) := by decide +kernel
theorem dX7_readAll_10 : decode cX7_readAll 10 = .ok (.if_icmp .ge 48, 3) := by decide +kernel
theorem dX7_readAll_13 : decode cX7_readAll 13 = .ok (.aload_n 0, 1) := by decide +kernel
theorem dX7_readAll_14 : decode cX7_readAll 14 = .ok (.aload_n 0, 1) := by decide +kernel
theorem dX7_readAll_15 : decode cX7_readAll 15 = .ok (.getfield 26, 3) := by decide +kernel
theorem dX7_readAll_18 : decode cX7_readAll 18 = .ok (.iload_n 3, 1) := by decide +kernel
theorem dX7_readAll_19 : decode cX7_readAll 19 = .ok (.invokevirtual 72, 3) := by decide +kernel
theorem dX7_readAll_22 : decode cX7_readAll 22 = .ok (.checkcast 76, 3) := by decide +kernel
theorem dX7_readAll_25 : decode cX7_readAll 25 = .ok (.invokevirtual 130, 3) := by decide +kernel
theorem dX7_readAll_28 : decode cX7_readAll 28 = .ok (.aload_n 1, 1) := by decide +kernel
theorem dX7_readAll_29 : decode cX7_readAll 29 = .ok (.aload_n 0, 1) := by decide +kernel
theorem dX7_readAll_30 : decode cX7_readAll 30 = .ok (.getfield 39, 3) := by decide +kernel
theorem dX7_readAll_33 : decode cX7_readAll 33 = .ok (.aload_n 0, 1) := by decide +kernel
theorem dX7_readAll_34 : decode cX7_readAll 34 = .ok (.getfield 9, 3) := by decide +kernel
theorem dX7_readAll_37 : decode cX7_readAll 37 = .ok (.invokevirtual 134, 3) := by decide +kernel
theorem dX7_readAll_40 : decode cX7_readAll 40 = .ok (.aload_n 2, 1) := by decide +kernel
theorem dX7_readAll_41 : decode cX7_readAll 41 = .ok (.aload_n 0, 1) := by decide +kernel
theorem dX7_readAll_42 : decode cX7_readAll 42 = .ok (.getfield 39, 3) := by decide +kernel
theorem dX7_readAll_45 : decode cX7_readAll 45 = .ok (.aload_n 0, 1) := by decide +kernel
theorem dX7_readAll_46 : decode cX7_readAll 46 = .ok (.getfield 9, 3) := by decide +kernel
theorem dX7_readAll_49 : decode cX7_readAll 49 = .ok (.invokevirtual 134, 3) := by decide +kernel
theorem dX7_readAll_52 : decode cX7_readAll 52 = .ok (.iinc 3 1, 3) := by decide +kernel
theorem dX7_readAll_55 : decode cX7_readAll 55 = .ok (.goto (-53), 3) := by decide +kernel
theorem dX7_readAll_58 : decode cX7_readAll 58 = .ok (.return_, 1) := by decide +kernel
theorem dX7_has_0 : decode cX7_has 0 = .ok (.iload_n 1, 1) := by decide +kernel
theorem dX7_has_1 : decode cX7_has 1 = .ok (.ifCond .lt 18, 3) := by decide +kernel
theorem dX7_has_4 : decode cX7_has 4 = .ok (.iload_n 1, 1) := by decide +kernel
theorem dX7_has_5 : decode cX7_has 5 = .ok (.aload_n 0, 1) := by decide +kernel
theorem dX7_has_6 : decode cX7_has 6 = .ok (.getfield 26, 3) := by decide +kernel
theorem dX7_has_9 : decode cX7_has 9 = .ok (.invokevirtual 67, 3) := by decide +kernel
theorem dX7_has_12 : decode cX7_has 12 = .ok (.if_icmp .ge 7, 3) := by decide +kernel
theorem dX7_has_15 : decode cX7_has 15 = .ok (.iconst 1, 1) := by decide +kernel
theorem dX7_has_16 : decode cX7_has 16 = .ok (.goto 4, 3) := by decide +kernel
theorem dX7_has_19 : decode cX7_has 19 = .ok (.iconst 0, 1) := by decide +kernel
theorem dX7_has_20 : decode cX7_has 20 = .ok (.ireturn, 1) := by decide +kernel
theorem dX7_leastFullLevel_0 : decode cX7_leastFullLevel 0 = .ok (.iconst (-1), 1) := by decide +kernel
theorem dX7_leastFullLevel_1 : decode cX7_leastFullLevel 1 = .ok (.istore_n 1, 1) := by decide +kernel
theorem dX7_leastFullLevel_2 : decode cX7_leastFullLevel 2 = .ok (.iconst 0, 1) := by decide +kernel
theorem dX7_leastFullLevel_3 : decode cX7_leastFullLevel 3 = .ok (.istore_n 2, 1) := by decide +kernel
theorem dX7_leastFullLevel_4 : decode cX7_leastFullLevel 4 = .ok (.iload_n 2, 1) := by decide +kernel
theorem dX7_leastFullLevel_5 : decode cX7_leastFullLevel 5 = .ok (.aload_n 0, 1) := by decide +kernel
theorem dX7_leastFullLevel_6 : decode cX7_leastFullLevel 6 = .ok (.getfield 26, 3) := by decide +kernel
theorem dX7_leastFullLevel_9 : decode cX7_leastFullLevel 9 = .ok (.invokevirtual 67, 3) := by decide +kernel
theorem dX7_leastFullLevel_12 : decode cX7_leastFullLevel 12 = .ok (.if_icmp .ge 47, 3) := by decide +kernel
theorem dX7_leastFullLevel_15 : decode cX7_leastFullLevel 15 = .ok (.aload_n 0, 1) := by decide +kernel
theorem dX7_leastFullLevel_16 : decode cX7_leastFullLevel 16 = .ok (.getfield 26, 3) := by decide +kernel
theorem dX7_leastFullLevel_19 : decode cX7_leastFullLevel 19 = .ok (.iload_n 2, 1) := by decide +kernel
theorem dX7_leastFullLevel_20 : decode cX7_leastFullLevel 20 = .ok (.invokevirtual 72, 3) := by decide +kernel
theorem dX7_leastFullLevel_23 : decode cX7_leastFullLevel 23 = .ok (.checkcast 76, 3) := by decide +kernel
theorem dX7_leastFullLevel_26 : decode cX7_leastFullLevel 26 = .ok (.getfield 78, 3) := by decide +kernel
theorem dX7_leastFullLevel_29 : decode cX7_leastFullLevel 29 = .ok (.istore_n 3, 1) := by decide +kernel
theorem dX7_leastFullLevel_30 : decode cX7_leastFullLevel 30 = .ok (.iload_n 1, 1) := by decide +kernel
theorem dX7_leastFullLevel_31 : decode cX7_leastFullLevel 31 = .ok (.ifCond .lt 8, 3) := by decide +kernel
theorem dX7_leastFullLevel_34 : decode cX7_leastFullLevel 34 = .ok (.iload_n 3, 1) := by decide +kernel
theorem dX7_leastFullLevel_35 : decode cX7_leastFullLevel 35 = .ok (.iload_n 1, 1) := by decide +kernel
theorem dX7_leastFullLevel_36 : decode cX7_leastFullLevel 36 = .ok (.if_icmp .ge 17, 3) := by decide +kernel
theorem dX7_leastFullLevel_39 : decode cX7_leastFullLevel 39 = .ok (.aload_n 0, 1) := by decide +kernel
theorem dX7_leastFullLevel_40 : decode cX7_leastFullLevel 40 = .ok (.iload_n 3, 1) := by decide +kernel
theorem dX7_leastFullLevel_41 : decode cX7_leastFullLevel 41 = .ok (.invokevirtual 140, 3) := by decide +kernel
theorem dX7_leastFullLevel_44 : decode cX7_leastFullLevel 44 = .ok (.aload_n 0, 1) := by decide +kernel
theorem dX7_leastFullLevel_45 : decode cX7_leastFullLevel 45 = .ok (.getfield 19, 3) := by decide +kernel
theorem dX7_leastFullLevel_48 : decode cX7_leastFullLevel 48 = .ok (.if_icmp .lt 5, 3) := by decide +kernel
theorem dX7_leastFullLevel_51 : decode cX7_leastFullLevel 51 = .ok (.iload_n 3, 1) := by decide +kernel
theorem dX7_leastFullLevel_52 : decode cX7_leastFullLevel 52 = .ok (.istore_n 1, 1) := by decide +kernel
theorem dX7_leastFullLevel_53 : decode cX7_leastFullLevel 53 = .ok (.iinc 2 1, 3) := by decide +kernel
theorem dX7_leastFullLevel_56 : decode cX7_leastFullLevel 56 = .ok (.goto (-52), 3) := by decide +kernel
theorem dX7_leastFullLevel_59 : decode cX7_leastFullLevel 59 = .ok (.iload_n 1, 1) := by decide +kernel
theorem dX7_leastFullLevel_60 : decode cX7_leastFullLevel 60 = .ok (.ireturn, 1) := by decide +kernel
theorem dX7_runsOf_0 : decode cX7_runsOf 0 = .ok (.iconst 0, 1) := by decide +kernel
theorem dX7_runsOf_1 : decode cX7_runsOf 1 = .ok (.istore_n 2, 1) := by decide +kernel
theorem dX7_runsOf_2 : decode cX7_runsOf 2 = .ok (.iconst 0, 1) := by decide +kernel
theorem dX7_runsOf_3 : decode cX7_runsOf 3 = .ok (.istore_n 3, 1) := by decide +kernel
theorem dX7_runsOf_4 : decode cX7_runsOf 4 = .ok (.iload_n 3, 1) := by decide +kernel
theorem dX7_runsOf_5 : decode cX7_runsOf 5 = .ok (.aload_n 0, 1) := by decide +kernel
theorem dX7_runsOf_6 : decode cX7_runsOf 6 = .ok (.getfield 26, 3) := by decide +kernel
theorem dX7_runsOf_9 : decode cX7_runsOf 9 = .ok (.invokevirtual 67, 3) := by decide +kernel
theorem dX7_runsOf_12 : decode cX7_runsOf 12 = .ok (.if_icmp .ge 30, 3) := by decide +kernel
theorem dX7_runsOf_15 : decode cX7_runsOf 15 = .ok (.aload_n 0, 1) := by decide +kernel
theorem dX7_runsOf_16 : decode cX7_runsOf 16 = .ok (.getfield 26, 3) := by decide +kernel
theorem dX7_runsOf_19 : decode cX7_runsOf 19 = .ok (.iload_n 3, 1) := by decide +kernel
theorem dX7_runsOf_20 : decode cX7_runsOf 20 = .ok (.invokevirtual 72, 3) := by decide +kernel
theorem dX7_runsOf_23 : decode cX7_runsOf 23 = .ok (.checkcast 76, 3) := by decide +kernel
theorem dX7_runsOf_26 : decode cX7_runsOf 26 = .ok (.getfield 78, 3) := by decide +kernel
theorem dX7_runsOf_29 : decode cX7_runsOf 29 = .ok (.iload_n 1, 1) := by decide +kernel
theorem dX7_runsOf_30 : decode cX7_runsOf 30 = .ok (.if_icmp .ne 6, 3) := by decide +kernel
theorem dX7_runsOf_33 : decode cX7_runsOf 33 = .ok (.iinc 2 1, 3) := by decide +kernel
theorem dX7_runsOf_36 : decode cX7_runsOf 36 = .ok (.iinc 3 1, 3) := by decide +kernel
theorem dX7_runsOf_39 : decode cX7_runsOf 39 = .ok (.goto (-35), 3) := by decide +kernel
theorem dX7_runsOf_42 : decode cX7_runsOf 42 = .ok (.iload_n 2, 1) := by decide +kernel
theorem dX7_runsOf_43 : decode cX7_runsOf 43 = .ok (.ireturn, 1) := by decide +kernel
theorem dX7_mergeLevels_0 : decode cX7_mergeLevels 0 = .ok (.aload_n 0, 1) := by decide +kernel
theorem dX7_mergeLevels_1 : decode cX7_mergeLevels 1 = .ok (.getfield 35, 3) := by decide +kernel
theorem dX7_mergeLevels_4 : decode cX7_mergeLevels 4 = .ok (.invokevirtual 101, 3) := by decide +kernel
theorem dX7_mergeLevels_7 : decode cX7_mergeLevels 7 = .ok (.aload_n 0, 1) := by decide +kernel
theorem dX7_mergeLevels_8 : decode cX7_mergeLevels 8 = .ok (.getfield 26, 3) := by decide +kernel
theorem dX7_mergeLevels_11 : decode cX7_mergeLevels 11 = .ok (.invokevirtual 67, 3) := by decide +kernel
theorem dX7_mergeLevels_14 : decode cX7_mergeLevels 14 = .ok (.istore_n 3, 1) := by decide +kernel
theorem dX7_mergeLevels_15 : decode cX7_mergeLevels 15 = .ok (.iconst 0, 1) := by decide +kernel
theorem dX7_mergeLevels_16 : decode cX7_mergeLevels 16 = .ok (.istore 4, 2) := by decide +kernel
theorem dX7_mergeLevels_18 : decode cX7_mergeLevels 18 = .ok (.iload 4, 2) := by decide +kernel
theorem dX7_mergeLevels_20 : decode cX7_mergeLevels 20 = .ok (.aload_n 0, 1) := by decide +kernel
theorem dX7_mergeLevels_21 : decode cX7_mergeLevels 21 = .ok (.getfield 26, 3) := by decide +kernel
theorem dX7_mergeLevels_24 : decode cX7_mergeLevels 24 = .ok (.invokevirtual 67, 3) := by decide +kernel
theorem dX7_mergeLevels_27 : decode cX7_mergeLevels 27 = .ok (.if_icmp .ge 57, 3) := by decide +kernel
theorem dX7_mergeLevels_30 : decode cX7_mergeLevels 30 = .ok (.aload_n 0, 1) := by decide +kernel
theorem dX7_mergeLevels_31 : decode cX7_mergeLevels 31 = .ok (.getfield 26, 3) := by decide +kernel
theorem dX7_mergeLevels_34 : decode cX7_mergeLevels 34 = .ok (.iload 4, 2) := by decide +kernel
theorem dX7_mergeLevels_36 : decode cX7_mergeLevels 36 = .ok (.invokevirtual 72, 3) := by decide +kernel
theorem dX7_mergeLevels_39 : decode cX7_mergeLevels 39 = .ok (.checkcast 76, 3) := by decide +kernel
theorem dX7_mergeLevels_42 : decode cX7_mergeLevels 42 = .ok (.astore 5, 2) := by decide +kernel
theorem dX7_mergeLevels_44 : decode cX7_mergeLevels 44 = .ok (.aload 5, 2) := by decide +kernel
theorem dX7_mergeLevels_46 : decode cX7_mergeLevels 46 = .ok (.iload_n 1, 1) := by decide +kernel
theorem dX7_mergeLevels_47 : decode cX7_mergeLevels 47 = .ok (.iload_n 2, 1) := by decide +kernel
theorem dX7_mergeLevels_48 : decode cX7_mergeLevels 48 = .ok (.invokevirtual 143, 3) := by decide +kernel
theorem dX7_mergeLevels_51 : decode cX7_mergeLevels 51 = .ok (.ifCond .eq 27, 3) := by decide +kernel
theorem dX7_mergeLevels_54 : decode cX7_mergeLevels 54 = .ok (.iload_n 3, 1) := by decide +kernel
theorem dX7_mergeLevels_55 : decode cX7_mergeLevels 55 = .ok (.iload 4, 2) := by decide +kernel
theorem dX7_mergeLevels_57 : decode cX7_mergeLevels 57 = .ok (.invokestatic 146, 3) := by decide +kernel
theorem dX7_mergeLevels_60 : decode cX7_mergeLevels 60 = .ok (.istore_n 3, 1) := by decide +kernel
theorem dX7_mergeLevels_61 : decode cX7_mergeLevels 61 = .ok (.aload_n 0, 1) := by decide +kernel
theorem dX7_mergeLevels_62 : decode cX7_mergeLevels 62 = .ok (.aload 5, 2) := by decide +kernel
theorem dX7_mergeLevels_64 : decode cX7_mergeLevels 64 = .ok (.invokevirtual 130, 3) := by decide +kernel
theorem dX7_mergeLevels_67 : decode cX7_mergeLevels 67 = .ok (.aload_n 0, 1) := by decide +kernel
theorem dX7_mergeLevels_68 : decode cX7_mergeLevels 68 = .ok (.getfield 35, 3) := by decide +kernel
theorem dX7_mergeLevels_71 : decode cX7_mergeLevels 71 = .ok (.aload_n 0, 1) := by decide +kernel
theorem dX7_mergeLevels_72 : decode cX7_mergeLevels 72 = .ok (.getfield 39, 3) := by decide +kernel
theorem dX7_mergeLevels_75 : decode cX7_mergeLevels 75 = .ok (.invokevirtual 104, 3) := by decide +kernel
theorem dX7_mergeLevels_78 : decode cX7_mergeLevels 78 = .ok (.iinc 4 1, 3) := by decide +kernel
theorem dX7_mergeLevels_81 : decode cX7_mergeLevels 81 = .ok (.goto (-63), 3) := by decide +kernel
theorem dX7_mergeLevels_84 : decode cX7_mergeLevels 84 = .ok (.aload_n 0, 1) := by decide +kernel
theorem dX7_mergeLevels_85 : decode cX7_mergeLevels 85 = .ok (.invokevirtual 108, 3) := by decide +kernel
theorem dX7_mergeLevels_88 : decode cX7_mergeLevels 88 = .ok (.ifCond .ne 15, 3) := by decide +kernel
theorem dX7_mergeLevels_91 : decode cX7_mergeLevels 91 = .ok (.aload_n 0, 1) := by decide +kernel
theorem dX7_mergeLevels_92 : decode cX7_mergeLevels 92 = .ok (.dup, 1) := by decide +kernel
theorem dX7_mergeLevels_93 : decode cX7_mergeLevels 93 = .ok (.getfield 64, 3) := by decide +kernel
theorem dX7_mergeLevels_96 : decode cX7_mergeLevels 96 = .ok (.iconst 1, 1) := by decide +kernel
theorem dX7_mergeLevels_97 : decode cX7_mergeLevels 97 = .ok (.iadd, 1) := by decide +kernel
theorem dX7_mergeLevels_98 : decode cX7_mergeLevels 98 = .ok (.putfield 64, 3) := by decide +kernel
theorem dX7_mergeLevels_101 : decode cX7_mergeLevels 101 = .ok (.iconst 0, 1) := by decide +kernel
theorem dX7_mergeLevels_102 : decode cX7_mergeLevels 102 = .ok (.ireturn, 1) := by decide +kernel
theorem dX7_mergeLevels_103 : decode cX7_mergeLevels 103 = .ok (.aload_n 0, 1) := by decide +kernel
theorem dX7_mergeLevels_104 : decode cX7_mergeLevels 104 = .ok (.iload_n 3, 1) := by decide +kernel
theorem dX7_mergeLevels_105 : decode cX7_mergeLevels 105 = .ok (.iload_n 2, 1) := by decide +kernel
theorem dX7_mergeLevels_106 : decode cX7_mergeLevels 106 = .ok (.iconst 1, 1) := by decide +kernel
theorem dX7_mergeLevels_107 : decode cX7_mergeLevels 107 = .ok (.iadd, 1) := by decide +kernel
theorem dX7_mergeLevels_108 : decode cX7_mergeLevels 108 = .ok (.invokevirtual 112, 3) := by decide +kernel
theorem dX7_mergeLevels_111 : decode cX7_mergeLevels 111 = .ok (.aload_n 0, 1) := by decide +kernel
theorem dX7_mergeLevels_112 : decode cX7_mergeLevels 112 = .ok (.iload_n 1, 1) := by decide +kernel
theorem dX7_mergeLevels_113 : decode cX7_mergeLevels 113 = .ok (.iload_n 2, 1) := by decide +kernel
theorem dX7_mergeLevels_114 : decode cX7_mergeLevels 114 = .ok (.invokevirtual 149, 3) := by decide +kernel
theorem dX7_mergeLevels_117 : decode cX7_mergeLevels 117 = .ok (.aload_n 0, 1) := by decide +kernel
theorem dX7_mergeLevels_118 : decode cX7_mergeLevels 118 = .ok (.dup, 1) := by decide +kernel
theorem dX7_mergeLevels_119 : decode cX7_mergeLevels 119 = .ok (.getfield 61, 3) := by decide +kernel
theorem dX7_mergeLevels_122 : decode cX7_mergeLevels 122 = .ok (.iconst 1, 1) := by decide +kernel
theorem dX7_mergeLevels_123 : decode cX7_mergeLevels 123 = .ok (.iadd, 1) := by decide +kernel
theorem dX7_mergeLevels_124 : decode cX7_mergeLevels 124 = .ok (.putfield 61, 3) := by decide +kernel
theorem dX7_mergeLevels_127 : decode cX7_mergeLevels 127 = .ok (.iconst 1, 1) := by decide +kernel
theorem dX7_mergeLevels_128 : decode cX7_mergeLevels 128 = .ok (.ireturn, 1) := by decide +kernel
theorem dX7_readPart_0 : decode cX7_readPart 0 = .ok (.aload_n 0, 1) := by decide +kernel
theorem dX7_readPart_1 : decode cX7_readPart 1 = .ok (.getfield 15, 3) := by decide +kernel
theorem dX7_readPart_4 : decode cX7_readPart 4 = .ok (.aload_n 1, 1) := by decide +kernel
theorem dX7_readPart_5 : decode cX7_readPart 5 = .ok (.aload_n 0, 1) := by decide +kernel
theorem dX7_readPart_6 : decode cX7_readPart 6 = .ok (.getfield 51, 3) := by decide +kernel
theorem dX7_readPart_9 : decode cX7_readPart 9 = .ok (.invokevirtual 152, 3) := by decide +kernel
theorem dX7_readPart_12 : decode cX7_readPart 12 = .ok (.aload_n 0, 1) := by decide +kernel
theorem dX7_readPart_13 : decode cX7_readPart 13 = .ok (.getfield 51, 3) := by decide +kernel
theorem dX7_readPart_16 : decode cX7_readPart 16 = .ok (.aload_n 0, 1) := by decide +kernel
theorem dX7_readPart_17 : decode cX7_readPart 17 = .ok (.getfield 39, 3) := by decide +kernel
theorem dX7_readPart_20 : decode cX7_readPart 20 = .ok (.invokevirtual 156, 3) := by decide +kernel
theorem dX7_readPart_23 : decode cX7_readPart 23 = .ok (.aload_n 0, 1) := by decide +kernel
theorem dX7_readPart_24 : decode cX7_readPart 24 = .ok (.dup, 1) := by decide +kernel
theorem dX7_readPart_25 : decode cX7_readPart 25 = .ok (.getfield 55, 3) := by decide +kernel
theorem dX7_readPart_28 : decode cX7_readPart 28 = .ok (.aload_n 1, 1) := by decide +kernel
theorem dX7_readPart_29 : decode cX7_readPart 29 = .ok (.getfield 81, 3) := by decide +kernel
theorem dX7_readPart_32 : decode cX7_readPart 32 = .ok (.arraylength, 1) := by decide +kernel
theorem dX7_readPart_33 : decode cX7_readPart 33 = .ok (.iadd, 1) := by decide +kernel
theorem dX7_readPart_34 : decode cX7_readPart 34 = .ok (.putfield 55, 3) := by decide +kernel
theorem dX7_readPart_37 : decode cX7_readPart 37 = .ok (.return_, 1) := by decide +kernel
theorem dX7_fitsOnDisk_0 : decode cX7_fitsOnDisk 0 = .ok (.aload_n 0, 1) := by decide +kernel
theorem dX7_fitsOnDisk_1 : decode cX7_fitsOnDisk 1 = .ok (.getfield 35, 3) := by decide +kernel
theorem dX7_fitsOnDisk_4 : decode cX7_fitsOnDisk 4 = .ok (.aload_n 0, 1) := by decide +kernel
theorem dX7_fitsOnDisk_5 : decode cX7_fitsOnDisk 5 = .ok (.getfield 9, 3) := by decide +kernel
theorem dX7_fitsOnDisk_8 : decode cX7_fitsOnDisk 8 = .ok (.invokevirtual 159, 3) := by decide +kernel
theorem dX7_fitsOnDisk_11 : decode cX7_fitsOnDisk 11 = .ok (.aload_n 0, 1) := by decide +kernel
theorem dX7_fitsOnDisk_12 : decode cX7_fitsOnDisk 12 = .ok (.getfield 51, 3) := by decide +kernel
theorem dX7_fitsOnDisk_15 : decode cX7_fitsOnDisk 15 = .ok (.aload_n 0, 1) := by decide +kernel
theorem dX7_fitsOnDisk_16 : decode cX7_fitsOnDisk 16 = .ok (.getfield 35, 3) := by decide +kernel
theorem dX7_fitsOnDisk_19 : decode cX7_fitsOnDisk 19 = .ok (.invokevirtual 163, 3) := by decide +kernel
theorem dX7_fitsOnDisk_22 : decode cX7_fitsOnDisk 22 = .ok (.aload_n 0, 1) := by decide +kernel
theorem dX7_fitsOnDisk_23 : decode cX7_fitsOnDisk 23 = .ok (.getfield 15, 3) := by decide +kernel
theorem dX7_fitsOnDisk_26 : decode cX7_fitsOnDisk 26 = .ok (.aload_n 0, 1) := by decide +kernel
theorem dX7_fitsOnDisk_27 : decode cX7_fitsOnDisk 27 = .ok (.getfield 51, 3) := by decide +kernel
theorem dX7_fitsOnDisk_30 : decode cX7_fitsOnDisk 30 = .ok (.invokevirtual 166, 3) := by decide +kernel
theorem dX7_fitsOnDisk_33 : decode cX7_fitsOnDisk 33 = .ok (.invokevirtual 167, 3) := by decide +kernel
theorem dX7_fitsOnDisk_36 : decode cX7_fitsOnDisk 36 = .ok (.ireturn, 1) := by decide +kernel
theorem dX7_writeAt_0 : decode cX7_writeAt 0 = .ok (.aload_n 0, 1) := by decide +kernel
theorem dX7_writeAt_1 : decode cX7_writeAt 1 = .ok (.getfield 51, 3) := by decide +kernel
theorem dX7_writeAt_4 : decode cX7_writeAt 4 = .ok (.invokevirtual 166, 3) := by decide +kernel
theorem dX7_writeAt_7 : decode cX7_writeAt 7 = .ok (.ifCond .le 54, 3) := by decide +kernel
theorem dX7_writeAt_10 : decode cX7_writeAt 10 = .ok (.iload_n 1, 1) := by decide +kernel
theorem dX7_writeAt_11 : decode cX7_writeAt 11 = .ok (.ifCond .lt 50, 3) := by decide +kernel
theorem dX7_writeAt_14 : decode cX7_writeAt 14 = .ok (.iload_n 1, 1) := by decide +kernel
theorem dX7_writeAt_15 : decode cX7_writeAt 15 = .ok (.aload_n 0, 1) := by decide +kernel
theorem dX7_writeAt_16 : decode cX7_writeAt 16 = .ok (.getfield 26, 3) := by decide +kernel
theorem dX7_writeAt_19 : decode cX7_writeAt 19 = .ok (.invokevirtual 67, 3) := by decide +kernel
theorem dX7_writeAt_22 : decode cX7_writeAt 22 = .ok (.if_icmp .gt 39, 3) := by decide +kernel
theorem dX7_writeAt_25 : decode cX7_writeAt 25 = .ok (.aload_n 0, 1) := by decide +kernel
theorem dX7_writeAt_26 : decode cX7_writeAt 26 = .ok (.getfield 15, 3) := by decide +kernel
theorem dX7_writeAt_29 : decode cX7_writeAt 29 = .ok (.aload_n 0, 1) := by decide +kernel
theorem dX7_writeAt_30 : decode cX7_writeAt 30 = .ok (.getfield 51, 3) := by decide +kernel
theorem dX7_writeAt_33 : decode cX7_writeAt 33 = .ok (.iload_n 2, 1) := by decide +kernel
theorem dX7_writeAt_34 : decode cX7_writeAt 34 = .ok (.invokevirtual 170, 3) := by decide +kernel
theorem dX7_writeAt_37 : decode cX7_writeAt 37 = .ok (.astore_n 3, 1) := by decide +kernel
theorem dX7_writeAt_38 : decode cX7_writeAt 38 = .ok (.aload_n 0, 1) := by decide +kernel
theorem dX7_writeAt_39 : decode cX7_writeAt 39 = .ok (.dup, 1) := by decide +kernel
theorem dX7_writeAt_40 : decode cX7_writeAt 40 = .ok (.getfield 58, 3) := by decide +kernel
theorem dX7_writeAt_43 : decode cX7_writeAt 43 = .ok (.aload_n 3, 1) := by decide +kernel
theorem dX7_writeAt_44 : decode cX7_writeAt 44 = .ok (.getfield 81, 3) := by decide +kernel
theorem dX7_writeAt_47 : decode cX7_writeAt 47 = .ok (.arraylength, 1) := by decide +kernel
theorem dX7_writeAt_48 : decode cX7_writeAt 48 = .ok (.iadd, 1) := by decide +kernel
theorem dX7_writeAt_49 : decode cX7_writeAt 49 = .ok (.putfield 58, 3) := by decide +kernel
theorem dX7_writeAt_52 : decode cX7_writeAt 52 = .ok (.aload_n 0, 1) := by decide +kernel
theorem dX7_writeAt_53 : decode cX7_writeAt 53 = .ok (.getfield 26, 3) := by decide +kernel
theorem dX7_writeAt_56 : decode cX7_writeAt 56 = .ok (.iload_n 1, 1) := by decide +kernel
theorem dX7_writeAt_57 : decode cX7_writeAt 57 = .ok (.aload_n 3, 1) := by decide +kernel
theorem dX7_writeAt_58 : decode cX7_writeAt 58 = .ok (.invokevirtual 174, 3) := by decide +kernel
theorem dX7_writeAt_61 : decode cX7_writeAt 61 = .ok (.return_, 1) := by decide +kernel
theorem dX7_removeLevels_0 : decode cX7_removeLevels 0 = .ok (.aload_n 0, 1) := by decide +kernel
theorem dX7_removeLevels_1 : decode cX7_removeLevels 1 = .ok (.getfield 26, 3) := by decide +kernel
theorem dX7_removeLevels_4 : decode cX7_removeLevels 4 = .ok (.invokevirtual 67, 3) := by decide +kernel
theorem dX7_removeLevels_7 : decode cX7_removeLevels 7 = .ok (.iconst 1, 1) := by decide +kernel
theorem dX7_removeLevels_8 : decode cX7_removeLevels 8 = .ok (.isub, 1) := by decide +kernel
theorem dX7_removeLevels_9 : decode cX7_removeLevels 9 = .ok (.istore_n 3, 1) := by decide +kernel
theorem dX7_removeLevels_10 : decode cX7_removeLevels 10 = .ok (.iload_n 3, 1) := by decide +kernel
theorem dX7_removeLevels_11 : decode cX7_removeLevels 11 = .ok (.ifCond .lt 50, 3) := by decide +kernel
theorem dX7_removeLevels_14 : decode cX7_removeLevels 14 = .ok (.aload_n 0, 1) := by decide +kernel
theorem dX7_removeLevels_15 : decode cX7_removeLevels 15 = .ok (.getfield 26, 3) := by decide +kernel
theorem dX7_removeLevels_18 : decode cX7_removeLevels 18 = .ok (.iload_n 3, 1) := by decide +kernel
theorem dX7_removeLevels_19 : decode cX7_removeLevels 19 = .ok (.invokevirtual 72, 3) := by decide +kernel
theorem dX7_removeLevels_22 : decode cX7_removeLevels 22 = .ok (.checkcast 76, 3) := by decide +kernel
theorem dX7_removeLevels_25 : decode cX7_removeLevels 25 = .ok (.astore 4, 2) := by decide +kernel
theorem dX7_removeLevels_27 : decode cX7_removeLevels 27 = .ok (.aload 4, 2) := by decide +kernel
theorem dX7_removeLevels_29 : decode cX7_removeLevels 29 = .ok (.iload_n 1, 1) := by decide +kernel
theorem dX7_removeLevels_30 : decode cX7_removeLevels 30 = .ok (.iload_n 2, 1) := by decide +kernel
theorem dX7_removeLevels_31 : decode cX7_removeLevels 31 = .ok (.invokevirtual 143, 3) := by decide +kernel
theorem dX7_removeLevels_34 : decode cX7_removeLevels 34 = .ok (.ifCond .eq 21, 3) := by decide +kernel
theorem dX7_removeLevels_37 : decode cX7_removeLevels 37 = .ok (.aload_n 0, 1) := by decide +kernel
theorem dX7_removeLevels_38 : decode cX7_removeLevels 38 = .ok (.getfield 15, 3) := by decide +kernel
theorem dX7_removeLevels_41 : decode cX7_removeLevels 41 = .ok (.aload 4, 2) := by decide +kernel
theorem dX7_removeLevels_43 : decode cX7_removeLevels 43 = .ok (.invokevirtual 178, 3) := by decide +kernel
theorem dX7_removeLevels_46 : decode cX7_removeLevels 46 = .ok (.aload_n 0, 1) := by decide +kernel
theorem dX7_removeLevels_47 : decode cX7_removeLevels 47 = .ok (.getfield 26, 3) := by decide +kernel
theorem dX7_removeLevels_50 : decode cX7_removeLevels 50 = .ok (.iload_n 3, 1) := by decide +kernel
theorem dX7_removeLevels_51 : decode cX7_removeLevels 51 = .ok (.invokevirtual 181, 3) := by decide +kernel
theorem dX7_removeLevels_54 : decode cX7_removeLevels 54 = .ok (.pop, 1) := by decide +kernel
theorem dX7_removeLevels_55 : decode cX7_removeLevels 55 = .ok (.iinc 3 (-1), 3) := by decide +kernel
theorem dX7_removeLevels_58 : decode cX7_removeLevels 58 = .ok (.goto (-48), 3) := by decide +kernel
theorem dX7_removeLevels_61 : decode cX7_removeLevels 61 = .ok (.return_, 1) := by decide +kernel
