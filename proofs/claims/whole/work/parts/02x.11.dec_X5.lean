theorem dX5_init_0 : decode cX5_init 0 = .ok (.aload_n 0, 1) := by decide +kernel
theorem dX5_init_1 : decode cX5_init 1 = .ok (.invokespecial 3, 3) := by decide +kernel
theorem dX5_init_4 : decode cX5_init 4 = .ok (.aload_n 0, 1) := by decide +kernel
theorem dX5_init_5 : decode cX5_init 5 = .ok (.iload_n 1, 1) := by decide +kernel
theorem dX5_init_6 : decode cX5_init 6 = .ok (.newarray .int, 2) := by decide +kernel
theorem dX5_init_8 : decode cX5_init 8 = .ok (.putfield 9, 3) := by decide +kernel
theorem dX5_init_11 : decode cX5_init 11 = .ok (.aload_n 0, 1) := by decide +kernel
theorem dX5_init_12 : decode cX5_init 12 = .ok (.iconst 0, 1) := by decide +kernel
theorem dX5_init_13 : decode cX5_init 13 = .ok (.putfield 15, 3) := by decide +kernel
theorem dX5_init_16 : decode cX5_init 16 = .ok (.return_, 1) := by decide +kernel
theorem dX5_keyOf_0 : decode cX5_keyOf 0 = .ok (.iload_n 0, 1) := by decide +kernel
theorem dX5_keyOf_1 : decode cX5_keyOf 1 = .ok (.bipush 40, 2) := by decide +kernel
theorem dX5_keyOf_3 : decode cX5_keyOf 3 = .ok (.imul, 1) := by decide +kernel
theorem dX5_keyOf_4 : decode cX5_keyOf 4 = .ok (.iload_n 1, 1) := by decide +kernel
theorem dX5_keyOf_5 : decode cX5_keyOf 5 = .ok (.iadd, 1) := by decide +kernel
theorem dX5_keyOf_6 : decode cX5_keyOf 6 = .ok (.bipush 20, 2) := by decide +kernel
theorem dX5_keyOf_8 : decode cX5_keyOf 8 = .ok (.imul, 1) := by decide +kernel
theorem dX5_keyOf_9 : decode cX5_keyOf 9 = .ok (.iload_n 2, 1) := by decide +kernel
theorem dX5_keyOf_10 : decode cX5_keyOf 10 = .ok (.iadd, 1) := by decide +kernel
theorem dX5_keyOf_11 : decode cX5_keyOf 11 = .ok (.ireturn, 1) := by decide +kernel
theorem dX5_wordOf_0 : decode cX5_wordOf 0 = .ok (.iload_n 0, 1) := by decide +kernel
theorem dX5_wordOf_1 : decode cX5_wordOf 1 = .ok (.sipush 800, 3) := by decide +kernel
theorem dX5_wordOf_4 : decode cX5_wordOf 4 = .ok (.idiv, 1) := by decide +kernel
theorem dX5_wordOf_5 : decode cX5_wordOf 5 = .ok (.ireturn, 1) := by decide +kernel
theorem dX5_documentOf_0 : decode cX5_documentOf 0 = .ok (.iload_n 0, 1) := by decide +kernel
theorem dX5_documentOf_1 : decode cX5_documentOf 1 = .ok (.bipush 20, 2) := by decide +kernel
theorem dX5_documentOf_3 : decode cX5_documentOf 3 = .ok (.idiv, 1) := by decide +kernel
theorem dX5_documentOf_4 : decode cX5_documentOf 4 = .ok (.bipush 40, 2) := by decide +kernel
theorem dX5_documentOf_6 : decode cX5_documentOf 6 = .ok (.irem, 1) := by decide +kernel
theorem dX5_documentOf_7 : decode cX5_documentOf 7 = .ok (.ireturn, 1) := by decide +kernel
theorem dX5_placeOf_0 : decode cX5_placeOf 0 = .ok (.iload_n 0, 1) := by decide +kernel
theorem dX5_placeOf_1 : decode cX5_placeOf 1 = .ok (.bipush 20, 2) := by decide +kernel
theorem dX5_placeOf_3 : decode cX5_placeOf 3 = .ok (.irem, 1) := by decide +kernel
theorem dX5_placeOf_4 : decode cX5_placeOf 4 = .ok (.ireturn, 1) := by decide +kernel
theorem dX5_size_0 : decode cX5_size 0 = .ok (.aload_n 0, 1) := by decide +kernel
theorem dX5_size_1 : decode cX5_size 1 = .ok (.getfield 15, 3) := by decide +kernel
theorem dX5_size_4 : decode cX5_size 4 = .ok (.ireturn, 1) := by decide +kernel
theorem dX5_keyAt_0 : decode cX5_keyAt 0 = .ok (.iload_n 1, 1) := by decide +kernel
theorem dX5_keyAt_1 : decode cX5_keyAt 1 = .ok (.ifCond .lt 20, 3) := by decide +kernel
theorem dX5_keyAt_4 : decode cX5_keyAt 4 = .ok (.iload_n 1, 1) := by decide +kernel
theorem dX5_keyAt_5 : decode cX5_keyAt 5 = .ok (.aload_n 0, 1) := by decide +kernel
theorem dX5_keyAt_6 : decode cX5_keyAt 6 = .ok (.getfield 15, 3) := by decide +kernel
theorem dX5_keyAt_9 : decode cX5_keyAt 9 = .ok (.if_icmp .ge 12, 3) := by decide +kernel
theorem dX5_keyAt_12 : decode cX5_keyAt 12 = .ok (.aload_n 0, 1) := by decide +kernel
theorem dX5_keyAt_13 : decode cX5_keyAt 13 = .ok (.getfield 9, 3) := by decide +kernel
theorem dX5_keyAt_16 : decode cX5_keyAt 16 = .ok (.iload_n 1, 1) := by decide +kernel
theorem dX5_keyAt_17 : decode cX5_keyAt 17 = .ok (.iaload, 1) := by decide +kernel
theorem dX5_keyAt_18 : decode cX5_keyAt 18 = .ok (.goto 4, 3) := by decide +kernel
theorem dX5_keyAt_21 : decode cX5_keyAt 21 = .ok (.iconst 0, 1) := by decide +kernel
theorem dX5_keyAt_22 : decode cX5_keyAt 22 = .ok (.ireturn, 1) := by decide +kernel
theorem dX5_clear_0 : decode cX5_clear 0 = .ok (.aload_n 0, 1) := by decide +kernel
theorem dX5_clear_1 : decode cX5_clear 1 = .ok (.iconst 0, 1) := by decide +kernel
theorem dX5_clear_2 : decode cX5_clear 2 = .ok (.putfield 15, 3) := by decide +kernel
theorem dX5_clear_5 : decode cX5_clear 5 = .ok (.return_, 1) := by decide +kernel
theorem dX5_insert_0 : decode cX5_insert 0 = .ok (.aload_n 0, 1) := by decide +kernel
theorem dX5_insert_1 : decode cX5_insert 1 = .ok (.getfield 15, 3) := by decide +kernel
theorem dX5_insert_4 : decode cX5_insert 4 = .ok (.aload_n 0, 1) := by decide +kernel
theorem dX5_insert_5 : decode cX5_insert 5 = .ok (.getfield 9, 3) := by decide +kernel
theorem dX5_insert_8 : decode cX5_insert 8 = .ok (.arraylength, 1) := by decide +kernel
theorem dX5_insert_9 : decode cX5_insert 9 = .ok (.if_icmp .lt 4, 3) := by decide +kernel
theorem dX5_insert_12 : decode cX5_insert 12 = .ok (.return_, 1) := by decide +kernel
theorem dX5_insert_13 : decode cX5_insert 13 = .ok (.aload_n 0, 1) := by decide +kernel
theorem dX5_insert_14 : decode cX5_insert 14 = .ok (.getfield 15, 3) := by decide +kernel
theorem dX5_insert_17 : decode cX5_insert 17 = .ok (.istore_n 2, 1) := by decide +kernel
theorem dX5_insert_18 : decode cX5_insert 18 = .ok (.iload_n 2, 1) := by decide +kernel
theorem dX5_insert_19 : decode cX5_insert 19 = .ok (.ifCond .le 35, 3) := by decide +kernel
theorem dX5_insert_22 : decode cX5_insert 22 = .ok (.aload_n 0, 1) := by decide +kernel
theorem dX5_insert_23 : decode cX5_insert 23 = .ok (.getfield 9, 3) := by decide +kernel
theorem dX5_insert_26 : decode cX5_insert 26 = .ok (.iload_n 2, 1) := by decide +kernel
theorem dX5_insert_27 : decode cX5_insert 27 = .ok (.iconst 1, 1) := by decide +kernel
theorem dX5_insert_28 : decode cX5_insert 28 = .ok (.isub, 1) := by decide +kernel
theorem dX5_insert_29 : decode cX5_insert 29 = .ok (.iaload, 1) := by decide +kernel
theorem dX5_insert_30 : decode cX5_insert 30 = .ok (.iload_n 1, 1) := by decide +kernel
theorem dX5_insert_31 : decode cX5_insert 31 = .ok (.if_icmp .le 23, 3) := by decide +kernel
theorem dX5_insert_34 : decode cX5_insert 34 = .ok (.aload_n 0, 1) := by decide +kernel
theorem dX5_insert_35 : decode cX5_insert 35 = .ok (.getfield 9, 3) := by decide +kernel
theorem dX5_insert_38 : decode cX5_insert 38 = .ok (.iload_n 2, 1) := by decide +kernel
theorem dX5_insert_39 : decode cX5_insert 39 = .ok (.aload_n 0, 1) := by decide +kernel
theorem dX5_insert_40 : decode cX5_insert 40 = .ok (.getfield 9, 3) := by decide +kernel
theorem dX5_insert_43 : decode cX5_insert 43 = .ok (.iload_n 2, 1) := by decide +kernel
theorem dX5_insert_44 : decode cX5_insert 44 = .ok (.iconst 1, 1) := by decide +kernel
theorem dX5_insert_45 : decode cX5_insert 45 = .ok (.isub, 1) := by decide +kernel
theorem dX5_insert_46 : decode cX5_insert 46 = .ok (.iaload, 1) := by decide +kernel
theorem dX5_insert_47 : decode cX5_insert 47 = .ok (.iastore, 1) := by decide +kernel
theorem dX5_insert_48 : decode cX5_insert 48 = .ok (.iinc 2 (-1), 3) := by decide +kernel
theorem dX5_insert_51 : decode cX5_insert 51 = .ok (.goto (-33), 3) := by decide +kernel
theorem dX5_insert_54 : decode cX5_insert 54 = .ok (.aload_n 0, 1) := by decide +kernel
theorem dX5_insert_55 : decode cX5_insert 55 = .ok (.getfield 9, 3) := by decide +kernel
theorem dX5_insert_58 : decode cX5_insert 58 = .ok (.iload_n 2, 1) := by decide +kernel
theorem dX5_insert_59 : decode cX5_insert 59 = .ok (.iload_n 1, 1) := by decide +kernel
theorem dX5_insert_60 : decode cX5_insert 60 = .ok (.iastore, 1) := by decide +kernel
theorem dX5_insert_61 : decode cX5_insert 61 = .ok (.aload_n 0, 1) := by decide +kernel
theorem dX5_insert_62 : decode cX5_insert 62 = .ok (.dup, 1) := by decide +kernel
theorem dX5_insert_63 : decode cX5_insert 63 = .ok (.getfield 15, 3) := by decide +kernel
theorem dX5_insert_66 : decode cX5_insert 66 = .ok (.iconst 1, 1) := by decide +kernel
theorem dX5_insert_67 : decode cX5_insert 67 = .ok (.iadd, 1) := by decide +kernel
theorem dX5_insert_68 : decode cX5_insert 68 = .ok (.putfield 15, 3) := by decide +kernel
theorem dX5_insert_71 : decode cX5_insert 71 = .ok (.return_, 1) := by decide +kernel
theorem dX5_mergeIn_0 : decode cX5_mergeIn 0 = .ok (.aload_n 0, 1) := by decide +kernel
theorem dX5_mergeIn_1 : decode cX5_mergeIn 1 = .ok (.getfield 15, 3) := by decide +kernel
theorem dX5_mergeIn_4 : decode cX5_mergeIn 4 = .ok (.aload_n 1, 1) := by decide +kernel
theorem dX5_mergeIn_5 : decode cX5_mergeIn 5 = .ok (.getfield 15, 3) := by decide +kernel
theorem dX5_mergeIn_8 : decode cX5_mergeIn 8 = .ok (.iadd, 1) := by decide +kernel
theorem dX5_mergeIn_9 : decode cX5_mergeIn 9 = .ok (.istore_n 2, 1) := by decide +kernel
theorem dX5_mergeIn_10 : decode cX5_mergeIn 10 = .ok (.iload_n 2, 1) := by decide +kernel
theorem dX5_mergeIn_11 : decode cX5_mergeIn 11 = .ok (.aload_n 0, 1) := by decide +kernel
theorem dX5_mergeIn_12 : decode cX5_mergeIn 12 = .ok (.getfield 9, 3) := by decide +kernel
theorem dX5_mergeIn_15 : decode cX5_mergeIn 15 = .ok (.arraylength, 1) := by decide +kernel
theorem dX5_mergeIn_16 : decode cX5_mergeIn 16 = .ok (.if_icmp .le 4, 3) := by decide +kernel
theorem dX5_mergeIn_19 : decode cX5_mergeIn 19 = .ok (.return_, 1) := by decide +kernel
theorem dX5_mergeIn_20 : decode cX5_mergeIn 20 = .ok (.aload_n 0, 1) := by decide +kernel
theorem dX5_mergeIn_21 : decode cX5_mergeIn 21 = .ok (.getfield 15, 3) := by decide +kernel
theorem dX5_mergeIn_24 : decode cX5_mergeIn 24 = .ok (.iconst 1, 1) := by decide +kernel
theorem dX5_mergeIn_25 : decode cX5_mergeIn 25 = .ok (.isub, 1) := by decide +kernel
theorem dX5_mergeIn_26 : decode cX5_mergeIn 26 = .ok (.istore_n 3, 1) := by decide +kernel
theorem dX5_mergeIn_27 : decode cX5_mergeIn 27 = .ok (.aload_n 1, 1) := by decide +kernel
theorem dX5_mergeIn_28 : decode cX5_mergeIn 28 = .ok (.getfield 15, 3) := by decide +kernel
theorem dX5_mergeIn_31 : decode cX5_mergeIn 31 = .ok (.iconst 1, 1) := by decide +kernel
theorem dX5_mergeIn_32 : decode cX5_mergeIn 32 = .ok (.isub, 1) := by decide +kernel
theorem dX5_mergeIn_33 : decode cX5_mergeIn 33 = .ok (.istore 4, 2) := by decide +kernel
theorem dX5_mergeIn_35 : decode cX5_mergeIn 35 = .ok (.iload_n 2, 1) := by decide +kernel
theorem dX5_mergeIn_36 : decode cX5_mergeIn 36 = .ok (.iconst 1, 1) := by decide +kernel
theorem dX5_mergeIn_37 : decode cX5_mergeIn 37 = .ok (.isub, 1) := by decide +kernel
theorem dX5_mergeIn_38 : decode cX5_mergeIn 38 = .ok (.istore 5, 2) := by decide +kernel
theorem dX5_mergeIn_40 : decode cX5_mergeIn 40 = .ok (.iload 5, 2) := by decide +kernel
theorem dX5_mergeIn_42 : decode cX5_mergeIn 42 = .ok (.ifCond .lt 70, 3) := by decide +kernel
theorem dX5_mergeIn_45 : decode cX5_mergeIn 45 = .ok (.iload 4, 2) := by decide +kernel
theorem dX5_mergeIn_47 : decode cX5_mergeIn 47 = .ok (.ifCond .lt 65, 3) := by decide +kernel
theorem dX5_mergeIn_50 : decode cX5_mergeIn 50 = .ok (.iload_n 3, 1) := by decide +kernel
theorem dX5_mergeIn_51 : decode cX5_mergeIn 51 = .ok (.ifCond .lt 38, 3) := by decide +kernel
theorem dX5_mergeIn_54 : decode cX5_mergeIn 54 = .ok (.aload_n 0, 1) := by decide +kernel
theorem dX5_mergeIn_55 : decode cX5_mergeIn 55 = .ok (.getfield 9, 3) := by decide +kernel
theorem dX5_mergeIn_58 : decode cX5_mergeIn 58 = .ok (.iload_n 3, 1) := by decide +kernel
theorem dX5_mergeIn_59 : decode cX5_mergeIn 59 = .ok (.iaload, 1) := by decide +kernel
theorem dX5_mergeIn_60 : decode cX5_mergeIn 60 = .ok (.aload_n 1, 1) := by decide +kernel
theorem dX5_mergeIn_61 : decode cX5_mergeIn 61 = .ok (.getfield 9, 3) := by decide +kernel
theorem dX5_mergeIn_64 : decode cX5_mergeIn 64 = .ok (.iload 4, 2) := by decide +kernel
theorem dX5_mergeIn_66 : decode cX5_mergeIn 66 = .ok (.iaload, 1) := by decide +kernel
theorem dX5_mergeIn_67 : decode cX5_mergeIn 67 = .ok (.if_icmp .le 22, 3) := by decide +kernel
theorem dX5_mergeIn_70 : decode cX5_mergeIn 70 = .ok (.aload_n 0, 1) := by decide +kernel
theorem dX5_mergeIn_71 : decode cX5_mergeIn 71 = .ok (.getfield 9, 3) := by decide +kernel
theorem dX5_mergeIn_74 : decode cX5_mergeIn 74 = .ok (.iload 5, 2) := by decide +kernel
theorem dX5_mergeIn_76 : decode cX5_mergeIn 76 = .ok (.aload_n 0, 1) := by decide +kernel
theorem dX5_mergeIn_77 : decode cX5_mergeIn 77 = .ok (.getfield 9, 3) := by decide +kernel
theorem dX5_mergeIn_80 : decode cX5_mergeIn 80 = .ok (.iload_n 3, 1) := by decide +kernel
theorem dX5_mergeIn_81 : decode cX5_mergeIn 81 = .ok (.iaload, 1) := by decide +kernel
theorem dX5_mergeIn_82 : decode cX5_mergeIn 82 = .ok (.iastore, 1) := by decide +kernel
theorem dX5_mergeIn_83 : decode cX5_mergeIn 83 = .ok (.iinc 3 (-1), 3) := by decide +kernel
theorem dX5_mergeIn_86 : decode cX5_mergeIn 86 = .ok (.goto 20, 3) := by decide +kernel
theorem dX5_mergeIn_89 : decode cX5_mergeIn 89 = .ok (.aload_n 0, 1) := by decide +kernel
theorem dX5_mergeIn_90 : decode cX5_mergeIn 90 = .ok (.getfield 9, 3) := by decide +kernel
theorem dX5_mergeIn_93 : decode cX5_mergeIn 93 = .ok (.iload 5, 2) := by decide +kernel
theorem dX5_mergeIn_95 : decode cX5_mergeIn 95 = .ok (.aload_n 1, 1) := by decide +kernel
theorem dX5_mergeIn_96 : decode cX5_mergeIn 96 = .ok (.getfield 9, 3) := by decide +kernel
theorem dX5_mergeIn_99 : decode cX5_mergeIn 99 = .ok (.iload 4, 2) := by decide +kernel
theorem dX5_mergeIn_101 : decode cX5_mergeIn 101 = .ok (.iaload, 1) := by decide +kernel
theorem dX5_mergeIn_102 : decode cX5_mergeIn 102 = .ok (.iastore, 1) := by decide +kernel
theorem dX5_mergeIn_103 : decode cX5_mergeIn 103 = .ok (.iinc 4 (-1), 3) := by decide +kernel
theorem dX5_mergeIn_106 : decode cX5_mergeIn 106 = .ok (.iinc 5 (-1), 3) := by decide +kernel
theorem dX5_mergeIn_109 : decode cX5_mergeIn 109 = .ok (.goto (-69), 3) := by decide +kernel
theorem dX5_mergeIn_112 : decode cX5_mergeIn 112 = .ok (.aload_n 0, 1) := by decide +kernel
theorem dX5_mergeIn_113 : decode cX5_mergeIn 113 = .ok (.iload_n 2, 1) := by decide +kernel
theorem dX5_mergeIn_114 : decode cX5_mergeIn 114 = .ok (.putfield 15, 3) := by decide +kernel
theorem dX5_mergeIn_117 : decode cX5_mergeIn 117 = .ok (.return_, 1) := by decide +kernel
theorem dX5_keepLive_0 : decode cX5_keepLive 0 = .ok (.iconst 0, 1) := by decide +kernel
theorem dX5_keepLive_1 : decode cX5_keepLive 1 = .ok (.istore_n 2, 1) := by decide +kernel
theorem dX5_keepLive_2 : decode cX5_keepLive 2 = .ok (.iconst 0, 1) := by decide +kernel
theorem dX5_keepLive_3 : decode cX5_keepLive 3 = .ok (.istore_n 3, 1) := by decide +kernel
theorem dX5_keepLive_4 : decode cX5_keepLive 4 = .ok (.iload_n 3, 1) := by decide +kernel
theorem dX5_keepLive_5 : decode cX5_keepLive 5 = .ok (.aload_n 0, 1) := by decide +kernel
theorem dX5_keepLive_6 : decode cX5_keepLive 6 = .ok (.getfield 15, 3) := by decide +kernel
theorem dX5_keepLive_9 : decode cX5_keepLive 9 = .ok (.if_icmp .ge 40, 3) := by decide +kernel
theorem dX5_keepLive_12 : decode cX5_keepLive 12 = .ok (.aload_n 1, 1) := by decide +kernel
theorem dX5_keepLive_13 : decode cX5_keepLive 13 = .ok (.aload_n 0, 1) := by decide +kernel
theorem dX5_keepLive_14 : decode cX5_keepLive 14 = .ok (.getfield 9, 3) := by decide +kernel
theorem dX5_keepLive_17 : decode cX5_keepLive 17 = .ok (.iload_n 3, 1) := by decide +kernel
theorem dX5_keepLive_18 : decode cX5_keepLive 18 = .ok (.iaload, 1) := by decide +kernel
theorem dX5_keepLive_19 : decode cX5_keepLive 19 = .ok (.invokestatic 19, 3) := by decide +kernel
theorem dX5_keepLive_22 : decode cX5_keepLive 22 = .ok (.invokevirtual 23, 3) := by decide +kernel
theorem dX5_keepLive_25 : decode cX5_keepLive 25 = .ok (.ifCond .eq 18, 3) := by decide +kernel
theorem dX5_keepLive_28 : decode cX5_keepLive 28 = .ok (.aload_n 0, 1) := by decide +kernel
theorem dX5_keepLive_29 : decode cX5_keepLive 29 = .ok (.getfield 9, 3) := by decide +kernel
theorem dX5_keepLive_32 : decode cX5_keepLive 32 = .ok (.iload_n 2, 1) := by decide +kernel
theorem dX5_keepLive_33 : decode cX5_keepLive 33 = .ok (.aload_n 0, 1) := by decide +kernel
theorem dX5_keepLive_34 : decode cX5_keepLive 34 = .ok (.getfield 9, 3) := by decide +kernel
theorem dX5_keepLive_37 : decode cX5_keepLive 37 = .ok (.iload_n 3, 1) := by decide +kernel
theorem dX5_keepLive_38 : decode cX5_keepLive 38 = .ok (.iaload, 1) := by decide +kernel
theorem dX5_keepLive_39 : decode cX5_keepLive 39 = .ok (.iastore, 1) := by decide +kernel
theorem dX5_keepLive_40 : decode cX5_keepLive 40 = .ok (.iinc 2 1, 3) := by decide +kernel
theorem dX5_keepLive_43 : decode cX5_keepLive 43 = .ok (.iinc 3 1, 3) := by decide +kernel
theorem dX5_keepLive_46 : decode cX5_keepLive 46 = .ok (.goto (-42), 3) := by decide +kernel
theorem dX5_keepLive_49 : decode cX5_keepLive 49 = .ok (.aload_n 0, 1) := by decide +kernel
theorem dX5_keepLive_50 : decode cX5_keepLive 50 = .ok (.iload_n 2, 1) := by decide +kernel
theorem dX5_keepLive_51 : decode cX5_keepLive 51 = .ok (.putfield 15, 3) := by decide +kernel
theorem dX5_keepLive_54 : decode cX5_keepLive 54 = .ok (.return_, 1) := by decide +kernel
