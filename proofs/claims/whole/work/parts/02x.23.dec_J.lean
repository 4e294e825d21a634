theorem dJ0_init_0 : decode cJ0_init 0 = .ok (.aload_n 0, 1) := by decide +kernel
theorem dJ0_init_1 : decode cJ0_init 1 = .ok (.invokespecial 1, 3) := by decide +kernel
theorem dJ0_init_4 : decode cJ0_init 4 = .ok (.aload_n 0, 1) := by decide +kernel
theorem dJ0_init_5 : decode cJ0_init 5 = .ok (.getstatic 39, 3) := by decide +kernel
theorem dJ0_init_8 : decode cJ0_init 8 = .ok (.putfield 9, 3) := by decide +kernel
theorem dJ0_init_11 : decode cJ0_init 11 = .ok (.return_, 1) := by decide +kernel
theorem dJ0_size_0 : decode cJ0_size 0 = .ok (.aload_n 0, 1) := by decide +kernel
theorem dJ0_size_1 : decode cJ0_size 1 = .ok (.getfield 48, 3) := by decide +kernel
theorem dJ0_size_4 : decode cJ0_size 4 = .ok (.ireturn, 1) := by decide +kernel
theorem dJ0_isEmpty_0 : decode cJ0_isEmpty 0 = .ok (.aload_n 0, 1) := by decide +kernel
theorem dJ0_isEmpty_1 : decode cJ0_isEmpty 1 = .ok (.getfield 48, 3) := by decide +kernel
theorem dJ0_isEmpty_4 : decode cJ0_isEmpty 4 = .ok (.ifCond .ne 7, 3) := by decide +kernel
theorem dJ0_isEmpty_7 : decode cJ0_isEmpty 7 = .ok (.iconst 1, 1) := by decide +kernel
theorem dJ0_isEmpty_8 : decode cJ0_isEmpty 8 = .ok (.goto 4, 3) := by decide +kernel
theorem dJ0_isEmpty_11 : decode cJ0_isEmpty 11 = .ok (.iconst 0, 1) := by decide +kernel
theorem dJ0_isEmpty_12 : decode cJ0_isEmpty 12 = .ok (.ireturn, 1) := by decide +kernel
theorem dJ0_get_0 : decode cJ0_get 0 = .ok (.iload_n 1, 1) := by decide +kernel
theorem dJ0_get_1 : decode cJ0_get 1 = .ok (.aload_n 0, 1) := by decide +kernel
theorem dJ0_get_2 : decode cJ0_get 2 = .ok (.getfield 48, 3) := by decide +kernel
theorem dJ0_get_5 : decode cJ0_get 5 = .ok (.invokestatic 118, 3) := by decide +kernel
theorem dJ0_get_8 : decode cJ0_get 8 = .ok (.pop, 1) := by decide +kernel
theorem dJ0_get_9 : decode cJ0_get 9 = .ok (.aload_n 0, 1) := by decide +kernel
theorem dJ0_get_10 : decode cJ0_get 10 = .ok (.iload_n 1, 1) := by decide +kernel
theorem dJ0_get_11 : decode cJ0_get 11 = .ok (.invokevirtual 123, 3) := by decide +kernel
theorem dJ0_get_14 : decode cJ0_get 14 = .ok (.areturn, 1) := by decide +kernel
theorem dJ0_elementData_0 : decode cJ0_elementData 0 = .ok (.aload_n 0, 1) := by decide +kernel
theorem dJ0_elementData_1 : decode cJ0_elementData 1 = .ok (.getfield 9, 3) := by decide +kernel
theorem dJ0_elementData_4 : decode cJ0_elementData 4 = .ok (.iload_n 1, 1) := by decide +kernel
theorem dJ0_elementData_5 : decode cJ0_elementData 5 = .ok (.aaload, 1) := by decide +kernel
theorem dJ0_elementData_6 : decode cJ0_elementData 6 = .ok (.areturn, 1) := by decide +kernel
theorem dJ0_add_0 : decode cJ0_add 0 = .ok (.aload_n 0, 1) := by decide +kernel
theorem dJ0_add_1 : decode cJ0_add 1 = .ok (.iload_n 1, 1) := by decide +kernel
theorem dJ0_add_2 : decode cJ0_add 2 = .ok (.invokevirtual 135, 3) := by decide +kernel
theorem dJ0_add_5 : decode cJ0_add 5 = .ok (.aload_n 0, 1) := by decide +kernel
theorem dJ0_add_6 : decode cJ0_add 6 = .ok (.dup, 1) := by decide +kernel
theorem dJ0_add_7 : decode cJ0_add 7 = .ok (.getfield 63, 3) := by decide +kernel
theorem dJ0_add_10 : decode cJ0_add 10 = .ok (.iconst 1, 1) := by decide +kernel
theorem dJ0_add_11 : decode cJ0_add 11 = .ok (.iadd, 1) := by decide +kernel
theorem dJ0_add_12 : decode cJ0_add 12 = .ok (.putfield 63, 3) := by decide +kernel
theorem dJ0_add_15 : decode cJ0_add 15 = .ok (.aload_n 0, 1) := by decide +kernel
theorem dJ0_add_16 : decode cJ0_add 16 = .ok (.getfield 48, 3) := by decide +kernel
theorem dJ0_add_19 : decode cJ0_add 19 = .ok (.dup, 1) := by decide +kernel
theorem dJ0_add_20 : decode cJ0_add 20 = .ok (.istore_n 3, 1) := by decide +kernel
theorem dJ0_add_21 : decode cJ0_add 21 = .ok (.aload_n 0, 1) := by decide +kernel
theorem dJ0_add_22 : decode cJ0_add 22 = .ok (.getfield 9, 3) := by decide +kernel
theorem dJ0_add_25 : decode cJ0_add 25 = .ok (.dup, 1) := by decide +kernel
theorem dJ0_add_26 : decode cJ0_add 26 = .ok (.astore 4, 2) := by decide +kernel
theorem dJ0_add_28 : decode cJ0_add 28 = .ok (.arraylength, 1) := by decide +kernel
theorem dJ0_add_29 : decode cJ0_add 29 = .ok (.if_icmp .ne 9, 3) := by decide +kernel
theorem dJ0_add_32 : decode cJ0_add 32 = .ok (.aload_n 0, 1) := by decide +kernel
theorem dJ0_add_33 : decode cJ0_add 33 = .ok (.invokevirtual 129, 3) := by decide +kernel
theorem dJ0_add_36 : decode cJ0_add 36 = .ok (.astore 4, 2) := by decide +kernel
theorem dJ0_add_38 : decode cJ0_add 38 = .ok (.aload 4, 2) := by decide +kernel
theorem dJ0_add_40 : decode cJ0_add 40 = .ok (.iload_n 1, 1) := by decide +kernel
theorem dJ0_add_41 : decode cJ0_add 41 = .ok (.aload 4, 2) := by decide +kernel
theorem dJ0_add_43 : decode cJ0_add 43 = .ok (.iload_n 1, 1) := by decide +kernel
theorem dJ0_add_44 : decode cJ0_add 44 = .ok (.iconst 1, 1) := by decide +kernel
theorem dJ0_add_45 : decode cJ0_add 45 = .ok (.iadd, 1) := by decide +kernel
theorem dJ0_add_46 : decode cJ0_add 46 = .ok (.iload_n 3, 1) := by decide +kernel
theorem dJ0_add_47 : decode cJ0_add 47 = .ok (.iload_n 1, 1) := by decide +kernel
theorem dJ0_add_48 : decode cJ0_add 48 = .ok (.isub, 1) := by decide +kernel
theorem dJ0_add_49 : decode cJ0_add 49 = .ok (.invokestatic 112, 3) := by decide +kernel
theorem dJ0_add_52 : decode cJ0_add 52 = .ok (.aload 4, 2) := by decide +kernel
theorem dJ0_add_54 : decode cJ0_add 54 = .ok (.iload_n 1, 1) := by decide +kernel
theorem dJ0_add_55 : decode cJ0_add 55 = .ok (.aload_n 2, 1) := by decide +kernel
theorem dJ0_add_56 : decode cJ0_add 56 = .ok (.aastore, 1) := by decide +kernel
theorem dJ0_add_57 : decode cJ0_add 57 = .ok (.aload_n 0, 1) := by decide +kernel
theorem dJ0_add_58 : decode cJ0_add 58 = .ok (.iload_n 3, 1) := by decide +kernel
theorem dJ0_add_59 : decode cJ0_add 59 = .ok (.iconst 1, 1) := by decide +kernel
theorem dJ0_add_60 : decode cJ0_add 60 = .ok (.iadd, 1) := by decide +kernel
theorem dJ0_add_61 : decode cJ0_add 61 = .ok (.putfield 48, 3) := by decide +kernel
theorem dJ0_add_64 : decode cJ0_add 64 = .ok (.return_, 1) := by decide +kernel
theorem dJ0_rangeCheckForAdd_0 : decode cJ0_rangeCheckForAdd 0 = .ok (.iload_n 1, 1) := by decide +kernel
theorem dJ0_rangeCheckForAdd_1 : decode cJ0_rangeCheckForAdd 1 = .ok (.aload_n 0, 1) := by decide +kernel
theorem dJ0_rangeCheckForAdd_2 : decode cJ0_rangeCheckForAdd 2 = .ok (.getfield 48, 3) := by decide +kernel
theorem dJ0_rangeCheckForAdd_5 : decode cJ0_rangeCheckForAdd 5 = .ok (.if_icmp .gt 7, 3) := by decide +kernel
theorem dJ0_rangeCheckForAdd_8 : decode cJ0_rangeCheckForAdd 8 = .ok (.iload_n 1, 1) := by decide +kernel
theorem dJ0_rangeCheckForAdd_9 : decode cJ0_rangeCheckForAdd 9 = .ok (.ifCond .ge 16, 3) := by decide +kernel
theorem dJ0_rangeCheckForAdd_12 : decode cJ0_rangeCheckForAdd 12 = .ok (.new 187, 3) := by decide +kernel
theorem dJ0_rangeCheckForAdd_15 : decode cJ0_rangeCheckForAdd 15 = .ok (.dup, 1) := by decide +kernel
theorem dJ0_rangeCheckForAdd_16 : decode cJ0_rangeCheckForAdd 16 = .ok (.aload_n 0, 1) := by decide +kernel
theorem dJ0_rangeCheckForAdd_17 : decode cJ0_rangeCheckForAdd 17 = .ok (.iload_n 1, 1) := by decide +kernel
theorem dJ0_rangeCheckForAdd_18 : decode cJ0_rangeCheckForAdd 18 = .ok (.invokevirtual 198, 3) := by decide +kernel
theorem dJ0_rangeCheckForAdd_21 : decode cJ0_rangeCheckForAdd 21 = .ok (.invokespecial 193, 3) := by decide +kernel
theorem dJ0_rangeCheckForAdd_24 : decode cJ0_rangeCheckForAdd 24 = .ok (.athrow, 1) := by decide +kernel
theorem dJ0_rangeCheckForAdd_25 : decode cJ0_rangeCheckForAdd 25 = .ok (.return_, 1) := by decide +kernel
theorem dJ0_grow_0 : decode cJ0_grow 0 = .ok (.aload_n 0, 1) := by decide +kernel
theorem dJ0_grow_1 : decode cJ0_grow 1 = .ok (.aload_n 0, 1) := by decide +kernel
theorem dJ0_grow_2 : decode cJ0_grow 2 = .ok (.getfield 48, 3) := by decide +kernel
theorem dJ0_grow_5 : decode cJ0_grow 5 = .ok (.iconst 1, 1) := by decide +kernel
theorem dJ0_grow_6 : decode cJ0_grow 6 = .ok (.iadd, 1) := by decide +kernel
theorem dJ0_grow_7 : decode cJ0_grow 7 = .ok (.invokevirtual 69, 3) := by decide +kernel
theorem dJ0_grow_10 : decode cJ0_grow 10 = .ok (.areturn, 1) := by decide +kernel
theorem dJ0_grow1_0 : decode cJ0_grow1 0 = .ok (.aload_n 0, 1) := by decide +kernel
theorem dJ0_grow1_1 : decode cJ0_grow1 1 = .ok (.getfield 9, 3) := by decide +kernel
theorem dJ0_grow1_4 : decode cJ0_grow1 4 = .ok (.arraylength, 1) := by decide +kernel
theorem dJ0_grow1_5 : decode cJ0_grow1 5 = .ok (.istore_n 2, 1) := by decide +kernel
theorem dJ0_grow1_6 : decode cJ0_grow1 6 = .ok (.iload_n 2, 1) := by decide +kernel
theorem dJ0_grow1_7 : decode cJ0_grow1 7 = .ok (.ifCond .gt 13, 3) := by decide +kernel
theorem dJ0_grow1_10 : decode cJ0_grow1 10 = .ok (.aload_n 0, 1) := by decide +kernel
theorem dJ0_grow1_11 : decode cJ0_grow1 11 = .ok (.getfield 9, 3) := by decide +kernel
theorem dJ0_grow1_14 : decode cJ0_grow1 14 = .ok (.getstatic 39, 3) := by decide +kernel
theorem dJ0_grow1_17 : decode cJ0_grow1 17 = .ok (.if_acmp .eq 28, 3) := by decide +kernel
theorem dJ0_grow1_20 : decode cJ0_grow1 20 = .ok (.iload_n 2, 1) := by decide +kernel
theorem dJ0_grow1_21 : decode cJ0_grow1 21 = .ok (.iload_n 1, 1) := by decide +kernel
theorem dJ0_grow1_22 : decode cJ0_grow1 22 = .ok (.iload_n 2, 1) := by decide +kernel
theorem dJ0_grow1_23 : decode cJ0_grow1 23 = .ok (.isub, 1) := by decide +kernel
theorem dJ0_grow1_24 : decode cJ0_grow1 24 = .ok (.iload_n 2, 1) := by decide +kernel
theorem dJ0_grow1_25 : decode cJ0_grow1 25 = .ok (.iconst 1, 1) := by decide +kernel
theorem dJ0_grow1_26 : decode cJ0_grow1 26 = .ok (.ishr, 1) := by decide +kernel
theorem dJ0_grow1_27 : decode cJ0_grow1 27 = .ok (.invokestatic 73, 3) := by decide +kernel
theorem dJ0_grow1_30 : decode cJ0_grow1 30 = .ok (.istore_n 3, 1) := by decide +kernel
theorem dJ0_grow1_31 : decode cJ0_grow1 31 = .ok (.aload_n 0, 1) := by decide +kernel
theorem dJ0_grow1_32 : decode cJ0_grow1 32 = .ok (.aload_n 0, 1) := by decide +kernel
theorem dJ0_grow1_33 : decode cJ0_grow1 33 = .ok (.getfield 9, 3) := by decide +kernel
theorem dJ0_grow1_36 : decode cJ0_grow1 36 = .ok (.iload_n 3, 1) := by decide +kernel
theorem dJ0_grow1_37 : decode cJ0_grow1 37 = .ok (.invokestatic 66, 3) := by decide +kernel
theorem dJ0_grow1_40 : decode cJ0_grow1 40 = .ok (.dup_x1, 1) := by decide +kernel
theorem dJ0_grow1_41 : decode cJ0_grow1 41 = .ok (.putfield 9, 3) := by decide +kernel
theorem dJ0_grow1_44 : decode cJ0_grow1 44 = .ok (.areturn, 1) := by decide +kernel
theorem dJ0_grow1_45 : decode cJ0_grow1 45 = .ok (.aload_n 0, 1) := by decide +kernel
theorem dJ0_grow1_46 : decode cJ0_grow1 46 = .ok (.bipush 10, 2) := by decide +kernel
theorem dJ0_grow1_48 : decode cJ0_grow1 48 = .ok (.iload_n 1, 1) := by decide +kernel
theorem dJ0_grow1_49 : decode cJ0_grow1 49 = .ok (.invokestatic 79, 3) := by decide +kernel
theorem dJ0_grow1_52 : decode cJ0_grow1 52 = .ok (.anewarray 7, 3) := by decide +kernel
theorem dJ0_grow1_55 : decode cJ0_grow1 55 = .ok (.dup_x1, 1) := by decide +kernel
theorem dJ0_grow1_56 : decode cJ0_grow1 56 = .ok (.putfield 9, 3) := by decide +kernel
theorem dJ0_grow1_59 : decode cJ0_grow1 59 = .ok (.areturn, 1) := by decide +kernel
theorem dJ0_remove_0 : decode cJ0_remove 0 = .ok (.iload_n 1, 1) := by decide +kernel
theorem dJ0_remove_1 : decode cJ0_remove 1 = .ok (.aload_n 0, 1) := by decide +kernel
theorem dJ0_remove_2 : decode cJ0_remove 2 = .ok (.getfield 48, 3) := by decide +kernel
theorem dJ0_remove_5 : decode cJ0_remove 5 = .ok (.invokestatic 118, 3) := by decide +kernel
theorem dJ0_remove_8 : decode cJ0_remove 8 = .ok (.pop, 1) := by decide +kernel
theorem dJ0_remove_9 : decode cJ0_remove 9 = .ok (.aload_n 0, 1) := by decide +kernel
theorem dJ0_remove_10 : decode cJ0_remove 10 = .ok (.getfield 9, 3) := by decide +kernel
theorem dJ0_remove_13 : decode cJ0_remove 13 = .ok (.astore_n 2, 1) := by decide +kernel
theorem dJ0_remove_14 : decode cJ0_remove 14 = .ok (.aload_n 2, 1) := by decide +kernel
theorem dJ0_remove_15 : decode cJ0_remove 15 = .ok (.iload_n 1, 1) := by decide +kernel
theorem dJ0_remove_16 : decode cJ0_remove 16 = .ok (.aaload, 1) := by decide +kernel
theorem dJ0_remove_17 : decode cJ0_remove 17 = .ok (.astore_n 3, 1) := by decide +kernel
theorem dJ0_remove_18 : decode cJ0_remove 18 = .ok (.aload_n 0, 1) := by decide +kernel
theorem dJ0_remove_19 : decode cJ0_remove 19 = .ok (.aload_n 2, 1) := by decide +kernel
theorem dJ0_remove_20 : decode cJ0_remove 20 = .ok (.iload_n 1, 1) := by decide +kernel
theorem dJ0_remove_21 : decode cJ0_remove 21 = .ok (.invokevirtual 144, 3) := by decide +kernel
theorem dJ0_remove_24 : decode cJ0_remove 24 = .ok (.aload_n 3, 1) := by decide +kernel
theorem dJ0_remove_25 : decode cJ0_remove 25 = .ok (.areturn, 1) := by decide +kernel
theorem dJ0_fastRemove_0 : decode cJ0_fastRemove 0 = .ok (.aload_n 0, 1) := by decide +kernel
theorem dJ0_fastRemove_1 : decode cJ0_fastRemove 1 = .ok (.dup, 1) := by decide +kernel
theorem dJ0_fastRemove_2 : decode cJ0_fastRemove 2 = .ok (.getfield 63, 3) := by decide +kernel
theorem dJ0_fastRemove_5 : decode cJ0_fastRemove 5 = .ok (.iconst 1, 1) := by decide +kernel
theorem dJ0_fastRemove_6 : decode cJ0_fastRemove 6 = .ok (.iadd, 1) := by decide +kernel
theorem dJ0_fastRemove_7 : decode cJ0_fastRemove 7 = .ok (.putfield 63, 3) := by decide +kernel
theorem dJ0_fastRemove_10 : decode cJ0_fastRemove 10 = .ok (.aload_n 0, 1) := by decide +kernel
theorem dJ0_fastRemove_11 : decode cJ0_fastRemove 11 = .ok (.getfield 48, 3) := by decide +kernel
theorem dJ0_fastRemove_14 : decode cJ0_fastRemove 14 = .ok (.iconst 1, 1) := by decide +kernel
theorem dJ0_fastRemove_15 : decode cJ0_fastRemove 15 = .ok (.isub, 1) := by decide +kernel
theorem dJ0_fastRemove_16 : decode cJ0_fastRemove 16 = .ok (.dup, 1) := by decide +kernel
theorem dJ0_fastRemove_17 : decode cJ0_fastRemove 17 = .ok (.istore_n 3, 1) := by decide +kernel
theorem dJ0_fastRemove_18 : decode cJ0_fastRemove 18 = .ok (.iload_n 2, 1) := by decide +kernel
theorem dJ0_fastRemove_19 : decode cJ0_fastRemove 19 = .ok (.if_icmp .le 15, 3) := by decide +kernel
theorem dJ0_fastRemove_22 : decode cJ0_fastRemove 22 = .ok (.aload_n 1, 1) := by decide +kernel
theorem dJ0_fastRemove_23 : decode cJ0_fastRemove 23 = .ok (.iload_n 2, 1) := by decide +kernel
theorem dJ0_fastRemove_24 : decode cJ0_fastRemove 24 = .ok (.iconst 1, 1) := by decide +kernel
theorem dJ0_fastRemove_25 : decode cJ0_fastRemove 25 = .ok (.iadd, 1) := by decide +kernel
theorem dJ0_fastRemove_26 : decode cJ0_fastRemove 26 = .ok (.aload_n 1, 1) := by decide +kernel
theorem dJ0_fastRemove_27 : decode cJ0_fastRemove 27 = .ok (.iload_n 2, 1) := by decide +kernel
theorem dJ0_fastRemove_28 : decode cJ0_fastRemove 28 = .ok (.iload_n 3, 1) := by decide +kernel
theorem dJ0_fastRemove_29 : decode cJ0_fastRemove 29 = .ok (.iload_n 2, 1) := by decide +kernel
theorem dJ0_fastRemove_30 : decode cJ0_fastRemove 30 = .ok (.isub, 1) := by decide +kernel
theorem dJ0_fastRemove_31 : decode cJ0_fastRemove 31 = .ok (.invokestatic 112, 3) := by decide +kernel
theorem dJ0_fastRemove_34 : decode cJ0_fastRemove 34 = .ok (.aload_n 1, 1) := by decide +kernel
theorem dJ0_fastRemove_35 : decode cJ0_fastRemove 35 = .ok (.aload_n 0, 1) := by decide +kernel
theorem dJ0_fastRemove_36 : decode cJ0_fastRemove 36 = .ok (.iload_n 3, 1) := by decide +kernel
theorem dJ0_fastRemove_37 : decode cJ0_fastRemove 37 = .ok (.dup_x1, 1) := by decide +kernel
theorem dJ0_fastRemove_38 : decode cJ0_fastRemove 38 = .ok (.putfield 48, 3) := by decide +kernel
theorem dJ0_fastRemove_41 : decode cJ0_fastRemove 41 = .ok (.aconst_null, 1) := by decide +kernel
theorem dJ0_fastRemove_42 : decode cJ0_fastRemove 42 = .ok (.aastore, 1) := by decide +kernel
theorem dJ0_fastRemove_43 : decode cJ0_fastRemove 43 = .ok (.return_, 1) := by decide +kernel
theorem dJ1_init_0 : decode cJ1_init 0 = .ok (.aload_n 0, 1) := by decide +kernel
theorem dJ1_init_1 : decode cJ1_init 1 = .ok (.invokespecial 1, 3) := by decide +kernel
theorem dJ1_init_4 : decode cJ1_init 4 = .ok (.aload_n 0, 1) := by decide +kernel
theorem dJ1_init_5 : decode cJ1_init 5 = .ok (.iconst 0, 1) := by decide +kernel
theorem dJ1_init_6 : decode cJ1_init 6 = .ok (.putfield 7, 3) := by decide +kernel
theorem dJ1_init_9 : decode cJ1_init 9 = .ok (.return_, 1) := by decide +kernel
theorem dJ2_init_0 : decode cJ2_init 0 = .ok (.aload_n 0, 1) := by decide +kernel
theorem dJ2_init_1 : decode cJ2_init 1 = .ok (.invokespecial 1, 3) := by decide +kernel
theorem dJ2_init_4 : decode cJ2_init 4 = .ok (.return_, 1) := by decide +kernel
theorem dJ3_checkIndex_0 : decode cJ3_checkIndex 0 = .ok (.iload_n 0, 1) := by decide +kernel
theorem dJ3_checkIndex_1 : decode cJ3_checkIndex 1 = .ok (.iload_n 1, 1) := by decide +kernel
theorem dJ3_checkIndex_2 : decode cJ3_checkIndex 2 = .ok (.aconst_null, 1) := by decide +kernel
theorem dJ3_checkIndex_3 : decode cJ3_checkIndex 3 = .ok (.invokestatic 105, 3) := by decide +kernel
theorem dJ3_checkIndex_6 : decode cJ3_checkIndex 6 = .ok (.ireturn, 1) := by decide +kernel
theorem dJ4_checkIndex_0 : decode cJ4_checkIndex 0 = .ok (.iload_n 0, 1) := by decide +kernel
theorem dJ4_checkIndex_1 : decode cJ4_checkIndex 1 = .ok (.ifCond .lt 8, 3) := by decide +kernel
theorem dJ4_checkIndex_4 : decode cJ4_checkIndex 4 = .ok (.iload_n 0, 1) := by decide +kernel
theorem dJ4_checkIndex_5 : decode cJ4_checkIndex 5 = .ok (.iload_n 1, 1) := by decide +kernel
theorem dJ4_checkIndex_6 : decode cJ4_checkIndex 6 = .ok (.if_icmp .lt 10, 3) := by decide +kernel
theorem dJ4_checkIndex_9 : decode cJ4_checkIndex 9 = .ok (.aload_n 2, 1) := by decide +kernel
theorem dJ4_checkIndex_10 : decode cJ4_checkIndex 10 = .ok (.iload_n 0, 1) := by decide +kernel
theorem dJ4_checkIndex_11 : decode cJ4_checkIndex 11 = .ok (.iload_n 1, 1) := by decide +kernel
theorem dJ4_checkIndex_12 : decode cJ4_checkIndex 12 = .ok (.invokestatic 95, 3) := by decide +kernel
theorem dJ4_checkIndex_15 : decode cJ4_checkIndex 15 = .ok (.athrow, 1) := by decide +kernel
theorem dJ4_checkIndex_16 : decode cJ4_checkIndex 16 = .ok (.iload_n 0, 1) := by decide +kernel
theorem dJ4_checkIndex_17 : decode cJ4_checkIndex 17 = .ok (.ireturn, 1) := by decide +kernel
theorem dJ5_fill_0 : decode cJ5_fill 0 = .ok (.iconst 0, 1) := by decide +kernel
theorem dJ5_fill_1 : decode cJ5_fill 1 = .ok (.istore_n 2, 1) := by decide +kernel
theorem dJ5_fill_2 : decode cJ5_fill 2 = .ok (.aload_n 0, 1) := by decide +kernel
theorem dJ5_fill_3 : decode cJ5_fill 3 = .ok (.arraylength, 1) := by decide +kernel
theorem dJ5_fill_4 : decode cJ5_fill 4 = .ok (.istore_n 3, 1) := by decide +kernel
theorem dJ5_fill_5 : decode cJ5_fill 5 = .ok (.iload_n 2, 1) := by decide +kernel
theorem dJ5_fill_6 : decode cJ5_fill 6 = .ok (.iload_n 3, 1) := by decide +kernel
theorem dJ5_fill_7 : decode cJ5_fill 7 = .ok (.if_icmp .ge 13, 3) := by decide +kernel
theorem dJ5_fill_10 : decode cJ5_fill 10 = .ok (.aload_n 0, 1) := by decide +kernel
theorem dJ5_fill_11 : decode cJ5_fill 11 = .ok (.iload_n 2, 1) := by decide +kernel
theorem dJ5_fill_12 : decode cJ5_fill 12 = .ok (.iload_n 1, 1) := by decide +kernel
theorem dJ5_fill_13 : decode cJ5_fill 13 = .ok (.iastore, 1) := by decide +kernel
theorem dJ5_fill_14 : decode cJ5_fill 14 = .ok (.iinc 2 1, 3) := by decide +kernel
theorem dJ5_fill_17 : decode cJ5_fill 17 = .ok (.goto (-12), 3) := by decide +kernel
theorem dJ5_fill_20 : decode cJ5_fill 20 = .ok (.return_, 1) := by decide +kernel
theorem dJ5_copyOf_0 : decode cJ5_copyOf 0 = .ok (.aload_n 0, 1) := by decide +kernel
theorem dJ5_copyOf_1 : decode cJ5_copyOf 1 = .ok (.iload_n 1, 1) := by decide +kernel
theorem dJ5_copyOf_2 : decode cJ5_copyOf 2 = .ok (.aload_n 0, 1) := by decide +kernel
theorem dJ5_copyOf_3 : decode cJ5_copyOf 3 = .ok (.invokevirtual 86, 3) := by decide +kernel
theorem dJ5_copyOf_6 : decode cJ5_copyOf 6 = .ok (.invokestatic 300, 3) := by decide +kernel
theorem dJ5_copyOf_9 : decode cJ5_copyOf 9 = .ok (.areturn, 1) := by decide +kernel
theorem dJ5_copyOf1_0 : decode cJ5_copyOf1 0 = .ok (.aload_n 2, 1) := by decide +kernel
theorem dJ5_copyOf1_1 : decode cJ5_copyOf1 1 = .ok (.ldc 110, 2) := by decide +kernel
theorem dJ5_copyOf1_3 : decode cJ5_copyOf1 3 = .ok (.if_acmp .ne 10, 3) := by decide +kernel
theorem dJ5_copyOf1_6 : decode cJ5_copyOf1 6 = .ok (.iload_n 1, 1) := by decide +kernel
theorem dJ5_copyOf1_7 : decode cJ5_copyOf1 7 = .ok (.anewarray 2, 3) := by decide +kernel
theorem dJ5_copyOf1_10 : decode cJ5_copyOf1 10 = .ok (.goto 14, 3) := by decide +kernel
theorem dJ5_copyOf1_13 : decode cJ5_copyOf1 13 = .ok (.aload_n 2, 1) := by decide +kernel
theorem dJ5_copyOf1_14 : decode cJ5_copyOf1 14 = .ok (.invokevirtual 90, 3) := by decide +kernel
theorem dJ5_copyOf1_17 : decode cJ5_copyOf1 17 = .ok (.iload_n 1, 1) := by decide +kernel
theorem dJ5_copyOf1_18 : decode cJ5_copyOf1 18 = .ok (.invokestatic 95, 3) := by decide +kernel
theorem dJ5_copyOf1_21 : decode cJ5_copyOf1 21 = .ok (.checkcast 110, 3) := by decide +kernel
theorem dJ5_copyOf1_24 : decode cJ5_copyOf1 24 = .ok (.astore_n 3, 1) := by decide +kernel
theorem dJ5_copyOf1_25 : decode cJ5_copyOf1 25 = .ok (.aload_n 0, 1) := by decide +kernel
theorem dJ5_copyOf1_26 : decode cJ5_copyOf1 26 = .ok (.iconst 0, 1) := by decide +kernel
theorem dJ5_copyOf1_27 : decode cJ5_copyOf1 27 = .ok (.aload_n 3, 1) := by decide +kernel
theorem dJ5_copyOf1_28 : decode cJ5_copyOf1 28 = .ok (.iconst 0, 1) := by decide +kernel
theorem dJ5_copyOf1_29 : decode cJ5_copyOf1 29 = .ok (.aload_n 0, 1) := by decide +kernel
theorem dJ5_copyOf1_30 : decode cJ5_copyOf1 30 = .ok (.arraylength, 1) := by decide +kernel
theorem dJ5_copyOf1_31 : decode cJ5_copyOf1 31 = .ok (.iload_n 1, 1) := by decide +kernel
theorem dJ5_copyOf1_32 : decode cJ5_copyOf1 32 = .ok (.invokestatic 304, 3) := by decide +kernel
theorem dJ5_copyOf1_35 : decode cJ5_copyOf1 35 = .ok (.invokestatic 150, 3) := by decide +kernel
theorem dJ5_copyOf1_38 : decode cJ5_copyOf1 38 = .ok (.aload_n 3, 1) := by decide +kernel
theorem dJ5_copyOf1_39 : decode cJ5_copyOf1 39 = .ok (.areturn, 1) := by decide +kernel
theorem dJ6_newLength_0 : decode cJ6_newLength 0 = .ok (.iload_n 0, 1) := by decide +kernel
theorem dJ6_newLength_1 : decode cJ6_newLength 1 = .ok (.iload_n 1, 1) := by decide +kernel
theorem dJ6_newLength_2 : decode cJ6_newLength 2 = .ok (.iload_n 2, 1) := by decide +kernel
theorem dJ6_newLength_3 : decode cJ6_newLength 3 = .ok (.invokestatic 194, 3) := by decide +kernel
theorem dJ6_newLength_6 : decode cJ6_newLength 6 = .ok (.iadd, 1) := by decide +kernel
theorem dJ6_newLength_7 : decode cJ6_newLength 7 = .ok (.istore_n 3, 1) := by decide +kernel
theorem dJ6_newLength_8 : decode cJ6_newLength 8 = .ok (.iconst 0, 1) := by decide +kernel
theorem dJ6_newLength_9 : decode cJ6_newLength 9 = .ok (.iload_n 3, 1) := by decide +kernel
theorem dJ6_newLength_10 : decode cJ6_newLength 10 = .ok (.if_icmp .ge 11, 3) := by decide +kernel
theorem dJ6_newLength_13 : decode cJ6_newLength 13 = .ok (.iload_n 3, 1) := by decide +kernel
theorem dJ6_newLength_14 : decode cJ6_newLength 14 = .ok (.ldc 200, 2) := by decide +kernel
theorem dJ6_newLength_16 : decode cJ6_newLength 16 = .ok (.if_icmp .gt 5, 3) := by decide +kernel
theorem dJ6_newLength_19 : decode cJ6_newLength 19 = .ok (.iload_n 3, 1) := by decide +kernel
theorem dJ6_newLength_20 : decode cJ6_newLength 20 = .ok (.ireturn, 1) := by decide +kernel
theorem dJ6_newLength_21 : decode cJ6_newLength 21 = .ok (.iload_n 0, 1) := by decide +kernel
theorem dJ6_newLength_22 : decode cJ6_newLength 22 = .ok (.iload_n 1, 1) := by decide +kernel
theorem dJ6_newLength_23 : decode cJ6_newLength 23 = .ok (.invokestatic 201, 3) := by decide +kernel
theorem dJ6_newLength_26 : decode cJ6_newLength 26 = .ok (.ireturn, 1) := by decide +kernel
theorem dJ6_hugeLength_0 : decode cJ6_hugeLength 0 = .ok (.iload_n 0, 1) := by decide +kernel
theorem dJ6_hugeLength_1 : decode cJ6_hugeLength 1 = .ok (.iload_n 1, 1) := by decide +kernel
theorem dJ6_hugeLength_2 : decode cJ6_hugeLength 2 = .ok (.iadd, 1) := by decide +kernel
theorem dJ6_hugeLength_3 : decode cJ6_hugeLength 3 = .ok (.istore_n 2, 1) := by decide +kernel
theorem dJ6_hugeLength_4 : decode cJ6_hugeLength 4 = .ok (.iload_n 2, 1) := by decide +kernel
theorem dJ6_hugeLength_5 : decode cJ6_hugeLength 5 = .ok (.ifCond .ge 44, 3) := by decide +kernel
theorem dJ6_hugeLength_8 : decode cJ6_hugeLength 8 = .ok (.new 204, 3) := by decide +kernel
theorem dJ6_hugeLength_11 : decode cJ6_hugeLength 11 = .ok (.dup, 1) := by decide +kernel
theorem dJ6_hugeLength_12 : decode cJ6_hugeLength 12 = .ok (.new 89, 3) := by decide +kernel
theorem dJ6_hugeLength_15 : decode cJ6_hugeLength 15 = .ok (.dup, 1) := by decide +kernel
theorem dJ6_hugeLength_16 : decode cJ6_hugeLength 16 = .ok (.invokespecial 91, 3) := by decide +kernel
theorem dJ6_hugeLength_19 : decode cJ6_hugeLength 19 = .ok (.ldc 206, 2) := by decide +kernel
theorem dJ6_hugeLength_21 : decode cJ6_hugeLength 21 = .ok (.invokevirtual 94, 3) := by decide +kernel
theorem dJ6_hugeLength_24 : decode cJ6_hugeLength 24 = .ok (.iload_n 0, 1) := by decide +kernel
theorem dJ6_hugeLength_25 : decode cJ6_hugeLength 25 = .ok (.invokevirtual 98, 3) := by decide +kernel
theorem dJ6_hugeLength_28 : decode cJ6_hugeLength 28 = .ok (.ldc 208, 2) := by decide +kernel
theorem dJ6_hugeLength_30 : decode cJ6_hugeLength 30 = .ok (.invokevirtual 94, 3) := by decide +kernel
theorem dJ6_hugeLength_33 : decode cJ6_hugeLength 33 = .ok (.iload_n 1, 1) := by decide +kernel
theorem dJ6_hugeLength_34 : decode cJ6_hugeLength 34 = .ok (.invokevirtual 98, 3) := by decide +kernel
theorem dJ6_hugeLength_37 : decode cJ6_hugeLength 37 = .ok (.ldc 210, 2) := by decide +kernel
theorem dJ6_hugeLength_39 : decode cJ6_hugeLength 39 = .ok (.invokevirtual 94, 3) := by decide +kernel
theorem dJ6_hugeLength_42 : decode cJ6_hugeLength 42 = .ok (.invokevirtual 101, 3) := by decide +kernel
theorem dJ6_hugeLength_45 : decode cJ6_hugeLength 45 = .ok (.invokespecial 212, 3) := by decide +kernel
theorem dJ6_hugeLength_48 : decode cJ6_hugeLength 48 = .ok (.athrow, 1) := by decide +kernel
theorem dJ6_hugeLength_49 : decode cJ6_hugeLength 49 = .ok (.iload_n 2, 1) := by decide +kernel
theorem dJ6_hugeLength_50 : decode cJ6_hugeLength 50 = .ok (.ldc 200, 2) := by decide +kernel
theorem dJ6_hugeLength_52 : decode cJ6_hugeLength 52 = .ok (.if_icmp .gt 6, 3) := by decide +kernel
theorem dJ6_hugeLength_55 : decode cJ6_hugeLength 55 = .ok (.ldc 200, 2) := by decide +kernel
theorem dJ6_hugeLength_57 : decode cJ6_hugeLength 57 = .ok (.ireturn, 1) := by decide +kernel
theorem dJ6_hugeLength_58 : decode cJ6_hugeLength 58 = .ok (.iload_n 2, 1) := by decide +kernel
theorem dJ6_hugeLength_59 : decode cJ6_hugeLength 59 = .ok (.ireturn, 1) := by decide +kernel
theorem dJ7_max_0 : decode cJ7_max 0 = .ok (.iload_n 0, 1) := by decide +kernel
theorem dJ7_max_1 : decode cJ7_max 1 = .ok (.iload_n 1, 1) := by decide +kernel
theorem dJ7_max_2 : decode cJ7_max 2 = .ok (.if_icmp .lt 7, 3) := by decide +kernel
theorem dJ7_max_5 : decode cJ7_max 5 = .ok (.iload_n 0, 1) := by decide +kernel
theorem dJ7_max_6 : decode cJ7_max 6 = .ok (.goto 4, 3) := by decide +kernel
theorem dJ7_max_9 : decode cJ7_max 9 = .ok (.iload_n 1, 1) := by decide +kernel
theorem dJ7_max_10 : decode cJ7_max 10 = .ok (.ireturn, 1) := by decide +kernel
theorem dJ7_min_0 : decode cJ7_min 0 = .ok (.iload_n 0, 1) := by decide +kernel
theorem dJ7_min_1 : decode cJ7_min 1 = .ok (.iload_n 1, 1) := by decide +kernel
theorem dJ7_min_2 : decode cJ7_min 2 = .ok (.if_icmp .gt 7, 3) := by decide +kernel
theorem dJ7_min_5 : decode cJ7_min 5 = .ok (.iload_n 0, 1) := by decide +kernel
theorem dJ7_min_6 : decode cJ7_min 6 = .ok (.goto 4, 3) := by decide +kernel
theorem dJ7_min_9 : decode cJ7_min 9 = .ok (.iload_n 1, 1) := by decide +kernel
theorem dJ7_min_10 : decode cJ7_min 10 = .ok (.ireturn, 1) := by decide +kernel
theorem dJ8_bitCount_0 : decode cJ8_bitCount 0 = .ok (.iload_n 0, 1) := by decide +kernel
theorem dJ8_bitCount_1 : decode cJ8_bitCount 1 = .ok (.iload_n 0, 1) := by decide +kernel
theorem dJ8_bitCount_2 : decode cJ8_bitCount 2 = .ok (.iconst 1, 1) := by decide +kernel
theorem dJ8_bitCount_3 : decode cJ8_bitCount 3 = .ok (.iushr, 1) := by decide +kernel
theorem dJ8_bitCount_4 : decode cJ8_bitCount 4 = .ok (.ldc_w 265, 3) := by decide +kernel
theorem dJ8_bitCount_7 : decode cJ8_bitCount 7 = .ok (.iand, 1) := by decide +kernel
theorem dJ8_bitCount_8 : decode cJ8_bitCount 8 = .ok (.isub, 1) := by decide +kernel
theorem dJ8_bitCount_9 : decode cJ8_bitCount 9 = .ok (.istore_n 0, 1) := by decide +kernel
theorem dJ8_bitCount_10 : decode cJ8_bitCount 10 = .ok (.iload_n 0, 1) := by decide +kernel
theorem dJ8_bitCount_11 : decode cJ8_bitCount 11 = .ok (.ldc_w 266, 3) := by decide +kernel
theorem dJ8_bitCount_14 : decode cJ8_bitCount 14 = .ok (.iand, 1) := by decide +kernel
theorem dJ8_bitCount_15 : decode cJ8_bitCount 15 = .ok (.iload_n 0, 1) := by decide +kernel
theorem dJ8_bitCount_16 : decode cJ8_bitCount 16 = .ok (.iconst 2, 1) := by decide +kernel
theorem dJ8_bitCount_17 : decode cJ8_bitCount 17 = .ok (.iushr, 1) := by decide +kernel
theorem dJ8_bitCount_18 : decode cJ8_bitCount 18 = .ok (.ldc_w 266, 3) := by decide +kernel
theorem dJ8_bitCount_21 : decode cJ8_bitCount 21 = .ok (.iand, 1) := by decide +kernel
theorem dJ8_bitCount_22 : decode cJ8_bitCount 22 = .ok (.iadd, 1) := by decide +kernel
theorem dJ8_bitCount_23 : decode cJ8_bitCount 23 = .ok (.istore_n 0, 1) := by decide +kernel
theorem dJ8_bitCount_24 : decode cJ8_bitCount 24 = .ok (.iload_n 0, 1) := by decide +kernel
theorem dJ8_bitCount_25 : decode cJ8_bitCount 25 = .ok (.iload_n 0, 1) := by decide +kernel
theorem dJ8_bitCount_26 : decode cJ8_bitCount 26 = .ok (.iconst 4, 1) := by decide +kernel
theorem dJ8_bitCount_27 : decode cJ8_bitCount 27 = .ok (.iushr, 1) := by decide +kernel
theorem dJ8_bitCount_28 : decode cJ8_bitCount 28 = .ok (.iadd, 1) := by decide +kernel
theorem dJ8_bitCount_29 : decode cJ8_bitCount 29 = .ok (.ldc_w 267, 3) := by decide +kernel
theorem dJ8_bitCount_32 : decode cJ8_bitCount 32 = .ok (.iand, 1) := by decide +kernel
theorem dJ8_bitCount_33 : decode cJ8_bitCount 33 = .ok (.istore_n 0, 1) := by decide +kernel
theorem dJ8_bitCount_34 : decode cJ8_bitCount 34 = .ok (.iload_n 0, 1) := by decide +kernel
theorem dJ8_bitCount_35 : decode cJ8_bitCount 35 = .ok (.iload_n 0, 1) := by decide +kernel
theorem dJ8_bitCount_36 : decode cJ8_bitCount 36 = .ok (.bipush 8, 2) := by decide +kernel
theorem dJ8_bitCount_38 : decode cJ8_bitCount 38 = .ok (.iushr, 1) := by decide +kernel
theorem dJ8_bitCount_39 : decode cJ8_bitCount 39 = .ok (.iadd, 1) := by decide +kernel
theorem dJ8_bitCount_40 : decode cJ8_bitCount 40 = .ok (.istore_n 0, 1) := by decide +kernel
theorem dJ8_bitCount_41 : decode cJ8_bitCount 41 = .ok (.iload_n 0, 1) := by decide +kernel
theorem dJ8_bitCount_42 : decode cJ8_bitCount 42 = .ok (.iload_n 0, 1) := by decide +kernel
theorem dJ8_bitCount_43 : decode cJ8_bitCount 43 = .ok (.bipush 16, 2) := by decide +kernel
theorem dJ8_bitCount_45 : decode cJ8_bitCount 45 = .ok (.iushr, 1) := by decide +kernel
theorem dJ8_bitCount_46 : decode cJ8_bitCount 46 = .ok (.iadd, 1) := by decide +kernel
theorem dJ8_bitCount_47 : decode cJ8_bitCount 47 = .ok (.istore_n 0, 1) := by decide +kernel
theorem dJ8_bitCount_48 : decode cJ8_bitCount 48 = .ok (.iload_n 0, 1) := by decide +kernel
theorem dJ8_bitCount_49 : decode cJ8_bitCount 49 = .ok (.bipush 63, 2) := by decide +kernel
theorem dJ8_bitCount_51 : decode cJ8_bitCount 51 = .ok (.iand, 1) := by decide +kernel
theorem dJ8_bitCount_52 : decode cJ8_bitCount 52 = .ok (.ireturn, 1) := by decide +kernel
