theorem dX8_lookUp_24 : decode cX8_lookUp 24 = .ok (.aload_n 0, 1) := by decide +kernel
theorem dX8_lookUp_25 : decode cX8_lookUp 25 = .ok (.getfield 59, 3) := by decide +kernel
theorem dX8_lookUp_28 : decode cX8_lookUp 28 = .ok (.invokevirtual 234, 3) := by decide +kernel
theorem dX8_lookUp_31 : decode cX8_lookUp 31 = .ok (.aload_n 0, 1) := by decide +kernel
theorem dX8_lookUp_32 : decode cX8_lookUp 32 = .ok (.getfield 55, 3) := by decide +kernel
theorem dX8_lookUp_35 : decode cX8_lookUp 35 = .ok (.aload_n 0, 1) := by decide +kernel
theorem dX8_lookUp_36 : decode cX8_lookUp 36 = .ok (.getfield 36, 3) := by decide +kernel
theorem dX8_lookUp_39 : decode cX8_lookUp 39 = .ok (.aload_n 0, 1) := by decide +kernel
theorem dX8_lookUp_40 : decode cX8_lookUp 40 = .ok (.getfield 27, 3) := by decide +kernel
theorem dX8_lookUp_43 : decode cX8_lookUp 43 = .ok (.invokevirtual 238, 3) := by decide +kernel
theorem dX8_lookUp_46 : decode cX8_lookUp 46 = .ok (.aload_n 0, 1) := by decide +kernel
theorem dX8_lookUp_47 : decode cX8_lookUp 47 = .ok (.getfield 59, 3) := by decide +kernel
theorem dX8_lookUp_50 : decode cX8_lookUp 50 = .ok (.aload_n 0, 1) := by decide +kernel
theorem dX8_lookUp_51 : decode cX8_lookUp 51 = .ok (.getfield 36, 3) := by decide +kernel
theorem dX8_lookUp_54 : decode cX8_lookUp 54 = .ok (.aload_n 0, 1) := by decide +kernel
theorem dX8_lookUp_55 : decode cX8_lookUp 55 = .ok (.getfield 27, 3) := by decide +kernel
theorem dX8_lookUp_58 : decode cX8_lookUp 58 = .ok (.invokevirtual 238, 3) := by decide +kernel
theorem dX8_lookUp_61 : decode cX8_lookUp 61 = .ok (.return_, 1) := by decide +kernel
theorem dX8_fits_0 : decode cX8_fits 0 = .ok (.aload_n 0, 1) := by decide +kernel
theorem dX8_fits_1 : decode cX8_fits 1 = .ok (.getfield 55, 3) := by decide +kernel
theorem dX8_fits_4 : decode cX8_fits 4 = .ok (.iload_n 1, 1) := by decide +kernel
theorem dX8_fits_5 : decode cX8_fits 5 = .ok (.invokevirtual 242, 3) := by decide +kernel
theorem dX8_fits_8 : decode cX8_fits 8 = .ok (.istore_n 3, 1) := by decide +kernel
theorem dX8_fits_9 : decode cX8_fits 9 = .ok (.aload_n 0, 1) := by decide +kernel
theorem dX8_fits_10 : decode cX8_fits 10 = .ok (.getfield 59, 3) := by decide +kernel
theorem dX8_fits_13 : decode cX8_fits 13 = .ok (.iload_n 1, 1) := by decide +kernel
theorem dX8_fits_14 : decode cX8_fits 14 = .ok (.invokevirtual 242, 3) := by decide +kernel
theorem dX8_fits_17 : decode cX8_fits 17 = .ok (.istore 4, 2) := by decide +kernel
theorem dX8_fits_19 : decode cX8_fits 19 = .ok (.iload_n 2, 1) := by decide +kernel
theorem dX8_fits_20 : decode cX8_fits 20 = .ok (.tableswitch 92 0 3 #[32, 47, 62, 77], 32) := by decide +kernel
theorem dX8_fits_52 : decode cX8_fits 52 = .ok (.iload_n 3, 1) := by decide +kernel
theorem dX8_fits_53 : decode cX8_fits 53 = .ok (.ifCond .eq 12, 3) := by decide +kernel
theorem dX8_fits_56 : decode cX8_fits 56 = .ok (.iload 4, 2) := by decide +kernel
theorem dX8_fits_58 : decode cX8_fits 58 = .ok (.ifCond .eq 7, 3) := by decide +kernel
theorem dX8_fits_61 : decode cX8_fits 61 = .ok (.iconst 1, 1) := by decide +kernel
theorem dX8_fits_62 : decode cX8_fits 62 = .ok (.goto 4, 3) := by decide +kernel
theorem dX8_fits_65 : decode cX8_fits 65 = .ok (.iconst 0, 1) := by decide +kernel
theorem dX8_fits_66 : decode cX8_fits 66 = .ok (.ireturn, 1) := by decide +kernel
theorem dX8_fits_67 : decode cX8_fits 67 = .ok (.iload_n 3, 1) := by decide +kernel
theorem dX8_fits_68 : decode cX8_fits 68 = .ok (.ifCond .ne 8, 3) := by decide +kernel
theorem dX8_fits_71 : decode cX8_fits 71 = .ok (.iload 4, 2) := by decide +kernel
theorem dX8_fits_73 : decode cX8_fits 73 = .ok (.ifCond .eq 7, 3) := by decide +kernel
theorem dX8_fits_76 : decode cX8_fits 76 = .ok (.iconst 1, 1) := by decide +kernel
theorem dX8_fits_77 : decode cX8_fits 77 = .ok (.goto 4, 3) := by decide +kernel
theorem dX8_fits_80 : decode cX8_fits 80 = .ok (.iconst 0, 1) := by decide +kernel
theorem dX8_fits_81 : decode cX8_fits 81 = .ok (.ireturn, 1) := by decide +kernel
theorem dX8_fits_82 : decode cX8_fits 82 = .ok (.iload_n 3, 1) := by decide +kernel
theorem dX8_fits_83 : decode cX8_fits 83 = .ok (.iconst 1, 1) := by decide +kernel
theorem dX8_fits_84 : decode cX8_fits 84 = .ok (.ishl, 1) := by decide +kernel
theorem dX8_fits_85 : decode cX8_fits 85 = .ok (.iload 4, 2) := by decide +kernel
theorem dX8_fits_87 : decode cX8_fits 87 = .ok (.iand, 1) := by decide +kernel
theorem dX8_fits_88 : decode cX8_fits 88 = .ok (.ifCond .eq 7, 3) := by decide +kernel
theorem dX8_fits_91 : decode cX8_fits 91 = .ok (.iconst 1, 1) := by decide +kernel
theorem dX8_fits_92 : decode cX8_fits 92 = .ok (.goto 4, 3) := by decide +kernel
theorem dX8_fits_95 : decode cX8_fits 95 = .ok (.iconst 0, 1) := by decide +kernel
theorem dX8_fits_96 : decode cX8_fits 96 = .ok (.ireturn, 1) := by decide +kernel
theorem dX8_fits_97 : decode cX8_fits 97 = .ok (.iload_n 3, 1) := by decide +kernel
theorem dX8_fits_98 : decode cX8_fits 98 = .ok (.ifCond .eq 12, 3) := by decide +kernel
theorem dX8_fits_101 : decode cX8_fits 101 = .ok (.iload 4, 2) := by decide +kernel
theorem dX8_fits_103 : decode cX8_fits 103 = .ok (.ifCond .ne 7, 3) := by decide +kernel
theorem dX8_fits_106 : decode cX8_fits 106 = .ok (.iconst 1, 1) := by decide +kernel
theorem dX8_fits_107 : decode cX8_fits 107 = .ok (.goto 4, 3) := by decide +kernel
theorem dX8_fits_110 : decode cX8_fits 110 = .ok (.iconst 0, 1) := by decide +kernel
theorem dX8_fits_111 : decode cX8_fits 111 = .ok (.ireturn, 1) := by decide +kernel
theorem dX8_fits_112 : decode cX8_fits 112 = .ok (.iconst 0, 1) := by decide +kernel
theorem dX8_fits_113 : decode cX8_fits 113 = .ok (.ireturn, 1) := by decide +kernel
