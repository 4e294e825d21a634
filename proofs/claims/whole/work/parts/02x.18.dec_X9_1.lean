theorem dX9_flushing_28 : decode cX9_flushing 28 = .ok (.iload_n 3, 1) := by decide +kernel
theorem dX9_flushing_29 : decode cX9_flushing 29 = .ok (.invokestatic 89, 3) := by decide +kernel
theorem dX9_flushing_32 : decode cX9_flushing 32 = .ok (.ifCond .ne 18, 3) := by decide +kernel
theorem dX9_flushing_35 : decode cX9_flushing 35 = .ok (.aload_n 0, 1) := by decide +kernel
theorem dX9_flushing_36 : decode cX9_flushing 36 = .ok (.getfield 16, 3) := by decide +kernel
theorem dX9_flushing_39 : decode cX9_flushing 39 = .ok (.iload_n 3, 1) := by decide +kernel
theorem dX9_flushing_40 : decode cX9_flushing 40 = .ok (.iaload, 1) := by decide +kernel
theorem dX9_flushing_41 : decode cX9_flushing 41 = .ok (.ifCond .le 9, 3) := by decide +kernel
theorem dX9_flushing_44 : decode cX9_flushing 44 = .ok (.lload_n 1, 1) := by decide +kernel
theorem dX9_flushing_45 : decode cX9_flushing 45 = .ok (.lconst 1, 1) := by decide +kernel
theorem dX9_flushing_46 : decode cX9_flushing 46 = .ok (.iload_n 3, 1) := by decide +kernel
theorem dX9_flushing_47 : decode cX9_flushing 47 = .ok (.lshl, 1) := by decide +kernel
theorem dX9_flushing_48 : decode cX9_flushing 48 = .ok (.lor, 1) := by decide +kernel
theorem dX9_flushing_49 : decode cX9_flushing 49 = .ok (.lstore_n 1, 1) := by decide +kernel
theorem dX9_flushing_50 : decode cX9_flushing 50 = .ok (.iinc 3 1, 3) := by decide +kernel
theorem dX9_flushing_53 : decode cX9_flushing 53 = .ok (.goto (-37), 3) := by decide +kernel
theorem dX9_flushing_56 : decode cX9_flushing 56 = .ok (.lload_n 1, 1) := by decide +kernel
theorem dX9_flushing_57 : decode cX9_flushing 57 = .ok (.lconst 0, 1) := by decide +kernel
theorem dX9_flushing_58 : decode cX9_flushing 58 = .ok (.lcmp, 1) := by decide +kernel
theorem dX9_flushing_59 : decode cX9_flushing 59 = .ok (.ifCond .eq 80, 3) := by decide +kernel
theorem dX9_flushing_62 : decode cX9_flushing 62 = .ok (.aload_n 0, 1) := by decide +kernel
theorem dX9_flushing_63 : decode cX9_flushing 63 = .ok (.lload_n 1, 1) := by decide +kernel
theorem dX9_flushing_64 : decode cX9_flushing 64 = .ok (.invokevirtual 121, 3) := by decide +kernel
theorem dX9_flushing_67 : decode cX9_flushing 67 = .ok (.lstore_n 3, 1) := by decide +kernel
theorem dX9_flushing_68 : decode cX9_flushing 68 = .ok (.lload_n 3, 1) := by decide +kernel
theorem dX9_flushing_69 : decode cX9_flushing 69 = .ok (.lconst 0, 1) := by decide +kernel
theorem dX9_flushing_70 : decode cX9_flushing 70 = .ok (.lcmp, 1) := by decide +kernel
theorem dX9_flushing_71 : decode cX9_flushing 71 = .ok (.ifCond .ne 5, 3) := by decide +kernel
theorem dX9_flushing_74 : decode cX9_flushing 74 = .ok (.iconst 0, 1) := by decide +kernel
theorem dX9_flushing_75 : decode cX9_flushing 75 = .ok (.ireturn, 1) := by decide +kernel
theorem dX9_flushing_76 : decode cX9_flushing 76 = .ok (.aload_n 0, 1) := by decide +kernel
theorem dX9_flushing_77 : decode cX9_flushing 77 = .ok (.getfield 22, 3) := by decide +kernel
theorem dX9_flushing_80 : decode cX9_flushing 80 = .ok (.aload_n 0, 1) := by decide +kernel
theorem dX9_flushing_81 : decode cX9_flushing 81 = .ok (.getfield 125, 3) := by decide +kernel
theorem dX9_flushing_84 : decode cX9_flushing 84 = .ok (.lload_n 1, 1) := by decide +kernel
theorem dX9_flushing_85 : decode cX9_flushing 85 = .ok (.lastore, 1) := by decide +kernel
theorem dX9_flushing_86 : decode cX9_flushing 86 = .ok (.aload_n 0, 1) := by decide +kernel
theorem dX9_flushing_87 : decode cX9_flushing 87 = .ok (.getfield 26, 3) := by decide +kernel
theorem dX9_flushing_90 : decode cX9_flushing 90 = .ok (.aload_n 0, 1) := by decide +kernel
theorem dX9_flushing_91 : decode cX9_flushing 91 = .ok (.getfield 125, 3) := by decide +kernel
theorem dX9_flushing_94 : decode cX9_flushing 94 = .ok (.lload_n 3, 1) := by decide +kernel
theorem dX9_flushing_95 : decode cX9_flushing 95 = .ok (.lastore, 1) := by decide +kernel
theorem dX9_flushing_96 : decode cX9_flushing 96 = .ok (.aload_n 0, 1) := by decide +kernel
theorem dX9_flushing_97 : decode cX9_flushing 97 = .ok (.getfield 29, 3) := by decide +kernel
theorem dX9_flushing_100 : decode cX9_flushing 100 = .ok (.aload_n 0, 1) := by decide +kernel
theorem dX9_flushing_101 : decode cX9_flushing 101 = .ok (.getfield 125, 3) := by decide +kernel
theorem dX9_flushing_104 : decode cX9_flushing 104 = .ok (.iconst 0, 1) := by decide +kernel
theorem dX9_flushing_105 : decode cX9_flushing 105 = .ok (.iastore, 1) := by decide +kernel
theorem dX9_flushing_106 : decode cX9_flushing 106 = .ok (.aload_n 0, 1) := by decide +kernel
theorem dX9_flushing_107 : decode cX9_flushing 107 = .ok (.dup, 1) := by decide +kernel
theorem dX9_flushing_108 : decode cX9_flushing 108 = .ok (.getfield 125, 3) := by decide +kernel
theorem dX9_flushing_111 : decode cX9_flushing 111 = .ok (.iconst 1, 1) := by decide +kernel
theorem dX9_flushing_112 : decode cX9_flushing 112 = .ok (.iadd, 1) := by decide +kernel
theorem dX9_flushing_113 : decode cX9_flushing 113 = .ok (.putfield 125, 3) := by decide +kernel
theorem dX9_flushing_116 : decode cX9_flushing 116 = .ok (.aload_n 0, 1) := by decide +kernel
theorem dX9_flushing_117 : decode cX9_flushing 117 = .ok (.dup, 1) := by decide +kernel
theorem dX9_flushing_118 : decode cX9_flushing 118 = .ok (.getfield 118, 3) := by decide +kernel
theorem dX9_flushing_121 : decode cX9_flushing 121 = .ok (.lload_n 3, 1) := by decide +kernel
theorem dX9_flushing_122 : decode cX9_flushing 122 = .ok (.lor, 1) := by decide +kernel
theorem dX9_flushing_123 : decode cX9_flushing 123 = .ok (.putfield 118, 3) := by decide +kernel
theorem dX9_flushing_126 : decode cX9_flushing 126 = .ok (.aload_n 0, 1) := by decide +kernel
theorem dX9_flushing_127 : decode cX9_flushing 127 = .ok (.dup, 1) := by decide +kernel
theorem dX9_flushing_128 : decode cX9_flushing 128 = .ok (.getfield 128, 3) := by decide +kernel
theorem dX9_flushing_131 : decode cX9_flushing 131 = .ok (.lload_n 3, 1) := by decide +kernel
theorem dX9_flushing_132 : decode cX9_flushing 132 = .ok (.invokestatic 93, 3) := by decide +kernel
theorem dX9_flushing_135 : decode cX9_flushing 135 = .ok (.iadd, 1) := by decide +kernel
theorem dX9_flushing_136 : decode cX9_flushing 136 = .ok (.putfield 128, 3) := by decide +kernel
theorem dX9_flushing_139 : decode cX9_flushing 139 = .ok (.aload_n 0, 1) := by decide +kernel
theorem dX9_flushing_140 : decode cX9_flushing 140 = .ok (.aload_n 0, 1) := by decide +kernel
theorem dX9_flushing_141 : decode cX9_flushing 141 = .ok (.getfield 74, 3) := by decide +kernel
theorem dX9_flushing_144 : decode cX9_flushing 144 = .ok (.putfield 71, 3) := by decide +kernel
theorem dX9_flushing_147 : decode cX9_flushing 147 = .ok (.iconst 0, 1) := by decide +kernel
theorem dX9_flushing_148 : decode cX9_flushing 148 = .ok (.istore_n 3, 1) := by decide +kernel
theorem dX9_flushing_149 : decode cX9_flushing 149 = .ok (.iload_n 3, 1) := by decide +kernel
theorem dX9_flushing_150 : decode cX9_flushing 150 = .ok (.bipush 64, 2) := by decide +kernel
theorem dX9_flushing_152 : decode cX9_flushing 152 = .ok (.if_icmp .ge 32, 3) := by decide +kernel
theorem dX9_flushing_155 : decode cX9_flushing 155 = .ok (.aload_n 0, 1) := by decide +kernel
theorem dX9_flushing_156 : decode cX9_flushing 156 = .ok (.invokevirtual 131, 3) := by decide +kernel
theorem dX9_flushing_159 : decode cX9_flushing 159 = .ok (.istore 4, 2) := by decide +kernel
theorem dX9_flushing_161 : decode cX9_flushing 161 = .ok (.iload 4, 2) := by decide +kernel
theorem dX9_flushing_163 : decode cX9_flushing 163 = .ok (.ifCond .lt 21, 3) := by decide +kernel
theorem dX9_flushing_166 : decode cX9_flushing 166 = .ok (.aload_n 0, 1) := by decide +kernel
theorem dX9_flushing_167 : decode cX9_flushing 167 = .ok (.iload 4, 2) := by decide +kernel
theorem dX9_flushing_169 : decode cX9_flushing 169 = .ok (.invokevirtual 134, 3) := by decide +kernel
theorem dX9_flushing_172 : decode cX9_flushing 172 = .ok (.ifCond .ne 6, 3) := by decide +kernel
theorem dX9_flushing_175 : decode cX9_flushing 175 = .ok (.goto 9, 3) := by decide +kernel
theorem dX9_flushing_178 : decode cX9_flushing 178 = .ok (.iinc 3 1, 3) := by decide +kernel
theorem dX9_flushing_181 : decode cX9_flushing 181 = .ok (.goto (-32), 3) := by decide +kernel
theorem dX9_flushing_184 : decode cX9_flushing 184 = .ok (.iconst 1, 1) := by decide +kernel
theorem dX9_flushing_185 : decode cX9_flushing 185 = .ok (.ireturn, 1) := by decide +kernel
theorem dX9_full_0 : decode cX9_full 0 = .ok (.iconst (-1), 1) := by decide +kernel
theorem dX9_full_1 : decode cX9_full 1 = .ok (.istore_n 1, 1) := by decide +kernel
theorem dX9_full_2 : decode cX9_full 2 = .ok (.iconst 0, 1) := by decide +kernel
theorem dX9_full_3 : decode cX9_full 3 = .ok (.istore_n 2, 1) := by decide +kernel
theorem dX9_full_4 : decode cX9_full 4 = .ok (.iload_n 2, 1) := by decide +kernel
theorem dX9_full_5 : decode cX9_full 5 = .ok (.aload_n 0, 1) := by decide +kernel
theorem dX9_full_6 : decode cX9_full 6 = .ok (.getfield 125, 3) := by decide +kernel
theorem dX9_full_9 : decode cX9_full 9 = .ok (.if_icmp .ge 77, 3) := by decide +kernel
theorem dX9_full_12 : decode cX9_full 12 = .ok (.iconst 0, 1) := by decide +kernel
theorem dX9_full_13 : decode cX9_full 13 = .ok (.istore_n 3, 1) := by decide +kernel
theorem dX9_full_14 : decode cX9_full 14 = .ok (.iconst 0, 1) := by decide +kernel
theorem dX9_full_15 : decode cX9_full 15 = .ok (.istore 4, 2) := by decide +kernel
theorem dX9_full_17 : decode cX9_full 17 = .ok (.iload 4, 2) := by decide +kernel
theorem dX9_full_19 : decode cX9_full 19 = .ok (.aload_n 0, 1) := by decide +kernel
theorem dX9_full_20 : decode cX9_full 20 = .ok (.getfield 125, 3) := by decide +kernel
theorem dX9_full_23 : decode cX9_full 23 = .ok (.if_icmp .ge 28, 3) := by decide +kernel
theorem dX9_full_26 : decode cX9_full 26 = .ok (.aload_n 0, 1) := by decide +kernel
theorem dX9_full_27 : decode cX9_full 27 = .ok (.getfield 29, 3) := by decide +kernel
theorem dX9_full_30 : decode cX9_full 30 = .ok (.iload 4, 2) := by decide +kernel
theorem dX9_full_32 : decode cX9_full 32 = .ok (.iaload, 1) := by decide +kernel
theorem dX9_full_33 : decode cX9_full 33 = .ok (.aload_n 0, 1) := by decide +kernel
theorem dX9_full_34 : decode cX9_full 34 = .ok (.getfield 29, 3) := by decide +kernel
theorem dX9_full_37 : decode cX9_full 37 = .ok (.iload_n 2, 1) := by decide +kernel
theorem dX9_full_38 : decode cX9_full 38 = .ok (.iaload, 1) := by decide +kernel
theorem dX9_full_39 : decode cX9_full 39 = .ok (.if_icmp .ne 6, 3) := by decide +kernel
theorem dX9_full_42 : decode cX9_full 42 = .ok (.iinc 3 1, 3) := by decide +kernel
theorem dX9_full_45 : decode cX9_full 45 = .ok (.iinc 4 1, 3) := by decide +kernel
theorem dX9_full_48 : decode cX9_full 48 = .ok (.goto (-31), 3) := by decide +kernel
theorem dX9_full_51 : decode cX9_full 51 = .ok (.iload_n 3, 1) := by decide +kernel
theorem dX9_full_52 : decode cX9_full 52 = .ok (.aload_n 0, 1) := by decide +kernel
theorem dX9_full_53 : decode cX9_full 53 = .ok (.getfield 51, 3) := by decide +kernel
theorem dX9_full_56 : decode cX9_full 56 = .ok (.if_icmp .lt 24, 3) := by decide +kernel
theorem dX9_full_59 : decode cX9_full 59 = .ok (.iload_n 1, 1) := by decide +kernel
theorem dX9_full_60 : decode cX9_full 60 = .ok (.ifCond .lt 13, 3) := by decide +kernel
theorem dX9_full_63 : decode cX9_full 63 = .ok (.aload_n 0, 1) := by decide +kernel
theorem dX9_full_64 : decode cX9_full 64 = .ok (.getfield 29, 3) := by decide +kernel
theorem dX9_full_67 : decode cX9_full 67 = .ok (.iload_n 2, 1) := by decide +kernel
theorem dX9_full_68 : decode cX9_full 68 = .ok (.iaload, 1) := by decide +kernel
theorem dX9_full_69 : decode cX9_full 69 = .ok (.iload_n 1, 1) := by decide +kernel
theorem dX9_full_70 : decode cX9_full 70 = .ok (.if_icmp .ge 10, 3) := by decide +kernel
theorem dX9_full_73 : decode cX9_full 73 = .ok (.aload_n 0, 1) := by decide +kernel
theorem dX9_full_74 : decode cX9_full 74 = .ok (.getfield 29, 3) := by decide +kernel
theorem dX9_full_77 : decode cX9_full 77 = .ok (.iload_n 2, 1) := by decide +kernel
theorem dX9_full_78 : decode cX9_full 78 = .ok (.iaload, 1) := by decide +kernel
theorem dX9_full_79 : decode cX9_full 79 = .ok (.istore_n 1, 1) := by decide +kernel
theorem dX9_full_80 : decode cX9_full 80 = .ok (.iinc 2 1, 3) := by decide +kernel
theorem dX9_full_83 : decode cX9_full 83 = .ok (.goto (-79), 3) := by decide +kernel
theorem dX9_full_86 : decode cX9_full 86 = .ok (.iload_n 1, 1) := by decide +kernel
theorem dX9_full_87 : decode cX9_full 87 = .ok (.ireturn, 1) := by decide +kernel
theorem dX9_merge_0 : decode cX9_merge 0 = .ok (.lconst 0, 1) := by decide +kernel
theorem dX9_merge_1 : decode cX9_merge 1 = .ok (.lstore_n 2, 1) := by decide +kernel
theorem dX9_merge_2 : decode cX9_merge 2 = .ok (.lconst 0, 1) := by decide +kernel
theorem dX9_merge_3 : decode cX9_merge 3 = .ok (.lstore 4, 2) := by decide +kernel
theorem dX9_merge_5 : decode cX9_merge 5 = .ok (.lconst 0, 1) := by decide +kernel
theorem dX9_merge_6 : decode cX9_merge 6 = .ok (.lstore 6, 2) := by decide +kernel
theorem dX9_merge_8 : decode cX9_merge 8 = .ok (.iconst (-1), 1) := by decide +kernel
theorem dX9_merge_9 : decode cX9_merge 9 = .ok (.istore 8, 2) := by decide +kernel
theorem dX9_merge_11 : decode cX9_merge 11 = .ok (.iconst 0, 1) := by decide +kernel
theorem dX9_merge_12 : decode cX9_merge 12 = .ok (.istore 9, 2) := by decide +kernel
theorem dX9_merge_14 : decode cX9_merge 14 = .ok (.iconst 0, 1) := by decide +kernel
theorem dX9_merge_15 : decode cX9_merge 15 = .ok (.istore 10, 2) := by decide +kernel
theorem dX9_merge_17 : decode cX9_merge 17 = .ok (.iload 10, 2) := by decide +kernel
theorem dX9_merge_19 : decode cX9_merge 19 = .ok (.aload_n 0, 1) := by decide +kernel
theorem dX9_merge_20 : decode cX9_merge 20 = .ok (.getfield 125, 3) := by decide +kernel
theorem dX9_merge_23 : decode cX9_merge 23 = .ok (.if_icmp .ge 79, 3) := by decide +kernel
theorem dX9_merge_26 : decode cX9_merge 26 = .ok (.iload_n 1, 1) := by decide +kernel
theorem dX9_merge_27 : decode cX9_merge 27 = .ok (.ifCond .lt 17, 3) := by decide +kernel
theorem dX9_merge_30 : decode cX9_merge 30 = .ok (.aload_n 0, 1) := by decide +kernel
theorem dX9_merge_31 : decode cX9_merge 31 = .ok (.getfield 29, 3) := by decide +kernel
theorem dX9_merge_34 : decode cX9_merge 34 = .ok (.iload 10, 2) := by decide +kernel
theorem dX9_merge_36 : decode cX9_merge 36 = .ok (.iaload, 1) := by decide +kernel
theorem dX9_merge_37 : decode cX9_merge 37 = .ok (.iload_n 1, 1) := by decide +kernel
theorem dX9_merge_38 : decode cX9_merge 38 = .ok (.if_icmp .eq 6, 3) := by decide +kernel
theorem dX9_merge_41 : decode cX9_merge 41 = .ok (.goto 55, 3) := by decide +kernel
theorem dX9_merge_44 : decode cX9_merge 44 = .ok (.lload_n 2, 1) := by decide +kernel
theorem dX9_merge_45 : decode cX9_merge 45 = .ok (.aload_n 0, 1) := by decide +kernel
theorem dX9_merge_46 : decode cX9_merge 46 = .ok (.getfield 22, 3) := by decide +kernel
theorem dX9_merge_49 : decode cX9_merge 49 = .ok (.iload 10, 2) := by decide +kernel
theorem dX9_merge_51 : decode cX9_merge 51 = .ok (.laload, 1) := by decide +kernel
theorem dX9_merge_52 : decode cX9_merge 52 = .ok (.lor, 1) := by decide +kernel
theorem dX9_merge_53 : decode cX9_merge 53 = .ok (.lstore_n 2, 1) := by decide +kernel
theorem dX9_merge_54 : decode cX9_merge 54 = .ok (.lload 4, 2) := by decide +kernel
theorem dX9_merge_56 : decode cX9_merge 56 = .ok (.aload_n 0, 1) := by decide +kernel
theorem dX9_merge_57 : decode cX9_merge 57 = .ok (.getfield 26, 3) := by decide +kernel
theorem dX9_merge_60 : decode cX9_merge 60 = .ok (.iload 10, 2) := by decide +kernel
theorem dX9_merge_62 : decode cX9_merge 62 = .ok (.laload, 1) := by decide +kernel
theorem dX9_merge_63 : decode cX9_merge 63 = .ok (.lor, 1) := by decide +kernel
theorem dX9_merge_64 : decode cX9_merge 64 = .ok (.lstore 4, 2) := by decide +kernel
theorem dX9_merge_66 : decode cX9_merge 66 = .ok (.iload 8, 2) := by decide +kernel
theorem dX9_merge_68 : decode cX9_merge 68 = .ok (.ifCond .ge 7, 3) := by decide +kernel
theorem dX9_merge_71 : decode cX9_merge 71 = .ok (.iload 10, 2) := by decide +kernel
theorem dX9_merge_73 : decode cX9_merge 73 = .ok (.istore 8, 2) := by decide +kernel
theorem dX9_merge_75 : decode cX9_merge 75 = .ok (.aload_n 0, 1) := by decide +kernel
theorem dX9_merge_76 : decode cX9_merge 76 = .ok (.getfield 29, 3) := by decide +kernel
theorem dX9_merge_79 : decode cX9_merge 79 = .ok (.iload 10, 2) := by decide +kernel
theorem dX9_merge_81 : decode cX9_merge 81 = .ok (.iaload, 1) := by decide +kernel
theorem dX9_merge_82 : decode cX9_merge 82 = .ok (.iload 9, 2) := by decide +kernel
theorem dX9_merge_84 : decode cX9_merge 84 = .ok (.if_icmp .le 12, 3) := by decide +kernel
theorem dX9_merge_87 : decode cX9_merge 87 = .ok (.aload_n 0, 1) := by decide +kernel
theorem dX9_merge_88 : decode cX9_merge 88 = .ok (.getfield 29, 3) := by decide +kernel
theorem dX9_merge_91 : decode cX9_merge 91 = .ok (.iload 10, 2) := by decide +kernel
theorem dX9_merge_93 : decode cX9_merge 93 = .ok (.iaload, 1) := by decide +kernel
theorem dX9_merge_94 : decode cX9_merge 94 = .ok (.istore 9, 2) := by decide +kernel
theorem dX9_merge_96 : decode cX9_merge 96 = .ok (.iinc 10 1, 3) := by decide +kernel
theorem dX9_merge_99 : decode cX9_merge 99 = .ok (.goto (-82), 3) := by decide +kernel
theorem dX9_merge_102 : decode cX9_merge 102 = .ok (.aload_n 0, 1) := by decide +kernel
theorem dX9_merge_103 : decode cX9_merge 103 = .ok (.dup, 1) := by decide +kernel
theorem dX9_merge_104 : decode cX9_merge 104 = .ok (.getfield 137, 3) := by decide +kernel
theorem dX9_merge_107 : decode cX9_merge 107 = .ok (.lload 4, 2) := by decide +kernel
theorem dX9_merge_109 : decode cX9_merge 109 = .ok (.invokestatic 93, 3) := by decide +kernel
theorem dX9_merge_112 : decode cX9_merge 112 = .ok (.iadd, 1) := by decide +kernel
theorem dX9_merge_113 : decode cX9_merge 113 = .ok (.putfield 137, 3) := by decide +kernel
theorem dX9_merge_116 : decode cX9_merge 116 = .ok (.lload_n 2, 1) := by decide +kernel
theorem dX9_merge_117 : decode cX9_merge 117 = .ok (.aload_n 0, 1) := by decide +kernel
theorem dX9_merge_118 : decode cX9_merge 118 = .ok (.getfield 85, 3) := by decide +kernel
theorem dX9_merge_121 : decode cX9_merge 121 = .ok (.ldc2_w 140, 3) := by decide +kernel
theorem dX9_merge_124 : decode cX9_merge 124 = .ok (.lxor, 1) := by decide +kernel
theorem dX9_merge_125 : decode cX9_merge 125 = .ok (.land, 1) := by decide +kernel
theorem dX9_merge_126 : decode cX9_merge 126 = .ok (.lstore_n 2, 1) := by decide +kernel
theorem dX9_merge_127 : decode cX9_merge 127 = .ok (.lload_n 2, 1) := by decide +kernel
theorem dX9_merge_128 : decode cX9_merge 128 = .ok (.lconst 0, 1) := by decide +kernel
theorem dX9_merge_129 : decode cX9_merge 129 = .ok (.lcmp, 1) := by decide +kernel
theorem dX9_merge_130 : decode cX9_merge 130 = .ok (.ifCond .eq 43, 3) := by decide +kernel
theorem dX9_merge_133 : decode cX9_merge 133 = .ok (.aload_n 0, 1) := by decide +kernel
theorem dX9_merge_134 : decode cX9_merge 134 = .ok (.lload_n 2, 1) := by decide +kernel
theorem dX9_merge_135 : decode cX9_merge 135 = .ok (.invokevirtual 121, 3) := by decide +kernel
theorem dX9_merge_138 : decode cX9_merge 138 = .ok (.lstore 6, 2) := by decide +kernel
theorem dX9_merge_140 : decode cX9_merge 140 = .ok (.lload 6, 2) := by decide +kernel
theorem dX9_merge_142 : decode cX9_merge 142 = .ok (.lconst 0, 1) := by decide +kernel
theorem dX9_merge_143 : decode cX9_merge 143 = .ok (.lcmp, 1) := by decide +kernel
theorem dX9_merge_144 : decode cX9_merge 144 = .ok (.ifCond .ne 15, 3) := by decide +kernel
theorem dX9_merge_147 : decode cX9_merge 147 = .ok (.aload_n 0, 1) := by decide +kernel
theorem dX9_merge_148 : decode cX9_merge 148 = .ok (.dup, 1) := by decide +kernel
theorem dX9_merge_149 : decode cX9_merge 149 = .ok (.getfield 142, 3) := by decide +kernel
theorem dX9_merge_152 : decode cX9_merge 152 = .ok (.iconst 1, 1) := by decide +kernel
theorem dX9_merge_153 : decode cX9_merge 153 = .ok (.iadd, 1) := by decide +kernel
theorem dX9_merge_154 : decode cX9_merge 154 = .ok (.putfield 142, 3) := by decide +kernel
theorem dX9_merge_157 : decode cX9_merge 157 = .ok (.iconst 0, 1) := by decide +kernel
theorem dX9_merge_158 : decode cX9_merge 158 = .ok (.ireturn, 1) := by decide +kernel
theorem dX9_merge_159 : decode cX9_merge 159 = .ok (.aload_n 0, 1) := by decide +kernel
theorem dX9_merge_160 : decode cX9_merge 160 = .ok (.dup, 1) := by decide +kernel
theorem dX9_merge_161 : decode cX9_merge 161 = .ok (.getfield 128, 3) := by decide +kernel
theorem dX9_merge_164 : decode cX9_merge 164 = .ok (.lload 6, 2) := by decide +kernel
theorem dX9_merge_166 : decode cX9_merge 166 = .ok (.invokestatic 93, 3) := by decide +kernel
theorem dX9_merge_169 : decode cX9_merge 169 = .ok (.iadd, 1) := by decide +kernel
theorem dX9_merge_170 : decode cX9_merge 170 = .ok (.putfield 128, 3) := by decide +kernel
theorem dX9_merge_173 : decode cX9_merge 173 = .ok (.iconst 0, 1) := by decide +kernel
theorem dX9_merge_174 : decode cX9_merge 174 = .ok (.istore 10, 2) := by decide +kernel
theorem dX9_merge_176 : decode cX9_merge 176 = .ok (.iconst 0, 1) := by decide +kernel
theorem dX9_merge_177 : decode cX9_merge 177 = .ok (.istore 11, 2) := by decide +kernel
theorem dX9_merge_179 : decode cX9_merge 179 = .ok (.iload 11, 2) := by decide +kernel
theorem dX9_merge_181 : decode cX9_merge 181 = .ok (.aload_n 0, 1) := by decide +kernel
theorem dX9_merge_182 : decode cX9_merge 182 = .ok (.getfield 125, 3) := by decide +kernel
theorem dX9_merge_185 : decode cX9_merge 185 = .ok (.if_icmp .ge 128, 3) := by decide +kernel
theorem dX9_merge_188 : decode cX9_merge 188 = .ok (.iload_n 1, 1) := by decide +kernel
theorem dX9_merge_189 : decode cX9_merge 189 = .ok (.ifCond .lt 14, 3) := by decide +kernel
theorem dX9_merge_192 : decode cX9_merge 192 = .ok (.aload_n 0, 1) := by decide +kernel
theorem dX9_merge_193 : decode cX9_merge 193 = .ok (.getfield 29, 3) := by decide +kernel
theorem dX9_merge_196 : decode cX9_merge 196 = .ok (.iload 11, 2) := by decide +kernel
theorem dX9_merge_198 : decode cX9_merge 198 = .ok (.iaload, 1) := by decide +kernel
theorem dX9_merge_199 : decode cX9_merge 199 = .ok (.iload_n 1, 1) := by decide +kernel
theorem dX9_merge_200 : decode cX9_merge 200 = .ok (.if_icmp .ne 7, 3) := by decide +kernel
theorem dX9_merge_203 : decode cX9_merge 203 = .ok (.iconst 1, 1) := by decide +kernel
theorem dX9_merge_204 : decode cX9_merge 204 = .ok (.goto 4, 3) := by decide +kernel
theorem dX9_merge_207 : decode cX9_merge 207 = .ok (.iconst 0, 1) := by decide +kernel
theorem dX9_merge_208 : decode cX9_merge 208 = .ok (.istore 12, 2) := by decide +kernel
theorem dX9_merge_210 : decode cX9_merge 210 = .ok (.iload 12, 2) := by decide +kernel
theorem dX9_merge_212 : decode cX9_merge 212 = .ok (.ifCond .eq 19, 3) := by decide +kernel
theorem dX9_merge_215 : decode cX9_merge 215 = .ok (.iload 11, 2) := by decide +kernel
theorem dX9_merge_217 : decode cX9_merge 217 = .ok (.iload 8, 2) := by decide +kernel
theorem dX9_merge_219 : decode cX9_merge 219 = .ok (.if_icmp .ne 88, 3) := by decide +kernel
theorem dX9_merge_222 : decode cX9_merge 222 = .ok (.lload_n 2, 1) := by decide +kernel
theorem dX9_merge_223 : decode cX9_merge 223 = .ok (.lconst 0, 1) := by decide +kernel
theorem dX9_merge_224 : decode cX9_merge 224 = .ok (.lcmp, 1) := by decide +kernel
theorem dX9_merge_225 : decode cX9_merge 225 = .ok (.ifCond .ne 6, 3) := by decide +kernel
theorem dX9_merge_228 : decode cX9_merge 228 = .ok (.goto 79, 3) := by decide +kernel
theorem dX9_merge_231 : decode cX9_merge 231 = .ok (.aload_n 0, 1) := by decide +kernel
theorem dX9_merge_232 : decode cX9_merge 232 = .ok (.getfield 22, 3) := by decide +kernel
theorem dX9_merge_235 : decode cX9_merge 235 = .ok (.iload 10, 2) := by decide +kernel
theorem dX9_merge_237 : decode cX9_merge 237 = .ok (.iload 12, 2) := by decide +kernel
theorem dX9_merge_239 : decode cX9_merge 239 = .ok (.ifCond .eq 7, 3) := by decide +kernel
theorem dX9_merge_242 : decode cX9_merge 242 = .ok (.lload_n 2, 1) := by decide +kernel
theorem dX9_merge_243 : decode cX9_merge 243 = .ok (.goto 10, 3) := by decide +kernel
theorem dX9_merge_246 : decode cX9_merge 246 = .ok (.aload_n 0, 1) := by decide +kernel
theorem dX9_merge_247 : decode cX9_merge 247 = .ok (.getfield 22, 3) := by decide +kernel
theorem dX9_merge_250 : decode cX9_merge 250 = .ok (.iload 11, 2) := by decide +kernel
theorem dX9_merge_252 : decode cX9_merge 252 = .ok (.laload, 1) := by decide +kernel
theorem dX9_merge_253 : decode cX9_merge 253 = .ok (.lastore, 1) := by decide +kernel
theorem dX9_merge_254 : decode cX9_merge 254 = .ok (.aload_n 0, 1) := by decide +kernel
theorem dX9_merge_255 : decode cX9_merge 255 = .ok (.getfield 26, 3) := by decide +kernel
theorem dX9_merge_258 : decode cX9_merge 258 = .ok (.iload 10, 2) := by decide +kernel
theorem dX9_merge_260 : decode cX9_merge 260 = .ok (.iload 12, 2) := by decide +kernel
theorem dX9_merge_262 : decode cX9_merge 262 = .ok (.ifCond .eq 8, 3) := by decide +kernel
theorem dX9_merge_265 : decode cX9_merge 265 = .ok (.lload 6, 2) := by decide +kernel
theorem dX9_merge_267 : decode cX9_merge 267 = .ok (.goto 10, 3) := by decide +kernel
theorem dX9_merge_270 : decode cX9_merge 270 = .ok (.aload_n 0, 1) := by decide +kernel
theorem dX9_merge_271 : decode cX9_merge 271 = .ok (.getfield 26, 3) := by decide +kernel
theorem dX9_merge_274 : decode cX9_merge 274 = .ok (.iload 11, 2) := by decide +kernel
theorem dX9_merge_276 : decode cX9_merge 276 = .ok (.laload, 1) := by decide +kernel
theorem dX9_merge_277 : decode cX9_merge 277 = .ok (.lastore, 1) := by decide +kernel
theorem dX9_merge_278 : decode cX9_merge 278 = .ok (.aload_n 0, 1) := by decide +kernel
theorem dX9_merge_279 : decode cX9_merge 279 = .ok (.getfield 29, 3) := by decide +kernel
theorem dX9_merge_282 : decode cX9_merge 282 = .ok (.iload 10, 2) := by decide +kernel
theorem dX9_merge_284 : decode cX9_merge 284 = .ok (.iload 12, 2) := by decide +kernel
theorem dX9_merge_286 : decode cX9_merge 286 = .ok (.ifCond .eq 10, 3) := by decide +kernel
theorem dX9_merge_289 : decode cX9_merge 289 = .ok (.iload 9, 2) := by decide +kernel
theorem dX9_merge_291 : decode cX9_merge 291 = .ok (.iconst 1, 1) := by decide +kernel
theorem dX9_merge_292 : decode cX9_merge 292 = .ok (.iadd, 1) := by decide +kernel
theorem dX9_merge_293 : decode cX9_merge 293 = .ok (.goto 10, 3) := by decide +kernel
theorem dX9_merge_296 : decode cX9_merge 296 = .ok (.aload_n 0, 1) := by decide +kernel
theorem dX9_merge_297 : decode cX9_merge 297 = .ok (.getfield 29, 3) := by decide +kernel
theorem dX9_merge_300 : decode cX9_merge 300 = .ok (.iload 11, 2) := by decide +kernel
theorem dX9_merge_302 : decode cX9_merge 302 = .ok (.iaload, 1) := by decide +kernel
theorem dX9_merge_303 : decode cX9_merge 303 = .ok (.iastore, 1) := by decide +kernel
theorem dX9_merge_304 : decode cX9_merge 304 = .ok (.iinc 10 1, 3) := by decide +kernel
theorem dX9_merge_307 : decode cX9_merge 307 = .ok (.iinc 11 1, 3) := by decide +kernel
theorem dX9_merge_310 : decode cX9_merge 310 = .ok (.goto (-131), 3) := by decide +kernel
theorem dX9_merge_313 : decode cX9_merge 313 = .ok (.aload_n 0, 1) := by decide +kernel
theorem dX9_merge_314 : decode cX9_merge 314 = .ok (.iload 10, 2) := by decide +kernel
theorem dX9_merge_316 : decode cX9_merge 316 = .ok (.putfield 125, 3) := by decide +kernel
theorem dX9_merge_319 : decode cX9_merge 319 = .ok (.aload_n 0, 1) := by decide +kernel
theorem dX9_merge_320 : decode cX9_merge 320 = .ok (.aload_n 0, 1) := by decide +kernel
theorem dX9_merge_321 : decode cX9_merge 321 = .ok (.getfield 118, 3) := by decide +kernel
theorem dX9_merge_324 : decode cX9_merge 324 = .ok (.lload 4, 2) := by decide +kernel
theorem dX9_merge_326 : decode cX9_merge 326 = .ok (.ldc2_w 140, 3) := by decide +kernel
theorem dX9_merge_329 : decode cX9_merge 329 = .ok (.lxor, 1) := by decide +kernel
theorem dX9_merge_330 : decode cX9_merge 330 = .ok (.land, 1) := by decide +kernel
theorem dX9_merge_331 : decode cX9_merge 331 = .ok (.lload 6, 2) := by decide +kernel
theorem dX9_merge_333 : decode cX9_merge 333 = .ok (.lor, 1) := by decide +kernel
theorem dX9_merge_334 : decode cX9_merge 334 = .ok (.putfield 118, 3) := by decide +kernel
theorem dX9_merge_337 : decode cX9_merge 337 = .ok (.aload_n 0, 1) := by decide +kernel
theorem dX9_merge_338 : decode cX9_merge 338 = .ok (.dup, 1) := by decide +kernel
theorem dX9_merge_339 : decode cX9_merge 339 = .ok (.getfield 145, 3) := by decide +kernel
theorem dX9_merge_342 : decode cX9_merge 342 = .ok (.iconst 1, 1) := by decide +kernel
theorem dX9_merge_343 : decode cX9_merge 343 = .ok (.iadd, 1) := by decide +kernel
theorem dX9_merge_344 : decode cX9_merge 344 = .ok (.putfield 145, 3) := by decide +kernel
theorem dX9_merge_347 : decode cX9_merge 347 = .ok (.iconst 1, 1) := by decide +kernel
theorem dX9_merge_348 : decode cX9_merge 348 = .ok (.ireturn, 1) := by decide +kernel
theorem dX9_flush_0 : decode cX9_flush 0 = .ok (.aload_n 0, 1) := by decide +kernel
theorem dX9_flush_1 : decode cX9_flush 1 = .ok (.iconst 0, 1) := by decide +kernel
theorem dX9_flush_2 : decode cX9_flush 2 = .ok (.putfield 57, 3) := by decide +kernel
theorem dX9_flush_5 : decode cX9_flush 5 = .ok (.aload_n 0, 1) := by decide +kernel
theorem dX9_flush_6 : decode cX9_flush 6 = .ok (.invokevirtual 81, 3) := by decide +kernel
theorem dX9_flush_9 : decode cX9_flush 9 = .ok (.ifCond .ne 9, 3) := by decide +kernel
theorem dX9_flush_12 : decode cX9_flush 12 = .ok (.aload_n 0, 1) := by decide +kernel
theorem dX9_flush_13 : decode cX9_flush 13 = .ok (.iconst 1, 1) := by decide +kernel
theorem dX9_flush_14 : decode cX9_flush 14 = .ok (.invokevirtual 64, 3) := by decide +kernel
theorem dX9_flush_17 : decode cX9_flush 17 = .ok (.ireturn, 1) := by decide +kernel
theorem dX9_flush_18 : decode cX9_flush 18 = .ok (.aload_n 0, 1) := by decide +kernel
theorem dX9_flush_19 : decode cX9_flush 19 = .ok (.getfield 125, 3) := by decide +kernel
theorem dX9_flush_22 : decode cX9_flush 22 = .ok (.ireturn, 1) := by decide +kernel
theorem dX9_finish_0 : decode cX9_finish 0 = .ok (.aload_n 0, 1) := by decide +kernel
theorem dX9_finish_1 : decode cX9_finish 1 = .ok (.iconst 0, 1) := by decide +kernel
theorem dX9_finish_2 : decode cX9_finish 2 = .ok (.putfield 57, 3) := by decide +kernel
theorem dX9_finish_5 : decode cX9_finish 5 = .ok (.aload_n 0, 1) := by decide +kernel
theorem dX9_finish_6 : decode cX9_finish 6 = .ok (.invokevirtual 81, 3) := by decide +kernel
theorem dX9_finish_9 : decode cX9_finish 9 = .ok (.ifCond .ne 9, 3) := by decide +kernel
theorem dX9_finish_12 : decode cX9_finish 12 = .ok (.aload_n 0, 1) := by decide +kernel
theorem dX9_finish_13 : decode cX9_finish 13 = .ok (.iconst 1, 1) := by decide +kernel
theorem dX9_finish_14 : decode cX9_finish 14 = .ok (.invokevirtual 64, 3) := by decide +kernel
theorem dX9_finish_17 : decode cX9_finish 17 = .ok (.ireturn, 1) := by decide +kernel
theorem dX9_finish_18 : decode cX9_finish 18 = .ok (.aload_n 0, 1) := by decide +kernel
theorem dX9_finish_19 : decode cX9_finish 19 = .ok (.getfield 125, 3) := by decide +kernel
theorem dX9_finish_22 : decode cX9_finish 22 = .ok (.ifCond .le 17, 3) := by decide +kernel
theorem dX9_finish_25 : decode cX9_finish 25 = .ok (.aload_n 0, 1) := by decide +kernel
theorem dX9_finish_26 : decode cX9_finish 26 = .ok (.iconst (-1), 1) := by decide +kernel
theorem dX9_finish_27 : decode cX9_finish 27 = .ok (.invokevirtual 134, 3) := by decide +kernel
theorem dX9_finish_30 : decode cX9_finish 30 = .ok (.ifCond .ne 9, 3) := by decide +kernel
theorem dX9_finish_33 : decode cX9_finish 33 = .ok (.aload_n 0, 1) := by decide +kernel
theorem dX9_finish_34 : decode cX9_finish 34 = .ok (.iconst 1, 1) := by decide +kernel
theorem dX9_finish_35 : decode cX9_finish 35 = .ok (.invokevirtual 64, 3) := by decide +kernel
theorem dX9_finish_38 : decode cX9_finish 38 = .ok (.ireturn, 1) := by decide +kernel
theorem dX9_finish_39 : decode cX9_finish 39 = .ok (.aload_n 0, 1) := by decide +kernel
theorem dX9_finish_40 : decode cX9_finish 40 = .ok (.getfield 125, 3) := by decide +kernel
theorem dX9_finish_43 : decode cX9_finish 43 = .ok (.ireturn, 1) := by decide +kernel
theorem dX9_adjacent_0 : decode cX9_adjacent 0 = .ok (.iconst 0, 1) := by decide +kernel
theorem dX9_adjacent_1 : decode cX9_adjacent 1 = .ok (.istore 4, 2) := by decide +kernel
theorem dX9_adjacent_3 : decode cX9_adjacent 3 = .ok (.iload 4, 2) := by decide +kernel
theorem dX9_adjacent_5 : decode cX9_adjacent 5 = .ok (.iconst 1, 1) := by decide +kernel
theorem dX9_adjacent_6 : decode cX9_adjacent 6 = .ok (.iadd, 1) := by decide +kernel
theorem dX9_adjacent_7 : decode cX9_adjacent 7 = .ok (.aload_n 0, 1) := by decide +kernel
theorem dX9_adjacent_8 : decode cX9_adjacent 8 = .ok (.getfield 16, 3) := by decide +kernel
theorem dX9_adjacent_11 : decode cX9_adjacent 11 = .ok (.iload_n 1, 1) := by decide +kernel
theorem dX9_adjacent_12 : decode cX9_adjacent 12 = .ok (.iaload, 1) := by decide +kernel
theorem dX9_adjacent_13 : decode cX9_adjacent 13 = .ok (.if_icmp .ge 45, 3) := by decide +kernel
theorem dX9_adjacent_16 : decode cX9_adjacent 16 = .ok (.aload_n 0, 1) := by decide +kernel
theorem dX9_adjacent_17 : decode cX9_adjacent 17 = .ok (.getfield 13, 3) := by decide +kernel
theorem dX9_adjacent_20 : decode cX9_adjacent 20 = .ok (.bipush 20, 2) := by decide +kernel
theorem dX9_adjacent_22 : decode cX9_adjacent 22 = .ok (.iload_n 1, 1) := by decide +kernel
theorem dX9_adjacent_23 : decode cX9_adjacent 23 = .ok (.imul, 1) := by decide +kernel
theorem dX9_adjacent_24 : decode cX9_adjacent 24 = .ok (.iload 4, 2) := by decide +kernel
theorem dX9_adjacent_26 : decode cX9_adjacent 26 = .ok (.iadd, 1) := by decide +kernel
theorem dX9_adjacent_27 : decode cX9_adjacent 27 = .ok (.iaload, 1) := by decide +kernel
theorem dX9_adjacent_28 : decode cX9_adjacent 28 = .ok (.iload_n 2, 1) := by decide +kernel
theorem dX9_adjacent_29 : decode cX9_adjacent 29 = .ok (.if_icmp .ne 23, 3) := by decide +kernel
theorem dX9_adjacent_32 : decode cX9_adjacent 32 = .ok (.aload_n 0, 1) := by decide +kernel
theorem dX9_adjacent_33 : decode cX9_adjacent 33 = .ok (.getfield 13, 3) := by decide +kernel
theorem dX9_adjacent_36 : decode cX9_adjacent 36 = .ok (.bipush 20, 2) := by decide +kernel
theorem dX9_adjacent_38 : decode cX9_adjacent 38 = .ok (.iload_n 1, 1) := by decide +kernel
theorem dX9_adjacent_39 : decode cX9_adjacent 39 = .ok (.imul, 1) := by decide +kernel
theorem dX9_adjacent_40 : decode cX9_adjacent 40 = .ok (.iload 4, 2) := by decide +kernel
theorem dX9_adjacent_42 : decode cX9_adjacent 42 = .ok (.iadd, 1) := by decide +kernel
theorem dX9_adjacent_43 : decode cX9_adjacent 43 = .ok (.iconst 1, 1) := by decide +kernel
theorem dX9_adjacent_44 : decode cX9_adjacent 44 = .ok (.iadd, 1) := by decide +kernel
theorem dX9_adjacent_45 : decode cX9_adjacent 45 = .ok (.iaload, 1) := by decide +kernel
theorem dX9_adjacent_46 : decode cX9_adjacent 46 = .ok (.iload_n 3, 1) := by decide +kernel
theorem dX9_adjacent_47 : decode cX9_adjacent 47 = .ok (.if_icmp .ne 5, 3) := by decide +kernel
theorem dX9_adjacent_50 : decode cX9_adjacent 50 = .ok (.iconst 1, 1) := by decide +kernel
theorem dX9_adjacent_51 : decode cX9_adjacent 51 = .ok (.ireturn, 1) := by decide +kernel
theorem dX9_adjacent_52 : decode cX9_adjacent 52 = .ok (.iinc 4 1, 3) := by decide +kernel
theorem dX9_adjacent_55 : decode cX9_adjacent 55 = .ok (.goto (-52), 3) := by decide +kernel
theorem dX9_adjacent_58 : decode cX9_adjacent 58 = .ok (.iconst 0, 1) := by decide +kernel
theorem dX9_adjacent_59 : decode cX9_adjacent 59 = .ok (.ireturn, 1) := by decide +kernel
theorem dX9_fits_0 : decode cX9_fits 0 = .ok (.aload_n 0, 1) := by decide +kernel
theorem dX9_fits_1 : decode cX9_fits 1 = .ok (.iload_n 1, 1) := by decide +kernel
theorem dX9_fits_2 : decode cX9_fits 2 = .ok (.iload_n 2, 1) := by decide +kernel
theorem dX9_fits_3 : decode cX9_fits 3 = .ok (.invokevirtual 100, 3) := by decide +kernel
theorem dX9_fits_6 : decode cX9_fits 6 = .ok (.ifCond .le 7, 3) := by decide +kernel
theorem dX9_fits_9 : decode cX9_fits 9 = .ok (.iconst 1, 1) := by decide +kernel
theorem dX9_fits_10 : decode cX9_fits 10 = .ok (.goto 4, 3) := by decide +kernel
theorem dX9_fits_13 : decode cX9_fits 13 = .ok (.iconst 0, 1) := by decide +kernel
theorem dX9_fits_14 : decode cX9_fits 14 = .ok (.istore 5, 2) := by decide +kernel
theorem dX9_fits_16 : decode cX9_fits 16 = .ok (.aload_n 0, 1) := by decide +kernel
theorem dX9_fits_17 : decode cX9_fits 17 = .ok (.iload_n 1, 1) := by decide +kernel
theorem dX9_fits_18 : decode cX9_fits 18 = .ok (.iload_n 3, 1) := by decide +kernel
theorem dX9_fits_19 : decode cX9_fits 19 = .ok (.invokevirtual 100, 3) := by decide +kernel
theorem dX9_fits_22 : decode cX9_fits 22 = .ok (.ifCond .le 7, 3) := by decide +kernel
theorem dX9_fits_25 : decode cX9_fits 25 = .ok (.iconst 1, 1) := by decide +kernel
theorem dX9_fits_26 : decode cX9_fits 26 = .ok (.goto 4, 3) := by decide +kernel
theorem dX9_fits_29 : decode cX9_fits 29 = .ok (.iconst 0, 1) := by decide +kernel
theorem dX9_fits_30 : decode cX9_fits 30 = .ok (.istore 6, 2) := by decide +kernel
theorem dX9_fits_32 : decode cX9_fits 32 = .ok (.iload 4, 2) := by decide +kernel
theorem dX9_fits_34 : decode cX9_fits 34 = .ok (.ifCond .ne 19, 3) := by decide +kernel
theorem dX9_fits_37 : decode cX9_fits 37 = .ok (.iload 5, 2) := by decide +kernel
theorem dX9_fits_39 : decode cX9_fits 39 = .ok (.ifCond .eq 12, 3) := by decide +kernel
theorem dX9_fits_42 : decode cX9_fits 42 = .ok (.iload 6, 2) := by decide +kernel
theorem dX9_fits_44 : decode cX9_fits 44 = .ok (.ifCond .eq 7, 3) := by decide +kernel
theorem dX9_fits_47 : decode cX9_fits 47 = .ok (.iconst 1, 1) := by decide +kernel
theorem dX9_fits_48 : decode cX9_fits 48 = .ok (.goto 4, 3) := by decide +kernel
theorem dX9_fits_51 : decode cX9_fits 51 = .ok (.iconst 0, 1) := by decide +kernel
theorem dX9_fits_52 : decode cX9_fits 52 = .ok (.ireturn, 1) := by decide +kernel
theorem dX9_fits_53 : decode cX9_fits 53 = .ok (.iload 4, 2) := by decide +kernel
theorem dX9_fits_55 : decode cX9_fits 55 = .ok (.iconst 1, 1) := by decide +kernel
theorem dX9_fits_56 : decode cX9_fits 56 = .ok (.if_icmp .ne 19, 3) := by decide +kernel
theorem dX9_fits_59 : decode cX9_fits 59 = .ok (.iload 5, 2) := by decide +kernel
theorem dX9_fits_61 : decode cX9_fits 61 = .ok (.ifCond .ne 8, 3) := by decide +kernel
theorem dX9_fits_64 : decode cX9_fits 64 = .ok (.iload 6, 2) := by decide +kernel
theorem dX9_fits_66 : decode cX9_fits 66 = .ok (.ifCond .eq 7, 3) := by decide +kernel
theorem dX9_fits_69 : decode cX9_fits 69 = .ok (.iconst 1, 1) := by decide +kernel
theorem dX9_fits_70 : decode cX9_fits 70 = .ok (.goto 4, 3) := by decide +kernel
theorem dX9_fits_73 : decode cX9_fits 73 = .ok (.iconst 0, 1) := by decide +kernel
theorem dX9_fits_74 : decode cX9_fits 74 = .ok (.ireturn, 1) := by decide +kernel
theorem dX9_fits_75 : decode cX9_fits 75 = .ok (.iload 4, 2) := by decide +kernel
theorem dX9_fits_77 : decode cX9_fits 77 = .ok (.iconst 2, 1) := by decide +kernel
theorem dX9_fits_78 : decode cX9_fits 78 = .ok (.if_icmp .ne 11, 3) := by decide +kernel
theorem dX9_fits_81 : decode cX9_fits 81 = .ok (.aload_n 0, 1) := by decide +kernel
theorem dX9_fits_82 : decode cX9_fits 82 = .ok (.iload_n 1, 1) := by decide +kernel
theorem dX9_fits_83 : decode cX9_fits 83 = .ok (.iload_n 2, 1) := by decide +kernel
theorem dX9_fits_84 : decode cX9_fits 84 = .ok (.iload_n 3, 1) := by decide +kernel
theorem dX9_fits_85 : decode cX9_fits 85 = .ok (.invokevirtual 148, 3) := by decide +kernel
theorem dX9_fits_88 : decode cX9_fits 88 = .ok (.ireturn, 1) := by decide +kernel
theorem dX9_fits_89 : decode cX9_fits 89 = .ok (.iload 5, 2) := by decide +kernel
theorem dX9_fits_91 : decode cX9_fits 91 = .ok (.ifCond .eq 12, 3) := by decide +kernel
theorem dX9_fits_94 : decode cX9_fits 94 = .ok (.iload 6, 2) := by decide +kernel
theorem dX9_fits_96 : decode cX9_fits 96 = .ok (.ifCond .ne 7, 3) := by decide +kernel
theorem dX9_fits_99 : decode cX9_fits 99 = .ok (.iconst 1, 1) := by decide +kernel
theorem dX9_fits_100 : decode cX9_fits 100 = .ok (.goto 4, 3) := by decide +kernel
theorem dX9_fits_103 : decode cX9_fits 103 = .ok (.iconst 0, 1) := by decide +kernel
theorem dX9_fits_104 : decode cX9_fits 104 = .ok (.ireturn, 1) := by decide +kernel
theorem dX9_find_0 : decode cX9_find 0 = .ok (.aload_n 0, 1) := by decide +kernel
theorem dX9_find_1 : decode cX9_find 1 = .ok (.iconst 0, 1) := by decide +kernel
theorem dX9_find_2 : decode cX9_find 2 = .ok (.putfield 57, 3) := by decide +kernel
theorem dX9_find_5 : decode cX9_find 5 = .ok (.iload_n 1, 1) := by decide +kernel
theorem dX9_find_6 : decode cX9_find 6 = .ok (.invokestatic 60, 3) := by decide +kernel
theorem dX9_find_9 : decode cX9_find 9 = .ok (.ifCond .ne 19, 3) := by decide +kernel
theorem dX9_find_12 : decode cX9_find 12 = .ok (.iload_n 2, 1) := by decide +kernel
theorem dX9_find_13 : decode cX9_find 13 = .ok (.invokestatic 60, 3) := by decide +kernel
theorem dX9_find_16 : decode cX9_find 16 = .ok (.ifCond .ne 12, 3) := by decide +kernel
theorem dX9_find_19 : decode cX9_find 19 = .ok (.iload_n 3, 1) := by decide +kernel
theorem dX9_find_20 : decode cX9_find 20 = .ok (.ifCond .lt 8, 3) := by decide +kernel
theorem dX9_find_23 : decode cX9_find 23 = .ok (.iload_n 3, 1) := by decide +kernel
theorem dX9_find_24 : decode cX9_find 24 = .ok (.iconst 3, 1) := by decide +kernel
theorem dX9_find_25 : decode cX9_find 25 = .ok (.if_icmp .le 9, 3) := by decide +kernel
theorem dX9_find_28 : decode cX9_find 28 = .ok (.aload_n 0, 1) := by decide +kernel
theorem dX9_find_29 : decode cX9_find 29 = .ok (.iconst 1, 1) := by decide +kernel
theorem dX9_find_30 : decode cX9_find 30 = .ok (.invokevirtual 64, 3) := by decide +kernel
theorem dX9_find_33 : decode cX9_find 33 = .ok (.ireturn, 1) := by decide +kernel
theorem dX9_find_34 : decode cX9_find 34 = .ok (.aload_n 0, 1) := by decide +kernel
theorem dX9_find_35 : decode cX9_find 35 = .ok (.dup, 1) := by decide +kernel
theorem dX9_find_36 : decode cX9_find 36 = .ok (.getfield 137, 3) := by decide +kernel
theorem dX9_find_39 : decode cX9_find 39 = .ok (.aload_n 0, 1) := by decide +kernel
theorem dX9_find_40 : decode cX9_find 40 = .ok (.getfield 118, 3) := by decide +kernel
theorem dX9_find_43 : decode cX9_find 43 = .ok (.invokestatic 93, 3) := by decide +kernel
theorem dX9_find_46 : decode cX9_find 46 = .ok (.iadd, 1) := by decide +kernel
theorem dX9_find_47 : decode cX9_find 47 = .ok (.putfield 137, 3) := by decide +kernel
theorem dX9_find_50 : decode cX9_find 50 = .ok (.aload_n 0, 1) := by decide +kernel
theorem dX9_find_51 : decode cX9_find 51 = .ok (.iconst 0, 1) := by decide +kernel
theorem dX9_find_52 : decode cX9_find 52 = .ok (.putfield 152, 3) := by decide +kernel
theorem dX9_find_55 : decode cX9_find 55 = .ok (.aload_n 0, 1) := by decide +kernel
theorem dX9_find_56 : decode cX9_find 56 = .ok (.iconst 0, 1) := by decide +kernel
theorem dX9_find_57 : decode cX9_find 57 = .ok (.putfield 155, 3) := by decide +kernel
theorem dX9_find_60 : decode cX9_find 60 = .ok (.iconst 0, 1) := by decide +kernel
theorem dX9_find_61 : decode cX9_find 61 = .ok (.istore 4, 2) := by decide +kernel
theorem dX9_find_63 : decode cX9_find 63 = .ok (.iload 4, 2) := by decide +kernel
theorem dX9_find_65 : decode cX9_find 65 = .ok (.aload_n 0, 1) := by decide +kernel
theorem dX9_find_66 : decode cX9_find 66 = .ok (.getfield 74, 3) := by decide +kernel
theorem dX9_find_69 : decode cX9_find 69 = .ok (.if_icmp .ge 57, 3) := by decide +kernel
theorem dX9_find_72 : decode cX9_find 72 = .ok (.aload_n 0, 1) := by decide +kernel
theorem dX9_find_73 : decode cX9_find 73 = .ok (.getfield 85, 3) := by decide +kernel
theorem dX9_find_76 : decode cX9_find 76 = .ok (.iload 4, 2) := by decide +kernel
