theorem dX9_find_78 : decode cX9_find 78 = .ok (.invokestatic 89, 3) := by decide +kernel
theorem dX9_find_81 : decode cX9_find 81 = .ok (.ifCond .ne 39, 3) := by decide +kernel
theorem dX9_find_84 : decode cX9_find 84 = .ok (.aload_n 0, 1) := by decide +kernel
theorem dX9_find_85 : decode cX9_find 85 = .ok (.iload 4, 2) := by decide +kernel
theorem dX9_find_87 : decode cX9_find 87 = .ok (.iload_n 1, 1) := by decide +kernel
theorem dX9_find_88 : decode cX9_find 88 = .ok (.iload_n 2, 1) := by decide +kernel
theorem dX9_find_89 : decode cX9_find 89 = .ok (.iload_n 3, 1) := by decide +kernel
theorem dX9_find_90 : decode cX9_find 90 = .ok (.invokevirtual 159, 3) := by decide +kernel
theorem dX9_find_93 : decode cX9_find 93 = .ok (.ifCond .ne 6, 3) := by decide +kernel
theorem dX9_find_96 : decode cX9_find 96 = .ok (.goto 24, 3) := by decide +kernel
theorem dX9_find_99 : decode cX9_find 99 = .ok (.aload_n 0, 1) := by decide +kernel
theorem dX9_find_100 : decode cX9_find 100 = .ok (.getfield 32, 3) := by decide +kernel
theorem dX9_find_103 : decode cX9_find 103 = .ok (.aload_n 0, 1) := by decide +kernel
theorem dX9_find_104 : decode cX9_find 104 = .ok (.getfield 152, 3) := by decide +kernel
theorem dX9_find_107 : decode cX9_find 107 = .ok (.iload 4, 2) := by decide +kernel
theorem dX9_find_109 : decode cX9_find 109 = .ok (.iastore, 1) := by decide +kernel
theorem dX9_find_110 : decode cX9_find 110 = .ok (.aload_n 0, 1) := by decide +kernel
theorem dX9_find_111 : decode cX9_find 111 = .ok (.dup, 1) := by decide +kernel
theorem dX9_find_112 : decode cX9_find 112 = .ok (.getfield 152, 3) := by decide +kernel
theorem dX9_find_115 : decode cX9_find 115 = .ok (.iconst 1, 1) := by decide +kernel
theorem dX9_find_116 : decode cX9_find 116 = .ok (.iadd, 1) := by decide +kernel
theorem dX9_find_117 : decode cX9_find 117 = .ok (.putfield 152, 3) := by decide +kernel
theorem dX9_find_120 : decode cX9_find 120 = .ok (.iinc 4 1, 3) := by decide +kernel
theorem dX9_find_123 : decode cX9_find 123 = .ok (.goto (-60), 3) := by decide +kernel
theorem dX9_find_126 : decode cX9_find 126 = .ok (.aload_n 0, 1) := by decide +kernel
theorem dX9_find_127 : decode cX9_find 127 = .ok (.getfield 152, 3) := by decide +kernel
theorem dX9_find_130 : decode cX9_find 130 = .ok (.ireturn, 1) := by decide +kernel
theorem dX9_part_0 : decode cX9_part 0 = .ok (.aload_n 0, 1) := by decide +kernel
theorem dX9_part_1 : decode cX9_part 1 = .ok (.iload_n 1, 1) := by decide +kernel
theorem dX9_part_2 : decode cX9_part 2 = .ok (.iload_n 2, 1) := by decide +kernel
theorem dX9_part_3 : decode cX9_part 3 = .ok (.invokevirtual 100, 3) := by decide +kernel
theorem dX9_part_6 : decode cX9_part 6 = .ok (.ifCond .ne 5, 3) := by decide +kernel
theorem dX9_part_9 : decode cX9_part 9 = .ok (.dconst 0, 1) := by decide +kernel
theorem dX9_part_10 : decode cX9_part 10 = .ok (.dreturn, 1) := by decide +kernel
theorem dX9_part_11 : decode cX9_part 11 = .ok (.iconst 0, 1) := by decide +kernel
theorem dX9_part_12 : decode cX9_part 12 = .ok (.istore_n 3, 1) := by decide +kernel
theorem dX9_part_13 : decode cX9_part 13 = .ok (.iconst 0, 1) := by decide +kernel
theorem dX9_part_14 : decode cX9_part 14 = .ok (.istore 4, 2) := by decide +kernel
theorem dX9_part_16 : decode cX9_part 16 = .ok (.iload 4, 2) := by decide +kernel
theorem dX9_part_18 : decode cX9_part 18 = .ok (.aload_n 0, 1) := by decide +kernel
theorem dX9_part_19 : decode cX9_part 19 = .ok (.getfield 74, 3) := by decide +kernel
theorem dX9_part_22 : decode cX9_part 22 = .ok (.if_icmp .ge 34, 3) := by decide +kernel
theorem dX9_part_25 : decode cX9_part 25 = .ok (.aload_n 0, 1) := by decide +kernel
theorem dX9_part_26 : decode cX9_part 26 = .ok (.getfield 85, 3) := by decide +kernel
theorem dX9_part_29 : decode cX9_part 29 = .ok (.iload 4, 2) := by decide +kernel
theorem dX9_part_31 : decode cX9_part 31 = .ok (.invokestatic 89, 3) := by decide +kernel
theorem dX9_part_34 : decode cX9_part 34 = .ok (.ifCond .ne 16, 3) := by decide +kernel
theorem dX9_part_37 : decode cX9_part 37 = .ok (.aload_n 0, 1) := by decide +kernel
theorem dX9_part_38 : decode cX9_part 38 = .ok (.iload 4, 2) := by decide +kernel
theorem dX9_part_40 : decode cX9_part 40 = .ok (.iload_n 2, 1) := by decide +kernel
theorem dX9_part_41 : decode cX9_part 41 = .ok (.invokevirtual 100, 3) := by decide +kernel
theorem dX9_part_44 : decode cX9_part 44 = .ok (.ifCond .le 6, 3) := by decide +kernel
theorem dX9_part_47 : decode cX9_part 47 = .ok (.iinc 3 1, 3) := by decide +kernel
theorem dX9_part_50 : decode cX9_part 50 = .ok (.iinc 4 1, 3) := by decide +kernel
theorem dX9_part_53 : decode cX9_part 53 = .ok (.goto (-37), 3) := by decide +kernel
theorem dX9_part_56 : decode cX9_part 56 = .ok (.aload_n 0, 1) := by decide +kernel
theorem dX9_part_57 : decode cX9_part 57 = .ok (.iload_n 1, 1) := by decide +kernel
theorem dX9_part_58 : decode cX9_part 58 = .ok (.iload_n 2, 1) := by decide +kernel
theorem dX9_part_59 : decode cX9_part 59 = .ok (.invokevirtual 100, 3) := by decide +kernel
theorem dX9_part_62 : decode cX9_part 62 = .ok (.i2d, 1) := by decide +kernel
theorem dX9_part_63 : decode cX9_part 63 = .ok (.iload_n 3, 1) := by decide +kernel
theorem dX9_part_64 : decode cX9_part 64 = .ok (.i2d, 1) := by decide +kernel
theorem dX9_part_65 : decode cX9_part 65 = .ok (.ddiv, 1) := by decide +kernel
theorem dX9_part_66 : decode cX9_part 66 = .ok (.dreturn, 1) := by decide +kernel
theorem dX9_rank_0 : decode cX9_rank 0 = .ok (.aload_n 0, 1) := by decide +kernel
theorem dX9_rank_1 : decode cX9_rank 1 = .ok (.iconst 0, 1) := by decide +kernel
theorem dX9_rank_2 : decode cX9_rank 2 = .ok (.putfield 57, 3) := by decide +kernel
theorem dX9_rank_5 : decode cX9_rank 5 = .ok (.iload_n 1, 1) := by decide +kernel
theorem dX9_rank_6 : decode cX9_rank 6 = .ok (.invokestatic 60, 3) := by decide +kernel
theorem dX9_rank_9 : decode cX9_rank 9 = .ok (.ifCond .ne 10, 3) := by decide +kernel
theorem dX9_rank_12 : decode cX9_rank 12 = .ok (.iload_n 2, 1) := by decide +kernel
theorem dX9_rank_13 : decode cX9_rank 13 = .ok (.invokestatic 60, 3) := by decide +kernel
theorem dX9_rank_16 : decode cX9_rank 16 = .ok (.ifCond .eq 9, 3) := by decide +kernel
theorem dX9_rank_19 : decode cX9_rank 19 = .ok (.aload_n 0, 1) := by decide +kernel
theorem dX9_rank_20 : decode cX9_rank 20 = .ok (.iconst 1, 1) := by decide +kernel
theorem dX9_rank_21 : decode cX9_rank 21 = .ok (.invokevirtual 64, 3) := by decide +kernel
theorem dX9_rank_24 : decode cX9_rank 24 = .ok (.ireturn, 1) := by decide +kernel
theorem dX9_rank_25 : decode cX9_rank 25 = .ok (.aload_n 0, 1) := by decide +kernel
theorem dX9_rank_26 : decode cX9_rank 26 = .ok (.dup, 1) := by decide +kernel
theorem dX9_rank_27 : decode cX9_rank 27 = .ok (.getfield 137, 3) := by decide +kernel
theorem dX9_rank_30 : decode cX9_rank 30 = .ok (.aload_n 0, 1) := by decide +kernel
theorem dX9_rank_31 : decode cX9_rank 31 = .ok (.getfield 118, 3) := by decide +kernel
theorem dX9_rank_34 : decode cX9_rank 34 = .ok (.invokestatic 93, 3) := by decide +kernel
theorem dX9_rank_37 : decode cX9_rank 37 = .ok (.iadd, 1) := by decide +kernel
theorem dX9_rank_38 : decode cX9_rank 38 = .ok (.putfield 137, 3) := by decide +kernel
theorem dX9_rank_41 : decode cX9_rank 41 = .ok (.aload_n 0, 1) := by decide +kernel
theorem dX9_rank_42 : decode cX9_rank 42 = .ok (.iconst 0, 1) := by decide +kernel
theorem dX9_rank_43 : decode cX9_rank 43 = .ok (.putfield 152, 3) := by decide +kernel
theorem dX9_rank_46 : decode cX9_rank 46 = .ok (.aload_n 0, 1) := by decide +kernel
theorem dX9_rank_47 : decode cX9_rank 47 = .ok (.iconst 1, 1) := by decide +kernel
theorem dX9_rank_48 : decode cX9_rank 48 = .ok (.putfield 155, 3) := by decide +kernel
theorem dX9_rank_51 : decode cX9_rank 51 = .ok (.iconst 0, 1) := by decide +kernel
theorem dX9_rank_52 : decode cX9_rank 52 = .ok (.istore_n 3, 1) := by decide +kernel
theorem dX9_rank_53 : decode cX9_rank 53 = .ok (.iload_n 3, 1) := by decide +kernel
theorem dX9_rank_54 : decode cX9_rank 54 = .ok (.aload_n 0, 1) := by decide +kernel
theorem dX9_rank_55 : decode cX9_rank 55 = .ok (.getfield 74, 3) := by decide +kernel
theorem dX9_rank_58 : decode cX9_rank 58 = .ok (.if_icmp .ge 140, 3) := by decide +kernel
theorem dX9_rank_61 : decode cX9_rank 61 = .ok (.aload_n 0, 1) := by decide +kernel
theorem dX9_rank_62 : decode cX9_rank 62 = .ok (.getfield 85, 3) := by decide +kernel
theorem dX9_rank_65 : decode cX9_rank 65 = .ok (.iload_n 3, 1) := by decide +kernel
theorem dX9_rank_66 : decode cX9_rank 66 = .ok (.invokestatic 89, 3) := by decide +kernel
theorem dX9_rank_69 : decode cX9_rank 69 = .ok (.ifCond .ne 123, 3) := by decide +kernel
theorem dX9_rank_72 : decode cX9_rank 72 = .ok (.aload_n 0, 1) := by decide +kernel
theorem dX9_rank_73 : decode cX9_rank 73 = .ok (.iload_n 3, 1) := by decide +kernel
theorem dX9_rank_74 : decode cX9_rank 74 = .ok (.iload_n 1, 1) := by decide +kernel
theorem dX9_rank_75 : decode cX9_rank 75 = .ok (.iload_n 2, 1) := by decide +kernel
theorem dX9_rank_76 : decode cX9_rank 76 = .ok (.iconst 1, 1) := by decide +kernel
theorem dX9_rank_77 : decode cX9_rank 77 = .ok (.invokevirtual 159, 3) := by decide +kernel
theorem dX9_rank_80 : decode cX9_rank 80 = .ok (.ifCond .ne 6, 3) := by decide +kernel
theorem dX9_rank_83 : decode cX9_rank 83 = .ok (.goto 109, 3) := by decide +kernel
theorem dX9_rank_86 : decode cX9_rank 86 = .ok (.aload_n 0, 1) := by decide +kernel
theorem dX9_rank_87 : decode cX9_rank 87 = .ok (.iload_n 3, 1) := by decide +kernel
theorem dX9_rank_88 : decode cX9_rank 88 = .ok (.iload_n 1, 1) := by decide +kernel
theorem dX9_rank_89 : decode cX9_rank 89 = .ok (.invokevirtual 163, 3) := by decide +kernel
theorem dX9_rank_92 : decode cX9_rank 92 = .ok (.aload_n 0, 1) := by decide +kernel
theorem dX9_rank_93 : decode cX9_rank 93 = .ok (.iload_n 3, 1) := by decide +kernel
theorem dX9_rank_94 : decode cX9_rank 94 = .ok (.iload_n 2, 1) := by decide +kernel
theorem dX9_rank_95 : decode cX9_rank 95 = .ok (.invokevirtual 163, 3) := by decide +kernel
theorem dX9_rank_98 : decode cX9_rank 98 = .ok (.dadd, 1) := by decide +kernel
theorem dX9_rank_99 : decode cX9_rank 99 = .ok (.dstore 4, 2) := by decide +kernel
theorem dX9_rank_101 : decode cX9_rank 101 = .ok (.aload_n 0, 1) := by decide +kernel
theorem dX9_rank_102 : decode cX9_rank 102 = .ok (.getfield 152, 3) := by decide +kernel
theorem dX9_rank_105 : decode cX9_rank 105 = .ok (.istore 6, 2) := by decide +kernel
theorem dX9_rank_107 : decode cX9_rank 107 = .ok (.iload 6, 2) := by decide +kernel
theorem dX9_rank_109 : decode cX9_rank 109 = .ok (.ifCond .le 56, 3) := by decide +kernel
theorem dX9_rank_112 : decode cX9_rank 112 = .ok (.aload_n 0, 1) := by decide +kernel
theorem dX9_rank_113 : decode cX9_rank 113 = .ok (.getfield 35, 3) := by decide +kernel
theorem dX9_rank_116 : decode cX9_rank 116 = .ok (.iload 6, 2) := by decide +kernel
theorem dX9_rank_118 : decode cX9_rank 118 = .ok (.iconst 1, 1) := by decide +kernel
theorem dX9_rank_119 : decode cX9_rank 119 = .ok (.isub, 1) := by decide +kernel
theorem dX9_rank_120 : decode cX9_rank 120 = .ok (.daload, 1) := by decide +kernel
theorem dX9_rank_121 : decode cX9_rank 121 = .ok (.dload 4, 2) := by decide +kernel
theorem dX9_rank_123 : decode cX9_rank 123 = .ok (.dcmp .g, 1) := by decide +kernel
theorem dX9_rank_124 : decode cX9_rank 124 = .ok (.ifCond .ge 41, 3) := by decide +kernel
theorem dX9_rank_127 : decode cX9_rank 127 = .ok (.aload_n 0, 1) := by decide +kernel
theorem dX9_rank_128 : decode cX9_rank 128 = .ok (.getfield 32, 3) := by decide +kernel
theorem dX9_rank_131 : decode cX9_rank 131 = .ok (.iload 6, 2) := by decide +kernel
theorem dX9_rank_133 : decode cX9_rank 133 = .ok (.aload_n 0, 1) := by decide +kernel
theorem dX9_rank_134 : decode cX9_rank 134 = .ok (.getfield 32, 3) := by decide +kernel
theorem dX9_rank_137 : decode cX9_rank 137 = .ok (.iload 6, 2) := by decide +kernel
theorem dX9_rank_139 : decode cX9_rank 139 = .ok (.iconst 1, 1) := by decide +kernel
theorem dX9_rank_140 : decode cX9_rank 140 = .ok (.isub, 1) := by decide +kernel
theorem dX9_rank_141 : decode cX9_rank 141 = .ok (.iaload, 1) := by decide +kernel
theorem dX9_rank_142 : decode cX9_rank 142 = .ok (.iastore, 1) := by decide +kernel
theorem dX9_rank_143 : decode cX9_rank 143 = .ok (.aload_n 0, 1) := by decide +kernel
theorem dX9_rank_144 : decode cX9_rank 144 = .ok (.getfield 35, 3) := by decide +kernel
theorem dX9_rank_147 : decode cX9_rank 147 = .ok (.iload 6, 2) := by decide +kernel
theorem dX9_rank_149 : decode cX9_rank 149 = .ok (.aload_n 0, 1) := by decide +kernel
theorem dX9_rank_150 : decode cX9_rank 150 = .ok (.getfield 35, 3) := by decide +kernel
theorem dX9_rank_153 : decode cX9_rank 153 = .ok (.iload 6, 2) := by decide +kernel
theorem dX9_rank_155 : decode cX9_rank 155 = .ok (.iconst 1, 1) := by decide +kernel
theorem dX9_rank_156 : decode cX9_rank 156 = .ok (.isub, 1) := by decide +kernel
theorem dX9_rank_157 : decode cX9_rank 157 = .ok (.daload, 1) := by decide +kernel
theorem dX9_rank_158 : decode cX9_rank 158 = .ok (.dastore, 1) := by decide +kernel
theorem dX9_rank_159 : decode cX9_rank 159 = .ok (.iinc 6 (-1), 3) := by decide +kernel
theorem dX9_rank_162 : decode cX9_rank 162 = .ok (.goto (-55), 3) := by decide +kernel
theorem dX9_rank_165 : decode cX9_rank 165 = .ok (.aload_n 0, 1) := by decide +kernel
theorem dX9_rank_166 : decode cX9_rank 166 = .ok (.getfield 32, 3) := by decide +kernel
theorem dX9_rank_169 : decode cX9_rank 169 = .ok (.iload 6, 2) := by decide +kernel
theorem dX9_rank_171 : decode cX9_rank 171 = .ok (.iload_n 3, 1) := by decide +kernel
theorem dX9_rank_172 : decode cX9_rank 172 = .ok (.iastore, 1) := by decide +kernel
theorem dX9_rank_173 : decode cX9_rank 173 = .ok (.aload_n 0, 1) := by decide +kernel
theorem dX9_rank_174 : decode cX9_rank 174 = .ok (.getfield 35, 3) := by decide +kernel
theorem dX9_rank_177 : decode cX9_rank 177 = .ok (.iload 6, 2) := by decide +kernel
theorem dX9_rank_179 : decode cX9_rank 179 = .ok (.dload 4, 2) := by decide +kernel
theorem dX9_rank_181 : decode cX9_rank 181 = .ok (.dastore, 1) := by decide +kernel
theorem dX9_rank_182 : decode cX9_rank 182 = .ok (.aload_n 0, 1) := by decide +kernel
theorem dX9_rank_183 : decode cX9_rank 183 = .ok (.dup, 1) := by decide +kernel
theorem dX9_rank_184 : decode cX9_rank 184 = .ok (.getfield 152, 3) := by decide +kernel
theorem dX9_rank_187 : decode cX9_rank 187 = .ok (.iconst 1, 1) := by decide +kernel
theorem dX9_rank_188 : decode cX9_rank 188 = .ok (.iadd, 1) := by decide +kernel
theorem dX9_rank_189 : decode cX9_rank 189 = .ok (.putfield 152, 3) := by decide +kernel
theorem dX9_rank_192 : decode cX9_rank 192 = .ok (.iinc 3 1, 3) := by decide +kernel
theorem dX9_rank_195 : decode cX9_rank 195 = .ok (.goto (-142), 3) := by decide +kernel
theorem dX9_rank_198 : decode cX9_rank 198 = .ok (.aload_n 0, 1) := by decide +kernel
theorem dX9_rank_199 : decode cX9_rank 199 = .ok (.getfield 152, 3) := by decide +kernel
theorem dX9_rank_202 : decode cX9_rank 202 = .ok (.ireturn, 1) := by decide +kernel
theorem dX9_result_0 : decode cX9_result 0 = .ok (.aload_n 0, 1) := by decide +kernel
theorem dX9_result_1 : decode cX9_result 1 = .ok (.iconst 0, 1) := by decide +kernel
theorem dX9_result_2 : decode cX9_result 2 = .ok (.putfield 57, 3) := by decide +kernel
theorem dX9_result_5 : decode cX9_result 5 = .ok (.iload_n 1, 1) := by decide +kernel
theorem dX9_result_6 : decode cX9_result 6 = .ok (.ifCond .lt 11, 3) := by decide +kernel
theorem dX9_result_9 : decode cX9_result 9 = .ok (.iload_n 1, 1) := by decide +kernel
theorem dX9_result_10 : decode cX9_result 10 = .ok (.aload_n 0, 1) := by decide +kernel
theorem dX9_result_11 : decode cX9_result 11 = .ok (.getfield 152, 3) := by decide +kernel
theorem dX9_result_14 : decode cX9_result 14 = .ok (.if_icmp .lt 9, 3) := by decide +kernel
theorem dX9_result_17 : decode cX9_result 17 = .ok (.aload_n 0, 1) := by decide +kernel
theorem dX9_result_18 : decode cX9_result 18 = .ok (.iconst 1, 1) := by decide +kernel
theorem dX9_result_19 : decode cX9_result 19 = .ok (.invokevirtual 64, 3) := by decide +kernel
theorem dX9_result_22 : decode cX9_result 22 = .ok (.ireturn, 1) := by decide +kernel
theorem dX9_result_23 : decode cX9_result 23 = .ok (.aload_n 0, 1) := by decide +kernel
theorem dX9_result_24 : decode cX9_result 24 = .ok (.getfield 32, 3) := by decide +kernel
theorem dX9_result_27 : decode cX9_result 27 = .ok (.iload_n 1, 1) := by decide +kernel
theorem dX9_result_28 : decode cX9_result 28 = .ok (.iaload, 1) := by decide +kernel
theorem dX9_result_29 : decode cX9_result 29 = .ok (.ireturn, 1) := by decide +kernel
theorem dX9_score_0 : decode cX9_score 0 = .ok (.aload_n 0, 1) := by decide +kernel
theorem dX9_score_1 : decode cX9_score 1 = .ok (.iconst 0, 1) := by decide +kernel
theorem dX9_score_2 : decode cX9_score 2 = .ok (.putfield 57, 3) := by decide +kernel
theorem dX9_score_5 : decode cX9_score 5 = .ok (.iload_n 1, 1) := by decide +kernel
theorem dX9_score_6 : decode cX9_score 6 = .ok (.ifCond .lt 11, 3) := by decide +kernel
theorem dX9_score_9 : decode cX9_score 9 = .ok (.iload_n 1, 1) := by decide +kernel
theorem dX9_score_10 : decode cX9_score 10 = .ok (.aload_n 0, 1) := by decide +kernel
theorem dX9_score_11 : decode cX9_score 11 = .ok (.getfield 152, 3) := by decide +kernel
theorem dX9_score_14 : decode cX9_score 14 = .ok (.if_icmp .lt 10, 3) := by decide +kernel
theorem dX9_score_17 : decode cX9_score 17 = .ok (.aload_n 0, 1) := by decide +kernel
theorem dX9_score_18 : decode cX9_score 18 = .ok (.iconst 1, 1) := by decide +kernel
theorem dX9_score_19 : decode cX9_score 19 = .ok (.invokevirtual 64, 3) := by decide +kernel
theorem dX9_score_22 : decode cX9_score 22 = .ok (.i2d, 1) := by decide +kernel
theorem dX9_score_23 : decode cX9_score 23 = .ok (.dreturn, 1) := by decide +kernel
theorem dX9_score_24 : decode cX9_score 24 = .ok (.aload_n 0, 1) := by decide +kernel
theorem dX9_score_25 : decode cX9_score 25 = .ok (.getfield 155, 3) := by decide +kernel
theorem dX9_score_28 : decode cX9_score 28 = .ok (.ifCond .ne 10, 3) := by decide +kernel
theorem dX9_score_31 : decode cX9_score 31 = .ok (.aload_n 0, 1) := by decide +kernel
theorem dX9_score_32 : decode cX9_score 32 = .ok (.iconst 2, 1) := by decide +kernel
theorem dX9_score_33 : decode cX9_score 33 = .ok (.invokevirtual 64, 3) := by decide +kernel
theorem dX9_score_36 : decode cX9_score 36 = .ok (.i2d, 1) := by decide +kernel
theorem dX9_score_37 : decode cX9_score 37 = .ok (.dreturn, 1) := by decide +kernel
theorem dX9_score_38 : decode cX9_score 38 = .ok (.aload_n 0, 1) := by decide +kernel
theorem dX9_score_39 : decode cX9_score 39 = .ok (.getfield 35, 3) := by decide +kernel
theorem dX9_score_42 : decode cX9_score 42 = .ok (.iload_n 1, 1) := by decide +kernel
theorem dX9_score_43 : decode cX9_score 43 = .ok (.daload, 1) := by decide +kernel
theorem dX9_score_44 : decode cX9_score 44 = .ok (.dreturn, 1) := by decide +kernel
theorem dX9_byteOf_0 : decode cX9_byteOf 0 = .ok (.aload_n 0, 1) := by decide +kernel
theorem dX9_byteOf_1 : decode cX9_byteOf 1 = .ok (.iconst 0, 1) := by decide +kernel
theorem dX9_byteOf_2 : decode cX9_byteOf 2 = .ok (.putfield 57, 3) := by decide +kernel
theorem dX9_byteOf_5 : decode cX9_byteOf 5 = .ok (.iload_n 1, 1) := by decide +kernel
theorem dX9_byteOf_6 : decode cX9_byteOf 6 = .ok (.ifCond .lt 21, 3) := by decide +kernel
theorem dX9_byteOf_9 : decode cX9_byteOf 9 = .ok (.iload_n 1, 1) := by decide +kernel
theorem dX9_byteOf_10 : decode cX9_byteOf 10 = .ok (.aload_n 0, 1) := by decide +kernel
theorem dX9_byteOf_11 : decode cX9_byteOf 11 = .ok (.getfield 54, 3) := by decide +kernel
theorem dX9_byteOf_14 : decode cX9_byteOf 14 = .ok (.if_icmp .ge 13, 3) := by decide +kernel
theorem dX9_byteOf_17 : decode cX9_byteOf 17 = .ok (.iload_n 2, 1) := by decide +kernel
theorem dX9_byteOf_18 : decode cX9_byteOf 18 = .ok (.ifCond .lt 9, 3) := by decide +kernel
theorem dX9_byteOf_21 : decode cX9_byteOf 21 = .ok (.iload_n 2, 1) := by decide +kernel
theorem dX9_byteOf_22 : decode cX9_byteOf 22 = .ok (.bipush 15, 2) := by decide +kernel
theorem dX9_byteOf_24 : decode cX9_byteOf 24 = .ok (.if_icmp .le 9, 3) := by decide +kernel
theorem dX9_byteOf_27 : decode cX9_byteOf 27 = .ok (.aload_n 0, 1) := by decide +kernel
theorem dX9_byteOf_28 : decode cX9_byteOf 28 = .ok (.iconst 1, 1) := by decide +kernel
theorem dX9_byteOf_29 : decode cX9_byteOf 29 = .ok (.invokevirtual 64, 3) := by decide +kernel
theorem dX9_byteOf_32 : decode cX9_byteOf 32 = .ok (.ireturn, 1) := by decide +kernel
theorem dX9_byteOf_33 : decode cX9_byteOf 33 = .ok (.iconst 0, 1) := by decide +kernel
theorem dX9_byteOf_34 : decode cX9_byteOf 34 = .ok (.istore_n 3, 1) := by decide +kernel
theorem dX9_byteOf_35 : decode cX9_byteOf 35 = .ok (.iload_n 3, 1) := by decide +kernel
theorem dX9_byteOf_36 : decode cX9_byteOf 36 = .ok (.aload_n 0, 1) := by decide +kernel
theorem dX9_byteOf_37 : decode cX9_byteOf 37 = .ok (.getfield 125, 3) := by decide +kernel
theorem dX9_byteOf_40 : decode cX9_byteOf 40 = .ok (.if_icmp .ge 78, 3) := by decide +kernel
theorem dX9_byteOf_43 : decode cX9_byteOf 43 = .ok (.aload_n 0, 1) := by decide +kernel
theorem dX9_byteOf_44 : decode cX9_byteOf 44 = .ok (.getfield 26, 3) := by decide +kernel
theorem dX9_byteOf_47 : decode cX9_byteOf 47 = .ok (.iload_n 3, 1) := by decide +kernel
theorem dX9_byteOf_48 : decode cX9_byteOf 48 = .ok (.laload, 1) := by decide +kernel
theorem dX9_byteOf_49 : decode cX9_byteOf 49 = .ok (.iload_n 1, 1) := by decide +kernel
theorem dX9_byteOf_50 : decode cX9_byteOf 50 = .ok (.invokestatic 89, 3) := by decide +kernel
theorem dX9_byteOf_53 : decode cX9_byteOf 53 = .ok (.ifCond .ne 6, 3) := by decide +kernel
theorem dX9_byteOf_56 : decode cX9_byteOf 56 = .ok (.goto 56, 3) := by decide +kernel
theorem dX9_byteOf_59 : decode cX9_byteOf 59 = .ok (.aload_n 0, 1) := by decide +kernel
theorem dX9_byteOf_60 : decode cX9_byteOf 60 = .ok (.aload_n 0, 1) := by decide +kernel
theorem dX9_byteOf_61 : decode cX9_byteOf 61 = .ok (.getfield 22, 3) := by decide +kernel
theorem dX9_byteOf_64 : decode cX9_byteOf 64 = .ok (.iload_n 3, 1) := by decide +kernel
theorem dX9_byteOf_65 : decode cX9_byteOf 65 = .ok (.laload, 1) := by decide +kernel
theorem dX9_byteOf_66 : decode cX9_byteOf 66 = .ok (.invokevirtual 114, 3) := by decide +kernel
theorem dX9_byteOf_69 : decode cX9_byteOf 69 = .ok (.bipush 16, 2) := by decide +kernel
theorem dX9_byteOf_71 : decode cX9_byteOf 71 = .ok (.aload_n 0, 1) := by decide +kernel
theorem dX9_byteOf_72 : decode cX9_byteOf 72 = .ok (.getfield 26, 3) := by decide +kernel
theorem dX9_byteOf_75 : decode cX9_byteOf 75 = .ok (.iload_n 3, 1) := by decide +kernel
theorem dX9_byteOf_76 : decode cX9_byteOf 76 = .ok (.laload, 1) := by decide +kernel
theorem dX9_byteOf_77 : decode cX9_byteOf 77 = .ok (.lconst 1, 1) := by decide +kernel
theorem dX9_byteOf_78 : decode cX9_byteOf 78 = .ok (.iload_n 1, 1) := by decide +kernel
theorem dX9_byteOf_79 : decode cX9_byteOf 79 = .ok (.lshl, 1) := by decide +kernel
theorem dX9_byteOf_80 : decode cX9_byteOf 80 = .ok (.lconst 1, 1) := by decide +kernel
theorem dX9_byteOf_81 : decode cX9_byteOf 81 = .ok (.lsub, 1) := by decide +kernel
theorem dX9_byteOf_82 : decode cX9_byteOf 82 = .ok (.land, 1) := by decide +kernel
theorem dX9_byteOf_83 : decode cX9_byteOf 83 = .ok (.invokestatic 93, 3) := by decide +kernel
theorem dX9_byteOf_86 : decode cX9_byteOf 86 = .ok (.imul, 1) := by decide +kernel
theorem dX9_byteOf_87 : decode cX9_byteOf 87 = .ok (.iload_n 2, 1) := by decide +kernel
theorem dX9_byteOf_88 : decode cX9_byteOf 88 = .ok (.iadd, 1) := by decide +kernel
theorem dX9_byteOf_89 : decode cX9_byteOf 89 = .ok (.istore 4, 2) := by decide +kernel
theorem dX9_byteOf_91 : decode cX9_byteOf 91 = .ok (.iload 4, 2) := by decide +kernel
theorem dX9_byteOf_93 : decode cX9_byteOf 93 = .ok (.aload_n 0, 1) := by decide +kernel
theorem dX9_byteOf_94 : decode cX9_byteOf 94 = .ok (.getfield 97, 3) := by decide +kernel
theorem dX9_byteOf_97 : decode cX9_byteOf 97 = .ok (.if_icmp .ge 13, 3) := by decide +kernel
theorem dX9_byteOf_100 : decode cX9_byteOf 100 = .ok (.aload_n 0, 1) := by decide +kernel
theorem dX9_byteOf_101 : decode cX9_byteOf 101 = .ok (.getfield 39, 3) := by decide +kernel
theorem dX9_byteOf_104 : decode cX9_byteOf 104 = .ok (.iload 4, 2) := by decide +kernel
theorem dX9_byteOf_106 : decode cX9_byteOf 106 = .ok (.baload, 1) := by decide +kernel
theorem dX9_byteOf_107 : decode cX9_byteOf 107 = .ok (.goto 4, 3) := by decide +kernel
theorem dX9_byteOf_110 : decode cX9_byteOf 110 = .ok (.iconst 0, 1) := by decide +kernel
theorem dX9_byteOf_111 : decode cX9_byteOf 111 = .ok (.ireturn, 1) := by decide +kernel
theorem dX9_byteOf_112 : decode cX9_byteOf 112 = .ok (.iinc 3 1, 3) := by decide +kernel
theorem dX9_byteOf_115 : decode cX9_byteOf 115 = .ok (.goto (-80), 3) := by decide +kernel
theorem dX9_byteOf_118 : decode cX9_byteOf 118 = .ok (.iconst 0, 1) := by decide +kernel
theorem dX9_byteOf_119 : decode cX9_byteOf 119 = .ok (.ireturn, 1) := by decide +kernel
theorem dX9_run_0 : decode cX9_run 0 = .ok (.aload_n 0, 1) := by decide +kernel
theorem dX9_run_1 : decode cX9_run 1 = .ok (.iconst 0, 1) := by decide +kernel
theorem dX9_run_2 : decode cX9_run 2 = .ok (.putfield 57, 3) := by decide +kernel
theorem dX9_run_5 : decode cX9_run 5 = .ok (.iload_n 1, 1) := by decide +kernel
theorem dX9_run_6 : decode cX9_run 6 = .ok (.ifCond .lt 11, 3) := by decide +kernel
theorem dX9_run_9 : decode cX9_run 9 = .ok (.iload_n 1, 1) := by decide +kernel
theorem dX9_run_10 : decode cX9_run 10 = .ok (.aload_n 0, 1) := by decide +kernel
theorem dX9_run_11 : decode cX9_run 11 = .ok (.getfield 125, 3) := by decide +kernel
theorem dX9_run_14 : decode cX9_run 14 = .ok (.if_icmp .lt 9, 3) := by decide +kernel
theorem dX9_run_17 : decode cX9_run 17 = .ok (.aload_n 0, 1) := by decide +kernel
theorem dX9_run_18 : decode cX9_run 18 = .ok (.iconst 1, 1) := by decide +kernel
theorem dX9_run_19 : decode cX9_run 19 = .ok (.invokevirtual 64, 3) := by decide +kernel
theorem dX9_run_22 : decode cX9_run 22 = .ok (.ireturn, 1) := by decide +kernel
theorem dX9_run_23 : decode cX9_run 23 = .ok (.iload_n 2, 1) := by decide +kernel
theorem dX9_run_24 : decode cX9_run 24 = .ok (.ifCond .lt 8, 3) := by decide +kernel
theorem dX9_run_27 : decode cX9_run 27 = .ok (.iload_n 2, 1) := by decide +kernel
theorem dX9_run_28 : decode cX9_run 28 = .ok (.iconst 3, 1) := by decide +kernel
theorem dX9_run_29 : decode cX9_run 29 = .ok (.if_icmp .le 9, 3) := by decide +kernel
theorem dX9_run_32 : decode cX9_run 32 = .ok (.aload_n 0, 1) := by decide +kernel
theorem dX9_run_33 : decode cX9_run 33 = .ok (.iconst 2, 1) := by decide +kernel
theorem dX9_run_34 : decode cX9_run 34 = .ok (.invokevirtual 64, 3) := by decide +kernel
theorem dX9_run_37 : decode cX9_run 37 = .ok (.ireturn, 1) := by decide +kernel
theorem dX9_run_38 : decode cX9_run 38 = .ok (.iload_n 2, 1) := by decide +kernel
theorem dX9_run_39 : decode cX9_run 39 = .ok (.ifCond .ne 10, 3) := by decide +kernel
theorem dX9_run_42 : decode cX9_run 42 = .ok (.aload_n 0, 1) := by decide +kernel
theorem dX9_run_43 : decode cX9_run 43 = .ok (.getfield 29, 3) := by decide +kernel
theorem dX9_run_46 : decode cX9_run 46 = .ok (.iload_n 1, 1) := by decide +kernel
theorem dX9_run_47 : decode cX9_run 47 = .ok (.iaload, 1) := by decide +kernel
theorem dX9_run_48 : decode cX9_run 48 = .ok (.ireturn, 1) := by decide +kernel
theorem dX9_run_49 : decode cX9_run 49 = .ok (.iload_n 2, 1) := by decide +kernel
theorem dX9_run_50 : decode cX9_run 50 = .ok (.iconst 1, 1) := by decide +kernel
theorem dX9_run_51 : decode cX9_run 51 = .ok (.if_icmp .ne 13, 3) := by decide +kernel
theorem dX9_run_54 : decode cX9_run 54 = .ok (.aload_n 0, 1) := by decide +kernel
theorem dX9_run_55 : decode cX9_run 55 = .ok (.getfield 26, 3) := by decide +kernel
theorem dX9_run_58 : decode cX9_run 58 = .ok (.iload_n 1, 1) := by decide +kernel
theorem dX9_run_59 : decode cX9_run 59 = .ok (.laload, 1) := by decide +kernel
theorem dX9_run_60 : decode cX9_run 60 = .ok (.invokestatic 93, 3) := by decide +kernel
theorem dX9_run_63 : decode cX9_run 63 = .ok (.ireturn, 1) := by decide +kernel
theorem dX9_run_64 : decode cX9_run 64 = .ok (.iload_n 2, 1) := by decide +kernel
theorem dX9_run_65 : decode cX9_run 65 = .ok (.iconst 3, 1) := by decide +kernel
theorem dX9_run_66 : decode cX9_run 66 = .ok (.if_icmp .ne 18, 3) := by decide +kernel
theorem dX9_run_69 : decode cX9_run 69 = .ok (.aload_n 0, 1) := by decide +kernel
theorem dX9_run_70 : decode cX9_run 70 = .ok (.aload_n 0, 1) := by decide +kernel
theorem dX9_run_71 : decode cX9_run 71 = .ok (.getfield 22, 3) := by decide +kernel
theorem dX9_run_74 : decode cX9_run 74 = .ok (.iload_n 1, 1) := by decide +kernel
theorem dX9_run_75 : decode cX9_run 75 = .ok (.laload, 1) := by decide +kernel
theorem dX9_run_76 : decode cX9_run 76 = .ok (.invokevirtual 114, 3) := by decide +kernel
theorem dX9_run_79 : decode cX9_run 79 = .ok (.aload_n 0, 1) := by decide +kernel
theorem dX9_run_80 : decode cX9_run 80 = .ok (.getfield 97, 3) := by decide +kernel
theorem dX9_run_83 : decode cX9_run 83 = .ok (.ireturn, 1) := by decide +kernel
theorem dX9_run_84 : decode cX9_run 84 = .ok (.iconst 0, 1) := by decide +kernel
theorem dX9_run_85 : decode cX9_run 85 = .ok (.istore_n 3, 1) := by decide +kernel
theorem dX9_run_86 : decode cX9_run 86 = .ok (.iload_n 3, 1) := by decide +kernel
theorem dX9_run_87 : decode cX9_run 87 = .ok (.aload_n 0, 1) := by decide +kernel
theorem dX9_run_88 : decode cX9_run 88 = .ok (.getfield 54, 3) := by decide +kernel
theorem dX9_run_91 : decode cX9_run 91 = .ok (.if_icmp .ge 24, 3) := by decide +kernel
theorem dX9_run_94 : decode cX9_run 94 = .ok (.aload_n 0, 1) := by decide +kernel
theorem dX9_run_95 : decode cX9_run 95 = .ok (.getfield 26, 3) := by decide +kernel
theorem dX9_run_98 : decode cX9_run 98 = .ok (.iload_n 1, 1) := by decide +kernel
theorem dX9_run_99 : decode cX9_run 99 = .ok (.laload, 1) := by decide +kernel
theorem dX9_run_100 : decode cX9_run 100 = .ok (.iload_n 3, 1) := by decide +kernel
theorem dX9_run_101 : decode cX9_run 101 = .ok (.invokestatic 89, 3) := by decide +kernel
theorem dX9_run_104 : decode cX9_run 104 = .ok (.ifCond .eq 5, 3) := by decide +kernel
theorem dX9_run_107 : decode cX9_run 107 = .ok (.iload_n 3, 1) := by decide +kernel
theorem dX9_run_108 : decode cX9_run 108 = .ok (.ireturn, 1) := by decide +kernel
theorem dX9_run_109 : decode cX9_run 109 = .ok (.iinc 3 1, 3) := by decide +kernel
theorem dX9_run_112 : decode cX9_run 112 = .ok (.goto (-26), 3) := by decide +kernel
theorem dX9_run_115 : decode cX9_run 115 = .ok (.iconst (-1), 1) := by decide +kernel
theorem dX9_run_116 : decode cX9_run 116 = .ok (.ireturn, 1) := by decide +kernel
theorem dX9_count_0 : decode cX9_count 0 = .ok (.aload_n 0, 1) := by decide +kernel
theorem dX9_count_1 : decode cX9_count 1 = .ok (.iconst 0, 1) := by decide +kernel
theorem dX9_count_2 : decode cX9_count 2 = .ok (.putfield 57, 3) := by decide +kernel
theorem dX9_count_5 : decode cX9_count 5 = .ok (.iload_n 1, 1) := by decide +kernel
theorem dX9_count_6 : decode cX9_count 6 = .ok (.tableswitch 120 0 9 #[54, 59, 72, 77, 82, 95, 100, 105, 110, 115], 54) := by decide +kernel
theorem dX9_count_60 : decode cX9_count 60 = .ok (.aload_n 0, 1) := by decide +kernel
theorem dX9_count_61 : decode cX9_count 61 = .ok (.getfield 74, 3) := by decide +kernel
theorem dX9_count_64 : decode cX9_count 64 = .ok (.ireturn, 1) := by decide +kernel
theorem dX9_count_65 : decode cX9_count 65 = .ok (.aload_n 0, 1) := by decide +kernel
theorem dX9_count_66 : decode cX9_count 66 = .ok (.getfield 74, 3) := by decide +kernel
theorem dX9_count_69 : decode cX9_count 69 = .ok (.aload_n 0, 1) := by decide +kernel
theorem dX9_count_70 : decode cX9_count 70 = .ok (.getfield 85, 3) := by decide +kernel
theorem dX9_count_73 : decode cX9_count 73 = .ok (.invokestatic 93, 3) := by decide +kernel
theorem dX9_count_76 : decode cX9_count 76 = .ok (.isub, 1) := by decide +kernel
theorem dX9_count_77 : decode cX9_count 77 = .ok (.ireturn, 1) := by decide +kernel
theorem dX9_count_78 : decode cX9_count 78 = .ok (.aload_n 0, 1) := by decide +kernel
theorem dX9_count_79 : decode cX9_count 79 = .ok (.invokevirtual 77, 3) := by decide +kernel
theorem dX9_count_82 : decode cX9_count 82 = .ok (.ireturn, 1) := by decide +kernel
theorem dX9_count_83 : decode cX9_count 83 = .ok (.aload_n 0, 1) := by decide +kernel
theorem dX9_count_84 : decode cX9_count 84 = .ok (.getfield 125, 3) := by decide +kernel
theorem dX9_count_87 : decode cX9_count 87 = .ok (.ireturn, 1) := by decide +kernel
theorem dX9_count_88 : decode cX9_count 88 = .ok (.aload_n 0, 1) := by decide +kernel
theorem dX9_count_89 : decode cX9_count 89 = .ok (.getfield 54, 3) := by decide +kernel
theorem dX9_count_92 : decode cX9_count 92 = .ok (.aload_n 0, 1) := by decide +kernel
theorem dX9_count_93 : decode cX9_count 93 = .ok (.getfield 118, 3) := by decide +kernel
theorem dX9_count_96 : decode cX9_count 96 = .ok (.invokestatic 93, 3) := by decide +kernel
theorem dX9_count_99 : decode cX9_count 99 = .ok (.isub, 1) := by decide +kernel
theorem dX9_count_100 : decode cX9_count 100 = .ok (.ireturn, 1) := by decide +kernel
theorem dX9_count_101 : decode cX9_count 101 = .ok (.aload_n 0, 1) := by decide +kernel
theorem dX9_count_102 : decode cX9_count 102 = .ok (.getfield 137, 3) := by decide +kernel
theorem dX9_count_105 : decode cX9_count 105 = .ok (.ireturn, 1) := by decide +kernel
theorem dX9_count_106 : decode cX9_count 106 = .ok (.aload_n 0, 1) := by decide +kernel
theorem dX9_count_107 : decode cX9_count 107 = .ok (.getfield 128, 3) := by decide +kernel
theorem dX9_count_110 : decode cX9_count 110 = .ok (.ireturn, 1) := by decide +kernel
theorem dX9_count_111 : decode cX9_count 111 = .ok (.aload_n 0, 1) := by decide +kernel
theorem dX9_count_112 : decode cX9_count 112 = .ok (.getfield 145, 3) := by decide +kernel
theorem dX9_count_115 : decode cX9_count 115 = .ok (.ireturn, 1) := by decide +kernel
theorem dX9_count_116 : decode cX9_count 116 = .ok (.aload_n 0, 1) := by decide +kernel
theorem dX9_count_117 : decode cX9_count 117 = .ok (.getfield 142, 3) := by decide +kernel
theorem dX9_count_120 : decode cX9_count 120 = .ok (.ireturn, 1) := by decide +kernel
theorem dX9_count_121 : decode cX9_count 121 = .ok (.aload_n 0, 1) := by decide +kernel
theorem dX9_count_122 : decode cX9_count 122 = .ok (.getfield 68, 3) := by decide +kernel
theorem dX9_count_125 : decode cX9_count 125 = .ok (.ireturn, 1) := by decide +kernel
theorem dX9_count_126 : decode cX9_count 126 = .ok (.iconst (-1), 1) := by decide +kernel
theorem dX9_count_127 : decode cX9_count 127 = .ok (.ireturn, 1) := by decide +kernel
