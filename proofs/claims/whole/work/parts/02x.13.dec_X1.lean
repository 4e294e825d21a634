theorem dX1_init_0 : decode cX1_init 0 = .ok (.aload_n 0, 1) := by decide +kernel
theorem dX1_init_1 : decode cX1_init 1 = .ok (.invokespecial 3, 3) := by decide +kernel
theorem dX1_init_4 : decode cX1_init 4 = .ok (.aload_n 0, 1) := by decide +kernel
theorem dX1_init_5 : decode cX1_init 5 = .ok (.iload_n 1, 1) := by decide +kernel
theorem dX1_init_6 : decode cX1_init 6 = .ok (.newarray .int, 2) := by decide +kernel
theorem dX1_init_8 : decode cX1_init 8 = .ok (.putfield 9, 3) := by decide +kernel
theorem dX1_init_11 : decode cX1_init 11 = .ok (.aload_n 0, 1) := by decide +kernel
theorem dX1_init_12 : decode cX1_init 12 = .ok (.iconst 0, 1) := by decide +kernel
theorem dX1_init_13 : decode cX1_init 13 = .ok (.putfield 15, 3) := by decide +kernel
theorem dX1_init_16 : decode cX1_init 16 = .ok (.aload_n 0, 1) := by decide +kernel
theorem dX1_init_17 : decode cX1_init 17 = .ok (.iconst 0, 1) := by decide +kernel
theorem dX1_init_18 : decode cX1_init 18 = .ok (.putfield 19, 3) := by decide +kernel
theorem dX1_init_21 : decode cX1_init 21 = .ok (.return_, 1) := by decide +kernel
theorem dX1_size_0 : decode cX1_size 0 = .ok (.aload_n 0, 1) := by decide +kernel
theorem dX1_size_1 : decode cX1_size 1 = .ok (.getfield 15, 3) := by decide +kernel
theorem dX1_size_4 : decode cX1_size 4 = .ok (.ireturn, 1) := by decide +kernel
theorem dX1_at_0 : decode cX1_at 0 = .ok (.iload_n 1, 1) := by decide +kernel
theorem dX1_at_1 : decode cX1_at 1 = .ok (.ifCond .lt 29, 3) := by decide +kernel
theorem dX1_at_4 : decode cX1_at 4 = .ok (.iload_n 1, 1) := by decide +kernel
theorem dX1_at_5 : decode cX1_at 5 = .ok (.aload_n 0, 1) := by decide +kernel
theorem dX1_at_6 : decode cX1_at 6 = .ok (.getfield 15, 3) := by decide +kernel
theorem dX1_at_9 : decode cX1_at 9 = .ok (.if_icmp .ge 21, 3) := by decide +kernel
theorem dX1_at_12 : decode cX1_at 12 = .ok (.iload_n 1, 1) := by decide +kernel
theorem dX1_at_13 : decode cX1_at 13 = .ok (.aload_n 0, 1) := by decide +kernel
theorem dX1_at_14 : decode cX1_at 14 = .ok (.getfield 9, 3) := by decide +kernel
theorem dX1_at_17 : decode cX1_at 17 = .ok (.arraylength, 1) := by decide +kernel
theorem dX1_at_18 : decode cX1_at 18 = .ok (.if_icmp .ge 12, 3) := by decide +kernel
theorem dX1_at_21 : decode cX1_at 21 = .ok (.aload_n 0, 1) := by decide +kernel
theorem dX1_at_22 : decode cX1_at 22 = .ok (.getfield 9, 3) := by decide +kernel
theorem dX1_at_25 : decode cX1_at 25 = .ok (.iload_n 1, 1) := by decide +kernel
theorem dX1_at_26 : decode cX1_at 26 = .ok (.iaload, 1) := by decide +kernel
theorem dX1_at_27 : decode cX1_at 27 = .ok (.goto 4, 3) := by decide +kernel
theorem dX1_at_30 : decode cX1_at 30 = .ok (.iconst 0, 1) := by decide +kernel
theorem dX1_at_31 : decode cX1_at 31 = .ok (.ireturn, 1) := by decide +kernel
theorem dX1_clear_0 : decode cX1_clear 0 = .ok (.aload_n 0, 1) := by decide +kernel
theorem dX1_clear_1 : decode cX1_clear 1 = .ok (.iconst 0, 1) := by decide +kernel
theorem dX1_clear_2 : decode cX1_clear 2 = .ok (.putfield 15, 3) := by decide +kernel
theorem dX1_clear_5 : decode cX1_clear 5 = .ok (.aload_n 0, 1) := by decide +kernel
theorem dX1_clear_6 : decode cX1_clear 6 = .ok (.iconst 0, 1) := by decide +kernel
theorem dX1_clear_7 : decode cX1_clear 7 = .ok (.putfield 19, 3) := by decide +kernel
theorem dX1_clear_10 : decode cX1_clear 10 = .ok (.return_, 1) := by decide +kernel
theorem dX1_put_0 : decode cX1_put 0 = .ok (.aload_n 0, 1) := by decide +kernel
theorem dX1_put_1 : decode cX1_put 1 = .ok (.getfield 15, 3) := by decide +kernel
theorem dX1_put_4 : decode cX1_put 4 = .ok (.aload_n 0, 1) := by decide +kernel
theorem dX1_put_5 : decode cX1_put 5 = .ok (.getfield 9, 3) := by decide +kernel
theorem dX1_put_8 : decode cX1_put 8 = .ok (.arraylength, 1) := by decide +kernel
theorem dX1_put_9 : decode cX1_put 9 = .ok (.if_icmp .ge 13, 3) := by decide +kernel
theorem dX1_put_12 : decode cX1_put 12 = .ok (.aload_n 0, 1) := by decide +kernel
theorem dX1_put_13 : decode cX1_put 13 = .ok (.getfield 9, 3) := by decide +kernel
theorem dX1_put_16 : decode cX1_put 16 = .ok (.aload_n 0, 1) := by decide +kernel
theorem dX1_put_17 : decode cX1_put 17 = .ok (.getfield 15, 3) := by decide +kernel
theorem dX1_put_20 : decode cX1_put 20 = .ok (.iload_n 1, 1) := by decide +kernel
theorem dX1_put_21 : decode cX1_put 21 = .ok (.iastore, 1) := by decide +kernel
theorem dX1_put_22 : decode cX1_put 22 = .ok (.aload_n 0, 1) := by decide +kernel
theorem dX1_put_23 : decode cX1_put 23 = .ok (.dup, 1) := by decide +kernel
theorem dX1_put_24 : decode cX1_put 24 = .ok (.getfield 15, 3) := by decide +kernel
theorem dX1_put_27 : decode cX1_put 27 = .ok (.iconst 1, 1) := by decide +kernel
theorem dX1_put_28 : decode cX1_put 28 = .ok (.iadd, 1) := by decide +kernel
theorem dX1_put_29 : decode cX1_put 29 = .ok (.putfield 15, 3) := by decide +kernel
theorem dX1_put_32 : decode cX1_put 32 = .ok (.aload_n 0, 1) := by decide +kernel
theorem dX1_put_33 : decode cX1_put 33 = .ok (.getfield 15, 3) := by decide +kernel
theorem dX1_put_36 : decode cX1_put 36 = .ok (.iconst 1, 1) := by decide +kernel
theorem dX1_put_37 : decode cX1_put 37 = .ok (.isub, 1) := by decide +kernel
theorem dX1_put_38 : decode cX1_put 38 = .ok (.ireturn, 1) := by decide +kernel
theorem dX1_encode_0 : decode cX1_encode 0 = .ok (.aload_n 0, 1) := by decide +kernel
theorem dX1_encode_1 : decode cX1_encode 1 = .ok (.invokevirtual 22, 3) := by decide +kernel
theorem dX1_encode_4 : decode cX1_encode 4 = .ok (.iconst 0, 1) := by decide +kernel
theorem dX1_encode_5 : decode cX1_encode 5 = .ok (.istore_n 2, 1) := by decide +kernel
theorem dX1_encode_6 : decode cX1_encode 6 = .ok (.iconst 0, 1) := by decide +kernel
theorem dX1_encode_7 : decode cX1_encode 7 = .ok (.istore_n 3, 1) := by decide +kernel
theorem dX1_encode_8 : decode cX1_encode 8 = .ok (.iconst 0, 1) := by decide +kernel
theorem dX1_encode_9 : decode cX1_encode 9 = .ok (.istore 4, 2) := by decide +kernel
theorem dX1_encode_11 : decode cX1_encode 11 = .ok (.iconst 0, 1) := by decide +kernel
theorem dX1_encode_12 : decode cX1_encode 12 = .ok (.istore 5, 2) := by decide +kernel
theorem dX1_encode_14 : decode cX1_encode 14 = .ok (.iconst 0, 1) := by decide +kernel
theorem dX1_encode_15 : decode cX1_encode 15 = .ok (.istore 6, 2) := by decide +kernel
theorem dX1_encode_17 : decode cX1_encode 17 = .ok (.iconst 0, 1) := by decide +kernel
theorem dX1_encode_18 : decode cX1_encode 18 = .ok (.istore 7, 2) := by decide +kernel
theorem dX1_encode_20 : decode cX1_encode 20 = .ok (.iload 7, 2) := by decide +kernel
theorem dX1_encode_22 : decode cX1_encode 22 = .ok (.aload_n 1, 1) := by decide +kernel
theorem dX1_encode_23 : decode cX1_encode 23 = .ok (.invokevirtual 25, 3) := by decide +kernel
theorem dX1_encode_26 : decode cX1_encode 26 = .ok (.if_icmp .ge 144, 3) := by decide +kernel
theorem dX1_encode_29 : decode cX1_encode 29 = .ok (.aload_n 1, 1) := by decide +kernel
theorem dX1_encode_30 : decode cX1_encode 30 = .ok (.iload 7, 2) := by decide +kernel
theorem dX1_encode_32 : decode cX1_encode 32 = .ok (.invokevirtual 30, 3) := by decide +kernel
theorem dX1_encode_35 : decode cX1_encode 35 = .ok (.istore 8, 2) := by decide +kernel
theorem dX1_encode_37 : decode cX1_encode 37 = .ok (.iload 7, 2) := by decide +kernel
theorem dX1_encode_39 : decode cX1_encode 39 = .ok (.ifCond .eq 12, 3) := by decide +kernel
theorem dX1_encode_42 : decode cX1_encode 42 = .ok (.iload 8, 2) := by decide +kernel
theorem dX1_encode_44 : decode cX1_encode 44 = .ok (.invokestatic 34, 3) := by decide +kernel
theorem dX1_encode_47 : decode cX1_encode 47 = .ok (.iload_n 2, 1) := by decide +kernel
theorem dX1_encode_48 : decode cX1_encode 48 = .ok (.if_icmp .eq 7, 3) := by decide +kernel
theorem dX1_encode_51 : decode cX1_encode 51 = .ok (.iconst 1, 1) := by decide +kernel
theorem dX1_encode_52 : decode cX1_encode 52 = .ok (.goto 4, 3) := by decide +kernel
theorem dX1_encode_55 : decode cX1_encode 55 = .ok (.iconst 0, 1) := by decide +kernel
theorem dX1_encode_56 : decode cX1_encode 56 = .ok (.istore 9, 2) := by decide +kernel
theorem dX1_encode_58 : decode cX1_encode 58 = .ok (.iload 9, 2) := by decide +kernel
theorem dX1_encode_60 : decode cX1_encode 60 = .ok (.ifCond .eq 30, 3) := by decide +kernel
theorem dX1_encode_63 : decode cX1_encode 63 = .ok (.aload_n 0, 1) := by decide +kernel
theorem dX1_encode_64 : decode cX1_encode 64 = .ok (.iload 8, 2) := by decide +kernel
theorem dX1_encode_66 : decode cX1_encode 66 = .ok (.invokestatic 34, 3) := by decide +kernel
theorem dX1_encode_69 : decode cX1_encode 69 = .ok (.iload_n 2, 1) := by decide +kernel
theorem dX1_encode_70 : decode cX1_encode 70 = .ok (.isub, 1) := by decide +kernel
theorem dX1_encode_71 : decode cX1_encode 71 = .ok (.invokevirtual 37, 3) := by decide +kernel
theorem dX1_encode_74 : decode cX1_encode 74 = .ok (.pop, 1) := by decide +kernel
theorem dX1_encode_75 : decode cX1_encode 75 = .ok (.iload 8, 2) := by decide +kernel
theorem dX1_encode_77 : decode cX1_encode 77 = .ok (.invokestatic 34, 3) := by decide +kernel
theorem dX1_encode_80 : decode cX1_encode 80 = .ok (.istore_n 2, 1) := by decide +kernel
theorem dX1_encode_81 : decode cX1_encode 81 = .ok (.aload_n 0, 1) := by decide +kernel
theorem dX1_encode_82 : decode cX1_encode 82 = .ok (.iconst 0, 1) := by decide +kernel
theorem dX1_encode_83 : decode cX1_encode 83 = .ok (.invokevirtual 37, 3) := by decide +kernel
theorem dX1_encode_86 : decode cX1_encode 86 = .ok (.istore 5, 2) := by decide +kernel
theorem dX1_encode_88 : decode cX1_encode 88 = .ok (.iconst 0, 1) := by decide +kernel
theorem dX1_encode_89 : decode cX1_encode 89 = .ok (.istore_n 3, 1) := by decide +kernel
theorem dX1_encode_90 : decode cX1_encode 90 = .ok (.iload 9, 2) := by decide +kernel
theorem dX1_encode_92 : decode cX1_encode 92 = .ok (.ifCond .ne 12, 3) := by decide +kernel
theorem dX1_encode_95 : decode cX1_encode 95 = .ok (.iload 8, 2) := by decide +kernel
theorem dX1_encode_97 : decode cX1_encode 97 = .ok (.invokestatic 40, 3) := by decide +kernel
theorem dX1_encode_100 : decode cX1_encode 100 = .ok (.iload_n 3, 1) := by decide +kernel
theorem dX1_encode_101 : decode cX1_encode 101 = .ok (.if_icmp .eq 37, 3) := by decide +kernel
theorem dX1_encode_104 : decode cX1_encode 104 = .ok (.aload_n 0, 1) := by decide +kernel
theorem dX1_encode_105 : decode cX1_encode 105 = .ok (.iload 8, 2) := by decide +kernel
theorem dX1_encode_107 : decode cX1_encode 107 = .ok (.invokestatic 40, 3) := by decide +kernel
theorem dX1_encode_110 : decode cX1_encode 110 = .ok (.iload_n 3, 1) := by decide +kernel
theorem dX1_encode_111 : decode cX1_encode 111 = .ok (.isub, 1) := by decide +kernel
theorem dX1_encode_112 : decode cX1_encode 112 = .ok (.invokevirtual 37, 3) := by decide +kernel
theorem dX1_encode_115 : decode cX1_encode 115 = .ok (.pop, 1) := by decide +kernel
theorem dX1_encode_116 : decode cX1_encode 116 = .ok (.iload 8, 2) := by decide +kernel
theorem dX1_encode_118 : decode cX1_encode 118 = .ok (.invokestatic 40, 3) := by decide +kernel
theorem dX1_encode_121 : decode cX1_encode 121 = .ok (.istore_n 3, 1) := by decide +kernel
theorem dX1_encode_122 : decode cX1_encode 122 = .ok (.aload_n 0, 1) := by decide +kernel
theorem dX1_encode_123 : decode cX1_encode 123 = .ok (.iload 5, 2) := by decide +kernel
theorem dX1_encode_125 : decode cX1_encode 125 = .ok (.invokevirtual 43, 3) := by decide +kernel
theorem dX1_encode_128 : decode cX1_encode 128 = .ok (.aload_n 0, 1) := by decide +kernel
theorem dX1_encode_129 : decode cX1_encode 129 = .ok (.iconst 0, 1) := by decide +kernel
theorem dX1_encode_130 : decode cX1_encode 130 = .ok (.invokevirtual 37, 3) := by decide +kernel
theorem dX1_encode_133 : decode cX1_encode 133 = .ok (.istore 6, 2) := by decide +kernel
theorem dX1_encode_135 : decode cX1_encode 135 = .ok (.iconst 0, 1) := by decide +kernel
theorem dX1_encode_136 : decode cX1_encode 136 = .ok (.istore 4, 2) := by decide +kernel
theorem dX1_encode_138 : decode cX1_encode 138 = .ok (.aload_n 0, 1) := by decide +kernel
theorem dX1_encode_139 : decode cX1_encode 139 = .ok (.iload 8, 2) := by decide +kernel
theorem dX1_encode_141 : decode cX1_encode 141 = .ok (.invokestatic 47, 3) := by decide +kernel
theorem dX1_encode_144 : decode cX1_encode 144 = .ok (.iload 4, 2) := by decide +kernel
theorem dX1_encode_146 : decode cX1_encode 146 = .ok (.isub, 1) := by decide +kernel
theorem dX1_encode_147 : decode cX1_encode 147 = .ok (.invokevirtual 37, 3) := by decide +kernel
theorem dX1_encode_150 : decode cX1_encode 150 = .ok (.pop, 1) := by decide +kernel
theorem dX1_encode_151 : decode cX1_encode 151 = .ok (.iload 8, 2) := by decide +kernel
theorem dX1_encode_153 : decode cX1_encode 153 = .ok (.invokestatic 47, 3) := by decide +kernel
theorem dX1_encode_156 : decode cX1_encode 156 = .ok (.istore 4, 2) := by decide +kernel
theorem dX1_encode_158 : decode cX1_encode 158 = .ok (.aload_n 0, 1) := by decide +kernel
theorem dX1_encode_159 : decode cX1_encode 159 = .ok (.iload 6, 2) := by decide +kernel
theorem dX1_encode_161 : decode cX1_encode 161 = .ok (.invokevirtual 43, 3) := by decide +kernel
theorem dX1_encode_164 : decode cX1_encode 164 = .ok (.iinc 7 1, 3) := by decide +kernel
theorem dX1_encode_167 : decode cX1_encode 167 = .ok (.goto (-147), 3) := by decide +kernel
theorem dX1_encode_170 : decode cX1_encode 170 = .ok (.aload_n 0, 1) := by decide +kernel
theorem dX1_encode_171 : decode cX1_encode 171 = .ok (.getfield 15, 3) := by decide +kernel
theorem dX1_encode_174 : decode cX1_encode 174 = .ok (.ifCond .le 10, 3) := by decide +kernel
theorem dX1_encode_177 : decode cX1_encode 177 = .ok (.aload_n 0, 1) := by decide +kernel
theorem dX1_encode_178 : decode cX1_encode 178 = .ok (.bipush 127, 2) := by decide +kernel
theorem dX1_encode_180 : decode cX1_encode 180 = .ok (.invokevirtual 37, 3) := by decide +kernel
theorem dX1_encode_183 : decode cX1_encode 183 = .ok (.pop, 1) := by decide +kernel
theorem dX1_encode_184 : decode cX1_encode 184 = .ok (.return_, 1) := by decide +kernel
theorem dX1_decode_0 : decode cX1_decode 0 = .ok (.aload_n 1, 1) := by decide +kernel
theorem dX1_decode_1 : decode cX1_decode 1 = .ok (.invokevirtual 50, 3) := by decide +kernel
theorem dX1_decode_4 : decode cX1_decode 4 = .ok (.aload_n 0, 1) := by decide +kernel
theorem dX1_decode_5 : decode cX1_decode 5 = .ok (.iconst 0, 1) := by decide +kernel
theorem dX1_decode_6 : decode cX1_decode 6 = .ok (.putfield 19, 3) := by decide +kernel
theorem dX1_decode_9 : decode cX1_decode 9 = .ok (.iconst 0, 1) := by decide +kernel
theorem dX1_decode_10 : decode cX1_decode 10 = .ok (.istore_n 2, 1) := by decide +kernel
theorem dX1_decode_11 : decode cX1_decode 11 = .ok (.aload_n 0, 1) := by decide +kernel
theorem dX1_decode_12 : decode cX1_decode 12 = .ok (.invokevirtual 51, 3) := by decide +kernel
theorem dX1_decode_15 : decode cX1_decode 15 = .ok (.istore_n 3, 1) := by decide +kernel
theorem dX1_decode_16 : decode cX1_decode 16 = .ok (.iconst 0, 1) := by decide +kernel
theorem dX1_decode_17 : decode cX1_decode 17 = .ok (.istore 4, 2) := by decide +kernel
theorem dX1_decode_19 : decode cX1_decode 19 = .ok (.iload 4, 2) := by decide +kernel
theorem dX1_decode_21 : decode cX1_decode 21 = .ok (.bipush 100, 2) := by decide +kernel
theorem dX1_decode_23 : decode cX1_decode 23 = .ok (.if_icmp .ge 104, 3) := by decide +kernel
theorem dX1_decode_26 : decode cX1_decode 26 = .ok (.iload_n 3, 1) := by decide +kernel
theorem dX1_decode_27 : decode cX1_decode 27 = .ok (.bipush 127, 2) := by decide +kernel
theorem dX1_decode_29 : decode cX1_decode 29 = .ok (.if_icmp .eq 98, 3) := by decide +kernel
theorem dX1_decode_32 : decode cX1_decode 32 = .ok (.iload_n 2, 1) := by decide +kernel
theorem dX1_decode_33 : decode cX1_decode 33 = .ok (.iload_n 3, 1) := by decide +kernel
theorem dX1_decode_34 : decode cX1_decode 34 = .ok (.iadd, 1) := by decide +kernel
theorem dX1_decode_35 : decode cX1_decode 35 = .ok (.istore_n 2, 1) := by decide +kernel
theorem dX1_decode_36 : decode cX1_decode 36 = .ok (.aload_n 0, 1) := by decide +kernel
theorem dX1_decode_37 : decode cX1_decode 37 = .ok (.invokevirtual 51, 3) := by decide +kernel
theorem dX1_decode_40 : decode cX1_decode 40 = .ok (.istore 5, 2) := by decide +kernel
theorem dX1_decode_42 : decode cX1_decode 42 = .ok (.iconst 0, 1) := by decide +kernel
theorem dX1_decode_43 : decode cX1_decode 43 = .ok (.istore 6, 2) := by decide +kernel
theorem dX1_decode_45 : decode cX1_decode 45 = .ok (.iconst 0, 1) := by decide +kernel
theorem dX1_decode_46 : decode cX1_decode 46 = .ok (.istore 7, 2) := by decide +kernel
theorem dX1_decode_48 : decode cX1_decode 48 = .ok (.iload 7, 2) := by decide +kernel
theorem dX1_decode_50 : decode cX1_decode 50 = .ok (.iload 5, 2) := by decide +kernel
theorem dX1_decode_52 : decode cX1_decode 52 = .ok (.if_icmp .ge 64, 3) := by decide +kernel
theorem dX1_decode_55 : decode cX1_decode 55 = .ok (.iload 6, 2) := by decide +kernel
theorem dX1_decode_57 : decode cX1_decode 57 = .ok (.aload_n 0, 1) := by decide +kernel
theorem dX1_decode_58 : decode cX1_decode 58 = .ok (.invokevirtual 51, 3) := by decide +kernel
theorem dX1_decode_61 : decode cX1_decode 61 = .ok (.iadd, 1) := by decide +kernel
theorem dX1_decode_62 : decode cX1_decode 62 = .ok (.istore 6, 2) := by decide +kernel
theorem dX1_decode_64 : decode cX1_decode 64 = .ok (.aload_n 0, 1) := by decide +kernel
theorem dX1_decode_65 : decode cX1_decode 65 = .ok (.invokevirtual 51, 3) := by decide +kernel
theorem dX1_decode_68 : decode cX1_decode 68 = .ok (.istore 8, 2) := by decide +kernel
theorem dX1_decode_70 : decode cX1_decode 70 = .ok (.iconst 0, 1) := by decide +kernel
theorem dX1_decode_71 : decode cX1_decode 71 = .ok (.istore 9, 2) := by decide +kernel
theorem dX1_decode_73 : decode cX1_decode 73 = .ok (.iconst 0, 1) := by decide +kernel
theorem dX1_decode_74 : decode cX1_decode 74 = .ok (.istore 10, 2) := by decide +kernel
theorem dX1_decode_76 : decode cX1_decode 76 = .ok (.iload 10, 2) := by decide +kernel
theorem dX1_decode_78 : decode cX1_decode 78 = .ok (.iload 8, 2) := by decide +kernel
theorem dX1_decode_80 : decode cX1_decode 80 = .ok (.if_icmp .ge 30, 3) := by decide +kernel
theorem dX1_decode_83 : decode cX1_decode 83 = .ok (.iload 9, 2) := by decide +kernel
theorem dX1_decode_85 : decode cX1_decode 85 = .ok (.aload_n 0, 1) := by decide +kernel
theorem dX1_decode_86 : decode cX1_decode 86 = .ok (.invokevirtual 51, 3) := by decide +kernel
theorem dX1_decode_89 : decode cX1_decode 89 = .ok (.iadd, 1) := by decide +kernel
theorem dX1_decode_90 : decode cX1_decode 90 = .ok (.istore 9, 2) := by decide +kernel
theorem dX1_decode_92 : decode cX1_decode 92 = .ok (.aload_n 1, 1) := by decide +kernel
theorem dX1_decode_93 : decode cX1_decode 93 = .ok (.iload_n 2, 1) := by decide +kernel
theorem dX1_decode_94 : decode cX1_decode 94 = .ok (.iload 6, 2) := by decide +kernel
theorem dX1_decode_96 : decode cX1_decode 96 = .ok (.iload 9, 2) := by decide +kernel
theorem dX1_decode_98 : decode cX1_decode 98 = .ok (.invokestatic 54, 3) := by decide +kernel
theorem dX1_decode_101 : decode cX1_decode 101 = .ok (.invokevirtual 58, 3) := by decide +kernel
theorem dX1_decode_104 : decode cX1_decode 104 = .ok (.iinc 10 1, 3) := by decide +kernel
theorem dX1_decode_107 : decode cX1_decode 107 = .ok (.goto (-31), 3) := by decide +kernel
theorem dX1_decode_110 : decode cX1_decode 110 = .ok (.iinc 7 1, 3) := by decide +kernel
theorem dX1_decode_113 : decode cX1_decode 113 = .ok (.goto (-65), 3) := by decide +kernel
theorem dX1_decode_116 : decode cX1_decode 116 = .ok (.aload_n 0, 1) := by decide +kernel
theorem dX1_decode_117 : decode cX1_decode 117 = .ok (.invokevirtual 51, 3) := by decide +kernel
theorem dX1_decode_120 : decode cX1_decode 120 = .ok (.istore_n 3, 1) := by decide +kernel
theorem dX1_decode_121 : decode cX1_decode 121 = .ok (.iinc 4 1, 3) := by decide +kernel
theorem dX1_decode_124 : decode cX1_decode 124 = .ok (.goto (-105), 3) := by decide +kernel
theorem dX1_decode_127 : decode cX1_decode 127 = .ok (.return_, 1) := by decide +kernel
theorem dX1_raise_0 : decode cX1_raise 0 = .ok (.iload_n 1, 1) := by decide +kernel
theorem dX1_raise_1 : decode cX1_raise 1 = .ok (.ifCond .lt 22, 3) := by decide +kernel
theorem dX1_raise_4 : decode cX1_raise 4 = .ok (.iload_n 1, 1) := by decide +kernel
theorem dX1_raise_5 : decode cX1_raise 5 = .ok (.aload_n 0, 1) := by decide +kernel
theorem dX1_raise_6 : decode cX1_raise 6 = .ok (.getfield 9, 3) := by decide +kernel
theorem dX1_raise_9 : decode cX1_raise 9 = .ok (.arraylength, 1) := by decide +kernel
theorem dX1_raise_10 : decode cX1_raise 10 = .ok (.if_icmp .ge 13, 3) := by decide +kernel
theorem dX1_raise_13 : decode cX1_raise 13 = .ok (.aload_n 0, 1) := by decide +kernel
theorem dX1_raise_14 : decode cX1_raise 14 = .ok (.getfield 9, 3) := by decide +kernel
theorem dX1_raise_17 : decode cX1_raise 17 = .ok (.iload_n 1, 1) := by decide +kernel
theorem dX1_raise_18 : decode cX1_raise 18 = .ok (.dup2, 1) := by decide +kernel
theorem dX1_raise_19 : decode cX1_raise 19 = .ok (.iaload, 1) := by decide +kernel
theorem dX1_raise_20 : decode cX1_raise 20 = .ok (.iconst 1, 1) := by decide +kernel
theorem dX1_raise_21 : decode cX1_raise 21 = .ok (.iadd, 1) := by decide +kernel
theorem dX1_raise_22 : decode cX1_raise 22 = .ok (.iastore, 1) := by decide +kernel
theorem dX1_raise_23 : decode cX1_raise 23 = .ok (.return_, 1) := by decide +kernel
theorem dX1_read_0 : decode cX1_read 0 = .ok (.aload_n 0, 1) := by decide +kernel
theorem dX1_read_1 : decode cX1_read 1 = .ok (.getfield 19, 3) := by decide +kernel
theorem dX1_read_4 : decode cX1_read 4 = .ok (.aload_n 0, 1) := by decide +kernel
theorem dX1_read_5 : decode cX1_read 5 = .ok (.getfield 15, 3) := by decide +kernel
theorem dX1_read_8 : decode cX1_read 8 = .ok (.if_icmp .ge 15, 3) := by decide +kernel
theorem dX1_read_11 : decode cX1_read 11 = .ok (.aload_n 0, 1) := by decide +kernel
theorem dX1_read_12 : decode cX1_read 12 = .ok (.getfield 19, 3) := by decide +kernel
theorem dX1_read_15 : decode cX1_read 15 = .ok (.aload_n 0, 1) := by decide +kernel
theorem dX1_read_16 : decode cX1_read 16 = .ok (.getfield 9, 3) := by decide +kernel
theorem dX1_read_19 : decode cX1_read 19 = .ok (.arraylength, 1) := by decide +kernel
theorem dX1_read_20 : decode cX1_read 20 = .ok (.if_icmp .lt 6, 3) := by decide +kernel
theorem dX1_read_23 : decode cX1_read 23 = .ok (.bipush 127, 2) := by decide +kernel
theorem dX1_read_25 : decode cX1_read 25 = .ok (.ireturn, 1) := by decide +kernel
theorem dX1_read_26 : decode cX1_read 26 = .ok (.aload_n 0, 1) := by decide +kernel
theorem dX1_read_27 : decode cX1_read 27 = .ok (.dup, 1) := by decide +kernel
theorem dX1_read_28 : decode cX1_read 28 = .ok (.getfield 19, 3) := by decide +kernel
theorem dX1_read_31 : decode cX1_read 31 = .ok (.iconst 1, 1) := by decide +kernel
theorem dX1_read_32 : decode cX1_read 32 = .ok (.iadd, 1) := by decide +kernel
theorem dX1_read_33 : decode cX1_read 33 = .ok (.putfield 19, 3) := by decide +kernel
theorem dX1_read_36 : decode cX1_read 36 = .ok (.aload_n 0, 1) := by decide +kernel
theorem dX1_read_37 : decode cX1_read 37 = .ok (.getfield 9, 3) := by decide +kernel
theorem dX1_read_40 : decode cX1_read 40 = .ok (.aload_n 0, 1) := by decide +kernel
theorem dX1_read_41 : decode cX1_read 41 = .ok (.getfield 19, 3) := by decide +kernel
theorem dX1_read_44 : decode cX1_read 44 = .ok (.iconst 1, 1) := by decide +kernel
theorem dX1_read_45 : decode cX1_read 45 = .ok (.isub, 1) := by decide +kernel
theorem dX1_read_46 : decode cX1_read 46 = .ok (.iaload, 1) := by decide +kernel
theorem dX1_read_47 : decode cX1_read 47 = .ok (.ireturn, 1) := by decide +kernel
