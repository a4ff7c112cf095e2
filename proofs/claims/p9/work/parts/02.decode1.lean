theorem dX10_further_9 : decode cX10_further 9 = .ok (.if_icmp .ge 29, 3) := by decide +kernel
theorem dX10_further_12 : decode cX10_further 12 = .ok (.iload_n 2, 1) := by decide +kernel
theorem dX10_further_13 : decode cX10_further 13 = .ok (.iconst 1, 1) := by decide +kernel
theorem dX10_further_14 : decode cX10_further 14 = .ok (.iand, 1) := by decide +kernel
theorem dX10_further_15 : decode cX10_further 15 = .ok (.iconst 1, 1) := by decide +kernel
theorem dX10_further_16 : decode cX10_further 16 = .ok (.if_icmp .ne 12, 3) := by decide +kernel
theorem dX10_further_19 : decode cX10_further 19 = .ok (.iload_n 2, 1) := by decide +kernel
theorem dX10_further_20 : decode cX10_further 20 = .ok (.iconst 1, 1) := by decide +kernel
theorem dX10_further_21 : decode cX10_further 21 = .ok (.ishr, 1) := by decide +kernel
theorem dX10_further_22 : decode cX10_further 22 = .ok (.ldc 92, 2) := by decide +kernel
theorem dX10_further_24 : decode cX10_further 24 = .ok (.ixor, 1) := by decide +kernel
theorem dX10_further_25 : decode cX10_further 25 = .ok (.goto 6, 3) := by decide +kernel
theorem dX10_further_28 : decode cX10_further 28 = .ok (.iload_n 2, 1) := by decide +kernel
theorem dX10_further_29 : decode cX10_further 29 = .ok (.iconst 1, 1) := by decide +kernel
theorem dX10_further_30 : decode cX10_further 30 = .ok (.ishr, 1) := by decide +kernel
theorem dX10_further_31 : decode cX10_further 31 = .ok (.istore_n 2, 1) := by decide +kernel
theorem dX10_further_32 : decode cX10_further 32 = .ok (.iinc 3 1, 3) := by decide +kernel
theorem dX10_further_35 : decode cX10_further 35 = .ok (.goto (-29), 3) := by decide +kernel
theorem dX10_further_38 : decode cX10_further 38 = .ok (.iload_n 2, 1) := by decide +kernel
theorem dX10_further_39 : decode cX10_further 39 = .ok (.ireturn, 1) := by decide +kernel
theorem dX10_checkOf_0 : decode cX10_checkOf 0 = .ok (.iconst 0, 1) := by decide +kernel
theorem dX10_checkOf_1 : decode cX10_checkOf 1 = .ok (.istore_n 3, 1) := by decide +kernel
theorem dX10_checkOf_2 : decode cX10_checkOf 2 = .ok (.iload_n 1, 1) := by decide +kernel
theorem dX10_checkOf_3 : decode cX10_checkOf 3 = .ok (.istore 4, 2) := by decide +kernel
theorem dX10_checkOf_5 : decode cX10_checkOf 5 = .ok (.iload 4, 2) := by decide +kernel
theorem dX10_checkOf_7 : decode cX10_checkOf 7 = .ok (.iload_n 2, 1) := by decide +kernel
theorem dX10_checkOf_8 : decode cX10_checkOf 8 = .ok (.if_icmp .ge 18, 3) := by decide +kernel
theorem dX10_checkOf_11 : decode cX10_checkOf 11 = .ok (.iload_n 3, 1) := by decide +kernel
theorem dX10_checkOf_12 : decode cX10_checkOf 12 = .ok (.aload_n 0, 1) := by decide +kernel
theorem dX10_checkOf_13 : decode cX10_checkOf 13 = .ok (.iload 4, 2) := by decide +kernel
theorem dX10_checkOf_15 : decode cX10_checkOf 15 = .ok (.iaload, 1) := by decide +kernel
theorem dX10_checkOf_16 : decode cX10_checkOf 16 = .ok (.invokestatic 93, 3) := by decide +kernel
theorem dX10_checkOf_19 : decode cX10_checkOf 19 = .ok (.istore_n 3, 1) := by decide +kernel
theorem dX10_checkOf_20 : decode cX10_checkOf 20 = .ok (.iinc 4 1, 3) := by decide +kernel
theorem dX10_checkOf_23 : decode cX10_checkOf 23 = .ok (.goto (-18), 3) := by decide +kernel
theorem dX10_checkOf_26 : decode cX10_checkOf 26 = .ok (.iload_n 3, 1) := by decide +kernel
theorem dX10_checkOf_27 : decode cX10_checkOf 27 = .ok (.ldc 59, 2) := by decide +kernel
theorem dX10_checkOf_29 : decode cX10_checkOf 29 = .ok (.ixor, 1) := by decide +kernel
theorem dX10_checkOf_30 : decode cX10_checkOf 30 = .ok (.ireturn, 1) := by decide +kernel
theorem dX10_isRight_0 : decode cX10_isRight 0 = .ok (.aload_n 0, 1) := by decide +kernel
theorem dX10_isRight_1 : decode cX10_isRight 1 = .ok (.iload_n 1, 1) := by decide +kernel
theorem dX10_isRight_2 : decode cX10_isRight 2 = .ok (.iload_n 2, 1) := by decide +kernel
theorem dX10_isRight_3 : decode cX10_isRight 3 = .ok (.invokestatic 97, 3) := by decide +kernel
theorem dX10_isRight_6 : decode cX10_isRight 6 = .ok (.istore_n 3, 1) := by decide +kernel
theorem dX10_isRight_7 : decode cX10_isRight 7 = .ok (.aload_n 0, 1) := by decide +kernel
theorem dX10_isRight_8 : decode cX10_isRight 8 = .ok (.iload_n 2, 1) := by decide +kernel
theorem dX10_isRight_9 : decode cX10_isRight 9 = .ok (.iaload, 1) := by decide +kernel
theorem dX10_isRight_10 : decode cX10_isRight 10 = .ok (.iload_n 3, 1) := by decide +kernel
theorem dX10_isRight_11 : decode cX10_isRight 11 = .ok (.sipush 255, 3) := by decide +kernel
theorem dX10_isRight_14 : decode cX10_isRight 14 = .ok (.iand, 1) := by decide +kernel
theorem dX10_isRight_15 : decode cX10_isRight 15 = .ok (.if_icmp .ne 19, 3) := by decide +kernel
theorem dX10_isRight_18 : decode cX10_isRight 18 = .ok (.aload_n 0, 1) := by decide +kernel
theorem dX10_isRight_19 : decode cX10_isRight 19 = .ok (.iload_n 2, 1) := by decide +kernel
theorem dX10_isRight_20 : decode cX10_isRight 20 = .ok (.iconst 1, 1) := by decide +kernel
theorem dX10_isRight_21 : decode cX10_isRight 21 = .ok (.iadd, 1) := by decide +kernel
theorem dX10_isRight_22 : decode cX10_isRight 22 = .ok (.iaload, 1) := by decide +kernel
theorem dX10_isRight_23 : decode cX10_isRight 23 = .ok (.iload_n 3, 1) := by decide +kernel
theorem dX10_isRight_24 : decode cX10_isRight 24 = .ok (.bipush 8, 2) := by decide +kernel
theorem dX10_isRight_26 : decode cX10_isRight 26 = .ok (.ishr, 1) := by decide +kernel
theorem dX10_isRight_27 : decode cX10_isRight 27 = .ok (.if_icmp .ne 7, 3) := by decide +kernel
theorem dX10_isRight_30 : decode cX10_isRight 30 = .ok (.iconst 1, 1) := by decide +kernel
theorem dX10_isRight_31 : decode cX10_isRight 31 = .ok (.goto 4, 3) := by decide +kernel
theorem dX10_isRight_34 : decode cX10_isRight 34 = .ok (.iconst 0, 1) := by decide +kernel
theorem dX10_isRight_35 : decode cX10_isRight 35 = .ok (.ireturn, 1) := by decide +kernel
theorem dX10_check_0 : decode cX10_check 0 = .ok (.aload_n 0, 1) := by decide +kernel
theorem dX10_check_1 : decode cX10_check 1 = .ok (.iload_n 2, 1) := by decide +kernel
theorem dX10_check_2 : decode cX10_check 2 = .ok (.ifCond .lt 10, 3) := by decide +kernel
theorem dX10_check_5 : decode cX10_check 5 = .ok (.iload_n 2, 1) := by decide +kernel
theorem dX10_check_6 : decode cX10_check 6 = .ok (.sipush 300, 3) := by decide +kernel
theorem dX10_check_9 : decode cX10_check 9 = .ok (.if_icmp .le 7, 3) := by decide +kernel
theorem dX10_check_12 : decode cX10_check 12 = .ok (.iconst 1, 1) := by decide +kernel
theorem dX10_check_13 : decode cX10_check 13 = .ok (.goto 4, 3) := by decide +kernel
theorem dX10_check_16 : decode cX10_check 16 = .ok (.iconst 0, 1) := by decide +kernel
theorem dX10_check_17 : decode cX10_check 17 = .ok (.putfield 89, 3) := by decide +kernel
theorem dX10_check_20 : decode cX10_check 20 = .ok (.iconst 0, 1) := by decide +kernel
theorem dX10_check_21 : decode cX10_check 21 = .ok (.istore_n 3, 1) := by decide +kernel
theorem dX10_check_22 : decode cX10_check 22 = .ok (.iconst 0, 1) := by decide +kernel
theorem dX10_check_23 : decode cX10_check 23 = .ok (.istore 4, 2) := by decide +kernel
theorem dX10_check_25 : decode cX10_check 25 = .ok (.iload 4, 2) := by decide +kernel
theorem dX10_check_27 : decode cX10_check 27 = .ok (.iload_n 2, 1) := by decide +kernel
theorem dX10_check_28 : decode cX10_check 28 = .ok (.if_icmp .ge 29, 3) := by decide +kernel
theorem dX10_check_31 : decode cX10_check 31 = .ok (.aload_n 0, 1) := by decide +kernel
theorem dX10_check_32 : decode cX10_check 32 = .ok (.getfield 89, 3) := by decide +kernel
theorem dX10_check_35 : decode cX10_check 35 = .ok (.ifCond .ne 22, 3) := by decide +kernel
theorem dX10_check_38 : decode cX10_check 38 = .ok (.iload_n 3, 1) := by decide +kernel
theorem dX10_check_39 : decode cX10_check 39 = .ok (.iload_n 1, 1) := by decide +kernel
theorem dX10_check_40 : decode cX10_check 40 = .ok (.iload 4, 2) := by decide +kernel
theorem dX10_check_42 : decode cX10_check 42 = .ok (.iadd, 1) := by decide +kernel
theorem dX10_check_43 : decode cX10_check 43 = .ok (.sipush 255, 3) := by decide +kernel
theorem dX10_check_46 : decode cX10_check 46 = .ok (.iand, 1) := by decide +kernel
theorem dX10_check_47 : decode cX10_check 47 = .ok (.invokestatic 93, 3) := by decide +kernel
theorem dX10_check_50 : decode cX10_check 50 = .ok (.istore_n 3, 1) := by decide +kernel
theorem dX10_check_51 : decode cX10_check 51 = .ok (.iinc 4 1, 3) := by decide +kernel
theorem dX10_check_54 : decode cX10_check 54 = .ok (.goto (-29), 3) := by decide +kernel
theorem dX10_check_57 : decode cX10_check 57 = .ok (.aload_n 0, 1) := by decide +kernel
theorem dX10_check_58 : decode cX10_check 58 = .ok (.getfield 89, 3) := by decide +kernel
theorem dX10_check_61 : decode cX10_check 61 = .ok (.ifCond .le 7, 3) := by decide +kernel
theorem dX10_check_64 : decode cX10_check 64 = .ok (.iconst 0, 1) := by decide +kernel
theorem dX10_check_65 : decode cX10_check 65 = .ok (.goto 7, 3) := by decide +kernel
theorem dX10_check_68 : decode cX10_check 68 = .ok (.iload_n 3, 1) := by decide +kernel
theorem dX10_check_69 : decode cX10_check 69 = .ok (.ldc 59, 2) := by decide +kernel
theorem dX10_check_71 : decode cX10_check 71 = .ok (.ixor, 1) := by decide +kernel
theorem dX10_check_72 : decode cX10_check 72 = .ok (.ireturn, 1) := by decide +kernel
theorem dX10_send_0 : decode cX10_send 0 = .ok (.bipush 10, 2) := by decide +kernel
theorem dX10_send_2 : decode cX10_send 2 = .ok (.istore_n 3, 1) := by decide +kernel
theorem dX10_send_3 : decode cX10_send 3 = .ok (.aload_n 0, 1) := by decide +kernel
theorem dX10_send_4 : decode cX10_send 4 = .ok (.getfield 28, 3) := by decide +kernel
theorem dX10_send_7 : decode cX10_send 7 = .ok (.iconst 0, 1) := by decide +kernel
theorem dX10_send_8 : decode cX10_send 8 = .ok (.iconst 5, 1) := by decide +kernel
theorem dX10_send_9 : decode cX10_send 9 = .ok (.iastore, 1) := by decide +kernel
theorem dX10_send_10 : decode cX10_send 10 = .ok (.aload_n 0, 1) := by decide +kernel
theorem dX10_send_11 : decode cX10_send 11 = .ok (.getfield 28, 3) := by decide +kernel
theorem dX10_send_14 : decode cX10_send 14 = .ok (.iconst 1, 1) := by decide +kernel
theorem dX10_send_15 : decode cX10_send 15 = .ok (.bipush 100, 2) := by decide +kernel
theorem dX10_send_17 : decode cX10_send 17 = .ok (.iastore, 1) := by decide +kernel
theorem dX10_send_18 : decode cX10_send 18 = .ok (.aload_n 0, 1) := by decide +kernel
theorem dX10_send_19 : decode cX10_send 19 = .ok (.getfield 28, 3) := by decide +kernel
theorem dX10_send_22 : decode cX10_send 22 = .ok (.iconst 2, 1) := by decide +kernel
theorem dX10_send_23 : decode cX10_send 23 = .ok (.iconst 5, 1) := by decide +kernel
theorem dX10_send_24 : decode cX10_send 24 = .ok (.iload_n 2, 1) := by decide +kernel
theorem dX10_send_25 : decode cX10_send 25 = .ok (.iadd, 1) := by decide +kernel
theorem dX10_send_26 : decode cX10_send 26 = .ok (.iastore, 1) := by decide +kernel
theorem dX10_send_27 : decode cX10_send 27 = .ok (.aload_n 0, 1) := by decide +kernel
theorem dX10_send_28 : decode cX10_send 28 = .ok (.getfield 28, 3) := by decide +kernel
theorem dX10_send_31 : decode cX10_send 31 = .ok (.iconst 3, 1) := by decide +kernel
theorem dX10_send_32 : decode cX10_send 32 = .ok (.iload_n 1, 1) := by decide +kernel
theorem dX10_send_33 : decode cX10_send 33 = .ok (.iastore, 1) := by decide +kernel
theorem dX10_send_34 : decode cX10_send 34 = .ok (.aload_n 0, 1) := by decide +kernel
theorem dX10_send_35 : decode cX10_send 35 = .ok (.getfield 28, 3) := by decide +kernel
theorem dX10_send_38 : decode cX10_send 38 = .ok (.iconst 4, 1) := by decide +kernel
theorem dX10_send_39 : decode cX10_send 39 = .ok (.aload_n 0, 1) := by decide +kernel
theorem dX10_send_40 : decode cX10_send 40 = .ok (.getfield 64, 3) := by decide +kernel
theorem dX10_send_43 : decode cX10_send 43 = .ok (.sipush 255, 3) := by decide +kernel
theorem dX10_send_46 : decode cX10_send 46 = .ok (.iand, 1) := by decide +kernel
theorem dX10_send_47 : decode cX10_send 47 = .ok (.iastore, 1) := by decide +kernel
theorem dX10_send_48 : decode cX10_send 48 = .ok (.aload_n 0, 1) := by decide +kernel
theorem dX10_send_49 : decode cX10_send 49 = .ok (.getfield 28, 3) := by decide +kernel
theorem dX10_send_52 : decode cX10_send 52 = .ok (.iconst 5, 1) := by decide +kernel
theorem dX10_send_53 : decode cX10_send 53 = .ok (.aload_n 0, 1) := by decide +kernel
theorem dX10_send_54 : decode cX10_send 54 = .ok (.getfield 64, 3) := by decide +kernel
theorem dX10_send_57 : decode cX10_send 57 = .ok (.bipush 8, 2) := by decide +kernel
theorem dX10_send_59 : decode cX10_send 59 = .ok (.ishr, 1) := by decide +kernel
theorem dX10_send_60 : decode cX10_send 60 = .ok (.iastore, 1) := by decide +kernel
theorem dX10_send_61 : decode cX10_send 61 = .ok (.aload_n 0, 1) := by decide +kernel
theorem dX10_send_62 : decode cX10_send 62 = .ok (.getfield 28, 3) := by decide +kernel
theorem dX10_send_65 : decode cX10_send 65 = .ok (.bipush 6, 2) := by decide +kernel
theorem dX10_send_67 : decode cX10_send 67 = .ok (.aload_n 0, 1) := by decide +kernel
theorem dX10_send_68 : decode cX10_send 68 = .ok (.getfield 60, 3) := by decide +kernel
theorem dX10_send_71 : decode cX10_send 71 = .ok (.sipush 255, 3) := by decide +kernel
theorem dX10_send_74 : decode cX10_send 74 = .ok (.iand, 1) := by decide +kernel
theorem dX10_send_75 : decode cX10_send 75 = .ok (.iastore, 1) := by decide +kernel
theorem dX10_send_76 : decode cX10_send 76 = .ok (.aload_n 0, 1) := by decide +kernel
theorem dX10_send_77 : decode cX10_send 77 = .ok (.getfield 28, 3) := by decide +kernel
theorem dX10_send_80 : decode cX10_send 80 = .ok (.bipush 7, 2) := by decide +kernel
theorem dX10_send_82 : decode cX10_send 82 = .ok (.aload_n 0, 1) := by decide +kernel
theorem dX10_send_83 : decode cX10_send 83 = .ok (.getfield 60, 3) := by decide +kernel
theorem dX10_send_86 : decode cX10_send 86 = .ok (.bipush 8, 2) := by decide +kernel
theorem dX10_send_88 : decode cX10_send 88 = .ok (.ishr, 1) := by decide +kernel
theorem dX10_send_89 : decode cX10_send 89 = .ok (.iastore, 1) := by decide +kernel
theorem dX10_send_90 : decode cX10_send 90 = .ok (.aload_n 0, 1) := by decide +kernel
theorem dX10_send_91 : decode cX10_send 91 = .ok (.bipush 8, 2) := by decide +kernel
theorem dX10_send_93 : decode cX10_send 93 = .ok (.aload_n 0, 1) := by decide +kernel
theorem dX10_send_94 : decode cX10_send 94 = .ok (.getfield 28, 3) := by decide +kernel
theorem dX10_send_97 : decode cX10_send 97 = .ok (.iconst 0, 1) := by decide +kernel
theorem dX10_send_98 : decode cX10_send 98 = .ok (.bipush 8, 2) := by decide +kernel
theorem dX10_send_100 : decode cX10_send 100 = .ok (.invokestatic 97, 3) := by decide +kernel
theorem dX10_send_103 : decode cX10_send 103 = .ok (.invokevirtual 101, 3) := by decide +kernel
theorem dX10_send_106 : decode cX10_send 106 = .ok (.iconst 0, 1) := by decide +kernel
theorem dX10_send_107 : decode cX10_send 107 = .ok (.istore 4, 2) := by decide +kernel
theorem dX10_send_109 : decode cX10_send 109 = .ok (.iload 4, 2) := by decide +kernel
theorem dX10_send_111 : decode cX10_send 111 = .ok (.iload_n 2, 1) := by decide +kernel
theorem dX10_send_112 : decode cX10_send 112 = .ok (.if_icmp .ge 116, 3) := by decide +kernel
theorem dX10_send_115 : decode cX10_send 115 = .ok (.iload_n 2, 1) := by decide +kernel
theorem dX10_send_116 : decode cX10_send 116 = .ok (.iload 4, 2) := by decide +kernel
theorem dX10_send_118 : decode cX10_send 118 = .ok (.isub, 1) := by decide +kernel
theorem dX10_send_119 : decode cX10_send 119 = .ok (.bipush 16, 2) := by decide +kernel
theorem dX10_send_121 : decode cX10_send 121 = .ok (.if_icmp .ge 10, 3) := by decide +kernel
theorem dX10_send_124 : decode cX10_send 124 = .ok (.iload_n 2, 1) := by decide +kernel
theorem dX10_send_125 : decode cX10_send 125 = .ok (.iload 4, 2) := by decide +kernel
theorem dX10_send_127 : decode cX10_send 127 = .ok (.isub, 1) := by decide +kernel
theorem dX10_send_128 : decode cX10_send 128 = .ok (.goto 5, 3) := by decide +kernel
theorem dX10_send_131 : decode cX10_send 131 = .ok (.bipush 16, 2) := by decide +kernel
theorem dX10_send_133 : decode cX10_send 133 = .ok (.istore 5, 2) := by decide +kernel
theorem dX10_send_135 : decode cX10_send 135 = .ok (.iconst 0, 1) := by decide +kernel
theorem dX10_send_136 : decode cX10_send 136 = .ok (.istore 6, 2) := by decide +kernel
theorem dX10_send_138 : decode cX10_send 138 = .ok (.iload 6, 2) := by decide +kernel
theorem dX10_send_140 : decode cX10_send 140 = .ok (.iload 5, 2) := by decide +kernel
theorem dX10_send_142 : decode cX10_send 142 = .ok (.if_icmp .ge 49, 3) := by decide +kernel
theorem dX10_send_145 : decode cX10_send 145 = .ok (.aload_n 0, 1) := by decide +kernel
theorem dX10_send_146 : decode cX10_send 146 = .ok (.getfield 28, 3) := by decide +kernel
theorem dX10_send_149 : decode cX10_send 149 = .ok (.iload_n 3, 1) := by decide +kernel
theorem dX10_send_150 : decode cX10_send 150 = .ok (.iload 6, 2) := by decide +kernel
theorem dX10_send_152 : decode cX10_send 152 = .ok (.iadd, 1) := by decide +kernel
theorem dX10_send_153 : decode cX10_send 153 = .ok (.iload 4, 2) := by decide +kernel
theorem dX10_send_155 : decode cX10_send 155 = .ok (.iload 6, 2) := by decide +kernel
theorem dX10_send_157 : decode cX10_send 157 = .ok (.iadd, 1) := by decide +kernel
theorem dX10_send_158 : decode cX10_send 158 = .ok (.ifCond .ne 14, 3) := by decide +kernel
theorem dX10_send_161 : decode cX10_send 161 = .ok (.sipush 192, 3) := by decide +kernel
theorem dX10_send_164 : decode cX10_send 164 = .ok (.aload_n 0, 1) := by decide +kernel
theorem dX10_send_165 : decode cX10_send 165 = .ok (.getfield 105, 3) := by decide +kernel
theorem dX10_send_168 : decode cX10_send 168 = .ok (.iadd, 1) := by decide +kernel
theorem dX10_send_169 : decode cX10_send 169 = .ok (.goto 15, 3) := by decide +kernel
theorem dX10_send_172 : decode cX10_send 172 = .ok (.aload_n 0, 1) := by decide +kernel
theorem dX10_send_173 : decode cX10_send 173 = .ok (.getfield 22, 3) := by decide +kernel
theorem dX10_send_176 : decode cX10_send 176 = .ok (.iload 4, 2) := by decide +kernel
theorem dX10_send_178 : decode cX10_send 178 = .ok (.iload 6, 2) := by decide +kernel
theorem dX10_send_180 : decode cX10_send 180 = .ok (.iadd, 1) := by decide +kernel
theorem dX10_send_181 : decode cX10_send 181 = .ok (.iconst 1, 1) := by decide +kernel
theorem dX10_send_182 : decode cX10_send 182 = .ok (.isub, 1) := by decide +kernel
theorem dX10_send_183 : decode cX10_send 183 = .ok (.iaload, 1) := by decide +kernel
theorem dX10_send_184 : decode cX10_send 184 = .ok (.iastore, 1) := by decide +kernel
theorem dX10_send_185 : decode cX10_send 185 = .ok (.iinc 6 1, 3) := by decide +kernel
theorem dX10_send_188 : decode cX10_send 188 = .ok (.goto (-50), 3) := by decide +kernel
theorem dX10_send_191 : decode cX10_send 191 = .ok (.aload_n 0, 1) := by decide +kernel
theorem dX10_send_192 : decode cX10_send 192 = .ok (.iload_n 3, 1) := by decide +kernel
theorem dX10_send_193 : decode cX10_send 193 = .ok (.iload 5, 2) := by decide +kernel
theorem dX10_send_195 : decode cX10_send 195 = .ok (.iadd, 1) := by decide +kernel
theorem dX10_send_196 : decode cX10_send 196 = .ok (.aload_n 0, 1) := by decide +kernel
theorem dX10_send_197 : decode cX10_send 197 = .ok (.getfield 28, 3) := by decide +kernel
theorem dX10_send_200 : decode cX10_send 200 = .ok (.iload_n 3, 1) := by decide +kernel
theorem dX10_send_201 : decode cX10_send 201 = .ok (.iload_n 3, 1) := by decide +kernel
theorem dX10_send_202 : decode cX10_send 202 = .ok (.iload 5, 2) := by decide +kernel
theorem dX10_send_204 : decode cX10_send 204 = .ok (.iadd, 1) := by decide +kernel
theorem dX10_send_205 : decode cX10_send 205 = .ok (.invokestatic 97, 3) := by decide +kernel
theorem dX10_send_208 : decode cX10_send 208 = .ok (.invokevirtual 101, 3) := by decide +kernel
theorem dX10_send_211 : decode cX10_send 211 = .ok (.iload_n 3, 1) := by decide +kernel
theorem dX10_send_212 : decode cX10_send 212 = .ok (.iload 5, 2) := by decide +kernel
theorem dX10_send_214 : decode cX10_send 214 = .ok (.iadd, 1) := by decide +kernel
theorem dX10_send_215 : decode cX10_send 215 = .ok (.iconst 2, 1) := by decide +kernel
theorem dX10_send_216 : decode cX10_send 216 = .ok (.iadd, 1) := by decide +kernel
theorem dX10_send_217 : decode cX10_send 217 = .ok (.istore_n 3, 1) := by decide +kernel
theorem dX10_send_218 : decode cX10_send 218 = .ok (.iload 4, 2) := by decide +kernel
theorem dX10_send_220 : decode cX10_send 220 = .ok (.bipush 16, 2) := by decide +kernel
theorem dX10_send_222 : decode cX10_send 222 = .ok (.iadd, 1) := by decide +kernel
theorem dX10_send_223 : decode cX10_send 223 = .ok (.istore 4, 2) := by decide +kernel
theorem dX10_send_225 : decode cX10_send 225 = .ok (.goto (-116), 3) := by decide +kernel
theorem dX10_send_228 : decode cX10_send 228 = .ok (.aload_n 0, 1) := by decide +kernel
theorem dX10_send_229 : decode cX10_send 229 = .ok (.iload_n 2, 1) := by decide +kernel
theorem dX10_send_230 : decode cX10_send 230 = .ok (.ifCond .le 15, 3) := by decide +kernel
theorem dX10_send_233 : decode cX10_send 233 = .ok (.aload_n 0, 1) := by decide +kernel
theorem dX10_send_234 : decode cX10_send 234 = .ok (.getfield 105, 3) := by decide +kernel
theorem dX10_send_237 : decode cX10_send 237 = .ok (.iconst 1, 1) := by decide +kernel
theorem dX10_send_238 : decode cX10_send 238 = .ok (.iadd, 1) := by decide +kernel
theorem dX10_send_239 : decode cX10_send 239 = .ok (.bipush 64, 2) := by decide +kernel
theorem dX10_send_241 : decode cX10_send 241 = .ok (.irem, 1) := by decide +kernel
theorem dX10_send_242 : decode cX10_send 242 = .ok (.goto 7, 3) := by decide +kernel
theorem dX10_send_245 : decode cX10_send 245 = .ok (.aload_n 0, 1) := by decide +kernel
theorem dX10_send_246 : decode cX10_send 246 = .ok (.getfield 105, 3) := by decide +kernel
theorem dX10_send_249 : decode cX10_send 249 = .ok (.putfield 105, 3) := by decide +kernel
theorem dX10_send_252 : decode cX10_send 252 = .ok (.aload_n 0, 1) := by decide +kernel
theorem dX10_send_253 : decode cX10_send 253 = .ok (.getfield 108, 3) := by decide +kernel
theorem dX10_send_256 : decode cX10_send 256 = .ok (.iload_n 3, 1) := by decide +kernel
theorem dX10_send_257 : decode cX10_send 257 = .ok (.iadd, 1) := by decide +kernel
theorem dX10_send_258 : decode cX10_send 258 = .ok (.sipush 4000, 3) := by decide +kernel
theorem dX10_send_261 : decode cX10_send 261 = .ok (.if_icmp .gt 47, 3) := by decide +kernel
theorem dX10_send_264 : decode cX10_send 264 = .ok (.iconst 0, 1) := by decide +kernel
theorem dX10_send_265 : decode cX10_send 265 = .ok (.istore 4, 2) := by decide +kernel
theorem dX10_send_267 : decode cX10_send 267 = .ok (.iload 4, 2) := by decide +kernel
theorem dX10_send_269 : decode cX10_send 269 = .ok (.iload_n 3, 1) := by decide +kernel
theorem dX10_send_270 : decode cX10_send 270 = .ok (.if_icmp .ge 28, 3) := by decide +kernel
theorem dX10_send_273 : decode cX10_send 273 = .ok (.aload_n 0, 1) := by decide +kernel
theorem dX10_send_274 : decode cX10_send 274 = .ok (.getfield 25, 3) := by decide +kernel
theorem dX10_send_277 : decode cX10_send 277 = .ok (.aload_n 0, 1) := by decide +kernel
theorem dX10_send_278 : decode cX10_send 278 = .ok (.getfield 108, 3) := by decide +kernel
theorem dX10_send_281 : decode cX10_send 281 = .ok (.iload 4, 2) := by decide +kernel
theorem dX10_send_283 : decode cX10_send 283 = .ok (.iadd, 1) := by decide +kernel
theorem dX10_send_284 : decode cX10_send 284 = .ok (.aload_n 0, 1) := by decide +kernel
theorem dX10_send_285 : decode cX10_send 285 = .ok (.getfield 28, 3) := by decide +kernel
theorem dX10_send_288 : decode cX10_send 288 = .ok (.iload 4, 2) := by decide +kernel
theorem dX10_send_290 : decode cX10_send 290 = .ok (.iaload, 1) := by decide +kernel
theorem dX10_send_291 : decode cX10_send 291 = .ok (.iastore, 1) := by decide +kernel
theorem dX10_send_292 : decode cX10_send 292 = .ok (.iinc 4 1, 3) := by decide +kernel
theorem dX10_send_295 : decode cX10_send 295 = .ok (.goto (-28), 3) := by decide +kernel
theorem dX10_send_298 : decode cX10_send 298 = .ok (.aload_n 0, 1) := by decide +kernel
theorem dX10_send_299 : decode cX10_send 299 = .ok (.aload_n 0, 1) := by decide +kernel
theorem dX10_send_300 : decode cX10_send 300 = .ok (.getfield 108, 3) := by decide +kernel
theorem dX10_send_303 : decode cX10_send 303 = .ok (.iload_n 3, 1) := by decide +kernel
theorem dX10_send_304 : decode cX10_send 304 = .ok (.iadd, 1) := by decide +kernel
theorem dX10_send_305 : decode cX10_send 305 = .ok (.putfield 108, 3) := by decide +kernel
theorem dX10_send_308 : decode cX10_send 308 = .ok (.return_, 1) := by decide +kernel
theorem dX10_put_0 : decode cX10_put 0 = .ok (.aload_n 0, 1) := by decide +kernel
theorem dX10_put_1 : decode cX10_put 1 = .ok (.getfield 28, 3) := by decide +kernel
theorem dX10_put_4 : decode cX10_put 4 = .ok (.iload_n 1, 1) := by decide +kernel
theorem dX10_put_5 : decode cX10_put 5 = .ok (.iload_n 2, 1) := by decide +kernel
theorem dX10_put_6 : decode cX10_put 6 = .ok (.sipush 255, 3) := by decide +kernel
theorem dX10_put_9 : decode cX10_put 9 = .ok (.iand, 1) := by decide +kernel
theorem dX10_put_10 : decode cX10_put 10 = .ok (.iastore, 1) := by decide +kernel
theorem dX10_put_11 : decode cX10_put 11 = .ok (.aload_n 0, 1) := by decide +kernel
theorem dX10_put_12 : decode cX10_put 12 = .ok (.getfield 28, 3) := by decide +kernel
theorem dX10_put_15 : decode cX10_put 15 = .ok (.iload_n 1, 1) := by decide +kernel
theorem dX10_put_16 : decode cX10_put 16 = .ok (.iconst 1, 1) := by decide +kernel
theorem dX10_put_17 : decode cX10_put 17 = .ok (.iadd, 1) := by decide +kernel
theorem dX10_put_18 : decode cX10_put 18 = .ok (.iload_n 2, 1) := by decide +kernel
theorem dX10_put_19 : decode cX10_put 19 = .ok (.bipush 8, 2) := by decide +kernel
theorem dX10_put_21 : decode cX10_put 21 = .ok (.ishr, 1) := by decide +kernel
theorem dX10_put_22 : decode cX10_put 22 = .ok (.iastore, 1) := by decide +kernel
theorem dX10_put_23 : decode cX10_put 23 = .ok (.return_, 1) := by decide +kernel
theorem dX10_feed_0 : decode cX10_feed 0 = .ok (.aload_n 0, 1) := by decide +kernel
theorem dX10_feed_1 : decode cX10_feed 1 = .ok (.iload 6, 2) := by decide +kernel
theorem dX10_feed_3 : decode cX10_feed 3 = .ok (.iconst 1, 1) := by decide +kernel
theorem dX10_feed_4 : decode cX10_feed 4 = .ok (.if_icmp .lt 10, 3) := by decide +kernel
theorem dX10_feed_7 : decode cX10_feed 7 = .ok (.iload 6, 2) := by decide +kernel
theorem dX10_feed_9 : decode cX10_feed 9 = .ok (.bipush 20, 2) := by decide +kernel
theorem dX10_feed_11 : decode cX10_feed 11 = .ok (.if_icmp .le 7, 3) := by decide +kernel
theorem dX10_feed_14 : decode cX10_feed 14 = .ok (.iconst 1, 1) := by decide +kernel
theorem dX10_feed_15 : decode cX10_feed 15 = .ok (.goto 4, 3) := by decide +kernel
theorem dX10_feed_18 : decode cX10_feed 18 = .ok (.iconst 0, 1) := by decide +kernel
theorem dX10_feed_19 : decode cX10_feed 19 = .ok (.putfield 89, 3) := by decide +kernel
theorem dX10_feed_22 : decode cX10_feed 22 = .ok (.aload_n 0, 1) := by decide +kernel
theorem dX10_feed_23 : decode cX10_feed 23 = .ok (.getfield 89, 3) := by decide +kernel
theorem dX10_feed_26 : decode cX10_feed 26 = .ok (.ifCond .le 5, 3) := by decide +kernel
theorem dX10_feed_29 : decode cX10_feed 29 = .ok (.iconst 0, 1) := by decide +kernel
theorem dX10_feed_30 : decode cX10_feed 30 = .ok (.ireturn, 1) := by decide +kernel
theorem dX10_feed_31 : decode cX10_feed 31 = .ok (.iconst 0, 1) := by decide +kernel
theorem dX10_feed_32 : decode cX10_feed 32 = .ok (.istore 7, 2) := by decide +kernel
theorem dX10_feed_34 : decode cX10_feed 34 = .ok (.iload 7, 2) := by decide +kernel
theorem dX10_feed_36 : decode cX10_feed 36 = .ok (.iload 6, 2) := by decide +kernel
theorem dX10_feed_38 : decode cX10_feed 38 = .ok (.if_icmp .ge 93, 3) := by decide +kernel
theorem dX10_feed_41 : decode cX10_feed 41 = .ok (.iload 7, 2) := by decide +kernel
theorem dX10_feed_43 : decode cX10_feed 43 = .ok (.iconst 4, 1) := by decide +kernel
theorem dX10_feed_44 : decode cX10_feed 44 = .ok (.if_icmp .ge 7, 3) := by decide +kernel
theorem dX10_feed_47 : decode cX10_feed 47 = .ok (.iload_n 1, 1) := by decide +kernel
theorem dX10_feed_48 : decode cX10_feed 48 = .ok (.goto 39, 3) := by decide +kernel
theorem dX10_feed_51 : decode cX10_feed 51 = .ok (.iload 7, 2) := by decide +kernel
theorem dX10_feed_53 : decode cX10_feed 53 = .ok (.bipush 8, 2) := by decide +kernel
theorem dX10_feed_55 : decode cX10_feed 55 = .ok (.if_icmp .ge 7, 3) := by decide +kernel
theorem dX10_feed_58 : decode cX10_feed 58 = .ok (.iload_n 2, 1) := by decide +kernel
theorem dX10_feed_59 : decode cX10_feed 59 = .ok (.goto 28, 3) := by decide +kernel
theorem dX10_feed_62 : decode cX10_feed 62 = .ok (.iload 7, 2) := by decide +kernel
theorem dX10_feed_64 : decode cX10_feed 64 = .ok (.bipush 12, 2) := by decide +kernel
theorem dX10_feed_66 : decode cX10_feed 66 = .ok (.if_icmp .ge 7, 3) := by decide +kernel
theorem dX10_feed_69 : decode cX10_feed 69 = .ok (.iload_n 3, 1) := by decide +kernel
theorem dX10_feed_70 : decode cX10_feed 70 = .ok (.goto 17, 3) := by decide +kernel
theorem dX10_feed_73 : decode cX10_feed 73 = .ok (.iload 7, 2) := by decide +kernel
theorem dX10_feed_75 : decode cX10_feed 75 = .ok (.bipush 16, 2) := by decide +kernel
theorem dX10_feed_77 : decode cX10_feed 77 = .ok (.if_icmp .ge 8, 3) := by decide +kernel
theorem dX10_feed_80 : decode cX10_feed 80 = .ok (.iload 4, 2) := by decide +kernel
theorem dX10_feed_82 : decode cX10_feed 82 = .ok (.goto 5, 3) := by decide +kernel
theorem dX10_feed_85 : decode cX10_feed 85 = .ok (.iload 5, 2) := by decide +kernel
theorem dX10_feed_87 : decode cX10_feed 87 = .ok (.istore 8, 2) := by decide +kernel
theorem dX10_feed_89 : decode cX10_feed 89 = .ok (.aload_n 0, 1) := by decide +kernel
theorem dX10_feed_90 : decode cX10_feed 90 = .ok (.getfield 7, 3) := by decide +kernel
theorem dX10_feed_93 : decode cX10_feed 93 = .ok (.aload_n 0, 1) := by decide +kernel
theorem dX10_feed_94 : decode cX10_feed 94 = .ok (.getfield 111, 3) := by decide +kernel
theorem dX10_feed_97 : decode cX10_feed 97 = .ok (.iload 8, 2) := by decide +kernel
theorem dX10_feed_99 : decode cX10_feed 99 = .ok (.bipush 24, 2) := by decide +kernel
theorem dX10_feed_101 : decode cX10_feed 101 = .ok (.bipush 8, 2) := by decide +kernel
theorem dX10_feed_103 : decode cX10_feed 103 = .ok (.iload 7, 2) := by decide +kernel
theorem dX10_feed_105 : decode cX10_feed 105 = .ok (.iconst 4, 1) := by decide +kernel
theorem dX10_feed_106 : decode cX10_feed 106 = .ok (.irem, 1) := by decide +kernel
theorem dX10_feed_107 : decode cX10_feed 107 = .ok (.imul, 1) := by decide +kernel
theorem dX10_feed_108 : decode cX10_feed 108 = .ok (.isub, 1) := by decide +kernel
theorem dX10_feed_109 : decode cX10_feed 109 = .ok (.ishr, 1) := by decide +kernel
theorem dX10_feed_110 : decode cX10_feed 110 = .ok (.sipush 255, 3) := by decide +kernel
theorem dX10_feed_113 : decode cX10_feed 113 = .ok (.iand, 1) := by decide +kernel
theorem dX10_feed_114 : decode cX10_feed 114 = .ok (.iastore, 1) := by decide +kernel
theorem dX10_feed_115 : decode cX10_feed 115 = .ok (.aload_n 0, 1) := by decide +kernel
theorem dX10_feed_116 : decode cX10_feed 116 = .ok (.dup, 1) := by decide +kernel
theorem dX10_feed_117 : decode cX10_feed 117 = .ok (.getfield 111, 3) := by decide +kernel
theorem dX10_feed_120 : decode cX10_feed 120 = .ok (.iconst 1, 1) := by decide +kernel
theorem dX10_feed_121 : decode cX10_feed 121 = .ok (.iadd, 1) := by decide +kernel
theorem dX10_feed_122 : decode cX10_feed 122 = .ok (.putfield 111, 3) := by decide +kernel
theorem dX10_feed_125 : decode cX10_feed 125 = .ok (.iinc 7 1, 3) := by decide +kernel
theorem dX10_feed_128 : decode cX10_feed 128 = .ok (.goto (-94), 3) := by decide +kernel
theorem dX10_feed_131 : decode cX10_feed 131 = .ok (.aload_n 0, 1) := by decide +kernel
theorem dX10_feed_132 : decode cX10_feed 132 = .ok (.getfield 114, 3) := by decide +kernel
theorem dX10_feed_135 : decode cX10_feed 135 = .ok (.istore 7, 2) := by decide +kernel
theorem dX10_feed_137 : decode cX10_feed 137 = .ok (.iconst 1, 1) := by decide +kernel
theorem dX10_feed_138 : decode cX10_feed 138 = .ok (.istore 8, 2) := by decide +kernel
theorem dX10_feed_140 : decode cX10_feed 140 = .ok (.iload 8, 2) := by decide +kernel
theorem dX10_feed_142 : decode cX10_feed 142 = .ok (.ifCond .eq 12, 3) := by decide +kernel
theorem dX10_feed_145 : decode cX10_feed 145 = .ok (.aload_n 0, 1) := by decide +kernel
theorem dX10_feed_146 : decode cX10_feed 146 = .ok (.invokevirtual 117, 3) := by decide +kernel
theorem dX10_feed_149 : decode cX10_feed 149 = .ok (.istore 8, 2) := by decide +kernel
theorem dX10_feed_151 : decode cX10_feed 151 = .ok (.goto (-11), 3) := by decide +kernel
theorem dX10_feed_154 : decode cX10_feed 154 = .ok (.aload_n 0, 1) := by decide +kernel
theorem dX10_feed_155 : decode cX10_feed 155 = .ok (.getfield 114, 3) := by decide +kernel
theorem dX10_feed_158 : decode cX10_feed 158 = .ok (.iload 7, 2) := by decide +kernel
theorem dX10_feed_160 : decode cX10_feed 160 = .ok (.isub, 1) := by decide +kernel
theorem dX10_feed_161 : decode cX10_feed 161 = .ok (.ireturn, 1) := by decide +kernel
theorem dX10_drop_0 : decode cX10_drop 0 = .ok (.aload_n 0, 1) := by decide +kernel
theorem dX10_drop_1 : decode cX10_drop 1 = .ok (.aload_n 0, 1) := by decide +kernel
theorem dX10_drop_2 : decode cX10_drop 2 = .ok (.getfield 111, 3) := by decide +kernel
theorem dX10_drop_5 : decode cX10_drop 5 = .ok (.iload_n 1, 1) := by decide +kernel
theorem dX10_drop_6 : decode cX10_drop 6 = .ok (.isub, 1) := by decide +kernel
theorem dX10_drop_7 : decode cX10_drop 7 = .ok (.putfield 111, 3) := by decide +kernel
theorem dX10_drop_10 : decode cX10_drop 10 = .ok (.iconst 0, 1) := by decide +kernel
theorem dX10_drop_11 : decode cX10_drop 11 = .ok (.istore_n 2, 1) := by decide +kernel
theorem dX10_drop_12 : decode cX10_drop 12 = .ok (.iload_n 2, 1) := by decide +kernel
theorem dX10_drop_13 : decode cX10_drop 13 = .ok (.aload_n 0, 1) := by decide +kernel
theorem dX10_drop_14 : decode cX10_drop 14 = .ok (.getfield 111, 3) := by decide +kernel
theorem dX10_drop_17 : decode cX10_drop 17 = .ok (.if_icmp .ge 23, 3) := by decide +kernel
theorem dX10_drop_20 : decode cX10_drop 20 = .ok (.aload_n 0, 1) := by decide +kernel
theorem dX10_drop_21 : decode cX10_drop 21 = .ok (.getfield 7, 3) := by decide +kernel
theorem dX10_drop_24 : decode cX10_drop 24 = .ok (.iload_n 2, 1) := by decide +kernel
theorem dX10_drop_25 : decode cX10_drop 25 = .ok (.aload_n 0, 1) := by decide +kernel
theorem dX10_drop_26 : decode cX10_drop 26 = .ok (.getfield 7, 3) := by decide +kernel
theorem dX10_drop_29 : decode cX10_drop 29 = .ok (.iload_n 2, 1) := by decide +kernel
theorem dX10_drop_30 : decode cX10_drop 30 = .ok (.iload_n 1, 1) := by decide +kernel
theorem dX10_drop_31 : decode cX10_drop 31 = .ok (.iadd, 1) := by decide +kernel
theorem dX10_drop_32 : decode cX10_drop 32 = .ok (.iaload, 1) := by decide +kernel
theorem dX10_drop_33 : decode cX10_drop 33 = .ok (.iastore, 1) := by decide +kernel
theorem dX10_drop_34 : decode cX10_drop 34 = .ok (.iinc 2 1, 3) := by decide +kernel
theorem dX10_drop_37 : decode cX10_drop 37 = .ok (.goto (-25), 3) := by decide +kernel
theorem dX10_drop_40 : decode cX10_drop 40 = .ok (.return_, 1) := by decide +kernel
theorem dX10_look_0 : decode cX10_look 0 = .ok (.aload_n 0, 1) := by decide +kernel
theorem dX10_look_1 : decode cX10_look 1 = .ok (.getfield 111, 3) := by decide +kernel
theorem dX10_look_4 : decode cX10_look 4 = .ok (.iconst 2, 1) := by decide +kernel
theorem dX10_look_5 : decode cX10_look 5 = .ok (.if_icmp .ge 5, 3) := by decide +kernel
theorem dX10_look_8 : decode cX10_look 8 = .ok (.iconst 0, 1) := by decide +kernel
theorem dX10_look_9 : decode cX10_look 9 = .ok (.ireturn, 1) := by decide +kernel
theorem dX10_look_10 : decode cX10_look 10 = .ok (.aload_n 0, 1) := by decide +kernel
theorem dX10_look_11 : decode cX10_look 11 = .ok (.getfield 7, 3) := by decide +kernel
theorem dX10_look_14 : decode cX10_look 14 = .ok (.iconst 0, 1) := by decide +kernel
theorem dX10_look_15 : decode cX10_look 15 = .ok (.iaload, 1) := by decide +kernel
theorem dX10_look_16 : decode cX10_look 16 = .ok (.iconst 5, 1) := by decide +kernel
theorem dX10_look_17 : decode cX10_look 17 = .ok (.if_icmp .ne 14, 3) := by decide +kernel
theorem dX10_look_20 : decode cX10_look 20 = .ok (.aload_n 0, 1) := by decide +kernel
theorem dX10_look_21 : decode cX10_look 21 = .ok (.getfield 7, 3) := by decide +kernel
theorem dX10_look_24 : decode cX10_look 24 = .ok (.iconst 1, 1) := by decide +kernel
theorem dX10_look_25 : decode cX10_look 25 = .ok (.iaload, 1) := by decide +kernel
theorem dX10_look_26 : decode cX10_look 26 = .ok (.bipush 100, 2) := by decide +kernel
theorem dX10_look_28 : decode cX10_look 28 = .ok (.if_icmp .eq 10, 3) := by decide +kernel
theorem dX10_look_31 : decode cX10_look 31 = .ok (.aload_n 0, 1) := by decide +kernel
theorem dX10_look_32 : decode cX10_look 32 = .ok (.iconst 1, 1) := by decide +kernel
theorem dX10_look_33 : decode cX10_look 33 = .ok (.invokevirtual 121, 3) := by decide +kernel
theorem dX10_look_36 : decode cX10_look 36 = .ok (.iconst 1, 1) := by decide +kernel
theorem dX10_look_37 : decode cX10_look 37 = .ok (.ireturn, 1) := by decide +kernel
theorem dX10_look_38 : decode cX10_look 38 = .ok (.aload_n 0, 1) := by decide +kernel
theorem dX10_look_39 : decode cX10_look 39 = .ok (.getfield 111, 3) := by decide +kernel
theorem dX10_look_42 : decode cX10_look 42 = .ok (.bipush 10, 2) := by decide +kernel
theorem dX10_look_44 : decode cX10_look 44 = .ok (.if_icmp .ge 5, 3) := by decide +kernel
theorem dX10_look_47 : decode cX10_look 47 = .ok (.iconst 0, 1) := by decide +kernel
theorem dX10_look_48 : decode cX10_look 48 = .ok (.ireturn, 1) := by decide +kernel
theorem dX10_look_49 : decode cX10_look 49 = .ok (.aload_n 0, 1) := by decide +kernel
theorem dX10_look_50 : decode cX10_look 50 = .ok (.getfield 7, 3) := by decide +kernel
theorem dX10_look_53 : decode cX10_look 53 = .ok (.iconst 2, 1) := by decide +kernel
theorem dX10_look_54 : decode cX10_look 54 = .ok (.iaload, 1) := by decide +kernel
theorem dX10_look_55 : decode cX10_look 55 = .ok (.iconst 5, 1) := by decide +kernel
theorem dX10_look_56 : decode cX10_look 56 = .ok (.if_icmp .lt 16, 3) := by decide +kernel
theorem dX10_look_59 : decode cX10_look 59 = .ok (.aload_n 0, 1) := by decide +kernel
theorem dX10_look_60 : decode cX10_look 60 = .ok (.getfield 7, 3) := by decide +kernel
theorem dX10_look_63 : decode cX10_look 63 = .ok (.iconst 0, 1) := by decide +kernel
theorem dX10_look_64 : decode cX10_look 64 = .ok (.bipush 8, 2) := by decide +kernel
theorem dX10_look_66 : decode cX10_look 66 = .ok (.invokestatic 125, 3) := by decide +kernel
theorem dX10_look_69 : decode cX10_look 69 = .ok (.ifCond .ne 10, 3) := by decide +kernel
theorem dX10_look_72 : decode cX10_look 72 = .ok (.aload_n 0, 1) := by decide +kernel
theorem dX10_look_73 : decode cX10_look 73 = .ok (.iconst 1, 1) := by decide +kernel
theorem dX10_look_74 : decode cX10_look 74 = .ok (.invokevirtual 121, 3) := by decide +kernel
theorem dX10_look_77 : decode cX10_look 77 = .ok (.iconst 1, 1) := by decide +kernel
theorem dX10_look_78 : decode cX10_look 78 = .ok (.ireturn, 1) := by decide +kernel
theorem dX10_look_79 : decode cX10_look 79 = .ok (.aload_n 0, 1) := by decide +kernel
theorem dX10_look_80 : decode cX10_look 80 = .ok (.getfield 7, 3) := by decide +kernel
theorem dX10_look_83 : decode cX10_look 83 = .ok (.iconst 2, 1) := by decide +kernel
theorem dX10_look_84 : decode cX10_look 84 = .ok (.iaload, 1) := by decide +kernel
theorem dX10_look_85 : decode cX10_look 85 = .ok (.iconst 5, 1) := by decide +kernel
theorem dX10_look_86 : decode cX10_look 86 = .ok (.isub, 1) := by decide +kernel
theorem dX10_look_87 : decode cX10_look 87 = .ok (.istore_n 1, 1) := by decide +kernel
theorem dX10_look_88 : decode cX10_look 88 = .ok (.bipush 10, 2) := by decide +kernel
theorem dX10_look_90 : decode cX10_look 90 = .ok (.iload_n 1, 1) := by decide +kernel
theorem dX10_look_91 : decode cX10_look 91 = .ok (.iadd, 1) := by decide +kernel
theorem dX10_look_92 : decode cX10_look 92 = .ok (.iconst 2, 1) := by decide +kernel
theorem dX10_look_93 : decode cX10_look 93 = .ok (.iload_n 1, 1) := by decide +kernel
theorem dX10_look_94 : decode cX10_look 94 = .ok (.bipush 15, 2) := by decide +kernel
theorem dX10_look_96 : decode cX10_look 96 = .ok (.iadd, 1) := by decide +kernel
theorem dX10_look_97 : decode cX10_look 97 = .ok (.bipush 16, 2) := by decide +kernel
theorem dX10_look_99 : decode cX10_look 99 = .ok (.idiv, 1) := by decide +kernel
theorem dX10_look_100 : decode cX10_look 100 = .ok (.imul, 1) := by decide +kernel
theorem dX10_look_101 : decode cX10_look 101 = .ok (.iadd, 1) := by decide +kernel
theorem dX10_look_102 : decode cX10_look 102 = .ok (.istore_n 2, 1) := by decide +kernel
theorem dX10_look_103 : decode cX10_look 103 = .ok (.aload_n 0, 1) := by decide +kernel
theorem dX10_look_104 : decode cX10_look 104 = .ok (.getfield 111, 3) := by decide +kernel
theorem dX10_look_107 : decode cX10_look 107 = .ok (.iload_n 2, 1) := by decide +kernel
theorem dX10_look_108 : decode cX10_look 108 = .ok (.if_icmp .ge 5, 3) := by decide +kernel
theorem dX10_look_111 : decode cX10_look 111 = .ok (.iconst 0, 1) := by decide +kernel
theorem dX10_look_112 : decode cX10_look 112 = .ok (.ireturn, 1) := by decide +kernel
theorem dX10_look_113 : decode cX10_look 113 = .ok (.iconst 1, 1) := by decide +kernel
theorem dX10_look_114 : decode cX10_look 114 = .ok (.istore_n 3, 1) := by decide +kernel
theorem dX10_look_115 : decode cX10_look 115 = .ok (.bipush 10, 2) := by decide +kernel
theorem dX10_look_117 : decode cX10_look 117 = .ok (.istore 4, 2) := by decide +kernel
theorem dX10_look_119 : decode cX10_look 119 = .ok (.aload_n 0, 1) := by decide +kernel
theorem dX10_look_120 : decode cX10_look 120 = .ok (.iconst 0, 1) := by decide +kernel
theorem dX10_look_121 : decode cX10_look 121 = .ok (.putfield 129, 3) := by decide +kernel
theorem dX10_look_124 : decode cX10_look 124 = .ok (.aload_n 0, 1) := by decide +kernel
theorem dX10_look_125 : decode cX10_look 125 = .ok (.getfield 129, 3) := by decide +kernel
theorem dX10_look_128 : decode cX10_look 128 = .ok (.iload_n 1, 1) := by decide +kernel
theorem dX10_look_129 : decode cX10_look 129 = .ok (.if_icmp .ge 115, 3) := by decide +kernel
theorem dX10_look_132 : decode cX10_look 132 = .ok (.iload_n 1, 1) := by decide +kernel
theorem dX10_look_133 : decode cX10_look 133 = .ok (.aload_n 0, 1) := by decide +kernel
theorem dX10_look_134 : decode cX10_look 134 = .ok (.getfield 129, 3) := by decide +kernel
theorem dX10_look_137 : decode cX10_look 137 = .ok (.isub, 1) := by decide +kernel
theorem dX10_look_138 : decode cX10_look 138 = .ok (.bipush 16, 2) := by decide +kernel
theorem dX10_look_140 : decode cX10_look 140 = .ok (.if_icmp .ge 12, 3) := by decide +kernel
theorem dX10_look_143 : decode cX10_look 143 = .ok (.iload_n 1, 1) := by decide +kernel
theorem dX10_look_144 : decode cX10_look 144 = .ok (.aload_n 0, 1) := by decide +kernel
theorem dX10_look_145 : decode cX10_look 145 = .ok (.getfield 129, 3) := by decide +kernel
theorem dX10_look_148 : decode cX10_look 148 = .ok (.isub, 1) := by decide +kernel
theorem dX10_look_149 : decode cX10_look 149 = .ok (.goto 5, 3) := by decide +kernel
theorem dX10_look_152 : decode cX10_look 152 = .ok (.bipush 16, 2) := by decide +kernel
theorem dX10_look_154 : decode cX10_look 154 = .ok (.istore 5, 2) := by decide +kernel
theorem dX10_look_156 : decode cX10_look 156 = .ok (.iload_n 3, 1) := by decide +kernel
theorem dX10_look_157 : decode cX10_look 157 = .ok (.ifCond .eq 24, 3) := by decide +kernel
theorem dX10_look_160 : decode cX10_look 160 = .ok (.aload_n 0, 1) := by decide +kernel
theorem dX10_look_161 : decode cX10_look 161 = .ok (.getfield 7, 3) := by decide +kernel
theorem dX10_look_164 : decode cX10_look 164 = .ok (.iload 4, 2) := by decide +kernel
theorem dX10_look_166 : decode cX10_look 166 = .ok (.iload 4, 2) := by decide +kernel
theorem dX10_look_168 : decode cX10_look 168 = .ok (.iload 5, 2) := by decide +kernel
theorem dX10_look_170 : decode cX10_look 170 = .ok (.iadd, 1) := by decide +kernel
theorem dX10_look_171 : decode cX10_look 171 = .ok (.invokestatic 125, 3) := by decide +kernel
theorem dX10_look_174 : decode cX10_look 174 = .ok (.ifCond .eq 7, 3) := by decide +kernel
theorem dX10_look_177 : decode cX10_look 177 = .ok (.iconst 1, 1) := by decide +kernel
theorem dX10_look_178 : decode cX10_look 178 = .ok (.goto 4, 3) := by decide +kernel
theorem dX10_look_181 : decode cX10_look 181 = .ok (.iconst 0, 1) := by decide +kernel
theorem dX10_look_182 : decode cX10_look 182 = .ok (.istore_n 3, 1) := by decide +kernel
theorem dX10_look_183 : decode cX10_look 183 = .ok (.iconst 0, 1) := by decide +kernel
theorem dX10_look_184 : decode cX10_look 184 = .ok (.istore 6, 2) := by decide +kernel
theorem dX10_look_186 : decode cX10_look 186 = .ok (.iload 6, 2) := by decide +kernel
theorem dX10_look_188 : decode cX10_look 188 = .ok (.iload 5, 2) := by decide +kernel
theorem dX10_look_190 : decode cX10_look 190 = .ok (.if_icmp .ge 31, 3) := by decide +kernel
theorem dX10_look_193 : decode cX10_look 193 = .ok (.aload_n 0, 1) := by decide +kernel
theorem dX10_look_194 : decode cX10_look 194 = .ok (.getfield 13, 3) := by decide +kernel
theorem dX10_look_197 : decode cX10_look 197 = .ok (.aload_n 0, 1) := by decide +kernel
theorem dX10_look_198 : decode cX10_look 198 = .ok (.getfield 129, 3) := by decide +kernel
theorem dX10_look_201 : decode cX10_look 201 = .ok (.iload 6, 2) := by decide +kernel
theorem dX10_look_203 : decode cX10_look 203 = .ok (.iadd, 1) := by decide +kernel
theorem dX10_look_204 : decode cX10_look 204 = .ok (.aload_n 0, 1) := by decide +kernel
theorem dX10_look_205 : decode cX10_look 205 = .ok (.getfield 7, 3) := by decide +kernel
theorem dX10_look_208 : decode cX10_look 208 = .ok (.iload 4, 2) := by decide +kernel
theorem dX10_look_210 : decode cX10_look 210 = .ok (.iload 6, 2) := by decide +kernel
theorem dX10_look_212 : decode cX10_look 212 = .ok (.iadd, 1) := by decide +kernel
theorem dX10_look_213 : decode cX10_look 213 = .ok (.iaload, 1) := by decide +kernel
theorem dX10_look_214 : decode cX10_look 214 = .ok (.iastore, 1) := by decide +kernel
theorem dX10_look_215 : decode cX10_look 215 = .ok (.iinc 6 1, 3) := by decide +kernel
theorem dX10_look_218 : decode cX10_look 218 = .ok (.goto (-32), 3) := by decide +kernel
theorem dX10_look_221 : decode cX10_look 221 = .ok (.aload_n 0, 1) := by decide +kernel
theorem dX10_look_222 : decode cX10_look 222 = .ok (.aload_n 0, 1) := by decide +kernel
theorem dX10_look_223 : decode cX10_look 223 = .ok (.getfield 129, 3) := by decide +kernel
theorem dX10_look_226 : decode cX10_look 226 = .ok (.iload 5, 2) := by decide +kernel
theorem dX10_look_228 : decode cX10_look 228 = .ok (.iadd, 1) := by decide +kernel
theorem dX10_look_229 : decode cX10_look 229 = .ok (.putfield 129, 3) := by decide +kernel
theorem dX10_look_232 : decode cX10_look 232 = .ok (.iload 4, 2) := by decide +kernel
theorem dX10_look_234 : decode cX10_look 234 = .ok (.iload 5, 2) := by decide +kernel
theorem dX10_look_236 : decode cX10_look 236 = .ok (.iadd, 1) := by decide +kernel
theorem dX10_look_237 : decode cX10_look 237 = .ok (.iconst 2, 1) := by decide +kernel
theorem dX10_look_238 : decode cX10_look 238 = .ok (.iadd, 1) := by decide +kernel
theorem dX10_look_239 : decode cX10_look 239 = .ok (.istore 4, 2) := by decide +kernel
theorem dX10_look_241 : decode cX10_look 241 = .ok (.goto (-117), 3) := by decide +kernel
theorem dX10_look_244 : decode cX10_look 244 = .ok (.aload_n 0, 1) := by decide +kernel
theorem dX10_look_245 : decode cX10_look 245 = .ok (.getfield 7, 3) := by decide +kernel
theorem dX10_look_248 : decode cX10_look 248 = .ok (.iconst 3, 1) := by decide +kernel
theorem dX10_look_249 : decode cX10_look 249 = .ok (.iaload, 1) := by decide +kernel
theorem dX10_look_250 : decode cX10_look 250 = .ok (.istore 5, 2) := by decide +kernel
theorem dX10_look_252 : decode cX10_look 252 = .ok (.aload_n 0, 1) := by decide +kernel
theorem dX10_look_253 : decode cX10_look 253 = .ok (.getfield 7, 3) := by decide +kernel
theorem dX10_look_256 : decode cX10_look 256 = .ok (.iconst 4, 1) := by decide +kernel
theorem dX10_look_257 : decode cX10_look 257 = .ok (.iaload, 1) := by decide +kernel
theorem dX10_look_258 : decode cX10_look 258 = .ok (.sipush 256, 3) := by decide +kernel
theorem dX10_look_261 : decode cX10_look 261 = .ok (.aload_n 0, 1) := by decide +kernel
theorem dX10_look_262 : decode cX10_look 262 = .ok (.getfield 7, 3) := by decide +kernel
theorem dX10_look_265 : decode cX10_look 265 = .ok (.iconst 5, 1) := by decide +kernel
theorem dX10_look_266 : decode cX10_look 266 = .ok (.iaload, 1) := by decide +kernel
theorem dX10_look_267 : decode cX10_look 267 = .ok (.imul, 1) := by decide +kernel
theorem dX10_look_268 : decode cX10_look 268 = .ok (.iadd, 1) := by decide +kernel
theorem dX10_look_269 : decode cX10_look 269 = .ok (.aload_n 0, 1) := by decide +kernel
theorem dX10_look_270 : decode cX10_look 270 = .ok (.getfield 60, 3) := by decide +kernel
theorem dX10_look_273 : decode cX10_look 273 = .ok (.if_icmp .ne 41, 3) := by decide +kernel
theorem dX10_look_276 : decode cX10_look 276 = .ok (.aload_n 0, 1) := by decide +kernel
theorem dX10_look_277 : decode cX10_look 277 = .ok (.getfield 7, 3) := by decide +kernel
theorem dX10_look_280 : decode cX10_look 280 = .ok (.bipush 6, 2) := by decide +kernel
theorem dX10_look_282 : decode cX10_look 282 = .ok (.iaload, 1) := by decide +kernel
theorem dX10_look_283 : decode cX10_look 283 = .ok (.sipush 256, 3) := by decide +kernel
theorem dX10_look_286 : decode cX10_look 286 = .ok (.aload_n 0, 1) := by decide +kernel
theorem dX10_look_287 : decode cX10_look 287 = .ok (.getfield 7, 3) := by decide +kernel
theorem dX10_look_290 : decode cX10_look 290 = .ok (.bipush 7, 2) := by decide +kernel
theorem dX10_look_292 : decode cX10_look 292 = .ok (.iaload, 1) := by decide +kernel
theorem dX10_look_293 : decode cX10_look 293 = .ok (.imul, 1) := by decide +kernel
theorem dX10_look_294 : decode cX10_look 294 = .ok (.iadd, 1) := by decide +kernel
theorem dX10_look_295 : decode cX10_look 295 = .ok (.aload_n 0, 1) := by decide +kernel
theorem dX10_look_296 : decode cX10_look 296 = .ok (.getfield 64, 3) := by decide +kernel
theorem dX10_look_299 : decode cX10_look 299 = .ok (.if_icmp .ne 15, 3) := by decide +kernel
theorem dX10_look_302 : decode cX10_look 302 = .ok (.iload 5, 2) := by decide +kernel
theorem dX10_look_304 : decode cX10_look 304 = .ok (.sipush 192, 3) := by decide +kernel
theorem dX10_look_307 : decode cX10_look 307 = .ok (.if_icmp .lt 7, 3) := by decide +kernel
theorem dX10_look_310 : decode cX10_look 310 = .ok (.iconst 1, 1) := by decide +kernel
theorem dX10_look_311 : decode cX10_look 311 = .ok (.goto 4, 3) := by decide +kernel
theorem dX10_look_314 : decode cX10_look 314 = .ok (.iconst 0, 1) := by decide +kernel
theorem dX10_look_315 : decode cX10_look 315 = .ok (.istore 6, 2) := by decide +kernel
theorem dX10_look_317 : decode cX10_look 317 = .ok (.aload_n 0, 1) := by decide +kernel
theorem dX10_look_318 : decode cX10_look 318 = .ok (.iload_n 2, 1) := by decide +kernel
theorem dX10_look_319 : decode cX10_look 319 = .ok (.invokevirtual 121, 3) := by decide +kernel
theorem dX10_look_322 : decode cX10_look 322 = .ok (.iload_n 3, 1) := by decide +kernel
theorem dX10_look_323 : decode cX10_look 323 = .ok (.ifCond .ne 16, 3) := by decide +kernel
theorem dX10_look_326 : decode cX10_look 326 = .ok (.aload_n 0, 1) := by decide +kernel
theorem dX10_look_327 : decode cX10_look 327 = .ok (.dup, 1) := by decide +kernel
theorem dX10_look_328 : decode cX10_look 328 = .ok (.getfield 132, 3) := by decide +kernel
theorem dX10_look_331 : decode cX10_look 331 = .ok (.iconst 1, 1) := by decide +kernel
theorem dX10_look_332 : decode cX10_look 332 = .ok (.iadd, 1) := by decide +kernel
theorem dX10_look_333 : decode cX10_look 333 = .ok (.putfield 132, 3) := by decide +kernel
theorem dX10_look_336 : decode cX10_look 336 = .ok (.goto 37, 3) := by decide +kernel
theorem dX10_look_339 : decode cX10_look 339 = .ok (.iload 6, 2) := by decide +kernel
theorem dX10_look_341 : decode cX10_look 341 = .ok (.ifCond .ne 16, 3) := by decide +kernel
theorem dX10_look_344 : decode cX10_look 344 = .ok (.aload_n 0, 1) := by decide +kernel
theorem dX10_look_345 : decode cX10_look 345 = .ok (.dup, 1) := by decide +kernel
theorem dX10_look_346 : decode cX10_look 346 = .ok (.getfield 135, 3) := by decide +kernel
theorem dX10_look_349 : decode cX10_look 349 = .ok (.iconst 1, 1) := by decide +kernel
theorem dX10_look_350 : decode cX10_look 350 = .ok (.iadd, 1) := by decide +kernel
theorem dX10_look_351 : decode cX10_look 351 = .ok (.putfield 135, 3) := by decide +kernel
theorem dX10_look_354 : decode cX10_look 354 = .ok (.goto 19, 3) := by decide +kernel
theorem dX10_look_357 : decode cX10_look 357 = .ok (.aload_n 0, 1) := by decide +kernel
theorem dX10_look_358 : decode cX10_look 358 = .ok (.dup, 1) := by decide +kernel
theorem dX10_look_359 : decode cX10_look 359 = .ok (.getfield 114, 3) := by decide +kernel
theorem dX10_look_362 : decode cX10_look 362 = .ok (.iconst 1, 1) := by decide +kernel
theorem dX10_look_363 : decode cX10_look 363 = .ok (.iadd, 1) := by decide +kernel
theorem dX10_look_364 : decode cX10_look 364 = .ok (.putfield 114, 3) := by decide +kernel
theorem dX10_look_367 : decode cX10_look 367 = .ok (.aload_n 0, 1) := by decide +kernel
theorem dX10_look_368 : decode cX10_look 368 = .ok (.iload 5, 2) := by decide +kernel
theorem dX10_look_370 : decode cX10_look 370 = .ok (.invokevirtual 138, 3) := by decide +kernel
theorem dX10_look_373 : decode cX10_look 373 = .ok (.iconst 1, 1) := by decide +kernel
theorem dX10_look_374 : decode cX10_look 374 = .ok (.ireturn, 1) := by decide +kernel
theorem dX10_link_0 : decode cX10_link 0 = .ok (.iload_n 1, 1) := by decide +kernel
theorem dX10_link_1 : decode cX10_link 1 = .ok (.bipush 15, 2) := by decide +kernel
theorem dX10_link_3 : decode cX10_link 3 = .ok (.iand, 1) := by decide +kernel
theorem dX10_link_4 : decode cX10_link 4 = .ok (.istore_n 2, 1) := by decide +kernel
theorem dX10_link_5 : decode cX10_link 5 = .ok (.iload_n 1, 1) := by decide +kernel
theorem dX10_link_6 : decode cX10_link 6 = .ok (.iconst 5, 1) := by decide +kernel
theorem dX10_link_7 : decode cX10_link 7 = .ok (.ishr, 1) := by decide +kernel
theorem dX10_link_8 : decode cX10_link 8 = .ok (.iconst 1, 1) := by decide +kernel
theorem dX10_link_9 : decode cX10_link 9 = .ok (.iand, 1) := by decide +kernel
theorem dX10_link_10 : decode cX10_link 10 = .ok (.istore_n 3, 1) := by decide +kernel
theorem dX10_link_11 : decode cX10_link 11 = .ok (.iload_n 2, 1) := by decide +kernel
theorem dX10_link_12 : decode cX10_link 12 = .ok (.ifCond .ne 22, 3) := by decide +kernel
theorem dX10_link_15 : decode cX10_link 15 = .ok (.aload_n 0, 1) := by decide +kernel
theorem dX10_link_16 : decode cX10_link 16 = .ok (.iconst 1, 1) := by decide +kernel
theorem dX10_link_17 : decode cX10_link 17 = .ok (.putfield 141, 3) := by decide +kernel
theorem dX10_link_20 : decode cX10_link 20 = .ok (.aload_n 0, 1) := by decide +kernel
theorem dX10_link_21 : decode cX10_link 21 = .ok (.iconst 1, 1) := by decide +kernel
theorem dX10_link_22 : decode cX10_link 22 = .ok (.putfield 144, 3) := by decide +kernel
theorem dX10_link_25 : decode cX10_link 25 = .ok (.aload_n 0, 1) := by decide +kernel
theorem dX10_link_26 : decode cX10_link 26 = .ok (.iconst 0, 1) := by decide +kernel
theorem dX10_link_27 : decode cX10_link 27 = .ok (.iconst 0, 1) := by decide +kernel
theorem dX10_link_28 : decode cX10_link 28 = .ok (.invokevirtual 147, 3) := by decide +kernel
theorem dX10_link_31 : decode cX10_link 31 = .ok (.goto 119, 3) := by decide +kernel
theorem dX10_link_34 : decode cX10_link 34 = .ok (.iload_n 2, 1) := by decide +kernel
theorem dX10_link_35 : decode cX10_link 35 = .ok (.iconst 2, 1) := by decide +kernel
theorem dX10_link_36 : decode cX10_link 36 = .ok (.if_icmp .eq 8, 3) := by decide +kernel
theorem dX10_link_39 : decode cX10_link 39 = .ok (.iload_n 2, 1) := by decide +kernel
theorem dX10_link_40 : decode cX10_link 40 = .ok (.iconst 3, 1) := by decide +kernel
theorem dX10_link_41 : decode cX10_link 41 = .ok (.if_icmp .ne 79, 3) := by decide +kernel
theorem dX10_link_44 : decode cX10_link 44 = .ok (.aload_n 0, 1) := by decide +kernel
theorem dX10_link_45 : decode cX10_link 45 = .ok (.getfield 141, 3) := by decide +kernel
theorem dX10_link_48 : decode cX10_link 48 = .ok (.ifCond .ne 12, 3) := by decide +kernel
theorem dX10_link_51 : decode cX10_link 51 = .ok (.aload_n 0, 1) := by decide +kernel
theorem dX10_link_52 : decode cX10_link 52 = .ok (.iconst 1, 1) := by decide +kernel
theorem dX10_link_53 : decode cX10_link 53 = .ok (.iconst 0, 1) := by decide +kernel
theorem dX10_link_54 : decode cX10_link 54 = .ok (.invokevirtual 147, 3) := by decide +kernel
theorem dX10_link_57 : decode cX10_link 57 = .ok (.goto 93, 3) := by decide +kernel
theorem dX10_link_60 : decode cX10_link 60 = .ok (.iload_n 3, 1) := by decide +kernel
theorem dX10_link_61 : decode cX10_link 61 = .ok (.aload_n 0, 1) := by decide +kernel
theorem dX10_link_62 : decode cX10_link 62 = .ok (.getfield 144, 3) := by decide +kernel
theorem dX10_link_65 : decode cX10_link 65 = .ok (.if_icmp .ne 7, 3) := by decide +kernel
theorem dX10_link_68 : decode cX10_link 68 = .ok (.iconst 1, 1) := by decide +kernel
theorem dX10_link_69 : decode cX10_link 69 = .ok (.goto 4, 3) := by decide +kernel
theorem dX10_link_72 : decode cX10_link 72 = .ok (.iconst 0, 1) := by decide +kernel
theorem dX10_link_73 : decode cX10_link 73 = .ok (.istore 4, 2) := by decide +kernel
theorem dX10_link_75 : decode cX10_link 75 = .ok (.aload_n 0, 1) := by decide +kernel
theorem dX10_link_76 : decode cX10_link 76 = .ok (.iload 4, 2) := by decide +kernel
theorem dX10_link_78 : decode cX10_link 78 = .ok (.ifCond .eq 12, 3) := by decide +kernel
theorem dX10_link_81 : decode cX10_link 81 = .ok (.iconst 1, 1) := by decide +kernel
theorem dX10_link_82 : decode cX10_link 82 = .ok (.aload_n 0, 1) := by decide +kernel
theorem dX10_link_83 : decode cX10_link 83 = .ok (.getfield 144, 3) := by decide +kernel
theorem dX10_link_86 : decode cX10_link 86 = .ok (.isub, 1) := by decide +kernel
theorem dX10_link_87 : decode cX10_link 87 = .ok (.goto 7, 3) := by decide +kernel
theorem dX10_link_90 : decode cX10_link 90 = .ok (.aload_n 0, 1) := by decide +kernel
theorem dX10_link_91 : decode cX10_link 91 = .ok (.getfield 144, 3) := by decide +kernel
theorem dX10_link_94 : decode cX10_link 94 = .ok (.putfield 144, 3) := by decide +kernel
theorem dX10_link_97 : decode cX10_link 97 = .ok (.aload_n 0, 1) := by decide +kernel
theorem dX10_link_98 : decode cX10_link 98 = .ok (.iconst 0, 1) := by decide +kernel
theorem dX10_link_99 : decode cX10_link 99 = .ok (.iconst 0, 1) := by decide +kernel
theorem dX10_link_100 : decode cX10_link 100 = .ok (.invokevirtual 147, 3) := by decide +kernel
theorem dX10_link_103 : decode cX10_link 103 = .ok (.iload 4, 2) := by decide +kernel
theorem dX10_link_105 : decode cX10_link 105 = .ok (.ifCond .eq 12, 3) := by decide +kernel
theorem dX10_link_108 : decode cX10_link 108 = .ok (.iload_n 2, 1) := by decide +kernel
theorem dX10_link_109 : decode cX10_link 109 = .ok (.iconst 3, 1) := by decide +kernel
theorem dX10_link_110 : decode cX10_link 110 = .ok (.if_icmp .ne 7, 3) := by decide +kernel
theorem dX10_link_113 : decode cX10_link 113 = .ok (.aload_n 0, 1) := by decide +kernel
theorem dX10_link_114 : decode cX10_link 114 = .ok (.invokevirtual 150, 3) := by decide +kernel
theorem dX10_link_117 : decode cX10_link 117 = .ok (.goto 33, 3) := by decide +kernel
theorem dX10_link_120 : decode cX10_link 120 = .ok (.iload_n 2, 1) := by decide +kernel
theorem dX10_link_121 : decode cX10_link 121 = .ok (.iconst 4, 1) := by decide +kernel
theorem dX10_link_122 : decode cX10_link 122 = .ok (.if_icmp .ne 10, 3) := by decide +kernel
theorem dX10_link_125 : decode cX10_link 125 = .ok (.aload_n 0, 1) := by decide +kernel
theorem dX10_link_126 : decode cX10_link 126 = .ok (.invokevirtual 150, 3) := by decide +kernel
theorem dX10_link_129 : decode cX10_link 129 = .ok (.goto 21, 3) := by decide +kernel
theorem dX10_link_132 : decode cX10_link 132 = .ok (.aload_n 0, 1) := by decide +kernel
theorem dX10_link_133 : decode cX10_link 133 = .ok (.iload_n 2, 1) := by decide +kernel
theorem dX10_link_134 : decode cX10_link 134 = .ok (.bipush 9, 2) := by decide +kernel
theorem dX10_link_136 : decode cX10_link 136 = .ok (.if_icmp .ne 8, 3) := by decide +kernel
theorem dX10_link_139 : decode cX10_link 139 = .ok (.bipush 11, 2) := by decide +kernel
theorem dX10_link_141 : decode cX10_link 141 = .ok (.goto 5, 3) := by decide +kernel
theorem dX10_link_144 : decode cX10_link 144 = .ok (.bipush 15, 2) := by decide +kernel
theorem dX10_link_146 : decode cX10_link 146 = .ok (.iconst 0, 1) := by decide +kernel
theorem dX10_link_147 : decode cX10_link 147 = .ok (.invokevirtual 147, 3) := by decide +kernel
theorem dX10_link_150 : decode cX10_link 150 = .ok (.return_, 1) := by decide +kernel
theorem dX10_takeData_0 : decode cX10_takeData 0 = .ok (.aload_n 0, 1) := by decide +kernel
theorem dX10_takeData_1 : decode cX10_takeData 1 = .ok (.getfield 129, 3) := by decide +kernel
theorem dX10_takeData_4 : decode cX10_takeData 4 = .ok (.ifCond .ne 9, 3) := by decide +kernel
theorem dX10_takeData_7 : decode cX10_takeData 7 = .ok (.aload_n 0, 1) := by decide +kernel
theorem dX10_takeData_8 : decode cX10_takeData 8 = .ok (.iconst (-1), 1) := by decide +kernel
theorem dX10_takeData_9 : decode cX10_takeData 9 = .ok (.putfield 77, 3) := by decide +kernel
theorem dX10_takeData_12 : decode cX10_takeData 12 = .ok (.return_, 1) := by decide +kernel
theorem dX10_takeData_13 : decode cX10_takeData 13 = .ok (.aload_n 0, 1) := by decide +kernel
theorem dX10_takeData_14 : decode cX10_takeData 14 = .ok (.getfield 13, 3) := by decide +kernel
theorem dX10_takeData_17 : decode cX10_takeData 17 = .ok (.iconst 0, 1) := by decide +kernel
theorem dX10_takeData_18 : decode cX10_takeData 18 = .ok (.iaload, 1) := by decide +kernel
theorem dX10_takeData_19 : decode cX10_takeData 19 = .ok (.istore_n 1, 1) := by decide +kernel
theorem dX10_takeData_20 : decode cX10_takeData 20 = .ok (.iload_n 1, 1) := by decide +kernel
theorem dX10_takeData_21 : decode cX10_takeData 21 = .ok (.bipush 6, 2) := by decide +kernel
theorem dX10_takeData_23 : decode cX10_takeData 23 = .ok (.ishr, 1) := by decide +kernel
theorem dX10_takeData_24 : decode cX10_takeData 24 = .ok (.iconst 1, 1) := by decide +kernel
theorem dX10_takeData_25 : decode cX10_takeData 25 = .ok (.iand, 1) := by decide +kernel
theorem dX10_takeData_26 : decode cX10_takeData 26 = .ok (.iconst 1, 1) := by decide +kernel
theorem dX10_takeData_27 : decode cX10_takeData 27 = .ok (.if_icmp .ne 7, 3) := by decide +kernel
theorem dX10_takeData_30 : decode cX10_takeData 30 = .ok (.iconst 1, 1) := by decide +kernel
theorem dX10_takeData_31 : decode cX10_takeData 31 = .ok (.goto 4, 3) := by decide +kernel
theorem dX10_takeData_34 : decode cX10_takeData 34 = .ok (.iconst 0, 1) := by decide +kernel
theorem dX10_takeData_35 : decode cX10_takeData 35 = .ok (.istore_n 2, 1) := by decide +kernel
theorem dX10_takeData_36 : decode cX10_takeData 36 = .ok (.iload_n 2, 1) := by decide +kernel
theorem dX10_takeData_37 : decode cX10_takeData 37 = .ok (.ifCond .ne 26, 3) := by decide +kernel
theorem dX10_takeData_40 : decode cX10_takeData 40 = .ok (.aload_n 0, 1) := by decide +kernel
theorem dX10_takeData_41 : decode cX10_takeData 41 = .ok (.getfield 77, 3) := by decide +kernel
theorem dX10_takeData_44 : decode cX10_takeData 44 = .ok (.ifCond .lt 23, 3) := by decide +kernel
theorem dX10_takeData_47 : decode cX10_takeData 47 = .ok (.iload_n 1, 1) := by decide +kernel
theorem dX10_takeData_48 : decode cX10_takeData 48 = .ok (.bipush 63, 2) := by decide +kernel
theorem dX10_takeData_50 : decode cX10_takeData 50 = .ok (.iand, 1) := by decide +kernel
theorem dX10_takeData_51 : decode cX10_takeData 51 = .ok (.aload_n 0, 1) := by decide +kernel
theorem dX10_takeData_52 : decode cX10_takeData 52 = .ok (.getfield 153, 3) := by decide +kernel
theorem dX10_takeData_55 : decode cX10_takeData 55 = .ok (.iconst 1, 1) := by decide +kernel
theorem dX10_takeData_56 : decode cX10_takeData 56 = .ok (.iadd, 1) := by decide +kernel
theorem dX10_takeData_57 : decode cX10_takeData 57 = .ok (.bipush 64, 2) := by decide +kernel
theorem dX10_takeData_59 : decode cX10_takeData 59 = .ok (.irem, 1) := by decide +kernel
theorem dX10_takeData_60 : decode cX10_takeData 60 = .ok (.if_icmp .ne 7, 3) := by decide +kernel
theorem dX10_takeData_63 : decode cX10_takeData 63 = .ok (.iconst 1, 1) := by decide +kernel
theorem dX10_takeData_64 : decode cX10_takeData 64 = .ok (.goto 4, 3) := by decide +kernel
theorem dX10_takeData_67 : decode cX10_takeData 67 = .ok (.iconst 0, 1) := by decide +kernel
theorem dX10_takeData_68 : decode cX10_takeData 68 = .ok (.istore_n 3, 1) := by decide +kernel
theorem dX10_takeData_69 : decode cX10_takeData 69 = .ok (.iload_n 3, 1) := by decide +kernel
theorem dX10_takeData_70 : decode cX10_takeData 70 = .ok (.ifCond .ne 9, 3) := by decide +kernel
theorem dX10_takeData_73 : decode cX10_takeData 73 = .ok (.aload_n 0, 1) := by decide +kernel
theorem dX10_takeData_74 : decode cX10_takeData 74 = .ok (.iconst (-1), 1) := by decide +kernel
theorem dX10_takeData_75 : decode cX10_takeData 75 = .ok (.putfield 77, 3) := by decide +kernel
theorem dX10_takeData_78 : decode cX10_takeData 78 = .ok (.return_, 1) := by decide +kernel
theorem dX10_takeData_79 : decode cX10_takeData 79 = .ok (.aload_n 0, 1) := by decide +kernel
theorem dX10_takeData_80 : decode cX10_takeData 80 = .ok (.iload_n 2, 1) := by decide +kernel
theorem dX10_takeData_81 : decode cX10_takeData 81 = .ok (.ifCond .eq 7, 3) := by decide +kernel
theorem dX10_takeData_84 : decode cX10_takeData 84 = .ok (.iconst 0, 1) := by decide +kernel
theorem dX10_takeData_85 : decode cX10_takeData 85 = .ok (.goto 7, 3) := by decide +kernel
theorem dX10_takeData_88 : decode cX10_takeData 88 = .ok (.aload_n 0, 1) := by decide +kernel
theorem dX10_takeData_89 : decode cX10_takeData 89 = .ok (.getfield 77, 3) := by decide +kernel
theorem dX10_takeData_92 : decode cX10_takeData 92 = .ok (.putfield 77, 3) := by decide +kernel
theorem dX10_takeData_95 : decode cX10_takeData 95 = .ok (.aload_n 0, 1) := by decide +kernel
theorem dX10_takeData_96 : decode cX10_takeData 96 = .ok (.iload_n 1, 1) := by decide +kernel
theorem dX10_takeData_97 : decode cX10_takeData 97 = .ok (.bipush 63, 2) := by decide +kernel
theorem dX10_takeData_99 : decode cX10_takeData 99 = .ok (.iand, 1) := by decide +kernel
theorem dX10_takeData_100 : decode cX10_takeData 100 = .ok (.putfield 153, 3) := by decide +kernel
theorem dX10_takeData_103 : decode cX10_takeData 103 = .ok (.iconst 1, 1) := by decide +kernel
theorem dX10_takeData_104 : decode cX10_takeData 104 = .ok (.istore 4, 2) := by decide +kernel
theorem dX10_takeData_106 : decode cX10_takeData 106 = .ok (.iload 4, 2) := by decide +kernel
theorem dX10_takeData_108 : decode cX10_takeData 108 = .ok (.aload_n 0, 1) := by decide +kernel
theorem dX10_takeData_109 : decode cX10_takeData 109 = .ok (.getfield 129, 3) := by decide +kernel
theorem dX10_takeData_112 : decode cX10_takeData 112 = .ok (.if_icmp .ge 35, 3) := by decide +kernel
theorem dX10_takeData_115 : decode cX10_takeData 115 = .ok (.aload_n 0, 1) := by decide +kernel
theorem dX10_takeData_116 : decode cX10_takeData 116 = .ok (.getfield 16, 3) := by decide +kernel
theorem dX10_takeData_119 : decode cX10_takeData 119 = .ok (.aload_n 0, 1) := by decide +kernel
theorem dX10_takeData_120 : decode cX10_takeData 120 = .ok (.getfield 77, 3) := by decide +kernel
theorem dX10_takeData_123 : decode cX10_takeData 123 = .ok (.aload_n 0, 1) := by decide +kernel
theorem dX10_takeData_124 : decode cX10_takeData 124 = .ok (.getfield 13, 3) := by decide +kernel
theorem dX10_takeData_127 : decode cX10_takeData 127 = .ok (.iload 4, 2) := by decide +kernel
theorem dX10_takeData_129 : decode cX10_takeData 129 = .ok (.iaload, 1) := by decide +kernel
theorem dX10_takeData_130 : decode cX10_takeData 130 = .ok (.iastore, 1) := by decide +kernel
theorem dX10_takeData_131 : decode cX10_takeData 131 = .ok (.aload_n 0, 1) := by decide +kernel
theorem dX10_takeData_132 : decode cX10_takeData 132 = .ok (.dup, 1) := by decide +kernel
theorem dX10_takeData_133 : decode cX10_takeData 133 = .ok (.getfield 77, 3) := by decide +kernel
theorem dX10_takeData_136 : decode cX10_takeData 136 = .ok (.iconst 1, 1) := by decide +kernel
theorem dX10_takeData_137 : decode cX10_takeData 137 = .ok (.iadd, 1) := by decide +kernel
theorem dX10_takeData_138 : decode cX10_takeData 138 = .ok (.putfield 77, 3) := by decide +kernel
theorem dX10_takeData_141 : decode cX10_takeData 141 = .ok (.iinc 4 1, 3) := by decide +kernel
theorem dX10_takeData_144 : decode cX10_takeData 144 = .ok (.goto (-38), 3) := by decide +kernel
theorem dX10_takeData_147 : decode cX10_takeData 147 = .ok (.aload_n 0, 1) := by decide +kernel
theorem dX10_takeData_148 : decode cX10_takeData 148 = .ok (.getfield 77, 3) := by decide +kernel
theorem dX10_takeData_151 : decode cX10_takeData 151 = .ok (.sipush 249, 3) := by decide +kernel
theorem dX10_takeData_154 : decode cX10_takeData 154 = .ok (.if_icmp .le 11, 3) := by decide +kernel
theorem dX10_takeData_157 : decode cX10_takeData 157 = .ok (.aload_n 0, 1) := by decide +kernel
theorem dX10_takeData_158 : decode cX10_takeData 158 = .ok (.iconst (-1), 1) := by decide +kernel
theorem dX10_takeData_159 : decode cX10_takeData 159 = .ok (.putfield 77, 3) := by decide +kernel
theorem dX10_takeData_162 : decode cX10_takeData 162 = .ok (.goto 44, 3) := by decide +kernel
theorem dX10_takeData_165 : decode cX10_takeData 165 = .ok (.iload_n 1, 1) := by decide +kernel
theorem dX10_takeData_166 : decode cX10_takeData 166 = .ok (.bipush 127, 2) := by decide +kernel
theorem dX10_takeData_168 : decode cX10_takeData 168 = .ok (.if_icmp .le 38, 3) := by decide +kernel
theorem dX10_takeData_171 : decode cX10_takeData 171 = .ok (.aload_n 0, 1) := by decide +kernel
theorem dX10_takeData_172 : decode cX10_takeData 172 = .ok (.getfield 77, 3) := by decide +kernel
theorem dX10_takeData_175 : decode cX10_takeData 175 = .ok (.istore 4, 2) := by decide +kernel
theorem dX10_takeData_177 : decode cX10_takeData 177 = .ok (.aload_n 0, 1) := by decide +kernel
theorem dX10_takeData_178 : decode cX10_takeData 178 = .ok (.iconst (-1), 1) := by decide +kernel
theorem dX10_takeData_179 : decode cX10_takeData 179 = .ok (.putfield 77, 3) := by decide +kernel
theorem dX10_takeData_182 : decode cX10_takeData 182 = .ok (.iload 4, 2) := by decide +kernel
theorem dX10_takeData_184 : decode cX10_takeData 184 = .ok (.iconst 2, 1) := by decide +kernel
theorem dX10_takeData_185 : decode cX10_takeData 185 = .ok (.if_icmp .lt 21, 3) := by decide +kernel
theorem dX10_takeData_188 : decode cX10_takeData 188 = .ok (.aload_n 0, 1) := by decide +kernel
theorem dX10_takeData_189 : decode cX10_takeData 189 = .ok (.getfield 16, 3) := by decide +kernel
theorem dX10_takeData_192 : decode cX10_takeData 192 = .ok (.iconst 0, 1) := by decide +kernel
theorem dX10_takeData_193 : decode cX10_takeData 193 = .ok (.iaload, 1) := by decide +kernel
theorem dX10_takeData_194 : decode cX10_takeData 194 = .ok (.sipush 192, 3) := by decide +kernel
theorem dX10_takeData_197 : decode cX10_takeData 197 = .ok (.if_icmp .lt 9, 3) := by decide +kernel
theorem dX10_takeData_200 : decode cX10_takeData 200 = .ok (.aload_n 0, 1) := by decide +kernel
theorem dX10_takeData_201 : decode cX10_takeData 201 = .ok (.iload 4, 2) := by decide +kernel
theorem dX10_takeData_203 : decode cX10_takeData 203 = .ok (.invokevirtual 156, 3) := by decide +kernel
theorem dX10_takeData_206 : decode cX10_takeData 206 = .ok (.return_, 1) := by decide +kernel
theorem dX10_ask_0 : decode cX10_ask 0 = .ok (.aload_n 0, 1) := by decide +kernel
theorem dX10_ask_1 : decode cX10_ask 1 = .ok (.dup, 1) := by decide +kernel
theorem dX10_ask_2 : decode cX10_ask 2 = .ok (.getfield 159, 3) := by decide +kernel
theorem dX10_ask_5 : decode cX10_ask 5 = .ok (.iconst 1, 1) := by decide +kernel
theorem dX10_ask_6 : decode cX10_ask 6 = .ok (.iadd, 1) := by decide +kernel
theorem dX10_ask_7 : decode cX10_ask 7 = .ok (.putfield 159, 3) := by decide +kernel
theorem dX10_ask_10 : decode cX10_ask 10 = .ok (.iload_n 1, 1) := by decide +kernel
theorem dX10_ask_11 : decode cX10_ask 11 = .ok (.aload_n 0, 1) := by decide +kernel
theorem dX10_ask_12 : decode cX10_ask 12 = .ok (.getfield 80, 3) := by decide +kernel
theorem dX10_ask_15 : decode cX10_ask 15 = .ok (.if_icmp .ne 7, 3) := by decide +kernel
theorem dX10_ask_18 : decode cX10_ask 18 = .ok (.iconst 1, 1) := by decide +kernel
theorem dX10_ask_19 : decode cX10_ask 19 = .ok (.goto 4, 3) := by decide +kernel
theorem dX10_ask_22 : decode cX10_ask 22 = .ok (.iconst 0, 1) := by decide +kernel
theorem dX10_ask_23 : decode cX10_ask 23 = .ok (.istore_n 2, 1) := by decide +kernel
theorem dX10_ask_24 : decode cX10_ask 24 = .ok (.iconst 0, 1) := by decide +kernel
theorem dX10_ask_25 : decode cX10_ask 25 = .ok (.istore_n 3, 1) := by decide +kernel
theorem dX10_ask_26 : decode cX10_ask 26 = .ok (.iload_n 3, 1) := by decide +kernel
theorem dX10_ask_27 : decode cX10_ask 27 = .ok (.iload_n 1, 1) := by decide +kernel
theorem dX10_ask_28 : decode cX10_ask 28 = .ok (.if_icmp .ge 34, 3) := by decide +kernel
theorem dX10_ask_31 : decode cX10_ask 31 = .ok (.iload_n 2, 1) := by decide +kernel
theorem dX10_ask_32 : decode cX10_ask 32 = .ok (.ifCond .eq 30, 3) := by decide +kernel
theorem dX10_ask_35 : decode cX10_ask 35 = .ok (.aload_n 0, 1) := by decide +kernel
theorem dX10_ask_36 : decode cX10_ask 36 = .ok (.getfield 16, 3) := by decide +kernel
theorem dX10_ask_39 : decode cX10_ask 39 = .ok (.iload_n 3, 1) := by decide +kernel
theorem dX10_ask_40 : decode cX10_ask 40 = .ok (.iaload, 1) := by decide +kernel
theorem dX10_ask_41 : decode cX10_ask 41 = .ok (.aload_n 0, 1) := by decide +kernel
theorem dX10_ask_42 : decode cX10_ask 42 = .ok (.getfield 19, 3) := by decide +kernel
theorem dX10_ask_45 : decode cX10_ask 45 = .ok (.iload_n 3, 1) := by decide +kernel
theorem dX10_ask_46 : decode cX10_ask 46 = .ok (.iaload, 1) := by decide +kernel
theorem dX10_ask_47 : decode cX10_ask 47 = .ok (.if_icmp .ne 7, 3) := by decide +kernel
theorem dX10_ask_50 : decode cX10_ask 50 = .ok (.iconst 1, 1) := by decide +kernel
theorem dX10_ask_51 : decode cX10_ask 51 = .ok (.goto 4, 3) := by decide +kernel
theorem dX10_ask_54 : decode cX10_ask 54 = .ok (.iconst 0, 1) := by decide +kernel
theorem dX10_ask_55 : decode cX10_ask 55 = .ok (.istore_n 2, 1) := by decide +kernel
theorem dX10_ask_56 : decode cX10_ask 56 = .ok (.iinc 3 1, 3) := by decide +kernel
theorem dX10_ask_59 : decode cX10_ask 59 = .ok (.goto (-33), 3) := by decide +kernel
theorem dX10_ask_62 : decode cX10_ask 62 = .ok (.iload_n 2, 1) := by decide +kernel
theorem dX10_ask_63 : decode cX10_ask 63 = .ok (.ifCond .eq 16, 3) := by decide +kernel
theorem dX10_ask_66 : decode cX10_ask 66 = .ok (.aload_n 0, 1) := by decide +kernel
theorem dX10_ask_67 : decode cX10_ask 67 = .ok (.bipush 68, 2) := by decide +kernel
theorem dX10_ask_69 : decode cX10_ask 69 = .ok (.aload_n 0, 1) := by decide +kernel
theorem dX10_ask_70 : decode cX10_ask 70 = .ok (.getfield 162, 3) := by decide +kernel
theorem dX10_ask_73 : decode cX10_ask 73 = .ok (.iconst 1, 1) := by decide +kernel
theorem dX10_ask_74 : decode cX10_ask 74 = .ok (.iadd, 1) := by decide +kernel
theorem dX10_ask_75 : decode cX10_ask 75 = .ok (.invokevirtual 147, 3) := by decide +kernel
theorem dX10_ask_78 : decode cX10_ask 78 = .ok (.return_, 1) := by decide +kernel
theorem dX10_ask_79 : decode cX10_ask 79 = .ok (.aload_n 0, 1) := by decide +kernel
theorem dX10_ask_80 : decode cX10_ask 80 = .ok (.getfield 16, 3) := by decide +kernel
theorem dX10_ask_83 : decode cX10_ask 83 = .ok (.iconst 0, 1) := by decide +kernel
theorem dX10_ask_84 : decode cX10_ask 84 = .ok (.iaload, 1) := by decide +kernel
theorem dX10_ask_85 : decode cX10_ask 85 = .ok (.bipush 15, 2) := by decide +kernel
theorem dX10_ask_87 : decode cX10_ask 87 = .ok (.iand, 1) := by decide +kernel
theorem dX10_ask_88 : decode cX10_ask 88 = .ok (.istore_n 3, 1) := by decide +kernel
theorem dX10_ask_89 : decode cX10_ask 89 = .ok (.aload_n 0, 1) := by decide +kernel
theorem dX10_ask_90 : decode cX10_ask 90 = .ok (.getfield 16, 3) := by decide +kernel
theorem dX10_ask_93 : decode cX10_ask 93 = .ok (.iconst 1, 1) := by decide +kernel
theorem dX10_ask_94 : decode cX10_ask 94 = .ok (.iaload, 1) := by decide +kernel
theorem dX10_ask_95 : decode cX10_ask 95 = .ok (.istore 4, 2) := by decide +kernel
theorem dX10_ask_97 : decode cX10_ask 97 = .ok (.iload 4, 2) := by decide +kernel
theorem dX10_ask_99 : decode cX10_ask 99 = .ok (.ifCond .ne 9, 3) := by decide +kernel
theorem dX10_ask_102 : decode cX10_ask 102 = .ok (.aload_n 0, 1) := by decide +kernel
theorem dX10_ask_103 : decode cX10_ask 103 = .ok (.iload_n 3, 1) := by decide +kernel
theorem dX10_ask_104 : decode cX10_ask 104 = .ok (.invokevirtual 165, 3) := by decide +kernel
theorem dX10_ask_107 : decode cX10_ask 107 = .ok (.return_, 1) := by decide +kernel
theorem dX10_ask_108 : decode cX10_ask 108 = .ok (.aload_n 0, 1) := by decide +kernel
theorem dX10_ask_109 : decode cX10_ask 109 = .ok (.iload 4, 2) := by decide +kernel
theorem dX10_ask_111 : decode cX10_ask 111 = .ok (.iconst 4, 1) := by decide +kernel
theorem dX10_ask_112 : decode cX10_ask 112 = .ok (.if_icmp .ne 10, 3) := by decide +kernel
theorem dX10_ask_115 : decode cX10_ask 115 = .ok (.aload_n 0, 1) := by decide +kernel
theorem dX10_ask_116 : decode cX10_ask 116 = .ok (.getfield 86, 3) := by decide +kernel
theorem dX10_ask_119 : decode cX10_ask 119 = .ok (.goto 4, 3) := by decide +kernel
theorem dX10_ask_122 : decode cX10_ask 122 = .ok (.iconst (-1), 1) := by decide +kernel
theorem dX10_ask_123 : decode cX10_ask 123 = .ok (.putfield 86, 3) := by decide +kernel
theorem dX10_ask_126 : decode cX10_ask 126 = .ok (.aload_n 0, 1) := by decide +kernel
theorem dX10_ask_127 : decode cX10_ask 127 = .ok (.iconst (-1), 1) := by decide +kernel
theorem dX10_ask_128 : decode cX10_ask 128 = .ok (.putfield 83, 3) := by decide +kernel
theorem dX10_ask_131 : decode cX10_ask 131 = .ok (.aload_n 0, 1) := by decide +kernel
theorem dX10_ask_132 : decode cX10_ask 132 = .ok (.invokevirtual 168, 3) := by decide +kernel
theorem dX10_ask_135 : decode cX10_ask 135 = .ok (.aload_n 0, 1) := by decide +kernel
theorem dX10_ask_136 : decode cX10_ask 136 = .ok (.iconst 0, 1) := by decide +kernel
theorem dX10_ask_137 : decode cX10_ask 137 = .ok (.putfield 171, 3) := by decide +kernel
theorem dX10_ask_140 : decode cX10_ask 140 = .ok (.aload_n 0, 1) := by decide +kernel
theorem dX10_ask_141 : decode cX10_ask 141 = .ok (.iconst 0, 1) := by decide +kernel
theorem dX10_ask_142 : decode cX10_ask 142 = .ok (.putfield 174, 3) := by decide +kernel
theorem dX10_ask_145 : decode cX10_ask 145 = .ok (.aload_n 0, 1) := by decide +kernel
theorem dX10_ask_146 : decode cX10_ask 146 = .ok (.iconst 0, 1) := by decide +kernel
theorem dX10_ask_147 : decode cX10_ask 147 = .ok (.putfield 177, 3) := by decide +kernel
theorem dX10_ask_150 : decode cX10_ask 150 = .ok (.aload_n 0, 1) := by decide +kernel
theorem dX10_ask_151 : decode cX10_ask 151 = .ok (.iconst 0, 1) := by decide +kernel
theorem dX10_ask_152 : decode cX10_ask 152 = .ok (.putfield 180, 3) := by decide +kernel
theorem dX10_ask_155 : decode cX10_ask 155 = .ok (.aload_n 0, 1) := by decide +kernel
theorem dX10_ask_156 : decode cX10_ask 156 = .ok (.iconst 4, 1) := by decide +kernel
theorem dX10_ask_157 : decode cX10_ask 157 = .ok (.putfield 162, 3) := by decide +kernel
theorem dX10_ask_160 : decode cX10_ask 160 = .ok (.iload 4, 2) := by decide +kernel
theorem dX10_ask_162 : decode cX10_ask 162 = .ok (.iconst 1, 1) := by decide +kernel
theorem dX10_ask_163 : decode cX10_ask 163 = .ok (.if_icmp .ne 11, 3) := by decide +kernel
theorem dX10_ask_166 : decode cX10_ask 166 = .ok (.aload_n 0, 1) := by decide +kernel
theorem dX10_ask_167 : decode cX10_ask 167 = .ok (.iload_n 1, 1) := by decide +kernel
theorem dX10_ask_168 : decode cX10_ask 168 = .ok (.invokevirtual 183, 3) := by decide +kernel
theorem dX10_ask_171 : decode cX10_ask 171 = .ok (.goto 45, 3) := by decide +kernel
theorem dX10_ask_174 : decode cX10_ask 174 = .ok (.iload 4, 2) := by decide +kernel
theorem dX10_ask_176 : decode cX10_ask 176 = .ok (.iconst 2, 1) := by decide +kernel
theorem dX10_ask_177 : decode cX10_ask 177 = .ok (.if_icmp .ne 11, 3) := by decide +kernel
theorem dX10_ask_180 : decode cX10_ask 180 = .ok (.aload_n 0, 1) := by decide +kernel
theorem dX10_ask_181 : decode cX10_ask 181 = .ok (.iload_n 1, 1) := by decide +kernel
theorem dX10_ask_182 : decode cX10_ask 182 = .ok (.invokevirtual 186, 3) := by decide +kernel
theorem dX10_ask_185 : decode cX10_ask 185 = .ok (.goto 31, 3) := by decide +kernel
theorem dX10_ask_188 : decode cX10_ask 188 = .ok (.iload 4, 2) := by decide +kernel
theorem dX10_ask_190 : decode cX10_ask 190 = .ok (.iconst 3, 1) := by decide +kernel
theorem dX10_ask_191 : decode cX10_ask 191 = .ok (.if_icmp .lt 20, 3) := by decide +kernel
theorem dX10_ask_194 : decode cX10_ask 194 = .ok (.iload 4, 2) := by decide +kernel
theorem dX10_ask_196 : decode cX10_ask 196 = .ok (.iconst 5, 1) := by decide +kernel
theorem dX10_ask_197 : decode cX10_ask 197 = .ok (.if_icmp .gt 14, 3) := by decide +kernel
theorem dX10_ask_200 : decode cX10_ask 200 = .ok (.aload_n 0, 1) := by decide +kernel
theorem dX10_ask_201 : decode cX10_ask 201 = .ok (.iload 4, 2) := by decide +kernel
theorem dX10_ask_203 : decode cX10_ask 203 = .ok (.iload_n 3, 1) := by decide +kernel
theorem dX10_ask_204 : decode cX10_ask 204 = .ok (.iload_n 1, 1) := by decide +kernel
theorem dX10_ask_205 : decode cX10_ask 205 = .ok (.invokevirtual 189, 3) := by decide +kernel
theorem dX10_ask_208 : decode cX10_ask 208 = .ok (.goto 8, 3) := by decide +kernel
theorem dX10_ask_211 : decode cX10_ask 211 = .ok (.aload_n 0, 1) := by decide +kernel
theorem dX10_ask_212 : decode cX10_ask 212 = .ok (.iconst 1, 1) := by decide +kernel
theorem dX10_ask_213 : decode cX10_ask 213 = .ok (.putfield 171, 3) := by decide +kernel
theorem dX10_ask_216 : decode cX10_ask 216 = .ok (.aload_n 0, 1) := by decide +kernel
theorem dX10_ask_217 : decode cX10_ask 217 = .ok (.getfield 22, 3) := by decide +kernel
theorem dX10_ask_220 : decode cX10_ask 220 = .ok (.iconst 0, 1) := by decide +kernel
theorem dX10_ask_221 : decode cX10_ask 221 = .ok (.sipush 192, 3) := by decide +kernel
theorem dX10_ask_224 : decode cX10_ask 224 = .ok (.iload_n 3, 1) := by decide +kernel
theorem dX10_ask_225 : decode cX10_ask 225 = .ok (.iadd, 1) := by decide +kernel
theorem dX10_ask_226 : decode cX10_ask 226 = .ok (.aload_n 0, 1) := by decide +kernel
theorem dX10_ask_227 : decode cX10_ask 227 = .ok (.getfield 174, 3) := by decide +kernel
theorem dX10_ask_230 : decode cX10_ask 230 = .ok (.ifCond .eq 8, 3) := by decide +kernel
theorem dX10_ask_233 : decode cX10_ask 233 = .ok (.bipush 32, 2) := by decide +kernel
theorem dX10_ask_235 : decode cX10_ask 235 = .ok (.goto 4, 3) := by decide +kernel
theorem dX10_ask_238 : decode cX10_ask 238 = .ok (.iconst 0, 1) := by decide +kernel
theorem dX10_ask_239 : decode cX10_ask 239 = .ok (.iadd, 1) := by decide +kernel
theorem dX10_ask_240 : decode cX10_ask 240 = .ok (.iastore, 1) := by decide +kernel
theorem dX10_ask_241 : decode cX10_ask 241 = .ok (.aload_n 0, 1) := by decide +kernel
theorem dX10_ask_242 : decode cX10_ask 242 = .ok (.getfield 22, 3) := by decide +kernel
theorem dX10_ask_245 : decode cX10_ask 245 = .ok (.iconst 1, 1) := by decide +kernel
theorem dX10_ask_246 : decode cX10_ask 246 = .ok (.sipush 129, 3) := by decide +kernel
theorem dX10_ask_249 : decode cX10_ask 249 = .ok (.iastore, 1) := by decide +kernel
theorem dX10_ask_250 : decode cX10_ask 250 = .ok (.aload_n 0, 1) := by decide +kernel
theorem dX10_ask_251 : decode cX10_ask 251 = .ok (.getfield 73, 3) := by decide +kernel
theorem dX10_ask_254 : decode cX10_ask 254 = .ok (.ifCond .eq 9, 3) := by decide +kernel
theorem dX10_ask_257 : decode cX10_ask 257 = .ok (.sipush 128, 3) := by decide +kernel
theorem dX10_ask_260 : decode cX10_ask 260 = .ok (.goto 4, 3) := by decide +kernel
theorem dX10_ask_263 : decode cX10_ask 263 = .ok (.iconst 0, 1) := by decide +kernel
theorem dX10_ask_264 : decode cX10_ask 264 = .ok (.istore 5, 2) := by decide +kernel
theorem dX10_ask_266 : decode cX10_ask 266 = .ok (.iconst 1, 1) := by decide +kernel
theorem dX10_ask_267 : decode cX10_ask 267 = .ok (.istore 6, 2) := by decide +kernel
theorem dX10_ask_269 : decode cX10_ask 269 = .ok (.iload 6, 2) := by decide +kernel
theorem dX10_ask_271 : decode cX10_ask 271 = .ok (.iconst 4, 1) := by decide +kernel
theorem dX10_ask_272 : decode cX10_ask 272 = .ok (.if_icmp .ge 61, 3) := by decide +kernel
theorem dX10_ask_275 : decode cX10_ask 275 = .ok (.iconst 0, 1) := by decide +kernel
theorem dX10_ask_276 : decode cX10_ask 276 = .ok (.istore 7, 2) := by decide +kernel
theorem dX10_ask_278 : decode cX10_ask 278 = .ok (.iload 7, 2) := by decide +kernel
theorem dX10_ask_280 : decode cX10_ask 280 = .ok (.aload_n 0, 1) := by decide +kernel
theorem dX10_ask_281 : decode cX10_ask 281 = .ok (.getfield 50, 3) := by decide +kernel
theorem dX10_ask_284 : decode cX10_ask 284 = .ok (.iload 6, 2) := by decide +kernel
theorem dX10_ask_286 : decode cX10_ask 286 = .ok (.iaload, 1) := by decide +kernel
theorem dX10_ask_287 : decode cX10_ask 287 = .ok (.if_icmp .ge 40, 3) := by decide +kernel
theorem dX10_ask_290 : decode cX10_ask 290 = .ok (.aload_n 0, 1) := by decide +kernel
theorem dX10_ask_291 : decode cX10_ask 291 = .ok (.getfield 47, 3) := by decide +kernel
theorem dX10_ask_294 : decode cX10_ask 294 = .ok (.iload 6, 2) := by decide +kernel
theorem dX10_ask_296 : decode cX10_ask 296 = .ok (.iload 7, 2) := by decide +kernel
theorem dX10_ask_298 : decode cX10_ask 298 = .ok (.invokestatic 193, 3) := by decide +kernel
theorem dX10_ask_301 : decode cX10_ask 301 = .ok (.iconst 3, 1) := by decide +kernel
theorem dX10_ask_302 : decode cX10_ask 302 = .ok (.iadd, 1) := by decide +kernel
theorem dX10_ask_303 : decode cX10_ask 303 = .ok (.iaload, 1) := by decide +kernel
theorem dX10_ask_304 : decode cX10_ask 304 = .ok (.ifCond .ne 13, 3) := by decide +kernel
theorem dX10_ask_307 : decode cX10_ask 307 = .ok (.iload 5, 2) := by decide +kernel
theorem dX10_ask_309 : decode cX10_ask 309 = .ok (.iconst 1, 1) := by decide +kernel
theorem dX10_ask_310 : decode cX10_ask 310 = .ok (.iload 6, 2) := by decide +kernel
theorem dX10_ask_312 : decode cX10_ask 312 = .ok (.ishl, 1) := by decide +kernel
theorem dX10_ask_313 : decode cX10_ask 313 = .ok (.ior, 1) := by decide +kernel
theorem dX10_ask_314 : decode cX10_ask 314 = .ok (.goto 5, 3) := by decide +kernel
theorem dX10_ask_317 : decode cX10_ask 317 = .ok (.iload 5, 2) := by decide +kernel
theorem dX10_ask_319 : decode cX10_ask 319 = .ok (.istore 5, 2) := by decide +kernel
theorem dX10_ask_321 : decode cX10_ask 321 = .ok (.iinc 7 1, 3) := by decide +kernel
theorem dX10_ask_324 : decode cX10_ask 324 = .ok (.goto (-46), 3) := by decide +kernel
theorem dX10_ask_327 : decode cX10_ask 327 = .ok (.iinc 6 1, 3) := by decide +kernel
theorem dX10_ask_330 : decode cX10_ask 330 = .ok (.goto (-61), 3) := by decide +kernel
theorem dX10_ask_333 : decode cX10_ask 333 = .ok (.aload_n 0, 1) := by decide +kernel
theorem dX10_ask_334 : decode cX10_ask 334 = .ok (.getfield 22, 3) := by decide +kernel
theorem dX10_ask_337 : decode cX10_ask 337 = .ok (.iconst 2, 1) := by decide +kernel
theorem dX10_ask_338 : decode cX10_ask 338 = .ok (.iload 5, 2) := by decide +kernel
theorem dX10_ask_340 : decode cX10_ask 340 = .ok (.iastore, 1) := by decide +kernel
theorem dX10_ask_341 : decode cX10_ask 341 = .ok (.aload_n 0, 1) := by decide +kernel
theorem dX10_ask_342 : decode cX10_ask 342 = .ok (.getfield 22, 3) := by decide +kernel
theorem dX10_ask_345 : decode cX10_ask 345 = .ok (.iconst 3, 1) := by decide +kernel
theorem dX10_ask_346 : decode cX10_ask 346 = .ok (.aload_n 0, 1) := by decide +kernel
theorem dX10_ask_347 : decode cX10_ask 347 = .ok (.getfield 171, 3) := by decide +kernel
theorem dX10_ask_350 : decode cX10_ask 350 = .ok (.aload_n 0, 1) := by decide +kernel
theorem dX10_ask_351 : decode cX10_ask 351 = .ok (.getfield 196, 3) := by decide +kernel
theorem dX10_ask_354 : decode cX10_ask 354 = .ok (.ifCond .eq 8, 3) := by decide +kernel
theorem dX10_ask_357 : decode cX10_ask 357 = .ok (.bipush 8, 2) := by decide +kernel
theorem dX10_ask_359 : decode cX10_ask 359 = .ok (.goto 4, 3) := by decide +kernel
theorem dX10_ask_362 : decode cX10_ask 362 = .ok (.iconst 0, 1) := by decide +kernel
theorem dX10_ask_363 : decode cX10_ask 363 = .ok (.iadd, 1) := by decide +kernel
theorem dX10_ask_364 : decode cX10_ask 364 = .ok (.iastore, 1) := by decide +kernel
theorem dX10_ask_365 : decode cX10_ask 365 = .ok (.aload_n 0, 1) := by decide +kernel
theorem dX10_ask_366 : decode cX10_ask 366 = .ok (.aload_n 0, 1) := by decide +kernel
theorem dX10_ask_367 : decode cX10_ask 367 = .ok (.getfield 174, 3) := by decide +kernel
theorem dX10_ask_370 : decode cX10_ask 370 = .ok (.ifCond .eq 7, 3) := by decide +kernel
theorem dX10_ask_373 : decode cX10_ask 373 = .ok (.iload_n 3, 1) := by decide +kernel
theorem dX10_ask_374 : decode cX10_ask 374 = .ok (.goto 4, 3) := by decide +kernel
theorem dX10_ask_377 : decode cX10_ask 377 = .ok (.iconst (-1), 1) := by decide +kernel
theorem dX10_ask_378 : decode cX10_ask 378 = .ok (.putfield 83, 3) := by decide +kernel
theorem dX10_ask_381 : decode cX10_ask 381 = .ok (.aload_n 0, 1) := by decide +kernel
theorem dX10_ask_382 : decode cX10_ask 382 = .ok (.iload_n 1, 1) := by decide +kernel
theorem dX10_ask_383 : decode cX10_ask 383 = .ok (.putfield 80, 3) := by decide +kernel
theorem dX10_ask_386 : decode cX10_ask 386 = .ok (.iconst 0, 1) := by decide +kernel
theorem dX10_ask_387 : decode cX10_ask 387 = .ok (.istore 6, 2) := by decide +kernel
theorem dX10_ask_389 : decode cX10_ask 389 = .ok (.iload 6, 2) := by decide +kernel
theorem dX10_ask_391 : decode cX10_ask 391 = .ok (.iload_n 1, 1) := by decide +kernel
theorem dX10_ask_392 : decode cX10_ask 392 = .ok (.if_icmp .ge 23, 3) := by decide +kernel
theorem dX10_ask_395 : decode cX10_ask 395 = .ok (.aload_n 0, 1) := by decide +kernel
theorem dX10_ask_396 : decode cX10_ask 396 = .ok (.getfield 19, 3) := by decide +kernel
theorem dX10_ask_399 : decode cX10_ask 399 = .ok (.iload 6, 2) := by decide +kernel
theorem dX10_ask_401 : decode cX10_ask 401 = .ok (.aload_n 0, 1) := by decide +kernel
theorem dX10_ask_402 : decode cX10_ask 402 = .ok (.getfield 16, 3) := by decide +kernel
theorem dX10_ask_405 : decode cX10_ask 405 = .ok (.iload 6, 2) := by decide +kernel
theorem dX10_ask_407 : decode cX10_ask 407 = .ok (.iaload, 1) := by decide +kernel
theorem dX10_ask_408 : decode cX10_ask 408 = .ok (.iastore, 1) := by decide +kernel
theorem dX10_ask_409 : decode cX10_ask 409 = .ok (.iinc 6 1, 3) := by decide +kernel
theorem dX10_ask_412 : decode cX10_ask 412 = .ok (.goto (-23), 3) := by decide +kernel
theorem dX10_ask_415 : decode cX10_ask 415 = .ok (.aload_n 0, 1) := by decide +kernel
theorem dX10_ask_416 : decode cX10_ask 416 = .ok (.bipush 68, 2) := by decide +kernel
theorem dX10_ask_418 : decode cX10_ask 418 = .ok (.aload_n 0, 1) := by decide +kernel
theorem dX10_ask_419 : decode cX10_ask 419 = .ok (.getfield 162, 3) := by decide +kernel
theorem dX10_ask_422 : decode cX10_ask 422 = .ok (.iconst 1, 1) := by decide +kernel
theorem dX10_ask_423 : decode cX10_ask 423 = .ok (.iadd, 1) := by decide +kernel
theorem dX10_ask_424 : decode cX10_ask 424 = .ok (.invokevirtual 147, 3) := by decide +kernel
theorem dX10_ask_427 : decode cX10_ask 427 = .ok (.return_, 1) := by decide +kernel
theorem dX10_confirm_0 : decode cX10_confirm 0 = .ok (.aload_n 0, 1) := by decide +kernel
theorem dX10_confirm_1 : decode cX10_confirm 1 = .ok (.getfield 83, 3) := by decide +kernel
theorem dX10_confirm_4 : decode cX10_confirm 4 = .ok (.iload_n 1, 1) := by decide +kernel
theorem dX10_confirm_5 : decode cX10_confirm 5 = .ok (.if_icmp .ne 82, 3) := by decide +kernel
theorem dX10_confirm_8 : decode cX10_confirm 8 = .ok (.iconst 1, 1) := by decide +kernel
theorem dX10_confirm_9 : decode cX10_confirm 9 = .ok (.istore_n 2, 1) := by decide +kernel
theorem dX10_confirm_10 : decode cX10_confirm 10 = .ok (.iload_n 2, 1) := by decide +kernel
theorem dX10_confirm_11 : decode cX10_confirm 11 = .ok (.iconst 4, 1) := by decide +kernel
theorem dX10_confirm_12 : decode cX10_confirm 12 = .ok (.if_icmp .ge 65, 3) := by decide +kernel
theorem dX10_confirm_15 : decode cX10_confirm 15 = .ok (.iconst 0, 1) := by decide +kernel
theorem dX10_confirm_16 : decode cX10_confirm 16 = .ok (.istore_n 3, 1) := by decide +kernel
theorem dX10_confirm_17 : decode cX10_confirm 17 = .ok (.iconst 0, 1) := by decide +kernel
theorem dX10_confirm_18 : decode cX10_confirm 18 = .ok (.istore 4, 2) := by decide +kernel
theorem dX10_confirm_20 : decode cX10_confirm 20 = .ok (.iload 4, 2) := by decide +kernel
theorem dX10_confirm_22 : decode cX10_confirm 22 = .ok (.aload_n 0, 1) := by decide +kernel
theorem dX10_confirm_23 : decode cX10_confirm 23 = .ok (.getfield 50, 3) := by decide +kernel
theorem dX10_confirm_26 : decode cX10_confirm 26 = .ok (.iload_n 2, 1) := by decide +kernel
theorem dX10_confirm_27 : decode cX10_confirm 27 = .ok (.iaload, 1) := by decide +kernel
theorem dX10_confirm_28 : decode cX10_confirm 28 = .ok (.if_icmp .ge 36, 3) := by decide +kernel
theorem dX10_confirm_31 : decode cX10_confirm 31 = .ok (.aload_n 0, 1) := by decide +kernel
theorem dX10_confirm_32 : decode cX10_confirm 32 = .ok (.getfield 47, 3) := by decide +kernel
theorem dX10_confirm_35 : decode cX10_confirm 35 = .ok (.iload_n 2, 1) := by decide +kernel
theorem dX10_confirm_36 : decode cX10_confirm 36 = .ok (.iload 4, 2) := by decide +kernel
theorem dX10_confirm_38 : decode cX10_confirm 38 = .ok (.invokestatic 193, 3) := by decide +kernel
theorem dX10_confirm_41 : decode cX10_confirm 41 = .ok (.iconst 3, 1) := by decide +kernel
theorem dX10_confirm_42 : decode cX10_confirm 42 = .ok (.iadd, 1) := by decide +kernel
theorem dX10_confirm_43 : decode cX10_confirm 43 = .ok (.iaload, 1) := by decide +kernel
theorem dX10_confirm_44 : decode cX10_confirm 44 = .ok (.ifCond .ne 14, 3) := by decide +kernel
theorem dX10_confirm_47 : decode cX10_confirm 47 = .ok (.aload_n 0, 1) := by decide +kernel
theorem dX10_confirm_48 : decode cX10_confirm 48 = .ok (.iload_n 2, 1) := by decide +kernel
theorem dX10_confirm_49 : decode cX10_confirm 49 = .ok (.iload 4, 2) := by decide +kernel
theorem dX10_confirm_51 : decode cX10_confirm 51 = .ok (.iload_n 3, 1) := by decide +kernel
theorem dX10_confirm_52 : decode cX10_confirm 52 = .ok (.invokevirtual 199, 3) := by decide +kernel
theorem dX10_confirm_55 : decode cX10_confirm 55 = .ok (.iinc 3 1, 3) := by decide +kernel
theorem dX10_confirm_58 : decode cX10_confirm 58 = .ok (.iinc 4 1, 3) := by decide +kernel
theorem dX10_confirm_61 : decode cX10_confirm 61 = .ok (.goto (-41), 3) := by decide +kernel
theorem dX10_confirm_64 : decode cX10_confirm 64 = .ok (.aload_n 0, 1) := by decide +kernel
theorem dX10_confirm_65 : decode cX10_confirm 65 = .ok (.getfield 50, 3) := by decide +kernel
theorem dX10_confirm_68 : decode cX10_confirm 68 = .ok (.iload_n 2, 1) := by decide +kernel
theorem dX10_confirm_69 : decode cX10_confirm 69 = .ok (.iload_n 3, 1) := by decide +kernel
theorem dX10_confirm_70 : decode cX10_confirm 70 = .ok (.iastore, 1) := by decide +kernel
theorem dX10_confirm_71 : decode cX10_confirm 71 = .ok (.iinc 2 1, 3) := by decide +kernel
theorem dX10_confirm_74 : decode cX10_confirm 74 = .ok (.goto (-64), 3) := by decide +kernel
theorem dX10_confirm_77 : decode cX10_confirm 77 = .ok (.aload_n 0, 1) := by decide +kernel
theorem dX10_confirm_78 : decode cX10_confirm 78 = .ok (.iconst 0, 1) := by decide +kernel
theorem dX10_confirm_79 : decode cX10_confirm 79 = .ok (.putfield 196, 3) := by decide +kernel
theorem dX10_confirm_82 : decode cX10_confirm 82 = .ok (.aload_n 0, 1) := by decide +kernel
theorem dX10_confirm_83 : decode cX10_confirm 83 = .ok (.iconst (-1), 1) := by decide +kernel
theorem dX10_confirm_84 : decode cX10_confirm 84 = .ok (.putfield 83, 3) := by decide +kernel
theorem dX10_confirm_87 : decode cX10_confirm 87 = .ok (.return_, 1) := by decide +kernel
theorem dX10_unmark_0 : decode cX10_unmark 0 = .ok (.iconst 3, 1) := by decide +kernel
theorem dX10_unmark_1 : decode cX10_unmark 1 = .ok (.istore_n 1, 1) := by decide +kernel
theorem dX10_unmark_2 : decode cX10_unmark 2 = .ok (.iload_n 1, 1) := by decide +kernel
theorem dX10_unmark_3 : decode cX10_unmark 3 = .ok (.sipush 640, 3) := by decide +kernel
theorem dX10_unmark_6 : decode cX10_unmark 6 = .ok (.if_icmp .ge 17, 3) := by decide +kernel
theorem dX10_unmark_9 : decode cX10_unmark 9 = .ok (.aload_n 0, 1) := by decide +kernel
theorem dX10_unmark_10 : decode cX10_unmark 10 = .ok (.getfield 47, 3) := by decide +kernel
theorem dX10_unmark_13 : decode cX10_unmark 13 = .ok (.iload_n 1, 1) := by decide +kernel
theorem dX10_unmark_14 : decode cX10_unmark 14 = .ok (.iconst 0, 1) := by decide +kernel
theorem dX10_unmark_15 : decode cX10_unmark 15 = .ok (.iastore, 1) := by decide +kernel
theorem dX10_unmark_16 : decode cX10_unmark 16 = .ok (.iload_n 1, 1) := by decide +kernel
theorem dX10_unmark_17 : decode cX10_unmark 17 = .ok (.iconst 4, 1) := by decide +kernel
theorem dX10_unmark_18 : decode cX10_unmark 18 = .ok (.iadd, 1) := by decide +kernel
theorem dX10_unmark_19 : decode cX10_unmark 19 = .ok (.istore_n 1, 1) := by decide +kernel
theorem dX10_unmark_20 : decode cX10_unmark 20 = .ok (.goto (-18), 3) := by decide +kernel
theorem dX10_unmark_23 : decode cX10_unmark 23 = .ok (.return_, 1) := by decide +kernel
theorem dX10_place_0 : decode cX10_place 0 = .ok (.sipush 160, 3) := by decide +kernel
theorem dX10_place_3 : decode cX10_place 3 = .ok (.iload_n 0, 1) := by decide +kernel
theorem dX10_place_4 : decode cX10_place 4 = .ok (.imul, 1) := by decide +kernel
theorem dX10_place_5 : decode cX10_place 5 = .ok (.iconst 4, 1) := by decide +kernel
theorem dX10_place_6 : decode cX10_place 6 = .ok (.iload_n 1, 1) := by decide +kernel
theorem dX10_place_7 : decode cX10_place 7 = .ok (.imul, 1) := by decide +kernel
theorem dX10_place_8 : decode cX10_place 8 = .ok (.iadd, 1) := by decide +kernel
theorem dX10_place_9 : decode cX10_place 9 = .ok (.ireturn, 1) := by decide +kernel
theorem dX10_copy_0 : decode cX10_copy 0 = .ok (.iconst 0, 1) := by decide +kernel
theorem dX10_copy_1 : decode cX10_copy 1 = .ok (.istore 4, 2) := by decide +kernel
theorem dX10_copy_3 : decode cX10_copy 3 = .ok (.iload 4, 2) := by decide +kernel
theorem dX10_copy_5 : decode cX10_copy 5 = .ok (.iconst 4, 1) := by decide +kernel
theorem dX10_copy_6 : decode cX10_copy 6 = .ok (.if_icmp .ge 35, 3) := by decide +kernel
theorem dX10_copy_9 : decode cX10_copy 9 = .ok (.aload_n 0, 1) := by decide +kernel
theorem dX10_copy_10 : decode cX10_copy 10 = .ok (.getfield 47, 3) := by decide +kernel
theorem dX10_copy_13 : decode cX10_copy 13 = .ok (.iload_n 1, 1) := by decide +kernel
theorem dX10_copy_14 : decode cX10_copy 14 = .ok (.iload_n 3, 1) := by decide +kernel
theorem dX10_copy_15 : decode cX10_copy 15 = .ok (.invokestatic 193, 3) := by decide +kernel
theorem dX10_copy_18 : decode cX10_copy 18 = .ok (.iload 4, 2) := by decide +kernel
theorem dX10_copy_20 : decode cX10_copy 20 = .ok (.iadd, 1) := by decide +kernel
theorem dX10_copy_21 : decode cX10_copy 21 = .ok (.aload_n 0, 1) := by decide +kernel
theorem dX10_copy_22 : decode cX10_copy 22 = .ok (.getfield 47, 3) := by decide +kernel
theorem dX10_copy_25 : decode cX10_copy 25 = .ok (.iload_n 1, 1) := by decide +kernel
theorem dX10_copy_26 : decode cX10_copy 26 = .ok (.iload_n 2, 1) := by decide +kernel
theorem dX10_copy_27 : decode cX10_copy 27 = .ok (.invokestatic 193, 3) := by decide +kernel
theorem dX10_copy_30 : decode cX10_copy 30 = .ok (.iload 4, 2) := by decide +kernel
theorem dX10_copy_32 : decode cX10_copy 32 = .ok (.iadd, 1) := by decide +kernel
theorem dX10_copy_33 : decode cX10_copy 33 = .ok (.iaload, 1) := by decide +kernel
theorem dX10_copy_34 : decode cX10_copy 34 = .ok (.iastore, 1) := by decide +kernel
theorem dX10_copy_35 : decode cX10_copy 35 = .ok (.iinc 4 1, 3) := by decide +kernel
theorem dX10_copy_38 : decode cX10_copy 38 = .ok (.goto (-35), 3) := by decide +kernel
theorem dX10_copy_41 : decode cX10_copy 41 = .ok (.return_, 1) := by decide +kernel
theorem dX10_add_0 : decode cX10_add 0 = .ok (.aload_n 0, 1) := by decide +kernel
theorem dX10_add_1 : decode cX10_add 1 = .ok (.getfield 22, 3) := by decide +kernel
theorem dX10_add_4 : decode cX10_add 4 = .ok (.aload_n 0, 1) := by decide +kernel
theorem dX10_add_5 : decode cX10_add 5 = .ok (.getfield 162, 3) := by decide +kernel
theorem dX10_add_8 : decode cX10_add 8 = .ok (.iload_n 1, 1) := by decide +kernel
theorem dX10_add_9 : decode cX10_add 9 = .ok (.sipush 255, 3) := by decide +kernel
theorem dX10_add_12 : decode cX10_add 12 = .ok (.iand, 1) := by decide +kernel
theorem dX10_add_13 : decode cX10_add 13 = .ok (.iastore, 1) := by decide +kernel
theorem dX10_add_14 : decode cX10_add 14 = .ok (.aload_n 0, 1) := by decide +kernel
theorem dX10_add_15 : decode cX10_add 15 = .ok (.dup, 1) := by decide +kernel
theorem dX10_add_16 : decode cX10_add 16 = .ok (.getfield 162, 3) := by decide +kernel
theorem dX10_add_19 : decode cX10_add 19 = .ok (.iconst 1, 1) := by decide +kernel
theorem dX10_add_20 : decode cX10_add 20 = .ok (.iadd, 1) := by decide +kernel
theorem dX10_add_21 : decode cX10_add 21 = .ok (.putfield 162, 3) := by decide +kernel
theorem dX10_add_24 : decode cX10_add 24 = .ok (.return_, 1) := by decide +kernel
theorem dX10_hasRoom_0 : decode cX10_hasRoom 0 = .ok (.aload_n 0, 1) := by decide +kernel
theorem dX10_hasRoom_1 : decode cX10_hasRoom 1 = .ok (.getfield 162, 3) := by decide +kernel
theorem dX10_hasRoom_4 : decode cX10_hasRoom 4 = .ok (.iload_n 1, 1) := by decide +kernel
theorem dX10_hasRoom_5 : decode cX10_hasRoom 5 = .ok (.iadd, 1) := by decide +kernel
theorem dX10_hasRoom_6 : decode cX10_hasRoom 6 = .ok (.sipush 249, 3) := by decide +kernel
theorem dX10_hasRoom_9 : decode cX10_hasRoom 9 = .ok (.if_icmp .gt 7, 3) := by decide +kernel
theorem dX10_hasRoom_12 : decode cX10_hasRoom 12 = .ok (.iconst 1, 1) := by decide +kernel
theorem dX10_hasRoom_13 : decode cX10_hasRoom 13 = .ok (.goto 4, 3) := by decide +kernel
theorem dX10_hasRoom_16 : decode cX10_hasRoom 16 = .ok (.iconst 0, 1) := by decide +kernel
theorem dX10_hasRoom_17 : decode cX10_hasRoom 17 = .ok (.ireturn, 1) := by decide +kernel
theorem dX10_read_0 : decode cX10_read 0 = .ok (.iconst 2, 1) := by decide +kernel
theorem dX10_read_1 : decode cX10_read 1 = .ok (.istore_n 2, 1) := by decide +kernel
theorem dX10_read_2 : decode cX10_read 2 = .ok (.iload_n 2, 1) := by decide +kernel
theorem dX10_read_3 : decode cX10_read 3 = .ok (.iload_n 1, 1) := by decide +kernel
theorem dX10_read_4 : decode cX10_read 4 = .ok (.if_icmp .ge 206, 3) := by decide +kernel
theorem dX10_read_7 : decode cX10_read 7 = .ok (.iload_n 2, 1) := by decide +kernel
theorem dX10_read_8 : decode cX10_read 8 = .ok (.iconst 3, 1) := by decide +kernel
theorem dX10_read_9 : decode cX10_read 9 = .ok (.iadd, 1) := by decide +kernel
theorem dX10_read_10 : decode cX10_read 10 = .ok (.iload_n 1, 1) := by decide +kernel
theorem dX10_read_11 : decode cX10_read 11 = .ok (.if_icmp .gt 16, 3) := by decide +kernel
theorem dX10_read_14 : decode cX10_read 14 = .ok (.aload_n 0, 1) := by decide +kernel
theorem dX10_read_15 : decode cX10_read 15 = .ok (.getfield 16, 3) := by decide +kernel
theorem dX10_read_18 : decode cX10_read 18 = .ok (.iload_n 2, 1) := by decide +kernel
theorem dX10_read_19 : decode cX10_read 19 = .ok (.iconst 2, 1) := by decide +kernel
theorem dX10_read_20 : decode cX10_read 20 = .ok (.iadd, 1) := by decide +kernel
theorem dX10_read_21 : decode cX10_read 21 = .ok (.iaload, 1) := by decide +kernel
theorem dX10_read_22 : decode cX10_read 22 = .ok (.bipush 6, 2) := by decide +kernel
theorem dX10_read_24 : decode cX10_read 24 = .ok (.if_icmp .eq 14, 3) := by decide +kernel
theorem dX10_read_27 : decode cX10_read 27 = .ok (.aload_n 0, 1) := by decide +kernel
theorem dX10_read_28 : decode cX10_read 28 = .ok (.aload_n 0, 1) := by decide +kernel
theorem dX10_read_29 : decode cX10_read 29 = .ok (.getfield 171, 3) := by decide +kernel
theorem dX10_read_32 : decode cX10_read 32 = .ok (.iconst 4, 1) := by decide +kernel
theorem dX10_read_33 : decode cX10_read 33 = .ok (.ior, 1) := by decide +kernel
theorem dX10_read_34 : decode cX10_read 34 = .ok (.putfield 171, 3) := by decide +kernel
theorem dX10_read_37 : decode cX10_read 37 = .ok (.return_, 1) := by decide +kernel
theorem dX10_read_38 : decode cX10_read 38 = .ok (.aload_n 0, 1) := by decide +kernel
theorem dX10_read_39 : decode cX10_read 39 = .ok (.getfield 16, 3) := by decide +kernel
theorem dX10_read_42 : decode cX10_read 42 = .ok (.iload_n 2, 1) := by decide +kernel
theorem dX10_read_43 : decode cX10_read 43 = .ok (.iaload, 1) := by decide +kernel
theorem dX10_read_44 : decode cX10_read 44 = .ok (.istore_n 3, 1) := by decide +kernel
theorem dX10_read_45 : decode cX10_read 45 = .ok (.aload_n 0, 1) := by decide +kernel
theorem dX10_read_46 : decode cX10_read 46 = .ok (.getfield 16, 3) := by decide +kernel
theorem dX10_read_49 : decode cX10_read 49 = .ok (.iload_n 2, 1) := by decide +kernel
theorem dX10_read_50 : decode cX10_read 50 = .ok (.iconst 1, 1) := by decide +kernel
theorem dX10_read_51 : decode cX10_read 51 = .ok (.iadd, 1) := by decide +kernel
theorem dX10_read_52 : decode cX10_read 52 = .ok (.iaload, 1) := by decide +kernel
theorem dX10_read_53 : decode cX10_read 53 = .ok (.istore 4, 2) := by decide +kernel
theorem dX10_read_55 : decode cX10_read 55 = .ok (.iload_n 3, 1) := by decide +kernel
theorem dX10_read_56 : decode cX10_read 56 = .ok (.bipush 60, 2) := by decide +kernel
theorem dX10_read_58 : decode cX10_read 58 = .ok (.if_icmp .ne 13, 3) := by decide +kernel
theorem dX10_read_61 : decode cX10_read 61 = .ok (.iload 4, 2) := by decide +kernel
theorem dX10_read_63 : decode cX10_read 63 = .ok (.iconst 1, 1) := by decide +kernel
theorem dX10_read_64 : decode cX10_read 64 = .ok (.if_icmp .ne 7, 3) := by decide +kernel
theorem dX10_read_67 : decode cX10_read 67 = .ok (.iconst 1, 1) := by decide +kernel
theorem dX10_read_68 : decode cX10_read 68 = .ok (.goto 4, 3) := by decide +kernel
theorem dX10_read_71 : decode cX10_read 71 = .ok (.iconst 0, 1) := by decide +kernel
theorem dX10_read_72 : decode cX10_read 72 = .ok (.istore 5, 2) := by decide +kernel
theorem dX10_read_74 : decode cX10_read 74 = .ok (.iload_n 3, 1) := by decide +kernel
theorem dX10_read_75 : decode cX10_read 75 = .ok (.iconst 1, 1) := by decide +kernel
theorem dX10_read_76 : decode cX10_read 76 = .ok (.if_icmp .ne 18, 3) := by decide +kernel
theorem dX10_read_79 : decode cX10_read 79 = .ok (.iload 4, 2) := by decide +kernel
theorem dX10_read_81 : decode cX10_read 81 = .ok (.ifCond .eq 9, 3) := by decide +kernel
theorem dX10_read_84 : decode cX10_read 84 = .ok (.iload 4, 2) := by decide +kernel
theorem dX10_read_86 : decode cX10_read 86 = .ok (.iconst 2, 1) := by decide +kernel
theorem dX10_read_87 : decode cX10_read 87 = .ok (.if_icmp .ne 7, 3) := by decide +kernel
theorem dX10_read_90 : decode cX10_read 90 = .ok (.iconst 1, 1) := by decide +kernel
theorem dX10_read_91 : decode cX10_read 91 = .ok (.goto 4, 3) := by decide +kernel
theorem dX10_read_94 : decode cX10_read 94 = .ok (.iconst 0, 1) := by decide +kernel
theorem dX10_read_95 : decode cX10_read 95 = .ok (.istore 6, 2) := by decide +kernel
theorem dX10_read_97 : decode cX10_read 97 = .ok (.iload_n 3, 1) := by decide +kernel
theorem dX10_read_98 : decode cX10_read 98 = .ok (.bipush 30, 2) := by decide +kernel
theorem dX10_read_100 : decode cX10_read 100 = .ok (.if_icmp .ne 18, 3) := by decide +kernel
theorem dX10_read_103 : decode cX10_read 103 = .ok (.iload 4, 2) := by decide +kernel
theorem dX10_read_105 : decode cX10_read 105 = .ok (.ifCond .eq 9, 3) := by decide +kernel
theorem dX10_read_108 : decode cX10_read 108 = .ok (.iload 4, 2) := by decide +kernel
theorem dX10_read_110 : decode cX10_read 110 = .ok (.iconst 2, 1) := by decide +kernel
theorem dX10_read_111 : decode cX10_read 111 = .ok (.if_icmp .ne 7, 3) := by decide +kernel
theorem dX10_read_114 : decode cX10_read 114 = .ok (.iconst 1, 1) := by decide +kernel
theorem dX10_read_115 : decode cX10_read 115 = .ok (.goto 4, 3) := by decide +kernel
theorem dX10_read_118 : decode cX10_read 118 = .ok (.iconst 0, 1) := by decide +kernel
theorem dX10_read_119 : decode cX10_read 119 = .ok (.istore 7, 2) := by decide +kernel
theorem dX10_read_121 : decode cX10_read 121 = .ok (.iload 5, 2) := by decide +kernel
theorem dX10_read_123 : decode cX10_read 123 = .ok (.ifCond .ne 8, 3) := by decide +kernel
theorem dX10_read_126 : decode cX10_read 126 = .ok (.iload 6, 2) := by decide +kernel
theorem dX10_read_128 : decode cX10_read 128 = .ok (.ifCond .eq 7, 3) := by decide +kernel
theorem dX10_read_131 : decode cX10_read 131 = .ok (.aload_n 0, 1) := by decide +kernel
theorem dX10_read_132 : decode cX10_read 132 = .ok (.invokevirtual 202, 3) := by decide +kernel
theorem dX10_read_135 : decode cX10_read 135 = .ok (.iload 5, 2) := by decide +kernel
theorem dX10_read_137 : decode cX10_read 137 = .ok (.ifCond .ne 8, 3) := by decide +kernel
theorem dX10_read_140 : decode cX10_read 140 = .ok (.iload 7, 2) := by decide +kernel
theorem dX10_read_142 : decode cX10_read 142 = .ok (.ifCond .eq 7, 3) := by decide +kernel
theorem dX10_read_145 : decode cX10_read 145 = .ok (.aload_n 0, 1) := by decide +kernel
theorem dX10_read_146 : decode cX10_read 146 = .ok (.invokevirtual 205, 3) := by decide +kernel
theorem dX10_read_149 : decode cX10_read 149 = .ok (.iload_n 3, 1) := by decide +kernel
theorem dX10_read_150 : decode cX10_read 150 = .ok (.bipush 60, 2) := by decide +kernel
theorem dX10_read_152 : decode cX10_read 152 = .ok (.if_icmp .ne 26, 3) := by decide +kernel
theorem dX10_read_155 : decode cX10_read 155 = .ok (.iload 4, 2) := by decide +kernel
theorem dX10_read_157 : decode cX10_read 157 = .ok (.iconst 2, 1) := by decide +kernel
theorem dX10_read_158 : decode cX10_read 158 = .ok (.if_icmp .lt 20, 3) := by decide +kernel
theorem dX10_read_161 : decode cX10_read 161 = .ok (.iload 4, 2) := by decide +kernel
theorem dX10_read_163 : decode cX10_read 163 = .ok (.iconst 4, 1) := by decide +kernel
theorem dX10_read_164 : decode cX10_read 164 = .ok (.if_icmp .gt 14, 3) := by decide +kernel
theorem dX10_read_167 : decode cX10_read 167 = .ok (.aload_n 0, 1) := by decide +kernel
theorem dX10_read_168 : decode cX10_read 168 = .ok (.iload 4, 2) := by decide +kernel
theorem dX10_read_170 : decode cX10_read 170 = .ok (.iconst 1, 1) := by decide +kernel
theorem dX10_read_171 : decode cX10_read 171 = .ok (.isub, 1) := by decide +kernel
theorem dX10_read_172 : decode cX10_read 172 = .ok (.invokevirtual 208, 3) := by decide +kernel
theorem dX10_read_175 : decode cX10_read 175 = .ok (.goto 28, 3) := by decide +kernel
theorem dX10_read_178 : decode cX10_read 178 = .ok (.iload 5, 2) := by decide +kernel
theorem dX10_read_180 : decode cX10_read 180 = .ok (.ifCond .ne 23, 3) := by decide +kernel
theorem dX10_read_183 : decode cX10_read 183 = .ok (.iload 6, 2) := by decide +kernel
theorem dX10_read_185 : decode cX10_read 185 = .ok (.ifCond .ne 18, 3) := by decide +kernel
theorem dX10_read_188 : decode cX10_read 188 = .ok (.iload 7, 2) := by decide +kernel
theorem dX10_read_190 : decode cX10_read 190 = .ok (.ifCond .ne 13, 3) := by decide +kernel
theorem dX10_read_193 : decode cX10_read 193 = .ok (.aload_n 0, 1) := by decide +kernel
theorem dX10_read_194 : decode cX10_read 194 = .ok (.aload_n 0, 1) := by decide +kernel
theorem dX10_read_195 : decode cX10_read 195 = .ok (.getfield 171, 3) := by decide +kernel
theorem dX10_read_198 : decode cX10_read 198 = .ok (.iconst 2, 1) := by decide +kernel
theorem dX10_read_199 : decode cX10_read 199 = .ok (.ior, 1) := by decide +kernel
theorem dX10_read_200 : decode cX10_read 200 = .ok (.putfield 171, 3) := by decide +kernel
theorem dX10_read_203 : decode cX10_read 203 = .ok (.iload_n 2, 1) := by decide +kernel
theorem dX10_read_204 : decode cX10_read 204 = .ok (.iconst 3, 1) := by decide +kernel
theorem dX10_read_205 : decode cX10_read 205 = .ok (.iadd, 1) := by decide +kernel
theorem dX10_read_206 : decode cX10_read 206 = .ok (.istore_n 2, 1) := by decide +kernel
theorem dX10_read_207 : decode cX10_read 207 = .ok (.goto (-205), 3) := by decide +kernel
theorem dX10_read_210 : decode cX10_read 210 = .ok (.return_, 1) := by decide +kernel
theorem dX10_putBinaries_0 : decode cX10_putBinaries 0 = .ok (.aload_n 0, 1) := by decide +kernel
theorem dX10_putBinaries_1 : decode cX10_putBinaries 1 = .ok (.getfield 177, 3) := by decide +kernel
theorem dX10_putBinaries_4 : decode cX10_putBinaries 4 = .ok (.ifCond .ne 77, 3) := by decide +kernel
theorem dX10_putBinaries_7 : decode cX10_putBinaries 7 = .ok (.aload_n 0, 1) := by decide +kernel
theorem dX10_putBinaries_8 : decode cX10_putBinaries 8 = .ok (.bipush 21, 2) := by decide +kernel
theorem dX10_putBinaries_10 : decode cX10_putBinaries 10 = .ok (.invokevirtual 211, 3) := by decide +kernel
theorem dX10_putBinaries_13 : decode cX10_putBinaries 13 = .ok (.ifCond .eq 68, 3) := by decide +kernel
theorem dX10_putBinaries_16 : decode cX10_putBinaries 16 = .ok (.aload_n 0, 1) := by decide +kernel
theorem dX10_putBinaries_17 : decode cX10_putBinaries 17 = .ok (.iconst 1, 1) := by decide +kernel
theorem dX10_putBinaries_18 : decode cX10_putBinaries 18 = .ok (.putfield 177, 3) := by decide +kernel
theorem dX10_putBinaries_21 : decode cX10_putBinaries 21 = .ok (.aload_n 0, 1) := by decide +kernel
theorem dX10_putBinaries_22 : decode cX10_putBinaries 22 = .ok (.iconst 1, 1) := by decide +kernel
theorem dX10_putBinaries_23 : decode cX10_putBinaries 23 = .ok (.invokevirtual 215, 3) := by decide +kernel
theorem dX10_putBinaries_26 : decode cX10_putBinaries 26 = .ok (.aload_n 0, 1) := by decide +kernel
theorem dX10_putBinaries_27 : decode cX10_putBinaries 27 = .ok (.iconst 2, 1) := by decide +kernel
theorem dX10_putBinaries_28 : decode cX10_putBinaries 28 = .ok (.invokevirtual 215, 3) := by decide +kernel
theorem dX10_putBinaries_31 : decode cX10_putBinaries 31 = .ok (.aload_n 0, 1) := by decide +kernel
theorem dX10_putBinaries_32 : decode cX10_putBinaries 32 = .ok (.iconst 0, 1) := by decide +kernel
theorem dX10_putBinaries_33 : decode cX10_putBinaries 33 = .ok (.invokevirtual 215, 3) := by decide +kernel
theorem dX10_putBinaries_36 : decode cX10_putBinaries 36 = .ok (.aload_n 0, 1) := by decide +kernel
theorem dX10_putBinaries_37 : decode cX10_putBinaries 37 = .ok (.iconst 0, 1) := by decide +kernel
theorem dX10_putBinaries_38 : decode cX10_putBinaries 38 = .ok (.invokevirtual 215, 3) := by decide +kernel
theorem dX10_putBinaries_41 : decode cX10_putBinaries 41 = .ok (.aload_n 0, 1) := by decide +kernel
theorem dX10_putBinaries_42 : decode cX10_putBinaries 42 = .ok (.bipush 15, 2) := by decide +kernel
theorem dX10_putBinaries_44 : decode cX10_putBinaries 44 = .ok (.invokevirtual 215, 3) := by decide +kernel
theorem dX10_putBinaries_47 : decode cX10_putBinaries 47 = .ok (.iconst 0, 1) := by decide +kernel
theorem dX10_putBinaries_48 : decode cX10_putBinaries 48 = .ok (.istore_n 1, 1) := by decide +kernel
theorem dX10_putBinaries_49 : decode cX10_putBinaries 49 = .ok (.iload_n 1, 1) := by decide +kernel
theorem dX10_putBinaries_50 : decode cX10_putBinaries 50 = .ok (.bipush 16, 2) := by decide +kernel
theorem dX10_putBinaries_52 : decode cX10_putBinaries 52 = .ok (.if_icmp .ge 29, 3) := by decide +kernel
theorem dX10_putBinaries_55 : decode cX10_putBinaries 55 = .ok (.aload_n 0, 1) := by decide +kernel
theorem dX10_putBinaries_56 : decode cX10_putBinaries 56 = .ok (.aload_n 0, 1) := by decide +kernel
theorem dX10_putBinaries_57 : decode cX10_putBinaries 57 = .ok (.getfield 31, 3) := by decide +kernel
theorem dX10_putBinaries_60 : decode cX10_putBinaries 60 = .ok (.iload_n 1, 1) := by decide +kernel
theorem dX10_putBinaries_61 : decode cX10_putBinaries 61 = .ok (.baload, 1) := by decide +kernel
theorem dX10_putBinaries_62 : decode cX10_putBinaries 62 = .ok (.ifCond .eq 9, 3) := by decide +kernel
theorem dX10_putBinaries_65 : decode cX10_putBinaries 65 = .ok (.sipush 129, 3) := by decide +kernel
theorem dX10_putBinaries_68 : decode cX10_putBinaries 68 = .ok (.goto 4, 3) := by decide +kernel
theorem dX10_putBinaries_71 : decode cX10_putBinaries 71 = .ok (.iconst 1, 1) := by decide +kernel
theorem dX10_putBinaries_72 : decode cX10_putBinaries 72 = .ok (.invokevirtual 215, 3) := by decide +kernel
theorem dX10_putBinaries_75 : decode cX10_putBinaries 75 = .ok (.iinc 1 1, 3) := by decide +kernel
theorem dX10_putBinaries_78 : decode cX10_putBinaries 78 = .ok (.goto (-29), 3) := by decide +kernel
theorem dX10_putBinaries_81 : decode cX10_putBinaries 81 = .ok (.return_, 1) := by decide +kernel
theorem dX10_putAnalogs_0 : decode cX10_putAnalogs 0 = .ok (.aload_n 0, 1) := by decide +kernel
theorem dX10_putAnalogs_1 : decode cX10_putAnalogs 1 = .ok (.getfield 180, 3) := by decide +kernel
theorem dX10_putAnalogs_4 : decode cX10_putAnalogs 4 = .ok (.ifCond .ne 86, 3) := by decide +kernel
theorem dX10_putAnalogs_7 : decode cX10_putAnalogs 7 = .ok (.aload_n 0, 1) := by decide +kernel
theorem dX10_putAnalogs_8 : decode cX10_putAnalogs 8 = .ok (.bipush 53, 2) := by decide +kernel
theorem dX10_putAnalogs_10 : decode cX10_putAnalogs 10 = .ok (.invokevirtual 211, 3) := by decide +kernel
theorem dX10_putAnalogs_13 : decode cX10_putAnalogs 13 = .ok (.ifCond .eq 77, 3) := by decide +kernel
theorem dX10_putAnalogs_16 : decode cX10_putAnalogs 16 = .ok (.aload_n 0, 1) := by decide +kernel
theorem dX10_putAnalogs_17 : decode cX10_putAnalogs 17 = .ok (.iconst 1, 1) := by decide +kernel
theorem dX10_putAnalogs_18 : decode cX10_putAnalogs 18 = .ok (.putfield 180, 3) := by decide +kernel
theorem dX10_putAnalogs_21 : decode cX10_putAnalogs 21 = .ok (.aload_n 0, 1) := by decide +kernel
theorem dX10_putAnalogs_22 : decode cX10_putAnalogs 22 = .ok (.bipush 30, 2) := by decide +kernel
theorem dX10_putAnalogs_24 : decode cX10_putAnalogs 24 = .ok (.invokevirtual 215, 3) := by decide +kernel
theorem dX10_putAnalogs_27 : decode cX10_putAnalogs 27 = .ok (.aload_n 0, 1) := by decide +kernel
theorem dX10_putAnalogs_28 : decode cX10_putAnalogs 28 = .ok (.iconst 2, 1) := by decide +kernel
theorem dX10_putAnalogs_29 : decode cX10_putAnalogs 29 = .ok (.invokevirtual 215, 3) := by decide +kernel
theorem dX10_putAnalogs_32 : decode cX10_putAnalogs 32 = .ok (.aload_n 0, 1) := by decide +kernel
theorem dX10_putAnalogs_33 : decode cX10_putAnalogs 33 = .ok (.iconst 0, 1) := by decide +kernel
theorem dX10_putAnalogs_34 : decode cX10_putAnalogs 34 = .ok (.invokevirtual 215, 3) := by decide +kernel
theorem dX10_putAnalogs_37 : decode cX10_putAnalogs 37 = .ok (.aload_n 0, 1) := by decide +kernel
theorem dX10_putAnalogs_38 : decode cX10_putAnalogs 38 = .ok (.iconst 0, 1) := by decide +kernel
theorem dX10_putAnalogs_39 : decode cX10_putAnalogs 39 = .ok (.invokevirtual 215, 3) := by decide +kernel
theorem dX10_putAnalogs_42 : decode cX10_putAnalogs 42 = .ok (.aload_n 0, 1) := by decide +kernel
theorem dX10_putAnalogs_43 : decode cX10_putAnalogs 43 = .ok (.bipush 15, 2) := by decide +kernel
theorem dX10_putAnalogs_45 : decode cX10_putAnalogs 45 = .ok (.invokevirtual 215, 3) := by decide +kernel
theorem dX10_putAnalogs_48 : decode cX10_putAnalogs 48 = .ok (.iconst 0, 1) := by decide +kernel
theorem dX10_putAnalogs_49 : decode cX10_putAnalogs 49 = .ok (.istore_n 1, 1) := by decide +kernel
theorem dX10_putAnalogs_50 : decode cX10_putAnalogs 50 = .ok (.iload_n 1, 1) := by decide +kernel
theorem dX10_putAnalogs_51 : decode cX10_putAnalogs 51 = .ok (.bipush 16, 2) := by decide +kernel
theorem dX10_putAnalogs_53 : decode cX10_putAnalogs 53 = .ok (.if_icmp .ge 37, 3) := by decide +kernel
theorem dX10_putAnalogs_56 : decode cX10_putAnalogs 56 = .ok (.aload_n 0, 1) := by decide +kernel
theorem dX10_putAnalogs_57 : decode cX10_putAnalogs 57 = .ok (.iconst 1, 1) := by decide +kernel
theorem dX10_putAnalogs_58 : decode cX10_putAnalogs 58 = .ok (.invokevirtual 215, 3) := by decide +kernel
theorem dX10_putAnalogs_61 : decode cX10_putAnalogs 61 = .ok (.aload_n 0, 1) := by decide +kernel
theorem dX10_putAnalogs_62 : decode cX10_putAnalogs 62 = .ok (.aload_n 0, 1) := by decide +kernel
theorem dX10_putAnalogs_63 : decode cX10_putAnalogs 63 = .ok (.getfield 35, 3) := by decide +kernel
theorem dX10_putAnalogs_66 : decode cX10_putAnalogs 66 = .ok (.iload_n 1, 1) := by decide +kernel
theorem dX10_putAnalogs_67 : decode cX10_putAnalogs 67 = .ok (.iaload, 1) := by decide +kernel
theorem dX10_putAnalogs_68 : decode cX10_putAnalogs 68 = .ok (.invokevirtual 215, 3) := by decide +kernel
theorem dX10_putAnalogs_71 : decode cX10_putAnalogs 71 = .ok (.aload_n 0, 1) := by decide +kernel
theorem dX10_putAnalogs_72 : decode cX10_putAnalogs 72 = .ok (.aload_n 0, 1) := by decide +kernel
theorem dX10_putAnalogs_73 : decode cX10_putAnalogs 73 = .ok (.getfield 35, 3) := by decide +kernel
theorem dX10_putAnalogs_76 : decode cX10_putAnalogs 76 = .ok (.iload_n 1, 1) := by decide +kernel
theorem dX10_putAnalogs_77 : decode cX10_putAnalogs 77 = .ok (.iaload, 1) := by decide +kernel
theorem dX10_putAnalogs_78 : decode cX10_putAnalogs 78 = .ok (.bipush 8, 2) := by decide +kernel
theorem dX10_putAnalogs_80 : decode cX10_putAnalogs 80 = .ok (.ishr, 1) := by decide +kernel
theorem dX10_putAnalogs_81 : decode cX10_putAnalogs 81 = .ok (.invokevirtual 215, 3) := by decide +kernel
theorem dX10_putAnalogs_84 : decode cX10_putAnalogs 84 = .ok (.iinc 1 1, 3) := by decide +kernel
theorem dX10_putAnalogs_87 : decode cX10_putAnalogs 87 = .ok (.goto (-37), 3) := by decide +kernel
theorem dX10_putAnalogs_90 : decode cX10_putAnalogs 90 = .ok (.return_, 1) := by decide +kernel
theorem dX10_putEvents_0 : decode cX10_putEvents 0 = .ok (.iconst (-1), 1) := by decide +kernel
theorem dX10_putEvents_1 : decode cX10_putEvents 1 = .ok (.istore_n 2, 1) := by decide +kernel
theorem dX10_putEvents_2 : decode cX10_putEvents 2 = .ok (.iconst (-1), 1) := by decide +kernel
theorem dX10_putEvents_3 : decode cX10_putEvents 3 = .ok (.istore_n 3, 1) := by decide +kernel
theorem dX10_putEvents_4 : decode cX10_putEvents 4 = .ok (.iconst 0, 1) := by decide +kernel
theorem dX10_putEvents_5 : decode cX10_putEvents 5 = .ok (.istore 4, 2) := by decide +kernel
theorem dX10_putEvents_7 : decode cX10_putEvents 7 = .ok (.iload 4, 2) := by decide +kernel
theorem dX10_putEvents_9 : decode cX10_putEvents 9 = .ok (.aload_n 0, 1) := by decide +kernel
theorem dX10_putEvents_10 : decode cX10_putEvents 10 = .ok (.getfield 50, 3) := by decide +kernel
theorem dX10_putEvents_13 : decode cX10_putEvents 13 = .ok (.iload_n 1, 1) := by decide +kernel
theorem dX10_putEvents_14 : decode cX10_putEvents 14 = .ok (.iaload, 1) := by decide +kernel
theorem dX10_putEvents_15 : decode cX10_putEvents 15 = .ok (.if_icmp .ge 245, 3) := by decide +kernel
theorem dX10_putEvents_18 : decode cX10_putEvents 18 = .ok (.iload_n 1, 1) := by decide +kernel
theorem dX10_putEvents_19 : decode cX10_putEvents 19 = .ok (.iload 4, 2) := by decide +kernel
theorem dX10_putEvents_21 : decode cX10_putEvents 21 = .ok (.invokestatic 193, 3) := by decide +kernel
theorem dX10_putEvents_24 : decode cX10_putEvents 24 = .ok (.istore 5, 2) := by decide +kernel
theorem dX10_putEvents_26 : decode cX10_putEvents 26 = .ok (.aload_n 0, 1) := by decide +kernel
theorem dX10_putEvents_27 : decode cX10_putEvents 27 = .ok (.getfield 47, 3) := by decide +kernel
theorem dX10_putEvents_30 : decode cX10_putEvents 30 = .ok (.iload 5, 2) := by decide +kernel
theorem dX10_putEvents_32 : decode cX10_putEvents 32 = .ok (.iconst 3, 1) := by decide +kernel
theorem dX10_putEvents_33 : decode cX10_putEvents 33 = .ok (.iadd, 1) := by decide +kernel
theorem dX10_putEvents_34 : decode cX10_putEvents 34 = .ok (.iaload, 1) := by decide +kernel
theorem dX10_putEvents_35 : decode cX10_putEvents 35 = .ok (.ifCond .ne 219, 3) := by decide +kernel
theorem dX10_putEvents_38 : decode cX10_putEvents 38 = .ok (.aload_n 0, 1) := by decide +kernel
theorem dX10_putEvents_39 : decode cX10_putEvents 39 = .ok (.getfield 47, 3) := by decide +kernel
theorem dX10_putEvents_42 : decode cX10_putEvents 42 = .ok (.iload 5, 2) := by decide +kernel
theorem dX10_putEvents_44 : decode cX10_putEvents 44 = .ok (.iaload, 1) := by decide +kernel
theorem dX10_putEvents_45 : decode cX10_putEvents 45 = .ok (.iload_n 3, 1) := by decide +kernel
theorem dX10_putEvents_46 : decode cX10_putEvents 46 = .ok (.if_icmp .ne 7, 3) := by decide +kernel
theorem dX10_putEvents_49 : decode cX10_putEvents 49 = .ok (.iconst 1, 1) := by decide +kernel
theorem dX10_putEvents_50 : decode cX10_putEvents 50 = .ok (.goto 4, 3) := by decide +kernel
theorem dX10_putEvents_53 : decode cX10_putEvents 53 = .ok (.iconst 0, 1) := by decide +kernel
theorem dX10_putEvents_54 : decode cX10_putEvents 54 = .ok (.istore 6, 2) := by decide +kernel
theorem dX10_putEvents_56 : decode cX10_putEvents 56 = .ok (.aload_n 0, 1) := by decide +kernel
theorem dX10_putEvents_57 : decode cX10_putEvents 57 = .ok (.getfield 47, 3) := by decide +kernel
theorem dX10_putEvents_60 : decode cX10_putEvents 60 = .ok (.iload 5, 2) := by decide +kernel
theorem dX10_putEvents_62 : decode cX10_putEvents 62 = .ok (.iaload, 1) := by decide +kernel
theorem dX10_putEvents_63 : decode cX10_putEvents 63 = .ok (.ifCond .ne 7, 3) := by decide +kernel
theorem dX10_putEvents_66 : decode cX10_putEvents 66 = .ok (.iconst 2, 1) := by decide +kernel
theorem dX10_putEvents_67 : decode cX10_putEvents 67 = .ok (.goto 4, 3) := by decide +kernel
theorem dX10_putEvents_70 : decode cX10_putEvents 70 = .ok (.iconst 4, 1) := by decide +kernel
theorem dX10_putEvents_71 : decode cX10_putEvents 71 = .ok (.istore 7, 2) := by decide +kernel
theorem dX10_putEvents_73 : decode cX10_putEvents 73 = .ok (.aload_n 0, 1) := by decide +kernel
theorem dX10_putEvents_74 : decode cX10_putEvents 74 = .ok (.iload 6, 2) := by decide +kernel
theorem dX10_putEvents_76 : decode cX10_putEvents 76 = .ok (.ifCond .eq 8, 3) := by decide +kernel
theorem dX10_putEvents_79 : decode cX10_putEvents 79 = .ok (.iload 7, 2) := by decide +kernel
theorem dX10_putEvents_81 : decode cX10_putEvents 81 = .ok (.goto 7, 3) := by decide +kernel
theorem dX10_putEvents_84 : decode cX10_putEvents 84 = .ok (.iload 7, 2) := by decide +kernel
theorem dX10_putEvents_86 : decode cX10_putEvents 86 = .ok (.iconst 4, 1) := by decide +kernel
theorem dX10_putEvents_87 : decode cX10_putEvents 87 = .ok (.iadd, 1) := by decide +kernel
theorem dX10_putEvents_88 : decode cX10_putEvents 88 = .ok (.invokevirtual 211, 3) := by decide +kernel
theorem dX10_putEvents_91 : decode cX10_putEvents 91 = .ok (.ifCond .ne 4, 3) := by decide +kernel
theorem dX10_putEvents_94 : decode cX10_putEvents 94 = .ok (.return_, 1) := by decide +kernel
theorem dX10_putEvents_95 : decode cX10_putEvents 95 = .ok (.iload 6, 2) := by decide +kernel
theorem dX10_putEvents_97 : decode cX10_putEvents 97 = .ok (.ifCond .ne 54, 3) := by decide +kernel
theorem dX10_putEvents_100 : decode cX10_putEvents 100 = .ok (.aload_n 0, 1) := by decide +kernel
theorem dX10_putEvents_101 : decode cX10_putEvents 101 = .ok (.getfield 47, 3) := by decide +kernel
theorem dX10_putEvents_104 : decode cX10_putEvents 104 = .ok (.iload 5, 2) := by decide +kernel
theorem dX10_putEvents_106 : decode cX10_putEvents 106 = .ok (.iaload, 1) := by decide +kernel
theorem dX10_putEvents_107 : decode cX10_putEvents 107 = .ok (.istore_n 3, 1) := by decide +kernel
theorem dX10_putEvents_108 : decode cX10_putEvents 108 = .ok (.aload_n 0, 1) := by decide +kernel
theorem dX10_putEvents_109 : decode cX10_putEvents 109 = .ok (.iload_n 3, 1) := by decide +kernel
theorem dX10_putEvents_110 : decode cX10_putEvents 110 = .ok (.ifCond .ne 7, 3) := by decide +kernel
theorem dX10_putEvents_113 : decode cX10_putEvents 113 = .ok (.iconst 2, 1) := by decide +kernel
theorem dX10_putEvents_114 : decode cX10_putEvents 114 = .ok (.goto 5, 3) := by decide +kernel
theorem dX10_putEvents_117 : decode cX10_putEvents 117 = .ok (.bipush 32, 2) := by decide +kernel
theorem dX10_putEvents_119 : decode cX10_putEvents 119 = .ok (.invokevirtual 215, 3) := by decide +kernel
theorem dX10_putEvents_122 : decode cX10_putEvents 122 = .ok (.aload_n 0, 1) := by decide +kernel
theorem dX10_putEvents_123 : decode cX10_putEvents 123 = .ok (.iload_n 3, 1) := by decide +kernel
theorem dX10_putEvents_124 : decode cX10_putEvents 124 = .ok (.ifCond .ne 7, 3) := by decide +kernel
theorem dX10_putEvents_127 : decode cX10_putEvents 127 = .ok (.iconst 1, 1) := by decide +kernel
theorem dX10_putEvents_128 : decode cX10_putEvents 128 = .ok (.goto 4, 3) := by decide +kernel
theorem dX10_putEvents_131 : decode cX10_putEvents 131 = .ok (.iconst 2, 1) := by decide +kernel
theorem dX10_putEvents_132 : decode cX10_putEvents 132 = .ok (.invokevirtual 215, 3) := by decide +kernel
theorem dX10_putEvents_135 : decode cX10_putEvents 135 = .ok (.aload_n 0, 1) := by decide +kernel
theorem dX10_putEvents_136 : decode cX10_putEvents 136 = .ok (.bipush 23, 2) := by decide +kernel
theorem dX10_putEvents_138 : decode cX10_putEvents 138 = .ok (.invokevirtual 215, 3) := by decide +kernel
theorem dX10_putEvents_141 : decode cX10_putEvents 141 = .ok (.aload_n 0, 1) := by decide +kernel
theorem dX10_putEvents_142 : decode cX10_putEvents 142 = .ok (.getfield 162, 3) := by decide +kernel
theorem dX10_putEvents_145 : decode cX10_putEvents 145 = .ok (.istore_n 2, 1) := by decide +kernel
theorem dX10_putEvents_146 : decode cX10_putEvents 146 = .ok (.aload_n 0, 1) := by decide +kernel
theorem dX10_putEvents_147 : decode cX10_putEvents 147 = .ok (.iconst 0, 1) := by decide +kernel
theorem dX10_putEvents_148 : decode cX10_putEvents 148 = .ok (.invokevirtual 215, 3) := by decide +kernel
theorem dX10_putEvents_151 : decode cX10_putEvents 151 = .ok (.aload_n 0, 1) := by decide +kernel
theorem dX10_putEvents_152 : decode cX10_putEvents 152 = .ok (.getfield 22, 3) := by decide +kernel
theorem dX10_putEvents_155 : decode cX10_putEvents 155 = .ok (.iload_n 2, 1) := by decide +kernel
theorem dX10_putEvents_156 : decode cX10_putEvents 156 = .ok (.dup2, 1) := by decide +kernel
theorem dX10_putEvents_157 : decode cX10_putEvents 157 = .ok (.iaload, 1) := by decide +kernel
theorem dX10_putEvents_158 : decode cX10_putEvents 158 = .ok (.iconst 1, 1) := by decide +kernel
theorem dX10_putEvents_159 : decode cX10_putEvents 159 = .ok (.iadd, 1) := by decide +kernel
theorem dX10_putEvents_160 : decode cX10_putEvents 160 = .ok (.iastore, 1) := by decide +kernel
theorem dX10_putEvents_161 : decode cX10_putEvents 161 = .ok (.aload_n 0, 1) := by decide +kernel
theorem dX10_putEvents_162 : decode cX10_putEvents 162 = .ok (.aload_n 0, 1) := by decide +kernel
theorem dX10_putEvents_163 : decode cX10_putEvents 163 = .ok (.getfield 47, 3) := by decide +kernel
theorem dX10_putEvents_166 : decode cX10_putEvents 166 = .ok (.iload 5, 2) := by decide +kernel
theorem dX10_putEvents_168 : decode cX10_putEvents 168 = .ok (.iconst 1, 1) := by decide +kernel
theorem dX10_putEvents_169 : decode cX10_putEvents 169 = .ok (.iadd, 1) := by decide +kernel
theorem dX10_putEvents_170 : decode cX10_putEvents 170 = .ok (.iaload, 1) := by decide +kernel
theorem dX10_putEvents_171 : decode cX10_putEvents 171 = .ok (.invokevirtual 215, 3) := by decide +kernel
theorem dX10_putEvents_174 : decode cX10_putEvents 174 = .ok (.iload_n 3, 1) := by decide +kernel
theorem dX10_putEvents_175 : decode cX10_putEvents 175 = .ok (.ifCond .ne 30, 3) := by decide +kernel
theorem dX10_putEvents_178 : decode cX10_putEvents 178 = .ok (.aload_n 0, 1) := by decide +kernel
theorem dX10_putEvents_179 : decode cX10_putEvents 179 = .ok (.aload_n 0, 1) := by decide +kernel
theorem dX10_putEvents_180 : decode cX10_putEvents 180 = .ok (.getfield 47, 3) := by decide +kernel
theorem dX10_putEvents_183 : decode cX10_putEvents 183 = .ok (.iload 5, 2) := by decide +kernel
theorem dX10_putEvents_185 : decode cX10_putEvents 185 = .ok (.iconst 2, 1) := by decide +kernel
theorem dX10_putEvents_186 : decode cX10_putEvents 186 = .ok (.iadd, 1) := by decide +kernel
theorem dX10_putEvents_187 : decode cX10_putEvents 187 = .ok (.iaload, 1) := by decide +kernel
theorem dX10_putEvents_188 : decode cX10_putEvents 188 = .ok (.iconst 1, 1) := by decide +kernel
theorem dX10_putEvents_189 : decode cX10_putEvents 189 = .ok (.if_icmp .ne 9, 3) := by decide +kernel
theorem dX10_putEvents_192 : decode cX10_putEvents 192 = .ok (.sipush 129, 3) := by decide +kernel
theorem dX10_putEvents_195 : decode cX10_putEvents 195 = .ok (.goto 4, 3) := by decide +kernel
theorem dX10_putEvents_198 : decode cX10_putEvents 198 = .ok (.iconst 1, 1) := by decide +kernel
theorem dX10_putEvents_199 : decode cX10_putEvents 199 = .ok (.invokevirtual 215, 3) := by decide +kernel
theorem dX10_putEvents_202 : decode cX10_putEvents 202 = .ok (.goto 37, 3) := by decide +kernel
theorem dX10_putEvents_205 : decode cX10_putEvents 205 = .ok (.aload_n 0, 1) := by decide +kernel
theorem dX10_putEvents_206 : decode cX10_putEvents 206 = .ok (.iconst 1, 1) := by decide +kernel
theorem dX10_putEvents_207 : decode cX10_putEvents 207 = .ok (.invokevirtual 215, 3) := by decide +kernel
theorem dX10_putEvents_210 : decode cX10_putEvents 210 = .ok (.aload_n 0, 1) := by decide +kernel
theorem dX10_putEvents_211 : decode cX10_putEvents 211 = .ok (.aload_n 0, 1) := by decide +kernel
theorem dX10_putEvents_212 : decode cX10_putEvents 212 = .ok (.getfield 47, 3) := by decide +kernel
theorem dX10_putEvents_215 : decode cX10_putEvents 215 = .ok (.iload 5, 2) := by decide +kernel
theorem dX10_putEvents_217 : decode cX10_putEvents 217 = .ok (.iconst 2, 1) := by decide +kernel
theorem dX10_putEvents_218 : decode cX10_putEvents 218 = .ok (.iadd, 1) := by decide +kernel
theorem dX10_putEvents_219 : decode cX10_putEvents 219 = .ok (.iaload, 1) := by decide +kernel
theorem dX10_putEvents_220 : decode cX10_putEvents 220 = .ok (.invokevirtual 215, 3) := by decide +kernel
theorem dX10_putEvents_223 : decode cX10_putEvents 223 = .ok (.aload_n 0, 1) := by decide +kernel
theorem dX10_putEvents_224 : decode cX10_putEvents 224 = .ok (.aload_n 0, 1) := by decide +kernel
theorem dX10_putEvents_225 : decode cX10_putEvents 225 = .ok (.getfield 47, 3) := by decide +kernel
theorem dX10_putEvents_228 : decode cX10_putEvents 228 = .ok (.iload 5, 2) := by decide +kernel
theorem dX10_putEvents_230 : decode cX10_putEvents 230 = .ok (.iconst 2, 1) := by decide +kernel
theorem dX10_putEvents_231 : decode cX10_putEvents 231 = .ok (.iadd, 1) := by decide +kernel
theorem dX10_putEvents_232 : decode cX10_putEvents 232 = .ok (.iaload, 1) := by decide +kernel
theorem dX10_putEvents_233 : decode cX10_putEvents 233 = .ok (.bipush 8, 2) := by decide +kernel
theorem dX10_putEvents_235 : decode cX10_putEvents 235 = .ok (.ishr, 1) := by decide +kernel
theorem dX10_putEvents_236 : decode cX10_putEvents 236 = .ok (.invokevirtual 215, 3) := by decide +kernel
theorem dX10_putEvents_239 : decode cX10_putEvents 239 = .ok (.aload_n 0, 1) := by decide +kernel
theorem dX10_putEvents_240 : decode cX10_putEvents 240 = .ok (.getfield 47, 3) := by decide +kernel
theorem dX10_putEvents_243 : decode cX10_putEvents 243 = .ok (.iload 5, 2) := by decide +kernel
theorem dX10_putEvents_245 : decode cX10_putEvents 245 = .ok (.iconst 3, 1) := by decide +kernel
theorem dX10_putEvents_246 : decode cX10_putEvents 246 = .ok (.iadd, 1) := by decide +kernel
theorem dX10_putEvents_247 : decode cX10_putEvents 247 = .ok (.iconst 1, 1) := by decide +kernel
theorem dX10_putEvents_248 : decode cX10_putEvents 248 = .ok (.iastore, 1) := by decide +kernel
theorem dX10_putEvents_249 : decode cX10_putEvents 249 = .ok (.aload_n 0, 1) := by decide +kernel
theorem dX10_putEvents_250 : decode cX10_putEvents 250 = .ok (.iconst 1, 1) := by decide +kernel
theorem dX10_putEvents_251 : decode cX10_putEvents 251 = .ok (.putfield 174, 3) := by decide +kernel
theorem dX10_putEvents_254 : decode cX10_putEvents 254 = .ok (.iinc 4 1, 3) := by decide +kernel
theorem dX10_putEvents_257 : decode cX10_putEvents 257 = .ok (.goto (-250), 3) := by decide +kernel
theorem dX10_putEvents_260 : decode cX10_putEvents 260 = .ok (.return_, 1) := by decide +kernel
theorem dX10_write_0 : decode cX10_write 0 = .ok (.iload_n 1, 1) := by decide +kernel
theorem dX10_write_1 : decode cX10_write 1 = .ok (.bipush 8, 2) := by decide +kernel
theorem dX10_write_3 : decode cX10_write 3 = .ok (.if_icmp .ne 70, 3) := by decide +kernel
theorem dX10_write_6 : decode cX10_write 6 = .ok (.aload_n 0, 1) := by decide +kernel
theorem dX10_write_7 : decode cX10_write 7 = .ok (.getfield 16, 3) := by decide +kernel
theorem dX10_write_10 : decode cX10_write 10 = .ok (.iconst 2, 1) := by decide +kernel
theorem dX10_write_11 : decode cX10_write 11 = .ok (.iaload, 1) := by decide +kernel
theorem dX10_write_12 : decode cX10_write 12 = .ok (.bipush 80, 2) := by decide +kernel
theorem dX10_write_14 : decode cX10_write 14 = .ok (.if_icmp .ne 59, 3) := by decide +kernel
theorem dX10_write_17 : decode cX10_write 17 = .ok (.aload_n 0, 1) := by decide +kernel
theorem dX10_write_18 : decode cX10_write 18 = .ok (.getfield 16, 3) := by decide +kernel
theorem dX10_write_21 : decode cX10_write 21 = .ok (.iconst 3, 1) := by decide +kernel
theorem dX10_write_22 : decode cX10_write 22 = .ok (.iaload, 1) := by decide +kernel
theorem dX10_write_23 : decode cX10_write 23 = .ok (.iconst 1, 1) := by decide +kernel
theorem dX10_write_24 : decode cX10_write 24 = .ok (.if_icmp .ne 49, 3) := by decide +kernel
theorem dX10_write_27 : decode cX10_write 27 = .ok (.aload_n 0, 1) := by decide +kernel
theorem dX10_write_28 : decode cX10_write 28 = .ok (.getfield 16, 3) := by decide +kernel
theorem dX10_write_31 : decode cX10_write 31 = .ok (.iconst 4, 1) := by decide +kernel
theorem dX10_write_32 : decode cX10_write 32 = .ok (.iaload, 1) := by decide +kernel
theorem dX10_write_33 : decode cX10_write 33 = .ok (.ifCond .ne 40, 3) := by decide +kernel
theorem dX10_write_36 : decode cX10_write 36 = .ok (.aload_n 0, 1) := by decide +kernel
theorem dX10_write_37 : decode cX10_write 37 = .ok (.getfield 16, 3) := by decide +kernel
theorem dX10_write_40 : decode cX10_write 40 = .ok (.iconst 5, 1) := by decide +kernel
theorem dX10_write_41 : decode cX10_write 41 = .ok (.iaload, 1) := by decide +kernel
theorem dX10_write_42 : decode cX10_write 42 = .ok (.bipush 7, 2) := by decide +kernel
theorem dX10_write_44 : decode cX10_write 44 = .ok (.if_icmp .ne 29, 3) := by decide +kernel
theorem dX10_write_47 : decode cX10_write 47 = .ok (.aload_n 0, 1) := by decide +kernel
theorem dX10_write_48 : decode cX10_write 48 = .ok (.getfield 16, 3) := by decide +kernel
theorem dX10_write_51 : decode cX10_write 51 = .ok (.bipush 6, 2) := by decide +kernel
theorem dX10_write_53 : decode cX10_write 53 = .ok (.iaload, 1) := by decide +kernel
theorem dX10_write_54 : decode cX10_write 54 = .ok (.bipush 7, 2) := by decide +kernel
theorem dX10_write_56 : decode cX10_write 56 = .ok (.if_icmp .ne 17, 3) := by decide +kernel
theorem dX10_write_59 : decode cX10_write 59 = .ok (.aload_n 0, 1) := by decide +kernel
theorem dX10_write_60 : decode cX10_write 60 = .ok (.getfield 16, 3) := by decide +kernel
theorem dX10_write_63 : decode cX10_write 63 = .ok (.bipush 7, 2) := by decide +kernel
theorem dX10_write_65 : decode cX10_write 65 = .ok (.iaload, 1) := by decide +kernel
theorem dX10_write_66 : decode cX10_write 66 = .ok (.ifCond .ne 7, 3) := by decide +kernel
theorem dX10_write_69 : decode cX10_write 69 = .ok (.iconst 1, 1) := by decide +kernel
theorem dX10_write_70 : decode cX10_write 70 = .ok (.goto 4, 3) := by decide +kernel
theorem dX10_write_73 : decode cX10_write 73 = .ok (.iconst 0, 1) := by decide +kernel
theorem dX10_write_74 : decode cX10_write 74 = .ok (.istore_n 2, 1) := by decide +kernel
theorem dX10_write_75 : decode cX10_write 75 = .ok (.aload_n 0, 1) := by decide +kernel
theorem dX10_write_76 : decode cX10_write 76 = .ok (.aload_n 0, 1) := by decide +kernel
theorem dX10_write_77 : decode cX10_write 77 = .ok (.getfield 73, 3) := by decide +kernel
theorem dX10_write_80 : decode cX10_write 80 = .ok (.ifCond .eq 11, 3) := by decide +kernel
theorem dX10_write_83 : decode cX10_write 83 = .ok (.iload_n 2, 1) := by decide +kernel
theorem dX10_write_84 : decode cX10_write 84 = .ok (.ifCond .ne 7, 3) := by decide +kernel
theorem dX10_write_87 : decode cX10_write 87 = .ok (.iconst 1, 1) := by decide +kernel
theorem dX10_write_88 : decode cX10_write 88 = .ok (.goto 4, 3) := by decide +kernel
theorem dX10_write_91 : decode cX10_write 91 = .ok (.iconst 0, 1) := by decide +kernel
theorem dX10_write_92 : decode cX10_write 92 = .ok (.putfield 73, 3) := by decide +kernel
theorem dX10_write_95 : decode cX10_write 95 = .ok (.aload_n 0, 1) := by decide +kernel
theorem dX10_write_96 : decode cX10_write 96 = .ok (.iload_n 2, 1) := by decide +kernel
theorem dX10_write_97 : decode cX10_write 97 = .ok (.ifCond .eq 10, 3) := by decide +kernel
theorem dX10_write_100 : decode cX10_write 100 = .ok (.aload_n 0, 1) := by decide +kernel
theorem dX10_write_101 : decode cX10_write 101 = .ok (.getfield 171, 3) := by decide +kernel
theorem dX10_write_104 : decode cX10_write 104 = .ok (.goto 9, 3) := by decide +kernel
theorem dX10_write_107 : decode cX10_write 107 = .ok (.aload_n 0, 1) := by decide +kernel
theorem dX10_write_108 : decode cX10_write 108 = .ok (.getfield 171, 3) := by decide +kernel
theorem dX10_write_111 : decode cX10_write 111 = .ok (.iconst 4, 1) := by decide +kernel
theorem dX10_write_112 : decode cX10_write 112 = .ok (.ior, 1) := by decide +kernel
theorem dX10_write_113 : decode cX10_write 113 = .ok (.putfield 171, 3) := by decide +kernel
theorem dX10_write_116 : decode cX10_write 116 = .ok (.return_, 1) := by decide +kernel
theorem dX10_command_0 : decode cX10_command 0 = .ok (.iload_n 3, 1) := by decide +kernel
theorem dX10_command_1 : decode cX10_command 1 = .ok (.iconst 5, 1) := by decide +kernel
theorem dX10_command_2 : decode cX10_command 2 = .ok (.if_icmp .le 76, 3) := by decide +kernel
theorem dX10_command_5 : decode cX10_command 5 = .ok (.aload_n 0, 1) := by decide +kernel
theorem dX10_command_6 : decode cX10_command 6 = .ok (.getfield 16, 3) := by decide +kernel
theorem dX10_command_9 : decode cX10_command 9 = .ok (.iconst 2, 1) := by decide +kernel
theorem dX10_command_10 : decode cX10_command 10 = .ok (.iaload, 1) := by decide +kernel
theorem dX10_command_11 : decode cX10_command 11 = .ok (.bipush 12, 2) := by decide +kernel
theorem dX10_command_13 : decode cX10_command 13 = .ok (.if_icmp .ne 65, 3) := by decide +kernel
theorem dX10_command_16 : decode cX10_command 16 = .ok (.aload_n 0, 1) := by decide +kernel
theorem dX10_command_17 : decode cX10_command 17 = .ok (.getfield 16, 3) := by decide +kernel
theorem dX10_command_20 : decode cX10_command 20 = .ok (.iconst 3, 1) := by decide +kernel
theorem dX10_command_21 : decode cX10_command 21 = .ok (.iaload, 1) := by decide +kernel
theorem dX10_command_22 : decode cX10_command 22 = .ok (.iconst 1, 1) := by decide +kernel
theorem dX10_command_23 : decode cX10_command 23 = .ok (.if_icmp .ne 55, 3) := by decide +kernel
theorem dX10_command_26 : decode cX10_command 26 = .ok (.aload_n 0, 1) := by decide +kernel
theorem dX10_command_27 : decode cX10_command 27 = .ok (.getfield 16, 3) := by decide +kernel
theorem dX10_command_30 : decode cX10_command 30 = .ok (.iconst 4, 1) := by decide +kernel
theorem dX10_command_31 : decode cX10_command 31 = .ok (.iaload, 1) := by decide +kernel
theorem dX10_command_32 : decode cX10_command 32 = .ok (.bipush 23, 2) := by decide +kernel
theorem dX10_command_34 : decode cX10_command 34 = .ok (.if_icmp .ne 44, 3) := by decide +kernel
theorem dX10_command_37 : decode cX10_command 37 = .ok (.aload_n 0, 1) := by decide +kernel
theorem dX10_command_38 : decode cX10_command 38 = .ok (.getfield 16, 3) := by decide +kernel
theorem dX10_command_41 : decode cX10_command 41 = .ok (.iconst 5, 1) := by decide +kernel
theorem dX10_command_42 : decode cX10_command 42 = .ok (.iaload, 1) := by decide +kernel
theorem dX10_command_43 : decode cX10_command 43 = .ok (.iconst 1, 1) := by decide +kernel
theorem dX10_command_44 : decode cX10_command 44 = .ok (.if_icmp .lt 34, 3) := by decide +kernel
theorem dX10_command_47 : decode cX10_command 47 = .ok (.aload_n 0, 1) := by decide +kernel
theorem dX10_command_48 : decode cX10_command 48 = .ok (.getfield 16, 3) := by decide +kernel
theorem dX10_command_51 : decode cX10_command 51 = .ok (.iconst 5, 1) := by decide +kernel
theorem dX10_command_52 : decode cX10_command 52 = .ok (.iaload, 1) := by decide +kernel
theorem dX10_command_53 : decode cX10_command 53 = .ok (.bipush 8, 2) := by decide +kernel
theorem dX10_command_55 : decode cX10_command 55 = .ok (.if_icmp .gt 23, 3) := by decide +kernel
theorem dX10_command_58 : decode cX10_command 58 = .ok (.iload_n 3, 1) := by decide +kernel
theorem dX10_command_59 : decode cX10_command 59 = .ok (.bipush 6, 2) := by decide +kernel
theorem dX10_command_61 : decode cX10_command 61 = .ok (.bipush 12, 2) := by decide +kernel
theorem dX10_command_63 : decode cX10_command 63 = .ok (.aload_n 0, 1) := by decide +kernel
theorem dX10_command_64 : decode cX10_command 64 = .ok (.getfield 16, 3) := by decide +kernel
theorem dX10_command_67 : decode cX10_command 67 = .ok (.iconst 5, 1) := by decide +kernel
theorem dX10_command_68 : decode cX10_command 68 = .ok (.iaload, 1) := by decide +kernel
theorem dX10_command_69 : decode cX10_command 69 = .ok (.imul, 1) := by decide +kernel
theorem dX10_command_70 : decode cX10_command 70 = .ok (.iadd, 1) := by decide +kernel
theorem dX10_command_71 : decode cX10_command 71 = .ok (.if_icmp .ne 7, 3) := by decide +kernel
theorem dX10_command_74 : decode cX10_command 74 = .ok (.iconst 1, 1) := by decide +kernel
theorem dX10_command_75 : decode cX10_command 75 = .ok (.goto 4, 3) := by decide +kernel
theorem dX10_command_78 : decode cX10_command 78 = .ok (.iconst 0, 1) := by decide +kernel
theorem dX10_command_79 : decode cX10_command 79 = .ok (.istore 4, 2) := by decide +kernel
theorem dX10_command_81 : decode cX10_command 81 = .ok (.iload 4, 2) := by decide +kernel
theorem dX10_command_83 : decode cX10_command 83 = .ok (.ifCond .ne 14, 3) := by decide +kernel
theorem dX10_command_86 : decode cX10_command 86 = .ok (.aload_n 0, 1) := by decide +kernel
theorem dX10_command_87 : decode cX10_command 87 = .ok (.aload_n 0, 1) := by decide +kernel
theorem dX10_command_88 : decode cX10_command 88 = .ok (.getfield 171, 3) := by decide +kernel
theorem dX10_command_91 : decode cX10_command 91 = .ok (.iconst 4, 1) := by decide +kernel
theorem dX10_command_92 : decode cX10_command 92 = .ok (.ior, 1) := by decide +kernel
theorem dX10_command_93 : decode cX10_command 93 = .ok (.putfield 171, 3) := by decide +kernel
theorem dX10_command_96 : decode cX10_command 96 = .ok (.return_, 1) := by decide +kernel
theorem dX10_command_97 : decode cX10_command 97 = .ok (.iconst 0, 1) := by decide +kernel
theorem dX10_command_98 : decode cX10_command 98 = .ok (.istore 5, 2) := by decide +kernel
theorem dX10_command_100 : decode cX10_command 100 = .ok (.iload_n 1, 1) := by decide +kernel
theorem dX10_command_101 : decode cX10_command 101 = .ok (.iconst 4, 1) := by decide +kernel
theorem dX10_command_102 : decode cX10_command 102 = .ok (.if_icmp .ne 112, 3) := by decide +kernel
theorem dX10_command_105 : decode cX10_command 105 = .ok (.aload_n 0, 1) := by decide +kernel
theorem dX10_command_106 : decode cX10_command 106 = .ok (.getfield 86, 3) := by decide +kernel
theorem dX10_command_109 : decode cX10_command 109 = .ok (.iload_n 3, 1) := by decide +kernel
theorem dX10_command_110 : decode cX10_command 110 = .ok (.if_icmp .ne 20, 3) := by decide +kernel
theorem dX10_command_113 : decode cX10_command 113 = .ok (.aload_n 0, 1) := by decide +kernel
theorem dX10_command_114 : decode cX10_command 114 = .ok (.getfield 218, 3) := by decide +kernel
theorem dX10_command_117 : decode cX10_command 117 = .ok (.iconst 1, 1) := by decide +kernel
theorem dX10_command_118 : decode cX10_command 118 = .ok (.iadd, 1) := by decide +kernel
theorem dX10_command_119 : decode cX10_command 119 = .ok (.bipush 16, 2) := by decide +kernel
theorem dX10_command_121 : decode cX10_command 121 = .ok (.irem, 1) := by decide +kernel
theorem dX10_command_122 : decode cX10_command 122 = .ok (.iload_n 2, 1) := by decide +kernel
theorem dX10_command_123 : decode cX10_command 123 = .ok (.if_icmp .ne 7, 3) := by decide +kernel
theorem dX10_command_126 : decode cX10_command 126 = .ok (.iconst 1, 1) := by decide +kernel
theorem dX10_command_127 : decode cX10_command 127 = .ok (.goto 4, 3) := by decide +kernel
theorem dX10_command_130 : decode cX10_command 130 = .ok (.iconst 0, 1) := by decide +kernel
theorem dX10_command_131 : decode cX10_command 131 = .ok (.istore 6, 2) := by decide +kernel
theorem dX10_command_133 : decode cX10_command 133 = .ok (.iconst 2, 1) := by decide +kernel
theorem dX10_command_134 : decode cX10_command 134 = .ok (.istore 7, 2) := by decide +kernel
theorem dX10_command_136 : decode cX10_command 136 = .ok (.iload 7, 2) := by decide +kernel
theorem dX10_command_138 : decode cX10_command 138 = .ok (.iload_n 3, 1) := by decide +kernel
theorem dX10_command_139 : decode cX10_command 139 = .ok (.if_icmp .ge 38, 3) := by decide +kernel
theorem dX10_command_142 : decode cX10_command 142 = .ok (.iload 6, 2) := by decide +kernel
theorem dX10_command_144 : decode cX10_command 144 = .ok (.ifCond .eq 33, 3) := by decide +kernel
theorem dX10_command_147 : decode cX10_command 147 = .ok (.aload_n 0, 1) := by decide +kernel
theorem dX10_command_148 : decode cX10_command 148 = .ok (.getfield 53, 3) := by decide +kernel
theorem dX10_command_151 : decode cX10_command 151 = .ok (.iload 7, 2) := by decide +kernel
theorem dX10_command_153 : decode cX10_command 153 = .ok (.iaload, 1) := by decide +kernel
theorem dX10_command_154 : decode cX10_command 154 = .ok (.aload_n 0, 1) := by decide +kernel
theorem dX10_command_155 : decode cX10_command 155 = .ok (.getfield 16, 3) := by decide +kernel
theorem dX10_command_158 : decode cX10_command 158 = .ok (.iload 7, 2) := by decide +kernel
theorem dX10_command_160 : decode cX10_command 160 = .ok (.iaload, 1) := by decide +kernel
theorem dX10_command_161 : decode cX10_command 161 = .ok (.if_icmp .ne 7, 3) := by decide +kernel
theorem dX10_command_164 : decode cX10_command 164 = .ok (.iconst 1, 1) := by decide +kernel
theorem dX10_command_165 : decode cX10_command 165 = .ok (.goto 4, 3) := by decide +kernel
theorem dX10_command_168 : decode cX10_command 168 = .ok (.iconst 0, 1) := by decide +kernel
theorem dX10_command_169 : decode cX10_command 169 = .ok (.istore 6, 2) := by decide +kernel
theorem dX10_command_171 : decode cX10_command 171 = .ok (.iinc 7 1, 3) := by decide +kernel
theorem dX10_command_174 : decode cX10_command 174 = .ok (.goto (-38), 3) := by decide +kernel
theorem dX10_command_177 : decode cX10_command 177 = .ok (.iload 6, 2) := by decide +kernel
theorem dX10_command_179 : decode cX10_command 179 = .ok (.ifCond .ne 7, 3) := by decide +kernel
theorem dX10_command_182 : decode cX10_command 182 = .ok (.iconst 2, 1) := by decide +kernel
theorem dX10_command_183 : decode cX10_command 183 = .ok (.goto 24, 3) := by decide +kernel
theorem dX10_command_186 : decode cX10_command 186 = .ok (.aload_n 0, 1) := by decide +kernel
theorem dX10_command_187 : decode cX10_command 187 = .ok (.getfield 221, 3) := by decide +kernel
theorem dX10_command_190 : decode cX10_command 190 = .ok (.aload_n 0, 1) := by decide +kernel
theorem dX10_command_191 : decode cX10_command 191 = .ok (.getfield 224, 3) := by decide +kernel
theorem dX10_command_194 : decode cX10_command 194 = .ok (.isub, 1) := by decide +kernel
theorem dX10_command_195 : decode cX10_command 195 = .ok (.aload_n 0, 1) := by decide +kernel
theorem dX10_command_196 : decode cX10_command 196 = .ok (.getfield 70, 3) := by decide +kernel
theorem dX10_command_199 : decode cX10_command 199 = .ok (.if_icmp .le 7, 3) := by decide +kernel
theorem dX10_command_202 : decode cX10_command 202 = .ok (.iconst 1, 1) := by decide +kernel
theorem dX10_command_203 : decode cX10_command 203 = .ok (.goto 4, 3) := by decide +kernel
theorem dX10_command_206 : decode cX10_command 206 = .ok (.iconst 0, 1) := by decide +kernel
theorem dX10_command_207 : decode cX10_command 207 = .ok (.istore 5, 2) := by decide +kernel
theorem dX10_command_209 : decode cX10_command 209 = .ok (.aload_n 0, 1) := by decide +kernel
theorem dX10_command_210 : decode cX10_command 210 = .ok (.iconst (-1), 1) := by decide +kernel
theorem dX10_command_211 : decode cX10_command 211 = .ok (.putfield 86, 3) := by decide +kernel
theorem dX10_command_214 : decode cX10_command 214 = .ok (.iconst 1, 1) := by decide +kernel
theorem dX10_command_215 : decode cX10_command 215 = .ok (.istore 6, 2) := by decide +kernel
theorem dX10_command_217 : decode cX10_command 217 = .ok (.iconst 2, 1) := by decide +kernel
theorem dX10_command_218 : decode cX10_command 218 = .ok (.istore 7, 2) := by decide +kernel
theorem dX10_command_220 : decode cX10_command 220 = .ok (.iload 7, 2) := by decide +kernel
theorem dX10_command_222 : decode cX10_command 222 = .ok (.iload_n 3, 1) := by decide +kernel
theorem dX10_command_223 : decode cX10_command 223 = .ok (.if_icmp .ge 20, 3) := by decide +kernel
theorem dX10_command_226 : decode cX10_command 226 = .ok (.aload_n 0, 1) := by decide +kernel
theorem dX10_command_227 : decode cX10_command 227 = .ok (.aload_n 0, 1) := by decide +kernel
theorem dX10_command_228 : decode cX10_command 228 = .ok (.getfield 16, 3) := by decide +kernel
theorem dX10_command_231 : decode cX10_command 231 = .ok (.iload 7, 2) := by decide +kernel
theorem dX10_command_233 : decode cX10_command 233 = .ok (.iaload, 1) := by decide +kernel
theorem dX10_command_234 : decode cX10_command 234 = .ok (.invokevirtual 215, 3) := by decide +kernel
theorem dX10_command_237 : decode cX10_command 237 = .ok (.iinc 7 1, 3) := by decide +kernel
theorem dX10_command_240 : decode cX10_command 240 = .ok (.goto (-20), 3) := by decide +kernel
theorem dX10_command_243 : decode cX10_command 243 = .ok (.iconst 0, 1) := by decide +kernel
theorem dX10_command_244 : decode cX10_command 244 = .ok (.istore 7, 2) := by decide +kernel
theorem dX10_command_246 : decode cX10_command 246 = .ok (.iload 7, 2) := by decide +kernel
theorem dX10_command_248 : decode cX10_command 248 = .ok (.aload_n 0, 1) := by decide +kernel
theorem dX10_command_249 : decode cX10_command 249 = .ok (.getfield 16, 3) := by decide +kernel
theorem dX10_command_252 : decode cX10_command 252 = .ok (.iconst 5, 1) := by decide +kernel
theorem dX10_command_253 : decode cX10_command 253 = .ok (.iaload, 1) := by decide +kernel
theorem dX10_command_254 : decode cX10_command 254 = .ok (.if_icmp .ge 126, 3) := by decide +kernel
theorem dX10_command_257 : decode cX10_command 257 = .ok (.bipush 6, 2) := by decide +kernel
theorem dX10_command_259 : decode cX10_command 259 = .ok (.bipush 12, 2) := by decide +kernel
theorem dX10_command_261 : decode cX10_command 261 = .ok (.iload 7, 2) := by decide +kernel
theorem dX10_command_263 : decode cX10_command 263 = .ok (.imul, 1) := by decide +kernel
theorem dX10_command_264 : decode cX10_command 264 = .ok (.iadd, 1) := by decide +kernel
theorem dX10_command_265 : decode cX10_command 265 = .ok (.istore 8, 2) := by decide +kernel
theorem dX10_command_267 : decode cX10_command 267 = .ok (.aload_n 0, 1) := by decide +kernel
theorem dX10_command_268 : decode cX10_command 268 = .ok (.getfield 16, 3) := by decide +kernel
theorem dX10_command_271 : decode cX10_command 271 = .ok (.iload 8, 2) := by decide +kernel
theorem dX10_command_273 : decode cX10_command 273 = .ok (.iaload, 1) := by decide +kernel
theorem dX10_command_274 : decode cX10_command 274 = .ok (.istore 9, 2) := by decide +kernel
theorem dX10_command_276 : decode cX10_command 276 = .ok (.aload_n 0, 1) := by decide +kernel
theorem dX10_command_277 : decode cX10_command 277 = .ok (.getfield 16, 3) := by decide +kernel
theorem dX10_command_280 : decode cX10_command 280 = .ok (.iload 8, 2) := by decide +kernel
theorem dX10_command_282 : decode cX10_command 282 = .ok (.iconst 1, 1) := by decide +kernel
theorem dX10_command_283 : decode cX10_command 283 = .ok (.iadd, 1) := by decide +kernel
theorem dX10_command_284 : decode cX10_command 284 = .ok (.iaload, 1) := by decide +kernel
theorem dX10_command_285 : decode cX10_command 285 = .ok (.istore 10, 2) := by decide +kernel
theorem dX10_command_287 : decode cX10_command 287 = .ok (.iload 9, 2) := by decide +kernel
theorem dX10_command_289 : decode cX10_command 289 = .ok (.bipush 7, 2) := by decide +kernel
theorem dX10_command_291 : decode cX10_command 291 = .ok (.if_icmp .gt 15, 3) := by decide +kernel
theorem dX10_command_294 : decode cX10_command 294 = .ok (.iload 10, 2) := by decide +kernel
theorem dX10_command_296 : decode cX10_command 296 = .ok (.iconst 3, 1) := by decide +kernel
theorem dX10_command_297 : decode cX10_command 297 = .ok (.if_icmp .eq 13, 3) := by decide +kernel
theorem dX10_command_300 : decode cX10_command 300 = .ok (.iload 10, 2) := by decide +kernel
theorem dX10_command_302 : decode cX10_command 302 = .ok (.iconst 4, 1) := by decide +kernel
theorem dX10_command_303 : decode cX10_command 303 = .ok (.if_icmp .eq 7, 3) := by decide +kernel
theorem dX10_command_306 : decode cX10_command 306 = .ok (.iconst 4, 1) := by decide +kernel
theorem dX10_command_307 : decode cX10_command 307 = .ok (.goto 5, 3) := by decide +kernel
theorem dX10_command_310 : decode cX10_command 310 = .ok (.iload 5, 2) := by decide +kernel
theorem dX10_command_312 : decode cX10_command 312 = .ok (.istore 11, 2) := by decide +kernel
theorem dX10_command_314 : decode cX10_command 314 = .ok (.aload_n 0, 1) := by decide +kernel
theorem dX10_command_315 : decode cX10_command 315 = .ok (.getfield 22, 3) := by decide +kernel
theorem dX10_command_318 : decode cX10_command 318 = .ok (.iload 8, 2) := by decide +kernel
theorem dX10_command_320 : decode cX10_command 320 = .ok (.iconst 2, 1) := by decide +kernel
theorem dX10_command_321 : decode cX10_command 321 = .ok (.iadd, 1) := by decide +kernel
theorem dX10_command_322 : decode cX10_command 322 = .ok (.bipush 11, 2) := by decide +kernel
theorem dX10_command_324 : decode cX10_command 324 = .ok (.iadd, 1) := by decide +kernel
theorem dX10_command_325 : decode cX10_command 325 = .ok (.iload 11, 2) := by decide +kernel
theorem dX10_command_327 : decode cX10_command 327 = .ok (.iastore, 1) := by decide +kernel
theorem dX10_command_328 : decode cX10_command 328 = .ok (.iload 6, 2) := by decide +kernel
theorem dX10_command_330 : decode cX10_command 330 = .ok (.ifCond .eq 12, 3) := by decide +kernel
theorem dX10_command_333 : decode cX10_command 333 = .ok (.iload 11, 2) := by decide +kernel
theorem dX10_command_335 : decode cX10_command 335 = .ok (.ifCond .ne 7, 3) := by decide +kernel
theorem dX10_command_338 : decode cX10_command 338 = .ok (.iconst 1, 1) := by decide +kernel
theorem dX10_command_339 : decode cX10_command 339 = .ok (.goto 4, 3) := by decide +kernel
theorem dX10_command_342 : decode cX10_command 342 = .ok (.iconst 0, 1) := by decide +kernel
theorem dX10_command_343 : decode cX10_command 343 = .ok (.istore 6, 2) := by decide +kernel
theorem dX10_command_345 : decode cX10_command 345 = .ok (.iload 11, 2) := by decide +kernel
theorem dX10_command_347 : decode cX10_command 347 = .ok (.ifCond .ne 27, 3) := by decide +kernel
theorem dX10_command_350 : decode cX10_command 350 = .ok (.iload_n 1, 1) := by decide +kernel
theorem dX10_command_351 : decode cX10_command 351 = .ok (.iconst 3, 1) := by decide +kernel
theorem dX10_command_352 : decode cX10_command 352 = .ok (.if_icmp .eq 22, 3) := by decide +kernel
theorem dX10_command_355 : decode cX10_command 355 = .ok (.aload_n 0, 1) := by decide +kernel
theorem dX10_command_356 : decode cX10_command 356 = .ok (.getfield 56, 3) := by decide +kernel
theorem dX10_command_359 : decode cX10_command 359 = .ok (.iload 9, 2) := by decide +kernel
theorem dX10_command_361 : decode cX10_command 361 = .ok (.iload 10, 2) := by decide +kernel
theorem dX10_command_363 : decode cX10_command 363 = .ok (.iastore, 1) := by decide +kernel
theorem dX10_command_364 : decode cX10_command 364 = .ok (.aload_n 0, 1) := by decide +kernel
theorem dX10_command_365 : decode cX10_command 365 = .ok (.dup, 1) := by decide +kernel
theorem dX10_command_366 : decode cX10_command 366 = .ok (.getfield 227, 3) := by decide +kernel
theorem dX10_command_369 : decode cX10_command 369 = .ok (.iconst 1, 1) := by decide +kernel
theorem dX10_command_370 : decode cX10_command 370 = .ok (.iadd, 1) := by decide +kernel
theorem dX10_command_371 : decode cX10_command 371 = .ok (.putfield 227, 3) := by decide +kernel
theorem dX10_command_374 : decode cX10_command 374 = .ok (.iinc 7 1, 3) := by decide +kernel
theorem dX10_command_377 : decode cX10_command 377 = .ok (.goto (-131), 3) := by decide +kernel
theorem dX10_command_380 : decode cX10_command 380 = .ok (.iload_n 1, 1) := by decide +kernel
theorem dX10_command_381 : decode cX10_command 381 = .ok (.iconst 3, 1) := by decide +kernel
theorem dX10_command_382 : decode cX10_command 382 = .ok (.if_icmp .ne 55, 3) := by decide +kernel
theorem dX10_command_385 : decode cX10_command 385 = .ok (.iload 6, 2) := by decide +kernel
theorem dX10_command_387 : decode cX10_command 387 = .ok (.ifCond .eq 50, 3) := by decide +kernel
theorem dX10_command_390 : decode cX10_command 390 = .ok (.aload_n 0, 1) := by decide +kernel
theorem dX10_command_391 : decode cX10_command 391 = .ok (.iload_n 3, 1) := by decide +kernel
theorem dX10_command_392 : decode cX10_command 392 = .ok (.putfield 86, 3) := by decide +kernel
theorem dX10_command_395 : decode cX10_command 395 = .ok (.aload_n 0, 1) := by decide +kernel
theorem dX10_command_396 : decode cX10_command 396 = .ok (.iload_n 2, 1) := by decide +kernel
theorem dX10_command_397 : decode cX10_command 397 = .ok (.putfield 218, 3) := by decide +kernel
theorem dX10_command_400 : decode cX10_command 400 = .ok (.aload_n 0, 1) := by decide +kernel
theorem dX10_command_401 : decode cX10_command 401 = .ok (.aload_n 0, 1) := by decide +kernel
theorem dX10_command_402 : decode cX10_command 402 = .ok (.getfield 221, 3) := by decide +kernel
theorem dX10_command_405 : decode cX10_command 405 = .ok (.putfield 224, 3) := by decide +kernel
theorem dX10_command_408 : decode cX10_command 408 = .ok (.iconst 0, 1) := by decide +kernel
theorem dX10_command_409 : decode cX10_command 409 = .ok (.istore 7, 2) := by decide +kernel
theorem dX10_command_411 : decode cX10_command 411 = .ok (.iload 7, 2) := by decide +kernel
theorem dX10_command_413 : decode cX10_command 413 = .ok (.iload_n 3, 1) := by decide +kernel
theorem dX10_command_414 : decode cX10_command 414 = .ok (.if_icmp .ge 23, 3) := by decide +kernel
theorem dX10_command_417 : decode cX10_command 417 = .ok (.aload_n 0, 1) := by decide +kernel
theorem dX10_command_418 : decode cX10_command 418 = .ok (.getfield 53, 3) := by decide +kernel
theorem dX10_command_421 : decode cX10_command 421 = .ok (.iload 7, 2) := by decide +kernel
theorem dX10_command_423 : decode cX10_command 423 = .ok (.aload_n 0, 1) := by decide +kernel
theorem dX10_command_424 : decode cX10_command 424 = .ok (.getfield 16, 3) := by decide +kernel
theorem dX10_command_427 : decode cX10_command 427 = .ok (.iload 7, 2) := by decide +kernel
theorem dX10_command_429 : decode cX10_command 429 = .ok (.iaload, 1) := by decide +kernel
theorem dX10_command_430 : decode cX10_command 430 = .ok (.iastore, 1) := by decide +kernel
theorem dX10_command_431 : decode cX10_command 431 = .ok (.iinc 7 1, 3) := by decide +kernel
theorem dX10_command_434 : decode cX10_command 434 = .ok (.goto (-23), 3) := by decide +kernel
theorem dX10_command_437 : decode cX10_command 437 = .ok (.return_, 1) := by decide +kernel
theorem dX10_make_0 : decode cX10_make 0 = .ok (.aload_n 0, 1) := by decide +kernel
theorem dX10_make_1 : decode cX10_make 1 = .ok (.getfield 50, 3) := by decide +kernel
theorem dX10_make_4 : decode cX10_make 4 = .ok (.iload_n 1, 1) := by decide +kernel
theorem dX10_make_5 : decode cX10_make 5 = .ok (.iaload, 1) := by decide +kernel
theorem dX10_make_6 : decode cX10_make 6 = .ok (.aload_n 0, 1) := by decide +kernel
theorem dX10_make_7 : decode cX10_make 7 = .ok (.getfield 67, 3) := by decide +kernel
theorem dX10_make_10 : decode cX10_make 10 = .ok (.if_icmp .ne 47, 3) := by decide +kernel
theorem dX10_make_13 : decode cX10_make 13 = .ok (.iconst 1, 1) := by decide +kernel
theorem dX10_make_14 : decode cX10_make 14 = .ok (.istore 5, 2) := by decide +kernel
theorem dX10_make_16 : decode cX10_make 16 = .ok (.iload 5, 2) := by decide +kernel
theorem dX10_make_18 : decode cX10_make 18 = .ok (.aload_n 0, 1) := by decide +kernel
theorem dX10_make_19 : decode cX10_make 19 = .ok (.getfield 67, 3) := by decide +kernel
theorem dX10_make_22 : decode cX10_make 22 = .ok (.if_icmp .ge 20, 3) := by decide +kernel
theorem dX10_make_25 : decode cX10_make 25 = .ok (.aload_n 0, 1) := by decide +kernel
theorem dX10_make_26 : decode cX10_make 26 = .ok (.iload_n 1, 1) := by decide +kernel
theorem dX10_make_27 : decode cX10_make 27 = .ok (.iload 5, 2) := by decide +kernel
theorem dX10_make_29 : decode cX10_make 29 = .ok (.iload 5, 2) := by decide +kernel
theorem dX10_make_31 : decode cX10_make 31 = .ok (.iconst 1, 1) := by decide +kernel
theorem dX10_make_32 : decode cX10_make 32 = .ok (.isub, 1) := by decide +kernel
theorem dX10_make_33 : decode cX10_make 33 = .ok (.invokevirtual 199, 3) := by decide +kernel
theorem dX10_make_36 : decode cX10_make 36 = .ok (.iinc 5 1, 3) := by decide +kernel
theorem dX10_make_39 : decode cX10_make 39 = .ok (.goto (-23), 3) := by decide +kernel
theorem dX10_make_42 : decode cX10_make 42 = .ok (.aload_n 0, 1) := by decide +kernel
theorem dX10_make_43 : decode cX10_make 43 = .ok (.getfield 50, 3) := by decide +kernel
theorem dX10_make_46 : decode cX10_make 46 = .ok (.iload_n 1, 1) := by decide +kernel
theorem dX10_make_47 : decode cX10_make 47 = .ok (.dup2, 1) := by decide +kernel
theorem dX10_make_48 : decode cX10_make 48 = .ok (.iaload, 1) := by decide +kernel
theorem dX10_make_49 : decode cX10_make 49 = .ok (.iconst 1, 1) := by decide +kernel
theorem dX10_make_50 : decode cX10_make 50 = .ok (.isub, 1) := by decide +kernel
theorem dX10_make_51 : decode cX10_make 51 = .ok (.iastore, 1) := by decide +kernel
theorem dX10_make_52 : decode cX10_make 52 = .ok (.aload_n 0, 1) := by decide +kernel
theorem dX10_make_53 : decode cX10_make 53 = .ok (.iconst 1, 1) := by decide +kernel
theorem dX10_make_54 : decode cX10_make 54 = .ok (.putfield 196, 3) := by decide +kernel
theorem dX10_make_57 : decode cX10_make 57 = .ok (.iload_n 1, 1) := by decide +kernel
theorem dX10_make_58 : decode cX10_make 58 = .ok (.aload_n 0, 1) := by decide +kernel
theorem dX10_make_59 : decode cX10_make 59 = .ok (.getfield 50, 3) := by decide +kernel
theorem dX10_make_62 : decode cX10_make 62 = .ok (.iload_n 1, 1) := by decide +kernel
theorem dX10_make_63 : decode cX10_make 63 = .ok (.iaload, 1) := by decide +kernel
theorem dX10_make_64 : decode cX10_make 64 = .ok (.invokestatic 193, 3) := by decide +kernel
theorem dX10_make_67 : decode cX10_make 67 = .ok (.istore 5, 2) := by decide +kernel
theorem dX10_make_69 : decode cX10_make 69 = .ok (.aload_n 0, 1) := by decide +kernel
theorem dX10_make_70 : decode cX10_make 70 = .ok (.getfield 47, 3) := by decide +kernel
theorem dX10_make_73 : decode cX10_make 73 = .ok (.iload 5, 2) := by decide +kernel
theorem dX10_make_75 : decode cX10_make 75 = .ok (.iload_n 2, 1) := by decide +kernel
theorem dX10_make_76 : decode cX10_make 76 = .ok (.iastore, 1) := by decide +kernel
theorem dX10_make_77 : decode cX10_make 77 = .ok (.aload_n 0, 1) := by decide +kernel
theorem dX10_make_78 : decode cX10_make 78 = .ok (.getfield 47, 3) := by decide +kernel
theorem dX10_make_81 : decode cX10_make 81 = .ok (.iload 5, 2) := by decide +kernel
theorem dX10_make_83 : decode cX10_make 83 = .ok (.iconst 1, 1) := by decide +kernel
theorem dX10_make_84 : decode cX10_make 84 = .ok (.iadd, 1) := by decide +kernel
theorem dX10_make_85 : decode cX10_make 85 = .ok (.iload_n 3, 1) := by decide +kernel
theorem dX10_make_86 : decode cX10_make 86 = .ok (.iastore, 1) := by decide +kernel
theorem dX10_make_87 : decode cX10_make 87 = .ok (.aload_n 0, 1) := by decide +kernel
theorem dX10_make_88 : decode cX10_make 88 = .ok (.getfield 47, 3) := by decide +kernel
theorem dX10_make_91 : decode cX10_make 91 = .ok (.iload 5, 2) := by decide +kernel
theorem dX10_make_93 : decode cX10_make 93 = .ok (.iconst 2, 1) := by decide +kernel
theorem dX10_make_94 : decode cX10_make 94 = .ok (.iadd, 1) := by decide +kernel
theorem dX10_make_95 : decode cX10_make 95 = .ok (.iload 4, 2) := by decide +kernel
theorem dX10_make_97 : decode cX10_make 97 = .ok (.iastore, 1) := by decide +kernel
theorem dX10_make_98 : decode cX10_make 98 = .ok (.aload_n 0, 1) := by decide +kernel
theorem dX10_make_99 : decode cX10_make 99 = .ok (.getfield 47, 3) := by decide +kernel
theorem dX10_make_102 : decode cX10_make 102 = .ok (.iload 5, 2) := by decide +kernel
theorem dX10_make_104 : decode cX10_make 104 = .ok (.iconst 3, 1) := by decide +kernel
theorem dX10_make_105 : decode cX10_make 105 = .ok (.iadd, 1) := by decide +kernel
theorem dX10_make_106 : decode cX10_make 106 = .ok (.iconst 0, 1) := by decide +kernel
theorem dX10_make_107 : decode cX10_make 107 = .ok (.iastore, 1) := by decide +kernel
theorem dX10_make_108 : decode cX10_make 108 = .ok (.aload_n 0, 1) := by decide +kernel
theorem dX10_make_109 : decode cX10_make 109 = .ok (.getfield 50, 3) := by decide +kernel
theorem dX10_make_112 : decode cX10_make 112 = .ok (.iload_n 1, 1) := by decide +kernel
theorem dX10_make_113 : decode cX10_make 113 = .ok (.dup2, 1) := by decide +kernel
theorem dX10_make_114 : decode cX10_make 114 = .ok (.iaload, 1) := by decide +kernel
theorem dX10_make_115 : decode cX10_make 115 = .ok (.iconst 1, 1) := by decide +kernel
theorem dX10_make_116 : decode cX10_make 116 = .ok (.iadd, 1) := by decide +kernel
theorem dX10_make_117 : decode cX10_make 117 = .ok (.iastore, 1) := by decide +kernel
theorem dX10_make_118 : decode cX10_make 118 = .ok (.return_, 1) := by decide +kernel
theorem dX10_tick_0 : decode cX10_tick 0 = .ok (.aload_n 0, 1) := by decide +kernel
theorem dX10_tick_1 : decode cX10_tick 1 = .ok (.iload_n 1, 1) := by decide +kernel
theorem dX10_tick_2 : decode cX10_tick 2 = .ok (.ifCond .lt 14, 3) := by decide +kernel
theorem dX10_tick_5 : decode cX10_tick 5 = .ok (.iload_n 1, 1) := by decide +kernel
theorem dX10_tick_6 : decode cX10_tick 6 = .ok (.ldc 230, 2) := by decide +kernel
theorem dX10_tick_8 : decode cX10_tick 8 = .ok (.aload_n 0, 1) := by decide +kernel
theorem dX10_tick_9 : decode cX10_tick 9 = .ok (.getfield 221, 3) := by decide +kernel
theorem dX10_tick_12 : decode cX10_tick 12 = .ok (.isub, 1) := by decide +kernel
theorem dX10_tick_13 : decode cX10_tick 13 = .ok (.if_icmp .le 7, 3) := by decide +kernel
theorem dX10_tick_16 : decode cX10_tick 16 = .ok (.iconst 1, 1) := by decide +kernel
theorem dX10_tick_17 : decode cX10_tick 17 = .ok (.goto 4, 3) := by decide +kernel
theorem dX10_tick_20 : decode cX10_tick 20 = .ok (.iconst 0, 1) := by decide +kernel
theorem dX10_tick_21 : decode cX10_tick 21 = .ok (.putfield 89, 3) := by decide +kernel
theorem dX10_tick_24 : decode cX10_tick 24 = .ok (.aload_n 0, 1) := by decide +kernel
theorem dX10_tick_25 : decode cX10_tick 25 = .ok (.aload_n 0, 1) := by decide +kernel
theorem dX10_tick_26 : decode cX10_tick 26 = .ok (.getfield 89, 3) := by decide +kernel
theorem dX10_tick_29 : decode cX10_tick 29 = .ok (.ifCond .le 10, 3) := by decide +kernel
theorem dX10_tick_32 : decode cX10_tick 32 = .ok (.aload_n 0, 1) := by decide +kernel
theorem dX10_tick_33 : decode cX10_tick 33 = .ok (.getfield 221, 3) := by decide +kernel
theorem dX10_tick_36 : decode cX10_tick 36 = .ok (.goto 9, 3) := by decide +kernel
theorem dX10_tick_39 : decode cX10_tick 39 = .ok (.aload_n 0, 1) := by decide +kernel
theorem dX10_tick_40 : decode cX10_tick 40 = .ok (.getfield 221, 3) := by decide +kernel
theorem dX10_tick_43 : decode cX10_tick 43 = .ok (.iload_n 1, 1) := by decide +kernel
theorem dX10_tick_44 : decode cX10_tick 44 = .ok (.iadd, 1) := by decide +kernel
theorem dX10_tick_45 : decode cX10_tick 45 = .ok (.putfield 221, 3) := by decide +kernel
theorem dX10_tick_48 : decode cX10_tick 48 = .ok (.return_, 1) := by decide +kernel
theorem dX10_binary_0 : decode cX10_binary 0 = .ok (.aload_n 0, 1) := by decide +kernel
theorem dX10_binary_1 : decode cX10_binary 1 = .ok (.iload_n 1, 1) := by decide +kernel
theorem dX10_binary_2 : decode cX10_binary 2 = .ok (.ifCond .lt 9, 3) := by decide +kernel
theorem dX10_binary_5 : decode cX10_binary 5 = .ok (.iload_n 1, 1) := by decide +kernel
theorem dX10_binary_6 : decode cX10_binary 6 = .ok (.bipush 15, 2) := by decide +kernel
theorem dX10_binary_8 : decode cX10_binary 8 = .ok (.if_icmp .le 7, 3) := by decide +kernel
theorem dX10_binary_11 : decode cX10_binary 11 = .ok (.iconst 1, 1) := by decide +kernel
theorem dX10_binary_12 : decode cX10_binary 12 = .ok (.goto 4, 3) := by decide +kernel
theorem dX10_binary_15 : decode cX10_binary 15 = .ok (.iconst 0, 1) := by decide +kernel
theorem dX10_binary_16 : decode cX10_binary 16 = .ok (.putfield 89, 3) := by decide +kernel
theorem dX10_binary_19 : decode cX10_binary 19 = .ok (.aload_n 0, 1) := by decide +kernel
theorem dX10_binary_20 : decode cX10_binary 20 = .ok (.getfield 89, 3) := by decide +kernel
theorem dX10_binary_23 : decode cX10_binary 23 = .ok (.ifCond .gt 13, 3) := by decide +kernel
theorem dX10_binary_26 : decode cX10_binary 26 = .ok (.aload_n 0, 1) := by decide +kernel
theorem dX10_binary_27 : decode cX10_binary 27 = .ok (.getfield 31, 3) := by decide +kernel
theorem dX10_binary_30 : decode cX10_binary 30 = .ok (.iload_n 1, 1) := by decide +kernel
theorem dX10_binary_31 : decode cX10_binary 31 = .ok (.baload, 1) := by decide +kernel
theorem dX10_binary_32 : decode cX10_binary 32 = .ok (.iload_n 2, 1) := by decide +kernel
theorem dX10_binary_33 : decode cX10_binary 33 = .ok (.if_icmp .ne 5, 3) := by decide +kernel
theorem dX10_binary_36 : decode cX10_binary 36 = .ok (.iconst 0, 1) := by decide +kernel
theorem dX10_binary_37 : decode cX10_binary 37 = .ok (.ireturn, 1) := by decide +kernel
theorem dX10_binary_38 : decode cX10_binary 38 = .ok (.aload_n 0, 1) := by decide +kernel
theorem dX10_binary_39 : decode cX10_binary 39 = .ok (.getfield 31, 3) := by decide +kernel
theorem dX10_binary_42 : decode cX10_binary 42 = .ok (.iload_n 1, 1) := by decide +kernel
theorem dX10_binary_43 : decode cX10_binary 43 = .ok (.iload_n 2, 1) := by decide +kernel
theorem dX10_binary_44 : decode cX10_binary 44 = .ok (.bastore, 1) := by decide +kernel
theorem dX10_binary_45 : decode cX10_binary 45 = .ok (.aload_n 0, 1) := by decide +kernel
theorem dX10_binary_46 : decode cX10_binary 46 = .ok (.getfield 44, 3) := by decide +kernel
theorem dX10_binary_49 : decode cX10_binary 49 = .ok (.iload_n 1, 1) := by decide +kernel
theorem dX10_binary_50 : decode cX10_binary 50 = .ok (.iaload, 1) := by decide +kernel
theorem dX10_binary_51 : decode cX10_binary 51 = .ok (.ifCond .le 24, 3) := by decide +kernel
theorem dX10_binary_54 : decode cX10_binary 54 = .ok (.aload_n 0, 1) := by decide +kernel
theorem dX10_binary_55 : decode cX10_binary 55 = .ok (.aload_n 0, 1) := by decide +kernel
theorem dX10_binary_56 : decode cX10_binary 56 = .ok (.getfield 44, 3) := by decide +kernel
theorem dX10_binary_59 : decode cX10_binary 59 = .ok (.iload_n 1, 1) := by decide +kernel
theorem dX10_binary_60 : decode cX10_binary 60 = .ok (.iaload, 1) := by decide +kernel
theorem dX10_binary_61 : decode cX10_binary 61 = .ok (.iconst 0, 1) := by decide +kernel
theorem dX10_binary_62 : decode cX10_binary 62 = .ok (.iload_n 1, 1) := by decide +kernel
theorem dX10_binary_63 : decode cX10_binary 63 = .ok (.iload_n 2, 1) := by decide +kernel
theorem dX10_binary_64 : decode cX10_binary 64 = .ok (.ifCond .eq 7, 3) := by decide +kernel
theorem dX10_binary_67 : decode cX10_binary 67 = .ok (.iconst 1, 1) := by decide +kernel
theorem dX10_binary_68 : decode cX10_binary 68 = .ok (.goto 4, 3) := by decide +kernel
theorem dX10_binary_71 : decode cX10_binary 71 = .ok (.iconst 0, 1) := by decide +kernel
theorem dX10_binary_72 : decode cX10_binary 72 = .ok (.invokevirtual 231, 3) := by decide +kernel
theorem dX10_binary_75 : decode cX10_binary 75 = .ok (.iconst 1, 1) := by decide +kernel
theorem dX10_binary_76 : decode cX10_binary 76 = .ok (.ireturn, 1) := by decide +kernel
theorem dX10_analog_0 : decode cX10_analog 0 = .ok (.aload_n 0, 1) := by decide +kernel
theorem dX10_analog_1 : decode cX10_analog 1 = .ok (.iload_n 1, 1) := by decide +kernel
theorem dX10_analog_2 : decode cX10_analog 2 = .ok (.ifCond .lt 9, 3) := by decide +kernel
theorem dX10_analog_5 : decode cX10_analog 5 = .ok (.iload_n 1, 1) := by decide +kernel
theorem dX10_analog_6 : decode cX10_analog 6 = .ok (.bipush 15, 2) := by decide +kernel
theorem dX10_analog_8 : decode cX10_analog 8 = .ok (.if_icmp .le 7, 3) := by decide +kernel
theorem dX10_analog_11 : decode cX10_analog 11 = .ok (.iconst 1, 1) := by decide +kernel
theorem dX10_analog_12 : decode cX10_analog 12 = .ok (.goto 22, 3) := by decide +kernel
theorem dX10_analog_15 : decode cX10_analog 15 = .ok (.iload_n 2, 1) := by decide +kernel
theorem dX10_analog_16 : decode cX10_analog 16 = .ok (.sipush (-32768), 3) := by decide +kernel
theorem dX10_analog_19 : decode cX10_analog 19 = .ok (.if_icmp .lt 10, 3) := by decide +kernel
theorem dX10_analog_22 : decode cX10_analog 22 = .ok (.iload_n 2, 1) := by decide +kernel
theorem dX10_analog_23 : decode cX10_analog 23 = .ok (.sipush 32767, 3) := by decide +kernel
theorem dX10_analog_26 : decode cX10_analog 26 = .ok (.if_icmp .le 7, 3) := by decide +kernel
theorem dX10_analog_29 : decode cX10_analog 29 = .ok (.iconst 2, 1) := by decide +kernel
theorem dX10_analog_30 : decode cX10_analog 30 = .ok (.goto 4, 3) := by decide +kernel
theorem dX10_analog_33 : decode cX10_analog 33 = .ok (.iconst 0, 1) := by decide +kernel
theorem dX10_analog_34 : decode cX10_analog 34 = .ok (.putfield 89, 3) := by decide +kernel
theorem dX10_analog_37 : decode cX10_analog 37 = .ok (.aload_n 0, 1) := by decide +kernel
theorem dX10_analog_38 : decode cX10_analog 38 = .ok (.getfield 89, 3) := by decide +kernel
theorem dX10_analog_41 : decode cX10_analog 41 = .ok (.ifCond .le 5, 3) := by decide +kernel
theorem dX10_analog_44 : decode cX10_analog 44 = .ok (.iconst 0, 1) := by decide +kernel
theorem dX10_analog_45 : decode cX10_analog 45 = .ok (.ireturn, 1) := by decide +kernel
theorem dX10_analog_46 : decode cX10_analog 46 = .ok (.aload_n 0, 1) := by decide +kernel
theorem dX10_analog_47 : decode cX10_analog 47 = .ok (.getfield 35, 3) := by decide +kernel
theorem dX10_analog_50 : decode cX10_analog 50 = .ok (.iload_n 1, 1) := by decide +kernel
theorem dX10_analog_51 : decode cX10_analog 51 = .ok (.iload_n 2, 1) := by decide +kernel
theorem dX10_analog_52 : decode cX10_analog 52 = .ok (.iastore, 1) := by decide +kernel
theorem dX10_analog_53 : decode cX10_analog 53 = .ok (.iload_n 2, 1) := by decide +kernel
theorem dX10_analog_54 : decode cX10_analog 54 = .ok (.aload_n 0, 1) := by decide +kernel
theorem dX10_analog_55 : decode cX10_analog 55 = .ok (.getfield 38, 3) := by decide +kernel
theorem dX10_analog_58 : decode cX10_analog 58 = .ok (.iload_n 1, 1) := by decide +kernel
theorem dX10_analog_59 : decode cX10_analog 59 = .ok (.iaload, 1) := by decide +kernel
theorem dX10_analog_60 : decode cX10_analog 60 = .ok (.if_icmp .ge 14, 3) := by decide +kernel
theorem dX10_analog_63 : decode cX10_analog 63 = .ok (.aload_n 0, 1) := by decide +kernel
theorem dX10_analog_64 : decode cX10_analog 64 = .ok (.getfield 38, 3) := by decide +kernel
theorem dX10_analog_67 : decode cX10_analog 67 = .ok (.iload_n 1, 1) := by decide +kernel
theorem dX10_analog_68 : decode cX10_analog 68 = .ok (.iaload, 1) := by decide +kernel
theorem dX10_analog_69 : decode cX10_analog 69 = .ok (.iload_n 2, 1) := by decide +kernel
theorem dX10_analog_70 : decode cX10_analog 70 = .ok (.isub, 1) := by decide +kernel
theorem dX10_analog_71 : decode cX10_analog 71 = .ok (.goto 11, 3) := by decide +kernel
theorem dX10_analog_74 : decode cX10_analog 74 = .ok (.iload_n 2, 1) := by decide +kernel
theorem dX10_analog_75 : decode cX10_analog 75 = .ok (.aload_n 0, 1) := by decide +kernel
theorem dX10_analog_76 : decode cX10_analog 76 = .ok (.getfield 38, 3) := by decide +kernel
theorem dX10_analog_79 : decode cX10_analog 79 = .ok (.iload_n 1, 1) := by decide +kernel
theorem dX10_analog_80 : decode cX10_analog 80 = .ok (.iaload, 1) := by decide +kernel
theorem dX10_analog_81 : decode cX10_analog 81 = .ok (.isub, 1) := by decide +kernel
theorem dX10_analog_82 : decode cX10_analog 82 = .ok (.istore_n 3, 1) := by decide +kernel
theorem dX10_analog_83 : decode cX10_analog 83 = .ok (.aload_n 0, 1) := by decide +kernel
theorem dX10_analog_84 : decode cX10_analog 84 = .ok (.getfield 44, 3) := by decide +kernel
theorem dX10_analog_87 : decode cX10_analog 87 = .ok (.bipush 16, 2) := by decide +kernel
theorem dX10_analog_89 : decode cX10_analog 89 = .ok (.iload_n 1, 1) := by decide +kernel
theorem dX10_analog_90 : decode cX10_analog 90 = .ok (.iadd, 1) := by decide +kernel
theorem dX10_analog_91 : decode cX10_analog 91 = .ok (.iaload, 1) := by decide +kernel
theorem dX10_analog_92 : decode cX10_analog 92 = .ok (.ifCond .le 17, 3) := by decide +kernel
theorem dX10_analog_95 : decode cX10_analog 95 = .ok (.iload_n 3, 1) := by decide +kernel
theorem dX10_analog_96 : decode cX10_analog 96 = .ok (.aload_n 0, 1) := by decide +kernel
theorem dX10_analog_97 : decode cX10_analog 97 = .ok (.getfield 41, 3) := by decide +kernel
theorem dX10_analog_100 : decode cX10_analog 100 = .ok (.iload_n 1, 1) := by decide +kernel
theorem dX10_analog_101 : decode cX10_analog 101 = .ok (.iaload, 1) := by decide +kernel
theorem dX10_analog_102 : decode cX10_analog 102 = .ok (.if_icmp .le 7, 3) := by decide +kernel
theorem dX10_analog_105 : decode cX10_analog 105 = .ok (.iconst 1, 1) := by decide +kernel
theorem dX10_analog_106 : decode cX10_analog 106 = .ok (.goto 4, 3) := by decide +kernel
theorem dX10_analog_109 : decode cX10_analog 109 = .ok (.iconst 0, 1) := by decide +kernel
theorem dX10_analog_110 : decode cX10_analog 110 = .ok (.istore 4, 2) := by decide +kernel
theorem dX10_analog_112 : decode cX10_analog 112 = .ok (.iload 4, 2) := by decide +kernel
theorem dX10_analog_114 : decode cX10_analog 114 = .ok (.ifCond .eq 26, 3) := by decide +kernel
theorem dX10_analog_117 : decode cX10_analog 117 = .ok (.aload_n 0, 1) := by decide +kernel
theorem dX10_analog_118 : decode cX10_analog 118 = .ok (.getfield 38, 3) := by decide +kernel
theorem dX10_analog_121 : decode cX10_analog 121 = .ok (.iload_n 1, 1) := by decide +kernel
theorem dX10_analog_122 : decode cX10_analog 122 = .ok (.iload_n 2, 1) := by decide +kernel
theorem dX10_analog_123 : decode cX10_analog 123 = .ok (.iastore, 1) := by decide +kernel
theorem dX10_analog_124 : decode cX10_analog 124 = .ok (.aload_n 0, 1) := by decide +kernel
theorem dX10_analog_125 : decode cX10_analog 125 = .ok (.aload_n 0, 1) := by decide +kernel
theorem dX10_analog_126 : decode cX10_analog 126 = .ok (.getfield 44, 3) := by decide +kernel
theorem dX10_analog_129 : decode cX10_analog 129 = .ok (.bipush 16, 2) := by decide +kernel
theorem dX10_analog_131 : decode cX10_analog 131 = .ok (.iload_n 1, 1) := by decide +kernel
theorem dX10_analog_132 : decode cX10_analog 132 = .ok (.iadd, 1) := by decide +kernel
theorem dX10_analog_133 : decode cX10_analog 133 = .ok (.iaload, 1) := by decide +kernel
theorem dX10_analog_134 : decode cX10_analog 134 = .ok (.iconst 1, 1) := by decide +kernel
theorem dX10_analog_135 : decode cX10_analog 135 = .ok (.iload_n 1, 1) := by decide +kernel
theorem dX10_analog_136 : decode cX10_analog 136 = .ok (.iload_n 2, 1) := by decide +kernel
theorem dX10_analog_137 : decode cX10_analog 137 = .ok (.invokevirtual 231, 3) := by decide +kernel
theorem dX10_analog_140 : decode cX10_analog 140 = .ok (.iload 4, 2) := by decide +kernel
theorem dX10_analog_142 : decode cX10_analog 142 = .ok (.ireturn, 1) := by decide +kernel
theorem dX10_sort_0 : decode cX10_sort 0 = .ok (.aload_n 0, 1) := by decide +kernel
theorem dX10_sort_1 : decode cX10_sort 1 = .ok (.iload_n 2, 1) := by decide +kernel
theorem dX10_sort_2 : decode cX10_sort 2 = .ok (.ifCond .lt 18, 3) := by decide +kernel
theorem dX10_sort_5 : decode cX10_sort 5 = .ok (.iload_n 2, 1) := by decide +kernel
theorem dX10_sort_6 : decode cX10_sort 6 = .ok (.bipush 15, 2) := by decide +kernel
theorem dX10_sort_8 : decode cX10_sort 8 = .ok (.if_icmp .gt 12, 3) := by decide +kernel
theorem dX10_sort_11 : decode cX10_sort 11 = .ok (.iload_n 3, 1) := by decide +kernel
theorem dX10_sort_12 : decode cX10_sort 12 = .ok (.ifCond .lt 8, 3) := by decide +kernel
theorem dX10_sort_15 : decode cX10_sort 15 = .ok (.iload_n 3, 1) := by decide +kernel
theorem dX10_sort_16 : decode cX10_sort 16 = .ok (.iconst 3, 1) := by decide +kernel
theorem dX10_sort_17 : decode cX10_sort 17 = .ok (.if_icmp .le 7, 3) := by decide +kernel
theorem dX10_sort_20 : decode cX10_sort 20 = .ok (.iconst 1, 1) := by decide +kernel
theorem dX10_sort_21 : decode cX10_sort 21 = .ok (.goto 4, 3) := by decide +kernel
theorem dX10_sort_24 : decode cX10_sort 24 = .ok (.iconst 0, 1) := by decide +kernel
theorem dX10_sort_25 : decode cX10_sort 25 = .ok (.putfield 89, 3) := by decide +kernel
theorem dX10_sort_28 : decode cX10_sort 28 = .ok (.aload_n 0, 1) := by decide +kernel
theorem dX10_sort_29 : decode cX10_sort 29 = .ok (.getfield 89, 3) := by decide +kernel
theorem dX10_sort_32 : decode cX10_sort 32 = .ok (.ifCond .le 5, 3) := by decide +kernel
theorem dX10_sort_35 : decode cX10_sort 35 = .ok (.iconst 0, 1) := by decide +kernel
theorem dX10_sort_36 : decode cX10_sort 36 = .ok (.ireturn, 1) := by decide +kernel
theorem dX10_sort_37 : decode cX10_sort 37 = .ok (.iload_n 1, 1) := by decide +kernel
theorem dX10_sort_38 : decode cX10_sort 38 = .ok (.ifCond .eq 10, 3) := by decide +kernel
theorem dX10_sort_41 : decode cX10_sort 41 = .ok (.bipush 16, 2) := by decide +kernel
theorem dX10_sort_43 : decode cX10_sort 43 = .ok (.iload_n 2, 1) := by decide +kernel
theorem dX10_sort_44 : decode cX10_sort 44 = .ok (.iadd, 1) := by decide +kernel
theorem dX10_sort_45 : decode cX10_sort 45 = .ok (.goto 4, 3) := by decide +kernel
theorem dX10_sort_48 : decode cX10_sort 48 = .ok (.iload_n 2, 1) := by decide +kernel
theorem dX10_sort_49 : decode cX10_sort 49 = .ok (.istore 4, 2) := by decide +kernel
theorem dX10_sort_51 : decode cX10_sort 51 = .ok (.aload_n 0, 1) := by decide +kernel
theorem dX10_sort_52 : decode cX10_sort 52 = .ok (.getfield 44, 3) := by decide +kernel
theorem dX10_sort_55 : decode cX10_sort 55 = .ok (.iload 4, 2) := by decide +kernel
theorem dX10_sort_57 : decode cX10_sort 57 = .ok (.iaload, 1) := by decide +kernel
theorem dX10_sort_58 : decode cX10_sort 58 = .ok (.iload_n 3, 1) := by decide +kernel
theorem dX10_sort_59 : decode cX10_sort 59 = .ok (.if_icmp .eq 7, 3) := by decide +kernel
theorem dX10_sort_62 : decode cX10_sort 62 = .ok (.iconst 1, 1) := by decide +kernel
theorem dX10_sort_63 : decode cX10_sort 63 = .ok (.goto 4, 3) := by decide +kernel
theorem dX10_sort_66 : decode cX10_sort 66 = .ok (.iconst 0, 1) := by decide +kernel
theorem dX10_sort_67 : decode cX10_sort 67 = .ok (.istore 5, 2) := by decide +kernel
theorem dX10_sort_69 : decode cX10_sort 69 = .ok (.aload_n 0, 1) := by decide +kernel
theorem dX10_sort_70 : decode cX10_sort 70 = .ok (.getfield 44, 3) := by decide +kernel
theorem dX10_sort_73 : decode cX10_sort 73 = .ok (.iload 4, 2) := by decide +kernel
theorem dX10_sort_75 : decode cX10_sort 75 = .ok (.iload_n 3, 1) := by decide +kernel
theorem dX10_sort_76 : decode cX10_sort 76 = .ok (.iastore, 1) := by decide +kernel
theorem dX10_sort_77 : decode cX10_sort 77 = .ok (.iload 5, 2) := by decide +kernel
theorem dX10_sort_79 : decode cX10_sort 79 = .ok (.ireturn, 1) := by decide +kernel
theorem dX10_band_0 : decode cX10_band 0 = .ok (.aload_n 0, 1) := by decide +kernel
theorem dX10_band_1 : decode cX10_band 1 = .ok (.iload_n 1, 1) := by decide +kernel
theorem dX10_band_2 : decode cX10_band 2 = .ok (.ifCond .lt 9, 3) := by decide +kernel
theorem dX10_band_5 : decode cX10_band 5 = .ok (.iload_n 1, 1) := by decide +kernel
theorem dX10_band_6 : decode cX10_band 6 = .ok (.bipush 15, 2) := by decide +kernel
theorem dX10_band_8 : decode cX10_band 8 = .ok (.if_icmp .le 7, 3) := by decide +kernel
theorem dX10_band_11 : decode cX10_band 11 = .ok (.iconst 1, 1) := by decide +kernel
theorem dX10_band_12 : decode cX10_band 12 = .ok (.goto 18, 3) := by decide +kernel
theorem dX10_band_15 : decode cX10_band 15 = .ok (.iload_n 2, 1) := by decide +kernel
theorem dX10_band_16 : decode cX10_band 16 = .ok (.ifCond .lt 9, 3) := by decide +kernel
theorem dX10_band_19 : decode cX10_band 19 = .ok (.iload_n 2, 1) := by decide +kernel
theorem dX10_band_20 : decode cX10_band 20 = .ok (.ldc 59, 2) := by decide +kernel
theorem dX10_band_22 : decode cX10_band 22 = .ok (.if_icmp .le 7, 3) := by decide +kernel
theorem dX10_band_25 : decode cX10_band 25 = .ok (.iconst 2, 1) := by decide +kernel
theorem dX10_band_26 : decode cX10_band 26 = .ok (.goto 4, 3) := by decide +kernel
theorem dX10_band_29 : decode cX10_band 29 = .ok (.iconst 0, 1) := by decide +kernel
theorem dX10_band_30 : decode cX10_band 30 = .ok (.putfield 89, 3) := by decide +kernel
theorem dX10_band_33 : decode cX10_band 33 = .ok (.aload_n 0, 1) := by decide +kernel
theorem dX10_band_34 : decode cX10_band 34 = .ok (.getfield 89, 3) := by decide +kernel
theorem dX10_band_37 : decode cX10_band 37 = .ok (.ifCond .ne 10, 3) := by decide +kernel
theorem dX10_band_40 : decode cX10_band 40 = .ok (.aload_n 0, 1) := by decide +kernel
theorem dX10_band_41 : decode cX10_band 41 = .ok (.getfield 41, 3) := by decide +kernel
theorem dX10_band_44 : decode cX10_band 44 = .ok (.iload_n 1, 1) := by decide +kernel
theorem dX10_band_45 : decode cX10_band 45 = .ok (.iload_n 2, 1) := by decide +kernel
theorem dX10_band_46 : decode cX10_band 46 = .ok (.iastore, 1) := by decide +kernel
theorem dX10_band_47 : decode cX10_band 47 = .ok (.return_, 1) := by decide +kernel
theorem dX10_sent_0 : decode cX10_sent 0 = .ok (.aload_n 0, 1) := by decide +kernel
theorem dX10_sent_1 : decode cX10_sent 1 = .ok (.iload_n 1, 1) := by decide +kernel
theorem dX10_sent_2 : decode cX10_sent 2 = .ok (.ifCond .lt 11, 3) := by decide +kernel
theorem dX10_sent_5 : decode cX10_sent 5 = .ok (.iload_n 1, 1) := by decide +kernel
theorem dX10_sent_6 : decode cX10_sent 6 = .ok (.aload_n 0, 1) := by decide +kernel
theorem dX10_sent_7 : decode cX10_sent 7 = .ok (.getfield 108, 3) := by decide +kernel
theorem dX10_sent_10 : decode cX10_sent 10 = .ok (.if_icmp .lt 7, 3) := by decide +kernel
theorem dX10_sent_13 : decode cX10_sent 13 = .ok (.iconst 1, 1) := by decide +kernel
theorem dX10_sent_14 : decode cX10_sent 14 = .ok (.goto 4, 3) := by decide +kernel
theorem dX10_sent_17 : decode cX10_sent 17 = .ok (.iconst 0, 1) := by decide +kernel
theorem dX10_sent_18 : decode cX10_sent 18 = .ok (.putfield 89, 3) := by decide +kernel
theorem dX10_sent_21 : decode cX10_sent 21 = .ok (.aload_n 0, 1) := by decide +kernel
theorem dX10_sent_22 : decode cX10_sent 22 = .ok (.getfield 89, 3) := by decide +kernel
theorem dX10_sent_25 : decode cX10_sent 25 = .ok (.ifCond .le 7, 3) := by decide +kernel
theorem dX10_sent_28 : decode cX10_sent 28 = .ok (.iconst 0, 1) := by decide +kernel
theorem dX10_sent_29 : decode cX10_sent 29 = .ok (.goto 9, 3) := by decide +kernel
theorem dX10_sent_32 : decode cX10_sent 32 = .ok (.aload_n 0, 1) := by decide +kernel
theorem dX10_sent_33 : decode cX10_sent 33 = .ok (.getfield 25, 3) := by decide +kernel
theorem dX10_sent_36 : decode cX10_sent 36 = .ok (.iload_n 1, 1) := by decide +kernel
theorem dX10_sent_37 : decode cX10_sent 37 = .ok (.iaload, 1) := by decide +kernel
theorem dX10_sent_38 : decode cX10_sent 38 = .ok (.ireturn, 1) := by decide +kernel
theorem dX10_take_0 : decode cX10_take 0 = .ok (.aload_n 0, 1) := by decide +kernel
theorem dX10_take_1 : decode cX10_take 1 = .ok (.iconst 0, 1) := by decide +kernel
theorem dX10_take_2 : decode cX10_take 2 = .ok (.putfield 89, 3) := by decide +kernel
theorem dX10_take_5 : decode cX10_take 5 = .ok (.aload_n 0, 1) := by decide +kernel
theorem dX10_take_6 : decode cX10_take 6 = .ok (.getfield 108, 3) := by decide +kernel
theorem dX10_take_9 : decode cX10_take 9 = .ok (.istore_n 1, 1) := by decide +kernel
theorem dX10_take_10 : decode cX10_take 10 = .ok (.aload_n 0, 1) := by decide +kernel
theorem dX10_take_11 : decode cX10_take 11 = .ok (.iconst 0, 1) := by decide +kernel
theorem dX10_take_12 : decode cX10_take 12 = .ok (.putfield 108, 3) := by decide +kernel
theorem dX10_take_15 : decode cX10_take 15 = .ok (.iload_n 1, 1) := by decide +kernel
theorem dX10_take_16 : decode cX10_take 16 = .ok (.ireturn, 1) := by decide +kernel
theorem dX10_relay_0 : decode cX10_relay 0 = .ok (.aload_n 0, 1) := by decide +kernel
theorem dX10_relay_1 : decode cX10_relay 1 = .ok (.iload_n 1, 1) := by decide +kernel
theorem dX10_relay_2 : decode cX10_relay 2 = .ok (.ifCond .lt 9, 3) := by decide +kernel
theorem dX10_relay_5 : decode cX10_relay 5 = .ok (.iload_n 1, 1) := by decide +kernel
theorem dX10_relay_6 : decode cX10_relay 6 = .ok (.bipush 7, 2) := by decide +kernel
theorem dX10_relay_8 : decode cX10_relay 8 = .ok (.if_icmp .le 7, 3) := by decide +kernel
theorem dX10_relay_11 : decode cX10_relay 11 = .ok (.iconst 1, 1) := by decide +kernel
theorem dX10_relay_12 : decode cX10_relay 12 = .ok (.goto 4, 3) := by decide +kernel
theorem dX10_relay_15 : decode cX10_relay 15 = .ok (.iconst 0, 1) := by decide +kernel
theorem dX10_relay_16 : decode cX10_relay 16 = .ok (.putfield 89, 3) := by decide +kernel
theorem dX10_relay_19 : decode cX10_relay 19 = .ok (.aload_n 0, 1) := by decide +kernel
theorem dX10_relay_20 : decode cX10_relay 20 = .ok (.getfield 89, 3) := by decide +kernel
theorem dX10_relay_23 : decode cX10_relay 23 = .ok (.ifCond .le 7, 3) := by decide +kernel
theorem dX10_relay_26 : decode cX10_relay 26 = .ok (.iconst 0, 1) := by decide +kernel
theorem dX10_relay_27 : decode cX10_relay 27 = .ok (.goto 9, 3) := by decide +kernel
theorem dX10_relay_30 : decode cX10_relay 30 = .ok (.aload_n 0, 1) := by decide +kernel
theorem dX10_relay_31 : decode cX10_relay 31 = .ok (.getfield 56, 3) := by decide +kernel
theorem dX10_relay_34 : decode cX10_relay 34 = .ok (.iload_n 1, 1) := by decide +kernel
theorem dX10_relay_35 : decode cX10_relay 35 = .ok (.iaload, 1) := by decide +kernel
theorem dX10_relay_36 : decode cX10_relay 36 = .ok (.ireturn, 1) := by decide +kernel
theorem dX10_event_0 : decode cX10_event 0 = .ok (.aload_n 0, 1) := by decide +kernel
theorem dX10_event_1 : decode cX10_event 1 = .ok (.iload_n 1, 1) := by decide +kernel
theorem dX10_event_2 : decode cX10_event 2 = .ok (.iconst 1, 1) := by decide +kernel
theorem dX10_event_3 : decode cX10_event 3 = .ok (.if_icmp .lt 17, 3) := by decide +kernel
theorem dX10_event_6 : decode cX10_event 6 = .ok (.iload_n 1, 1) := by decide +kernel
theorem dX10_event_7 : decode cX10_event 7 = .ok (.iconst 3, 1) := by decide +kernel
theorem dX10_event_8 : decode cX10_event 8 = .ok (.if_icmp .gt 12, 3) := by decide +kernel
theorem dX10_event_11 : decode cX10_event 11 = .ok (.iload_n 3, 1) := by decide +kernel
theorem dX10_event_12 : decode cX10_event 12 = .ok (.ifCond .lt 8, 3) := by decide +kernel
theorem dX10_event_15 : decode cX10_event 15 = .ok (.iload_n 3, 1) := by decide +kernel
theorem dX10_event_16 : decode cX10_event 16 = .ok (.iconst 2, 1) := by decide +kernel
theorem dX10_event_17 : decode cX10_event 17 = .ok (.if_icmp .le 7, 3) := by decide +kernel
theorem dX10_event_20 : decode cX10_event 20 = .ok (.iconst 1, 1) := by decide +kernel
theorem dX10_event_21 : decode cX10_event 21 = .ok (.goto 22, 3) := by decide +kernel
theorem dX10_event_24 : decode cX10_event 24 = .ok (.iload_n 2, 1) := by decide +kernel
theorem dX10_event_25 : decode cX10_event 25 = .ok (.ifCond .lt 13, 3) := by decide +kernel
theorem dX10_event_28 : decode cX10_event 28 = .ok (.iload_n 2, 1) := by decide +kernel
theorem dX10_event_29 : decode cX10_event 29 = .ok (.aload_n 0, 1) := by decide +kernel
theorem dX10_event_30 : decode cX10_event 30 = .ok (.getfield 50, 3) := by decide +kernel
theorem dX10_event_33 : decode cX10_event 33 = .ok (.iload_n 1, 1) := by decide +kernel
theorem dX10_event_34 : decode cX10_event 34 = .ok (.iaload, 1) := by decide +kernel
theorem dX10_event_35 : decode cX10_event 35 = .ok (.if_icmp .lt 7, 3) := by decide +kernel
theorem dX10_event_38 : decode cX10_event 38 = .ok (.iconst 1, 1) := by decide +kernel
theorem dX10_event_39 : decode cX10_event 39 = .ok (.goto 4, 3) := by decide +kernel
theorem dX10_event_42 : decode cX10_event 42 = .ok (.iconst 0, 1) := by decide +kernel
theorem dX10_event_43 : decode cX10_event 43 = .ok (.putfield 89, 3) := by decide +kernel
theorem dX10_event_46 : decode cX10_event 46 = .ok (.aload_n 0, 1) := by decide +kernel
theorem dX10_event_47 : decode cX10_event 47 = .ok (.getfield 89, 3) := by decide +kernel
theorem dX10_event_50 : decode cX10_event 50 = .ok (.ifCond .le 7, 3) := by decide +kernel
theorem dX10_event_53 : decode cX10_event 53 = .ok (.iconst 0, 1) := by decide +kernel
theorem dX10_event_54 : decode cX10_event 54 = .ok (.goto 15, 3) := by decide +kernel
theorem dX10_event_57 : decode cX10_event 57 = .ok (.aload_n 0, 1) := by decide +kernel
theorem dX10_event_58 : decode cX10_event 58 = .ok (.getfield 47, 3) := by decide +kernel
theorem dX10_event_61 : decode cX10_event 61 = .ok (.iload_n 1, 1) := by decide +kernel
theorem dX10_event_62 : decode cX10_event 62 = .ok (.iload_n 2, 1) := by decide +kernel
theorem dX10_event_63 : decode cX10_event 63 = .ok (.invokestatic 193, 3) := by decide +kernel
theorem dX10_event_66 : decode cX10_event 66 = .ok (.iload_n 3, 1) := by decide +kernel
theorem dX10_event_67 : decode cX10_event 67 = .ok (.iadd, 1) := by decide +kernel
theorem dX10_event_68 : decode cX10_event 68 = .ok (.iaload, 1) := by decide +kernel
theorem dX10_event_69 : decode cX10_event 69 = .ok (.ireturn, 1) := by decide +kernel
theorem dX10_count_0 : decode cX10_count 0 = .ok (.aload_n 0, 1) := by decide +kernel
theorem dX10_count_1 : decode cX10_count 1 = .ok (.iload_n 1, 1) := by decide +kernel
theorem dX10_count_2 : decode cX10_count 2 = .ok (.ifCond .lt 9, 3) := by decide +kernel
theorem dX10_count_5 : decode cX10_count 5 = .ok (.iload_n 1, 1) := by decide +kernel
theorem dX10_count_6 : decode cX10_count 6 = .ok (.bipush 12, 2) := by decide +kernel
theorem dX10_count_8 : decode cX10_count 8 = .ok (.if_icmp .le 7, 3) := by decide +kernel
theorem dX10_count_11 : decode cX10_count 11 = .ok (.iconst 1, 1) := by decide +kernel
theorem dX10_count_12 : decode cX10_count 12 = .ok (.goto 4, 3) := by decide +kernel
theorem dX10_count_15 : decode cX10_count 15 = .ok (.iconst 0, 1) := by decide +kernel
theorem dX10_count_16 : decode cX10_count 16 = .ok (.putfield 89, 3) := by decide +kernel
theorem dX10_count_19 : decode cX10_count 19 = .ok (.iload_n 1, 1) := by decide +kernel
theorem dX10_count_20 : decode cX10_count 20 = .ok (.tableswitch 144 0 12 #[68, 73, 78, 83, 88, 93, 98, 103, 103, 103, 113, 126, 139], 68) := by decide +kernel
theorem dX10_count_88 : decode cX10_count 88 = .ok (.aload_n 0, 1) := by decide +kernel
theorem dX10_count_89 : decode cX10_count 89 = .ok (.getfield 108, 3) := by decide +kernel
theorem dX10_count_92 : decode cX10_count 92 = .ok (.ireturn, 1) := by decide +kernel
theorem dX10_count_93 : decode cX10_count 93 = .ok (.aload_n 0, 1) := by decide +kernel
theorem dX10_count_94 : decode cX10_count 94 = .ok (.getfield 114, 3) := by decide +kernel
theorem dX10_count_97 : decode cX10_count 97 = .ok (.ireturn, 1) := by decide +kernel
theorem dX10_count_98 : decode cX10_count 98 = .ok (.aload_n 0, 1) := by decide +kernel
theorem dX10_count_99 : decode cX10_count 99 = .ok (.getfield 132, 3) := by decide +kernel
theorem dX10_count_102 : decode cX10_count 102 = .ok (.ireturn, 1) := by decide +kernel
theorem dX10_count_103 : decode cX10_count 103 = .ok (.aload_n 0, 1) := by decide +kernel
theorem dX10_count_104 : decode cX10_count 104 = .ok (.getfield 135, 3) := by decide +kernel
theorem dX10_count_107 : decode cX10_count 107 = .ok (.ireturn, 1) := by decide +kernel
theorem dX10_count_108 : decode cX10_count 108 = .ok (.aload_n 0, 1) := by decide +kernel
theorem dX10_count_109 : decode cX10_count 109 = .ok (.getfield 159, 3) := by decide +kernel
theorem dX10_count_112 : decode cX10_count 112 = .ok (.ireturn, 1) := by decide +kernel
theorem dX10_count_113 : decode cX10_count 113 = .ok (.aload_n 0, 1) := by decide +kernel
theorem dX10_count_114 : decode cX10_count 114 = .ok (.getfield 227, 3) := by decide +kernel
theorem dX10_count_117 : decode cX10_count 117 = .ok (.ireturn, 1) := by decide +kernel
theorem dX10_count_118 : decode cX10_count 118 = .ok (.aload_n 0, 1) := by decide +kernel
theorem dX10_count_119 : decode cX10_count 119 = .ok (.getfield 111, 3) := by decide +kernel
theorem dX10_count_122 : decode cX10_count 122 = .ok (.ireturn, 1) := by decide +kernel
theorem dX10_count_123 : decode cX10_count 123 = .ok (.aload_n 0, 1) := by decide +kernel
theorem dX10_count_124 : decode cX10_count 124 = .ok (.getfield 50, 3) := by decide +kernel
theorem dX10_count_127 : decode cX10_count 127 = .ok (.iload_n 1, 1) := by decide +kernel
theorem dX10_count_128 : decode cX10_count 128 = .ok (.bipush 6, 2) := by decide +kernel
theorem dX10_count_130 : decode cX10_count 130 = .ok (.isub, 1) := by decide +kernel
theorem dX10_count_131 : decode cX10_count 131 = .ok (.iaload, 1) := by decide +kernel
theorem dX10_count_132 : decode cX10_count 132 = .ok (.ireturn, 1) := by decide +kernel
theorem dX10_count_133 : decode cX10_count 133 = .ok (.aload_n 0, 1) := by decide +kernel
theorem dX10_count_134 : decode cX10_count 134 = .ok (.getfield 73, 3) := by decide +kernel
theorem dX10_count_137 : decode cX10_count 137 = .ok (.ifCond .eq 7, 3) := by decide +kernel
theorem dX10_count_140 : decode cX10_count 140 = .ok (.iconst 1, 1) := by decide +kernel
theorem dX10_count_141 : decode cX10_count 141 = .ok (.goto 4, 3) := by decide +kernel
theorem dX10_count_144 : decode cX10_count 144 = .ok (.iconst 0, 1) := by decide +kernel
theorem dX10_count_145 : decode cX10_count 145 = .ok (.ireturn, 1) := by decide +kernel
theorem dX10_count_146 : decode cX10_count 146 = .ok (.aload_n 0, 1) := by decide +kernel
theorem dX10_count_147 : decode cX10_count 147 = .ok (.getfield 196, 3) := by decide +kernel
theorem dX10_count_150 : decode cX10_count 150 = .ok (.ifCond .eq 7, 3) := by decide +kernel
theorem dX10_count_153 : decode cX10_count 153 = .ok (.iconst 1, 1) := by decide +kernel
theorem dX10_count_154 : decode cX10_count 154 = .ok (.goto 4, 3) := by decide +kernel
theorem dX10_count_157 : decode cX10_count 157 = .ok (.iconst 0, 1) := by decide +kernel
theorem dX10_count_158 : decode cX10_count 158 = .ok (.ireturn, 1) := by decide +kernel
theorem dX10_count_159 : decode cX10_count 159 = .ok (.aload_n 0, 1) := by decide +kernel
theorem dX10_count_160 : decode cX10_count 160 = .ok (.getfield 221, 3) := by decide +kernel
theorem dX10_count_163 : decode cX10_count 163 = .ok (.ireturn, 1) := by decide +kernel
theorem dX10_count_164 : decode cX10_count 164 = .ok (.iconst 0, 1) := by decide +kernel
theorem dX10_count_165 : decode cX10_count 165 = .ok (.ireturn, 1) := by decide +kernel
theorem dL_cell_0 : decode cL_cell 0 = .ok (.iload_n 1, 1) := by decide +kernel
theorem dL_cell_1 : decode cL_cell 1 = .ok (.aload_n 0, 1) := by decide +kernel
theorem dL_cell_2 : decode cL_cell 2 = .ok (.arraylength, 1) := by decide +kernel
theorem dL_cell_3 : decode cL_cell 3 = .ok (.if_icmp .ge 9, 3) := by decide +kernel
theorem dL_cell_6 : decode cL_cell 6 = .ok (.aload_n 0, 1) := by decide +kernel
theorem dL_cell_7 : decode cL_cell 7 = .ok (.iload_n 1, 1) := by decide +kernel
theorem dL_cell_8 : decode cL_cell 8 = .ok (.iaload, 1) := by decide +kernel
theorem dL_cell_9 : decode cL_cell 9 = .ok (.goto 4, 3) := by decide +kernel
theorem dL_cell_12 : decode cL_cell 12 = .ok (.iconst 0, 1) := by decide +kernel
theorem dL_cell_13 : decode cL_cell 13 = .ok (.ireturn, 1) := by decide +kernel
theorem dL_feed_0 : decode cL_feed 0 = .ok (.aload 7, 2) := by decide +kernel
theorem dL_feed_2 : decode cL_feed 2 = .ok (.iconst 0, 1) := by decide +kernel
theorem dL_feed_3 : decode cL_feed 3 = .ok (.aload_n 0, 1) := by decide +kernel
theorem dL_feed_4 : decode cL_feed 4 = .ok (.iload_n 1, 1) := by decide +kernel
theorem dL_feed_5 : decode cL_feed 5 = .ok (.iload_n 2, 1) := by decide +kernel
theorem dL_feed_6 : decode cL_feed 6 = .ok (.iload_n 3, 1) := by decide +kernel
theorem dL_feed_7 : decode cL_feed 7 = .ok (.iload 4, 2) := by decide +kernel
theorem dL_feed_9 : decode cL_feed 9 = .ok (.iload 5, 2) := by decide +kernel
theorem dL_feed_11 : decode cL_feed 11 = .ok (.iload 6, 2) := by decide +kernel
theorem dL_feed_13 : decode cL_feed 13 = .ok (.invokevirtual 7, 3) := by decide +kernel
theorem dL_feed_16 : decode cL_feed 16 = .ok (.i2l, 1) := by decide +kernel
theorem dL_feed_17 : decode cL_feed 17 = .ok (.lastore, 1) := by decide +kernel
theorem dL_feed_18 : decode cL_feed 18 = .ok (.goto 7, 3) := by decide +kernel
theorem dL_feed_21 : decode cL_feed 21 = .ok (.astore 8, 2) := by decide +kernel
theorem dL_feed_23 : decode cL_feed 23 = .ok (.iconst 1, 1) := by decide +kernel
theorem dL_feed_24 : decode cL_feed 24 = .ok (.ireturn, 1) := by decide +kernel
theorem dL_feed_25 : decode cL_feed 25 = .ok (.iconst 0, 1) := by decide +kernel
theorem dL_feed_26 : decode cL_feed 26 = .ok (.ireturn, 1) := by decide +kernel
theorem dL_tick_0 : decode cL_tick 0 = .ok (.aload_n 0, 1) := by decide +kernel
theorem dL_tick_1 : decode cL_tick 1 = .ok (.iload_n 1, 1) := by decide +kernel
theorem dL_tick_2 : decode cL_tick 2 = .ok (.invokevirtual 15, 3) := by decide +kernel
theorem dL_tick_5 : decode cL_tick 5 = .ok (.goto 6, 3) := by decide +kernel
theorem dL_tick_8 : decode cL_tick 8 = .ok (.astore_n 2, 1) := by decide +kernel
theorem dL_tick_9 : decode cL_tick 9 = .ok (.iconst 1, 1) := by decide +kernel
theorem dL_tick_10 : decode cL_tick 10 = .ok (.ireturn, 1) := by decide +kernel
theorem dL_tick_11 : decode cL_tick 11 = .ok (.iconst 0, 1) := by decide +kernel
theorem dL_tick_12 : decode cL_tick 12 = .ok (.ireturn, 1) := by decide +kernel
theorem dL_binary_0 : decode cL_binary 0 = .ok (.aload_n 3, 1) := by decide +kernel
theorem dL_binary_1 : decode cL_binary 1 = .ok (.iconst 0, 1) := by decide +kernel
theorem dL_binary_2 : decode cL_binary 2 = .ok (.aload_n 0, 1) := by decide +kernel
theorem dL_binary_3 : decode cL_binary 3 = .ok (.iload_n 1, 1) := by decide +kernel
theorem dL_binary_4 : decode cL_binary 4 = .ok (.iload_n 2, 1) := by decide +kernel
theorem dL_binary_5 : decode cL_binary 5 = .ok (.invokevirtual 19, 3) := by decide +kernel
theorem dL_binary_8 : decode cL_binary 8 = .ok (.ifCond .eq 7, 3) := by decide +kernel
theorem dL_binary_11 : decode cL_binary 11 = .ok (.lconst 1, 1) := by decide +kernel
theorem dL_binary_12 : decode cL_binary 12 = .ok (.goto 4, 3) := by decide +kernel
theorem dL_binary_15 : decode cL_binary 15 = .ok (.lconst 0, 1) := by decide +kernel
theorem dL_binary_16 : decode cL_binary 16 = .ok (.lastore, 1) := by decide +kernel
theorem dL_binary_17 : decode cL_binary 17 = .ok (.goto 7, 3) := by decide +kernel
theorem dL_binary_20 : decode cL_binary 20 = .ok (.astore 4, 2) := by decide +kernel
theorem dL_binary_22 : decode cL_binary 22 = .ok (.iconst 1, 1) := by decide +kernel
theorem dL_binary_23 : decode cL_binary 23 = .ok (.ireturn, 1) := by decide +kernel
theorem dL_binary_24 : decode cL_binary 24 = .ok (.iconst 0, 1) := by decide +kernel
theorem dL_binary_25 : decode cL_binary 25 = .ok (.ireturn, 1) := by decide +kernel
theorem dL_analog_0 : decode cL_analog 0 = .ok (.aload_n 3, 1) := by decide +kernel
theorem dL_analog_1 : decode cL_analog 1 = .ok (.iconst 0, 1) := by decide +kernel
theorem dL_analog_2 : decode cL_analog 2 = .ok (.aload_n 0, 1) := by decide +kernel
theorem dL_analog_3 : decode cL_analog 3 = .ok (.iload_n 1, 1) := by decide +kernel
theorem dL_analog_4 : decode cL_analog 4 = .ok (.iload_n 2, 1) := by decide +kernel
theorem dL_analog_5 : decode cL_analog 5 = .ok (.invokevirtual 25, 3) := by decide +kernel
theorem dL_analog_8 : decode cL_analog 8 = .ok (.ifCond .eq 7, 3) := by decide +kernel
theorem dL_analog_11 : decode cL_analog 11 = .ok (.lconst 1, 1) := by decide +kernel
theorem dL_analog_12 : decode cL_analog 12 = .ok (.goto 4, 3) := by decide +kernel
theorem dL_analog_15 : decode cL_analog 15 = .ok (.lconst 0, 1) := by decide +kernel
theorem dL_analog_16 : decode cL_analog 16 = .ok (.lastore, 1) := by decide +kernel
theorem dL_analog_17 : decode cL_analog 17 = .ok (.goto 11, 3) := by decide +kernel
theorem dL_analog_20 : decode cL_analog 20 = .ok (.astore 4, 2) := by decide +kernel
theorem dL_analog_22 : decode cL_analog 22 = .ok (.iconst 1, 1) := by decide +kernel
theorem dL_analog_23 : decode cL_analog 23 = .ok (.ireturn, 1) := by decide +kernel
theorem dL_analog_24 : decode cL_analog 24 = .ok (.astore 4, 2) := by decide +kernel
theorem dL_analog_26 : decode cL_analog 26 = .ok (.iconst 2, 1) := by decide +kernel
theorem dL_analog_27 : decode cL_analog 27 = .ok (.ireturn, 1) := by decide +kernel
theorem dL_analog_28 : decode cL_analog 28 = .ok (.iconst 0, 1) := by decide +kernel
theorem dL_analog_29 : decode cL_analog 29 = .ok (.ireturn, 1) := by decide +kernel
theorem dL_sort_0 : decode cL_sort 0 = .ok (.aload 4, 2) := by decide +kernel
theorem dL_sort_2 : decode cL_sort 2 = .ok (.iconst 0, 1) := by decide +kernel
theorem dL_sort_3 : decode cL_sort 3 = .ok (.aload_n 0, 1) := by decide +kernel
theorem dL_sort_4 : decode cL_sort 4 = .ok (.iload_n 1, 1) := by decide +kernel
theorem dL_sort_5 : decode cL_sort 5 = .ok (.iload_n 2, 1) := by decide +kernel
theorem dL_sort_6 : decode cL_sort 6 = .ok (.iload_n 3, 1) := by decide +kernel
theorem dL_sort_7 : decode cL_sort 7 = .ok (.invokevirtual 29, 3) := by decide +kernel
theorem dL_sort_10 : decode cL_sort 10 = .ok (.ifCond .eq 7, 3) := by decide +kernel
theorem dL_sort_13 : decode cL_sort 13 = .ok (.lconst 1, 1) := by decide +kernel
theorem dL_sort_14 : decode cL_sort 14 = .ok (.goto 4, 3) := by decide +kernel
theorem dL_sort_17 : decode cL_sort 17 = .ok (.lconst 0, 1) := by decide +kernel
theorem dL_sort_18 : decode cL_sort 18 = .ok (.lastore, 1) := by decide +kernel
theorem dL_sort_19 : decode cL_sort 19 = .ok (.goto 7, 3) := by decide +kernel
theorem dL_sort_22 : decode cL_sort 22 = .ok (.astore 5, 2) := by decide +kernel
theorem dL_sort_24 : decode cL_sort 24 = .ok (.iconst 1, 1) := by decide +kernel
theorem dL_sort_25 : decode cL_sort 25 = .ok (.ireturn, 1) := by decide +kernel
theorem dL_sort_26 : decode cL_sort 26 = .ok (.iconst 0, 1) := by decide +kernel
theorem dL_sort_27 : decode cL_sort 27 = .ok (.ireturn, 1) := by decide +kernel
theorem dL_band_0 : decode cL_band 0 = .ok (.aload_n 0, 1) := by decide +kernel
theorem dL_band_1 : decode cL_band 1 = .ok (.iload_n 1, 1) := by decide +kernel
theorem dL_band_2 : decode cL_band 2 = .ok (.iload_n 2, 1) := by decide +kernel
theorem dL_band_3 : decode cL_band 3 = .ok (.invokevirtual 33, 3) := by decide +kernel
theorem dL_band_6 : decode cL_band 6 = .ok (.goto 9, 3) := by decide +kernel
theorem dL_band_9 : decode cL_band 9 = .ok (.astore_n 3, 1) := by decide +kernel
theorem dL_band_10 : decode cL_band 10 = .ok (.iconst 1, 1) := by decide +kernel
theorem dL_band_11 : decode cL_band 11 = .ok (.ireturn, 1) := by decide +kernel
theorem dL_band_12 : decode cL_band 12 = .ok (.astore_n 3, 1) := by decide +kernel
theorem dL_band_13 : decode cL_band 13 = .ok (.iconst 2, 1) := by decide +kernel
theorem dL_band_14 : decode cL_band 14 = .ok (.ireturn, 1) := by decide +kernel
theorem dL_band_15 : decode cL_band 15 = .ok (.iconst 0, 1) := by decide +kernel
theorem dL_band_16 : decode cL_band 16 = .ok (.ireturn, 1) := by decide +kernel
theorem dL_sent_0 : decode cL_sent 0 = .ok (.aload_n 2, 1) := by decide +kernel
theorem dL_sent_1 : decode cL_sent 1 = .ok (.iconst 0, 1) := by decide +kernel
theorem dL_sent_2 : decode cL_sent 2 = .ok (.aload_n 0, 1) := by decide +kernel
theorem dL_sent_3 : decode cL_sent 3 = .ok (.iload_n 1, 1) := by decide +kernel
theorem dL_sent_4 : decode cL_sent 4 = .ok (.invokevirtual 37, 3) := by decide +kernel
theorem dL_sent_7 : decode cL_sent 7 = .ok (.i2l, 1) := by decide +kernel
theorem dL_sent_8 : decode cL_sent 8 = .ok (.lastore, 1) := by decide +kernel
theorem dL_sent_9 : decode cL_sent 9 = .ok (.goto 6, 3) := by decide +kernel
theorem dL_sent_12 : decode cL_sent 12 = .ok (.astore_n 3, 1) := by decide +kernel
theorem dL_sent_13 : decode cL_sent 13 = .ok (.iconst 1, 1) := by decide +kernel
theorem dL_sent_14 : decode cL_sent 14 = .ok (.ireturn, 1) := by decide +kernel
theorem dL_sent_15 : decode cL_sent 15 = .ok (.iconst 0, 1) := by decide +kernel
theorem dL_sent_16 : decode cL_sent 16 = .ok (.ireturn, 1) := by decide +kernel
theorem dL_relay_0 : decode cL_relay 0 = .ok (.aload_n 2, 1) := by decide +kernel
theorem dL_relay_1 : decode cL_relay 1 = .ok (.iconst 0, 1) := by decide +kernel
theorem dL_relay_2 : decode cL_relay 2 = .ok (.aload_n 0, 1) := by decide +kernel
theorem dL_relay_3 : decode cL_relay 3 = .ok (.iload_n 1, 1) := by decide +kernel
theorem dL_relay_4 : decode cL_relay 4 = .ok (.invokevirtual 41, 3) := by decide +kernel
theorem dL_relay_7 : decode cL_relay 7 = .ok (.i2l, 1) := by decide +kernel
theorem dL_relay_8 : decode cL_relay 8 = .ok (.lastore, 1) := by decide +kernel
theorem dL_relay_9 : decode cL_relay 9 = .ok (.goto 6, 3) := by decide +kernel
theorem dL_relay_12 : decode cL_relay 12 = .ok (.astore_n 3, 1) := by decide +kernel
theorem dL_relay_13 : decode cL_relay 13 = .ok (.iconst 1, 1) := by decide +kernel
theorem dL_relay_14 : decode cL_relay 14 = .ok (.ireturn, 1) := by decide +kernel
theorem dL_relay_15 : decode cL_relay 15 = .ok (.iconst 0, 1) := by decide +kernel
theorem dL_relay_16 : decode cL_relay 16 = .ok (.ireturn, 1) := by decide +kernel
theorem dL_event_0 : decode cL_event 0 = .ok (.aload 4, 2) := by decide +kernel
theorem dL_event_2 : decode cL_event 2 = .ok (.iconst 0, 1) := by decide +kernel
theorem dL_event_3 : decode cL_event 3 = .ok (.aload_n 0, 1) := by decide +kernel
theorem dL_event_4 : decode cL_event 4 = .ok (.iload_n 1, 1) := by decide +kernel
theorem dL_event_5 : decode cL_event 5 = .ok (.iload_n 2, 1) := by decide +kernel
theorem dL_event_6 : decode cL_event 6 = .ok (.iload_n 3, 1) := by decide +kernel
theorem dL_event_7 : decode cL_event 7 = .ok (.invokevirtual 44, 3) := by decide +kernel
theorem dL_event_10 : decode cL_event 10 = .ok (.i2l, 1) := by decide +kernel
theorem dL_event_11 : decode cL_event 11 = .ok (.lastore, 1) := by decide +kernel
theorem dL_event_12 : decode cL_event 12 = .ok (.goto 7, 3) := by decide +kernel
theorem dL_event_15 : decode cL_event 15 = .ok (.astore 5, 2) := by decide +kernel
theorem dL_event_17 : decode cL_event 17 = .ok (.iconst 1, 1) := by decide +kernel
theorem dL_event_18 : decode cL_event 18 = .ok (.ireturn, 1) := by decide +kernel
theorem dL_event_19 : decode cL_event 19 = .ok (.iconst 0, 1) := by decide +kernel
theorem dL_event_20 : decode cL_event 20 = .ok (.ireturn, 1) := by decide +kernel
theorem dL_check_0 : decode cL_check 0 = .ok (.aload_n 3, 1) := by decide +kernel
theorem dL_check_1 : decode cL_check 1 = .ok (.iconst 0, 1) := by decide +kernel
theorem dL_check_2 : decode cL_check 2 = .ok (.aload_n 0, 1) := by decide +kernel
theorem dL_check_3 : decode cL_check 3 = .ok (.iload_n 1, 1) := by decide +kernel
theorem dL_check_4 : decode cL_check 4 = .ok (.iload_n 2, 1) := by decide +kernel
theorem dL_check_5 : decode cL_check 5 = .ok (.invokevirtual 48, 3) := by decide +kernel
theorem dL_check_8 : decode cL_check 8 = .ok (.i2l, 1) := by decide +kernel
theorem dL_check_9 : decode cL_check 9 = .ok (.lastore, 1) := by decide +kernel
theorem dL_check_10 : decode cL_check 10 = .ok (.goto 7, 3) := by decide +kernel
theorem dL_check_13 : decode cL_check 13 = .ok (.astore 4, 2) := by decide +kernel
theorem dL_check_15 : decode cL_check 15 = .ok (.iconst 1, 1) := by decide +kernel
theorem dL_check_16 : decode cL_check 16 = .ok (.ireturn, 1) := by decide +kernel
theorem dL_check_17 : decode cL_check 17 = .ok (.iconst 0, 1) := by decide +kernel
theorem dL_check_18 : decode cL_check 18 = .ok (.ireturn, 1) := by decide +kernel
theorem dL_count_0 : decode cL_count 0 = .ok (.aload_n 2, 1) := by decide +kernel
theorem dL_count_1 : decode cL_count 1 = .ok (.iconst 0, 1) := by decide +kernel
theorem dL_count_2 : decode cL_count 2 = .ok (.aload_n 0, 1) := by decide +kernel
theorem dL_count_3 : decode cL_count 3 = .ok (.iload_n 1, 1) := by decide +kernel
theorem dL_count_4 : decode cL_count 4 = .ok (.invokevirtual 52, 3) := by decide +kernel
theorem dL_count_7 : decode cL_count 7 = .ok (.i2l, 1) := by decide +kernel
theorem dL_count_8 : decode cL_count 8 = .ok (.lastore, 1) := by decide +kernel
theorem dL_count_9 : decode cL_count 9 = .ok (.goto 6, 3) := by decide +kernel
theorem dL_count_12 : decode cL_count 12 = .ok (.astore_n 3, 1) := by decide +kernel
theorem dL_count_13 : decode cL_count 13 = .ok (.iconst 1, 1) := by decide +kernel
theorem dL_count_14 : decode cL_count 14 = .ok (.ireturn, 1) := by decide +kernel
theorem dL_count_15 : decode cL_count 15 = .ok (.iconst 0, 1) := by decide +kernel
theorem dL_count_16 : decode cL_count 16 = .ok (.ireturn, 1) := by decide +kernel
theorem dL_law_0 : decode cL_law 0 = .ok (.new 8, 3) := by decide +kernel
theorem dL_law_3 : decode cL_law 3 = .ok (.dup, 1) := by decide +kernel
theorem dL_law_4 : decode cL_law 4 = .ok (.aload_n 0, 1) := by decide +kernel
theorem dL_law_5 : decode cL_law 5 = .ok (.iconst 0, 1) := by decide +kernel
theorem dL_law_6 : decode cL_law 6 = .ok (.invokestatic 55, 3) := by decide +kernel
theorem dL_law_9 : decode cL_law 9 = .ok (.aload_n 0, 1) := by decide +kernel
theorem dL_law_10 : decode cL_law 10 = .ok (.iconst 1, 1) := by decide +kernel
theorem dL_law_11 : decode cL_law 11 = .ok (.invokestatic 55, 3) := by decide +kernel
theorem dL_law_14 : decode cL_law 14 = .ok (.aload_n 0, 1) := by decide +kernel
theorem dL_law_15 : decode cL_law 15 = .ok (.iconst 2, 1) := by decide +kernel
theorem dL_law_16 : decode cL_law 16 = .ok (.invokestatic 55, 3) := by decide +kernel
theorem dL_law_19 : decode cL_law 19 = .ok (.aload_n 0, 1) := by decide +kernel
theorem dL_law_20 : decode cL_law 20 = .ok (.iconst 3, 1) := by decide +kernel
theorem dL_law_21 : decode cL_law 21 = .ok (.invokestatic 55, 3) := by decide +kernel
theorem dL_law_24 : decode cL_law 24 = .ok (.invokespecial 61, 3) := by decide +kernel
theorem dL_law_27 : decode cL_law 27 = .ok (.astore_n 1, 1) := by decide +kernel
theorem dL_law_28 : decode cL_law 28 = .ok (.new 64, 3) := by decide +kernel
theorem dL_law_31 : decode cL_law 31 = .ok (.dup, 1) := by decide +kernel
theorem dL_law_32 : decode cL_law 32 = .ok (.aload_n 0, 1) := by decide +kernel
theorem dL_law_33 : decode cL_law 33 = .ok (.iconst 0, 1) := by decide +kernel
theorem dL_law_34 : decode cL_law 34 = .ok (.invokestatic 55, 3) := by decide +kernel
theorem dL_law_37 : decode cL_law 37 = .ok (.aload_n 0, 1) := by decide +kernel
theorem dL_law_38 : decode cL_law 38 = .ok (.iconst 1, 1) := by decide +kernel
theorem dL_law_39 : decode cL_law 39 = .ok (.invokestatic 55, 3) := by decide +kernel
theorem dL_law_42 : decode cL_law 42 = .ok (.aload_n 0, 1) := by decide +kernel
theorem dL_law_43 : decode cL_law 43 = .ok (.iconst 2, 1) := by decide +kernel
theorem dL_law_44 : decode cL_law 44 = .ok (.invokestatic 55, 3) := by decide +kernel
theorem dL_law_47 : decode cL_law 47 = .ok (.aload_n 0, 1) := by decide +kernel
theorem dL_law_48 : decode cL_law 48 = .ok (.iconst 3, 1) := by decide +kernel
theorem dL_law_49 : decode cL_law 49 = .ok (.invokestatic 55, 3) := by decide +kernel
theorem dL_law_52 : decode cL_law 52 = .ok (.invokespecial 66, 3) := by decide +kernel
theorem dL_law_55 : decode cL_law 55 = .ok (.astore_n 2, 1) := by decide +kernel
theorem dL_law_56 : decode cL_law 56 = .ok (.iconst 1, 1) := by decide +kernel
theorem dL_law_57 : decode cL_law 57 = .ok (.newarray .long, 2) := by decide +kernel
theorem dL_law_59 : decode cL_law 59 = .ok (.astore_n 3, 1) := by decide +kernel
theorem dL_law_60 : decode cL_law 60 = .ok (.iconst 4, 1) := by decide +kernel
theorem dL_law_61 : decode cL_law 61 = .ok (.istore 4, 2) := by decide +kernel
theorem dL_law_63 : decode cL_law 63 = .ok (.iload 4, 2) := by decide +kernel
theorem dL_law_65 : decode cL_law 65 = .ok (.aload_n 0, 1) := by decide +kernel
theorem dL_law_66 : decode cL_law 66 = .ok (.arraylength, 1) := by decide +kernel
theorem dL_law_67 : decode cL_law 67 = .ok (.bipush 7, 2) := by decide +kernel
theorem dL_law_69 : decode cL_law 69 = .ok (.isub, 1) := by decide +kernel
theorem dL_law_70 : decode cL_law 70 = .ok (.if_icmp .gt 585, 3) := by decide +kernel
theorem dL_law_73 : decode cL_law 73 = .ok (.aload_n 0, 1) := by decide +kernel
theorem dL_law_74 : decode cL_law 74 = .ok (.iload 4, 2) := by decide +kernel
theorem dL_law_76 : decode cL_law 76 = .ok (.iaload, 1) := by decide +kernel
theorem dL_law_77 : decode cL_law 77 = .ok (.bipush 15, 2) := by decide +kernel
theorem dL_law_79 : decode cL_law 79 = .ok (.iand, 1) := by decide +kernel
theorem dL_law_80 : decode cL_law 80 = .ok (.tableswitch 569 0 11 #[64, 154, 179, 235, 275, 343, 380, 408, 421, 449, 501, 541], 64) := by decide +kernel
theorem dL_law_144 : decode cL_law 144 = .ok (.aload_n 1, 1) := by decide +kernel
theorem dL_law_145 : decode cL_law 145 = .ok (.aload_n 0, 1) := by decide +kernel
theorem dL_law_146 : decode cL_law 146 = .ok (.iload 4, 2) := by decide +kernel
theorem dL_law_148 : decode cL_law 148 = .ok (.iconst 1, 1) := by decide +kernel
theorem dL_law_149 : decode cL_law 149 = .ok (.iadd, 1) := by decide +kernel
theorem dL_law_150 : decode cL_law 150 = .ok (.iaload, 1) := by decide +kernel
theorem dL_law_151 : decode cL_law 151 = .ok (.aload_n 0, 1) := by decide +kernel
theorem dL_law_152 : decode cL_law 152 = .ok (.iload 4, 2) := by decide +kernel
theorem dL_law_154 : decode cL_law 154 = .ok (.iconst 2, 1) := by decide +kernel
theorem dL_law_155 : decode cL_law 155 = .ok (.iadd, 1) := by decide +kernel
theorem dL_law_156 : decode cL_law 156 = .ok (.iaload, 1) := by decide +kernel
theorem dL_law_157 : decode cL_law 157 = .ok (.aload_n 0, 1) := by decide +kernel
theorem dL_law_158 : decode cL_law 158 = .ok (.iload 4, 2) := by decide +kernel
theorem dL_law_160 : decode cL_law 160 = .ok (.iconst 3, 1) := by decide +kernel
theorem dL_law_161 : decode cL_law 161 = .ok (.iadd, 1) := by decide +kernel
theorem dL_law_162 : decode cL_law 162 = .ok (.iaload, 1) := by decide +kernel
theorem dL_law_163 : decode cL_law 163 = .ok (.aload_n 0, 1) := by decide +kernel
theorem dL_law_164 : decode cL_law 164 = .ok (.iload 4, 2) := by decide +kernel
theorem dL_law_166 : decode cL_law 166 = .ok (.iconst 4, 1) := by decide +kernel
theorem dL_law_167 : decode cL_law 167 = .ok (.iadd, 1) := by decide +kernel
theorem dL_law_168 : decode cL_law 168 = .ok (.iaload, 1) := by decide +kernel
theorem dL_law_169 : decode cL_law 169 = .ok (.aload_n 0, 1) := by decide +kernel
theorem dL_law_170 : decode cL_law 170 = .ok (.iload 4, 2) := by decide +kernel
theorem dL_law_172 : decode cL_law 172 = .ok (.iconst 5, 1) := by decide +kernel
theorem dL_law_173 : decode cL_law 173 = .ok (.iadd, 1) := by decide +kernel
theorem dL_law_174 : decode cL_law 174 = .ok (.iaload, 1) := by decide +kernel
theorem dL_law_175 : decode cL_law 175 = .ok (.aload_n 0, 1) := by decide +kernel
theorem dL_law_176 : decode cL_law 176 = .ok (.iload 4, 2) := by decide +kernel
theorem dL_law_178 : decode cL_law 178 = .ok (.bipush 6, 2) := by decide +kernel
theorem dL_law_180 : decode cL_law 180 = .ok (.iadd, 1) := by decide +kernel
theorem dL_law_181 : decode cL_law 181 = .ok (.iaload, 1) := by decide +kernel
theorem dL_law_182 : decode cL_law 182 = .ok (.aload_n 3, 1) := by decide +kernel
theorem dL_law_183 : decode cL_law 183 = .ok (.invokestatic 67, 3) := by decide +kernel
theorem dL_law_186 : decode cL_law 186 = .ok (.istore 5, 2) := by decide +kernel
theorem dL_law_188 : decode cL_law 188 = .ok (.aload_n 2, 1) := by decide +kernel
theorem dL_law_189 : decode cL_law 189 = .ok (.aload_n 0, 1) := by decide +kernel
theorem dL_law_190 : decode cL_law 190 = .ok (.iload 4, 2) := by decide +kernel
theorem dL_law_192 : decode cL_law 192 = .ok (.iconst 1, 1) := by decide +kernel
theorem dL_law_193 : decode cL_law 193 = .ok (.iadd, 1) := by decide +kernel
theorem dL_law_194 : decode cL_law 194 = .ok (.iaload, 1) := by decide +kernel
theorem dL_law_195 : decode cL_law 195 = .ok (.aload_n 0, 1) := by decide +kernel
theorem dL_law_196 : decode cL_law 196 = .ok (.iload 4, 2) := by decide +kernel
theorem dL_law_198 : decode cL_law 198 = .ok (.iconst 2, 1) := by decide +kernel
theorem dL_law_199 : decode cL_law 199 = .ok (.iadd, 1) := by decide +kernel
theorem dL_law_200 : decode cL_law 200 = .ok (.iaload, 1) := by decide +kernel
theorem dL_law_201 : decode cL_law 201 = .ok (.aload_n 0, 1) := by decide +kernel
theorem dL_law_202 : decode cL_law 202 = .ok (.iload 4, 2) := by decide +kernel
theorem dL_law_204 : decode cL_law 204 = .ok (.iconst 3, 1) := by decide +kernel
theorem dL_law_205 : decode cL_law 205 = .ok (.iadd, 1) := by decide +kernel
theorem dL_law_206 : decode cL_law 206 = .ok (.iaload, 1) := by decide +kernel
theorem dL_law_207 : decode cL_law 207 = .ok (.aload_n 0, 1) := by decide +kernel
theorem dL_law_208 : decode cL_law 208 = .ok (.iload 4, 2) := by decide +kernel
theorem dL_law_210 : decode cL_law 210 = .ok (.iconst 4, 1) := by decide +kernel
theorem dL_law_211 : decode cL_law 211 = .ok (.iadd, 1) := by decide +kernel
theorem dL_law_212 : decode cL_law 212 = .ok (.iaload, 1) := by decide +kernel
theorem dL_law_213 : decode cL_law 213 = .ok (.aload_n 0, 1) := by decide +kernel
theorem dL_law_214 : decode cL_law 214 = .ok (.iload 4, 2) := by decide +kernel
theorem dL_law_216 : decode cL_law 216 = .ok (.iconst 5, 1) := by decide +kernel
theorem dL_law_217 : decode cL_law 217 = .ok (.iadd, 1) := by decide +kernel
theorem dL_law_218 : decode cL_law 218 = .ok (.iaload, 1) := by decide +kernel
theorem dL_law_219 : decode cL_law 219 = .ok (.aload_n 0, 1) := by decide +kernel
theorem dL_law_220 : decode cL_law 220 = .ok (.iload 4, 2) := by decide +kernel
theorem dL_law_222 : decode cL_law 222 = .ok (.bipush 6, 2) := by decide +kernel
theorem dL_law_224 : decode cL_law 224 = .ok (.iadd, 1) := by decide +kernel
theorem dL_law_225 : decode cL_law 225 = .ok (.iaload, 1) := by decide +kernel
theorem dL_law_226 : decode cL_law 226 = .ok (.invokevirtual 70, 3) := by decide +kernel
theorem dL_law_229 : decode cL_law 229 = .ok (.istore 6, 2) := by decide +kernel
theorem dL_law_231 : decode cL_law 231 = .ok (.goto 418, 3) := by decide +kernel
theorem dL_law_234 : decode cL_law 234 = .ok (.aload_n 1, 1) := by decide +kernel
theorem dL_law_235 : decode cL_law 235 = .ok (.aload_n 0, 1) := by decide +kernel
theorem dL_law_236 : decode cL_law 236 = .ok (.iload 4, 2) := by decide +kernel
theorem dL_law_238 : decode cL_law 238 = .ok (.iconst 1, 1) := by decide +kernel
theorem dL_law_239 : decode cL_law 239 = .ok (.iadd, 1) := by decide +kernel
theorem dL_law_240 : decode cL_law 240 = .ok (.iaload, 1) := by decide +kernel
theorem dL_law_241 : decode cL_law 241 = .ok (.invokestatic 71, 3) := by decide +kernel
theorem dL_law_244 : decode cL_law 244 = .ok (.istore 5, 2) := by decide +kernel
theorem dL_law_246 : decode cL_law 246 = .ok (.aload_n 2, 1) := by decide +kernel
theorem dL_law_247 : decode cL_law 247 = .ok (.aload_n 0, 1) := by decide +kernel
theorem dL_law_248 : decode cL_law 248 = .ok (.iload 4, 2) := by decide +kernel
theorem dL_law_250 : decode cL_law 250 = .ok (.iconst 1, 1) := by decide +kernel
theorem dL_law_251 : decode cL_law 251 = .ok (.iadd, 1) := by decide +kernel
theorem dL_law_252 : decode cL_law 252 = .ok (.iaload, 1) := by decide +kernel
theorem dL_law_253 : decode cL_law 253 = .ok (.invokevirtual 74, 3) := by decide +kernel
theorem dL_law_256 : decode cL_law 256 = .ok (.goto 393, 3) := by decide +kernel
theorem dL_law_259 : decode cL_law 259 = .ok (.aload_n 1, 1) := by decide +kernel
theorem dL_law_260 : decode cL_law 260 = .ok (.aload_n 0, 1) := by decide +kernel
theorem dL_law_261 : decode cL_law 261 = .ok (.iload 4, 2) := by decide +kernel
theorem dL_law_263 : decode cL_law 263 = .ok (.iconst 1, 1) := by decide +kernel
theorem dL_law_264 : decode cL_law 264 = .ok (.iadd, 1) := by decide +kernel
theorem dL_law_265 : decode cL_law 265 = .ok (.iaload, 1) := by decide +kernel
theorem dL_law_266 : decode cL_law 266 = .ok (.aload_n 0, 1) := by decide +kernel
theorem dL_law_267 : decode cL_law 267 = .ok (.iload 4, 2) := by decide +kernel
theorem dL_law_269 : decode cL_law 269 = .ok (.iconst 2, 1) := by decide +kernel
theorem dL_law_270 : decode cL_law 270 = .ok (.iadd, 1) := by decide +kernel
theorem dL_law_271 : decode cL_law 271 = .ok (.iaload, 1) := by decide +kernel
theorem dL_law_272 : decode cL_law 272 = .ok (.ifCond .eq 7, 3) := by decide +kernel
theorem dL_law_275 : decode cL_law 275 = .ok (.iconst 1, 1) := by decide +kernel
theorem dL_law_276 : decode cL_law 276 = .ok (.goto 4, 3) := by decide +kernel
theorem dL_law_279 : decode cL_law 279 = .ok (.iconst 0, 1) := by decide +kernel
theorem dL_law_280 : decode cL_law 280 = .ok (.aload_n 3, 1) := by decide +kernel
theorem dL_law_281 : decode cL_law 281 = .ok (.invokestatic 75, 3) := by decide +kernel
theorem dL_law_284 : decode cL_law 284 = .ok (.istore 5, 2) := by decide +kernel
theorem dL_law_286 : decode cL_law 286 = .ok (.aload_n 2, 1) := by decide +kernel
theorem dL_law_287 : decode cL_law 287 = .ok (.aload_n 0, 1) := by decide +kernel
theorem dL_law_288 : decode cL_law 288 = .ok (.iload 4, 2) := by decide +kernel
theorem dL_law_290 : decode cL_law 290 = .ok (.iconst 1, 1) := by decide +kernel
theorem dL_law_291 : decode cL_law 291 = .ok (.iadd, 1) := by decide +kernel
theorem dL_law_292 : decode cL_law 292 = .ok (.iaload, 1) := by decide +kernel
theorem dL_law_293 : decode cL_law 293 = .ok (.aload_n 0, 1) := by decide +kernel
theorem dL_law_294 : decode cL_law 294 = .ok (.iload 4, 2) := by decide +kernel
theorem dL_law_296 : decode cL_law 296 = .ok (.iconst 2, 1) := by decide +kernel
theorem dL_law_297 : decode cL_law 297 = .ok (.iadd, 1) := by decide +kernel
theorem dL_law_298 : decode cL_law 298 = .ok (.iaload, 1) := by decide +kernel
theorem dL_law_299 : decode cL_law 299 = .ok (.ifCond .eq 7, 3) := by decide +kernel
theorem dL_law_302 : decode cL_law 302 = .ok (.iconst 1, 1) := by decide +kernel
theorem dL_law_303 : decode cL_law 303 = .ok (.goto 4, 3) := by decide +kernel
theorem dL_law_306 : decode cL_law 306 = .ok (.iconst 0, 1) := by decide +kernel
theorem dL_law_307 : decode cL_law 307 = .ok (.invokevirtual 78, 3) := by decide +kernel
theorem dL_law_310 : decode cL_law 310 = .ok (.istore 6, 2) := by decide +kernel
theorem dL_law_312 : decode cL_law 312 = .ok (.goto 337, 3) := by decide +kernel
theorem dL_law_315 : decode cL_law 315 = .ok (.aload_n 1, 1) := by decide +kernel
theorem dL_law_316 : decode cL_law 316 = .ok (.aload_n 0, 1) := by decide +kernel
theorem dL_law_317 : decode cL_law 317 = .ok (.iload 4, 2) := by decide +kernel
theorem dL_law_319 : decode cL_law 319 = .ok (.iconst 1, 1) := by decide +kernel
theorem dL_law_320 : decode cL_law 320 = .ok (.iadd, 1) := by decide +kernel
theorem dL_law_321 : decode cL_law 321 = .ok (.iaload, 1) := by decide +kernel
theorem dL_law_322 : decode cL_law 322 = .ok (.aload_n 0, 1) := by decide +kernel
theorem dL_law_323 : decode cL_law 323 = .ok (.iload 4, 2) := by decide +kernel
theorem dL_law_325 : decode cL_law 325 = .ok (.iconst 2, 1) := by decide +kernel
theorem dL_law_326 : decode cL_law 326 = .ok (.iadd, 1) := by decide +kernel
theorem dL_law_327 : decode cL_law 327 = .ok (.iaload, 1) := by decide +kernel
theorem dL_law_328 : decode cL_law 328 = .ok (.aload_n 3, 1) := by decide +kernel
theorem dL_law_329 : decode cL_law 329 = .ok (.invokestatic 79, 3) := by decide +kernel
theorem dL_law_332 : decode cL_law 332 = .ok (.istore 5, 2) := by decide +kernel
theorem dL_law_334 : decode cL_law 334 = .ok (.aload_n 2, 1) := by decide +kernel
theorem dL_law_335 : decode cL_law 335 = .ok (.aload_n 0, 1) := by decide +kernel
theorem dL_law_336 : decode cL_law 336 = .ok (.iload 4, 2) := by decide +kernel
theorem dL_law_338 : decode cL_law 338 = .ok (.iconst 1, 1) := by decide +kernel
theorem dL_law_339 : decode cL_law 339 = .ok (.iadd, 1) := by decide +kernel
theorem dL_law_340 : decode cL_law 340 = .ok (.iaload, 1) := by decide +kernel
theorem dL_law_341 : decode cL_law 341 = .ok (.aload_n 0, 1) := by decide +kernel
theorem dL_law_342 : decode cL_law 342 = .ok (.iload 4, 2) := by decide +kernel
theorem dL_law_344 : decode cL_law 344 = .ok (.iconst 2, 1) := by decide +kernel
theorem dL_law_345 : decode cL_law 345 = .ok (.iadd, 1) := by decide +kernel
theorem dL_law_346 : decode cL_law 346 = .ok (.iaload, 1) := by decide +kernel
theorem dL_law_347 : decode cL_law 347 = .ok (.invokevirtual 82, 3) := by decide +kernel
theorem dL_law_350 : decode cL_law 350 = .ok (.istore 6, 2) := by decide +kernel
theorem dL_law_352 : decode cL_law 352 = .ok (.goto 297, 3) := by decide +kernel
theorem dL_law_355 : decode cL_law 355 = .ok (.aload_n 1, 1) := by decide +kernel
theorem dL_law_356 : decode cL_law 356 = .ok (.aload_n 0, 1) := by decide +kernel
theorem dL_law_357 : decode cL_law 357 = .ok (.iload 4, 2) := by decide +kernel
theorem dL_law_359 : decode cL_law 359 = .ok (.iconst 1, 1) := by decide +kernel
theorem dL_law_360 : decode cL_law 360 = .ok (.iadd, 1) := by decide +kernel
theorem dL_law_361 : decode cL_law 361 = .ok (.iaload, 1) := by decide +kernel
theorem dL_law_362 : decode cL_law 362 = .ok (.ifCond .eq 7, 3) := by decide +kernel
theorem dL_law_365 : decode cL_law 365 = .ok (.iconst 1, 1) := by decide +kernel
theorem dL_law_366 : decode cL_law 366 = .ok (.goto 4, 3) := by decide +kernel
theorem dL_law_369 : decode cL_law 369 = .ok (.iconst 0, 1) := by decide +kernel
theorem dL_law_370 : decode cL_law 370 = .ok (.aload_n 0, 1) := by decide +kernel
theorem dL_law_371 : decode cL_law 371 = .ok (.iload 4, 2) := by decide +kernel
theorem dL_law_373 : decode cL_law 373 = .ok (.iconst 2, 1) := by decide +kernel
theorem dL_law_374 : decode cL_law 374 = .ok (.iadd, 1) := by decide +kernel
theorem dL_law_375 : decode cL_law 375 = .ok (.iaload, 1) := by decide +kernel
theorem dL_law_376 : decode cL_law 376 = .ok (.aload_n 0, 1) := by decide +kernel
theorem dL_law_377 : decode cL_law 377 = .ok (.iload 4, 2) := by decide +kernel
theorem dL_law_379 : decode cL_law 379 = .ok (.iconst 3, 1) := by decide +kernel
theorem dL_law_380 : decode cL_law 380 = .ok (.iadd, 1) := by decide +kernel
theorem dL_law_381 : decode cL_law 381 = .ok (.iaload, 1) := by decide +kernel
theorem dL_law_382 : decode cL_law 382 = .ok (.aload_n 3, 1) := by decide +kernel
theorem dL_law_383 : decode cL_law 383 = .ok (.invokestatic 83, 3) := by decide +kernel
theorem dL_law_386 : decode cL_law 386 = .ok (.istore 5, 2) := by decide +kernel
theorem dL_law_388 : decode cL_law 388 = .ok (.aload_n 2, 1) := by decide +kernel
theorem dL_law_389 : decode cL_law 389 = .ok (.aload_n 0, 1) := by decide +kernel
theorem dL_law_390 : decode cL_law 390 = .ok (.iload 4, 2) := by decide +kernel
theorem dL_law_392 : decode cL_law 392 = .ok (.iconst 1, 1) := by decide +kernel
theorem dL_law_393 : decode cL_law 393 = .ok (.iadd, 1) := by decide +kernel
theorem dL_law_394 : decode cL_law 394 = .ok (.iaload, 1) := by decide +kernel
theorem dL_law_395 : decode cL_law 395 = .ok (.ifCond .eq 7, 3) := by decide +kernel
theorem dL_law_398 : decode cL_law 398 = .ok (.iconst 1, 1) := by decide +kernel
theorem dL_law_399 : decode cL_law 399 = .ok (.goto 4, 3) := by decide +kernel
theorem dL_law_402 : decode cL_law 402 = .ok (.iconst 0, 1) := by decide +kernel
theorem dL_law_403 : decode cL_law 403 = .ok (.aload_n 0, 1) := by decide +kernel
theorem dL_law_404 : decode cL_law 404 = .ok (.iload 4, 2) := by decide +kernel
theorem dL_law_406 : decode cL_law 406 = .ok (.iconst 2, 1) := by decide +kernel
theorem dL_law_407 : decode cL_law 407 = .ok (.iadd, 1) := by decide +kernel
theorem dL_law_408 : decode cL_law 408 = .ok (.iaload, 1) := by decide +kernel
theorem dL_law_409 : decode cL_law 409 = .ok (.aload_n 0, 1) := by decide +kernel
theorem dL_law_410 : decode cL_law 410 = .ok (.iload 4, 2) := by decide +kernel
theorem dL_law_412 : decode cL_law 412 = .ok (.iconst 3, 1) := by decide +kernel
theorem dL_law_413 : decode cL_law 413 = .ok (.iadd, 1) := by decide +kernel
theorem dL_law_414 : decode cL_law 414 = .ok (.iaload, 1) := by decide +kernel
theorem dL_law_415 : decode cL_law 415 = .ok (.invokevirtual 86, 3) := by decide +kernel
theorem dL_law_418 : decode cL_law 418 = .ok (.istore 6, 2) := by decide +kernel
theorem dL_law_420 : decode cL_law 420 = .ok (.goto 229, 3) := by decide +kernel
theorem dL_law_423 : decode cL_law 423 = .ok (.aload_n 1, 1) := by decide +kernel
theorem dL_law_424 : decode cL_law 424 = .ok (.aload_n 0, 1) := by decide +kernel
theorem dL_law_425 : decode cL_law 425 = .ok (.iload 4, 2) := by decide +kernel
theorem dL_law_427 : decode cL_law 427 = .ok (.iconst 1, 1) := by decide +kernel
theorem dL_law_428 : decode cL_law 428 = .ok (.iadd, 1) := by decide +kernel
theorem dL_law_429 : decode cL_law 429 = .ok (.iaload, 1) := by decide +kernel
theorem dL_law_430 : decode cL_law 430 = .ok (.aload_n 0, 1) := by decide +kernel
theorem dL_law_431 : decode cL_law 431 = .ok (.iload 4, 2) := by decide +kernel
theorem dL_law_433 : decode cL_law 433 = .ok (.iconst 2, 1) := by decide +kernel
theorem dL_law_434 : decode cL_law 434 = .ok (.iadd, 1) := by decide +kernel
theorem dL_law_435 : decode cL_law 435 = .ok (.iaload, 1) := by decide +kernel
theorem dL_law_436 : decode cL_law 436 = .ok (.invokestatic 87, 3) := by decide +kernel
theorem dL_law_439 : decode cL_law 439 = .ok (.istore 5, 2) := by decide +kernel
theorem dL_law_441 : decode cL_law 441 = .ok (.aload_n 2, 1) := by decide +kernel
theorem dL_law_442 : decode cL_law 442 = .ok (.aload_n 0, 1) := by decide +kernel
theorem dL_law_443 : decode cL_law 443 = .ok (.iload 4, 2) := by decide +kernel
theorem dL_law_445 : decode cL_law 445 = .ok (.iconst 1, 1) := by decide +kernel
theorem dL_law_446 : decode cL_law 446 = .ok (.iadd, 1) := by decide +kernel
theorem dL_law_447 : decode cL_law 447 = .ok (.iaload, 1) := by decide +kernel
theorem dL_law_448 : decode cL_law 448 = .ok (.aload_n 0, 1) := by decide +kernel
theorem dL_law_449 : decode cL_law 449 = .ok (.iload 4, 2) := by decide +kernel
theorem dL_law_451 : decode cL_law 451 = .ok (.iconst 2, 1) := by decide +kernel
theorem dL_law_452 : decode cL_law 452 = .ok (.iadd, 1) := by decide +kernel
theorem dL_law_453 : decode cL_law 453 = .ok (.iaload, 1) := by decide +kernel
theorem dL_law_454 : decode cL_law 454 = .ok (.invokevirtual 90, 3) := by decide +kernel
theorem dL_law_457 : decode cL_law 457 = .ok (.goto 192, 3) := by decide +kernel
theorem dL_law_460 : decode cL_law 460 = .ok (.aload_n 1, 1) := by decide +kernel
theorem dL_law_461 : decode cL_law 461 = .ok (.aload_n 0, 1) := by decide +kernel
theorem dL_law_462 : decode cL_law 462 = .ok (.iload 4, 2) := by decide +kernel
theorem dL_law_464 : decode cL_law 464 = .ok (.iconst 1, 1) := by decide +kernel
theorem dL_law_465 : decode cL_law 465 = .ok (.iadd, 1) := by decide +kernel
theorem dL_law_466 : decode cL_law 466 = .ok (.iaload, 1) := by decide +kernel
theorem dL_law_467 : decode cL_law 467 = .ok (.aload_n 3, 1) := by decide +kernel
theorem dL_law_468 : decode cL_law 468 = .ok (.invokestatic 91, 3) := by decide +kernel
theorem dL_law_471 : decode cL_law 471 = .ok (.istore 5, 2) := by decide +kernel
theorem dL_law_473 : decode cL_law 473 = .ok (.aload_n 2, 1) := by decide +kernel
theorem dL_law_474 : decode cL_law 474 = .ok (.aload_n 0, 1) := by decide +kernel
theorem dL_law_475 : decode cL_law 475 = .ok (.iload 4, 2) := by decide +kernel
theorem dL_law_477 : decode cL_law 477 = .ok (.iconst 1, 1) := by decide +kernel
theorem dL_law_478 : decode cL_law 478 = .ok (.iadd, 1) := by decide +kernel
theorem dL_law_479 : decode cL_law 479 = .ok (.iaload, 1) := by decide +kernel
theorem dL_law_480 : decode cL_law 480 = .ok (.invokevirtual 94, 3) := by decide +kernel
theorem dL_law_483 : decode cL_law 483 = .ok (.istore 6, 2) := by decide +kernel
theorem dL_law_485 : decode cL_law 485 = .ok (.goto 164, 3) := by decide +kernel
theorem dL_law_488 : decode cL_law 488 = .ok (.aload_n 1, 1) := by decide +kernel
theorem dL_law_489 : decode cL_law 489 = .ok (.invokevirtual 95, 3) := by decide +kernel
theorem dL_law_492 : decode cL_law 492 = .ok (.aload_n 2, 1) := by decide +kernel
theorem dL_law_493 : decode cL_law 493 = .ok (.invokevirtual 99, 3) := by decide +kernel
theorem dL_law_496 : decode cL_law 496 = .ok (.if_icmp .eq 153, 3) := by decide +kernel
theorem dL_law_499 : decode cL_law 499 = .ok (.iconst 0, 1) := by decide +kernel
theorem dL_law_500 : decode cL_law 500 = .ok (.ireturn, 1) := by decide +kernel
theorem dL_law_501 : decode cL_law 501 = .ok (.aload_n 1, 1) := by decide +kernel
theorem dL_law_502 : decode cL_law 502 = .ok (.aload_n 0, 1) := by decide +kernel
theorem dL_law_503 : decode cL_law 503 = .ok (.iload 4, 2) := by decide +kernel
theorem dL_law_505 : decode cL_law 505 = .ok (.iconst 1, 1) := by decide +kernel
theorem dL_law_506 : decode cL_law 506 = .ok (.iadd, 1) := by decide +kernel
theorem dL_law_507 : decode cL_law 507 = .ok (.iaload, 1) := by decide +kernel
theorem dL_law_508 : decode cL_law 508 = .ok (.aload_n 3, 1) := by decide +kernel
theorem dL_law_509 : decode cL_law 509 = .ok (.invokestatic 100, 3) := by decide +kernel
theorem dL_law_512 : decode cL_law 512 = .ok (.istore 5, 2) := by decide +kernel
theorem dL_law_514 : decode cL_law 514 = .ok (.aload_n 2, 1) := by decide +kernel
theorem dL_law_515 : decode cL_law 515 = .ok (.aload_n 0, 1) := by decide +kernel
theorem dL_law_516 : decode cL_law 516 = .ok (.iload 4, 2) := by decide +kernel
theorem dL_law_518 : decode cL_law 518 = .ok (.iconst 1, 1) := by decide +kernel
theorem dL_law_519 : decode cL_law 519 = .ok (.iadd, 1) := by decide +kernel
theorem dL_law_520 : decode cL_law 520 = .ok (.iaload, 1) := by decide +kernel
theorem dL_law_521 : decode cL_law 521 = .ok (.invokevirtual 102, 3) := by decide +kernel
theorem dL_law_524 : decode cL_law 524 = .ok (.istore 6, 2) := by decide +kernel
theorem dL_law_526 : decode cL_law 526 = .ok (.goto 123, 3) := by decide +kernel
theorem dL_law_529 : decode cL_law 529 = .ok (.aload_n 1, 1) := by decide +kernel
theorem dL_law_530 : decode cL_law 530 = .ok (.aload_n 0, 1) := by decide +kernel
theorem dL_law_531 : decode cL_law 531 = .ok (.iload 4, 2) := by decide +kernel
theorem dL_law_533 : decode cL_law 533 = .ok (.iconst 1, 1) := by decide +kernel
theorem dL_law_534 : decode cL_law 534 = .ok (.iadd, 1) := by decide +kernel
theorem dL_law_535 : decode cL_law 535 = .ok (.iaload, 1) := by decide +kernel
theorem dL_law_536 : decode cL_law 536 = .ok (.aload_n 0, 1) := by decide +kernel
theorem dL_law_537 : decode cL_law 537 = .ok (.iload 4, 2) := by decide +kernel
theorem dL_law_539 : decode cL_law 539 = .ok (.iconst 2, 1) := by decide +kernel
theorem dL_law_540 : decode cL_law 540 = .ok (.iadd, 1) := by decide +kernel
theorem dL_law_541 : decode cL_law 541 = .ok (.iaload, 1) := by decide +kernel
theorem dL_law_542 : decode cL_law 542 = .ok (.aload_n 0, 1) := by decide +kernel
theorem dL_law_543 : decode cL_law 543 = .ok (.iload 4, 2) := by decide +kernel
theorem dL_law_545 : decode cL_law 545 = .ok (.iconst 3, 1) := by decide +kernel
theorem dL_law_546 : decode cL_law 546 = .ok (.iadd, 1) := by decide +kernel
theorem dL_law_547 : decode cL_law 547 = .ok (.iaload, 1) := by decide +kernel
theorem dL_law_548 : decode cL_law 548 = .ok (.aload_n 3, 1) := by decide +kernel
theorem dL_law_549 : decode cL_law 549 = .ok (.invokestatic 103, 3) := by decide +kernel
theorem dL_law_552 : decode cL_law 552 = .ok (.istore 5, 2) := by decide +kernel
theorem dL_law_554 : decode cL_law 554 = .ok (.aload_n 2, 1) := by decide +kernel
theorem dL_law_555 : decode cL_law 555 = .ok (.aload_n 0, 1) := by decide +kernel
theorem dL_law_556 : decode cL_law 556 = .ok (.iload 4, 2) := by decide +kernel
theorem dL_law_558 : decode cL_law 558 = .ok (.iconst 1, 1) := by decide +kernel
theorem dL_law_559 : decode cL_law 559 = .ok (.iadd, 1) := by decide +kernel
theorem dL_law_560 : decode cL_law 560 = .ok (.iaload, 1) := by decide +kernel
theorem dL_law_561 : decode cL_law 561 = .ok (.aload_n 0, 1) := by decide +kernel
theorem dL_law_562 : decode cL_law 562 = .ok (.iload 4, 2) := by decide +kernel
theorem dL_law_564 : decode cL_law 564 = .ok (.iconst 2, 1) := by decide +kernel
theorem dL_law_565 : decode cL_law 565 = .ok (.iadd, 1) := by decide +kernel
theorem dL_law_566 : decode cL_law 566 = .ok (.iaload, 1) := by decide +kernel
theorem dL_law_567 : decode cL_law 567 = .ok (.aload_n 0, 1) := by decide +kernel
theorem dL_law_568 : decode cL_law 568 = .ok (.iload 4, 2) := by decide +kernel
theorem dL_law_570 : decode cL_law 570 = .ok (.iconst 3, 1) := by decide +kernel
theorem dL_law_571 : decode cL_law 571 = .ok (.iadd, 1) := by decide +kernel
theorem dL_law_572 : decode cL_law 572 = .ok (.iaload, 1) := by decide +kernel
theorem dL_law_573 : decode cL_law 573 = .ok (.invokevirtual 106, 3) := by decide +kernel
theorem dL_law_576 : decode cL_law 576 = .ok (.istore 6, 2) := by decide +kernel
theorem dL_law_578 : decode cL_law 578 = .ok (.goto 71, 3) := by decide +kernel
theorem dL_law_581 : decode cL_law 581 = .ok (.aload_n 1, 1) := by decide +kernel
theorem dL_law_582 : decode cL_law 582 = .ok (.aload_n 0, 1) := by decide +kernel
theorem dL_law_583 : decode cL_law 583 = .ok (.iload 4, 2) := by decide +kernel
theorem dL_law_585 : decode cL_law 585 = .ok (.iconst 1, 1) := by decide +kernel
theorem dL_law_586 : decode cL_law 586 = .ok (.iadd, 1) := by decide +kernel
theorem dL_law_587 : decode cL_law 587 = .ok (.iaload, 1) := by decide +kernel
theorem dL_law_588 : decode cL_law 588 = .ok (.aload_n 0, 1) := by decide +kernel
theorem dL_law_589 : decode cL_law 589 = .ok (.iload 4, 2) := by decide +kernel
theorem dL_law_591 : decode cL_law 591 = .ok (.iconst 2, 1) := by decide +kernel
theorem dL_law_592 : decode cL_law 592 = .ok (.iadd, 1) := by decide +kernel
theorem dL_law_593 : decode cL_law 593 = .ok (.iaload, 1) := by decide +kernel
theorem dL_law_594 : decode cL_law 594 = .ok (.aload_n 3, 1) := by decide +kernel
theorem dL_law_595 : decode cL_law 595 = .ok (.invokestatic 107, 3) := by decide +kernel
theorem dL_law_598 : decode cL_law 598 = .ok (.istore 5, 2) := by decide +kernel
theorem dL_law_600 : decode cL_law 600 = .ok (.aload_n 2, 1) := by decide +kernel
theorem dL_law_601 : decode cL_law 601 = .ok (.aload_n 0, 1) := by decide +kernel
theorem dL_law_602 : decode cL_law 602 = .ok (.iload 4, 2) := by decide +kernel
theorem dL_law_604 : decode cL_law 604 = .ok (.iconst 1, 1) := by decide +kernel
theorem dL_law_605 : decode cL_law 605 = .ok (.iadd, 1) := by decide +kernel
theorem dL_law_606 : decode cL_law 606 = .ok (.iaload, 1) := by decide +kernel
theorem dL_law_607 : decode cL_law 607 = .ok (.aload_n 0, 1) := by decide +kernel
theorem dL_law_608 : decode cL_law 608 = .ok (.iload 4, 2) := by decide +kernel
theorem dL_law_610 : decode cL_law 610 = .ok (.iconst 2, 1) := by decide +kernel
theorem dL_law_611 : decode cL_law 611 = .ok (.iadd, 1) := by decide +kernel
theorem dL_law_612 : decode cL_law 612 = .ok (.iaload, 1) := by decide +kernel
theorem dL_law_613 : decode cL_law 613 = .ok (.invokevirtual 109, 3) := by decide +kernel
theorem dL_law_616 : decode cL_law 616 = .ok (.istore 6, 2) := by decide +kernel
theorem dL_law_618 : decode cL_law 618 = .ok (.goto 31, 3) := by decide +kernel
theorem dL_law_621 : decode cL_law 621 = .ok (.aload_n 1, 1) := by decide +kernel
theorem dL_law_622 : decode cL_law 622 = .ok (.aload_n 0, 1) := by decide +kernel
theorem dL_law_623 : decode cL_law 623 = .ok (.iload 4, 2) := by decide +kernel
theorem dL_law_625 : decode cL_law 625 = .ok (.iconst 1, 1) := by decide +kernel
theorem dL_law_626 : decode cL_law 626 = .ok (.iadd, 1) := by decide +kernel
theorem dL_law_627 : decode cL_law 627 = .ok (.iaload, 1) := by decide +kernel
theorem dL_law_628 : decode cL_law 628 = .ok (.aload_n 3, 1) := by decide +kernel
theorem dL_law_629 : decode cL_law 629 = .ok (.invokestatic 110, 3) := by decide +kernel
theorem dL_law_632 : decode cL_law 632 = .ok (.istore 5, 2) := by decide +kernel
theorem dL_law_634 : decode cL_law 634 = .ok (.aload_n 2, 1) := by decide +kernel
theorem dL_law_635 : decode cL_law 635 = .ok (.aload_n 0, 1) := by decide +kernel
theorem dL_law_636 : decode cL_law 636 = .ok (.iload 4, 2) := by decide +kernel
theorem dL_law_638 : decode cL_law 638 = .ok (.iconst 1, 1) := by decide +kernel
theorem dL_law_639 : decode cL_law 639 = .ok (.iadd, 1) := by decide +kernel
theorem dL_law_640 : decode cL_law 640 = .ok (.iaload, 1) := by decide +kernel
theorem dL_law_641 : decode cL_law 641 = .ok (.invokevirtual 112, 3) := by decide +kernel
theorem dL_law_644 : decode cL_law 644 = .ok (.istore 6, 2) := by decide +kernel
theorem dL_law_646 : decode cL_law 646 = .ok (.goto 3, 3) := by decide +kernel
theorem dL_law_649 : decode cL_law 649 = .ok (.iinc 4 7, 3) := by decide +kernel
theorem dL_law_652 : decode cL_law 652 = .ok (.goto (-589), 3) := by decide +kernel
theorem dL_law_655 : decode cL_law 655 = .ok (.iconst 1, 1) := by decide +kernel
theorem dL_law_656 : decode cL_law 656 = .ok (.ireturn, 1) := by decide +kernel
