theorem dM_init_0 : decode cM_init 0 = .ok (.aload_n 0, 1) := by decide +kernel
theorem dM_init_1 : decode cM_init 1 = .ok (.invokespecial 1, 3) := by decide +kernel
theorem dM_init_4 : decode cM_init 4 = .ok (.aload_n 0, 1) := by decide +kernel
theorem dM_init_5 : decode cM_init 5 = .ok (.sipush 200, 3) := by decide +kernel
theorem dM_init_8 : decode cM_init 8 = .ok (.newarray .int, 2) := by decide +kernel
theorem dM_init_10 : decode cM_init 10 = .ok (.putfield 7, 3) := by decide +kernel
theorem dM_init_13 : decode cM_init 13 = .ok (.aload_n 0, 1) := by decide +kernel
theorem dM_init_14 : decode cM_init 14 = .ok (.sipush 200, 3) := by decide +kernel
theorem dM_init_17 : decode cM_init 17 = .ok (.newarray .int, 2) := by decide +kernel
theorem dM_init_19 : decode cM_init 19 = .ok (.putfield 13, 3) := by decide +kernel
theorem dM_init_22 : decode cM_init 22 = .ok (.aload_n 0, 1) := by decide +kernel
theorem dM_init_23 : decode cM_init 23 = .ok (.sipush 200, 3) := by decide +kernel
theorem dM_init_26 : decode cM_init 26 = .ok (.newarray .boolean, 2) := by decide +kernel
theorem dM_init_28 : decode cM_init 28 = .ok (.putfield 16, 3) := by decide +kernel
theorem dM_init_31 : decode cM_init 31 = .ok (.aload_n 0, 1) := by decide +kernel
theorem dM_init_32 : decode cM_init 32 = .ok (.sipush 200, 3) := by decide +kernel
theorem dM_init_35 : decode cM_init 35 = .ok (.newarray .int, 2) := by decide +kernel
theorem dM_init_37 : decode cM_init 37 = .ok (.putfield 20, 3) := by decide +kernel
theorem dM_init_40 : decode cM_init 40 = .ok (.aload_n 0, 1) := by decide +kernel
theorem dM_init_41 : decode cM_init 41 = .ok (.sipush 200, 3) := by decide +kernel
theorem dM_init_44 : decode cM_init 44 = .ok (.newarray .int, 2) := by decide +kernel
theorem dM_init_46 : decode cM_init 46 = .ok (.putfield 23, 3) := by decide +kernel
theorem dM_init_49 : decode cM_init 49 = .ok (.aload_n 0, 1) := by decide +kernel
theorem dM_init_50 : decode cM_init 50 = .ok (.sipush 200, 3) := by decide +kernel
theorem dM_init_53 : decode cM_init 53 = .ok (.newarray .int, 2) := by decide +kernel
theorem dM_init_55 : decode cM_init 55 = .ok (.putfield 26, 3) := by decide +kernel
theorem dM_init_58 : decode cM_init 58 = .ok (.aload_n 0, 1) := by decide +kernel
theorem dM_init_59 : decode cM_init 59 = .ok (.sipush 200, 3) := by decide +kernel
theorem dM_init_62 : decode cM_init 62 = .ok (.newarray .int, 2) := by decide +kernel
theorem dM_init_64 : decode cM_init 64 = .ok (.putfield 29, 3) := by decide +kernel
theorem dM_init_67 : decode cM_init 67 = .ok (.aload_n 0, 1) := by decide +kernel
theorem dM_init_68 : decode cM_init 68 = .ok (.sipush 200, 3) := by decide +kernel
theorem dM_init_71 : decode cM_init 71 = .ok (.newarray .boolean, 2) := by decide +kernel
theorem dM_init_73 : decode cM_init 73 = .ok (.putfield 32, 3) := by decide +kernel
theorem dM_init_76 : decode cM_init 76 = .ok (.aload_n 0, 1) := by decide +kernel
theorem dM_init_77 : decode cM_init 77 = .ok (.sipush 10000, 3) := by decide +kernel
theorem dM_init_80 : decode cM_init 80 = .ok (.newarray .int, 2) := by decide +kernel
theorem dM_init_82 : decode cM_init 82 = .ok (.putfield 35, 3) := by decide +kernel
theorem dM_init_85 : decode cM_init 85 = .ok (.return_, 1) := by decide +kernel
theorem dM_thrown_0 : decode cM_thrown 0 = .ok (.aload_n 0, 1) := by decide +kernel
theorem dM_thrown_1 : decode cM_thrown 1 = .ok (.getfield 38, 3) := by decide +kernel
theorem dM_thrown_4 : decode cM_thrown 4 = .ok (.ireturn, 1) := by decide +kernel
theorem dM_pass_0 : decode cM_pass 0 = .ok (.aload_n 0, 1) := by decide +kernel
theorem dM_pass_1 : decode cM_pass 1 = .ok (.iload_n 1, 1) := by decide +kernel
theorem dM_pass_2 : decode cM_pass 2 = .ok (.ifCond .lt 14, 3) := by decide +kernel
theorem dM_pass_5 : decode cM_pass 5 = .ok (.iload_n 1, 1) := by decide +kernel
theorem dM_pass_6 : decode cM_pass 6 = .ok (.ldc 42, 2) := by decide +kernel
theorem dM_pass_8 : decode cM_pass 8 = .ok (.aload_n 0, 1) := by decide +kernel
theorem dM_pass_9 : decode cM_pass 9 = .ok (.getfield 43, 3) := by decide +kernel
theorem dM_pass_12 : decode cM_pass 12 = .ok (.isub, 1) := by decide +kernel
theorem dM_pass_13 : decode cM_pass 13 = .ok (.if_icmp .le 7, 3) := by decide +kernel
theorem dM_pass_16 : decode cM_pass 16 = .ok (.iconst 1, 1) := by decide +kernel
theorem dM_pass_17 : decode cM_pass 17 = .ok (.goto 4, 3) := by decide +kernel
theorem dM_pass_20 : decode cM_pass 20 = .ok (.iconst 0, 1) := by decide +kernel
theorem dM_pass_21 : decode cM_pass 21 = .ok (.putfield 38, 3) := by decide +kernel
theorem dM_pass_24 : decode cM_pass 24 = .ok (.aload_n 0, 1) := by decide +kernel
theorem dM_pass_25 : decode cM_pass 25 = .ok (.getfield 38, 3) := by decide +kernel
theorem dM_pass_28 : decode cM_pass 28 = .ok (.ifCond .ne 13, 3) := by decide +kernel
theorem dM_pass_31 : decode cM_pass 31 = .ok (.aload_n 0, 1) := by decide +kernel
theorem dM_pass_32 : decode cM_pass 32 = .ok (.dup, 1) := by decide +kernel
theorem dM_pass_33 : decode cM_pass 33 = .ok (.getfield 43, 3) := by decide +kernel
theorem dM_pass_36 : decode cM_pass 36 = .ok (.iload_n 1, 1) := by decide +kernel
theorem dM_pass_37 : decode cM_pass 37 = .ok (.iadd, 1) := by decide +kernel
theorem dM_pass_38 : decode cM_pass 38 = .ok (.putfield 43, 3) := by decide +kernel
theorem dM_pass_41 : decode cM_pass 41 = .ok (.aload_n 0, 1) := by decide +kernel
theorem dM_pass_42 : decode cM_pass 42 = .ok (.getfield 38, 3) := by decide +kernel
theorem dM_pass_45 : decode cM_pass 45 = .ok (.ifCond .ne 10, 3) := by decide +kernel
theorem dM_pass_48 : decode cM_pass 48 = .ok (.aload_n 0, 1) := by decide +kernel
theorem dM_pass_49 : decode cM_pass 49 = .ok (.getfield 43, 3) := by decide +kernel
theorem dM_pass_52 : decode cM_pass 52 = .ok (.goto 4, 3) := by decide +kernel
theorem dM_pass_55 : decode cM_pass 55 = .ok (.iconst 0, 1) := by decide +kernel
theorem dM_pass_56 : decode cM_pass 56 = .ok (.ireturn, 1) := by decide +kernel
theorem dM_begin_0 : decode cM_begin 0 = .ok (.aload_n 0, 1) := by decide +kernel
theorem dM_begin_1 : decode cM_begin 1 = .ok (.iconst 0, 1) := by decide +kernel
theorem dM_begin_2 : decode cM_begin 2 = .ok (.putfield 38, 3) := by decide +kernel
theorem dM_begin_5 : decode cM_begin 5 = .ok (.iload_n 1, 1) := by decide +kernel
theorem dM_begin_6 : decode cM_begin 6 = .ok (.ifCond .lt 28, 3) := by decide +kernel
theorem dM_begin_9 : decode cM_begin 9 = .ok (.iload_n 1, 1) := by decide +kernel
theorem dM_begin_10 : decode cM_begin 10 = .ok (.bipush 8, 2) := by decide +kernel
theorem dM_begin_12 : decode cM_begin 12 = .ok (.if_icmp .ge 22, 3) := by decide +kernel
theorem dM_begin_15 : decode cM_begin 15 = .ok (.iload_n 2, 1) := by decide +kernel
theorem dM_begin_16 : decode cM_begin 16 = .ok (.ifCond .lt 18, 3) := by decide +kernel
theorem dM_begin_19 : decode cM_begin 19 = .ok (.iload_n 2, 1) := by decide +kernel
theorem dM_begin_20 : decode cM_begin 20 = .ok (.iconst 2, 1) := by decide +kernel
theorem dM_begin_21 : decode cM_begin 21 = .ok (.if_icmp .gt 13, 3) := by decide +kernel
theorem dM_begin_24 : decode cM_begin 24 = .ok (.aload_n 0, 1) := by decide +kernel
theorem dM_begin_25 : decode cM_begin 25 = .ok (.getfield 46, 3) := by decide +kernel
theorem dM_begin_28 : decode cM_begin 28 = .ok (.sipush 200, 3) := by decide +kernel
theorem dM_begin_31 : decode cM_begin 31 = .ok (.if_icmp .ne 5, 3) := by decide +kernel
theorem dM_begin_34 : decode cM_begin 34 = .ok (.iconst (-1), 1) := by decide +kernel
theorem dM_begin_35 : decode cM_begin 35 = .ok (.ireturn, 1) := by decide +kernel
theorem dM_begin_36 : decode cM_begin 36 = .ok (.iconst 0, 1) := by decide +kernel
theorem dM_begin_37 : decode cM_begin 37 = .ok (.istore_n 3, 1) := by decide +kernel
theorem dM_begin_38 : decode cM_begin 38 = .ok (.iload_n 3, 1) := by decide +kernel
theorem dM_begin_39 : decode cM_begin 39 = .ok (.aload_n 0, 1) := by decide +kernel
theorem dM_begin_40 : decode cM_begin 40 = .ok (.getfield 46, 3) := by decide +kernel
theorem dM_begin_43 : decode cM_begin 43 = .ok (.if_icmp .ge 30, 3) := by decide +kernel
theorem dM_begin_46 : decode cM_begin 46 = .ok (.aload_n 0, 1) := by decide +kernel
theorem dM_begin_47 : decode cM_begin 47 = .ok (.getfield 7, 3) := by decide +kernel
theorem dM_begin_50 : decode cM_begin 50 = .ok (.iload_n 3, 1) := by decide +kernel
theorem dM_begin_51 : decode cM_begin 51 = .ok (.iaload, 1) := by decide +kernel
theorem dM_begin_52 : decode cM_begin 52 = .ok (.iload_n 1, 1) := by decide +kernel
theorem dM_begin_53 : decode cM_begin 53 = .ok (.if_icmp .ne 14, 3) := by decide +kernel
theorem dM_begin_56 : decode cM_begin 56 = .ok (.aload_n 0, 1) := by decide +kernel
theorem dM_begin_57 : decode cM_begin 57 = .ok (.getfield 29, 3) := by decide +kernel
theorem dM_begin_60 : decode cM_begin 60 = .ok (.iload_n 3, 1) := by decide +kernel
theorem dM_begin_61 : decode cM_begin 61 = .ok (.iaload, 1) := by decide +kernel
theorem dM_begin_62 : decode cM_begin 62 = .ok (.ifCond .ne 5, 3) := by decide +kernel
theorem dM_begin_65 : decode cM_begin 65 = .ok (.iconst (-1), 1) := by decide +kernel
theorem dM_begin_66 : decode cM_begin 66 = .ok (.ireturn, 1) := by decide +kernel
theorem dM_begin_67 : decode cM_begin 67 = .ok (.iinc 3 1, 3) := by decide +kernel
theorem dM_begin_70 : decode cM_begin 70 = .ok (.goto (-32), 3) := by decide +kernel
theorem dM_begin_73 : decode cM_begin 73 = .ok (.iload_n 2, 1) := by decide +kernel
theorem dM_begin_74 : decode cM_begin 74 = .ok (.ifCond .ne 7, 3) := by decide +kernel
theorem dM_begin_77 : decode cM_begin 77 = .ok (.iconst (-1), 1) := by decide +kernel
theorem dM_begin_78 : decode cM_begin 78 = .ok (.goto 18, 3) := by decide +kernel
theorem dM_begin_81 : decode cM_begin 81 = .ok (.aload_n 0, 1) := by decide +kernel
theorem dM_begin_82 : decode cM_begin 82 = .ok (.iload_n 1, 1) := by decide +kernel
theorem dM_begin_83 : decode cM_begin 83 = .ok (.iload_n 2, 1) := by decide +kernel
theorem dM_begin_84 : decode cM_begin 84 = .ok (.iconst 1, 1) := by decide +kernel
theorem dM_begin_85 : decode cM_begin 85 = .ok (.if_icmp .ne 7, 3) := by decide +kernel
theorem dM_begin_88 : decode cM_begin 88 = .ok (.iconst 0, 1) := by decide +kernel
theorem dM_begin_89 : decode cM_begin 89 = .ok (.goto 4, 3) := by decide +kernel
theorem dM_begin_92 : decode cM_begin 92 = .ok (.iconst (-1), 1) := by decide +kernel
theorem dM_begin_93 : decode cM_begin 93 = .ok (.invokevirtual 49, 3) := by decide +kernel
theorem dM_begin_96 : decode cM_begin 96 = .ok (.istore_n 3, 1) := by decide +kernel
theorem dM_begin_97 : decode cM_begin 97 = .ok (.aload_n 0, 1) := by decide +kernel
theorem dM_begin_98 : decode cM_begin 98 = .ok (.getfield 7, 3) := by decide +kernel
theorem dM_begin_101 : decode cM_begin 101 = .ok (.aload_n 0, 1) := by decide +kernel
theorem dM_begin_102 : decode cM_begin 102 = .ok (.getfield 46, 3) := by decide +kernel
theorem dM_begin_105 : decode cM_begin 105 = .ok (.iload_n 1, 1) := by decide +kernel
theorem dM_begin_106 : decode cM_begin 106 = .ok (.iastore, 1) := by decide +kernel
theorem dM_begin_107 : decode cM_begin 107 = .ok (.aload_n 0, 1) := by decide +kernel
theorem dM_begin_108 : decode cM_begin 108 = .ok (.getfield 16, 3) := by decide +kernel
theorem dM_begin_111 : decode cM_begin 111 = .ok (.aload_n 0, 1) := by decide +kernel
theorem dM_begin_112 : decode cM_begin 112 = .ok (.getfield 46, 3) := by decide +kernel
theorem dM_begin_115 : decode cM_begin 115 = .ok (.iload_n 2, 1) := by decide +kernel
theorem dM_begin_116 : decode cM_begin 116 = .ok (.ifCond .le 11, 3) := by decide +kernel
theorem dM_begin_119 : decode cM_begin 119 = .ok (.iload_n 3, 1) := by decide +kernel
theorem dM_begin_120 : decode cM_begin 120 = .ok (.ifCond .ge 7, 3) := by decide +kernel
theorem dM_begin_123 : decode cM_begin 123 = .ok (.iconst 1, 1) := by decide +kernel
theorem dM_begin_124 : decode cM_begin 124 = .ok (.goto 4, 3) := by decide +kernel
theorem dM_begin_127 : decode cM_begin 127 = .ok (.iconst 0, 1) := by decide +kernel
theorem dM_begin_128 : decode cM_begin 128 = .ok (.bastore, 1) := by decide +kernel
theorem dM_begin_129 : decode cM_begin 129 = .ok (.aload_n 0, 1) := by decide +kernel
theorem dM_begin_130 : decode cM_begin 130 = .ok (.getfield 13, 3) := by decide +kernel
theorem dM_begin_133 : decode cM_begin 133 = .ok (.aload_n 0, 1) := by decide +kernel
theorem dM_begin_134 : decode cM_begin 134 = .ok (.getfield 46, 3) := by decide +kernel
theorem dM_begin_137 : decode cM_begin 137 = .ok (.iload_n 3, 1) := by decide +kernel
theorem dM_begin_138 : decode cM_begin 138 = .ok (.ifCond .ge 7, 3) := by decide +kernel
theorem dM_begin_141 : decode cM_begin 141 = .ok (.iconst 0, 1) := by decide +kernel
theorem dM_begin_142 : decode cM_begin 142 = .ok (.goto 4, 3) := by decide +kernel
theorem dM_begin_145 : decode cM_begin 145 = .ok (.iload_n 2, 1) := by decide +kernel
theorem dM_begin_146 : decode cM_begin 146 = .ok (.iastore, 1) := by decide +kernel
theorem dM_begin_147 : decode cM_begin 147 = .ok (.aload_n 0, 1) := by decide +kernel
theorem dM_begin_148 : decode cM_begin 148 = .ok (.getfield 20, 3) := by decide +kernel
theorem dM_begin_151 : decode cM_begin 151 = .ok (.aload_n 0, 1) := by decide +kernel
theorem dM_begin_152 : decode cM_begin 152 = .ok (.getfield 46, 3) := by decide +kernel
theorem dM_begin_155 : decode cM_begin 155 = .ok (.iload_n 3, 1) := by decide +kernel
theorem dM_begin_156 : decode cM_begin 156 = .ok (.iastore, 1) := by decide +kernel
theorem dM_begin_157 : decode cM_begin 157 = .ok (.aload_n 0, 1) := by decide +kernel
theorem dM_begin_158 : decode cM_begin 158 = .ok (.getfield 23, 3) := by decide +kernel
theorem dM_begin_161 : decode cM_begin 161 = .ok (.aload_n 0, 1) := by decide +kernel
theorem dM_begin_162 : decode cM_begin 162 = .ok (.getfield 46, 3) := by decide +kernel
theorem dM_begin_165 : decode cM_begin 165 = .ok (.aload_n 0, 1) := by decide +kernel
theorem dM_begin_166 : decode cM_begin 166 = .ok (.getfield 43, 3) := by decide +kernel
theorem dM_begin_169 : decode cM_begin 169 = .ok (.iastore, 1) := by decide +kernel
theorem dM_begin_170 : decode cM_begin 170 = .ok (.aload_n 0, 1) := by decide +kernel
theorem dM_begin_171 : decode cM_begin 171 = .ok (.getfield 26, 3) := by decide +kernel
theorem dM_begin_174 : decode cM_begin 174 = .ok (.aload_n 0, 1) := by decide +kernel
theorem dM_begin_175 : decode cM_begin 175 = .ok (.getfield 46, 3) := by decide +kernel
theorem dM_begin_178 : decode cM_begin 178 = .ok (.iconst (-1), 1) := by decide +kernel
theorem dM_begin_179 : decode cM_begin 179 = .ok (.iastore, 1) := by decide +kernel
theorem dM_begin_180 : decode cM_begin 180 = .ok (.aload_n 0, 1) := by decide +kernel
theorem dM_begin_181 : decode cM_begin 181 = .ok (.getfield 29, 3) := by decide +kernel
theorem dM_begin_184 : decode cM_begin 184 = .ok (.aload_n 0, 1) := by decide +kernel
theorem dM_begin_185 : decode cM_begin 185 = .ok (.getfield 46, 3) := by decide +kernel
theorem dM_begin_188 : decode cM_begin 188 = .ok (.iconst 0, 1) := by decide +kernel
theorem dM_begin_189 : decode cM_begin 189 = .ok (.iastore, 1) := by decide +kernel
theorem dM_begin_190 : decode cM_begin 190 = .ok (.aload_n 0, 1) := by decide +kernel
theorem dM_begin_191 : decode cM_begin 191 = .ok (.getfield 32, 3) := by decide +kernel
theorem dM_begin_194 : decode cM_begin 194 = .ok (.aload_n 0, 1) := by decide +kernel
theorem dM_begin_195 : decode cM_begin 195 = .ok (.getfield 46, 3) := by decide +kernel
theorem dM_begin_198 : decode cM_begin 198 = .ok (.iconst 0, 1) := by decide +kernel
theorem dM_begin_199 : decode cM_begin 199 = .ok (.bastore, 1) := by decide +kernel
theorem dM_begin_200 : decode cM_begin 200 = .ok (.iconst 0, 1) := by decide +kernel
theorem dM_begin_201 : decode cM_begin 201 = .ok (.istore 4, 2) := by decide +kernel
theorem dM_begin_203 : decode cM_begin 203 = .ok (.iload 4, 2) := by decide +kernel
theorem dM_begin_205 : decode cM_begin 205 = .ok (.bipush 50, 2) := by decide +kernel
theorem dM_begin_207 : decode cM_begin 207 = .ok (.if_icmp .ge 26, 3) := by decide +kernel
theorem dM_begin_210 : decode cM_begin 210 = .ok (.aload_n 0, 1) := by decide +kernel
theorem dM_begin_211 : decode cM_begin 211 = .ok (.getfield 35, 3) := by decide +kernel
theorem dM_begin_214 : decode cM_begin 214 = .ok (.bipush 50, 2) := by decide +kernel
theorem dM_begin_216 : decode cM_begin 216 = .ok (.aload_n 0, 1) := by decide +kernel
theorem dM_begin_217 : decode cM_begin 217 = .ok (.getfield 46, 3) := by decide +kernel
theorem dM_begin_220 : decode cM_begin 220 = .ok (.imul, 1) := by decide +kernel
theorem dM_begin_221 : decode cM_begin 221 = .ok (.iload 4, 2) := by decide +kernel
theorem dM_begin_223 : decode cM_begin 223 = .ok (.iadd, 1) := by decide +kernel
theorem dM_begin_224 : decode cM_begin 224 = .ok (.bipush (-2), 2) := by decide +kernel
theorem dM_begin_226 : decode cM_begin 226 = .ok (.iastore, 1) := by decide +kernel
theorem dM_begin_227 : decode cM_begin 227 = .ok (.iinc 4 1, 3) := by decide +kernel
theorem dM_begin_230 : decode cM_begin 230 = .ok (.goto (-27), 3) := by decide +kernel
theorem dM_begin_233 : decode cM_begin 233 = .ok (.aload_n 0, 1) := by decide +kernel
theorem dM_begin_234 : decode cM_begin 234 = .ok (.dup, 1) := by decide +kernel
theorem dM_begin_235 : decode cM_begin 235 = .ok (.getfield 46, 3) := by decide +kernel
theorem dM_begin_238 : decode cM_begin 238 = .ok (.iconst 1, 1) := by decide +kernel
theorem dM_begin_239 : decode cM_begin 239 = .ok (.iadd, 1) := by decide +kernel
theorem dM_begin_240 : decode cM_begin 240 = .ok (.putfield 46, 3) := by decide +kernel
theorem dM_begin_243 : decode cM_begin 243 = .ok (.aload_n 0, 1) := by decide +kernel
theorem dM_begin_244 : decode cM_begin 244 = .ok (.getfield 46, 3) := by decide +kernel
theorem dM_begin_247 : decode cM_begin 247 = .ok (.iconst 1, 1) := by decide +kernel
theorem dM_begin_248 : decode cM_begin 248 = .ok (.isub, 1) := by decide +kernel
theorem dM_begin_249 : decode cM_begin 249 = .ok (.ireturn, 1) := by decide +kernel
theorem dM_lastOne_0 : decode cM_lastOne 0 = .ok (.iconst (-1), 1) := by decide +kernel
theorem dM_lastOne_1 : decode cM_lastOne 1 = .ok (.istore_n 3, 1) := by decide +kernel
theorem dM_lastOne_2 : decode cM_lastOne 2 = .ok (.iconst 0, 1) := by decide +kernel
theorem dM_lastOne_3 : decode cM_lastOne 3 = .ok (.istore 4, 2) := by decide +kernel
theorem dM_lastOne_5 : decode cM_lastOne 5 = .ok (.iload 4, 2) := by decide +kernel
theorem dM_lastOne_7 : decode cM_lastOne 7 = .ok (.aload_n 0, 1) := by decide +kernel
theorem dM_lastOne_8 : decode cM_lastOne 8 = .ok (.getfield 46, 3) := by decide +kernel
theorem dM_lastOne_11 : decode cM_lastOne 11 = .ok (.if_icmp .ge 82, 3) := by decide +kernel
theorem dM_lastOne_14 : decode cM_lastOne 14 = .ok (.aload_n 0, 1) := by decide +kernel
theorem dM_lastOne_15 : decode cM_lastOne 15 = .ok (.getfield 7, 3) := by decide +kernel
theorem dM_lastOne_18 : decode cM_lastOne 18 = .ok (.iload 4, 2) := by decide +kernel
theorem dM_lastOne_20 : decode cM_lastOne 20 = .ok (.iaload, 1) := by decide +kernel
theorem dM_lastOne_21 : decode cM_lastOne 21 = .ok (.iload_n 1, 1) := by decide +kernel
theorem dM_lastOne_22 : decode cM_lastOne 22 = .ok (.if_icmp .ne 65, 3) := by decide +kernel
theorem dM_lastOne_25 : decode cM_lastOne 25 = .ok (.aload_n 0, 1) := by decide +kernel
theorem dM_lastOne_26 : decode cM_lastOne 26 = .ok (.getfield 29, 3) := by decide +kernel
theorem dM_lastOne_29 : decode cM_lastOne 29 = .ok (.iload 4, 2) := by decide +kernel
theorem dM_lastOne_31 : decode cM_lastOne 31 = .ok (.iaload, 1) := by decide +kernel
theorem dM_lastOne_32 : decode cM_lastOne 32 = .ok (.iconst 1, 1) := by decide +kernel
theorem dM_lastOne_33 : decode cM_lastOne 33 = .ok (.if_icmp .ne 54, 3) := by decide +kernel
theorem dM_lastOne_36 : decode cM_lastOne 36 = .ok (.aload_n 0, 1) := by decide +kernel
theorem dM_lastOne_37 : decode cM_lastOne 37 = .ok (.getfield 32, 3) := by decide +kernel
theorem dM_lastOne_40 : decode cM_lastOne 40 = .ok (.iload 4, 2) := by decide +kernel
theorem dM_lastOne_42 : decode cM_lastOne 42 = .ok (.baload, 1) := by decide +kernel
theorem dM_lastOne_43 : decode cM_lastOne 43 = .ok (.ifCond .ne 44, 3) := by decide +kernel
theorem dM_lastOne_46 : decode cM_lastOne 46 = .ok (.iload_n 2, 1) := by decide +kernel
theorem dM_lastOne_47 : decode cM_lastOne 47 = .ok (.ifCond .lt 17, 3) := by decide +kernel
theorem dM_lastOne_50 : decode cM_lastOne 50 = .ok (.aload_n 0, 1) := by decide +kernel
theorem dM_lastOne_51 : decode cM_lastOne 51 = .ok (.getfield 13, 3) := by decide +kernel
theorem dM_lastOne_54 : decode cM_lastOne 54 = .ok (.iload 4, 2) := by decide +kernel
theorem dM_lastOne_56 : decode cM_lastOne 56 = .ok (.iaload, 1) := by decide +kernel
theorem dM_lastOne_57 : decode cM_lastOne 57 = .ok (.iload_n 2, 1) := by decide +kernel
theorem dM_lastOne_58 : decode cM_lastOne 58 = .ok (.if_icmp .eq 6, 3) := by decide +kernel
theorem dM_lastOne_61 : decode cM_lastOne 61 = .ok (.goto 26, 3) := by decide +kernel
theorem dM_lastOne_64 : decode cM_lastOne 64 = .ok (.iload_n 3, 1) := by decide +kernel
theorem dM_lastOne_65 : decode cM_lastOne 65 = .ok (.ifCond .lt 19, 3) := by decide +kernel
theorem dM_lastOne_68 : decode cM_lastOne 68 = .ok (.aload_n 0, 1) := by decide +kernel
theorem dM_lastOne_69 : decode cM_lastOne 69 = .ok (.getfield 23, 3) := by decide +kernel
theorem dM_lastOne_72 : decode cM_lastOne 72 = .ok (.iload 4, 2) := by decide +kernel
theorem dM_lastOne_74 : decode cM_lastOne 74 = .ok (.iaload, 1) := by decide +kernel
theorem dM_lastOne_75 : decode cM_lastOne 75 = .ok (.aload_n 0, 1) := by decide +kernel
theorem dM_lastOne_76 : decode cM_lastOne 76 = .ok (.getfield 23, 3) := by decide +kernel
theorem dM_lastOne_79 : decode cM_lastOne 79 = .ok (.iload_n 3, 1) := by decide +kernel
theorem dM_lastOne_80 : decode cM_lastOne 80 = .ok (.iaload, 1) := by decide +kernel
theorem dM_lastOne_81 : decode cM_lastOne 81 = .ok (.if_icmp .lt 6, 3) := by decide +kernel
theorem dM_lastOne_84 : decode cM_lastOne 84 = .ok (.iload 4, 2) := by decide +kernel
theorem dM_lastOne_86 : decode cM_lastOne 86 = .ok (.istore_n 3, 1) := by decide +kernel
theorem dM_lastOne_87 : decode cM_lastOne 87 = .ok (.iinc 4 1, 3) := by decide +kernel
theorem dM_lastOne_90 : decode cM_lastOne 90 = .ok (.goto (-85), 3) := by decide +kernel
theorem dM_lastOne_93 : decode cM_lastOne 93 = .ok (.iload_n 3, 1) := by decide +kernel
theorem dM_lastOne_94 : decode cM_lastOne 94 = .ok (.ireturn, 1) := by decide +kernel
theorem dM_tell_0 : decode cM_tell 0 = .ok (.aload_n 0, 1) := by decide +kernel
theorem dM_tell_1 : decode cM_tell 1 = .ok (.iconst 0, 1) := by decide +kernel
theorem dM_tell_2 : decode cM_tell 2 = .ok (.putfield 38, 3) := by decide +kernel
theorem dM_tell_5 : decode cM_tell 5 = .ok (.aload_n 0, 1) := by decide +kernel
theorem dM_tell_6 : decode cM_tell 6 = .ok (.iload_n 1, 1) := by decide +kernel
theorem dM_tell_7 : decode cM_tell 7 = .ok (.invokevirtual 53, 3) := by decide +kernel
theorem dM_tell_10 : decode cM_tell 10 = .ok (.ifCond .eq 46, 3) := by decide +kernel
theorem dM_tell_13 : decode cM_tell 13 = .ok (.aload_n 0, 1) := by decide +kernel
theorem dM_tell_14 : decode cM_tell 14 = .ok (.getfield 29, 3) := by decide +kernel
theorem dM_tell_17 : decode cM_tell 17 = .ok (.iload_n 1, 1) := by decide +kernel
theorem dM_tell_18 : decode cM_tell 18 = .ok (.iaload, 1) := by decide +kernel
theorem dM_tell_19 : decode cM_tell 19 = .ok (.ifCond .ne 37, 3) := by decide +kernel
theorem dM_tell_22 : decode cM_tell 22 = .ok (.iload_n 2, 1) := by decide +kernel
theorem dM_tell_23 : decode cM_tell 23 = .ok (.ifCond .lt 33, 3) := by decide +kernel
theorem dM_tell_26 : decode cM_tell 26 = .ok (.iload_n 2, 1) := by decide +kernel
theorem dM_tell_27 : decode cM_tell 27 = .ok (.bipush 50, 2) := by decide +kernel
theorem dM_tell_29 : decode cM_tell 29 = .ok (.if_icmp .ge 27, 3) := by decide +kernel
theorem dM_tell_32 : decode cM_tell 32 = .ok (.iload_n 3, 1) := by decide +kernel
theorem dM_tell_33 : decode cM_tell 33 = .ok (.iconst (-1), 1) := by decide +kernel
theorem dM_tell_34 : decode cM_tell 34 = .ok (.if_icmp .lt 22, 3) := by decide +kernel
theorem dM_tell_37 : decode cM_tell 37 = .ok (.iload_n 3, 1) := by decide +kernel
theorem dM_tell_38 : decode cM_tell 38 = .ok (.ldc 57, 2) := by decide +kernel
theorem dM_tell_40 : decode cM_tell 40 = .ok (.if_icmp .gt 16, 3) := by decide +kernel
theorem dM_tell_43 : decode cM_tell 43 = .ok (.iload_n 3, 1) := by decide +kernel
theorem dM_tell_44 : decode cM_tell 44 = .ok (.ifCond .ge 14, 3) := by decide +kernel
theorem dM_tell_47 : decode cM_tell 47 = .ok (.aload_n 0, 1) := by decide +kernel
theorem dM_tell_48 : decode cM_tell 48 = .ok (.getfield 13, 3) := by decide +kernel
theorem dM_tell_51 : decode cM_tell 51 = .ok (.iload_n 1, 1) := by decide +kernel
theorem dM_tell_52 : decode cM_tell 52 = .ok (.iaload, 1) := by decide +kernel
theorem dM_tell_53 : decode cM_tell 53 = .ok (.ifCond .ne 5, 3) := by decide +kernel
theorem dM_tell_56 : decode cM_tell 56 = .ok (.iconst 0, 1) := by decide +kernel
theorem dM_tell_57 : decode cM_tell 57 = .ok (.ireturn, 1) := by decide +kernel
theorem dM_tell_58 : decode cM_tell 58 = .ok (.aload_n 0, 1) := by decide +kernel
theorem dM_tell_59 : decode cM_tell 59 = .ok (.getfield 35, 3) := by decide +kernel
theorem dM_tell_62 : decode cM_tell 62 = .ok (.bipush 50, 2) := by decide +kernel
theorem dM_tell_64 : decode cM_tell 64 = .ok (.iload_n 1, 1) := by decide +kernel
theorem dM_tell_65 : decode cM_tell 65 = .ok (.imul, 1) := by decide +kernel
theorem dM_tell_66 : decode cM_tell 66 = .ok (.iload_n 2, 1) := by decide +kernel
theorem dM_tell_67 : decode cM_tell 67 = .ok (.iadd, 1) := by decide +kernel
theorem dM_tell_68 : decode cM_tell 68 = .ok (.iload_n 3, 1) := by decide +kernel
theorem dM_tell_69 : decode cM_tell 69 = .ok (.iastore, 1) := by decide +kernel
theorem dM_tell_70 : decode cM_tell 70 = .ok (.iconst 1, 1) := by decide +kernel
theorem dM_tell_71 : decode cM_tell 71 = .ok (.ireturn, 1) := by decide +kernel
theorem dM_isJob_0 : decode cM_isJob 0 = .ok (.iload_n 1, 1) := by decide +kernel
theorem dM_isJob_1 : decode cM_isJob 1 = .ok (.ifCond .lt 15, 3) := by decide +kernel
theorem dM_isJob_4 : decode cM_isJob 4 = .ok (.iload_n 1, 1) := by decide +kernel
theorem dM_isJob_5 : decode cM_isJob 5 = .ok (.aload_n 0, 1) := by decide +kernel
theorem dM_isJob_6 : decode cM_isJob 6 = .ok (.getfield 46, 3) := by decide +kernel
theorem dM_isJob_9 : decode cM_isJob 9 = .ok (.if_icmp .ge 7, 3) := by decide +kernel
theorem dM_isJob_12 : decode cM_isJob 12 = .ok (.iconst 1, 1) := by decide +kernel
theorem dM_isJob_13 : decode cM_isJob 13 = .ok (.goto 4, 3) := by decide +kernel
theorem dM_isJob_16 : decode cM_isJob 16 = .ok (.iconst 0, 1) := by decide +kernel
theorem dM_isJob_17 : decode cM_isJob 17 = .ok (.ireturn, 1) := by decide +kernel
theorem dM_end_0 : decode cM_end 0 = .ok (.aload_n 0, 1) := by decide +kernel
theorem dM_end_1 : decode cM_end 1 = .ok (.iconst 0, 1) := by decide +kernel
theorem dM_end_2 : decode cM_end 2 = .ok (.putfield 38, 3) := by decide +kernel
theorem dM_end_5 : decode cM_end 5 = .ok (.aload_n 0, 1) := by decide +kernel
theorem dM_end_6 : decode cM_end 6 = .ok (.iload_n 1, 1) := by decide +kernel
theorem dM_end_7 : decode cM_end 7 = .ok (.invokevirtual 53, 3) := by decide +kernel
theorem dM_end_10 : decode cM_end 10 = .ok (.ifCond .eq 12, 3) := by decide +kernel
theorem dM_end_13 : decode cM_end 13 = .ok (.aload_n 0, 1) := by decide +kernel
theorem dM_end_14 : decode cM_end 14 = .ok (.getfield 29, 3) := by decide +kernel
theorem dM_end_17 : decode cM_end 17 = .ok (.iload_n 1, 1) := by decide +kernel
theorem dM_end_18 : decode cM_end 18 = .ok (.iaload, 1) := by decide +kernel
theorem dM_end_19 : decode cM_end 19 = .ok (.ifCond .eq 5, 3) := by decide +kernel
theorem dM_end_22 : decode cM_end 22 = .ok (.iconst 0, 1) := by decide +kernel
theorem dM_end_23 : decode cM_end 23 = .ok (.ireturn, 1) := by decide +kernel
theorem dM_end_24 : decode cM_end 24 = .ok (.aload_n 0, 1) := by decide +kernel
theorem dM_end_25 : decode cM_end 25 = .ok (.getfield 29, 3) := by decide +kernel
theorem dM_end_28 : decode cM_end 28 = .ok (.iload_n 1, 1) := by decide +kernel
theorem dM_end_29 : decode cM_end 29 = .ok (.iload_n 2, 1) := by decide +kernel
theorem dM_end_30 : decode cM_end 30 = .ok (.ifCond .eq 7, 3) := by decide +kernel
theorem dM_end_33 : decode cM_end 33 = .ok (.iconst 1, 1) := by decide +kernel
theorem dM_end_34 : decode cM_end 34 = .ok (.goto 4, 3) := by decide +kernel
theorem dM_end_37 : decode cM_end 37 = .ok (.iconst 2, 1) := by decide +kernel
theorem dM_end_38 : decode cM_end 38 = .ok (.iastore, 1) := by decide +kernel
theorem dM_end_39 : decode cM_end 39 = .ok (.aload_n 0, 1) := by decide +kernel
theorem dM_end_40 : decode cM_end 40 = .ok (.getfield 26, 3) := by decide +kernel
theorem dM_end_43 : decode cM_end 43 = .ok (.iload_n 1, 1) := by decide +kernel
theorem dM_end_44 : decode cM_end 44 = .ok (.aload_n 0, 1) := by decide +kernel
theorem dM_end_45 : decode cM_end 45 = .ok (.getfield 43, 3) := by decide +kernel
theorem dM_end_48 : decode cM_end 48 = .ok (.iastore, 1) := by decide +kernel
theorem dM_end_49 : decode cM_end 49 = .ok (.iconst 1, 1) := by decide +kernel
theorem dM_end_50 : decode cM_end 50 = .ok (.ireturn, 1) := by decide +kernel
theorem dM_chain_0 : decode cM_chain 0 = .ok (.aload_n 0, 1) := by decide +kernel
theorem dM_chain_1 : decode cM_chain 1 = .ok (.iconst 0, 1) := by decide +kernel
theorem dM_chain_2 : decode cM_chain 2 = .ok (.putfield 38, 3) := by decide +kernel
theorem dM_chain_5 : decode cM_chain 5 = .ok (.iconst 0, 1) := by decide +kernel
theorem dM_chain_6 : decode cM_chain 6 = .ok (.istore_n 3, 1) := by decide +kernel
theorem dM_chain_7 : decode cM_chain 7 = .ok (.aload_n 0, 1) := by decide +kernel
theorem dM_chain_8 : decode cM_chain 8 = .ok (.iload_n 1, 1) := by decide +kernel
theorem dM_chain_9 : decode cM_chain 9 = .ok (.iload_n 2, 1) := by decide +kernel
theorem dM_chain_10 : decode cM_chain 10 = .ok (.invokevirtual 58, 3) := by decide +kernel
theorem dM_chain_13 : decode cM_chain 13 = .ok (.istore 4, 2) := by decide +kernel
theorem dM_chain_15 : decode cM_chain 15 = .ok (.iload 4, 2) := by decide +kernel
theorem dM_chain_17 : decode cM_chain 17 = .ok (.ifCond .lt 18, 3) := by decide +kernel
theorem dM_chain_20 : decode cM_chain 20 = .ok (.iinc 3 1, 3) := by decide +kernel
theorem dM_chain_23 : decode cM_chain 23 = .ok (.aload_n 0, 1) := by decide +kernel
theorem dM_chain_24 : decode cM_chain 24 = .ok (.getfield 20, 3) := by decide +kernel
theorem dM_chain_27 : decode cM_chain 27 = .ok (.iload 4, 2) := by decide +kernel
theorem dM_chain_29 : decode cM_chain 29 = .ok (.iaload, 1) := by decide +kernel
theorem dM_chain_30 : decode cM_chain 30 = .ok (.istore 4, 2) := by decide +kernel
theorem dM_chain_32 : decode cM_chain 32 = .ok (.goto (-17), 3) := by decide +kernel
theorem dM_chain_35 : decode cM_chain 35 = .ok (.iload_n 3, 1) := by decide +kernel
theorem dM_chain_36 : decode cM_chain 36 = .ok (.ireturn, 1) := by decide +kernel
theorem dM_head_0 : decode cM_head 0 = .ok (.iconst (-1), 1) := by decide +kernel
theorem dM_head_1 : decode cM_head 1 = .ok (.istore_n 3, 1) := by decide +kernel
theorem dM_head_2 : decode cM_head 2 = .ok (.iconst 0, 1) := by decide +kernel
theorem dM_head_3 : decode cM_head 3 = .ok (.istore 4, 2) := by decide +kernel
theorem dM_head_5 : decode cM_head 5 = .ok (.iload 4, 2) := by decide +kernel
theorem dM_head_7 : decode cM_head 7 = .ok (.aload_n 0, 1) := by decide +kernel
theorem dM_head_8 : decode cM_head 8 = .ok (.getfield 46, 3) := by decide +kernel
theorem dM_head_11 : decode cM_head 11 = .ok (.if_icmp .ge 78, 3) := by decide +kernel
theorem dM_head_14 : decode cM_head 14 = .ok (.aload_n 0, 1) := by decide +kernel
theorem dM_head_15 : decode cM_head 15 = .ok (.getfield 7, 3) := by decide +kernel
theorem dM_head_18 : decode cM_head 18 = .ok (.iload 4, 2) := by decide +kernel
theorem dM_head_20 : decode cM_head 20 = .ok (.iaload, 1) := by decide +kernel
theorem dM_head_21 : decode cM_head 21 = .ok (.iload_n 1, 1) := by decide +kernel
theorem dM_head_22 : decode cM_head 22 = .ok (.if_icmp .ne 61, 3) := by decide +kernel
theorem dM_head_25 : decode cM_head 25 = .ok (.aload_n 0, 1) := by decide +kernel
theorem dM_head_26 : decode cM_head 26 = .ok (.getfield 29, 3) := by decide +kernel
theorem dM_head_29 : decode cM_head 29 = .ok (.iload 4, 2) := by decide +kernel
theorem dM_head_31 : decode cM_head 31 = .ok (.iaload, 1) := by decide +kernel
theorem dM_head_32 : decode cM_head 32 = .ok (.iconst 1, 1) := by decide +kernel
theorem dM_head_33 : decode cM_head 33 = .ok (.if_icmp .ne 50, 3) := by decide +kernel
theorem dM_head_36 : decode cM_head 36 = .ok (.aload_n 0, 1) := by decide +kernel
theorem dM_head_37 : decode cM_head 37 = .ok (.getfield 32, 3) := by decide +kernel
theorem dM_head_40 : decode cM_head 40 = .ok (.iload 4, 2) := by decide +kernel
theorem dM_head_42 : decode cM_head 42 = .ok (.baload, 1) := by decide +kernel
theorem dM_head_43 : decode cM_head 43 = .ok (.ifCond .ne 40, 3) := by decide +kernel
theorem dM_head_46 : decode cM_head 46 = .ok (.aload_n 0, 1) := by decide +kernel
theorem dM_head_47 : decode cM_head 47 = .ok (.getfield 26, 3) := by decide +kernel
theorem dM_head_50 : decode cM_head 50 = .ok (.iload 4, 2) := by decide +kernel
theorem dM_head_52 : decode cM_head 52 = .ok (.iaload, 1) := by decide +kernel
theorem dM_head_53 : decode cM_head 53 = .ok (.iload_n 2, 1) := by decide +kernel
theorem dM_head_54 : decode cM_head 54 = .ok (.if_icmp .le 6, 3) := by decide +kernel
theorem dM_head_57 : decode cM_head 57 = .ok (.goto 26, 3) := by decide +kernel
theorem dM_head_60 : decode cM_head 60 = .ok (.iload_n 3, 1) := by decide +kernel
theorem dM_head_61 : decode cM_head 61 = .ok (.ifCond .lt 19, 3) := by decide +kernel
theorem dM_head_64 : decode cM_head 64 = .ok (.aload_n 0, 1) := by decide +kernel
theorem dM_head_65 : decode cM_head 65 = .ok (.getfield 23, 3) := by decide +kernel
theorem dM_head_68 : decode cM_head 68 = .ok (.iload 4, 2) := by decide +kernel
theorem dM_head_70 : decode cM_head 70 = .ok (.iaload, 1) := by decide +kernel
theorem dM_head_71 : decode cM_head 71 = .ok (.aload_n 0, 1) := by decide +kernel
theorem dM_head_72 : decode cM_head 72 = .ok (.getfield 23, 3) := by decide +kernel
theorem dM_head_75 : decode cM_head 75 = .ok (.iload_n 3, 1) := by decide +kernel
theorem dM_head_76 : decode cM_head 76 = .ok (.iaload, 1) := by decide +kernel
theorem dM_head_77 : decode cM_head 77 = .ok (.if_icmp .lt 6, 3) := by decide +kernel
theorem dM_head_80 : decode cM_head 80 = .ok (.iload 4, 2) := by decide +kernel
theorem dM_head_82 : decode cM_head 82 = .ok (.istore_n 3, 1) := by decide +kernel
theorem dM_head_83 : decode cM_head 83 = .ok (.iinc 4 1, 3) := by decide +kernel
theorem dM_head_86 : decode cM_head 86 = .ok (.goto (-81), 3) := by decide +kernel
theorem dM_head_89 : decode cM_head 89 = .ok (.iload_n 3, 1) := by decide +kernel
theorem dM_head_90 : decode cM_head 90 = .ok (.ireturn, 1) := by decide +kernel
theorem dM_link_0 : decode cM_link 0 = .ok (.iconst 0, 1) := by decide +kernel
theorem dM_link_1 : decode cM_link 1 = .ok (.istore 4, 2) := by decide +kernel
theorem dM_link_3 : decode cM_link 3 = .ok (.iload_n 3, 1) := by decide +kernel
theorem dM_link_4 : decode cM_link 4 = .ok (.ifCond .ge 7, 3) := by decide +kernel
theorem dM_link_7 : decode cM_link 7 = .ok (.iconst (-1), 1) := by decide +kernel
theorem dM_link_8 : decode cM_link 8 = .ok (.goto 9, 3) := by decide +kernel
theorem dM_link_11 : decode cM_link 11 = .ok (.aload_n 0, 1) := by decide +kernel
theorem dM_link_12 : decode cM_link 12 = .ok (.iload_n 1, 1) := by decide +kernel
theorem dM_link_13 : decode cM_link 13 = .ok (.iload_n 2, 1) := by decide +kernel
theorem dM_link_14 : decode cM_link 14 = .ok (.invokevirtual 58, 3) := by decide +kernel
theorem dM_link_17 : decode cM_link 17 = .ok (.istore 5, 2) := by decide +kernel
theorem dM_link_19 : decode cM_link 19 = .ok (.iload 5, 2) := by decide +kernel
theorem dM_link_21 : decode cM_link 21 = .ok (.ifCond .lt 24, 3) := by decide +kernel
theorem dM_link_24 : decode cM_link 24 = .ok (.iload 4, 2) := by decide +kernel
theorem dM_link_26 : decode cM_link 26 = .ok (.iload_n 3, 1) := by decide +kernel
theorem dM_link_27 : decode cM_link 27 = .ok (.if_icmp .ge 18, 3) := by decide +kernel
theorem dM_link_30 : decode cM_link 30 = .ok (.aload_n 0, 1) := by decide +kernel
theorem dM_link_31 : decode cM_link 31 = .ok (.getfield 20, 3) := by decide +kernel
theorem dM_link_34 : decode cM_link 34 = .ok (.iload 5, 2) := by decide +kernel
theorem dM_link_36 : decode cM_link 36 = .ok (.iaload, 1) := by decide +kernel
theorem dM_link_37 : decode cM_link 37 = .ok (.istore 5, 2) := by decide +kernel
theorem dM_link_39 : decode cM_link 39 = .ok (.iinc 4 1, 3) := by decide +kernel
theorem dM_link_42 : decode cM_link 42 = .ok (.goto (-23), 3) := by decide +kernel
theorem dM_link_45 : decode cM_link 45 = .ok (.aload_n 0, 1) := by decide +kernel
theorem dM_link_46 : decode cM_link 46 = .ok (.iload 5, 2) := by decide +kernel
theorem dM_link_48 : decode cM_link 48 = .ok (.ifCond .ge 7, 3) := by decide +kernel
theorem dM_link_51 : decode cM_link 51 = .ok (.iconst 1, 1) := by decide +kernel
theorem dM_link_52 : decode cM_link 52 = .ok (.goto 4, 3) := by decide +kernel
theorem dM_link_55 : decode cM_link 55 = .ok (.iconst 0, 1) := by decide +kernel
theorem dM_link_56 : decode cM_link 56 = .ok (.putfield 38, 3) := by decide +kernel
theorem dM_link_59 : decode cM_link 59 = .ok (.iload 5, 2) := by decide +kernel
theorem dM_link_61 : decode cM_link 61 = .ok (.ifCond .ge 7, 3) := by decide +kernel
theorem dM_link_64 : decode cM_link 64 = .ok (.iconst 0, 1) := by decide +kernel
theorem dM_link_65 : decode cM_link 65 = .ok (.goto 5, 3) := by decide +kernel
theorem dM_link_68 : decode cM_link 68 = .ok (.iload 5, 2) := by decide +kernel
theorem dM_link_70 : decode cM_link 70 = .ok (.ireturn, 1) := by decide +kernel
theorem dM_view_0 : decode cM_view 0 = .ok (.aload_n 0, 1) := by decide +kernel
theorem dM_view_1 : decode cM_view 1 = .ok (.iconst 0, 1) := by decide +kernel
theorem dM_view_2 : decode cM_view 2 = .ok (.putfield 38, 3) := by decide +kernel
theorem dM_view_5 : decode cM_view 5 = .ok (.aload_n 0, 1) := by decide +kernel
theorem dM_view_6 : decode cM_view 6 = .ok (.iload_n 1, 1) := by decide +kernel
theorem dM_view_7 : decode cM_view 7 = .ok (.iload_n 2, 1) := by decide +kernel
theorem dM_view_8 : decode cM_view 8 = .ok (.iload_n 3, 1) := by decide +kernel
theorem dM_view_9 : decode cM_view 9 = .ok (.invokevirtual 65, 3) := by decide +kernel
theorem dM_view_12 : decode cM_view 12 = .ok (.ireturn, 1) := by decide +kernel
theorem dM_version_0 : decode cM_version 0 = .ok (.aload_n 0, 1) := by decide +kernel
theorem dM_version_1 : decode cM_version 1 = .ok (.iload_n 1, 1) := by decide +kernel
theorem dM_version_2 : decode cM_version 2 = .ok (.iload_n 2, 1) := by decide +kernel
theorem dM_version_3 : decode cM_version 3 = .ok (.iload_n 3, 1) := by decide +kernel
theorem dM_version_4 : decode cM_version 4 = .ok (.invokevirtual 61, 3) := by decide +kernel
theorem dM_version_7 : decode cM_version 7 = .ok (.istore 4, 2) := by decide +kernel
theorem dM_version_9 : decode cM_version 9 = .ok (.iload 4, 2) := by decide +kernel
theorem dM_version_11 : decode cM_version 11 = .ok (.ifCond .ge 7, 3) := by decide +kernel
theorem dM_version_14 : decode cM_version 14 = .ok (.iconst (-1), 1) := by decide +kernel
theorem dM_version_15 : decode cM_version 15 = .ok (.goto 15, 3) := by decide +kernel
theorem dM_version_18 : decode cM_version 18 = .ok (.aload_n 0, 1) := by decide +kernel
theorem dM_version_19 : decode cM_version 19 = .ok (.getfield 35, 3) := by decide +kernel
theorem dM_version_22 : decode cM_version 22 = .ok (.bipush 50, 2) := by decide +kernel
theorem dM_version_24 : decode cM_version 24 = .ok (.iload 4, 2) := by decide +kernel
theorem dM_version_26 : decode cM_version 26 = .ok (.imul, 1) := by decide +kernel
theorem dM_version_27 : decode cM_version 27 = .ok (.iload_n 3, 1) := by decide +kernel
theorem dM_version_28 : decode cM_version 28 = .ok (.iadd, 1) := by decide +kernel
theorem dM_version_29 : decode cM_version 29 = .ok (.iaload, 1) := by decide +kernel
theorem dM_version_30 : decode cM_version 30 = .ok (.ireturn, 1) := by decide +kernel
theorem dM_teller_0 : decode cM_teller 0 = .ok (.iload_n 3, 1) := by decide +kernel
theorem dM_teller_1 : decode cM_teller 1 = .ok (.ifCond .lt 9, 3) := by decide +kernel
theorem dM_teller_4 : decode cM_teller 4 = .ok (.iload_n 3, 1) := by decide +kernel
theorem dM_teller_5 : decode cM_teller 5 = .ok (.bipush 50, 2) := by decide +kernel
theorem dM_teller_7 : decode cM_teller 7 = .ok (.if_icmp .lt 5, 3) := by decide +kernel
theorem dM_teller_10 : decode cM_teller 10 = .ok (.iconst (-1), 1) := by decide +kernel
theorem dM_teller_11 : decode cM_teller 11 = .ok (.ireturn, 1) := by decide +kernel
theorem dM_teller_12 : decode cM_teller 12 = .ok (.aload_n 0, 1) := by decide +kernel
theorem dM_teller_13 : decode cM_teller 13 = .ok (.iload_n 1, 1) := by decide +kernel
theorem dM_teller_14 : decode cM_teller 14 = .ok (.iload_n 2, 1) := by decide +kernel
theorem dM_teller_15 : decode cM_teller 15 = .ok (.invokevirtual 58, 3) := by decide +kernel
theorem dM_teller_18 : decode cM_teller 18 = .ok (.istore 4, 2) := by decide +kernel
theorem dM_teller_20 : decode cM_teller 20 = .ok (.iload 4, 2) := by decide +kernel
theorem dM_teller_22 : decode cM_teller 22 = .ok (.ifCond .lt 32, 3) := by decide +kernel
theorem dM_teller_25 : decode cM_teller 25 = .ok (.aload_n 0, 1) := by decide +kernel
theorem dM_teller_26 : decode cM_teller 26 = .ok (.getfield 35, 3) := by decide +kernel
theorem dM_teller_29 : decode cM_teller 29 = .ok (.bipush 50, 2) := by decide +kernel
theorem dM_teller_31 : decode cM_teller 31 = .ok (.iload 4, 2) := by decide +kernel
theorem dM_teller_33 : decode cM_teller 33 = .ok (.imul, 1) := by decide +kernel
theorem dM_teller_34 : decode cM_teller 34 = .ok (.iload_n 3, 1) := by decide +kernel
theorem dM_teller_35 : decode cM_teller 35 = .ok (.iadd, 1) := by decide +kernel
theorem dM_teller_36 : decode cM_teller 36 = .ok (.iaload, 1) := by decide +kernel
theorem dM_teller_37 : decode cM_teller 37 = .ok (.bipush (-2), 2) := by decide +kernel
theorem dM_teller_39 : decode cM_teller 39 = .ok (.if_icmp .ne 15, 3) := by decide +kernel
theorem dM_teller_42 : decode cM_teller 42 = .ok (.aload_n 0, 1) := by decide +kernel
theorem dM_teller_43 : decode cM_teller 43 = .ok (.getfield 20, 3) := by decide +kernel
theorem dM_teller_46 : decode cM_teller 46 = .ok (.iload 4, 2) := by decide +kernel
theorem dM_teller_48 : decode cM_teller 48 = .ok (.iaload, 1) := by decide +kernel
theorem dM_teller_49 : decode cM_teller 49 = .ok (.istore 4, 2) := by decide +kernel
theorem dM_teller_51 : decode cM_teller 51 = .ok (.goto (-31), 3) := by decide +kernel
theorem dM_teller_54 : decode cM_teller 54 = .ok (.iload 4, 2) := by decide +kernel
theorem dM_teller_56 : decode cM_teller 56 = .ok (.ireturn, 1) := by decide +kernel
theorem dM_files_0 : decode cM_files 0 = .ok (.aload_n 0, 1) := by decide +kernel
theorem dM_files_1 : decode cM_files 1 = .ok (.iconst 0, 1) := by decide +kernel
theorem dM_files_2 : decode cM_files 2 = .ok (.putfield 38, 3) := by decide +kernel
theorem dM_files_5 : decode cM_files 5 = .ok (.iconst 0, 1) := by decide +kernel
theorem dM_files_6 : decode cM_files 6 = .ok (.istore_n 3, 1) := by decide +kernel
theorem dM_files_7 : decode cM_files 7 = .ok (.iconst 0, 1) := by decide +kernel
theorem dM_files_8 : decode cM_files 8 = .ok (.istore 4, 2) := by decide +kernel
theorem dM_files_10 : decode cM_files 10 = .ok (.iload 4, 2) := by decide +kernel
theorem dM_files_12 : decode cM_files 12 = .ok (.bipush 50, 2) := by decide +kernel
theorem dM_files_14 : decode cM_files 14 = .ok (.if_icmp .ge 28, 3) := by decide +kernel
theorem dM_files_17 : decode cM_files 17 = .ok (.iload_n 3, 1) := by decide +kernel
theorem dM_files_18 : decode cM_files 18 = .ok (.aload_n 0, 1) := by decide +kernel
theorem dM_files_19 : decode cM_files 19 = .ok (.iload_n 1, 1) := by decide +kernel
theorem dM_files_20 : decode cM_files 20 = .ok (.iload_n 2, 1) := by decide +kernel
theorem dM_files_21 : decode cM_files 21 = .ok (.iload 4, 2) := by decide +kernel
theorem dM_files_23 : decode cM_files 23 = .ok (.invokevirtual 65, 3) := by decide +kernel
theorem dM_files_26 : decode cM_files 26 = .ok (.ifCond .lt 7, 3) := by decide +kernel
theorem dM_files_29 : decode cM_files 29 = .ok (.iconst 1, 1) := by decide +kernel
theorem dM_files_30 : decode cM_files 30 = .ok (.goto 4, 3) := by decide +kernel
theorem dM_files_33 : decode cM_files 33 = .ok (.iconst 0, 1) := by decide +kernel
theorem dM_files_34 : decode cM_files 34 = .ok (.iadd, 1) := by decide +kernel
theorem dM_files_35 : decode cM_files 35 = .ok (.istore_n 3, 1) := by decide +kernel
theorem dM_files_36 : decode cM_files 36 = .ok (.iinc 4 1, 3) := by decide +kernel
theorem dM_files_39 : decode cM_files 39 = .ok (.goto (-29), 3) := by decide +kernel
theorem dM_files_42 : decode cM_files 42 = .ok (.iload_n 3, 1) := by decide +kernel
theorem dM_files_43 : decode cM_files 43 = .ok (.ireturn, 1) := by decide +kernel
theorem dM_source_0 : decode cM_source 0 = .ok (.aload_n 0, 1) := by decide +kernel
theorem dM_source_1 : decode cM_source 1 = .ok (.iconst 0, 1) := by decide +kernel
theorem dM_source_2 : decode cM_source 2 = .ok (.putfield 38, 3) := by decide +kernel
theorem dM_source_5 : decode cM_source 5 = .ok (.aload_n 0, 1) := by decide +kernel
theorem dM_source_6 : decode cM_source 6 = .ok (.iload_n 1, 1) := by decide +kernel
theorem dM_source_7 : decode cM_source 7 = .ok (.iload_n 2, 1) := by decide +kernel
theorem dM_source_8 : decode cM_source 8 = .ok (.iload_n 3, 1) := by decide +kernel
theorem dM_source_9 : decode cM_source 9 = .ok (.invokevirtual 61, 3) := by decide +kernel
theorem dM_source_12 : decode cM_source 12 = .ok (.ireturn, 1) := by decide +kernel
theorem dM_prune_0 : decode cM_prune 0 = .ok (.aload_n 0, 1) := by decide +kernel
theorem dM_prune_1 : decode cM_prune 1 = .ok (.iconst 0, 1) := by decide +kernel
theorem dM_prune_2 : decode cM_prune 2 = .ok (.putfield 38, 3) := by decide +kernel
theorem dM_prune_5 : decode cM_prune 5 = .ok (.aload_n 0, 1) := by decide +kernel
theorem dM_prune_6 : decode cM_prune 6 = .ok (.iload_n 1, 1) := by decide +kernel
theorem dM_prune_7 : decode cM_prune 7 = .ok (.invokevirtual 53, 3) := by decide +kernel
theorem dM_prune_10 : decode cM_prune 10 = .ok (.ifCond .eq 11, 3) := by decide +kernel
theorem dM_prune_13 : decode cM_prune 13 = .ok (.aload_n 0, 1) := by decide +kernel
theorem dM_prune_14 : decode cM_prune 14 = .ok (.iload_n 1, 1) := by decide +kernel
theorem dM_prune_15 : decode cM_prune 15 = .ok (.invokevirtual 72, 3) := by decide +kernel
theorem dM_prune_18 : decode cM_prune 18 = .ok (.ifCond .ne 5, 3) := by decide +kernel
theorem dM_prune_21 : decode cM_prune 21 = .ok (.iconst 0, 1) := by decide +kernel
theorem dM_prune_22 : decode cM_prune 22 = .ok (.ireturn, 1) := by decide +kernel
theorem dM_prune_23 : decode cM_prune 23 = .ok (.aload_n 0, 1) := by decide +kernel
theorem dM_prune_24 : decode cM_prune 24 = .ok (.iload_n 1, 1) := by decide +kernel
theorem dM_prune_25 : decode cM_prune 25 = .ok (.invokevirtual 75, 3) := by decide +kernel
theorem dM_prune_28 : decode cM_prune 28 = .ok (.iconst 1, 1) := by decide +kernel
theorem dM_prune_29 : decode cM_prune 29 = .ok (.ireturn, 1) := by decide +kernel
theorem dM_mayGo_0 : decode cM_mayGo 0 = .ok (.aload_n 0, 1) := by decide +kernel
theorem dM_mayGo_1 : decode cM_mayGo 1 = .ok (.getfield 29, 3) := by decide +kernel
theorem dM_mayGo_4 : decode cM_mayGo 4 = .ok (.iload_n 1, 1) := by decide +kernel
theorem dM_mayGo_5 : decode cM_mayGo 5 = .ok (.iaload, 1) := by decide +kernel
theorem dM_mayGo_6 : decode cM_mayGo 6 = .ok (.ifCond .eq 24, 3) := by decide +kernel
theorem dM_mayGo_9 : decode cM_mayGo 9 = .ok (.aload_n 0, 1) := by decide +kernel
theorem dM_mayGo_10 : decode cM_mayGo 10 = .ok (.getfield 32, 3) := by decide +kernel
theorem dM_mayGo_13 : decode cM_mayGo 13 = .ok (.iload_n 1, 1) := by decide +kernel
theorem dM_mayGo_14 : decode cM_mayGo 14 = .ok (.baload, 1) := by decide +kernel
theorem dM_mayGo_15 : decode cM_mayGo 15 = .ok (.ifCond .ne 15, 3) := by decide +kernel
theorem dM_mayGo_18 : decode cM_mayGo 18 = .ok (.aload_n 0, 1) := by decide +kernel
theorem dM_mayGo_19 : decode cM_mayGo 19 = .ok (.iload_n 1, 1) := by decide +kernel
theorem dM_mayGo_20 : decode cM_mayGo 20 = .ok (.invokevirtual 68, 3) := by decide +kernel
theorem dM_mayGo_23 : decode cM_mayGo 23 = .ok (.ifCond .ne 7, 3) := by decide +kernel
theorem dM_mayGo_26 : decode cM_mayGo 26 = .ok (.iconst 1, 1) := by decide +kernel
theorem dM_mayGo_27 : decode cM_mayGo 27 = .ok (.goto 4, 3) := by decide +kernel
theorem dM_mayGo_30 : decode cM_mayGo 30 = .ok (.iconst 0, 1) := by decide +kernel
theorem dM_mayGo_31 : decode cM_mayGo 31 = .ok (.ireturn, 1) := by decide +kernel
theorem dM_standing_0 : decode cM_standing 0 = .ok (.iconst 0, 1) := by decide +kernel
theorem dM_standing_1 : decode cM_standing 1 = .ok (.istore_n 2, 1) := by decide +kernel
theorem dM_standing_2 : decode cM_standing 2 = .ok (.iconst 0, 1) := by decide +kernel
theorem dM_standing_3 : decode cM_standing 3 = .ok (.istore_n 3, 1) := by decide +kernel
theorem dM_standing_4 : decode cM_standing 4 = .ok (.iload_n 3, 1) := by decide +kernel
theorem dM_standing_5 : decode cM_standing 5 = .ok (.aload_n 0, 1) := by decide +kernel
theorem dM_standing_6 : decode cM_standing 6 = .ok (.getfield 46, 3) := by decide +kernel
theorem dM_standing_9 : decode cM_standing 9 = .ok (.if_icmp .ge 36, 3) := by decide +kernel
theorem dM_standing_12 : decode cM_standing 12 = .ok (.iload_n 2, 1) := by decide +kernel
theorem dM_standing_13 : decode cM_standing 13 = .ok (.aload_n 0, 1) := by decide +kernel
theorem dM_standing_14 : decode cM_standing 14 = .ok (.getfield 20, 3) := by decide +kernel
theorem dM_standing_17 : decode cM_standing 17 = .ok (.iload_n 3, 1) := by decide +kernel
theorem dM_standing_18 : decode cM_standing 18 = .ok (.iaload, 1) := by decide +kernel
theorem dM_standing_19 : decode cM_standing 19 = .ok (.iload_n 1, 1) := by decide +kernel
theorem dM_standing_20 : decode cM_standing 20 = .ok (.if_icmp .ne 16, 3) := by decide +kernel
theorem dM_standing_23 : decode cM_standing 23 = .ok (.aload_n 0, 1) := by decide +kernel
theorem dM_standing_24 : decode cM_standing 24 = .ok (.getfield 32, 3) := by decide +kernel
theorem dM_standing_27 : decode cM_standing 27 = .ok (.iload_n 3, 1) := by decide +kernel
theorem dM_standing_28 : decode cM_standing 28 = .ok (.baload, 1) := by decide +kernel
theorem dM_standing_29 : decode cM_standing 29 = .ok (.ifCond .ne 7, 3) := by decide +kernel
theorem dM_standing_32 : decode cM_standing 32 = .ok (.iconst 1, 1) := by decide +kernel
theorem dM_standing_33 : decode cM_standing 33 = .ok (.goto 4, 3) := by decide +kernel
theorem dM_standing_36 : decode cM_standing 36 = .ok (.iconst 0, 1) := by decide +kernel
theorem dM_standing_37 : decode cM_standing 37 = .ok (.iadd, 1) := by decide +kernel
theorem dM_standing_38 : decode cM_standing 38 = .ok (.istore_n 2, 1) := by decide +kernel
theorem dM_standing_39 : decode cM_standing 39 = .ok (.iinc 3 1, 3) := by decide +kernel
theorem dM_standing_42 : decode cM_standing 42 = .ok (.goto (-38), 3) := by decide +kernel
theorem dM_standing_45 : decode cM_standing 45 = .ok (.iload_n 2, 1) := by decide +kernel
theorem dM_standing_46 : decode cM_standing 46 = .ok (.ireturn, 1) := by decide +kernel
theorem dM_drop_0 : decode cM_drop 0 = .ok (.aload_n 0, 1) := by decide +kernel
theorem dM_drop_1 : decode cM_drop 1 = .ok (.getfield 32, 3) := by decide +kernel
theorem dM_drop_4 : decode cM_drop 4 = .ok (.iload_n 1, 1) := by decide +kernel
theorem dM_drop_5 : decode cM_drop 5 = .ok (.iconst 1, 1) := by decide +kernel
theorem dM_drop_6 : decode cM_drop 6 = .ok (.bastore, 1) := by decide +kernel
theorem dM_drop_7 : decode cM_drop 7 = .ok (.iconst 0, 1) := by decide +kernel
theorem dM_drop_8 : decode cM_drop 8 = .ok (.istore_n 2, 1) := by decide +kernel
theorem dM_drop_9 : decode cM_drop 9 = .ok (.iload_n 2, 1) := by decide +kernel
theorem dM_drop_10 : decode cM_drop 10 = .ok (.bipush 50, 2) := by decide +kernel
theorem dM_drop_12 : decode cM_drop 12 = .ok (.if_icmp .ge 22, 3) := by decide +kernel
theorem dM_drop_15 : decode cM_drop 15 = .ok (.aload_n 0, 1) := by decide +kernel
theorem dM_drop_16 : decode cM_drop 16 = .ok (.getfield 35, 3) := by decide +kernel
theorem dM_drop_19 : decode cM_drop 19 = .ok (.bipush 50, 2) := by decide +kernel
theorem dM_drop_21 : decode cM_drop 21 = .ok (.iload_n 1, 1) := by decide +kernel
theorem dM_drop_22 : decode cM_drop 22 = .ok (.imul, 1) := by decide +kernel
theorem dM_drop_23 : decode cM_drop 23 = .ok (.iload_n 2, 1) := by decide +kernel
theorem dM_drop_24 : decode cM_drop 24 = .ok (.iadd, 1) := by decide +kernel
theorem dM_drop_25 : decode cM_drop 25 = .ok (.bipush (-2), 2) := by decide +kernel
theorem dM_drop_27 : decode cM_drop 27 = .ok (.iastore, 1) := by decide +kernel
theorem dM_drop_28 : decode cM_drop 28 = .ok (.iinc 2 1, 3) := by decide +kernel
theorem dM_drop_31 : decode cM_drop 31 = .ok (.goto (-22), 3) := by decide +kernel
theorem dM_drop_34 : decode cM_drop 34 = .ok (.return_, 1) := by decide +kernel
theorem dM_expire_0 : decode cM_expire 0 = .ok (.aload_n 0, 1) := by decide +kernel
theorem dM_expire_1 : decode cM_expire 1 = .ok (.iload_n 1, 1) := by decide +kernel
theorem dM_expire_2 : decode cM_expire 2 = .ok (.ifCond .ge 7, 3) := by decide +kernel
theorem dM_expire_5 : decode cM_expire 5 = .ok (.iconst 1, 1) := by decide +kernel
theorem dM_expire_6 : decode cM_expire 6 = .ok (.goto 4, 3) := by decide +kernel
theorem dM_expire_9 : decode cM_expire 9 = .ok (.iconst 0, 1) := by decide +kernel
theorem dM_expire_10 : decode cM_expire 10 = .ok (.putfield 38, 3) := by decide +kernel
theorem dM_expire_13 : decode cM_expire 13 = .ok (.iconst 0, 1) := by decide +kernel
theorem dM_expire_14 : decode cM_expire 14 = .ok (.istore_n 2, 1) := by decide +kernel
theorem dM_expire_15 : decode cM_expire 15 = .ok (.aload_n 0, 1) := by decide +kernel
theorem dM_expire_16 : decode cM_expire 16 = .ok (.getfield 46, 3) := by decide +kernel
theorem dM_expire_19 : decode cM_expire 19 = .ok (.iconst 1, 1) := by decide +kernel
theorem dM_expire_20 : decode cM_expire 20 = .ok (.isub, 1) := by decide +kernel
theorem dM_expire_21 : decode cM_expire 21 = .ok (.istore_n 3, 1) := by decide +kernel
theorem dM_expire_22 : decode cM_expire 22 = .ok (.iload_n 3, 1) := by decide +kernel
theorem dM_expire_23 : decode cM_expire 23 = .ok (.ifCond .lt 58, 3) := by decide +kernel
theorem dM_expire_26 : decode cM_expire 26 = .ok (.aload_n 0, 1) := by decide +kernel
theorem dM_expire_27 : decode cM_expire 27 = .ok (.getfield 38, 3) := by decide +kernel
theorem dM_expire_30 : decode cM_expire 30 = .ok (.ifCond .ne 51, 3) := by decide +kernel
theorem dM_expire_33 : decode cM_expire 33 = .ok (.aload_n 0, 1) := by decide +kernel
theorem dM_expire_34 : decode cM_expire 34 = .ok (.iload_n 3, 1) := by decide +kernel
theorem dM_expire_35 : decode cM_expire 35 = .ok (.invokevirtual 72, 3) := by decide +kernel
theorem dM_expire_38 : decode cM_expire 38 = .ok (.ifCond .eq 37, 3) := by decide +kernel
theorem dM_expire_41 : decode cM_expire 41 = .ok (.aload_n 0, 1) := by decide +kernel
theorem dM_expire_42 : decode cM_expire 42 = .ok (.getfield 43, 3) := by decide +kernel
theorem dM_expire_45 : decode cM_expire 45 = .ok (.aload_n 0, 1) := by decide +kernel
theorem dM_expire_46 : decode cM_expire 46 = .ok (.getfield 26, 3) := by decide +kernel
theorem dM_expire_49 : decode cM_expire 49 = .ok (.iload_n 3, 1) := by decide +kernel
theorem dM_expire_50 : decode cM_expire 50 = .ok (.iaload, 1) := by decide +kernel
theorem dM_expire_51 : decode cM_expire 51 = .ok (.isub, 1) := by decide +kernel
theorem dM_expire_52 : decode cM_expire 52 = .ok (.iload_n 1, 1) := by decide +kernel
theorem dM_expire_53 : decode cM_expire 53 = .ok (.if_icmp .le 22, 3) := by decide +kernel
theorem dM_expire_56 : decode cM_expire 56 = .ok (.aload_n 0, 1) := by decide +kernel
theorem dM_expire_57 : decode cM_expire 57 = .ok (.iload_n 3, 1) := by decide +kernel
theorem dM_expire_58 : decode cM_expire 58 = .ok (.invokevirtual 79, 3) := by decide +kernel
theorem dM_expire_61 : decode cM_expire 61 = .ok (.ifCond .eq 6, 3) := by decide +kernel
theorem dM_expire_64 : decode cM_expire 64 = .ok (.goto 11, 3) := by decide +kernel
theorem dM_expire_67 : decode cM_expire 67 = .ok (.aload_n 0, 1) := by decide +kernel
theorem dM_expire_68 : decode cM_expire 68 = .ok (.iload_n 3, 1) := by decide +kernel
theorem dM_expire_69 : decode cM_expire 69 = .ok (.invokevirtual 75, 3) := by decide +kernel
theorem dM_expire_72 : decode cM_expire 72 = .ok (.iinc 2 1, 3) := by decide +kernel
theorem dM_expire_75 : decode cM_expire 75 = .ok (.iinc 3 (-1), 3) := by decide +kernel
theorem dM_expire_78 : decode cM_expire 78 = .ok (.goto (-56), 3) := by decide +kernel
theorem dM_expire_81 : decode cM_expire 81 = .ok (.iload_n 2, 1) := by decide +kernel
theorem dM_expire_82 : decode cM_expire 82 = .ok (.ireturn, 1) := by decide +kernel
theorem dM_isOnly_0 : decode cM_isOnly 0 = .ok (.aload_n 0, 1) := by decide +kernel
theorem dM_isOnly_1 : decode cM_isOnly 1 = .ok (.getfield 29, 3) := by decide +kernel
theorem dM_isOnly_4 : decode cM_isOnly 4 = .ok (.iload_n 1, 1) := by decide +kernel
theorem dM_isOnly_5 : decode cM_isOnly 5 = .ok (.iaload, 1) := by decide +kernel
theorem dM_isOnly_6 : decode cM_isOnly 6 = .ok (.iconst 1, 1) := by decide +kernel
theorem dM_isOnly_7 : decode cM_isOnly 7 = .ok (.if_icmp .ne 12, 3) := by decide +kernel
theorem dM_isOnly_10 : decode cM_isOnly 10 = .ok (.aload_n 0, 1) := by decide +kernel
theorem dM_isOnly_11 : decode cM_isOnly 11 = .ok (.getfield 13, 3) := by decide +kernel
theorem dM_isOnly_14 : decode cM_isOnly 14 = .ok (.iload_n 1, 1) := by decide +kernel
theorem dM_isOnly_15 : decode cM_isOnly 15 = .ok (.iaload, 1) := by decide +kernel
theorem dM_isOnly_16 : decode cM_isOnly 16 = .ok (.ifCond .eq 5, 3) := by decide +kernel
theorem dM_isOnly_19 : decode cM_isOnly 19 = .ok (.iconst 0, 1) := by decide +kernel
theorem dM_isOnly_20 : decode cM_isOnly 20 = .ok (.ireturn, 1) := by decide +kernel
theorem dM_isOnly_21 : decode cM_isOnly 21 = .ok (.iconst 0, 1) := by decide +kernel
theorem dM_isOnly_22 : decode cM_isOnly 22 = .ok (.istore_n 2, 1) := by decide +kernel
theorem dM_isOnly_23 : decode cM_isOnly 23 = .ok (.iload_n 2, 1) := by decide +kernel
theorem dM_isOnly_24 : decode cM_isOnly 24 = .ok (.aload_n 0, 1) := by decide +kernel
theorem dM_isOnly_25 : decode cM_isOnly 25 = .ok (.getfield 46, 3) := by decide +kernel
theorem dM_isOnly_28 : decode cM_isOnly 28 = .ok (.if_icmp .ge 59, 3) := by decide +kernel
theorem dM_isOnly_31 : decode cM_isOnly 31 = .ok (.iload_n 2, 1) := by decide +kernel
theorem dM_isOnly_32 : decode cM_isOnly 32 = .ok (.iload_n 1, 1) := by decide +kernel
theorem dM_isOnly_33 : decode cM_isOnly 33 = .ok (.if_icmp .eq 48, 3) := by decide +kernel
theorem dM_isOnly_36 : decode cM_isOnly 36 = .ok (.aload_n 0, 1) := by decide +kernel
theorem dM_isOnly_37 : decode cM_isOnly 37 = .ok (.getfield 7, 3) := by decide +kernel
theorem dM_isOnly_40 : decode cM_isOnly 40 = .ok (.iload_n 2, 1) := by decide +kernel
theorem dM_isOnly_41 : decode cM_isOnly 41 = .ok (.iaload, 1) := by decide +kernel
theorem dM_isOnly_42 : decode cM_isOnly 42 = .ok (.aload_n 0, 1) := by decide +kernel
theorem dM_isOnly_43 : decode cM_isOnly 43 = .ok (.getfield 7, 3) := by decide +kernel
theorem dM_isOnly_46 : decode cM_isOnly 46 = .ok (.iload_n 1, 1) := by decide +kernel
theorem dM_isOnly_47 : decode cM_isOnly 47 = .ok (.iaload, 1) := by decide +kernel
theorem dM_isOnly_48 : decode cM_isOnly 48 = .ok (.if_icmp .ne 33, 3) := by decide +kernel
theorem dM_isOnly_51 : decode cM_isOnly 51 = .ok (.aload_n 0, 1) := by decide +kernel
theorem dM_isOnly_52 : decode cM_isOnly 52 = .ok (.getfield 29, 3) := by decide +kernel
theorem dM_isOnly_55 : decode cM_isOnly 55 = .ok (.iload_n 2, 1) := by decide +kernel
theorem dM_isOnly_56 : decode cM_isOnly 56 = .ok (.iaload, 1) := by decide +kernel
theorem dM_isOnly_57 : decode cM_isOnly 57 = .ok (.iconst 1, 1) := by decide +kernel
theorem dM_isOnly_58 : decode cM_isOnly 58 = .ok (.if_icmp .ne 23, 3) := by decide +kernel
theorem dM_isOnly_61 : decode cM_isOnly 61 = .ok (.aload_n 0, 1) := by decide +kernel
theorem dM_isOnly_62 : decode cM_isOnly 62 = .ok (.getfield 13, 3) := by decide +kernel
theorem dM_isOnly_65 : decode cM_isOnly 65 = .ok (.iload_n 2, 1) := by decide +kernel
theorem dM_isOnly_66 : decode cM_isOnly 66 = .ok (.iaload, 1) := by decide +kernel
theorem dM_isOnly_67 : decode cM_isOnly 67 = .ok (.ifCond .ne 14, 3) := by decide +kernel
theorem dM_isOnly_70 : decode cM_isOnly 70 = .ok (.aload_n 0, 1) := by decide +kernel
theorem dM_isOnly_71 : decode cM_isOnly 71 = .ok (.getfield 32, 3) := by decide +kernel
theorem dM_isOnly_74 : decode cM_isOnly 74 = .ok (.iload_n 2, 1) := by decide +kernel
theorem dM_isOnly_75 : decode cM_isOnly 75 = .ok (.baload, 1) := by decide +kernel
theorem dM_isOnly_76 : decode cM_isOnly 76 = .ok (.ifCond .ne 5, 3) := by decide +kernel
theorem dM_isOnly_79 : decode cM_isOnly 79 = .ok (.iconst 0, 1) := by decide +kernel
theorem dM_isOnly_80 : decode cM_isOnly 80 = .ok (.ireturn, 1) := by decide +kernel
theorem dM_isOnly_81 : decode cM_isOnly 81 = .ok (.iinc 2 1, 3) := by decide +kernel
theorem dM_isOnly_84 : decode cM_isOnly 84 = .ok (.goto (-61), 3) := by decide +kernel
theorem dM_isOnly_87 : decode cM_isOnly 87 = .ok (.iconst 1, 1) := by decide +kernel
theorem dM_isOnly_88 : decode cM_isOnly 88 = .ok (.ireturn, 1) := by decide +kernel
theorem dM_job_0 : decode cM_job 0 = .ok (.aload_n 0, 1) := by decide +kernel
theorem dM_job_1 : decode cM_job 1 = .ok (.iconst 0, 1) := by decide +kernel
theorem dM_job_2 : decode cM_job 2 = .ok (.putfield 38, 3) := by decide +kernel
theorem dM_job_5 : decode cM_job 5 = .ok (.aload_n 0, 1) := by decide +kernel
theorem dM_job_6 : decode cM_job 6 = .ok (.iload_n 1, 1) := by decide +kernel
theorem dM_job_7 : decode cM_job 7 = .ok (.invokevirtual 53, 3) := by decide +kernel
theorem dM_job_10 : decode cM_job 10 = .ok (.ifCond .ne 5, 3) := by decide +kernel
theorem dM_job_13 : decode cM_job 13 = .ok (.iconst (-1), 1) := by decide +kernel
theorem dM_job_14 : decode cM_job 14 = .ok (.ireturn, 1) := by decide +kernel
theorem dM_job_15 : decode cM_job 15 = .ok (.iload_n 2, 1) := by decide +kernel
theorem dM_job_16 : decode cM_job 16 = .ok (.tableswitch 208 0 10 #[60, 67, 74, 89, 96, 103, 110, 117, 132, 177, 202], 60) := by decide +kernel
theorem dM_job_76 : decode cM_job 76 = .ok (.aload_n 0, 1) := by decide +kernel
theorem dM_job_77 : decode cM_job 77 = .ok (.getfield 7, 3) := by decide +kernel
theorem dM_job_80 : decode cM_job 80 = .ok (.iload_n 1, 1) := by decide +kernel
theorem dM_job_81 : decode cM_job 81 = .ok (.iaload, 1) := by decide +kernel
theorem dM_job_82 : decode cM_job 82 = .ok (.ireturn, 1) := by decide +kernel
theorem dM_job_83 : decode cM_job 83 = .ok (.aload_n 0, 1) := by decide +kernel
theorem dM_job_84 : decode cM_job 84 = .ok (.getfield 13, 3) := by decide +kernel
theorem dM_job_87 : decode cM_job 87 = .ok (.iload_n 1, 1) := by decide +kernel
theorem dM_job_88 : decode cM_job 88 = .ok (.iaload, 1) := by decide +kernel
theorem dM_job_89 : decode cM_job 89 = .ok (.ireturn, 1) := by decide +kernel
theorem dM_job_90 : decode cM_job 90 = .ok (.aload_n 0, 1) := by decide +kernel
theorem dM_job_91 : decode cM_job 91 = .ok (.getfield 16, 3) := by decide +kernel
theorem dM_job_94 : decode cM_job 94 = .ok (.iload_n 1, 1) := by decide +kernel
theorem dM_job_95 : decode cM_job 95 = .ok (.baload, 1) := by decide +kernel
theorem dM_job_96 : decode cM_job 96 = .ok (.ifCond .eq 7, 3) := by decide +kernel
theorem dM_job_99 : decode cM_job 99 = .ok (.iconst 1, 1) := by decide +kernel
theorem dM_job_100 : decode cM_job 100 = .ok (.goto 4, 3) := by decide +kernel
theorem dM_job_103 : decode cM_job 103 = .ok (.iconst 0, 1) := by decide +kernel
theorem dM_job_104 : decode cM_job 104 = .ok (.ireturn, 1) := by decide +kernel
theorem dM_job_105 : decode cM_job 105 = .ok (.aload_n 0, 1) := by decide +kernel
theorem dM_job_106 : decode cM_job 106 = .ok (.getfield 20, 3) := by decide +kernel
theorem dM_job_109 : decode cM_job 109 = .ok (.iload_n 1, 1) := by decide +kernel
theorem dM_job_110 : decode cM_job 110 = .ok (.iaload, 1) := by decide +kernel
theorem dM_job_111 : decode cM_job 111 = .ok (.ireturn, 1) := by decide +kernel
theorem dM_job_112 : decode cM_job 112 = .ok (.aload_n 0, 1) := by decide +kernel
theorem dM_job_113 : decode cM_job 113 = .ok (.getfield 23, 3) := by decide +kernel
theorem dM_job_116 : decode cM_job 116 = .ok (.iload_n 1, 1) := by decide +kernel
theorem dM_job_117 : decode cM_job 117 = .ok (.iaload, 1) := by decide +kernel
theorem dM_job_118 : decode cM_job 118 = .ok (.ireturn, 1) := by decide +kernel
theorem dM_job_119 : decode cM_job 119 = .ok (.aload_n 0, 1) := by decide +kernel
theorem dM_job_120 : decode cM_job 120 = .ok (.getfield 26, 3) := by decide +kernel
theorem dM_job_123 : decode cM_job 123 = .ok (.iload_n 1, 1) := by decide +kernel
theorem dM_job_124 : decode cM_job 124 = .ok (.iaload, 1) := by decide +kernel
theorem dM_job_125 : decode cM_job 125 = .ok (.ireturn, 1) := by decide +kernel
theorem dM_job_126 : decode cM_job 126 = .ok (.aload_n 0, 1) := by decide +kernel
theorem dM_job_127 : decode cM_job 127 = .ok (.getfield 29, 3) := by decide +kernel
theorem dM_job_130 : decode cM_job 130 = .ok (.iload_n 1, 1) := by decide +kernel
theorem dM_job_131 : decode cM_job 131 = .ok (.iaload, 1) := by decide +kernel
theorem dM_job_132 : decode cM_job 132 = .ok (.ireturn, 1) := by decide +kernel
theorem dM_job_133 : decode cM_job 133 = .ok (.aload_n 0, 1) := by decide +kernel
theorem dM_job_134 : decode cM_job 134 = .ok (.getfield 32, 3) := by decide +kernel
theorem dM_job_137 : decode cM_job 137 = .ok (.iload_n 1, 1) := by decide +kernel
theorem dM_job_138 : decode cM_job 138 = .ok (.baload, 1) := by decide +kernel
theorem dM_job_139 : decode cM_job 139 = .ok (.ifCond .eq 7, 3) := by decide +kernel
theorem dM_job_142 : decode cM_job 142 = .ok (.iconst 1, 1) := by decide +kernel
theorem dM_job_143 : decode cM_job 143 = .ok (.goto 4, 3) := by decide +kernel
theorem dM_job_146 : decode cM_job 146 = .ok (.iconst 0, 1) := by decide +kernel
theorem dM_job_147 : decode cM_job 147 = .ok (.ireturn, 1) := by decide +kernel
theorem dM_job_148 : decode cM_job 148 = .ok (.iconst 0, 1) := by decide +kernel
theorem dM_job_149 : decode cM_job 149 = .ok (.istore_n 3, 1) := by decide +kernel
theorem dM_job_150 : decode cM_job 150 = .ok (.iconst 0, 1) := by decide +kernel
theorem dM_job_151 : decode cM_job 151 = .ok (.istore 4, 2) := by decide +kernel
theorem dM_job_153 : decode cM_job 153 = .ok (.iload 4, 2) := by decide +kernel
theorem dM_job_155 : decode cM_job 155 = .ok (.bipush 50, 2) := by decide +kernel
theorem dM_job_157 : decode cM_job 157 = .ok (.if_icmp .ge 34, 3) := by decide +kernel
theorem dM_job_160 : decode cM_job 160 = .ok (.iload_n 3, 1) := by decide +kernel
theorem dM_job_161 : decode cM_job 161 = .ok (.aload_n 0, 1) := by decide +kernel
theorem dM_job_162 : decode cM_job 162 = .ok (.getfield 35, 3) := by decide +kernel
theorem dM_job_165 : decode cM_job 165 = .ok (.bipush 50, 2) := by decide +kernel
theorem dM_job_167 : decode cM_job 167 = .ok (.iload_n 1, 1) := by decide +kernel
theorem dM_job_168 : decode cM_job 168 = .ok (.imul, 1) := by decide +kernel
theorem dM_job_169 : decode cM_job 169 = .ok (.iload 4, 2) := by decide +kernel
theorem dM_job_171 : decode cM_job 171 = .ok (.iadd, 1) := by decide +kernel
theorem dM_job_172 : decode cM_job 172 = .ok (.iaload, 1) := by decide +kernel
theorem dM_job_173 : decode cM_job 173 = .ok (.bipush (-2), 2) := by decide +kernel
theorem dM_job_175 : decode cM_job 175 = .ok (.if_icmp .eq 7, 3) := by decide +kernel
theorem dM_job_178 : decode cM_job 178 = .ok (.iconst 1, 1) := by decide +kernel
theorem dM_job_179 : decode cM_job 179 = .ok (.goto 4, 3) := by decide +kernel
theorem dM_job_182 : decode cM_job 182 = .ok (.iconst 0, 1) := by decide +kernel
theorem dM_job_183 : decode cM_job 183 = .ok (.iadd, 1) := by decide +kernel
theorem dM_job_184 : decode cM_job 184 = .ok (.istore_n 3, 1) := by decide +kernel
theorem dM_job_185 : decode cM_job 185 = .ok (.iinc 4 1, 3) := by decide +kernel
theorem dM_job_188 : decode cM_job 188 = .ok (.goto (-35), 3) := by decide +kernel
theorem dM_job_191 : decode cM_job 191 = .ok (.iload_n 3, 1) := by decide +kernel
theorem dM_job_192 : decode cM_job 192 = .ok (.ireturn, 1) := by decide +kernel
theorem dM_job_193 : decode cM_job 193 = .ok (.aload_n 0, 1) := by decide +kernel
theorem dM_job_194 : decode cM_job 194 = .ok (.getfield 20, 3) := by decide +kernel
theorem dM_job_197 : decode cM_job 197 = .ok (.iload_n 1, 1) := by decide +kernel
theorem dM_job_198 : decode cM_job 198 = .ok (.iaload, 1) := by decide +kernel
theorem dM_job_199 : decode cM_job 199 = .ok (.ifCond .ge 7, 3) := by decide +kernel
theorem dM_job_202 : decode cM_job 202 = .ok (.iconst (-1), 1) := by decide +kernel
theorem dM_job_203 : decode cM_job 203 = .ok (.goto 14, 3) := by decide +kernel
theorem dM_job_206 : decode cM_job 206 = .ok (.aload_n 0, 1) := by decide +kernel
theorem dM_job_207 : decode cM_job 207 = .ok (.getfield 23, 3) := by decide +kernel
theorem dM_job_210 : decode cM_job 210 = .ok (.aload_n 0, 1) := by decide +kernel
theorem dM_job_211 : decode cM_job 211 = .ok (.getfield 20, 3) := by decide +kernel
theorem dM_job_214 : decode cM_job 214 = .ok (.iload_n 1, 1) := by decide +kernel
theorem dM_job_215 : decode cM_job 215 = .ok (.iaload, 1) := by decide +kernel
theorem dM_job_216 : decode cM_job 216 = .ok (.iaload, 1) := by decide +kernel
theorem dM_job_217 : decode cM_job 217 = .ok (.ireturn, 1) := by decide +kernel
theorem dM_job_218 : decode cM_job 218 = .ok (.aload_n 0, 1) := by decide +kernel
theorem dM_job_219 : decode cM_job 219 = .ok (.iload_n 1, 1) := by decide +kernel
theorem dM_job_220 : decode cM_job 220 = .ok (.invokevirtual 68, 3) := by decide +kernel
theorem dM_job_223 : decode cM_job 223 = .ok (.ireturn, 1) := by decide +kernel
theorem dM_job_224 : decode cM_job 224 = .ok (.iconst (-1), 1) := by decide +kernel
theorem dM_job_225 : decode cM_job 225 = .ok (.ireturn, 1) := by decide +kernel
theorem dM_count_0 : decode cM_count 0 = .ok (.aload_n 0, 1) := by decide +kernel
theorem dM_count_1 : decode cM_count 1 = .ok (.iconst 0, 1) := by decide +kernel
theorem dM_count_2 : decode cM_count 2 = .ok (.putfield 38, 3) := by decide +kernel
theorem dM_count_5 : decode cM_count 5 = .ok (.iconst 0, 1) := by decide +kernel
theorem dM_count_6 : decode cM_count 6 = .ok (.istore_n 2, 1) := by decide +kernel
theorem dM_count_7 : decode cM_count 7 = .ok (.iconst 0, 1) := by decide +kernel
theorem dM_count_8 : decode cM_count 8 = .ok (.istore_n 3, 1) := by decide +kernel
theorem dM_count_9 : decode cM_count 9 = .ok (.iconst 0, 1) := by decide +kernel
theorem dM_count_10 : decode cM_count 10 = .ok (.istore 4, 2) := by decide +kernel
theorem dM_count_12 : decode cM_count 12 = .ok (.iload 4, 2) := by decide +kernel
theorem dM_count_14 : decode cM_count 14 = .ok (.aload_n 0, 1) := by decide +kernel
theorem dM_count_15 : decode cM_count 15 = .ok (.getfield 46, 3) := by decide +kernel
theorem dM_count_18 : decode cM_count 18 = .ok (.if_icmp .ge 45, 3) := by decide +kernel
theorem dM_count_21 : decode cM_count 21 = .ok (.iload_n 2, 1) := by decide +kernel
theorem dM_count_22 : decode cM_count 22 = .ok (.aload_n 0, 1) := by decide +kernel
theorem dM_count_23 : decode cM_count 23 = .ok (.getfield 29, 3) := by decide +kernel
theorem dM_count_26 : decode cM_count 26 = .ok (.iload 4, 2) := by decide +kernel
theorem dM_count_28 : decode cM_count 28 = .ok (.iaload, 1) := by decide +kernel
theorem dM_count_29 : decode cM_count 29 = .ok (.ifCond .ne 7, 3) := by decide +kernel
theorem dM_count_32 : decode cM_count 32 = .ok (.iconst 1, 1) := by decide +kernel
theorem dM_count_33 : decode cM_count 33 = .ok (.goto 4, 3) := by decide +kernel
theorem dM_count_36 : decode cM_count 36 = .ok (.iconst 0, 1) := by decide +kernel
theorem dM_count_37 : decode cM_count 37 = .ok (.iadd, 1) := by decide +kernel
theorem dM_count_38 : decode cM_count 38 = .ok (.istore_n 2, 1) := by decide +kernel
theorem dM_count_39 : decode cM_count 39 = .ok (.iload_n 3, 1) := by decide +kernel
theorem dM_count_40 : decode cM_count 40 = .ok (.aload_n 0, 1) := by decide +kernel
theorem dM_count_41 : decode cM_count 41 = .ok (.getfield 32, 3) := by decide +kernel
theorem dM_count_44 : decode cM_count 44 = .ok (.iload 4, 2) := by decide +kernel
theorem dM_count_46 : decode cM_count 46 = .ok (.baload, 1) := by decide +kernel
theorem dM_count_47 : decode cM_count 47 = .ok (.ifCond .eq 7, 3) := by decide +kernel
theorem dM_count_50 : decode cM_count 50 = .ok (.iconst 1, 1) := by decide +kernel
theorem dM_count_51 : decode cM_count 51 = .ok (.goto 4, 3) := by decide +kernel
theorem dM_count_54 : decode cM_count 54 = .ok (.iconst 0, 1) := by decide +kernel
theorem dM_count_55 : decode cM_count 55 = .ok (.iadd, 1) := by decide +kernel
theorem dM_count_56 : decode cM_count 56 = .ok (.istore_n 3, 1) := by decide +kernel
theorem dM_count_57 : decode cM_count 57 = .ok (.iinc 4 1, 3) := by decide +kernel
theorem dM_count_60 : decode cM_count 60 = .ok (.goto (-48), 3) := by decide +kernel
theorem dM_count_63 : decode cM_count 63 = .ok (.iload_n 1, 1) := by decide +kernel
theorem dM_count_64 : decode cM_count 64 = .ok (.ifCond .ne 10, 3) := by decide +kernel
theorem dM_count_67 : decode cM_count 67 = .ok (.aload_n 0, 1) := by decide +kernel
theorem dM_count_68 : decode cM_count 68 = .ok (.getfield 43, 3) := by decide +kernel
theorem dM_count_71 : decode cM_count 71 = .ok (.goto 34, 3) := by decide +kernel
theorem dM_count_74 : decode cM_count 74 = .ok (.iload_n 1, 1) := by decide +kernel
theorem dM_count_75 : decode cM_count 75 = .ok (.iconst 1, 1) := by decide +kernel
theorem dM_count_76 : decode cM_count 76 = .ok (.if_icmp .ne 10, 3) := by decide +kernel
theorem dM_count_79 : decode cM_count 79 = .ok (.aload_n 0, 1) := by decide +kernel
theorem dM_count_80 : decode cM_count 80 = .ok (.getfield 46, 3) := by decide +kernel
theorem dM_count_83 : decode cM_count 83 = .ok (.goto 22, 3) := by decide +kernel
theorem dM_count_86 : decode cM_count 86 = .ok (.iload_n 1, 1) := by decide +kernel
theorem dM_count_87 : decode cM_count 87 = .ok (.iconst 2, 1) := by decide +kernel
theorem dM_count_88 : decode cM_count 88 = .ok (.if_icmp .ne 7, 3) := by decide +kernel
theorem dM_count_91 : decode cM_count 91 = .ok (.iload_n 2, 1) := by decide +kernel
theorem dM_count_92 : decode cM_count 92 = .ok (.goto 13, 3) := by decide +kernel
theorem dM_count_95 : decode cM_count 95 = .ok (.iload_n 1, 1) := by decide +kernel
theorem dM_count_96 : decode cM_count 96 = .ok (.iconst 3, 1) := by decide +kernel
theorem dM_count_97 : decode cM_count 97 = .ok (.if_icmp .ne 7, 3) := by decide +kernel
theorem dM_count_100 : decode cM_count 100 = .ok (.iload_n 3, 1) := by decide +kernel
theorem dM_count_101 : decode cM_count 101 = .ok (.goto 4, 3) := by decide +kernel
theorem dM_count_104 : decode cM_count 104 = .ok (.iconst (-1), 1) := by decide +kernel
theorem dM_count_105 : decode cM_count 105 = .ok (.ireturn, 1) := by decide +kernel
