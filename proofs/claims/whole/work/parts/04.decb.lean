theorem dX11_init_0 : decode cX11_init 0 = .ok (.aload_n 0, 1) := by decide +kernel
theorem dX11_init_1 : decode cX11_init 1 = .ok (.invokespecial 1, 3) := by decide +kernel
theorem dX11_init_4 : decode cX11_init 4 = .ok (.aload_n 0, 1) := by decide +kernel
theorem dX11_init_5 : decode cX11_init 5 = .ok (.iconst 2, 1) := by decide +kernel
theorem dX11_init_6 : decode cX11_init 6 = .ok (.putfield 7, 3) := by decide +kernel
theorem dX11_init_9 : decode cX11_init 9 = .ok (.aload_n 0, 1) := by decide +kernel
theorem dX11_init_10 : decode cX11_init 10 = .ok (.bipush 16, 2) := by decide +kernel
theorem dX11_init_12 : decode cX11_init 12 = .ok (.newarray .int, 2) := by decide +kernel
theorem dX11_init_14 : decode cX11_init 14 = .ok (.putfield 13, 3) := by decide +kernel
theorem dX11_init_17 : decode cX11_init 17 = .ok (.aload_n 0, 1) := by decide +kernel
theorem dX11_init_18 : decode cX11_init 18 = .ok (.bipush 16, 2) := by decide +kernel
theorem dX11_init_20 : decode cX11_init 20 = .ok (.newarray .int, 2) := by decide +kernel
theorem dX11_init_22 : decode cX11_init 22 = .ok (.putfield 17, 3) := by decide +kernel
theorem dX11_init_25 : decode cX11_init 25 = .ok (.aload_n 0, 1) := by decide +kernel
theorem dX11_init_26 : decode cX11_init 26 = .ok (.sipush 2048, 3) := by decide +kernel
theorem dX11_init_29 : decode cX11_init 29 = .ok (.newarray .int, 2) := by decide +kernel
theorem dX11_init_31 : decode cX11_init 31 = .ok (.putfield 20, 3) := by decide +kernel
theorem dX11_init_34 : decode cX11_init 34 = .ok (.aload_n 0, 1) := by decide +kernel
theorem dX11_init_35 : decode cX11_init 35 = .ok (.sipush 16384, 3) := by decide +kernel
theorem dX11_init_38 : decode cX11_init 38 = .ok (.newarray .int, 2) := by decide +kernel
theorem dX11_init_40 : decode cX11_init 40 = .ok (.putfield 23, 3) := by decide +kernel
theorem dX11_init_43 : decode cX11_init 43 = .ok (.aload_n 0, 1) := by decide +kernel
theorem dX11_init_44 : decode cX11_init 44 = .ok (.sipush 2048, 3) := by decide +kernel
theorem dX11_init_47 : decode cX11_init 47 = .ok (.newarray .boolean, 2) := by decide +kernel
theorem dX11_init_49 : decode cX11_init 49 = .ok (.putfield 26, 3) := by decide +kernel
theorem dX11_init_52 : decode cX11_init 52 = .ok (.aload_n 0, 1) := by decide +kernel
theorem dX11_init_53 : decode cX11_init 53 = .ok (.bipush 56, 2) := by decide +kernel
theorem dX11_init_55 : decode cX11_init 55 = .ok (.newarray .int, 2) := by decide +kernel
theorem dX11_init_57 : decode cX11_init 57 = .ok (.putfield 30, 3) := by decide +kernel
theorem dX11_init_60 : decode cX11_init 60 = .ok (.aload_n 0, 1) := by decide +kernel
theorem dX11_init_61 : decode cX11_init 61 = .ok (.bipush 56, 2) := by decide +kernel
theorem dX11_init_63 : decode cX11_init 63 = .ok (.newarray .int, 2) := by decide +kernel
theorem dX11_init_65 : decode cX11_init 65 = .ok (.putfield 33, 3) := by decide +kernel
theorem dX11_init_68 : decode cX11_init 68 = .ok (.aload_n 0, 1) := by decide +kernel
theorem dX11_init_69 : decode cX11_init 69 = .ok (.bipush 56, 2) := by decide +kernel
theorem dX11_init_71 : decode cX11_init 71 = .ok (.newarray .int, 2) := by decide +kernel
theorem dX11_init_73 : decode cX11_init 73 = .ok (.putfield 36, 3) := by decide +kernel
theorem dX11_init_76 : decode cX11_init 76 = .ok (.aload_n 0, 1) := by decide +kernel
theorem dX11_init_77 : decode cX11_init 77 = .ok (.bipush 20, 2) := by decide +kernel
theorem dX11_init_79 : decode cX11_init 79 = .ok (.newarray .int, 2) := by decide +kernel
theorem dX11_init_81 : decode cX11_init 81 = .ok (.putfield 39, 3) := by decide +kernel
theorem dX11_init_84 : decode cX11_init 84 = .ok (.aload_n 0, 1) := by decide +kernel
theorem dX11_init_85 : decode cX11_init 85 = .ok (.bipush 20, 2) := by decide +kernel
theorem dX11_init_87 : decode cX11_init 87 = .ok (.newarray .int, 2) := by decide +kernel
theorem dX11_init_89 : decode cX11_init 89 = .ok (.putfield 42, 3) := by decide +kernel
theorem dX11_init_92 : decode cX11_init 92 = .ok (.aload_n 0, 1) := by decide +kernel
theorem dX11_init_93 : decode cX11_init 93 = .ok (.bipush 20, 2) := by decide +kernel
theorem dX11_init_95 : decode cX11_init 95 = .ok (.newarray .int, 2) := by decide +kernel
theorem dX11_init_97 : decode cX11_init 97 = .ok (.putfield 45, 3) := by decide +kernel
theorem dX11_init_100 : decode cX11_init 100 = .ok (.aload_n 0, 1) := by decide +kernel
theorem dX11_init_101 : decode cX11_init 101 = .ok (.bipush 20, 2) := by decide +kernel
theorem dX11_init_103 : decode cX11_init 103 = .ok (.newarray .int, 2) := by decide +kernel
theorem dX11_init_105 : decode cX11_init 105 = .ok (.putfield 48, 3) := by decide +kernel
theorem dX11_init_108 : decode cX11_init 108 = .ok (.aload_n 0, 1) := by decide +kernel
theorem dX11_init_109 : decode cX11_init 109 = .ok (.ldc 51, 2) := by decide +kernel
theorem dX11_init_111 : decode cX11_init 111 = .ok (.newarray .int, 2) := by decide +kernel
theorem dX11_init_113 : decode cX11_init 113 = .ok (.putfield 52, 3) := by decide +kernel
theorem dX11_init_116 : decode cX11_init 116 = .ok (.aload_n 0, 1) := by decide +kernel
theorem dX11_init_117 : decode cX11_init 117 = .ok (.sipush 4000, 3) := by decide +kernel
theorem dX11_init_120 : decode cX11_init 120 = .ok (.newarray .long, 2) := by decide +kernel
theorem dX11_init_122 : decode cX11_init 122 = .ok (.putfield 55, 3) := by decide +kernel
theorem dX11_init_125 : decode cX11_init 125 = .ok (.aload_n 0, 1) := by decide +kernel
theorem dX11_init_126 : decode cX11_init 126 = .ok (.sipush 4000, 3) := by decide +kernel
theorem dX11_init_129 : decode cX11_init 129 = .ok (.newarray .int, 2) := by decide +kernel
theorem dX11_init_131 : decode cX11_init 131 = .ok (.putfield 59, 3) := by decide +kernel
theorem dX11_init_134 : decode cX11_init 134 = .ok (.aload_n 0, 1) := by decide +kernel
theorem dX11_init_135 : decode cX11_init 135 = .ok (.sipush 4000, 3) := by decide +kernel
theorem dX11_init_138 : decode cX11_init 138 = .ok (.newarray .int, 2) := by decide +kernel
theorem dX11_init_140 : decode cX11_init 140 = .ok (.putfield 62, 3) := by decide +kernel
theorem dX11_init_143 : decode cX11_init 143 = .ok (.aload_n 0, 1) := by decide +kernel
theorem dX11_init_144 : decode cX11_init 144 = .ok (.sipush 4000, 3) := by decide +kernel
theorem dX11_init_147 : decode cX11_init 147 = .ok (.newarray .int, 2) := by decide +kernel
theorem dX11_init_149 : decode cX11_init 149 = .ok (.putfield 65, 3) := by decide +kernel
theorem dX11_init_152 : decode cX11_init 152 = .ok (.aload_n 0, 1) := by decide +kernel
theorem dX11_init_153 : decode cX11_init 153 = .ok (.ldc 68, 2) := by decide +kernel
theorem dX11_init_155 : decode cX11_init 155 = .ok (.newarray .int, 2) := by decide +kernel
theorem dX11_init_157 : decode cX11_init 157 = .ok (.putfield 69, 3) := by decide +kernel
theorem dX11_init_160 : decode cX11_init 160 = .ok (.aload_n 0, 1) := by decide +kernel
theorem dX11_init_161 : decode cX11_init 161 = .ok (.sipush 4000, 3) := by decide +kernel
theorem dX11_init_164 : decode cX11_init 164 = .ok (.newarray .boolean, 2) := by decide +kernel
theorem dX11_init_166 : decode cX11_init 166 = .ok (.putfield 72, 3) := by decide +kernel
theorem dX11_init_169 : decode cX11_init 169 = .ok (.aload_n 0, 1) := by decide +kernel
theorem dX11_init_170 : decode cX11_init 170 = .ok (.sipush 4000, 3) := by decide +kernel
theorem dX11_init_173 : decode cX11_init 173 = .ok (.newarray .boolean, 2) := by decide +kernel
theorem dX11_init_175 : decode cX11_init 175 = .ok (.putfield 75, 3) := by decide +kernel
theorem dX11_init_178 : decode cX11_init 178 = .ok (.aload_n 0, 1) := by decide +kernel
theorem dX11_init_179 : decode cX11_init 179 = .ok (.sipush 200, 3) := by decide +kernel
theorem dX11_init_182 : decode cX11_init 182 = .ok (.newarray .int, 2) := by decide +kernel
theorem dX11_init_184 : decode cX11_init 184 = .ok (.putfield 78, 3) := by decide +kernel
theorem dX11_init_187 : decode cX11_init 187 = .ok (.aload_n 0, 1) := by decide +kernel
theorem dX11_init_188 : decode cX11_init 188 = .ok (.sipush 200, 3) := by decide +kernel
theorem dX11_init_191 : decode cX11_init 191 = .ok (.newarray .int, 2) := by decide +kernel
theorem dX11_init_193 : decode cX11_init 193 = .ok (.putfield 81, 3) := by decide +kernel
theorem dX11_init_196 : decode cX11_init 196 = .ok (.aload_n 0, 1) := by decide +kernel
theorem dX11_init_197 : decode cX11_init 197 = .ok (.sipush 200, 3) := by decide +kernel
theorem dX11_init_200 : decode cX11_init 200 = .ok (.newarray .int, 2) := by decide +kernel
theorem dX11_init_202 : decode cX11_init 202 = .ok (.putfield 84, 3) := by decide +kernel
theorem dX11_init_205 : decode cX11_init 205 = .ok (.aload_n 0, 1) := by decide +kernel
theorem dX11_init_206 : decode cX11_init 206 = .ok (.iconst 1, 1) := by decide +kernel
theorem dX11_init_207 : decode cX11_init 207 = .ok (.putfield 87, 3) := by decide +kernel
theorem dX11_init_210 : decode cX11_init 210 = .ok (.iconst 0, 1) := by decide +kernel
theorem dX11_init_211 : decode cX11_init 211 = .ok (.istore_n 1, 1) := by decide +kernel
theorem dX11_init_212 : decode cX11_init 212 = .ok (.iload_n 1, 1) := by decide +kernel
theorem dX11_init_213 : decode cX11_init 213 = .ok (.sipush 2048, 3) := by decide +kernel
theorem dX11_init_216 : decode cX11_init 216 = .ok (.if_icmp .ge 16, 3) := by decide +kernel
theorem dX11_init_219 : decode cX11_init 219 = .ok (.aload_n 0, 1) := by decide +kernel
theorem dX11_init_220 : decode cX11_init 220 = .ok (.getfield 20, 3) := by decide +kernel
theorem dX11_init_223 : decode cX11_init 223 = .ok (.iload_n 1, 1) := by decide +kernel
theorem dX11_init_224 : decode cX11_init 224 = .ok (.iconst (-1), 1) := by decide +kernel
theorem dX11_init_225 : decode cX11_init 225 = .ok (.iastore, 1) := by decide +kernel
theorem dX11_init_226 : decode cX11_init 226 = .ok (.iinc 1 1, 3) := by decide +kernel
theorem dX11_init_229 : decode cX11_init 229 = .ok (.goto (-17), 3) := by decide +kernel
theorem dX11_init_232 : decode cX11_init 232 = .ok (.aload_n 0, 1) := by decide +kernel
theorem dX11_init_233 : decode cX11_init 233 = .ok (.invokevirtual 91, 3) := by decide +kernel
theorem dX11_init_236 : decode cX11_init 236 = .ok (.aload_n 0, 1) := by decide +kernel
theorem dX11_init_237 : decode cX11_init 237 = .ok (.getfield 30, 3) := by decide +kernel
theorem dX11_init_240 : decode cX11_init 240 = .ok (.iconst 0, 1) := by decide +kernel
theorem dX11_init_241 : decode cX11_init 241 = .ok (.aload_n 0, 1) := by decide +kernel
theorem dX11_init_242 : decode cX11_init 242 = .ok (.getfield 33, 3) := by decide +kernel
theorem dX11_init_245 : decode cX11_init 245 = .ok (.iconst 0, 1) := by decide +kernel
theorem dX11_init_246 : decode cX11_init 246 = .ok (.invokestatic 94, 3) := by decide +kernel
theorem dX11_init_249 : decode cX11_init 249 = .ok (.return_, 1) := by decide +kernel
theorem dX11_copy_0 : decode cX11_copy 0 = .ok (.iconst 0, 1) := by decide +kernel
theorem dX11_copy_1 : decode cX11_copy 1 = .ok (.istore 4, 2) := by decide +kernel
theorem dX11_copy_3 : decode cX11_copy 3 = .ok (.iload 4, 2) := by decide +kernel
theorem dX11_copy_5 : decode cX11_copy 5 = .ok (.bipush 56, 2) := by decide +kernel
theorem dX11_copy_7 : decode cX11_copy 7 = .ok (.if_icmp .ge 21, 3) := by decide +kernel
theorem dX11_copy_10 : decode cX11_copy 10 = .ok (.aload_n 2, 1) := by decide +kernel
theorem dX11_copy_11 : decode cX11_copy 11 = .ok (.iload_n 3, 1) := by decide +kernel
theorem dX11_copy_12 : decode cX11_copy 12 = .ok (.iload 4, 2) := by decide +kernel
theorem dX11_copy_14 : decode cX11_copy 14 = .ok (.iadd, 1) := by decide +kernel
theorem dX11_copy_15 : decode cX11_copy 15 = .ok (.aload_n 0, 1) := by decide +kernel
theorem dX11_copy_16 : decode cX11_copy 16 = .ok (.iload_n 1, 1) := by decide +kernel
theorem dX11_copy_17 : decode cX11_copy 17 = .ok (.iload 4, 2) := by decide +kernel
theorem dX11_copy_19 : decode cX11_copy 19 = .ok (.iadd, 1) := by decide +kernel
theorem dX11_copy_20 : decode cX11_copy 20 = .ok (.iaload, 1) := by decide +kernel
theorem dX11_copy_21 : decode cX11_copy 21 = .ok (.iastore, 1) := by decide +kernel
theorem dX11_copy_22 : decode cX11_copy 22 = .ok (.iinc 4 1, 3) := by decide +kernel
theorem dX11_copy_25 : decode cX11_copy 25 = .ok (.goto (-22), 3) := by decide +kernel
theorem dX11_copy_28 : decode cX11_copy 28 = .ok (.return_, 1) := by decide +kernel
theorem dX11_first_0 : decode cX11_first 0 = .ok (.iconst 0, 1) := by decide +kernel
theorem dX11_first_1 : decode cX11_first 1 = .ok (.istore_n 1, 1) := by decide +kernel
theorem dX11_first_2 : decode cX11_first 2 = .ok (.iload_n 1, 1) := by decide +kernel
theorem dX11_first_3 : decode cX11_first 3 = .ok (.bipush 56, 2) := by decide +kernel
theorem dX11_first_5 : decode cX11_first 5 = .ok (.if_icmp .ge 16, 3) := by decide +kernel
theorem dX11_first_8 : decode cX11_first 8 = .ok (.aload_n 0, 1) := by decide +kernel
theorem dX11_first_9 : decode cX11_first 9 = .ok (.getfield 30, 3) := by decide +kernel
theorem dX11_first_12 : decode cX11_first 12 = .ok (.iload_n 1, 1) := by decide +kernel
theorem dX11_first_13 : decode cX11_first 13 = .ok (.iconst 0, 1) := by decide +kernel
theorem dX11_first_14 : decode cX11_first 14 = .ok (.iastore, 1) := by decide +kernel
theorem dX11_first_15 : decode cX11_first 15 = .ok (.iinc 1 1, 3) := by decide +kernel
theorem dX11_first_18 : decode cX11_first 18 = .ok (.goto (-16), 3) := by decide +kernel
theorem dX11_first_21 : decode cX11_first 21 = .ok (.aload_n 0, 1) := by decide +kernel
theorem dX11_first_22 : decode cX11_first 22 = .ok (.getfield 30, 3) := by decide +kernel
theorem dX11_first_25 : decode cX11_first 25 = .ok (.bipush 13, 2) := by decide +kernel
theorem dX11_first_27 : decode cX11_first 27 = .ok (.iconst 1, 1) := by decide +kernel
theorem dX11_first_28 : decode cX11_first 28 = .ok (.iastore, 1) := by decide +kernel
theorem dX11_first_29 : decode cX11_first 29 = .ok (.return_, 1) := by decide +kernel
theorem dX11_changed_0 : decode cX11_changed 0 = .ok (.aload_n 0, 1) := by decide +kernel
theorem dX11_changed_1 : decode cX11_changed 1 = .ok (.iconst 1, 1) := by decide +kernel
theorem dX11_changed_2 : decode cX11_changed 2 = .ok (.putfield 87, 3) := by decide +kernel
theorem dX11_changed_5 : decode cX11_changed 5 = .ok (.aload_n 0, 1) := by decide +kernel
theorem dX11_changed_6 : decode cX11_changed 6 = .ok (.invokevirtual 91, 3) := by decide +kernel
theorem dX11_changed_9 : decode cX11_changed 9 = .ok (.aload_n 0, 1) := by decide +kernel
theorem dX11_changed_10 : decode cX11_changed 10 = .ok (.getfield 30, 3) := by decide +kernel
theorem dX11_changed_13 : decode cX11_changed 13 = .ok (.iconst 0, 1) := by decide +kernel
theorem dX11_changed_14 : decode cX11_changed 14 = .ok (.aload_n 0, 1) := by decide +kernel
theorem dX11_changed_15 : decode cX11_changed 15 = .ok (.getfield 33, 3) := by decide +kernel
theorem dX11_changed_18 : decode cX11_changed 18 = .ok (.iconst 0, 1) := by decide +kernel
theorem dX11_changed_19 : decode cX11_changed 19 = .ok (.invokestatic 94, 3) := by decide +kernel
theorem dX11_changed_22 : decode cX11_changed 22 = .ok (.return_, 1) := by decide +kernel
theorem dX11_processors_0 : decode cX11_processors 0 = .ok (.iload_n 1, 1) := by decide +kernel
theorem dX11_processors_1 : decode cX11_processors 1 = .ok (.iconst 1, 1) := by decide +kernel
theorem dX11_processors_2 : decode cX11_processors 2 = .ok (.if_icmp .lt 8, 3) := by decide +kernel
theorem dX11_processors_5 : decode cX11_processors 5 = .ok (.iload_n 1, 1) := by decide +kernel
theorem dX11_processors_6 : decode cX11_processors 6 = .ok (.iconst 4, 1) := by decide +kernel
theorem dX11_processors_7 : decode cX11_processors 7 = .ok (.if_icmp .le 5, 3) := by decide +kernel
theorem dX11_processors_10 : decode cX11_processors 10 = .ok (.iconst (-1), 1) := by decide +kernel
theorem dX11_processors_11 : decode cX11_processors 11 = .ok (.ireturn, 1) := by decide +kernel
theorem dX11_processors_12 : decode cX11_processors 12 = .ok (.aload_n 0, 1) := by decide +kernel
theorem dX11_processors_13 : decode cX11_processors 13 = .ok (.getfield 7, 3) := by decide +kernel
theorem dX11_processors_16 : decode cX11_processors 16 = .ok (.istore_n 2, 1) := by decide +kernel
theorem dX11_processors_17 : decode cX11_processors 17 = .ok (.aload_n 0, 1) := by decide +kernel
theorem dX11_processors_18 : decode cX11_processors 18 = .ok (.iload_n 1, 1) := by decide +kernel
theorem dX11_processors_19 : decode cX11_processors 19 = .ok (.putfield 7, 3) := by decide +kernel
theorem dX11_processors_22 : decode cX11_processors 22 = .ok (.aload_n 0, 1) := by decide +kernel
theorem dX11_processors_23 : decode cX11_processors 23 = .ok (.invokevirtual 98, 3) := by decide +kernel
theorem dX11_processors_26 : decode cX11_processors 26 = .ok (.iload_n 2, 1) := by decide +kernel
theorem dX11_processors_27 : decode cX11_processors 27 = .ok (.ireturn, 1) := by decide +kernel
theorem dX11_net_0 : decode cX11_net 0 = .ok (.iload_n 1, 1) := by decide +kernel
theorem dX11_net_1 : decode cX11_net 1 = .ok (.ifCond .lt 18, 3) := by decide +kernel
theorem dX11_net_4 : decode cX11_net 4 = .ok (.iload_n 1, 1) := by decide +kernel
theorem dX11_net_5 : decode cX11_net 5 = .ok (.bipush 15, 2) := by decide +kernel
theorem dX11_net_7 : decode cX11_net 7 = .ok (.if_icmp .gt 12, 3) := by decide +kernel
theorem dX11_net_10 : decode cX11_net 10 = .ok (.iload_n 2, 1) := by decide +kernel
theorem dX11_net_11 : decode cX11_net 11 = .ok (.ifCond .lt 8, 3) := by decide +kernel
theorem dX11_net_14 : decode cX11_net 14 = .ok (.iload_n 2, 1) := by decide +kernel
theorem dX11_net_15 : decode cX11_net 15 = .ok (.iconst 1, 1) := by decide +kernel
theorem dX11_net_16 : decode cX11_net 16 = .ok (.if_icmp .le 5, 3) := by decide +kernel
theorem dX11_net_19 : decode cX11_net 19 = .ok (.iconst (-1), 1) := by decide +kernel
theorem dX11_net_20 : decode cX11_net 20 = .ok (.ireturn, 1) := by decide +kernel
theorem dX11_net_21 : decode cX11_net 21 = .ok (.aload_n 0, 1) := by decide +kernel
theorem dX11_net_22 : decode cX11_net 22 = .ok (.getfield 13, 3) := by decide +kernel
theorem dX11_net_25 : decode cX11_net 25 = .ok (.iload_n 1, 1) := by decide +kernel
theorem dX11_net_26 : decode cX11_net 26 = .ok (.iaload, 1) := by decide +kernel
theorem dX11_net_27 : decode cX11_net 27 = .ok (.istore_n 3, 1) := by decide +kernel
theorem dX11_net_28 : decode cX11_net 28 = .ok (.aload_n 0, 1) := by decide +kernel
theorem dX11_net_29 : decode cX11_net 29 = .ok (.getfield 13, 3) := by decide +kernel
theorem dX11_net_32 : decode cX11_net 32 = .ok (.iload_n 1, 1) := by decide +kernel
theorem dX11_net_33 : decode cX11_net 33 = .ok (.iload_n 2, 1) := by decide +kernel
theorem dX11_net_34 : decode cX11_net 34 = .ok (.iastore, 1) := by decide +kernel
theorem dX11_net_35 : decode cX11_net 35 = .ok (.aload_n 0, 1) := by decide +kernel
theorem dX11_net_36 : decode cX11_net 36 = .ok (.invokevirtual 98, 3) := by decide +kernel
theorem dX11_net_39 : decode cX11_net 39 = .ok (.iload_n 3, 1) := by decide +kernel
theorem dX11_net_40 : decode cX11_net 40 = .ok (.ireturn, 1) := by decide +kernel
theorem dX11_right_0 : decode cX11_right 0 = .ok (.iload_n 1, 1) := by decide +kernel
theorem dX11_right_1 : decode cX11_right 1 = .ok (.ifCond .lt 18, 3) := by decide +kernel
theorem dX11_right_4 : decode cX11_right 4 = .ok (.iload_n 1, 1) := by decide +kernel
theorem dX11_right_5 : decode cX11_right 5 = .ok (.bipush 15, 2) := by decide +kernel
theorem dX11_right_7 : decode cX11_right 7 = .ok (.if_icmp .gt 12, 3) := by decide +kernel
theorem dX11_right_10 : decode cX11_right 10 = .ok (.iload_n 2, 1) := by decide +kernel
theorem dX11_right_11 : decode cX11_right 11 = .ok (.ifCond .lt 8, 3) := by decide +kernel
theorem dX11_right_14 : decode cX11_right 14 = .ok (.iload_n 2, 1) := by decide +kernel
theorem dX11_right_15 : decode cX11_right 15 = .ok (.iconst 2, 1) := by decide +kernel
theorem dX11_right_16 : decode cX11_right 16 = .ok (.if_icmp .le 5, 3) := by decide +kernel
theorem dX11_right_19 : decode cX11_right 19 = .ok (.iconst (-1), 1) := by decide +kernel
theorem dX11_right_20 : decode cX11_right 20 = .ok (.ireturn, 1) := by decide +kernel
theorem dX11_right_21 : decode cX11_right 21 = .ok (.aload_n 0, 1) := by decide +kernel
theorem dX11_right_22 : decode cX11_right 22 = .ok (.getfield 17, 3) := by decide +kernel
theorem dX11_right_25 : decode cX11_right 25 = .ok (.iload_n 1, 1) := by decide +kernel
theorem dX11_right_26 : decode cX11_right 26 = .ok (.iaload, 1) := by decide +kernel
theorem dX11_right_27 : decode cX11_right 27 = .ok (.istore_n 3, 1) := by decide +kernel
theorem dX11_right_28 : decode cX11_right 28 = .ok (.aload_n 0, 1) := by decide +kernel
theorem dX11_right_29 : decode cX11_right 29 = .ok (.getfield 17, 3) := by decide +kernel
theorem dX11_right_32 : decode cX11_right 32 = .ok (.iload_n 1, 1) := by decide +kernel
theorem dX11_right_33 : decode cX11_right 33 = .ok (.iload_n 2, 1) := by decide +kernel
theorem dX11_right_34 : decode cX11_right 34 = .ok (.iastore, 1) := by decide +kernel
theorem dX11_right_35 : decode cX11_right 35 = .ok (.aload_n 0, 1) := by decide +kernel
theorem dX11_right_36 : decode cX11_right 36 = .ok (.invokevirtual 98, 3) := by decide +kernel
theorem dX11_right_39 : decode cX11_right 39 = .ok (.iload_n 3, 1) := by decide +kernel
theorem dX11_right_40 : decode cX11_right 40 = .ok (.ireturn, 1) := by decide +kernel
theorem dX11_placeOf_0 : decode cX11_placeOf 0 = .ok (.iload_n 0, 1) := by decide +kernel
theorem dX11_placeOf_1 : decode cX11_placeOf 1 = .ok (.ifCond .ge 5, 3) := by decide +kernel
theorem dX11_placeOf_4 : decode cX11_placeOf 4 = .ok (.iconst (-1), 1) := by decide +kernel
theorem dX11_placeOf_5 : decode cX11_placeOf 5 = .ok (.ireturn, 1) := by decide +kernel
theorem dX11_placeOf_6 : decode cX11_placeOf 6 = .ok (.iload_n 0, 1) := by decide +kernel
theorem dX11_placeOf_7 : decode cX11_placeOf 7 = .ok (.bipush 16, 2) := by decide +kernel
theorem dX11_placeOf_9 : decode cX11_placeOf 9 = .ok (.idiv, 1) := by decide +kernel
theorem dX11_placeOf_10 : decode cX11_placeOf 10 = .ok (.istore_n 1, 1) := by decide +kernel
theorem dX11_placeOf_11 : decode cX11_placeOf 11 = .ok (.iload_n 1, 1) := by decide +kernel
theorem dX11_placeOf_12 : decode cX11_placeOf 12 = .ok (.sipush 1024, 3) := by decide +kernel
theorem dX11_placeOf_15 : decode cX11_placeOf 15 = .ok (.idiv, 1) := by decide +kernel
theorem dX11_placeOf_16 : decode cX11_placeOf 16 = .ok (.istore_n 2, 1) := by decide +kernel
theorem dX11_placeOf_17 : decode cX11_placeOf 17 = .ok (.iload_n 1, 1) := by decide +kernel
theorem dX11_placeOf_18 : decode cX11_placeOf 18 = .ok (.bipush 64, 2) := by decide +kernel
theorem dX11_placeOf_20 : decode cX11_placeOf 20 = .ok (.irem, 1) := by decide +kernel
theorem dX11_placeOf_21 : decode cX11_placeOf 21 = .ok (.istore_n 3, 1) := by decide +kernel
theorem dX11_placeOf_22 : decode cX11_placeOf 22 = .ok (.iload_n 2, 1) := by decide +kernel
theorem dX11_placeOf_23 : decode cX11_placeOf 23 = .ok (.iconst 1, 1) := by decide +kernel
theorem dX11_placeOf_24 : decode cX11_placeOf 24 = .ok (.if_icmp .gt 19, 3) := by decide +kernel
theorem dX11_placeOf_27 : decode cX11_placeOf 27 = .ok (.iload_n 2, 1) := by decide +kernel
theorem dX11_placeOf_28 : decode cX11_placeOf 28 = .ok (.ifCond .ne 9, 3) := by decide +kernel
theorem dX11_placeOf_31 : decode cX11_placeOf 31 = .ok (.iload_n 3, 1) := by decide +kernel
theorem dX11_placeOf_32 : decode cX11_placeOf 32 = .ok (.bipush 18, 2) := by decide +kernel
theorem dX11_placeOf_34 : decode cX11_placeOf 34 = .ok (.if_icmp .gt 9, 3) := by decide +kernel
theorem dX11_placeOf_37 : decode cX11_placeOf 37 = .ok (.iload_n 3, 1) := by decide +kernel
theorem dX11_placeOf_38 : decode cX11_placeOf 38 = .ok (.bipush 31, 2) := by decide +kernel
theorem dX11_placeOf_40 : decode cX11_placeOf 40 = .ok (.if_icmp .le 7, 3) := by decide +kernel
theorem dX11_placeOf_43 : decode cX11_placeOf 43 = .ok (.iconst (-1), 1) := by decide +kernel
theorem dX11_placeOf_44 : decode cX11_placeOf 44 = .ok (.goto 4, 3) := by decide +kernel
theorem dX11_placeOf_47 : decode cX11_placeOf 47 = .ok (.iload_n 1, 1) := by decide +kernel
theorem dX11_placeOf_48 : decode cX11_placeOf 48 = .ok (.ireturn, 1) := by decide +kernel
theorem dX11_row_0 : decode cX11_row 0 = .ok (.iload_n 1, 1) := by decide +kernel
theorem dX11_row_1 : decode cX11_row 1 = .ok (.invokestatic 101, 3) := by decide +kernel
theorem dX11_row_4 : decode cX11_row 4 = .ok (.istore 4, 2) := by decide +kernel
theorem dX11_row_6 : decode cX11_row 6 = .ok (.iload_n 1, 1) := by decide +kernel
theorem dX11_row_7 : decode cX11_row 7 = .ok (.bipush 16, 2) := by decide +kernel
theorem dX11_row_9 : decode cX11_row 9 = .ok (.irem, 1) := by decide +kernel
theorem dX11_row_10 : decode cX11_row 10 = .ok (.istore 5, 2) := by decide +kernel
theorem dX11_row_12 : decode cX11_row 12 = .ok (.iload 4, 2) := by decide +kernel
theorem dX11_row_14 : decode cX11_row 14 = .ok (.ifCond .lt 10, 3) := by decide +kernel
theorem dX11_row_17 : decode cX11_row 17 = .ok (.iload 5, 2) := by decide +kernel
theorem dX11_row_19 : decode cX11_row 19 = .ok (.bipush 8, 2) := by decide +kernel
theorem dX11_row_21 : decode cX11_row 21 = .ok (.if_icmp .le 5, 3) := by decide +kernel
theorem dX11_row_24 : decode cX11_row 24 = .ok (.iconst (-1), 1) := by decide +kernel
theorem dX11_row_25 : decode cX11_row 25 = .ok (.ireturn, 1) := by decide +kernel
theorem dX11_row_26 : decode cX11_row 26 = .ok (.aload_n 0, 1) := by decide +kernel
theorem dX11_row_27 : decode cX11_row 27 = .ok (.getfield 20, 3) := by decide +kernel
theorem dX11_row_30 : decode cX11_row 30 = .ok (.iload 4, 2) := by decide +kernel
theorem dX11_row_32 : decode cX11_row 32 = .ok (.iaload, 1) := by decide +kernel
theorem dX11_row_33 : decode cX11_row 33 = .ok (.ifCond .lt 7, 3) := by decide +kernel
theorem dX11_row_36 : decode cX11_row 36 = .ok (.iconst 1, 1) := by decide +kernel
theorem dX11_row_37 : decode cX11_row 37 = .ok (.goto 4, 3) := by decide +kernel
theorem dX11_row_40 : decode cX11_row 40 = .ok (.iconst 0, 1) := by decide +kernel
theorem dX11_row_41 : decode cX11_row 41 = .ok (.istore 6, 2) := by decide +kernel
theorem dX11_row_43 : decode cX11_row 43 = .ok (.aload_n 0, 1) := by decide +kernel
theorem dX11_row_44 : decode cX11_row 44 = .ok (.getfield 20, 3) := by decide +kernel
theorem dX11_row_47 : decode cX11_row 47 = .ok (.iload 4, 2) := by decide +kernel
theorem dX11_row_49 : decode cX11_row 49 = .ok (.iload 5, 2) := by decide +kernel
theorem dX11_row_51 : decode cX11_row 51 = .ok (.iastore, 1) := by decide +kernel
theorem dX11_row_52 : decode cX11_row 52 = .ok (.iconst 0, 1) := by decide +kernel
theorem dX11_row_53 : decode cX11_row 53 = .ok (.istore 7, 2) := by decide +kernel
theorem dX11_row_55 : decode cX11_row 55 = .ok (.iload 7, 2) := by decide +kernel
theorem dX11_row_57 : decode cX11_row 57 = .ok (.iload 5, 2) := by decide +kernel
theorem dX11_row_59 : decode cX11_row 59 = .ok (.if_icmp .ge 52, 3) := by decide +kernel
theorem dX11_row_62 : decode cX11_row 62 = .ok (.iload 7, 2) := by decide +kernel
theorem dX11_row_64 : decode cX11_row 64 = .ok (.iconst 4, 1) := by decide +kernel
theorem dX11_row_65 : decode cX11_row 65 = .ok (.if_icmp .ge 7, 3) := by decide +kernel
theorem dX11_row_68 : decode cX11_row 68 = .ok (.iload_n 2, 1) := by decide +kernel
theorem dX11_row_69 : decode cX11_row 69 = .ok (.goto 4, 3) := by decide +kernel
theorem dX11_row_72 : decode cX11_row 72 = .ok (.iload_n 3, 1) := by decide +kernel
theorem dX11_row_73 : decode cX11_row 73 = .ok (.istore 8, 2) := by decide +kernel
theorem dX11_row_75 : decode cX11_row 75 = .ok (.aload_n 0, 1) := by decide +kernel
theorem dX11_row_76 : decode cX11_row 76 = .ok (.getfield 23, 3) := by decide +kernel
theorem dX11_row_79 : decode cX11_row 79 = .ok (.bipush 8, 2) := by decide +kernel
theorem dX11_row_81 : decode cX11_row 81 = .ok (.iload 4, 2) := by decide +kernel
theorem dX11_row_83 : decode cX11_row 83 = .ok (.imul, 1) := by decide +kernel
theorem dX11_row_84 : decode cX11_row 84 = .ok (.iload 7, 2) := by decide +kernel
theorem dX11_row_86 : decode cX11_row 86 = .ok (.iadd, 1) := by decide +kernel
theorem dX11_row_87 : decode cX11_row 87 = .ok (.iload 8, 2) := by decide +kernel
theorem dX11_row_89 : decode cX11_row 89 = .ok (.bipush 24, 2) := by decide +kernel
theorem dX11_row_91 : decode cX11_row 91 = .ok (.bipush 8, 2) := by decide +kernel
theorem dX11_row_93 : decode cX11_row 93 = .ok (.iload 7, 2) := by decide +kernel
theorem dX11_row_95 : decode cX11_row 95 = .ok (.iconst 4, 1) := by decide +kernel
theorem dX11_row_96 : decode cX11_row 96 = .ok (.irem, 1) := by decide +kernel
theorem dX11_row_97 : decode cX11_row 97 = .ok (.imul, 1) := by decide +kernel
theorem dX11_row_98 : decode cX11_row 98 = .ok (.isub, 1) := by decide +kernel
theorem dX11_row_99 : decode cX11_row 99 = .ok (.ishr, 1) := by decide +kernel
theorem dX11_row_100 : decode cX11_row 100 = .ok (.sipush 255, 3) := by decide +kernel
theorem dX11_row_103 : decode cX11_row 103 = .ok (.iand, 1) := by decide +kernel
theorem dX11_row_104 : decode cX11_row 104 = .ok (.iastore, 1) := by decide +kernel
theorem dX11_row_105 : decode cX11_row 105 = .ok (.iinc 7 1, 3) := by decide +kernel
theorem dX11_row_108 : decode cX11_row 108 = .ok (.goto (-53), 3) := by decide +kernel
theorem dX11_row_111 : decode cX11_row 111 = .ok (.aload_n 0, 1) := by decide +kernel
theorem dX11_row_112 : decode cX11_row 112 = .ok (.invokevirtual 98, 3) := by decide +kernel
theorem dX11_row_115 : decode cX11_row 115 = .ok (.iload 6, 2) := by decide +kernel
theorem dX11_row_117 : decode cX11_row 117 = .ok (.ireturn, 1) := by decide +kernel
theorem dX11_tear_0 : decode cX11_tear 0 = .ok (.iload_n 1, 1) := by decide +kernel
theorem dX11_tear_1 : decode cX11_tear 1 = .ok (.invokestatic 101, 3) := by decide +kernel
theorem dX11_tear_4 : decode cX11_tear 4 = .ok (.istore_n 2, 1) := by decide +kernel
theorem dX11_tear_5 : decode cX11_tear 5 = .ok (.iload_n 2, 1) := by decide +kernel
theorem dX11_tear_6 : decode cX11_tear 6 = .ok (.ifCond .ge 5, 3) := by decide +kernel
theorem dX11_tear_9 : decode cX11_tear 9 = .ok (.iconst (-1), 1) := by decide +kernel
theorem dX11_tear_10 : decode cX11_tear 10 = .ok (.ireturn, 1) := by decide +kernel
theorem dX11_tear_11 : decode cX11_tear 11 = .ok (.aload_n 0, 1) := by decide +kernel
theorem dX11_tear_12 : decode cX11_tear 12 = .ok (.getfield 20, 3) := by decide +kernel
theorem dX11_tear_15 : decode cX11_tear 15 = .ok (.iload_n 2, 1) := by decide +kernel
theorem dX11_tear_16 : decode cX11_tear 16 = .ok (.iaload, 1) := by decide +kernel
theorem dX11_tear_17 : decode cX11_tear 17 = .ok (.ifCond .lt 7, 3) := by decide +kernel
theorem dX11_tear_20 : decode cX11_tear 20 = .ok (.iconst 1, 1) := by decide +kernel
theorem dX11_tear_21 : decode cX11_tear 21 = .ok (.goto 4, 3) := by decide +kernel
theorem dX11_tear_24 : decode cX11_tear 24 = .ok (.iconst 0, 1) := by decide +kernel
theorem dX11_tear_25 : decode cX11_tear 25 = .ok (.istore_n 3, 1) := by decide +kernel
theorem dX11_tear_26 : decode cX11_tear 26 = .ok (.aload_n 0, 1) := by decide +kernel
theorem dX11_tear_27 : decode cX11_tear 27 = .ok (.getfield 20, 3) := by decide +kernel
theorem dX11_tear_30 : decode cX11_tear 30 = .ok (.iload_n 2, 1) := by decide +kernel
theorem dX11_tear_31 : decode cX11_tear 31 = .ok (.iconst (-1), 1) := by decide +kernel
theorem dX11_tear_32 : decode cX11_tear 32 = .ok (.iastore, 1) := by decide +kernel
theorem dX11_tear_33 : decode cX11_tear 33 = .ok (.aload_n 0, 1) := by decide +kernel
theorem dX11_tear_34 : decode cX11_tear 34 = .ok (.invokevirtual 98, 3) := by decide +kernel
theorem dX11_tear_37 : decode cX11_tear 37 = .ok (.iload_n 3, 1) := by decide +kernel
theorem dX11_tear_38 : decode cX11_tear 38 = .ok (.ireturn, 1) := by decide +kernel
theorem dX11_rows_0 : decode cX11_rows 0 = .ok (.iload_n 1, 1) := by decide +kernel
theorem dX11_rows_1 : decode cX11_rows 1 = .ok (.ifCond .lt 8, 3) := by decide +kernel
theorem dX11_rows_4 : decode cX11_rows 4 = .ok (.iload_n 1, 1) := by decide +kernel
theorem dX11_rows_5 : decode cX11_rows 5 = .ok (.iconst 1, 1) := by decide +kernel
theorem dX11_rows_6 : decode cX11_rows 6 = .ok (.if_icmp .le 5, 3) := by decide +kernel
theorem dX11_rows_9 : decode cX11_rows 9 = .ok (.iconst (-1), 1) := by decide +kernel
theorem dX11_rows_10 : decode cX11_rows 10 = .ok (.ireturn, 1) := by decide +kernel
theorem dX11_rows_11 : decode cX11_rows 11 = .ok (.iconst 0, 1) := by decide +kernel
theorem dX11_rows_12 : decode cX11_rows 12 = .ok (.istore_n 2, 1) := by decide +kernel
theorem dX11_rows_13 : decode cX11_rows 13 = .ok (.iconst 0, 1) := by decide +kernel
theorem dX11_rows_14 : decode cX11_rows 14 = .ok (.istore_n 3, 1) := by decide +kernel
theorem dX11_rows_15 : decode cX11_rows 15 = .ok (.iload_n 3, 1) := by decide +kernel
theorem dX11_rows_16 : decode cX11_rows 16 = .ok (.sipush 1024, 3) := by decide +kernel
theorem dX11_rows_19 : decode cX11_rows 19 = .ok (.if_icmp .ge 32, 3) := by decide +kernel
theorem dX11_rows_22 : decode cX11_rows 22 = .ok (.iload_n 2, 1) := by decide +kernel
theorem dX11_rows_23 : decode cX11_rows 23 = .ok (.aload_n 0, 1) := by decide +kernel
theorem dX11_rows_24 : decode cX11_rows 24 = .ok (.getfield 20, 3) := by decide +kernel
theorem dX11_rows_27 : decode cX11_rows 27 = .ok (.sipush 1024, 3) := by decide +kernel
theorem dX11_rows_30 : decode cX11_rows 30 = .ok (.iload_n 1, 1) := by decide +kernel
theorem dX11_rows_31 : decode cX11_rows 31 = .ok (.imul, 1) := by decide +kernel
theorem dX11_rows_32 : decode cX11_rows 32 = .ok (.iload_n 3, 1) := by decide +kernel
theorem dX11_rows_33 : decode cX11_rows 33 = .ok (.iadd, 1) := by decide +kernel
theorem dX11_rows_34 : decode cX11_rows 34 = .ok (.iaload, 1) := by decide +kernel
theorem dX11_rows_35 : decode cX11_rows 35 = .ok (.ifCond .lt 7, 3) := by decide +kernel
theorem dX11_rows_38 : decode cX11_rows 38 = .ok (.iconst 1, 1) := by decide +kernel
theorem dX11_rows_39 : decode cX11_rows 39 = .ok (.goto 4, 3) := by decide +kernel
theorem dX11_rows_42 : decode cX11_rows 42 = .ok (.iconst 0, 1) := by decide +kernel
theorem dX11_rows_43 : decode cX11_rows 43 = .ok (.iadd, 1) := by decide +kernel
theorem dX11_rows_44 : decode cX11_rows 44 = .ok (.istore_n 2, 1) := by decide +kernel
theorem dX11_rows_45 : decode cX11_rows 45 = .ok (.iinc 3 1, 3) := by decide +kernel
theorem dX11_rows_48 : decode cX11_rows 48 = .ok (.goto (-33), 3) := by decide +kernel
theorem dX11_rows_51 : decode cX11_rows 51 = .ok (.iload_n 2, 1) := by decide +kernel
theorem dX11_rows_52 : decode cX11_rows 52 = .ok (.ireturn, 1) := by decide +kernel
theorem dX11_letterAt_0 : decode cX11_letterAt 0 = .ok (.aload_n 0, 1) := by decide +kernel
theorem dX11_letterAt_1 : decode cX11_letterAt 1 = .ok (.getfield 30, 3) := by decide +kernel
theorem dX11_letterAt_4 : decode cX11_letterAt 4 = .ok (.bipush 16, 2) := by decide +kernel
theorem dX11_letterAt_6 : decode cX11_letterAt 6 = .ok (.iconst 5, 1) := by decide +kernel
theorem dX11_letterAt_7 : decode cX11_letterAt 7 = .ok (.iload_n 1, 1) := by decide +kernel
theorem dX11_letterAt_8 : decode cX11_letterAt 8 = .ok (.imul, 1) := by decide +kernel
theorem dX11_letterAt_9 : decode cX11_letterAt 9 = .ok (.iadd, 1) := by decide +kernel
theorem dX11_letterAt_10 : decode cX11_letterAt 10 = .ok (.iload_n 2, 1) := by decide +kernel
theorem dX11_letterAt_11 : decode cX11_letterAt 11 = .ok (.iadd, 1) := by decide +kernel
theorem dX11_letterAt_12 : decode cX11_letterAt 12 = .ok (.iaload, 1) := by decide +kernel
theorem dX11_letterAt_13 : decode cX11_letterAt 13 = .ok (.ireturn, 1) := by decide +kernel
theorem dX11_rowOfLetter_0 : decode cX11_rowOfLetter 0 = .ok (.aload_n 0, 1) := by decide +kernel
theorem dX11_rowOfLetter_1 : decode cX11_rowOfLetter 1 = .ok (.iload_n 1, 1) := by decide +kernel
theorem dX11_rowOfLetter_2 : decode cX11_rowOfLetter 2 = .ok (.iconst 0, 1) := by decide +kernel
theorem dX11_rowOfLetter_3 : decode cX11_rowOfLetter 3 = .ok (.invokevirtual 105, 3) := by decide +kernel
theorem dX11_rowOfLetter_6 : decode cX11_rowOfLetter 6 = .ok (.istore_n 2, 1) := by decide +kernel
theorem dX11_rowOfLetter_7 : decode cX11_rowOfLetter 7 = .ok (.aload_n 0, 1) := by decide +kernel
theorem dX11_rowOfLetter_8 : decode cX11_rowOfLetter 8 = .ok (.iload_n 1, 1) := by decide +kernel
theorem dX11_rowOfLetter_9 : decode cX11_rowOfLetter 9 = .ok (.iconst 2, 1) := by decide +kernel
theorem dX11_rowOfLetter_10 : decode cX11_rowOfLetter 10 = .ok (.invokevirtual 105, 3) := by decide +kernel
theorem dX11_rowOfLetter_13 : decode cX11_rowOfLetter 13 = .ok (.istore_n 3, 1) := by decide +kernel
theorem dX11_rowOfLetter_14 : decode cX11_rowOfLetter 14 = .ok (.iload_n 3, 1) := by decide +kernel
theorem dX11_rowOfLetter_15 : decode cX11_rowOfLetter 15 = .ok (.aload_n 0, 1) := by decide +kernel
theorem dX11_rowOfLetter_16 : decode cX11_rowOfLetter 16 = .ok (.getfield 7, 3) := by decide +kernel
theorem dX11_rowOfLetter_19 : decode cX11_rowOfLetter 19 = .ok (.if_icmp .ge 19, 3) := by decide +kernel
theorem dX11_rowOfLetter_22 : decode cX11_rowOfLetter 22 = .ok (.aload_n 0, 1) := by decide +kernel
theorem dX11_rowOfLetter_23 : decode cX11_rowOfLetter 23 = .ok (.getfield 30, 3) := by decide +kernel
theorem dX11_rowOfLetter_26 : decode cX11_rowOfLetter 26 = .ok (.iconst 3, 1) := by decide +kernel
theorem dX11_rowOfLetter_27 : decode cX11_rowOfLetter 27 = .ok (.iload_n 3, 1) := by decide +kernel
theorem dX11_rowOfLetter_28 : decode cX11_rowOfLetter 28 = .ok (.imul, 1) := by decide +kernel
theorem dX11_rowOfLetter_29 : decode cX11_rowOfLetter 29 = .ok (.iaload, 1) := by decide +kernel
theorem dX11_rowOfLetter_30 : decode cX11_rowOfLetter 30 = .ok (.bipush 64, 2) := by decide +kernel
theorem dX11_rowOfLetter_32 : decode cX11_rowOfLetter 32 = .ok (.imul, 1) := by decide +kernel
theorem dX11_rowOfLetter_33 : decode cX11_rowOfLetter 33 = .ok (.iconst 3, 1) := by decide +kernel
theorem dX11_rowOfLetter_34 : decode cX11_rowOfLetter 34 = .ok (.iadd, 1) := by decide +kernel
theorem dX11_rowOfLetter_35 : decode cX11_rowOfLetter 35 = .ok (.iload_n 2, 1) := by decide +kernel
theorem dX11_rowOfLetter_36 : decode cX11_rowOfLetter 36 = .ok (.iadd, 1) := by decide +kernel
theorem dX11_rowOfLetter_37 : decode cX11_rowOfLetter 37 = .ok (.ireturn, 1) := by decide +kernel
theorem dX11_rowOfLetter_38 : decode cX11_rowOfLetter 38 = .ok (.aload_n 0, 1) := by decide +kernel
theorem dX11_rowOfLetter_39 : decode cX11_rowOfLetter 39 = .ok (.getfield 30, 3) := by decide +kernel
theorem dX11_rowOfLetter_42 : decode cX11_rowOfLetter 42 = .ok (.bipush 14, 2) := by decide +kernel
theorem dX11_rowOfLetter_44 : decode cX11_rowOfLetter 44 = .ok (.iaload, 1) := by decide +kernel
theorem dX11_rowOfLetter_45 : decode cX11_rowOfLetter 45 = .ok (.iconst 1, 1) := by decide +kernel
theorem dX11_rowOfLetter_46 : decode cX11_rowOfLetter 46 = .ok (.aload_n 0, 1) := by decide +kernel
theorem dX11_rowOfLetter_47 : decode cX11_rowOfLetter 47 = .ok (.iload_n 1, 1) := by decide +kernel
theorem dX11_rowOfLetter_48 : decode cX11_rowOfLetter 48 = .ok (.iconst 3, 1) := by decide +kernel
theorem dX11_rowOfLetter_49 : decode cX11_rowOfLetter 49 = .ok (.invokevirtual 105, 3) := by decide +kernel
theorem dX11_rowOfLetter_52 : decode cX11_rowOfLetter 52 = .ok (.ishl, 1) := by decide +kernel
theorem dX11_rowOfLetter_53 : decode cX11_rowOfLetter 53 = .ok (.iconst (-1), 1) := by decide +kernel
theorem dX11_rowOfLetter_54 : decode cX11_rowOfLetter 54 = .ok (.ixor, 1) := by decide +kernel
theorem dX11_rowOfLetter_55 : decode cX11_rowOfLetter 55 = .ok (.iand, 1) := by decide +kernel
theorem dX11_rowOfLetter_56 : decode cX11_rowOfLetter 56 = .ok (.istore 4, 2) := by decide +kernel
theorem dX11_rowOfLetter_58 : decode cX11_rowOfLetter 58 = .ok (.sipush 1024, 3) := by decide +kernel
theorem dX11_rowOfLetter_61 : decode cX11_rowOfLetter 61 = .ok (.aload_n 0, 1) := by decide +kernel
theorem dX11_rowOfLetter_62 : decode cX11_rowOfLetter 62 = .ok (.getfield 30, 3) := by decide +kernel
theorem dX11_rowOfLetter_65 : decode cX11_rowOfLetter 65 = .ok (.bipush 12, 2) := by decide +kernel
theorem dX11_rowOfLetter_67 : decode cX11_rowOfLetter 67 = .ok (.iaload, 1) := by decide +kernel
theorem dX11_rowOfLetter_68 : decode cX11_rowOfLetter 68 = .ok (.bipush 64, 2) := by decide +kernel
theorem dX11_rowOfLetter_70 : decode cX11_rowOfLetter 70 = .ok (.imul, 1) := by decide +kernel
theorem dX11_rowOfLetter_71 : decode cX11_rowOfLetter 71 = .ok (.iadd, 1) := by decide +kernel
theorem dX11_rowOfLetter_72 : decode cX11_rowOfLetter 72 = .ok (.iconst 2, 1) := by decide +kernel
theorem dX11_rowOfLetter_73 : decode cX11_rowOfLetter 73 = .ok (.iload_n 2, 1) := by decide +kernel
theorem dX11_rowOfLetter_74 : decode cX11_rowOfLetter 74 = .ok (.imul, 1) := by decide +kernel
theorem dX11_rowOfLetter_75 : decode cX11_rowOfLetter 75 = .ok (.iadd, 1) := by decide +kernel
theorem dX11_rowOfLetter_76 : decode cX11_rowOfLetter 76 = .ok (.iload 4, 2) := by decide +kernel
theorem dX11_rowOfLetter_78 : decode cX11_rowOfLetter 78 = .ok (.ifCond .eq 7, 3) := by decide +kernel
theorem dX11_rowOfLetter_81 : decode cX11_rowOfLetter 81 = .ok (.iconst 1, 1) := by decide +kernel
theorem dX11_rowOfLetter_82 : decode cX11_rowOfLetter 82 = .ok (.goto 4, 3) := by decide +kernel
theorem dX11_rowOfLetter_85 : decode cX11_rowOfLetter 85 = .ok (.iconst 0, 1) := by decide +kernel
theorem dX11_rowOfLetter_86 : decode cX11_rowOfLetter 86 = .ok (.iadd, 1) := by decide +kernel
theorem dX11_rowOfLetter_87 : decode cX11_rowOfLetter 87 = .ok (.ireturn, 1) := by decide +kernel
theorem dX11_waits_0 : decode cX11_waits 0 = .ok (.iconst 0, 1) := by decide +kernel
theorem dX11_waits_1 : decode cX11_waits 1 = .ok (.istore_n 2, 1) := by decide +kernel
theorem dX11_waits_2 : decode cX11_waits 2 = .ok (.iconst 0, 1) := by decide +kernel
theorem dX11_waits_3 : decode cX11_waits 3 = .ok (.istore_n 3, 1) := by decide +kernel
theorem dX11_waits_4 : decode cX11_waits 4 = .ok (.iload_n 3, 1) := by decide +kernel
theorem dX11_waits_5 : decode cX11_waits 5 = .ok (.aload_n 0, 1) := by decide +kernel
theorem dX11_waits_6 : decode cX11_waits 6 = .ok (.getfield 20, 3) := by decide +kernel
theorem dX11_waits_9 : decode cX11_waits 9 = .ok (.iload_n 1, 1) := by decide +kernel
theorem dX11_waits_10 : decode cX11_waits 10 = .ok (.iaload, 1) := by decide +kernel
theorem dX11_waits_11 : decode cX11_waits 11 = .ok (.if_icmp .ge 38, 3) := by decide +kernel
theorem dX11_waits_14 : decode cX11_waits 14 = .ok (.iload_n 2, 1) := by decide +kernel
theorem dX11_waits_15 : decode cX11_waits 15 = .ok (.ifCond .ne 22, 3) := by decide +kernel
theorem dX11_waits_18 : decode cX11_waits 18 = .ok (.aload_n 0, 1) := by decide +kernel
theorem dX11_waits_19 : decode cX11_waits 19 = .ok (.getfield 23, 3) := by decide +kernel
theorem dX11_waits_22 : decode cX11_waits 22 = .ok (.bipush 8, 2) := by decide +kernel
theorem dX11_waits_24 : decode cX11_waits 24 = .ok (.iload_n 1, 1) := by decide +kernel
theorem dX11_waits_25 : decode cX11_waits 25 = .ok (.imul, 1) := by decide +kernel
theorem dX11_waits_26 : decode cX11_waits 26 = .ok (.iload_n 3, 1) := by decide +kernel
theorem dX11_waits_27 : decode cX11_waits 27 = .ok (.iadd, 1) := by decide +kernel
theorem dX11_waits_28 : decode cX11_waits 28 = .ok (.iaload, 1) := by decide +kernel
theorem dX11_waits_29 : decode cX11_waits 29 = .ok (.bipush 16, 2) := by decide +kernel
theorem dX11_waits_31 : decode cX11_waits 31 = .ok (.idiv, 1) := by decide +kernel
theorem dX11_waits_32 : decode cX11_waits 32 = .ok (.bipush 9, 2) := by decide +kernel
theorem dX11_waits_34 : decode cX11_waits 34 = .ok (.if_icmp .ne 7, 3) := by decide +kernel
theorem dX11_waits_37 : decode cX11_waits 37 = .ok (.iconst 1, 1) := by decide +kernel
theorem dX11_waits_38 : decode cX11_waits 38 = .ok (.goto 4, 3) := by decide +kernel
theorem dX11_waits_41 : decode cX11_waits 41 = .ok (.iconst 0, 1) := by decide +kernel
theorem dX11_waits_42 : decode cX11_waits 42 = .ok (.istore_n 2, 1) := by decide +kernel
theorem dX11_waits_43 : decode cX11_waits 43 = .ok (.iinc 3 1, 3) := by decide +kernel
theorem dX11_waits_46 : decode cX11_waits 46 = .ok (.goto (-42), 3) := by decide +kernel
theorem dX11_waits_49 : decode cX11_waits 49 = .ok (.iload_n 2, 1) := by decide +kernel
theorem dX11_waits_50 : decode cX11_waits 50 = .ok (.ireturn, 1) := by decide +kernel
theorem dX11_addStep_0 : decode cX11_addStep 0 = .ok (.aload_n 0, 1) := by decide +kernel
theorem dX11_addStep_1 : decode cX11_addStep 1 = .ok (.getfield 39, 3) := by decide +kernel
theorem dX11_addStep_4 : decode cX11_addStep 4 = .ok (.aload_n 0, 1) := by decide +kernel
theorem dX11_addStep_5 : decode cX11_addStep 5 = .ok (.getfield 109, 3) := by decide +kernel
theorem dX11_addStep_8 : decode cX11_addStep 8 = .ok (.iload_n 1, 1) := by decide +kernel
theorem dX11_addStep_9 : decode cX11_addStep 9 = .ok (.iastore, 1) := by decide +kernel
theorem dX11_addStep_10 : decode cX11_addStep 10 = .ok (.aload_n 0, 1) := by decide +kernel
theorem dX11_addStep_11 : decode cX11_addStep 11 = .ok (.getfield 42, 3) := by decide +kernel
theorem dX11_addStep_14 : decode cX11_addStep 14 = .ok (.aload_n 0, 1) := by decide +kernel
theorem dX11_addStep_15 : decode cX11_addStep 15 = .ok (.getfield 109, 3) := by decide +kernel
theorem dX11_addStep_18 : decode cX11_addStep 18 = .ok (.iload_n 2, 1) := by decide +kernel
theorem dX11_addStep_19 : decode cX11_addStep 19 = .ok (.iastore, 1) := by decide +kernel
theorem dX11_addStep_20 : decode cX11_addStep 20 = .ok (.aload_n 0, 1) := by decide +kernel
theorem dX11_addStep_21 : decode cX11_addStep 21 = .ok (.getfield 45, 3) := by decide +kernel
theorem dX11_addStep_24 : decode cX11_addStep 24 = .ok (.aload_n 0, 1) := by decide +kernel
theorem dX11_addStep_25 : decode cX11_addStep 25 = .ok (.getfield 109, 3) := by decide +kernel
theorem dX11_addStep_28 : decode cX11_addStep 28 = .ok (.iload_n 3, 1) := by decide +kernel
theorem dX11_addStep_29 : decode cX11_addStep 29 = .ok (.iastore, 1) := by decide +kernel
theorem dX11_addStep_30 : decode cX11_addStep 30 = .ok (.aload_n 0, 1) := by decide +kernel
theorem dX11_addStep_31 : decode cX11_addStep 31 = .ok (.getfield 48, 3) := by decide +kernel
theorem dX11_addStep_34 : decode cX11_addStep 34 = .ok (.aload_n 0, 1) := by decide +kernel
theorem dX11_addStep_35 : decode cX11_addStep 35 = .ok (.getfield 109, 3) := by decide +kernel
theorem dX11_addStep_38 : decode cX11_addStep 38 = .ok (.iload 4, 2) := by decide +kernel
theorem dX11_addStep_40 : decode cX11_addStep 40 = .ok (.iastore, 1) := by decide +kernel
theorem dX11_addStep_41 : decode cX11_addStep 41 = .ok (.aload_n 0, 1) := by decide +kernel
theorem dX11_addStep_42 : decode cX11_addStep 42 = .ok (.dup, 1) := by decide +kernel
theorem dX11_addStep_43 : decode cX11_addStep 43 = .ok (.getfield 109, 3) := by decide +kernel
theorem dX11_addStep_46 : decode cX11_addStep 46 = .ok (.iconst 1, 1) := by decide +kernel
theorem dX11_addStep_47 : decode cX11_addStep 47 = .ok (.iadd, 1) := by decide +kernel
theorem dX11_addStep_48 : decode cX11_addStep 48 = .ok (.putfield 109, 3) := by decide +kernel
theorem dX11_addStep_51 : decode cX11_addStep 51 = .ok (.return_, 1) := by decide +kernel
theorem dX11_findSteps_0 : decode cX11_findSteps 0 = .ok (.aload_n 0, 1) := by decide +kernel
theorem dX11_findSteps_1 : decode cX11_findSteps 1 = .ok (.iconst 0, 1) := by decide +kernel
theorem dX11_findSteps_2 : decode cX11_findSteps 2 = .ok (.putfield 109, 3) := by decide +kernel
theorem dX11_findSteps_5 : decode cX11_findSteps 5 = .ok (.iconst 0, 1) := by decide +kernel
theorem dX11_findSteps_6 : decode cX11_findSteps 6 = .ok (.istore_n 1, 1) := by decide +kernel
theorem dX11_findSteps_7 : decode cX11_findSteps 7 = .ok (.iload_n 1, 1) := by decide +kernel
theorem dX11_findSteps_8 : decode cX11_findSteps 8 = .ok (.aload_n 0, 1) := by decide +kernel
theorem dX11_findSteps_9 : decode cX11_findSteps 9 = .ok (.getfield 7, 3) := by decide +kernel
theorem dX11_findSteps_12 : decode cX11_findSteps 12 = .ok (.if_icmp .ge 74, 3) := by decide +kernel
theorem dX11_findSteps_15 : decode cX11_findSteps 15 = .ok (.iconst 0, 1) := by decide +kernel
theorem dX11_findSteps_16 : decode cX11_findSteps 16 = .ok (.istore_n 2, 1) := by decide +kernel
theorem dX11_findSteps_17 : decode cX11_findSteps 17 = .ok (.iload_n 2, 1) := by decide +kernel
theorem dX11_findSteps_18 : decode cX11_findSteps 18 = .ok (.iconst 3, 1) := by decide +kernel
theorem dX11_findSteps_19 : decode cX11_findSteps 19 = .ok (.if_icmp .ge 61, 3) := by decide +kernel
theorem dX11_findSteps_22 : decode cX11_findSteps 22 = .ok (.aload_n 0, 1) := by decide +kernel
theorem dX11_findSteps_23 : decode cX11_findSteps 23 = .ok (.getfield 30, 3) := by decide +kernel
theorem dX11_findSteps_26 : decode cX11_findSteps 26 = .ok (.iconst 3, 1) := by decide +kernel
theorem dX11_findSteps_27 : decode cX11_findSteps 27 = .ok (.iload_n 1, 1) := by decide +kernel
theorem dX11_findSteps_28 : decode cX11_findSteps 28 = .ok (.imul, 1) := by decide +kernel
theorem dX11_findSteps_29 : decode cX11_findSteps 29 = .ok (.iconst 2, 1) := by decide +kernel
theorem dX11_findSteps_30 : decode cX11_findSteps 30 = .ok (.iadd, 1) := by decide +kernel
theorem dX11_findSteps_31 : decode cX11_findSteps 31 = .ok (.iaload, 1) := by decide +kernel
theorem dX11_findSteps_32 : decode cX11_findSteps 32 = .ok (.ifCond .ne 48, 3) := by decide +kernel
theorem dX11_findSteps_35 : decode cX11_findSteps 35 = .ok (.aload_n 0, 1) := by decide +kernel
theorem dX11_findSteps_36 : decode cX11_findSteps 36 = .ok (.getfield 30, 3) := by decide +kernel
theorem dX11_findSteps_39 : decode cX11_findSteps 39 = .ok (.iconst 3, 1) := by decide +kernel
theorem dX11_findSteps_40 : decode cX11_findSteps 40 = .ok (.iload_n 1, 1) := by decide +kernel
theorem dX11_findSteps_41 : decode cX11_findSteps 41 = .ok (.imul, 1) := by decide +kernel
theorem dX11_findSteps_42 : decode cX11_findSteps 42 = .ok (.iaload, 1) := by decide +kernel
theorem dX11_findSteps_43 : decode cX11_findSteps 43 = .ok (.bipush 64, 2) := by decide +kernel
theorem dX11_findSteps_45 : decode cX11_findSteps 45 = .ok (.imul, 1) := by decide +kernel
theorem dX11_findSteps_46 : decode cX11_findSteps 46 = .ok (.iload_n 2, 1) := by decide +kernel
theorem dX11_findSteps_47 : decode cX11_findSteps 47 = .ok (.iadd, 1) := by decide +kernel
theorem dX11_findSteps_48 : decode cX11_findSteps 48 = .ok (.istore_n 3, 1) := by decide +kernel
theorem dX11_findSteps_49 : decode cX11_findSteps 49 = .ok (.aload_n 0, 1) := by decide +kernel
theorem dX11_findSteps_50 : decode cX11_findSteps 50 = .ok (.getfield 20, 3) := by decide +kernel
theorem dX11_findSteps_53 : decode cX11_findSteps 53 = .ok (.iload_n 3, 1) := by decide +kernel
theorem dX11_findSteps_54 : decode cX11_findSteps 54 = .ok (.iaload, 1) := by decide +kernel
theorem dX11_findSteps_55 : decode cX11_findSteps 55 = .ok (.ifCond .lt 19, 3) := by decide +kernel
theorem dX11_findSteps_58 : decode cX11_findSteps 58 = .ok (.aload_n 0, 1) := by decide +kernel
theorem dX11_findSteps_59 : decode cX11_findSteps 59 = .ok (.iload_n 3, 1) := by decide +kernel
theorem dX11_findSteps_60 : decode cX11_findSteps 60 = .ok (.invokevirtual 112, 3) := by decide +kernel
theorem dX11_findSteps_63 : decode cX11_findSteps 63 = .ok (.ifCond .ne 11, 3) := by decide +kernel
theorem dX11_findSteps_66 : decode cX11_findSteps 66 = .ok (.aload_n 0, 1) := by decide +kernel
theorem dX11_findSteps_67 : decode cX11_findSteps 67 = .ok (.iload_n 1, 1) := by decide +kernel
theorem dX11_findSteps_68 : decode cX11_findSteps 68 = .ok (.iload_n 2, 1) := by decide +kernel
theorem dX11_findSteps_69 : decode cX11_findSteps 69 = .ok (.iconst (-1), 1) := by decide +kernel
theorem dX11_findSteps_70 : decode cX11_findSteps 70 = .ok (.iconst (-1), 1) := by decide +kernel
theorem dX11_findSteps_71 : decode cX11_findSteps 71 = .ok (.invokevirtual 116, 3) := by decide +kernel
theorem dX11_findSteps_74 : decode cX11_findSteps 74 = .ok (.iinc 2 1, 3) := by decide +kernel
theorem dX11_findSteps_77 : decode cX11_findSteps 77 = .ok (.goto (-60), 3) := by decide +kernel
theorem dX11_findSteps_80 : decode cX11_findSteps 80 = .ok (.iinc 1 1, 3) := by decide +kernel
theorem dX11_findSteps_83 : decode cX11_findSteps 83 = .ok (.goto (-76), 3) := by decide +kernel
theorem dX11_findSteps_86 : decode cX11_findSteps 86 = .ok (.iconst 0, 1) := by decide +kernel
theorem dX11_findSteps_87 : decode cX11_findSteps 87 = .ok (.istore_n 1, 1) := by decide +kernel
theorem dX11_findSteps_88 : decode cX11_findSteps 88 = .ok (.iload_n 1, 1) := by decide +kernel
theorem dX11_findSteps_89 : decode cX11_findSteps 89 = .ok (.aload_n 0, 1) := by decide +kernel
theorem dX11_findSteps_90 : decode cX11_findSteps 90 = .ok (.getfield 30, 3) := by decide +kernel
theorem dX11_findSteps_93 : decode cX11_findSteps 93 = .ok (.bipush 15, 2) := by decide +kernel
theorem dX11_findSteps_95 : decode cX11_findSteps 95 = .ok (.iaload, 1) := by decide +kernel
theorem dX11_findSteps_96 : decode cX11_findSteps 96 = .ok (.if_icmp .ge 133, 3) := by decide +kernel
theorem dX11_findSteps_99 : decode cX11_findSteps 99 = .ok (.iconst 0, 1) := by decide +kernel
theorem dX11_findSteps_100 : decode cX11_findSteps 100 = .ok (.istore_n 2, 1) := by decide +kernel
theorem dX11_findSteps_101 : decode cX11_findSteps 101 = .ok (.iconst 0, 1) := by decide +kernel
theorem dX11_findSteps_102 : decode cX11_findSteps 102 = .ok (.istore_n 3, 1) := by decide +kernel
theorem dX11_findSteps_103 : decode cX11_findSteps 103 = .ok (.iload_n 3, 1) := by decide +kernel
theorem dX11_findSteps_104 : decode cX11_findSteps 104 = .ok (.iload_n 1, 1) := by decide +kernel
theorem dX11_findSteps_105 : decode cX11_findSteps 105 = .ok (.if_icmp .ge 77, 3) := by decide +kernel
theorem dX11_findSteps_108 : decode cX11_findSteps 108 = .ok (.iload_n 2, 1) := by decide +kernel
theorem dX11_findSteps_109 : decode cX11_findSteps 109 = .ok (.ifCond .ne 61, 3) := by decide +kernel
theorem dX11_findSteps_112 : decode cX11_findSteps 112 = .ok (.aload_n 0, 1) := by decide +kernel
theorem dX11_findSteps_113 : decode cX11_findSteps 113 = .ok (.getfield 13, 3) := by decide +kernel
theorem dX11_findSteps_116 : decode cX11_findSteps 116 = .ok (.aload_n 0, 1) := by decide +kernel
theorem dX11_findSteps_117 : decode cX11_findSteps 117 = .ok (.iload_n 1, 1) := by decide +kernel
theorem dX11_findSteps_118 : decode cX11_findSteps 118 = .ok (.iconst 0, 1) := by decide +kernel
theorem dX11_findSteps_119 : decode cX11_findSteps 119 = .ok (.invokevirtual 105, 3) := by decide +kernel
theorem dX11_findSteps_122 : decode cX11_findSteps 122 = .ok (.iaload, 1) := by decide +kernel
theorem dX11_findSteps_123 : decode cX11_findSteps 123 = .ok (.ifCond .ne 51, 3) := by decide +kernel
theorem dX11_findSteps_126 : decode cX11_findSteps 126 = .ok (.aload_n 0, 1) := by decide +kernel
theorem dX11_findSteps_127 : decode cX11_findSteps 127 = .ok (.getfield 13, 3) := by decide +kernel
theorem dX11_findSteps_130 : decode cX11_findSteps 130 = .ok (.aload_n 0, 1) := by decide +kernel
theorem dX11_findSteps_131 : decode cX11_findSteps 131 = .ok (.iload_n 3, 1) := by decide +kernel
theorem dX11_findSteps_132 : decode cX11_findSteps 132 = .ok (.iconst 0, 1) := by decide +kernel
theorem dX11_findSteps_133 : decode cX11_findSteps 133 = .ok (.invokevirtual 105, 3) := by decide +kernel
theorem dX11_findSteps_136 : decode cX11_findSteps 136 = .ok (.iaload, 1) := by decide +kernel
theorem dX11_findSteps_137 : decode cX11_findSteps 137 = .ok (.ifCond .ne 37, 3) := by decide +kernel
theorem dX11_findSteps_140 : decode cX11_findSteps 140 = .ok (.aload_n 0, 1) := by decide +kernel
theorem dX11_findSteps_141 : decode cX11_findSteps 141 = .ok (.iload_n 1, 1) := by decide +kernel
theorem dX11_findSteps_142 : decode cX11_findSteps 142 = .ok (.iconst 1, 1) := by decide +kernel
theorem dX11_findSteps_143 : decode cX11_findSteps 143 = .ok (.invokevirtual 105, 3) := by decide +kernel
theorem dX11_findSteps_146 : decode cX11_findSteps 146 = .ok (.aload_n 0, 1) := by decide +kernel
theorem dX11_findSteps_147 : decode cX11_findSteps 147 = .ok (.iload_n 3, 1) := by decide +kernel
theorem dX11_findSteps_148 : decode cX11_findSteps 148 = .ok (.iconst 1, 1) := by decide +kernel
theorem dX11_findSteps_149 : decode cX11_findSteps 149 = .ok (.invokevirtual 105, 3) := by decide +kernel
theorem dX11_findSteps_152 : decode cX11_findSteps 152 = .ok (.if_icmp .ne 22, 3) := by decide +kernel
theorem dX11_findSteps_155 : decode cX11_findSteps 155 = .ok (.aload_n 0, 1) := by decide +kernel
theorem dX11_findSteps_156 : decode cX11_findSteps 156 = .ok (.iload_n 1, 1) := by decide +kernel
theorem dX11_findSteps_157 : decode cX11_findSteps 157 = .ok (.iconst 2, 1) := by decide +kernel
theorem dX11_findSteps_158 : decode cX11_findSteps 158 = .ok (.invokevirtual 105, 3) := by decide +kernel
theorem dX11_findSteps_161 : decode cX11_findSteps 161 = .ok (.aload_n 0, 1) := by decide +kernel
theorem dX11_findSteps_162 : decode cX11_findSteps 162 = .ok (.iload_n 3, 1) := by decide +kernel
theorem dX11_findSteps_163 : decode cX11_findSteps 163 = .ok (.iconst 2, 1) := by decide +kernel
theorem dX11_findSteps_164 : decode cX11_findSteps 164 = .ok (.invokevirtual 105, 3) := by decide +kernel
theorem dX11_findSteps_167 : decode cX11_findSteps 167 = .ok (.if_icmp .ne 7, 3) := by decide +kernel
theorem dX11_findSteps_170 : decode cX11_findSteps 170 = .ok (.iconst 1, 1) := by decide +kernel
theorem dX11_findSteps_171 : decode cX11_findSteps 171 = .ok (.goto 4, 3) := by decide +kernel
theorem dX11_findSteps_174 : decode cX11_findSteps 174 = .ok (.iconst 0, 1) := by decide +kernel
theorem dX11_findSteps_175 : decode cX11_findSteps 175 = .ok (.istore_n 2, 1) := by decide +kernel
theorem dX11_findSteps_176 : decode cX11_findSteps 176 = .ok (.iinc 3 1, 3) := by decide +kernel
theorem dX11_findSteps_179 : decode cX11_findSteps 179 = .ok (.goto (-76), 3) := by decide +kernel
theorem dX11_findSteps_182 : decode cX11_findSteps 182 = .ok (.iload_n 2, 1) := by decide +kernel
theorem dX11_findSteps_183 : decode cX11_findSteps 183 = .ok (.ifCond .ne 40, 3) := by decide +kernel
theorem dX11_findSteps_186 : decode cX11_findSteps 186 = .ok (.aload_n 0, 1) := by decide +kernel
theorem dX11_findSteps_187 : decode cX11_findSteps 187 = .ok (.aload_n 0, 1) := by decide +kernel
theorem dX11_findSteps_188 : decode cX11_findSteps 188 = .ok (.iload_n 1, 1) := by decide +kernel
theorem dX11_findSteps_189 : decode cX11_findSteps 189 = .ok (.invokevirtual 120, 3) := by decide +kernel
theorem dX11_findSteps_192 : decode cX11_findSteps 192 = .ok (.invokevirtual 112, 3) := by decide +kernel
theorem dX11_findSteps_195 : decode cX11_findSteps 195 = .ok (.ifCond .ne 28, 3) := by decide +kernel
theorem dX11_findSteps_198 : decode cX11_findSteps 198 = .ok (.aload_n 0, 1) := by decide +kernel
theorem dX11_findSteps_199 : decode cX11_findSteps 199 = .ok (.aload_n 0, 1) := by decide +kernel
theorem dX11_findSteps_200 : decode cX11_findSteps 200 = .ok (.iload_n 1, 1) := by decide +kernel
theorem dX11_findSteps_201 : decode cX11_findSteps 201 = .ok (.iconst 2, 1) := by decide +kernel
theorem dX11_findSteps_202 : decode cX11_findSteps 202 = .ok (.invokevirtual 105, 3) := by decide +kernel
theorem dX11_findSteps_205 : decode cX11_findSteps 205 = .ok (.iconst 3, 1) := by decide +kernel
theorem dX11_findSteps_206 : decode cX11_findSteps 206 = .ok (.aload_n 0, 1) := by decide +kernel
theorem dX11_findSteps_207 : decode cX11_findSteps 207 = .ok (.iload_n 1, 1) := by decide +kernel
theorem dX11_findSteps_208 : decode cX11_findSteps 208 = .ok (.iconst 0, 1) := by decide +kernel
theorem dX11_findSteps_209 : decode cX11_findSteps 209 = .ok (.invokevirtual 105, 3) := by decide +kernel
theorem dX11_findSteps_212 : decode cX11_findSteps 212 = .ok (.iadd, 1) := by decide +kernel
theorem dX11_findSteps_213 : decode cX11_findSteps 213 = .ok (.aload_n 0, 1) := by decide +kernel
theorem dX11_findSteps_214 : decode cX11_findSteps 214 = .ok (.iload_n 1, 1) := by decide +kernel
theorem dX11_findSteps_215 : decode cX11_findSteps 215 = .ok (.iconst 1, 1) := by decide +kernel
theorem dX11_findSteps_216 : decode cX11_findSteps 216 = .ok (.invokevirtual 105, 3) := by decide +kernel
theorem dX11_findSteps_219 : decode cX11_findSteps 219 = .ok (.iload_n 1, 1) := by decide +kernel
theorem dX11_findSteps_220 : decode cX11_findSteps 220 = .ok (.invokevirtual 116, 3) := by decide +kernel
theorem dX11_findSteps_223 : decode cX11_findSteps 223 = .ok (.iinc 1 1, 3) := by decide +kernel
theorem dX11_findSteps_226 : decode cX11_findSteps 226 = .ok (.goto (-138), 3) := by decide +kernel
theorem dX11_findSteps_229 : decode cX11_findSteps 229 = .ok (.return_, 1) := by decide +kernel
theorem dX11_compareLetters_0 : decode cX11_compareLetters 0 = .ok (.iload_n 0, 1) := by decide +kernel
theorem dX11_compareLetters_1 : decode cX11_compareLetters 1 = .ok (.iload_n 1, 1) := by decide +kernel
theorem dX11_compareLetters_2 : decode cX11_compareLetters 2 = .ok (.if_icmp .ge 7, 3) := by decide +kernel
theorem dX11_compareLetters_5 : decode cX11_compareLetters 5 = .ok (.iconst (-1), 1) := by decide +kernel
theorem dX11_compareLetters_6 : decode cX11_compareLetters 6 = .ok (.goto 13, 3) := by decide +kernel
theorem dX11_compareLetters_9 : decode cX11_compareLetters 9 = .ok (.iload_n 0, 1) := by decide +kernel
theorem dX11_compareLetters_10 : decode cX11_compareLetters 10 = .ok (.iload_n 1, 1) := by decide +kernel
theorem dX11_compareLetters_11 : decode cX11_compareLetters 11 = .ok (.if_icmp .le 7, 3) := by decide +kernel
theorem dX11_compareLetters_14 : decode cX11_compareLetters 14 = .ok (.iconst 1, 1) := by decide +kernel
theorem dX11_compareLetters_15 : decode cX11_compareLetters 15 = .ok (.goto 4, 3) := by decide +kernel
theorem dX11_compareLetters_18 : decode cX11_compareLetters 18 = .ok (.iconst 0, 1) := by decide +kernel
theorem dX11_compareLetters_19 : decode cX11_compareLetters 19 = .ok (.ireturn, 1) := by decide +kernel
theorem dX11_isAhead_0 : decode cX11_isAhead 0 = .ok (.iload_n 2, 1) := by decide +kernel
theorem dX11_isAhead_1 : decode cX11_isAhead 1 = .ok (.aload_n 0, 1) := by decide +kernel
theorem dX11_isAhead_2 : decode cX11_isAhead 2 = .ok (.iload 6, 2) := by decide +kernel
theorem dX11_isAhead_4 : decode cX11_isAhead 4 = .ok (.iconst 1, 1) := by decide +kernel
theorem dX11_isAhead_5 : decode cX11_isAhead 5 = .ok (.invokevirtual 105, 3) := by decide +kernel
theorem dX11_isAhead_8 : decode cX11_isAhead 8 = .ok (.invokestatic 123, 3) := by decide +kernel
theorem dX11_isAhead_11 : decode cX11_isAhead 11 = .ok (.istore 7, 2) := by decide +kernel
theorem dX11_isAhead_13 : decode cX11_isAhead 13 = .ok (.iload 7, 2) := by decide +kernel
theorem dX11_isAhead_15 : decode cX11_isAhead 15 = .ok (.ifCond .eq 8, 3) := by decide +kernel
theorem dX11_isAhead_18 : decode cX11_isAhead 18 = .ok (.iload 7, 2) := by decide +kernel
theorem dX11_isAhead_20 : decode cX11_isAhead 20 = .ok (.goto 14, 3) := by decide +kernel
theorem dX11_isAhead_23 : decode cX11_isAhead 23 = .ok (.iload_n 3, 1) := by decide +kernel
theorem dX11_isAhead_24 : decode cX11_isAhead 24 = .ok (.aload_n 0, 1) := by decide +kernel
theorem dX11_isAhead_25 : decode cX11_isAhead 25 = .ok (.iload 6, 2) := by decide +kernel
theorem dX11_isAhead_27 : decode cX11_isAhead 27 = .ok (.iconst 2, 1) := by decide +kernel
theorem dX11_isAhead_28 : decode cX11_isAhead 28 = .ok (.invokevirtual 105, 3) := by decide +kernel
theorem dX11_isAhead_31 : decode cX11_isAhead 31 = .ok (.invokestatic 123, 3) := by decide +kernel
theorem dX11_isAhead_34 : decode cX11_isAhead 34 = .ok (.istore 7, 2) := by decide +kernel
theorem dX11_isAhead_36 : decode cX11_isAhead 36 = .ok (.iload 7, 2) := by decide +kernel
theorem dX11_isAhead_38 : decode cX11_isAhead 38 = .ok (.ifCond .eq 8, 3) := by decide +kernel
theorem dX11_isAhead_41 : decode cX11_isAhead 41 = .ok (.iload 7, 2) := by decide +kernel
theorem dX11_isAhead_43 : decode cX11_isAhead 43 = .ok (.goto 24, 3) := by decide +kernel
theorem dX11_isAhead_46 : decode cX11_isAhead 46 = .ok (.aload_n 0, 1) := by decide +kernel
theorem dX11_isAhead_47 : decode cX11_isAhead 47 = .ok (.getfield 13, 3) := by decide +kernel
theorem dX11_isAhead_50 : decode cX11_isAhead 50 = .ok (.iload_n 1, 1) := by decide +kernel
theorem dX11_isAhead_51 : decode cX11_isAhead 51 = .ok (.iaload, 1) := by decide +kernel
theorem dX11_isAhead_52 : decode cX11_isAhead 52 = .ok (.aload_n 0, 1) := by decide +kernel
theorem dX11_isAhead_53 : decode cX11_isAhead 53 = .ok (.getfield 13, 3) := by decide +kernel
theorem dX11_isAhead_56 : decode cX11_isAhead 56 = .ok (.aload_n 0, 1) := by decide +kernel
theorem dX11_isAhead_57 : decode cX11_isAhead 57 = .ok (.iload 6, 2) := by decide +kernel
theorem dX11_isAhead_59 : decode cX11_isAhead 59 = .ok (.iconst 0, 1) := by decide +kernel
theorem dX11_isAhead_60 : decode cX11_isAhead 60 = .ok (.invokevirtual 105, 3) := by decide +kernel
theorem dX11_isAhead_63 : decode cX11_isAhead 63 = .ok (.iaload, 1) := by decide +kernel
theorem dX11_isAhead_64 : decode cX11_isAhead 64 = .ok (.invokestatic 123, 3) := by decide +kernel
theorem dX11_isAhead_67 : decode cX11_isAhead 67 = .ok (.istore 7, 2) := by decide +kernel
theorem dX11_isAhead_69 : decode cX11_isAhead 69 = .ok (.iload 7, 2) := by decide +kernel
theorem dX11_isAhead_71 : decode cX11_isAhead 71 = .ok (.ifCond .ne 12, 3) := by decide +kernel
theorem dX11_isAhead_74 : decode cX11_isAhead 74 = .ok (.aload_n 0, 1) := by decide +kernel
theorem dX11_isAhead_75 : decode cX11_isAhead 75 = .ok (.getfield 13, 3) := by decide +kernel
theorem dX11_isAhead_78 : decode cX11_isAhead 78 = .ok (.iload_n 1, 1) := by decide +kernel
theorem dX11_isAhead_79 : decode cX11_isAhead 79 = .ok (.iaload, 1) := by decide +kernel
theorem dX11_isAhead_80 : decode cX11_isAhead 80 = .ok (.ifCond .ne 14, 3) := by decide +kernel
theorem dX11_isAhead_83 : decode cX11_isAhead 83 = .ok (.iload 7, 2) := by decide +kernel
theorem dX11_isAhead_85 : decode cX11_isAhead 85 = .ok (.ifCond .ge 7, 3) := by decide +kernel
theorem dX11_isAhead_88 : decode cX11_isAhead 88 = .ok (.iconst 1, 1) := by decide +kernel
theorem dX11_isAhead_89 : decode cX11_isAhead 89 = .ok (.goto 4, 3) := by decide +kernel
theorem dX11_isAhead_92 : decode cX11_isAhead 92 = .ok (.iconst 0, 1) := by decide +kernel
theorem dX11_isAhead_93 : decode cX11_isAhead 93 = .ok (.ireturn, 1) := by decide +kernel
theorem dX11_isAhead_94 : decode cX11_isAhead 94 = .ok (.iload_n 1, 1) := by decide +kernel
theorem dX11_isAhead_95 : decode cX11_isAhead 95 = .ok (.aload_n 0, 1) := by decide +kernel
theorem dX11_isAhead_96 : decode cX11_isAhead 96 = .ok (.iload 6, 2) := by decide +kernel
theorem dX11_isAhead_98 : decode cX11_isAhead 98 = .ok (.iconst 0, 1) := by decide +kernel
theorem dX11_isAhead_99 : decode cX11_isAhead 99 = .ok (.invokevirtual 105, 3) := by decide +kernel
theorem dX11_isAhead_102 : decode cX11_isAhead 102 = .ok (.invokestatic 123, 3) := by decide +kernel
theorem dX11_isAhead_105 : decode cX11_isAhead 105 = .ok (.istore 7, 2) := by decide +kernel
theorem dX11_isAhead_107 : decode cX11_isAhead 107 = .ok (.iload 7, 2) := by decide +kernel
theorem dX11_isAhead_109 : decode cX11_isAhead 109 = .ok (.ifCond .eq 8, 3) := by decide +kernel
theorem dX11_isAhead_112 : decode cX11_isAhead 112 = .ok (.iload 7, 2) := by decide +kernel
theorem dX11_isAhead_114 : decode cX11_isAhead 114 = .ok (.goto 15, 3) := by decide +kernel
theorem dX11_isAhead_117 : decode cX11_isAhead 117 = .ok (.iload 4, 2) := by decide +kernel
theorem dX11_isAhead_119 : decode cX11_isAhead 119 = .ok (.aload_n 0, 1) := by decide +kernel
theorem dX11_isAhead_120 : decode cX11_isAhead 120 = .ok (.iload 6, 2) := by decide +kernel
theorem dX11_isAhead_122 : decode cX11_isAhead 122 = .ok (.iconst 3, 1) := by decide +kernel
theorem dX11_isAhead_123 : decode cX11_isAhead 123 = .ok (.invokevirtual 105, 3) := by decide +kernel
theorem dX11_isAhead_126 : decode cX11_isAhead 126 = .ok (.invokestatic 123, 3) := by decide +kernel
theorem dX11_isAhead_129 : decode cX11_isAhead 129 = .ok (.istore 7, 2) := by decide +kernel
theorem dX11_isAhead_131 : decode cX11_isAhead 131 = .ok (.iload 7, 2) := by decide +kernel
theorem dX11_isAhead_133 : decode cX11_isAhead 133 = .ok (.ifCond .eq 8, 3) := by decide +kernel
theorem dX11_isAhead_136 : decode cX11_isAhead 136 = .ok (.iload 7, 2) := by decide +kernel
theorem dX11_isAhead_138 : decode cX11_isAhead 138 = .ok (.goto 15, 3) := by decide +kernel
theorem dX11_isAhead_141 : decode cX11_isAhead 141 = .ok (.iload 5, 2) := by decide +kernel
theorem dX11_isAhead_143 : decode cX11_isAhead 143 = .ok (.aload_n 0, 1) := by decide +kernel
theorem dX11_isAhead_144 : decode cX11_isAhead 144 = .ok (.iload 6, 2) := by decide +kernel
theorem dX11_isAhead_146 : decode cX11_isAhead 146 = .ok (.iconst 4, 1) := by decide +kernel
theorem dX11_isAhead_147 : decode cX11_isAhead 147 = .ok (.invokevirtual 105, 3) := by decide +kernel
theorem dX11_isAhead_150 : decode cX11_isAhead 150 = .ok (.invokestatic 123, 3) := by decide +kernel
theorem dX11_isAhead_153 : decode cX11_isAhead 153 = .ok (.istore 7, 2) := by decide +kernel
theorem dX11_isAhead_155 : decode cX11_isAhead 155 = .ok (.iload 7, 2) := by decide +kernel
theorem dX11_isAhead_157 : decode cX11_isAhead 157 = .ok (.ifCond .ge 7, 3) := by decide +kernel
theorem dX11_isAhead_160 : decode cX11_isAhead 160 = .ok (.iconst 1, 1) := by decide +kernel
theorem dX11_isAhead_161 : decode cX11_isAhead 161 = .ok (.goto 4, 3) := by decide +kernel
theorem dX11_isAhead_164 : decode cX11_isAhead 164 = .ok (.iconst 0, 1) := by decide +kernel
theorem dX11_isAhead_165 : decode cX11_isAhead 165 = .ok (.ireturn, 1) := by decide +kernel
theorem dX11_send_0 : decode cX11_send 0 = .ok (.aload_n 0, 1) := by decide +kernel
theorem dX11_send_1 : decode cX11_send 1 = .ok (.getfield 30, 3) := by decide +kernel
theorem dX11_send_4 : decode cX11_send 4 = .ok (.bipush 15, 2) := by decide +kernel
theorem dX11_send_6 : decode cX11_send 6 = .ok (.iaload, 1) := by decide +kernel
theorem dX11_send_7 : decode cX11_send 7 = .ok (.bipush 8, 2) := by decide +kernel
theorem dX11_send_9 : decode cX11_send 9 = .ok (.if_icmp .ne 5, 3) := by decide +kernel
theorem dX11_send_12 : decode cX11_send 12 = .ok (.iconst 0, 1) := by decide +kernel
theorem dX11_send_13 : decode cX11_send 13 = .ok (.ireturn, 1) := by decide +kernel
theorem dX11_send_14 : decode cX11_send 14 = .ok (.aload_n 0, 1) := by decide +kernel
theorem dX11_send_15 : decode cX11_send 15 = .ok (.getfield 30, 3) := by decide +kernel
theorem dX11_send_18 : decode cX11_send 18 = .ok (.bipush 15, 2) := by decide +kernel
theorem dX11_send_20 : decode cX11_send 20 = .ok (.iaload, 1) := by decide +kernel
theorem dX11_send_21 : decode cX11_send 21 = .ok (.istore 6, 2) := by decide +kernel
theorem dX11_send_23 : decode cX11_send 23 = .ok (.iload 6, 2) := by decide +kernel
theorem dX11_send_25 : decode cX11_send 25 = .ok (.ifCond .le 67, 3) := by decide +kernel
theorem dX11_send_28 : decode cX11_send 28 = .ok (.aload_n 0, 1) := by decide +kernel
theorem dX11_send_29 : decode cX11_send 29 = .ok (.iload_n 1, 1) := by decide +kernel
theorem dX11_send_30 : decode cX11_send 30 = .ok (.iload_n 2, 1) := by decide +kernel
theorem dX11_send_31 : decode cX11_send 31 = .ok (.iload_n 3, 1) := by decide +kernel
theorem dX11_send_32 : decode cX11_send 32 = .ok (.iload 4, 2) := by decide +kernel
theorem dX11_send_34 : decode cX11_send 34 = .ok (.iload 5, 2) := by decide +kernel
theorem dX11_send_36 : decode cX11_send 36 = .ok (.iload 6, 2) := by decide +kernel
theorem dX11_send_38 : decode cX11_send 38 = .ok (.iconst 1, 1) := by decide +kernel
theorem dX11_send_39 : decode cX11_send 39 = .ok (.isub, 1) := by decide +kernel
theorem dX11_send_40 : decode cX11_send 40 = .ok (.invokevirtual 126, 3) := by decide +kernel
theorem dX11_send_43 : decode cX11_send 43 = .ok (.ifCond .eq 49, 3) := by decide +kernel
theorem dX11_send_46 : decode cX11_send 46 = .ok (.iconst 0, 1) := by decide +kernel
theorem dX11_send_47 : decode cX11_send 47 = .ok (.istore 7, 2) := by decide +kernel
theorem dX11_send_49 : decode cX11_send 49 = .ok (.iload 7, 2) := by decide +kernel
theorem dX11_send_51 : decode cX11_send 51 = .ok (.iconst 5, 1) := by decide +kernel
theorem dX11_send_52 : decode cX11_send 52 = .ok (.if_icmp .ge 34, 3) := by decide +kernel
theorem dX11_send_55 : decode cX11_send 55 = .ok (.aload_n 0, 1) := by decide +kernel
theorem dX11_send_56 : decode cX11_send 56 = .ok (.getfield 30, 3) := by decide +kernel
theorem dX11_send_59 : decode cX11_send 59 = .ok (.bipush 16, 2) := by decide +kernel
theorem dX11_send_61 : decode cX11_send 61 = .ok (.iconst 5, 1) := by decide +kernel
theorem dX11_send_62 : decode cX11_send 62 = .ok (.iload 6, 2) := by decide +kernel
theorem dX11_send_64 : decode cX11_send 64 = .ok (.imul, 1) := by decide +kernel
theorem dX11_send_65 : decode cX11_send 65 = .ok (.iadd, 1) := by decide +kernel
theorem dX11_send_66 : decode cX11_send 66 = .ok (.iload 7, 2) := by decide +kernel
theorem dX11_send_68 : decode cX11_send 68 = .ok (.iadd, 1) := by decide +kernel
theorem dX11_send_69 : decode cX11_send 69 = .ok (.aload_n 0, 1) := by decide +kernel
theorem dX11_send_70 : decode cX11_send 70 = .ok (.iload 6, 2) := by decide +kernel
theorem dX11_send_72 : decode cX11_send 72 = .ok (.iconst 1, 1) := by decide +kernel
theorem dX11_send_73 : decode cX11_send 73 = .ok (.isub, 1) := by decide +kernel
theorem dX11_send_74 : decode cX11_send 74 = .ok (.iload 7, 2) := by decide +kernel
theorem dX11_send_76 : decode cX11_send 76 = .ok (.invokevirtual 105, 3) := by decide +kernel
theorem dX11_send_79 : decode cX11_send 79 = .ok (.iastore, 1) := by decide +kernel
theorem dX11_send_80 : decode cX11_send 80 = .ok (.iinc 7 1, 3) := by decide +kernel
theorem dX11_send_83 : decode cX11_send 83 = .ok (.goto (-34), 3) := by decide +kernel
theorem dX11_send_86 : decode cX11_send 86 = .ok (.iinc 6 (-1), 3) := by decide +kernel
theorem dX11_send_89 : decode cX11_send 89 = .ok (.goto (-66), 3) := by decide +kernel
theorem dX11_send_92 : decode cX11_send 92 = .ok (.bipush 16, 2) := by decide +kernel
theorem dX11_send_94 : decode cX11_send 94 = .ok (.iconst 5, 1) := by decide +kernel
theorem dX11_send_95 : decode cX11_send 95 = .ok (.iload 6, 2) := by decide +kernel
theorem dX11_send_97 : decode cX11_send 97 = .ok (.imul, 1) := by decide +kernel
theorem dX11_send_98 : decode cX11_send 98 = .ok (.iadd, 1) := by decide +kernel
theorem dX11_send_99 : decode cX11_send 99 = .ok (.istore 7, 2) := by decide +kernel
theorem dX11_send_101 : decode cX11_send 101 = .ok (.aload_n 0, 1) := by decide +kernel
theorem dX11_send_102 : decode cX11_send 102 = .ok (.getfield 30, 3) := by decide +kernel
theorem dX11_send_105 : decode cX11_send 105 = .ok (.iload 7, 2) := by decide +kernel
theorem dX11_send_107 : decode cX11_send 107 = .ok (.iload_n 1, 1) := by decide +kernel
theorem dX11_send_108 : decode cX11_send 108 = .ok (.iastore, 1) := by decide +kernel
theorem dX11_send_109 : decode cX11_send 109 = .ok (.aload_n 0, 1) := by decide +kernel
theorem dX11_send_110 : decode cX11_send 110 = .ok (.getfield 30, 3) := by decide +kernel
theorem dX11_send_113 : decode cX11_send 113 = .ok (.iload 7, 2) := by decide +kernel
theorem dX11_send_115 : decode cX11_send 115 = .ok (.iconst 1, 1) := by decide +kernel
theorem dX11_send_116 : decode cX11_send 116 = .ok (.iadd, 1) := by decide +kernel
theorem dX11_send_117 : decode cX11_send 117 = .ok (.iload_n 2, 1) := by decide +kernel
theorem dX11_send_118 : decode cX11_send 118 = .ok (.iastore, 1) := by decide +kernel
theorem dX11_send_119 : decode cX11_send 119 = .ok (.aload_n 0, 1) := by decide +kernel
theorem dX11_send_120 : decode cX11_send 120 = .ok (.getfield 30, 3) := by decide +kernel
theorem dX11_send_123 : decode cX11_send 123 = .ok (.iload 7, 2) := by decide +kernel
theorem dX11_send_125 : decode cX11_send 125 = .ok (.iconst 2, 1) := by decide +kernel
theorem dX11_send_126 : decode cX11_send 126 = .ok (.iadd, 1) := by decide +kernel
theorem dX11_send_127 : decode cX11_send 127 = .ok (.iload_n 3, 1) := by decide +kernel
theorem dX11_send_128 : decode cX11_send 128 = .ok (.iastore, 1) := by decide +kernel
theorem dX11_send_129 : decode cX11_send 129 = .ok (.aload_n 0, 1) := by decide +kernel
theorem dX11_send_130 : decode cX11_send 130 = .ok (.getfield 30, 3) := by decide +kernel
theorem dX11_send_133 : decode cX11_send 133 = .ok (.iload 7, 2) := by decide +kernel
theorem dX11_send_135 : decode cX11_send 135 = .ok (.iconst 3, 1) := by decide +kernel
theorem dX11_send_136 : decode cX11_send 136 = .ok (.iadd, 1) := by decide +kernel
theorem dX11_send_137 : decode cX11_send 137 = .ok (.iload 4, 2) := by decide +kernel
theorem dX11_send_139 : decode cX11_send 139 = .ok (.iastore, 1) := by decide +kernel
theorem dX11_send_140 : decode cX11_send 140 = .ok (.aload_n 0, 1) := by decide +kernel
theorem dX11_send_141 : decode cX11_send 141 = .ok (.getfield 30, 3) := by decide +kernel
theorem dX11_send_144 : decode cX11_send 144 = .ok (.iload 7, 2) := by decide +kernel
theorem dX11_send_146 : decode cX11_send 146 = .ok (.iconst 4, 1) := by decide +kernel
theorem dX11_send_147 : decode cX11_send 147 = .ok (.iadd, 1) := by decide +kernel
theorem dX11_send_148 : decode cX11_send 148 = .ok (.iload 5, 2) := by decide +kernel
theorem dX11_send_150 : decode cX11_send 150 = .ok (.iastore, 1) := by decide +kernel
theorem dX11_send_151 : decode cX11_send 151 = .ok (.aload_n 0, 1) := by decide +kernel
theorem dX11_send_152 : decode cX11_send 152 = .ok (.getfield 30, 3) := by decide +kernel
theorem dX11_send_155 : decode cX11_send 155 = .ok (.bipush 15, 2) := by decide +kernel
theorem dX11_send_157 : decode cX11_send 157 = .ok (.dup2, 1) := by decide +kernel
theorem dX11_send_158 : decode cX11_send 158 = .ok (.iaload, 1) := by decide +kernel
theorem dX11_send_159 : decode cX11_send 159 = .ok (.iconst 1, 1) := by decide +kernel
theorem dX11_send_160 : decode cX11_send 160 = .ok (.iadd, 1) := by decide +kernel
theorem dX11_send_161 : decode cX11_send 161 = .ok (.iastore, 1) := by decide +kernel
theorem dX11_send_162 : decode cX11_send 162 = .ok (.iconst 1, 1) := by decide +kernel
theorem dX11_send_163 : decode cX11_send 163 = .ok (.ireturn, 1) := by decide +kernel
theorem dX11_takeLetter_0 : decode cX11_takeLetter 0 = .ok (.aload_n 0, 1) := by decide +kernel
theorem dX11_takeLetter_1 : decode cX11_takeLetter 1 = .ok (.aload_n 0, 1) := by decide +kernel
theorem dX11_takeLetter_2 : decode cX11_takeLetter 2 = .ok (.iload_n 1, 1) := by decide +kernel
theorem dX11_takeLetter_3 : decode cX11_takeLetter 3 = .ok (.iconst 0, 1) := by decide +kernel
theorem dX11_takeLetter_4 : decode cX11_takeLetter 4 = .ok (.invokevirtual 105, 3) := by decide +kernel
theorem dX11_takeLetter_7 : decode cX11_takeLetter 7 = .ok (.putfield 130, 3) := by decide +kernel
theorem dX11_takeLetter_10 : decode cX11_takeLetter 10 = .ok (.aload_n 0, 1) := by decide +kernel
theorem dX11_takeLetter_11 : decode cX11_takeLetter 11 = .ok (.aload_n 0, 1) := by decide +kernel
theorem dX11_takeLetter_12 : decode cX11_takeLetter 12 = .ok (.iload_n 1, 1) := by decide +kernel
theorem dX11_takeLetter_13 : decode cX11_takeLetter 13 = .ok (.iconst 3, 1) := by decide +kernel
theorem dX11_takeLetter_14 : decode cX11_takeLetter 14 = .ok (.invokevirtual 105, 3) := by decide +kernel
theorem dX11_takeLetter_17 : decode cX11_takeLetter 17 = .ok (.putfield 133, 3) := by decide +kernel
theorem dX11_takeLetter_20 : decode cX11_takeLetter 20 = .ok (.aload_n 0, 1) := by decide +kernel
theorem dX11_takeLetter_21 : decode cX11_takeLetter 21 = .ok (.aload_n 0, 1) := by decide +kernel
theorem dX11_takeLetter_22 : decode cX11_takeLetter 22 = .ok (.iload_n 1, 1) := by decide +kernel
theorem dX11_takeLetter_23 : decode cX11_takeLetter 23 = .ok (.iconst 4, 1) := by decide +kernel
theorem dX11_takeLetter_24 : decode cX11_takeLetter 24 = .ok (.invokevirtual 105, 3) := by decide +kernel
theorem dX11_takeLetter_27 : decode cX11_takeLetter 27 = .ok (.putfield 136, 3) := by decide +kernel
theorem dX11_takeLetter_30 : decode cX11_takeLetter 30 = .ok (.aload_n 0, 1) := by decide +kernel
theorem dX11_takeLetter_31 : decode cX11_takeLetter 31 = .ok (.getfield 30, 3) := by decide +kernel
theorem dX11_takeLetter_34 : decode cX11_takeLetter 34 = .ok (.bipush 15, 2) := by decide +kernel
theorem dX11_takeLetter_36 : decode cX11_takeLetter 36 = .ok (.dup2, 1) := by decide +kernel
theorem dX11_takeLetter_37 : decode cX11_takeLetter 37 = .ok (.iaload, 1) := by decide +kernel
theorem dX11_takeLetter_38 : decode cX11_takeLetter 38 = .ok (.iconst 1, 1) := by decide +kernel
theorem dX11_takeLetter_39 : decode cX11_takeLetter 39 = .ok (.isub, 1) := by decide +kernel
theorem dX11_takeLetter_40 : decode cX11_takeLetter 40 = .ok (.iastore, 1) := by decide +kernel
theorem dX11_takeLetter_41 : decode cX11_takeLetter 41 = .ok (.iload_n 1, 1) := by decide +kernel
theorem dX11_takeLetter_42 : decode cX11_takeLetter 42 = .ok (.istore_n 2, 1) := by decide +kernel
theorem dX11_takeLetter_43 : decode cX11_takeLetter 43 = .ok (.iload_n 2, 1) := by decide +kernel
theorem dX11_takeLetter_44 : decode cX11_takeLetter 44 = .ok (.aload_n 0, 1) := by decide +kernel
theorem dX11_takeLetter_45 : decode cX11_takeLetter 45 = .ok (.getfield 30, 3) := by decide +kernel
theorem dX11_takeLetter_48 : decode cX11_takeLetter 48 = .ok (.bipush 15, 2) := by decide +kernel
theorem dX11_takeLetter_50 : decode cX11_takeLetter 50 = .ok (.iaload, 1) := by decide +kernel
theorem dX11_takeLetter_51 : decode cX11_takeLetter 51 = .ok (.if_icmp .ge 43, 3) := by decide +kernel
theorem dX11_takeLetter_54 : decode cX11_takeLetter 54 = .ok (.iconst 0, 1) := by decide +kernel
theorem dX11_takeLetter_55 : decode cX11_takeLetter 55 = .ok (.istore_n 3, 1) := by decide +kernel
theorem dX11_takeLetter_56 : decode cX11_takeLetter 56 = .ok (.iload_n 3, 1) := by decide +kernel
theorem dX11_takeLetter_57 : decode cX11_takeLetter 57 = .ok (.iconst 5, 1) := by decide +kernel
theorem dX11_takeLetter_58 : decode cX11_takeLetter 58 = .ok (.if_icmp .ge 30, 3) := by decide +kernel
theorem dX11_takeLetter_61 : decode cX11_takeLetter 61 = .ok (.aload_n 0, 1) := by decide +kernel
theorem dX11_takeLetter_62 : decode cX11_takeLetter 62 = .ok (.getfield 30, 3) := by decide +kernel
theorem dX11_takeLetter_65 : decode cX11_takeLetter 65 = .ok (.bipush 16, 2) := by decide +kernel
theorem dX11_takeLetter_67 : decode cX11_takeLetter 67 = .ok (.iconst 5, 1) := by decide +kernel
theorem dX11_takeLetter_68 : decode cX11_takeLetter 68 = .ok (.iload_n 2, 1) := by decide +kernel
theorem dX11_takeLetter_69 : decode cX11_takeLetter 69 = .ok (.imul, 1) := by decide +kernel
theorem dX11_takeLetter_70 : decode cX11_takeLetter 70 = .ok (.iadd, 1) := by decide +kernel
theorem dX11_takeLetter_71 : decode cX11_takeLetter 71 = .ok (.iload_n 3, 1) := by decide +kernel
theorem dX11_takeLetter_72 : decode cX11_takeLetter 72 = .ok (.iadd, 1) := by decide +kernel
theorem dX11_takeLetter_73 : decode cX11_takeLetter 73 = .ok (.aload_n 0, 1) := by decide +kernel
theorem dX11_takeLetter_74 : decode cX11_takeLetter 74 = .ok (.iload_n 2, 1) := by decide +kernel
theorem dX11_takeLetter_75 : decode cX11_takeLetter 75 = .ok (.iconst 1, 1) := by decide +kernel
theorem dX11_takeLetter_76 : decode cX11_takeLetter 76 = .ok (.iadd, 1) := by decide +kernel
theorem dX11_takeLetter_77 : decode cX11_takeLetter 77 = .ok (.iload_n 3, 1) := by decide +kernel
theorem dX11_takeLetter_78 : decode cX11_takeLetter 78 = .ok (.invokevirtual 105, 3) := by decide +kernel
theorem dX11_takeLetter_81 : decode cX11_takeLetter 81 = .ok (.iastore, 1) := by decide +kernel
theorem dX11_takeLetter_82 : decode cX11_takeLetter 82 = .ok (.iinc 3 1, 3) := by decide +kernel
theorem dX11_takeLetter_85 : decode cX11_takeLetter 85 = .ok (.goto (-29), 3) := by decide +kernel
theorem dX11_takeLetter_88 : decode cX11_takeLetter 88 = .ok (.iinc 2 1, 3) := by decide +kernel
theorem dX11_takeLetter_91 : decode cX11_takeLetter 91 = .ok (.goto (-48), 3) := by decide +kernel
theorem dX11_takeLetter_94 : decode cX11_takeLetter 94 = .ok (.iconst 0, 1) := by decide +kernel
theorem dX11_takeLetter_95 : decode cX11_takeLetter 95 = .ok (.istore_n 2, 1) := by decide +kernel
theorem dX11_takeLetter_96 : decode cX11_takeLetter 96 = .ok (.iload_n 2, 1) := by decide +kernel
theorem dX11_takeLetter_97 : decode cX11_takeLetter 97 = .ok (.iconst 5, 1) := by decide +kernel
theorem dX11_takeLetter_98 : decode cX11_takeLetter 98 = .ok (.if_icmp .ge 29, 3) := by decide +kernel
theorem dX11_takeLetter_101 : decode cX11_takeLetter 101 = .ok (.aload_n 0, 1) := by decide +kernel
theorem dX11_takeLetter_102 : decode cX11_takeLetter 102 = .ok (.getfield 30, 3) := by decide +kernel
theorem dX11_takeLetter_105 : decode cX11_takeLetter 105 = .ok (.bipush 16, 2) := by decide +kernel
theorem dX11_takeLetter_107 : decode cX11_takeLetter 107 = .ok (.iconst 5, 1) := by decide +kernel
theorem dX11_takeLetter_108 : decode cX11_takeLetter 108 = .ok (.aload_n 0, 1) := by decide +kernel
theorem dX11_takeLetter_109 : decode cX11_takeLetter 109 = .ok (.getfield 30, 3) := by decide +kernel
theorem dX11_takeLetter_112 : decode cX11_takeLetter 112 = .ok (.bipush 15, 2) := by decide +kernel
theorem dX11_takeLetter_114 : decode cX11_takeLetter 114 = .ok (.iaload, 1) := by decide +kernel
theorem dX11_takeLetter_115 : decode cX11_takeLetter 115 = .ok (.imul, 1) := by decide +kernel
theorem dX11_takeLetter_116 : decode cX11_takeLetter 116 = .ok (.iadd, 1) := by decide +kernel
theorem dX11_takeLetter_117 : decode cX11_takeLetter 117 = .ok (.iload_n 2, 1) := by decide +kernel
theorem dX11_takeLetter_118 : decode cX11_takeLetter 118 = .ok (.iadd, 1) := by decide +kernel
theorem dX11_takeLetter_119 : decode cX11_takeLetter 119 = .ok (.iconst 0, 1) := by decide +kernel
theorem dX11_takeLetter_120 : decode cX11_takeLetter 120 = .ok (.iastore, 1) := by decide +kernel
theorem dX11_takeLetter_121 : decode cX11_takeLetter 121 = .ok (.iinc 2 1, 3) := by decide +kernel
theorem dX11_takeLetter_124 : decode cX11_takeLetter 124 = .ok (.goto (-28), 3) := by decide +kernel
theorem dX11_takeLetter_127 : decode cX11_takeLetter 127 = .ok (.return_, 1) := by decide +kernel
theorem dX11_stale_0 : decode cX11_stale 0 = .ok (.iconst 0, 1) := by decide +kernel
theorem dX11_stale_1 : decode cX11_stale 1 = .ok (.istore_n 2, 1) := by decide +kernel
theorem dX11_stale_2 : decode cX11_stale 2 = .ok (.iload_n 2, 1) := by decide +kernel
theorem dX11_stale_3 : decode cX11_stale 3 = .ok (.aload_n 0, 1) := by decide +kernel
theorem dX11_stale_4 : decode cX11_stale 4 = .ok (.getfield 7, 3) := by decide +kernel
theorem dX11_stale_7 : decode cX11_stale 7 = .ok (.if_icmp .ge 29, 3) := by decide +kernel
theorem dX11_stale_10 : decode cX11_stale 10 = .ok (.aload_n 0, 1) := by decide +kernel
theorem dX11_stale_11 : decode cX11_stale 11 = .ok (.getfield 30, 3) := by decide +kernel
theorem dX11_stale_14 : decode cX11_stale 14 = .ok (.iconst 3, 1) := by decide +kernel
theorem dX11_stale_15 : decode cX11_stale 15 = .ok (.iload_n 2, 1) := by decide +kernel
theorem dX11_stale_16 : decode cX11_stale 16 = .ok (.imul, 1) := by decide +kernel
theorem dX11_stale_17 : decode cX11_stale 17 = .ok (.iconst 1, 1) := by decide +kernel
theorem dX11_stale_18 : decode cX11_stale 18 = .ok (.iadd, 1) := by decide +kernel
theorem dX11_stale_19 : decode cX11_stale 19 = .ok (.iload_n 2, 1) := by decide +kernel
theorem dX11_stale_20 : decode cX11_stale 20 = .ok (.iload_n 1, 1) := by decide +kernel
theorem dX11_stale_21 : decode cX11_stale 21 = .ok (.if_icmp .ne 7, 3) := by decide +kernel
theorem dX11_stale_24 : decode cX11_stale 24 = .ok (.iconst 1, 1) := by decide +kernel
theorem dX11_stale_25 : decode cX11_stale 25 = .ok (.goto 4, 3) := by decide +kernel
theorem dX11_stale_28 : decode cX11_stale 28 = .ok (.iconst 0, 1) := by decide +kernel
theorem dX11_stale_29 : decode cX11_stale 29 = .ok (.iastore, 1) := by decide +kernel
theorem dX11_stale_30 : decode cX11_stale 30 = .ok (.iinc 2 1, 3) := by decide +kernel
theorem dX11_stale_33 : decode cX11_stale 33 = .ok (.goto (-31), 3) := by decide +kernel
theorem dX11_stale_36 : decode cX11_stale 36 = .ok (.aload_n 0, 1) := by decide +kernel
theorem dX11_stale_37 : decode cX11_stale 37 = .ok (.getfield 30, 3) := by decide +kernel
theorem dX11_stale_40 : decode cX11_stale 40 = .ok (.bipush 13, 2) := by decide +kernel
theorem dX11_stale_42 : decode cX11_stale 42 = .ok (.iconst 0, 1) := by decide +kernel
theorem dX11_stale_43 : decode cX11_stale 43 = .ok (.iastore, 1) := by decide +kernel
theorem dX11_stale_44 : decode cX11_stale 44 = .ok (.aload_n 0, 1) := by decide +kernel
theorem dX11_stale_45 : decode cX11_stale 45 = .ok (.iconst 0, 1) := by decide +kernel
theorem dX11_stale_46 : decode cX11_stale 46 = .ok (.putfield 136, 3) := by decide +kernel
theorem dX11_stale_49 : decode cX11_stale 49 = .ok (.iconst 0, 1) := by decide +kernel
theorem dX11_stale_50 : decode cX11_stale 50 = .ok (.istore_n 2, 1) := by decide +kernel
theorem dX11_stale_51 : decode cX11_stale 51 = .ok (.iload_n 2, 1) := by decide +kernel
theorem dX11_stale_52 : decode cX11_stale 52 = .ok (.aload_n 0, 1) := by decide +kernel
theorem dX11_stale_53 : decode cX11_stale 53 = .ok (.getfield 30, 3) := by decide +kernel
theorem dX11_stale_56 : decode cX11_stale 56 = .ok (.bipush 15, 2) := by decide +kernel
theorem dX11_stale_58 : decode cX11_stale 58 = .ok (.iaload, 1) := by decide +kernel
theorem dX11_stale_59 : decode cX11_stale 59 = .ok (.if_icmp .ge 23, 3) := by decide +kernel
theorem dX11_stale_62 : decode cX11_stale 62 = .ok (.aload_n 0, 1) := by decide +kernel
theorem dX11_stale_63 : decode cX11_stale 63 = .ok (.getfield 30, 3) := by decide +kernel
theorem dX11_stale_66 : decode cX11_stale 66 = .ok (.bipush 16, 2) := by decide +kernel
theorem dX11_stale_68 : decode cX11_stale 68 = .ok (.iconst 5, 1) := by decide +kernel
theorem dX11_stale_69 : decode cX11_stale 69 = .ok (.iload_n 2, 1) := by decide +kernel
theorem dX11_stale_70 : decode cX11_stale 70 = .ok (.imul, 1) := by decide +kernel
theorem dX11_stale_71 : decode cX11_stale 71 = .ok (.iadd, 1) := by decide +kernel
theorem dX11_stale_72 : decode cX11_stale 72 = .ok (.iconst 4, 1) := by decide +kernel
theorem dX11_stale_73 : decode cX11_stale 73 = .ok (.iadd, 1) := by decide +kernel
theorem dX11_stale_74 : decode cX11_stale 74 = .ok (.iconst 0, 1) := by decide +kernel
theorem dX11_stale_75 : decode cX11_stale 75 = .ok (.iastore, 1) := by decide +kernel
theorem dX11_stale_76 : decode cX11_stale 76 = .ok (.iinc 2 1, 3) := by decide +kernel
theorem dX11_stale_79 : decode cX11_stale 79 = .ok (.goto (-28), 3) := by decide +kernel
theorem dX11_stale_82 : decode cX11_stale 82 = .ok (.return_, 1) := by decide +kernel
theorem dX11_cacheActs_0 : decode cX11_cacheActs 0 = .ok (.iconst 3, 1) := by decide +kernel
theorem dX11_cacheActs_1 : decode cX11_cacheActs 1 = .ok (.iload_n 1, 1) := by decide +kernel
theorem dX11_cacheActs_2 : decode cX11_cacheActs 2 = .ok (.imul, 1) := by decide +kernel
theorem dX11_cacheActs_3 : decode cX11_cacheActs 3 = .ok (.istore 4, 2) := by decide +kernel
theorem dX11_cacheActs_5 : decode cX11_cacheActs 5 = .ok (.iload_n 2, 1) := by decide +kernel
theorem dX11_cacheActs_6 : decode cX11_cacheActs 6 = .ok (.tableswitch 195 1 8 #[46, 56, 56, 94, 94, 135, 150, 178], 46) := by decide +kernel
theorem dX11_cacheActs_52 : decode cX11_cacheActs 52 = .ok (.aload_n 0, 1) := by decide +kernel
theorem dX11_cacheActs_53 : decode cX11_cacheActs 53 = .ok (.getfield 30, 3) := by decide +kernel
theorem dX11_cacheActs_56 : decode cX11_cacheActs 56 = .ok (.iload 4, 2) := by decide +kernel
theorem dX11_cacheActs_58 : decode cX11_cacheActs 58 = .ok (.iload_n 3, 1) := by decide +kernel
theorem dX11_cacheActs_59 : decode cX11_cacheActs 59 = .ok (.iastore, 1) := by decide +kernel
theorem dX11_cacheActs_60 : decode cX11_cacheActs 60 = .ok (.iconst 0, 1) := by decide +kernel
theorem dX11_cacheActs_61 : decode cX11_cacheActs 61 = .ok (.ireturn, 1) := by decide +kernel
theorem dX11_cacheActs_62 : decode cX11_cacheActs 62 = .ok (.aload_n 0, 1) := by decide +kernel
theorem dX11_cacheActs_63 : decode cX11_cacheActs 63 = .ok (.iload_n 3, 1) := by decide +kernel
theorem dX11_cacheActs_64 : decode cX11_cacheActs 64 = .ok (.iload_n 1, 1) := by decide +kernel
theorem dX11_cacheActs_65 : decode cX11_cacheActs 65 = .ok (.aload_n 0, 1) := by decide +kernel
theorem dX11_cacheActs_66 : decode cX11_cacheActs 66 = .ok (.getfield 7, 3) := by decide +kernel
theorem dX11_cacheActs_69 : decode cX11_cacheActs 69 = .ok (.iload_n 1, 1) := by decide +kernel
theorem dX11_cacheActs_70 : decode cX11_cacheActs 70 = .ok (.iload_n 2, 1) := by decide +kernel
theorem dX11_cacheActs_71 : decode cX11_cacheActs 71 = .ok (.iconst 3, 1) := by decide +kernel
theorem dX11_cacheActs_72 : decode cX11_cacheActs 72 = .ok (.if_icmp .ne 15, 3) := by decide +kernel
theorem dX11_cacheActs_75 : decode cX11_cacheActs 75 = .ok (.aload_n 0, 1) := by decide +kernel
theorem dX11_cacheActs_76 : decode cX11_cacheActs 76 = .ok (.getfield 30, 3) := by decide +kernel
theorem dX11_cacheActs_79 : decode cX11_cacheActs 79 = .ok (.iload 4, 2) := by decide +kernel
theorem dX11_cacheActs_81 : decode cX11_cacheActs 81 = .ok (.iconst 1, 1) := by decide +kernel
theorem dX11_cacheActs_82 : decode cX11_cacheActs 82 = .ok (.iadd, 1) := by decide +kernel
theorem dX11_cacheActs_83 : decode cX11_cacheActs 83 = .ok (.iaload, 1) := by decide +kernel
theorem dX11_cacheActs_84 : decode cX11_cacheActs 84 = .ok (.goto 4, 3) := by decide +kernel
theorem dX11_cacheActs_87 : decode cX11_cacheActs 87 = .ok (.iconst 0, 1) := by decide +kernel
theorem dX11_cacheActs_88 : decode cX11_cacheActs 88 = .ok (.invokevirtual 139, 3) := by decide +kernel
theorem dX11_cacheActs_91 : decode cX11_cacheActs 91 = .ok (.ifCond .eq 7, 3) := by decide +kernel
theorem dX11_cacheActs_94 : decode cX11_cacheActs 94 = .ok (.iconst 0, 1) := by decide +kernel
theorem dX11_cacheActs_95 : decode cX11_cacheActs 95 = .ok (.goto 4, 3) := by decide +kernel
theorem dX11_cacheActs_98 : decode cX11_cacheActs 98 = .ok (.iconst 3, 1) := by decide +kernel
theorem dX11_cacheActs_99 : decode cX11_cacheActs 99 = .ok (.ireturn, 1) := by decide +kernel
theorem dX11_cacheActs_100 : decode cX11_cacheActs 100 = .ok (.aload_n 0, 1) := by decide +kernel
theorem dX11_cacheActs_101 : decode cX11_cacheActs 101 = .ok (.iload_n 3, 1) := by decide +kernel
theorem dX11_cacheActs_102 : decode cX11_cacheActs 102 = .ok (.iload_n 1, 1) := by decide +kernel
theorem dX11_cacheActs_103 : decode cX11_cacheActs 103 = .ok (.aload_n 0, 1) := by decide +kernel
theorem dX11_cacheActs_104 : decode cX11_cacheActs 104 = .ok (.getfield 133, 3) := by decide +kernel
theorem dX11_cacheActs_107 : decode cX11_cacheActs 107 = .ok (.aload_n 0, 1) := by decide +kernel
theorem dX11_cacheActs_108 : decode cX11_cacheActs 108 = .ok (.getfield 133, 3) := by decide +kernel
theorem dX11_cacheActs_111 : decode cX11_cacheActs 111 = .ok (.iload_n 2, 1) := by decide +kernel
theorem dX11_cacheActs_112 : decode cX11_cacheActs 112 = .ok (.iconst 5, 1) := by decide +kernel
theorem dX11_cacheActs_113 : decode cX11_cacheActs 113 = .ok (.if_icmp .ne 15, 3) := by decide +kernel
theorem dX11_cacheActs_116 : decode cX11_cacheActs 116 = .ok (.aload_n 0, 1) := by decide +kernel
theorem dX11_cacheActs_117 : decode cX11_cacheActs 117 = .ok (.getfield 30, 3) := by decide +kernel
theorem dX11_cacheActs_120 : decode cX11_cacheActs 120 = .ok (.iload 4, 2) := by decide +kernel
theorem dX11_cacheActs_122 : decode cX11_cacheActs 122 = .ok (.iconst 1, 1) := by decide +kernel
theorem dX11_cacheActs_123 : decode cX11_cacheActs 123 = .ok (.iadd, 1) := by decide +kernel
theorem dX11_cacheActs_124 : decode cX11_cacheActs 124 = .ok (.iaload, 1) := by decide +kernel
theorem dX11_cacheActs_125 : decode cX11_cacheActs 125 = .ok (.goto 4, 3) := by decide +kernel
theorem dX11_cacheActs_128 : decode cX11_cacheActs 128 = .ok (.iconst 0, 1) := by decide +kernel
theorem dX11_cacheActs_129 : decode cX11_cacheActs 129 = .ok (.invokevirtual 139, 3) := by decide +kernel
theorem dX11_cacheActs_132 : decode cX11_cacheActs 132 = .ok (.ifCond .eq 7, 3) := by decide +kernel
theorem dX11_cacheActs_135 : decode cX11_cacheActs 135 = .ok (.iconst 0, 1) := by decide +kernel
theorem dX11_cacheActs_136 : decode cX11_cacheActs 136 = .ok (.goto 4, 3) := by decide +kernel
theorem dX11_cacheActs_139 : decode cX11_cacheActs 139 = .ok (.iconst 3, 1) := by decide +kernel
theorem dX11_cacheActs_140 : decode cX11_cacheActs 140 = .ok (.ireturn, 1) := by decide +kernel
theorem dX11_cacheActs_141 : decode cX11_cacheActs 141 = .ok (.aload_n 0, 1) := by decide +kernel
theorem dX11_cacheActs_142 : decode cX11_cacheActs 142 = .ok (.getfield 30, 3) := by decide +kernel
theorem dX11_cacheActs_145 : decode cX11_cacheActs 145 = .ok (.iload 4, 2) := by decide +kernel
theorem dX11_cacheActs_147 : decode cX11_cacheActs 147 = .ok (.iconst 1, 1) := by decide +kernel
theorem dX11_cacheActs_148 : decode cX11_cacheActs 148 = .ok (.iadd, 1) := by decide +kernel
theorem dX11_cacheActs_149 : decode cX11_cacheActs 149 = .ok (.aload_n 0, 1) := by decide +kernel
theorem dX11_cacheActs_150 : decode cX11_cacheActs 150 = .ok (.getfield 136, 3) := by decide +kernel
theorem dX11_cacheActs_153 : decode cX11_cacheActs 153 = .ok (.iastore, 1) := by decide +kernel
theorem dX11_cacheActs_154 : decode cX11_cacheActs 154 = .ok (.iconst 0, 1) := by decide +kernel
theorem dX11_cacheActs_155 : decode cX11_cacheActs 155 = .ok (.ireturn, 1) := by decide +kernel
theorem dX11_cacheActs_156 : decode cX11_cacheActs 156 = .ok (.aload_n 0, 1) := by decide +kernel
theorem dX11_cacheActs_157 : decode cX11_cacheActs 157 = .ok (.getfield 30, 3) := by decide +kernel
theorem dX11_cacheActs_160 : decode cX11_cacheActs 160 = .ok (.iload 4, 2) := by decide +kernel
theorem dX11_cacheActs_162 : decode cX11_cacheActs 162 = .ok (.iconst 2, 1) := by decide +kernel
theorem dX11_cacheActs_163 : decode cX11_cacheActs 163 = .ok (.iadd, 1) := by decide +kernel
theorem dX11_cacheActs_164 : decode cX11_cacheActs 164 = .ok (.iconst 0, 1) := by decide +kernel
theorem dX11_cacheActs_165 : decode cX11_cacheActs 165 = .ok (.iastore, 1) := by decide +kernel
theorem dX11_cacheActs_166 : decode cX11_cacheActs 166 = .ok (.aload_n 0, 1) := by decide +kernel
theorem dX11_cacheActs_167 : decode cX11_cacheActs 167 = .ok (.getfield 30, 3) := by decide +kernel
theorem dX11_cacheActs_170 : decode cX11_cacheActs 170 = .ok (.iload 4, 2) := by decide +kernel
theorem dX11_cacheActs_172 : decode cX11_cacheActs 172 = .ok (.iconst 1, 1) := by decide +kernel
theorem dX11_cacheActs_173 : decode cX11_cacheActs 173 = .ok (.iadd, 1) := by decide +kernel
theorem dX11_cacheActs_174 : decode cX11_cacheActs 174 = .ok (.iaload, 1) := by decide +kernel
theorem dX11_cacheActs_175 : decode cX11_cacheActs 175 = .ok (.ifCond .ne 7, 3) := by decide +kernel
theorem dX11_cacheActs_178 : decode cX11_cacheActs 178 = .ok (.iconst 2, 1) := by decide +kernel
theorem dX11_cacheActs_179 : decode cX11_cacheActs 179 = .ok (.goto 4, 3) := by decide +kernel
theorem dX11_cacheActs_182 : decode cX11_cacheActs 182 = .ok (.iconst 0, 1) := by decide +kernel
theorem dX11_cacheActs_183 : decode cX11_cacheActs 183 = .ok (.ireturn, 1) := by decide +kernel
theorem dX11_cacheActs_184 : decode cX11_cacheActs 184 = .ok (.aload_n 0, 1) := by decide +kernel
theorem dX11_cacheActs_185 : decode cX11_cacheActs 185 = .ok (.getfield 30, 3) := by decide +kernel
theorem dX11_cacheActs_188 : decode cX11_cacheActs 188 = .ok (.iload 4, 2) := by decide +kernel
theorem dX11_cacheActs_190 : decode cX11_cacheActs 190 = .ok (.iconst 2, 1) := by decide +kernel
theorem dX11_cacheActs_191 : decode cX11_cacheActs 191 = .ok (.iadd, 1) := by decide +kernel
theorem dX11_cacheActs_192 : decode cX11_cacheActs 192 = .ok (.iconst 0, 1) := by decide +kernel
theorem dX11_cacheActs_193 : decode cX11_cacheActs 193 = .ok (.iastore, 1) := by decide +kernel
theorem dX11_cacheActs_194 : decode cX11_cacheActs 194 = .ok (.aload_n 0, 1) := by decide +kernel
theorem dX11_cacheActs_195 : decode cX11_cacheActs 195 = .ok (.iload_n 1, 1) := by decide +kernel
theorem dX11_cacheActs_196 : decode cX11_cacheActs 196 = .ok (.invokevirtual 143, 3) := by decide +kernel
theorem dX11_cacheActs_199 : decode cX11_cacheActs 199 = .ok (.iconst 0, 1) := by decide +kernel
theorem dX11_cacheActs_200 : decode cX11_cacheActs 200 = .ok (.ireturn, 1) := by decide +kernel
theorem dX11_cacheActs_201 : decode cX11_cacheActs 201 = .ok (.iconst 0, 1) := by decide +kernel
theorem dX11_cacheActs_202 : decode cX11_cacheActs 202 = .ok (.ireturn, 1) := by decide +kernel
theorem dX11_homeActs_0 : decode cX11_homeActs 0 = .ok (.iload_n 1, 1) := by decide +kernel
theorem dX11_homeActs_1 : decode cX11_homeActs 1 = .ok (.tableswitch 221 1 8 #[47, 57, 57, 99, 160, 178, 198, 208], 47) := by decide +kernel
theorem dX11_homeActs_48 : decode cX11_homeActs 48 = .ok (.aload_n 0, 1) := by decide +kernel
theorem dX11_homeActs_49 : decode cX11_homeActs 49 = .ok (.getfield 30, 3) := by decide +kernel
theorem dX11_homeActs_52 : decode cX11_homeActs 52 = .ok (.bipush 12, 2) := by decide +kernel
theorem dX11_homeActs_54 : decode cX11_homeActs 54 = .ok (.iload_n 2, 1) := by decide +kernel
theorem dX11_homeActs_55 : decode cX11_homeActs 55 = .ok (.iastore, 1) := by decide +kernel
theorem dX11_homeActs_56 : decode cX11_homeActs 56 = .ok (.iconst 0, 1) := by decide +kernel
theorem dX11_homeActs_57 : decode cX11_homeActs 57 = .ok (.ireturn, 1) := by decide +kernel
theorem dX11_homeActs_58 : decode cX11_homeActs 58 = .ok (.aload_n 0, 1) := by decide +kernel
theorem dX11_homeActs_59 : decode cX11_homeActs 59 = .ok (.iload_n 2, 1) := by decide +kernel
theorem dX11_homeActs_60 : decode cX11_homeActs 60 = .ok (.aload_n 0, 1) := by decide +kernel
theorem dX11_homeActs_61 : decode cX11_homeActs 61 = .ok (.getfield 7, 3) := by decide +kernel
theorem dX11_homeActs_64 : decode cX11_homeActs 64 = .ok (.aload_n 0, 1) := by decide +kernel
theorem dX11_homeActs_65 : decode cX11_homeActs 65 = .ok (.getfield 133, 3) := by decide +kernel
theorem dX11_homeActs_68 : decode cX11_homeActs 68 = .ok (.aload_n 0, 1) := by decide +kernel
theorem dX11_homeActs_69 : decode cX11_homeActs 69 = .ok (.getfield 133, 3) := by decide +kernel
theorem dX11_homeActs_72 : decode cX11_homeActs 72 = .ok (.iload_n 1, 1) := by decide +kernel
theorem dX11_homeActs_73 : decode cX11_homeActs 73 = .ok (.iconst 3, 1) := by decide +kernel
theorem dX11_homeActs_74 : decode cX11_homeActs 74 = .ok (.if_icmp .ne 13, 3) := by decide +kernel
theorem dX11_homeActs_77 : decode cX11_homeActs 77 = .ok (.aload_n 0, 1) := by decide +kernel
theorem dX11_homeActs_78 : decode cX11_homeActs 78 = .ok (.getfield 30, 3) := by decide +kernel
theorem dX11_homeActs_81 : decode cX11_homeActs 81 = .ok (.bipush 13, 2) := by decide +kernel
theorem dX11_homeActs_83 : decode cX11_homeActs 83 = .ok (.iaload, 1) := by decide +kernel
theorem dX11_homeActs_84 : decode cX11_homeActs 84 = .ok (.goto 4, 3) := by decide +kernel
theorem dX11_homeActs_87 : decode cX11_homeActs 87 = .ok (.iconst 0, 1) := by decide +kernel
theorem dX11_homeActs_88 : decode cX11_homeActs 88 = .ok (.invokevirtual 139, 3) := by decide +kernel
theorem dX11_homeActs_91 : decode cX11_homeActs 91 = .ok (.ifCond .eq 7, 3) := by decide +kernel
theorem dX11_homeActs_94 : decode cX11_homeActs 94 = .ok (.iconst 0, 1) := by decide +kernel
theorem dX11_homeActs_95 : decode cX11_homeActs 95 = .ok (.goto 4, 3) := by decide +kernel
theorem dX11_homeActs_98 : decode cX11_homeActs 98 = .ok (.iconst 3, 1) := by decide +kernel
theorem dX11_homeActs_99 : decode cX11_homeActs 99 = .ok (.ireturn, 1) := by decide +kernel
theorem dX11_homeActs_100 : decode cX11_homeActs 100 = .ok (.iconst 0, 1) := by decide +kernel
theorem dX11_homeActs_101 : decode cX11_homeActs 101 = .ok (.istore_n 3, 1) := by decide +kernel
theorem dX11_homeActs_102 : decode cX11_homeActs 102 = .ok (.iload_n 3, 1) := by decide +kernel
theorem dX11_homeActs_103 : decode cX11_homeActs 103 = .ok (.aload_n 0, 1) := by decide +kernel
theorem dX11_homeActs_104 : decode cX11_homeActs 104 = .ok (.getfield 7, 3) := by decide +kernel
theorem dX11_homeActs_107 : decode cX11_homeActs 107 = .ok (.if_icmp .ge 52, 3) := by decide +kernel
theorem dX11_homeActs_110 : decode cX11_homeActs 110 = .ok (.iload_n 3, 1) := by decide +kernel
theorem dX11_homeActs_111 : decode cX11_homeActs 111 = .ok (.aload_n 0, 1) := by decide +kernel
theorem dX11_homeActs_112 : decode cX11_homeActs 112 = .ok (.getfield 133, 3) := by decide +kernel
theorem dX11_homeActs_115 : decode cX11_homeActs 115 = .ok (.if_icmp .eq 38, 3) := by decide +kernel
theorem dX11_homeActs_118 : decode cX11_homeActs 118 = .ok (.aload_n 0, 1) := by decide +kernel
theorem dX11_homeActs_119 : decode cX11_homeActs 119 = .ok (.getfield 30, 3) := by decide +kernel
theorem dX11_homeActs_122 : decode cX11_homeActs 122 = .ok (.bipush 14, 2) := by decide +kernel
theorem dX11_homeActs_124 : decode cX11_homeActs 124 = .ok (.iaload, 1) := by decide +kernel
theorem dX11_homeActs_125 : decode cX11_homeActs 125 = .ok (.iload_n 3, 1) := by decide +kernel
theorem dX11_homeActs_126 : decode cX11_homeActs 126 = .ok (.ishr, 1) := by decide +kernel
theorem dX11_homeActs_127 : decode cX11_homeActs 127 = .ok (.iconst 1, 1) := by decide +kernel
theorem dX11_homeActs_128 : decode cX11_homeActs 128 = .ok (.iand, 1) := by decide +kernel
theorem dX11_homeActs_129 : decode cX11_homeActs 129 = .ok (.iconst 1, 1) := by decide +kernel
theorem dX11_homeActs_130 : decode cX11_homeActs 130 = .ok (.if_icmp .ne 23, 3) := by decide +kernel
theorem dX11_homeActs_133 : decode cX11_homeActs 133 = .ok (.aload_n 0, 1) := by decide +kernel
theorem dX11_homeActs_134 : decode cX11_homeActs 134 = .ok (.iload_n 2, 1) := by decide +kernel
theorem dX11_homeActs_135 : decode cX11_homeActs 135 = .ok (.aload_n 0, 1) := by decide +kernel
theorem dX11_homeActs_136 : decode cX11_homeActs 136 = .ok (.getfield 7, 3) := by decide +kernel
theorem dX11_homeActs_139 : decode cX11_homeActs 139 = .ok (.iload_n 3, 1) := by decide +kernel
theorem dX11_homeActs_140 : decode cX11_homeActs 140 = .ok (.aload_n 0, 1) := by decide +kernel
theorem dX11_homeActs_141 : decode cX11_homeActs 141 = .ok (.getfield 133, 3) := by decide +kernel
theorem dX11_homeActs_144 : decode cX11_homeActs 144 = .ok (.iconst 0, 1) := by decide +kernel
theorem dX11_homeActs_145 : decode cX11_homeActs 145 = .ok (.invokevirtual 139, 3) := by decide +kernel
theorem dX11_homeActs_148 : decode cX11_homeActs 148 = .ok (.ifCond .ne 5, 3) := by decide +kernel
theorem dX11_homeActs_151 : decode cX11_homeActs 151 = .ok (.iconst 3, 1) := by decide +kernel
theorem dX11_homeActs_152 : decode cX11_homeActs 152 = .ok (.ireturn, 1) := by decide +kernel
theorem dX11_homeActs_153 : decode cX11_homeActs 153 = .ok (.iinc 3 1, 3) := by decide +kernel
theorem dX11_homeActs_156 : decode cX11_homeActs 156 = .ok (.goto (-54), 3) := by decide +kernel
theorem dX11_homeActs_159 : decode cX11_homeActs 159 = .ok (.iconst 0, 1) := by decide +kernel
theorem dX11_homeActs_160 : decode cX11_homeActs 160 = .ok (.ireturn, 1) := by decide +kernel
theorem dX11_homeActs_161 : decode cX11_homeActs 161 = .ok (.aload_n 0, 1) := by decide +kernel
theorem dX11_homeActs_162 : decode cX11_homeActs 162 = .ok (.getfield 30, 3) := by decide +kernel
theorem dX11_homeActs_165 : decode cX11_homeActs 165 = .ok (.bipush 14, 2) := by decide +kernel
theorem dX11_homeActs_167 : decode cX11_homeActs 167 = .ok (.dup2, 1) := by decide +kernel
theorem dX11_homeActs_168 : decode cX11_homeActs 168 = .ok (.iaload, 1) := by decide +kernel
theorem dX11_homeActs_169 : decode cX11_homeActs 169 = .ok (.iconst 1, 1) := by decide +kernel
theorem dX11_homeActs_170 : decode cX11_homeActs 170 = .ok (.aload_n 0, 1) := by decide +kernel
theorem dX11_homeActs_171 : decode cX11_homeActs 171 = .ok (.getfield 133, 3) := by decide +kernel
theorem dX11_homeActs_174 : decode cX11_homeActs 174 = .ok (.ishl, 1) := by decide +kernel
theorem dX11_homeActs_175 : decode cX11_homeActs 175 = .ok (.ior, 1) := by decide +kernel
theorem dX11_homeActs_176 : decode cX11_homeActs 176 = .ok (.iastore, 1) := by decide +kernel
theorem dX11_homeActs_177 : decode cX11_homeActs 177 = .ok (.iconst 0, 1) := by decide +kernel
theorem dX11_homeActs_178 : decode cX11_homeActs 178 = .ok (.ireturn, 1) := by decide +kernel
theorem dX11_homeActs_179 : decode cX11_homeActs 179 = .ok (.aload_n 0, 1) := by decide +kernel
theorem dX11_homeActs_180 : decode cX11_homeActs 180 = .ok (.getfield 30, 3) := by decide +kernel
theorem dX11_homeActs_183 : decode cX11_homeActs 183 = .ok (.bipush 14, 2) := by decide +kernel
theorem dX11_homeActs_185 : decode cX11_homeActs 185 = .ok (.dup2, 1) := by decide +kernel
theorem dX11_homeActs_186 : decode cX11_homeActs 186 = .ok (.iaload, 1) := by decide +kernel
theorem dX11_homeActs_187 : decode cX11_homeActs 187 = .ok (.iconst 1, 1) := by decide +kernel
theorem dX11_homeActs_188 : decode cX11_homeActs 188 = .ok (.aload_n 0, 1) := by decide +kernel
theorem dX11_homeActs_189 : decode cX11_homeActs 189 = .ok (.getfield 133, 3) := by decide +kernel
theorem dX11_homeActs_192 : decode cX11_homeActs 192 = .ok (.ishl, 1) := by decide +kernel
theorem dX11_homeActs_193 : decode cX11_homeActs 193 = .ok (.iconst (-1), 1) := by decide +kernel
theorem dX11_homeActs_194 : decode cX11_homeActs 194 = .ok (.ixor, 1) := by decide +kernel
theorem dX11_homeActs_195 : decode cX11_homeActs 195 = .ok (.iand, 1) := by decide +kernel
theorem dX11_homeActs_196 : decode cX11_homeActs 196 = .ok (.iastore, 1) := by decide +kernel
theorem dX11_homeActs_197 : decode cX11_homeActs 197 = .ok (.iconst 0, 1) := by decide +kernel
theorem dX11_homeActs_198 : decode cX11_homeActs 198 = .ok (.ireturn, 1) := by decide +kernel
theorem dX11_homeActs_199 : decode cX11_homeActs 199 = .ok (.aload_n 0, 1) := by decide +kernel
theorem dX11_homeActs_200 : decode cX11_homeActs 200 = .ok (.getfield 30, 3) := by decide +kernel
theorem dX11_homeActs_203 : decode cX11_homeActs 203 = .ok (.bipush 14, 2) := by decide +kernel
theorem dX11_homeActs_205 : decode cX11_homeActs 205 = .ok (.iconst 0, 1) := by decide +kernel
theorem dX11_homeActs_206 : decode cX11_homeActs 206 = .ok (.iastore, 1) := by decide +kernel
theorem dX11_homeActs_207 : decode cX11_homeActs 207 = .ok (.iconst 0, 1) := by decide +kernel
theorem dX11_homeActs_208 : decode cX11_homeActs 208 = .ok (.ireturn, 1) := by decide +kernel
theorem dX11_homeActs_209 : decode cX11_homeActs 209 = .ok (.aload_n 0, 1) := by decide +kernel
theorem dX11_homeActs_210 : decode cX11_homeActs 210 = .ok (.getfield 30, 3) := by decide +kernel
theorem dX11_homeActs_213 : decode cX11_homeActs 213 = .ok (.bipush 13, 2) := by decide +kernel
theorem dX11_homeActs_215 : decode cX11_homeActs 215 = .ok (.aload_n 0, 1) := by decide +kernel
theorem dX11_homeActs_216 : decode cX11_homeActs 216 = .ok (.getfield 136, 3) := by decide +kernel
theorem dX11_homeActs_219 : decode cX11_homeActs 219 = .ok (.iastore, 1) := by decide +kernel
theorem dX11_homeActs_220 : decode cX11_homeActs 220 = .ok (.iconst 0, 1) := by decide +kernel
theorem dX11_homeActs_221 : decode cX11_homeActs 221 = .ok (.ireturn, 1) := by decide +kernel
theorem dX11_homeActs_222 : decode cX11_homeActs 222 = .ok (.iconst 0, 1) := by decide +kernel
theorem dX11_homeActs_223 : decode cX11_homeActs 223 = .ok (.ireturn, 1) := by decide +kernel
theorem dX11_doStep_0 : decode cX11_doStep 0 = .ok (.aload_n 0, 1) := by decide +kernel
theorem dX11_doStep_1 : decode cX11_doStep 1 = .ok (.getfield 39, 3) := by decide +kernel
theorem dX11_doStep_4 : decode cX11_doStep 4 = .ok (.iload_n 1, 1) := by decide +kernel
theorem dX11_doStep_5 : decode cX11_doStep 5 = .ok (.iaload, 1) := by decide +kernel
theorem dX11_doStep_6 : decode cX11_doStep 6 = .ok (.istore_n 2, 1) := by decide +kernel
theorem dX11_doStep_7 : decode cX11_doStep 7 = .ok (.aload_n 0, 1) := by decide +kernel
theorem dX11_doStep_8 : decode cX11_doStep 8 = .ok (.getfield 48, 3) := by decide +kernel
theorem dX11_doStep_11 : decode cX11_doStep 11 = .ok (.iload_n 1, 1) := by decide +kernel
theorem dX11_doStep_12 : decode cX11_doStep 12 = .ok (.iaload, 1) := by decide +kernel
theorem dX11_doStep_13 : decode cX11_doStep 13 = .ok (.ifCond .lt 27, 3) := by decide +kernel
theorem dX11_doStep_16 : decode cX11_doStep 16 = .ok (.aload_n 0, 1) := by decide +kernel
theorem dX11_doStep_17 : decode cX11_doStep 17 = .ok (.aload_n 0, 1) := by decide +kernel
theorem dX11_doStep_18 : decode cX11_doStep 18 = .ok (.getfield 48, 3) := by decide +kernel
theorem dX11_doStep_21 : decode cX11_doStep 21 = .ok (.iload_n 1, 1) := by decide +kernel
theorem dX11_doStep_22 : decode cX11_doStep 22 = .ok (.iaload, 1) := by decide +kernel
theorem dX11_doStep_23 : decode cX11_doStep 23 = .ok (.invokevirtual 120, 3) := by decide +kernel
theorem dX11_doStep_26 : decode cX11_doStep 26 = .ok (.istore_n 3, 1) := by decide +kernel
theorem dX11_doStep_27 : decode cX11_doStep 27 = .ok (.aload_n 0, 1) := by decide +kernel
theorem dX11_doStep_28 : decode cX11_doStep 28 = .ok (.aload_n 0, 1) := by decide +kernel
theorem dX11_doStep_29 : decode cX11_doStep 29 = .ok (.getfield 48, 3) := by decide +kernel
theorem dX11_doStep_32 : decode cX11_doStep 32 = .ok (.iload_n 1, 1) := by decide +kernel
theorem dX11_doStep_33 : decode cX11_doStep 33 = .ok (.iaload, 1) := by decide +kernel
theorem dX11_doStep_34 : decode cX11_doStep 34 = .ok (.invokevirtual 147, 3) := by decide +kernel
theorem dX11_doStep_37 : decode cX11_doStep 37 = .ok (.goto 64, 3) := by decide +kernel
theorem dX11_doStep_40 : decode cX11_doStep 40 = .ok (.aload_n 0, 1) := by decide +kernel
theorem dX11_doStep_41 : decode cX11_doStep 41 = .ok (.getfield 30, 3) := by decide +kernel
theorem dX11_doStep_44 : decode cX11_doStep 44 = .ok (.iconst 3, 1) := by decide +kernel
theorem dX11_doStep_45 : decode cX11_doStep 45 = .ok (.iload_n 2, 1) := by decide +kernel
theorem dX11_doStep_46 : decode cX11_doStep 46 = .ok (.imul, 1) := by decide +kernel
theorem dX11_doStep_47 : decode cX11_doStep 47 = .ok (.iaload, 1) := by decide +kernel
theorem dX11_doStep_48 : decode cX11_doStep 48 = .ok (.bipush 64, 2) := by decide +kernel
theorem dX11_doStep_50 : decode cX11_doStep 50 = .ok (.imul, 1) := by decide +kernel
theorem dX11_doStep_51 : decode cX11_doStep 51 = .ok (.aload_n 0, 1) := by decide +kernel
theorem dX11_doStep_52 : decode cX11_doStep 52 = .ok (.getfield 42, 3) := by decide +kernel
theorem dX11_doStep_55 : decode cX11_doStep 55 = .ok (.iload_n 1, 1) := by decide +kernel
theorem dX11_doStep_56 : decode cX11_doStep 56 = .ok (.iaload, 1) := by decide +kernel
theorem dX11_doStep_57 : decode cX11_doStep 57 = .ok (.iadd, 1) := by decide +kernel
theorem dX11_doStep_58 : decode cX11_doStep 58 = .ok (.istore_n 3, 1) := by decide +kernel
theorem dX11_doStep_59 : decode cX11_doStep 59 = .ok (.aload_n 0, 1) := by decide +kernel
theorem dX11_doStep_60 : decode cX11_doStep 60 = .ok (.iload_n 2, 1) := by decide +kernel
theorem dX11_doStep_61 : decode cX11_doStep 61 = .ok (.putfield 133, 3) := by decide +kernel
theorem dX11_doStep_64 : decode cX11_doStep 64 = .ok (.aload_n 0, 1) := by decide +kernel
theorem dX11_doStep_65 : decode cX11_doStep 65 = .ok (.iconst 0, 1) := by decide +kernel
theorem dX11_doStep_66 : decode cX11_doStep 66 = .ok (.putfield 136, 3) := by decide +kernel
theorem dX11_doStep_69 : decode cX11_doStep 69 = .ok (.aload_n 0, 1) := by decide +kernel
theorem dX11_doStep_70 : decode cX11_doStep 70 = .ok (.getfield 30, 3) := by decide +kernel
theorem dX11_doStep_73 : decode cX11_doStep 73 = .ok (.iconst 3, 1) := by decide +kernel
theorem dX11_doStep_74 : decode cX11_doStep 74 = .ok (.iload_n 2, 1) := by decide +kernel
theorem dX11_doStep_75 : decode cX11_doStep 75 = .ok (.imul, 1) := by decide +kernel
theorem dX11_doStep_76 : decode cX11_doStep 76 = .ok (.iconst 2, 1) := by decide +kernel
theorem dX11_doStep_77 : decode cX11_doStep 77 = .ok (.iadd, 1) := by decide +kernel
theorem dX11_doStep_78 : decode cX11_doStep 78 = .ok (.aload_n 0, 1) := by decide +kernel
theorem dX11_doStep_79 : decode cX11_doStep 79 = .ok (.getfield 42, 3) := by decide +kernel
theorem dX11_doStep_82 : decode cX11_doStep 82 = .ok (.iload_n 1, 1) := by decide +kernel
theorem dX11_doStep_83 : decode cX11_doStep 83 = .ok (.iaload, 1) := by decide +kernel
theorem dX11_doStep_84 : decode cX11_doStep 84 = .ok (.iconst 2, 1) := by decide +kernel
theorem dX11_doStep_85 : decode cX11_doStep 85 = .ok (.if_icmp .ge 14, 3) := by decide +kernel
theorem dX11_doStep_88 : decode cX11_doStep 88 = .ok (.aload_n 0, 1) := by decide +kernel
theorem dX11_doStep_89 : decode cX11_doStep 89 = .ok (.getfield 42, 3) := by decide +kernel
theorem dX11_doStep_92 : decode cX11_doStep 92 = .ok (.iload_n 1, 1) := by decide +kernel
theorem dX11_doStep_93 : decode cX11_doStep 93 = .ok (.iaload, 1) := by decide +kernel
theorem dX11_doStep_94 : decode cX11_doStep 94 = .ok (.iconst 1, 1) := by decide +kernel
theorem dX11_doStep_95 : decode cX11_doStep 95 = .ok (.iadd, 1) := by decide +kernel
theorem dX11_doStep_96 : decode cX11_doStep 96 = .ok (.goto 4, 3) := by decide +kernel
theorem dX11_doStep_99 : decode cX11_doStep 99 = .ok (.iconst 0, 1) := by decide +kernel
theorem dX11_doStep_100 : decode cX11_doStep 100 = .ok (.iastore, 1) := by decide +kernel
theorem dX11_doStep_101 : decode cX11_doStep 101 = .ok (.aload_n 0, 1) := by decide +kernel
theorem dX11_doStep_102 : decode cX11_doStep 102 = .ok (.aload_n 0, 1) := by decide +kernel
theorem dX11_doStep_103 : decode cX11_doStep 103 = .ok (.getfield 20, 3) := by decide +kernel
theorem dX11_doStep_106 : decode cX11_doStep 106 = .ok (.iload_n 3, 1) := by decide +kernel
theorem dX11_doStep_107 : decode cX11_doStep 107 = .ok (.iaload, 1) := by decide +kernel
theorem dX11_doStep_108 : decode cX11_doStep 108 = .ok (.ifCond .ge 7, 3) := by decide +kernel
theorem dX11_doStep_111 : decode cX11_doStep 111 = .ok (.iconst (-1), 1) := by decide +kernel
theorem dX11_doStep_112 : decode cX11_doStep 112 = .ok (.goto 4, 3) := by decide +kernel
theorem dX11_doStep_115 : decode cX11_doStep 115 = .ok (.iload_n 3, 1) := by decide +kernel
theorem dX11_doStep_116 : decode cX11_doStep 116 = .ok (.putfield 150, 3) := by decide +kernel
theorem dX11_doStep_119 : decode cX11_doStep 119 = .ok (.aload_n 0, 1) := by decide +kernel
theorem dX11_doStep_120 : decode cX11_doStep 120 = .ok (.getfield 150, 3) := by decide +kernel
theorem dX11_doStep_123 : decode cX11_doStep 123 = .ok (.ifCond .ge 5, 3) := by decide +kernel
theorem dX11_doStep_126 : decode cX11_doStep 126 = .ok (.iconst 1, 1) := by decide +kernel
theorem dX11_doStep_127 : decode cX11_doStep 127 = .ok (.ireturn, 1) := by decide +kernel
theorem dX11_doStep_128 : decode cX11_doStep 128 = .ok (.iconst 0, 1) := by decide +kernel
theorem dX11_doStep_129 : decode cX11_doStep 129 = .ok (.istore 4, 2) := by decide +kernel
theorem dX11_doStep_131 : decode cX11_doStep 131 = .ok (.iconst 0, 1) := by decide +kernel
theorem dX11_doStep_132 : decode cX11_doStep 132 = .ok (.istore 5, 2) := by decide +kernel
theorem dX11_doStep_134 : decode cX11_doStep 134 = .ok (.iload 5, 2) := by decide +kernel
theorem dX11_doStep_136 : decode cX11_doStep 136 = .ok (.aload_n 0, 1) := by decide +kernel
theorem dX11_doStep_137 : decode cX11_doStep 137 = .ok (.getfield 20, 3) := by decide +kernel
theorem dX11_doStep_140 : decode cX11_doStep 140 = .ok (.iload_n 3, 1) := by decide +kernel
theorem dX11_doStep_141 : decode cX11_doStep 141 = .ok (.iaload, 1) := by decide +kernel
theorem dX11_doStep_142 : decode cX11_doStep 142 = .ok (.if_icmp .ge 78, 3) := by decide +kernel
theorem dX11_doStep_145 : decode cX11_doStep 145 = .ok (.iload 4, 2) := by decide +kernel
theorem dX11_doStep_147 : decode cX11_doStep 147 = .ok (.ifCond .ne 73, 3) := by decide +kernel
theorem dX11_doStep_150 : decode cX11_doStep 150 = .ok (.aload_n 0, 1) := by decide +kernel
theorem dX11_doStep_151 : decode cX11_doStep 151 = .ok (.getfield 23, 3) := by decide +kernel
theorem dX11_doStep_154 : decode cX11_doStep 154 = .ok (.bipush 8, 2) := by decide +kernel
theorem dX11_doStep_156 : decode cX11_doStep 156 = .ok (.iload_n 3, 1) := by decide +kernel
theorem dX11_doStep_157 : decode cX11_doStep 157 = .ok (.imul, 1) := by decide +kernel
theorem dX11_doStep_158 : decode cX11_doStep 158 = .ok (.iload 5, 2) := by decide +kernel
theorem dX11_doStep_160 : decode cX11_doStep 160 = .ok (.iadd, 1) := by decide +kernel
theorem dX11_doStep_161 : decode cX11_doStep 161 = .ok (.iaload, 1) := by decide +kernel
theorem dX11_doStep_162 : decode cX11_doStep 162 = .ok (.bipush 16, 2) := by decide +kernel
theorem dX11_doStep_164 : decode cX11_doStep 164 = .ok (.idiv, 1) := by decide +kernel
theorem dX11_doStep_165 : decode cX11_doStep 165 = .ok (.istore 6, 2) := by decide +kernel
theorem dX11_doStep_167 : decode cX11_doStep 167 = .ok (.aload_n 0, 1) := by decide +kernel
theorem dX11_doStep_168 : decode cX11_doStep 168 = .ok (.getfield 23, 3) := by decide +kernel
theorem dX11_doStep_171 : decode cX11_doStep 171 = .ok (.bipush 8, 2) := by decide +kernel
theorem dX11_doStep_173 : decode cX11_doStep 173 = .ok (.iload_n 3, 1) := by decide +kernel
theorem dX11_doStep_174 : decode cX11_doStep 174 = .ok (.imul, 1) := by decide +kernel
theorem dX11_doStep_175 : decode cX11_doStep 175 = .ok (.iload 5, 2) := by decide +kernel
theorem dX11_doStep_177 : decode cX11_doStep 177 = .ok (.iadd, 1) := by decide +kernel
theorem dX11_doStep_178 : decode cX11_doStep 178 = .ok (.iaload, 1) := by decide +kernel
theorem dX11_doStep_179 : decode cX11_doStep 179 = .ok (.bipush 16, 2) := by decide +kernel
theorem dX11_doStep_181 : decode cX11_doStep 181 = .ok (.irem, 1) := by decide +kernel
theorem dX11_doStep_182 : decode cX11_doStep 182 = .ok (.istore 7, 2) := by decide +kernel
theorem dX11_doStep_184 : decode cX11_doStep 184 = .ok (.iload_n 2, 1) := by decide +kernel
theorem dX11_doStep_185 : decode cX11_doStep 185 = .ok (.aload_n 0, 1) := by decide +kernel
theorem dX11_doStep_186 : decode cX11_doStep 186 = .ok (.getfield 7, 3) := by decide +kernel
theorem dX11_doStep_189 : decode cX11_doStep 189 = .ok (.if_icmp .ge 15, 3) := by decide +kernel
theorem dX11_doStep_192 : decode cX11_doStep 192 = .ok (.aload_n 0, 1) := by decide +kernel
theorem dX11_doStep_193 : decode cX11_doStep 193 = .ok (.iload_n 2, 1) := by decide +kernel
theorem dX11_doStep_194 : decode cX11_doStep 194 = .ok (.iload 6, 2) := by decide +kernel
theorem dX11_doStep_196 : decode cX11_doStep 196 = .ok (.iload 7, 2) := by decide +kernel
theorem dX11_doStep_198 : decode cX11_doStep 198 = .ok (.invokevirtual 153, 3) := by decide +kernel
theorem dX11_doStep_201 : decode cX11_doStep 201 = .ok (.goto 11, 3) := by decide +kernel
theorem dX11_doStep_204 : decode cX11_doStep 204 = .ok (.aload_n 0, 1) := by decide +kernel
theorem dX11_doStep_205 : decode cX11_doStep 205 = .ok (.iload 6, 2) := by decide +kernel
theorem dX11_doStep_207 : decode cX11_doStep 207 = .ok (.iload 7, 2) := by decide +kernel
theorem dX11_doStep_209 : decode cX11_doStep 209 = .ok (.invokevirtual 157, 3) := by decide +kernel
theorem dX11_doStep_212 : decode cX11_doStep 212 = .ok (.istore 4, 2) := by decide +kernel
theorem dX11_doStep_214 : decode cX11_doStep 214 = .ok (.iinc 5 1, 3) := by decide +kernel
theorem dX11_doStep_217 : decode cX11_doStep 217 = .ok (.goto (-83), 3) := by decide +kernel
theorem dX11_doStep_220 : decode cX11_doStep 220 = .ok (.iload 4, 2) := by decide +kernel
theorem dX11_doStep_222 : decode cX11_doStep 222 = .ok (.ireturn, 1) := by decide +kernel
theorem dX11_badNow_0 : decode cX11_badNow 0 = .ok (.iconst 0, 1) := by decide +kernel
theorem dX11_badNow_1 : decode cX11_badNow 1 = .ok (.istore_n 1, 1) := by decide +kernel
theorem dX11_badNow_2 : decode cX11_badNow 2 = .ok (.iconst 0, 1) := by decide +kernel
theorem dX11_badNow_3 : decode cX11_badNow 3 = .ok (.istore_n 2, 1) := by decide +kernel
theorem dX11_badNow_4 : decode cX11_badNow 4 = .ok (.iconst 0, 1) := by decide +kernel
theorem dX11_badNow_5 : decode cX11_badNow 5 = .ok (.istore_n 3, 1) := by decide +kernel
theorem dX11_badNow_6 : decode cX11_badNow 6 = .ok (.iconst 0, 1) := by decide +kernel
theorem dX11_badNow_7 : decode cX11_badNow 7 = .ok (.istore 4, 2) := by decide +kernel
theorem dX11_badNow_9 : decode cX11_badNow 9 = .ok (.iload 4, 2) := by decide +kernel
theorem dX11_badNow_11 : decode cX11_badNow 11 = .ok (.aload_n 0, 1) := by decide +kernel
theorem dX11_badNow_12 : decode cX11_badNow 12 = .ok (.getfield 7, 3) := by decide +kernel
theorem dX11_badNow_15 : decode cX11_badNow 15 = .ok (.if_icmp .ge 81, 3) := by decide +kernel
theorem dX11_badNow_18 : decode cX11_badNow 18 = .ok (.aload_n 0, 1) := by decide +kernel
theorem dX11_badNow_19 : decode cX11_badNow 19 = .ok (.getfield 17, 3) := by decide +kernel
theorem dX11_badNow_22 : decode cX11_badNow 22 = .ok (.aload_n 0, 1) := by decide +kernel
theorem dX11_badNow_23 : decode cX11_badNow 23 = .ok (.getfield 30, 3) := by decide +kernel
theorem dX11_badNow_26 : decode cX11_badNow 26 = .ok (.iconst 3, 1) := by decide +kernel
theorem dX11_badNow_27 : decode cX11_badNow 27 = .ok (.iload 4, 2) := by decide +kernel
theorem dX11_badNow_29 : decode cX11_badNow 29 = .ok (.imul, 1) := by decide +kernel
theorem dX11_badNow_30 : decode cX11_badNow 30 = .ok (.iaload, 1) := by decide +kernel
theorem dX11_badNow_31 : decode cX11_badNow 31 = .ok (.iaload, 1) := by decide +kernel
theorem dX11_badNow_32 : decode cX11_badNow 32 = .ok (.istore 5, 2) := by decide +kernel
theorem dX11_badNow_34 : decode cX11_badNow 34 = .ok (.iload_n 1, 1) := by decide +kernel
theorem dX11_badNow_35 : decode cX11_badNow 35 = .ok (.iload 5, 2) := by decide +kernel
theorem dX11_badNow_37 : decode cX11_badNow 37 = .ok (.iconst 2, 1) := by decide +kernel
theorem dX11_badNow_38 : decode cX11_badNow 38 = .ok (.if_icmp .ne 7, 3) := by decide +kernel
theorem dX11_badNow_41 : decode cX11_badNow 41 = .ok (.iconst 1, 1) := by decide +kernel
theorem dX11_badNow_42 : decode cX11_badNow 42 = .ok (.goto 4, 3) := by decide +kernel
theorem dX11_badNow_45 : decode cX11_badNow 45 = .ok (.iconst 0, 1) := by decide +kernel
theorem dX11_badNow_46 : decode cX11_badNow 46 = .ok (.iadd, 1) := by decide +kernel
theorem dX11_badNow_47 : decode cX11_badNow 47 = .ok (.istore_n 1, 1) := by decide +kernel
theorem dX11_badNow_48 : decode cX11_badNow 48 = .ok (.iload_n 2, 1) := by decide +kernel
theorem dX11_badNow_49 : decode cX11_badNow 49 = .ok (.iload 5, 2) := by decide +kernel
theorem dX11_badNow_51 : decode cX11_badNow 51 = .ok (.ifCond .le 7, 3) := by decide +kernel
theorem dX11_badNow_54 : decode cX11_badNow 54 = .ok (.iconst 1, 1) := by decide +kernel
theorem dX11_badNow_55 : decode cX11_badNow 55 = .ok (.goto 4, 3) := by decide +kernel
theorem dX11_badNow_58 : decode cX11_badNow 58 = .ok (.iconst 0, 1) := by decide +kernel
theorem dX11_badNow_59 : decode cX11_badNow 59 = .ok (.iadd, 1) := by decide +kernel
theorem dX11_badNow_60 : decode cX11_badNow 60 = .ok (.istore_n 2, 1) := by decide +kernel
theorem dX11_badNow_61 : decode cX11_badNow 61 = .ok (.iload_n 3, 1) := by decide +kernel
theorem dX11_badNow_62 : decode cX11_badNow 62 = .ok (.ifCond .ne 22, 3) := by decide +kernel
theorem dX11_badNow_65 : decode cX11_badNow 65 = .ok (.iload 5, 2) := by decide +kernel
theorem dX11_badNow_67 : decode cX11_badNow 67 = .ok (.ifCond .le 21, 3) := by decide +kernel
theorem dX11_badNow_70 : decode cX11_badNow 70 = .ok (.aload_n 0, 1) := by decide +kernel
theorem dX11_badNow_71 : decode cX11_badNow 71 = .ok (.getfield 30, 3) := by decide +kernel
theorem dX11_badNow_74 : decode cX11_badNow 74 = .ok (.iconst 3, 1) := by decide +kernel
theorem dX11_badNow_75 : decode cX11_badNow 75 = .ok (.iload 4, 2) := by decide +kernel
theorem dX11_badNow_77 : decode cX11_badNow 77 = .ok (.imul, 1) := by decide +kernel
theorem dX11_badNow_78 : decode cX11_badNow 78 = .ok (.iconst 1, 1) := by decide +kernel
theorem dX11_badNow_79 : decode cX11_badNow 79 = .ok (.iadd, 1) := by decide +kernel
theorem dX11_badNow_80 : decode cX11_badNow 80 = .ok (.iaload, 1) := by decide +kernel
theorem dX11_badNow_81 : decode cX11_badNow 81 = .ok (.ifCond .ne 7, 3) := by decide +kernel
theorem dX11_badNow_84 : decode cX11_badNow 84 = .ok (.iconst 1, 1) := by decide +kernel
theorem dX11_badNow_85 : decode cX11_badNow 85 = .ok (.goto 4, 3) := by decide +kernel
theorem dX11_badNow_88 : decode cX11_badNow 88 = .ok (.iconst 0, 1) := by decide +kernel
theorem dX11_badNow_89 : decode cX11_badNow 89 = .ok (.istore_n 3, 1) := by decide +kernel
theorem dX11_badNow_90 : decode cX11_badNow 90 = .ok (.iinc 4 1, 3) := by decide +kernel
theorem dX11_badNow_93 : decode cX11_badNow 93 = .ok (.goto (-84), 3) := by decide +kernel
theorem dX11_badNow_96 : decode cX11_badNow 96 = .ok (.iload_n 1, 1) := by decide +kernel
theorem dX11_badNow_97 : decode cX11_badNow 97 = .ok (.ifCond .le 12, 3) := by decide +kernel
theorem dX11_badNow_100 : decode cX11_badNow 100 = .ok (.iload_n 2, 1) := by decide +kernel
theorem dX11_badNow_101 : decode cX11_badNow 101 = .ok (.iconst 1, 1) := by decide +kernel
theorem dX11_badNow_102 : decode cX11_badNow 102 = .ok (.if_icmp .le 7, 3) := by decide +kernel
theorem dX11_badNow_105 : decode cX11_badNow 105 = .ok (.iconst 4, 1) := by decide +kernel
theorem dX11_badNow_106 : decode cX11_badNow 106 = .ok (.goto 12, 3) := by decide +kernel
theorem dX11_badNow_109 : decode cX11_badNow 109 = .ok (.iload_n 3, 1) := by decide +kernel
theorem dX11_badNow_110 : decode cX11_badNow 110 = .ok (.ifCond .eq 7, 3) := by decide +kernel
theorem dX11_badNow_113 : decode cX11_badNow 113 = .ok (.iconst 5, 1) := by decide +kernel
theorem dX11_badNow_114 : decode cX11_badNow 114 = .ok (.goto 4, 3) := by decide +kernel
theorem dX11_badNow_117 : decode cX11_badNow 117 = .ok (.iconst 0, 1) := by decide +kernel
theorem dX11_badNow_118 : decode cX11_badNow 118 = .ok (.ireturn, 1) := by decide +kernel
theorem dX11_isQuiet_0 : decode cX11_isQuiet 0 = .ok (.aload_n 0, 1) := by decide +kernel
theorem dX11_isQuiet_1 : decode cX11_isQuiet 1 = .ok (.getfield 30, 3) := by decide +kernel
theorem dX11_isQuiet_4 : decode cX11_isQuiet 4 = .ok (.bipush 15, 2) := by decide +kernel
theorem dX11_isQuiet_6 : decode cX11_isQuiet 6 = .ok (.iaload, 1) := by decide +kernel
theorem dX11_isQuiet_7 : decode cX11_isQuiet 7 = .ok (.ifCond .ne 7, 3) := by decide +kernel
theorem dX11_isQuiet_10 : decode cX11_isQuiet 10 = .ok (.iconst 1, 1) := by decide +kernel
theorem dX11_isQuiet_11 : decode cX11_isQuiet 11 = .ok (.goto 4, 3) := by decide +kernel
theorem dX11_isQuiet_14 : decode cX11_isQuiet 14 = .ok (.iconst 0, 1) := by decide +kernel
theorem dX11_isQuiet_15 : decode cX11_isQuiet 15 = .ok (.istore_n 1, 1) := by decide +kernel
theorem dX11_isQuiet_16 : decode cX11_isQuiet 16 = .ok (.iconst 0, 1) := by decide +kernel
theorem dX11_isQuiet_17 : decode cX11_isQuiet 17 = .ok (.istore_n 2, 1) := by decide +kernel
theorem dX11_isQuiet_18 : decode cX11_isQuiet 18 = .ok (.iload_n 2, 1) := by decide +kernel
theorem dX11_isQuiet_19 : decode cX11_isQuiet 19 = .ok (.aload_n 0, 1) := by decide +kernel
theorem dX11_isQuiet_20 : decode cX11_isQuiet 20 = .ok (.getfield 7, 3) := by decide +kernel
theorem dX11_isQuiet_23 : decode cX11_isQuiet 23 = .ok (.if_icmp .ge 32, 3) := by decide +kernel
theorem dX11_isQuiet_26 : decode cX11_isQuiet 26 = .ok (.iload_n 1, 1) := by decide +kernel
theorem dX11_isQuiet_27 : decode cX11_isQuiet 27 = .ok (.ifCond .eq 20, 3) := by decide +kernel
theorem dX11_isQuiet_30 : decode cX11_isQuiet 30 = .ok (.aload_n 0, 1) := by decide +kernel
theorem dX11_isQuiet_31 : decode cX11_isQuiet 31 = .ok (.getfield 30, 3) := by decide +kernel
theorem dX11_isQuiet_34 : decode cX11_isQuiet 34 = .ok (.iconst 3, 1) := by decide +kernel
theorem dX11_isQuiet_35 : decode cX11_isQuiet 35 = .ok (.iload_n 2, 1) := by decide +kernel
theorem dX11_isQuiet_36 : decode cX11_isQuiet 36 = .ok (.imul, 1) := by decide +kernel
theorem dX11_isQuiet_37 : decode cX11_isQuiet 37 = .ok (.iconst 2, 1) := by decide +kernel
theorem dX11_isQuiet_38 : decode cX11_isQuiet 38 = .ok (.iadd, 1) := by decide +kernel
theorem dX11_isQuiet_39 : decode cX11_isQuiet 39 = .ok (.iaload, 1) := by decide +kernel
theorem dX11_isQuiet_40 : decode cX11_isQuiet 40 = .ok (.ifCond .ne 7, 3) := by decide +kernel
theorem dX11_isQuiet_43 : decode cX11_isQuiet 43 = .ok (.iconst 1, 1) := by decide +kernel
theorem dX11_isQuiet_44 : decode cX11_isQuiet 44 = .ok (.goto 4, 3) := by decide +kernel
theorem dX11_isQuiet_47 : decode cX11_isQuiet 47 = .ok (.iconst 0, 1) := by decide +kernel
theorem dX11_isQuiet_48 : decode cX11_isQuiet 48 = .ok (.istore_n 1, 1) := by decide +kernel
theorem dX11_isQuiet_49 : decode cX11_isQuiet 49 = .ok (.iinc 2 1, 3) := by decide +kernel
theorem dX11_isQuiet_52 : decode cX11_isQuiet 52 = .ok (.goto (-34), 3) := by decide +kernel
theorem dX11_isQuiet_55 : decode cX11_isQuiet 55 = .ok (.iload_n 1, 1) := by decide +kernel
theorem dX11_isQuiet_56 : decode cX11_isQuiet 56 = .ok (.ireturn, 1) := by decide +kernel
theorem dX11_toRun_0 : decode cX11_toRun 0 = .ok (.aload_n 0, 1) := by decide +kernel
theorem dX11_toRun_1 : decode cX11_toRun 1 = .ok (.getfield 33, 3) := by decide +kernel
theorem dX11_toRun_4 : decode cX11_toRun 4 = .ok (.iconst 0, 1) := by decide +kernel
theorem dX11_toRun_5 : decode cX11_toRun 5 = .ok (.aload_n 0, 1) := by decide +kernel
theorem dX11_toRun_6 : decode cX11_toRun 6 = .ok (.getfield 30, 3) := by decide +kernel
theorem dX11_toRun_9 : decode cX11_toRun 9 = .ok (.iconst 0, 1) := by decide +kernel
theorem dX11_toRun_10 : decode cX11_toRun 10 = .ok (.invokestatic 94, 3) := by decide +kernel
theorem dX11_toRun_13 : decode cX11_toRun 13 = .ok (.aload_n 0, 1) := by decide +kernel
theorem dX11_toRun_14 : decode cX11_toRun 14 = .ok (.invokevirtual 160, 3) := by decide +kernel
theorem dX11_toRun_17 : decode cX11_toRun 17 = .ok (.return_, 1) := by decide +kernel
theorem dX11_reset_0 : decode cX11_reset 0 = .ok (.aload_n 0, 1) := by decide +kernel
theorem dX11_reset_1 : decode cX11_reset 1 = .ok (.invokevirtual 91, 3) := by decide +kernel
theorem dX11_reset_4 : decode cX11_reset 4 = .ok (.aload_n 0, 1) := by decide +kernel
theorem dX11_reset_5 : decode cX11_reset 5 = .ok (.getfield 30, 3) := by decide +kernel
theorem dX11_reset_8 : decode cX11_reset 8 = .ok (.iconst 0, 1) := by decide +kernel
theorem dX11_reset_9 : decode cX11_reset 9 = .ok (.aload_n 0, 1) := by decide +kernel
theorem dX11_reset_10 : decode cX11_reset 10 = .ok (.getfield 33, 3) := by decide +kernel
theorem dX11_reset_13 : decode cX11_reset 13 = .ok (.iconst 0, 1) := by decide +kernel
theorem dX11_reset_14 : decode cX11_reset 14 = .ok (.invokestatic 94, 3) := by decide +kernel
theorem dX11_reset_17 : decode cX11_reset 17 = .ok (.aload_n 0, 1) := by decide +kernel
theorem dX11_reset_18 : decode cX11_reset 18 = .ok (.invokevirtual 163, 3) := by decide +kernel
theorem dX11_reset_21 : decode cX11_reset 21 = .ok (.aload_n 0, 1) := by decide +kernel
theorem dX11_reset_22 : decode cX11_reset 22 = .ok (.getfield 109, 3) := by decide +kernel
theorem dX11_reset_25 : decode cX11_reset 25 = .ok (.ireturn, 1) := by decide +kernel
theorem dX11_steps_0 : decode cX11_steps 0 = .ok (.aload_n 0, 1) := by decide +kernel
theorem dX11_steps_1 : decode cX11_steps 1 = .ok (.invokevirtual 163, 3) := by decide +kernel
theorem dX11_steps_4 : decode cX11_steps 4 = .ok (.aload_n 0, 1) := by decide +kernel
theorem dX11_steps_5 : decode cX11_steps 5 = .ok (.getfield 109, 3) := by decide +kernel
theorem dX11_steps_8 : decode cX11_steps 8 = .ok (.ireturn, 1) := by decide +kernel
theorem dX11_step_0 : decode cX11_step 0 = .ok (.aload_n 0, 1) := by decide +kernel
theorem dX11_step_1 : decode cX11_step 1 = .ok (.invokevirtual 163, 3) := by decide +kernel
theorem dX11_step_4 : decode cX11_step 4 = .ok (.iload_n 1, 1) := by decide +kernel
theorem dX11_step_5 : decode cX11_step 5 = .ok (.ifCond .lt 20, 3) := by decide +kernel
theorem dX11_step_8 : decode cX11_step 8 = .ok (.iload_n 1, 1) := by decide +kernel
theorem dX11_step_9 : decode cX11_step 9 = .ok (.aload_n 0, 1) := by decide +kernel
theorem dX11_step_10 : decode cX11_step 10 = .ok (.getfield 109, 3) := by decide +kernel
theorem dX11_step_13 : decode cX11_step 13 = .ok (.if_icmp .ge 12, 3) := by decide +kernel
theorem dX11_step_16 : decode cX11_step 16 = .ok (.iload_n 2, 1) := by decide +kernel
theorem dX11_step_17 : decode cX11_step 17 = .ok (.ifCond .lt 8, 3) := by decide +kernel
theorem dX11_step_20 : decode cX11_step 20 = .ok (.iload_n 2, 1) := by decide +kernel
theorem dX11_step_21 : decode cX11_step 21 = .ok (.iconst 2, 1) := by decide +kernel
theorem dX11_step_22 : decode cX11_step 22 = .ok (.if_icmp .le 5, 3) := by decide +kernel
theorem dX11_step_25 : decode cX11_step 25 = .ok (.iconst (-1), 1) := by decide +kernel
theorem dX11_step_26 : decode cX11_step 26 = .ok (.ireturn, 1) := by decide +kernel
theorem dX11_step_27 : decode cX11_step 27 = .ok (.iload_n 2, 1) := by decide +kernel
theorem dX11_step_28 : decode cX11_step 28 = .ok (.ifCond .ne 12, 3) := by decide +kernel
theorem dX11_step_31 : decode cX11_step 31 = .ok (.aload_n 0, 1) := by decide +kernel
theorem dX11_step_32 : decode cX11_step 32 = .ok (.getfield 39, 3) := by decide +kernel
theorem dX11_step_35 : decode cX11_step 35 = .ok (.iload_n 1, 1) := by decide +kernel
theorem dX11_step_36 : decode cX11_step 36 = .ok (.iaload, 1) := by decide +kernel
theorem dX11_step_37 : decode cX11_step 37 = .ok (.goto 23, 3) := by decide +kernel
theorem dX11_step_40 : decode cX11_step 40 = .ok (.iload_n 2, 1) := by decide +kernel
theorem dX11_step_41 : decode cX11_step 41 = .ok (.iconst 1, 1) := by decide +kernel
theorem dX11_step_42 : decode cX11_step 42 = .ok (.if_icmp .ne 12, 3) := by decide +kernel
theorem dX11_step_45 : decode cX11_step 45 = .ok (.aload_n 0, 1) := by decide +kernel
theorem dX11_step_46 : decode cX11_step 46 = .ok (.getfield 42, 3) := by decide +kernel
theorem dX11_step_49 : decode cX11_step 49 = .ok (.iload_n 1, 1) := by decide +kernel
theorem dX11_step_50 : decode cX11_step 50 = .ok (.iaload, 1) := by decide +kernel
theorem dX11_step_51 : decode cX11_step 51 = .ok (.goto 9, 3) := by decide +kernel
theorem dX11_step_54 : decode cX11_step 54 = .ok (.aload_n 0, 1) := by decide +kernel
theorem dX11_step_55 : decode cX11_step 55 = .ok (.getfield 45, 3) := by decide +kernel
theorem dX11_step_58 : decode cX11_step 58 = .ok (.iload_n 1, 1) := by decide +kernel
theorem dX11_step_59 : decode cX11_step 59 = .ok (.iaload, 1) := by decide +kernel
theorem dX11_step_60 : decode cX11_step 60 = .ok (.ireturn, 1) := by decide +kernel
theorem dX11_choose_0 : decode cX11_choose 0 = .ok (.aload_n 0, 1) := by decide +kernel
theorem dX11_choose_1 : decode cX11_choose 1 = .ok (.invokevirtual 163, 3) := by decide +kernel
theorem dX11_choose_4 : decode cX11_choose 4 = .ok (.iload_n 1, 1) := by decide +kernel
theorem dX11_choose_5 : decode cX11_choose 5 = .ok (.ifCond .lt 11, 3) := by decide +kernel
theorem dX11_choose_8 : decode cX11_choose 8 = .ok (.iload_n 1, 1) := by decide +kernel
theorem dX11_choose_9 : decode cX11_choose 9 = .ok (.aload_n 0, 1) := by decide +kernel
theorem dX11_choose_10 : decode cX11_choose 10 = .ok (.getfield 109, 3) := by decide +kernel
theorem dX11_choose_13 : decode cX11_choose 13 = .ok (.if_icmp .lt 5, 3) := by decide +kernel
theorem dX11_choose_16 : decode cX11_choose 16 = .ok (.iconst (-1), 1) := by decide +kernel
theorem dX11_choose_17 : decode cX11_choose 17 = .ok (.ireturn, 1) := by decide +kernel
theorem dX11_choose_18 : decode cX11_choose 18 = .ok (.aload_n 0, 1) := by decide +kernel
theorem dX11_choose_19 : decode cX11_choose 19 = .ok (.iload_n 1, 1) := by decide +kernel
theorem dX11_choose_20 : decode cX11_choose 20 = .ok (.invokevirtual 166, 3) := by decide +kernel
theorem dX11_choose_23 : decode cX11_choose 23 = .ok (.istore_n 2, 1) := by decide +kernel
theorem dX11_choose_24 : decode cX11_choose 24 = .ok (.iload_n 2, 1) := by decide +kernel
theorem dX11_choose_25 : decode cX11_choose 25 = .ok (.ifCond .ne 16, 3) := by decide +kernel
theorem dX11_choose_28 : decode cX11_choose 28 = .ok (.aload_n 0, 1) := by decide +kernel
theorem dX11_choose_29 : decode cX11_choose 29 = .ok (.getfield 30, 3) := by decide +kernel
theorem dX11_choose_32 : decode cX11_choose 32 = .ok (.iconst 0, 1) := by decide +kernel
theorem dX11_choose_33 : decode cX11_choose 33 = .ok (.aload_n 0, 1) := by decide +kernel
theorem dX11_choose_34 : decode cX11_choose 34 = .ok (.getfield 33, 3) := by decide +kernel
theorem dX11_choose_37 : decode cX11_choose 37 = .ok (.iconst 0, 1) := by decide +kernel
theorem dX11_choose_38 : decode cX11_choose 38 = .ok (.invokestatic 94, 3) := by decide +kernel
theorem dX11_choose_41 : decode cX11_choose 41 = .ok (.iload_n 2, 1) := by decide +kernel
theorem dX11_choose_42 : decode cX11_choose 42 = .ok (.ireturn, 1) := by decide +kernel
theorem dX11_end_0 : decode cX11_end 0 = .ok (.iload_n 1, 1) := by decide +kernel
theorem dX11_end_1 : decode cX11_end 1 = .ok (.ifCond .lt 20, 3) := by decide +kernel
theorem dX11_end_4 : decode cX11_end 4 = .ok (.iload_n 1, 1) := by decide +kernel
theorem dX11_end_5 : decode cX11_end 5 = .ok (.aload_n 0, 1) := by decide +kernel
theorem dX11_end_6 : decode cX11_end 6 = .ok (.getfield 7, 3) := by decide +kernel
theorem dX11_end_9 : decode cX11_end 9 = .ok (.if_icmp .gt 12, 3) := by decide +kernel
theorem dX11_end_12 : decode cX11_end 12 = .ok (.iload_n 2, 1) := by decide +kernel
theorem dX11_end_13 : decode cX11_end 13 = .ok (.ifCond .lt 8, 3) := by decide +kernel
theorem dX11_end_16 : decode cX11_end 16 = .ok (.iload_n 2, 1) := by decide +kernel
theorem dX11_end_17 : decode cX11_end 17 = .ok (.iconst 2, 1) := by decide +kernel
theorem dX11_end_18 : decode cX11_end 18 = .ok (.if_icmp .le 5, 3) := by decide +kernel
theorem dX11_end_21 : decode cX11_end 21 = .ok (.iconst (-1), 1) := by decide +kernel
theorem dX11_end_22 : decode cX11_end 22 = .ok (.ireturn, 1) := by decide +kernel
theorem dX11_end_23 : decode cX11_end 23 = .ok (.iload_n 1, 1) := by decide +kernel
theorem dX11_end_24 : decode cX11_end 24 = .ok (.aload_n 0, 1) := by decide +kernel
theorem dX11_end_25 : decode cX11_end 25 = .ok (.getfield 7, 3) := by decide +kernel
theorem dX11_end_28 : decode cX11_end 28 = .ok (.if_icmp .ne 15, 3) := by decide +kernel
theorem dX11_end_31 : decode cX11_end 31 = .ok (.aload_n 0, 1) := by decide +kernel
theorem dX11_end_32 : decode cX11_end 32 = .ok (.getfield 33, 3) := by decide +kernel
theorem dX11_end_35 : decode cX11_end 35 = .ok (.bipush 12, 2) := by decide +kernel
theorem dX11_end_37 : decode cX11_end 37 = .ok (.iload_n 2, 1) := by decide +kernel
theorem dX11_end_38 : decode cX11_end 38 = .ok (.iadd, 1) := by decide +kernel
theorem dX11_end_39 : decode cX11_end 39 = .ok (.iaload, 1) := by decide +kernel
theorem dX11_end_40 : decode cX11_end 40 = .ok (.goto 13, 3) := by decide +kernel
theorem dX11_end_43 : decode cX11_end 43 = .ok (.aload_n 0, 1) := by decide +kernel
theorem dX11_end_44 : decode cX11_end 44 = .ok (.getfield 33, 3) := by decide +kernel
theorem dX11_end_47 : decode cX11_end 47 = .ok (.iconst 3, 1) := by decide +kernel
theorem dX11_end_48 : decode cX11_end 48 = .ok (.iload_n 1, 1) := by decide +kernel
theorem dX11_end_49 : decode cX11_end 49 = .ok (.imul, 1) := by decide +kernel
theorem dX11_end_50 : decode cX11_end 50 = .ok (.iload_n 2, 1) := by decide +kernel
theorem dX11_end_51 : decode cX11_end 51 = .ok (.iadd, 1) := by decide +kernel
theorem dX11_end_52 : decode cX11_end 52 = .ok (.iaload, 1) := by decide +kernel
theorem dX11_end_53 : decode cX11_end 53 = .ok (.ireturn, 1) := by decide +kernel
theorem dX11_letter_0 : decode cX11_letter 0 = .ok (.iload_n 1, 1) := by decide +kernel
theorem dX11_letter_1 : decode cX11_letter 1 = .ok (.ifCond .lt 23, 3) := by decide +kernel
theorem dX11_letter_4 : decode cX11_letter 4 = .ok (.iload_n 1, 1) := by decide +kernel
theorem dX11_letter_5 : decode cX11_letter 5 = .ok (.aload_n 0, 1) := by decide +kernel
theorem dX11_letter_6 : decode cX11_letter 6 = .ok (.getfield 33, 3) := by decide +kernel
theorem dX11_letter_9 : decode cX11_letter 9 = .ok (.bipush 15, 2) := by decide +kernel
theorem dX11_letter_11 : decode cX11_letter 11 = .ok (.iaload, 1) := by decide +kernel
theorem dX11_letter_12 : decode cX11_letter 12 = .ok (.if_icmp .ge 12, 3) := by decide +kernel
theorem dX11_letter_15 : decode cX11_letter 15 = .ok (.iload_n 2, 1) := by decide +kernel
theorem dX11_letter_16 : decode cX11_letter 16 = .ok (.ifCond .lt 8, 3) := by decide +kernel
theorem dX11_letter_19 : decode cX11_letter 19 = .ok (.iload_n 2, 1) := by decide +kernel
theorem dX11_letter_20 : decode cX11_letter 20 = .ok (.iconst 4, 1) := by decide +kernel
theorem dX11_letter_21 : decode cX11_letter 21 = .ok (.if_icmp .le 5, 3) := by decide +kernel
theorem dX11_letter_24 : decode cX11_letter 24 = .ok (.iconst (-1), 1) := by decide +kernel
theorem dX11_letter_25 : decode cX11_letter 25 = .ok (.ireturn, 1) := by decide +kernel
theorem dX11_letter_26 : decode cX11_letter 26 = .ok (.aload_n 0, 1) := by decide +kernel
theorem dX11_letter_27 : decode cX11_letter 27 = .ok (.getfield 33, 3) := by decide +kernel
theorem dX11_letter_30 : decode cX11_letter 30 = .ok (.bipush 16, 2) := by decide +kernel
theorem dX11_letter_32 : decode cX11_letter 32 = .ok (.iconst 5, 1) := by decide +kernel
theorem dX11_letter_33 : decode cX11_letter 33 = .ok (.iload_n 1, 1) := by decide +kernel
theorem dX11_letter_34 : decode cX11_letter 34 = .ok (.imul, 1) := by decide +kernel
theorem dX11_letter_35 : decode cX11_letter 35 = .ok (.iadd, 1) := by decide +kernel
theorem dX11_letter_36 : decode cX11_letter 36 = .ok (.iload_n 2, 1) := by decide +kernel
theorem dX11_letter_37 : decode cX11_letter 37 = .ok (.iadd, 1) := by decide +kernel
theorem dX11_letter_38 : decode cX11_letter 38 = .ok (.iaload, 1) := by decide +kernel
theorem dX11_letter_39 : decode cX11_letter 39 = .ok (.ireturn, 1) := by decide +kernel
theorem dX11_now_0 : decode cX11_now 0 = .ok (.iload_n 1, 1) := by decide +kernel
theorem dX11_now_1 : decode cX11_now 1 = .ok (.ifCond .lt 8, 3) := by decide +kernel
theorem dX11_now_4 : decode cX11_now 4 = .ok (.iload_n 1, 1) := by decide +kernel
theorem dX11_now_5 : decode cX11_now 5 = .ok (.iconst 3, 1) := by decide +kernel
theorem dX11_now_6 : decode cX11_now 6 = .ok (.if_icmp .le 5, 3) := by decide +kernel
theorem dX11_now_9 : decode cX11_now 9 = .ok (.iconst (-1), 1) := by decide +kernel
theorem dX11_now_10 : decode cX11_now 10 = .ok (.ireturn, 1) := by decide +kernel
theorem dX11_now_11 : decode cX11_now 11 = .ok (.aload_n 0, 1) := by decide +kernel
theorem dX11_now_12 : decode cX11_now 12 = .ok (.invokevirtual 163, 3) := by decide +kernel
theorem dX11_now_15 : decode cX11_now 15 = .ok (.iload_n 1, 1) := by decide +kernel
theorem dX11_now_16 : decode cX11_now 16 = .ok (.iconst 2, 1) := by decide +kernel
theorem dX11_now_17 : decode cX11_now 17 = .ok (.if_icmp .ge 22, 3) := by decide +kernel
theorem dX11_now_20 : decode cX11_now 20 = .ok (.iload_n 1, 1) := by decide +kernel
theorem dX11_now_21 : decode cX11_now 21 = .ok (.ifCond .ne 13, 3) := by decide +kernel
theorem dX11_now_24 : decode cX11_now 24 = .ok (.aload_n 0, 1) := by decide +kernel
theorem dX11_now_25 : decode cX11_now 25 = .ok (.getfield 30, 3) := by decide +kernel
theorem dX11_now_28 : decode cX11_now 28 = .ok (.bipush 15, 2) := by decide +kernel
theorem dX11_now_30 : decode cX11_now 30 = .ok (.iaload, 1) := by decide +kernel
theorem dX11_now_31 : decode cX11_now 31 = .ok (.goto 7, 3) := by decide +kernel
theorem dX11_now_34 : decode cX11_now 34 = .ok (.aload_n 0, 1) := by decide +kernel
theorem dX11_now_35 : decode cX11_now 35 = .ok (.invokevirtual 169, 3) := by decide +kernel
theorem dX11_now_38 : decode cX11_now 38 = .ok (.ireturn, 1) := by decide +kernel
theorem dX11_now_39 : decode cX11_now 39 = .ok (.iload_n 1, 1) := by decide +kernel
theorem dX11_now_40 : decode cX11_now 40 = .ok (.iconst 2, 1) := by decide +kernel
theorem dX11_now_41 : decode cX11_now 41 = .ok (.if_icmp .ne 18, 3) := by decide +kernel
theorem dX11_now_44 : decode cX11_now 44 = .ok (.aload_n 0, 1) := by decide +kernel
theorem dX11_now_45 : decode cX11_now 45 = .ok (.invokevirtual 173, 3) := by decide +kernel
theorem dX11_now_48 : decode cX11_now 48 = .ok (.ifCond .eq 7, 3) := by decide +kernel
theorem dX11_now_51 : decode cX11_now 51 = .ok (.iconst 1, 1) := by decide +kernel
theorem dX11_now_52 : decode cX11_now 52 = .ok (.goto 26, 3) := by decide +kernel
theorem dX11_now_55 : decode cX11_now 55 = .ok (.iconst 0, 1) := by decide +kernel
theorem dX11_now_56 : decode cX11_now 56 = .ok (.goto 22, 3) := by decide +kernel
theorem dX11_now_59 : decode cX11_now 59 = .ok (.aload_n 0, 1) := by decide +kernel
theorem dX11_now_60 : decode cX11_now 60 = .ok (.getfield 109, 3) := by decide +kernel
theorem dX11_now_63 : decode cX11_now 63 = .ok (.ifCond .ne 14, 3) := by decide +kernel
theorem dX11_now_66 : decode cX11_now 66 = .ok (.aload_n 0, 1) := by decide +kernel
theorem dX11_now_67 : decode cX11_now 67 = .ok (.invokevirtual 173, 3) := by decide +kernel
theorem dX11_now_70 : decode cX11_now 70 = .ok (.ifCond .ne 7, 3) := by decide +kernel
theorem dX11_now_73 : decode cX11_now 73 = .ok (.iconst 1, 1) := by decide +kernel
theorem dX11_now_74 : decode cX11_now 74 = .ok (.goto 4, 3) := by decide +kernel
theorem dX11_now_77 : decode cX11_now 77 = .ok (.iconst 0, 1) := by decide +kernel
theorem dX11_now_78 : decode cX11_now 78 = .ok (.ireturn, 1) := by decide +kernel
theorem dX11_sumOf_0 : decode cX11_sumOf 0 = .ok (.lconst 0, 1) := by decide +kernel
theorem dX11_sumOf_1 : decode cX11_sumOf 1 = .ok (.lstore_n 1, 1) := by decide +kernel
theorem dX11_sumOf_2 : decode cX11_sumOf 2 = .ok (.iconst 0, 1) := by decide +kernel
theorem dX11_sumOf_3 : decode cX11_sumOf 3 = .ok (.istore_n 3, 1) := by decide +kernel
theorem dX11_sumOf_4 : decode cX11_sumOf 4 = .ok (.iload_n 3, 1) := by decide +kernel
theorem dX11_sumOf_5 : decode cX11_sumOf 5 = .ok (.bipush 56, 2) := by decide +kernel
theorem dX11_sumOf_7 : decode cX11_sumOf 7 = .ok (.if_icmp .ge 20, 3) := by decide +kernel
theorem dX11_sumOf_10 : decode cX11_sumOf 10 = .ok (.ldc2_w 177, 3) := by decide +kernel
theorem dX11_sumOf_13 : decode cX11_sumOf 13 = .ok (.lload_n 1, 1) := by decide +kernel
theorem dX11_sumOf_14 : decode cX11_sumOf 14 = .ok (.lmul, 1) := by decide +kernel
theorem dX11_sumOf_15 : decode cX11_sumOf 15 = .ok (.aload_n 0, 1) := by decide +kernel
theorem dX11_sumOf_16 : decode cX11_sumOf 16 = .ok (.iload_n 3, 1) := by decide +kernel
theorem dX11_sumOf_17 : decode cX11_sumOf 17 = .ok (.iaload, 1) := by decide +kernel
theorem dX11_sumOf_18 : decode cX11_sumOf 18 = .ok (.i2l, 1) := by decide +kernel
theorem dX11_sumOf_19 : decode cX11_sumOf 19 = .ok (.ladd, 1) := by decide +kernel
theorem dX11_sumOf_20 : decode cX11_sumOf 20 = .ok (.lstore_n 1, 1) := by decide +kernel
theorem dX11_sumOf_21 : decode cX11_sumOf 21 = .ok (.iinc 3 1, 3) := by decide +kernel
theorem dX11_sumOf_24 : decode cX11_sumOf 24 = .ok (.goto (-20), 3) := by decide +kernel
theorem dX11_sumOf_27 : decode cX11_sumOf 27 = .ok (.lload_n 1, 1) := by decide +kernel
theorem dX11_sumOf_28 : decode cX11_sumOf 28 = .ok (.lreturn, 1) := by decide +kernel
theorem dX11_numberOf_0 : decode cX11_numberOf 0 = .ok (.aload_n 0, 1) := by decide +kernel
theorem dX11_numberOf_1 : decode cX11_numberOf 1 = .ok (.getfield 30, 3) := by decide +kernel
theorem dX11_numberOf_4 : decode cX11_numberOf 4 = .ok (.invokestatic 179, 3) := by decide +kernel
theorem dX11_numberOf_7 : decode cX11_numberOf 7 = .ok (.lstore_n 1, 1) := by decide +kernel
theorem dX11_numberOf_8 : decode cX11_numberOf 8 = .ok (.iconst 0, 1) := by decide +kernel
theorem dX11_numberOf_9 : decode cX11_numberOf 9 = .ok (.istore_n 3, 1) := by decide +kernel
theorem dX11_numberOf_10 : decode cX11_numberOf 10 = .ok (.iload_n 3, 1) := by decide +kernel
theorem dX11_numberOf_11 : decode cX11_numberOf 11 = .ok (.aload_n 0, 1) := by decide +kernel
theorem dX11_numberOf_12 : decode cX11_numberOf 12 = .ok (.getfield 183, 3) := by decide +kernel
theorem dX11_numberOf_15 : decode cX11_numberOf 15 = .ok (.if_icmp .ge 83, 3) := by decide +kernel
theorem dX11_numberOf_18 : decode cX11_numberOf 18 = .ok (.aload_n 0, 1) := by decide +kernel
theorem dX11_numberOf_19 : decode cX11_numberOf 19 = .ok (.getfield 55, 3) := by decide +kernel
theorem dX11_numberOf_22 : decode cX11_numberOf 22 = .ok (.iload_n 3, 1) := by decide +kernel
theorem dX11_numberOf_23 : decode cX11_numberOf 23 = .ok (.laload, 1) := by decide +kernel
theorem dX11_numberOf_24 : decode cX11_numberOf 24 = .ok (.lload_n 1, 1) := by decide +kernel
theorem dX11_numberOf_25 : decode cX11_numberOf 25 = .ok (.lcmp, 1) := by decide +kernel
theorem dX11_numberOf_26 : decode cX11_numberOf 26 = .ok (.ifCond .eq 6, 3) := by decide +kernel
theorem dX11_numberOf_29 : decode cX11_numberOf 29 = .ok (.goto 63, 3) := by decide +kernel
theorem dX11_numberOf_32 : decode cX11_numberOf 32 = .ok (.iconst 1, 1) := by decide +kernel
theorem dX11_numberOf_33 : decode cX11_numberOf 33 = .ok (.istore 4, 2) := by decide +kernel
theorem dX11_numberOf_35 : decode cX11_numberOf 35 = .ok (.iconst 0, 1) := by decide +kernel
theorem dX11_numberOf_36 : decode cX11_numberOf 36 = .ok (.istore 5, 2) := by decide +kernel
theorem dX11_numberOf_38 : decode cX11_numberOf 38 = .ok (.iload 5, 2) := by decide +kernel
theorem dX11_numberOf_40 : decode cX11_numberOf 40 = .ok (.bipush 56, 2) := by decide +kernel
theorem dX11_numberOf_42 : decode cX11_numberOf 42 = .ok (.if_icmp .ge 43, 3) := by decide +kernel
theorem dX11_numberOf_45 : decode cX11_numberOf 45 = .ok (.iload 4, 2) := by decide +kernel
theorem dX11_numberOf_47 : decode cX11_numberOf 47 = .ok (.ifCond .eq 38, 3) := by decide +kernel
theorem dX11_numberOf_50 : decode cX11_numberOf 50 = .ok (.aload_n 0, 1) := by decide +kernel
theorem dX11_numberOf_51 : decode cX11_numberOf 51 = .ok (.getfield 52, 3) := by decide +kernel
theorem dX11_numberOf_54 : decode cX11_numberOf 54 = .ok (.bipush 56, 2) := by decide +kernel
theorem dX11_numberOf_56 : decode cX11_numberOf 56 = .ok (.iload_n 3, 1) := by decide +kernel
theorem dX11_numberOf_57 : decode cX11_numberOf 57 = .ok (.imul, 1) := by decide +kernel
theorem dX11_numberOf_58 : decode cX11_numberOf 58 = .ok (.iload 5, 2) := by decide +kernel
theorem dX11_numberOf_60 : decode cX11_numberOf 60 = .ok (.iadd, 1) := by decide +kernel
theorem dX11_numberOf_61 : decode cX11_numberOf 61 = .ok (.iaload, 1) := by decide +kernel
theorem dX11_numberOf_62 : decode cX11_numberOf 62 = .ok (.aload_n 0, 1) := by decide +kernel
theorem dX11_numberOf_63 : decode cX11_numberOf 63 = .ok (.getfield 30, 3) := by decide +kernel
theorem dX11_numberOf_66 : decode cX11_numberOf 66 = .ok (.iload 5, 2) := by decide +kernel
theorem dX11_numberOf_68 : decode cX11_numberOf 68 = .ok (.iaload, 1) := by decide +kernel
theorem dX11_numberOf_69 : decode cX11_numberOf 69 = .ok (.if_icmp .ne 7, 3) := by decide +kernel
theorem dX11_numberOf_72 : decode cX11_numberOf 72 = .ok (.iconst 1, 1) := by decide +kernel
theorem dX11_numberOf_73 : decode cX11_numberOf 73 = .ok (.goto 4, 3) := by decide +kernel
theorem dX11_numberOf_76 : decode cX11_numberOf 76 = .ok (.iconst 0, 1) := by decide +kernel
theorem dX11_numberOf_77 : decode cX11_numberOf 77 = .ok (.istore 4, 2) := by decide +kernel
theorem dX11_numberOf_79 : decode cX11_numberOf 79 = .ok (.iinc 5 1, 3) := by decide +kernel
theorem dX11_numberOf_82 : decode cX11_numberOf 82 = .ok (.goto (-44), 3) := by decide +kernel
theorem dX11_numberOf_85 : decode cX11_numberOf 85 = .ok (.iload 4, 2) := by decide +kernel
theorem dX11_numberOf_87 : decode cX11_numberOf 87 = .ok (.ifCond .eq 5, 3) := by decide +kernel
theorem dX11_numberOf_90 : decode cX11_numberOf 90 = .ok (.iload_n 3, 1) := by decide +kernel
theorem dX11_numberOf_91 : decode cX11_numberOf 91 = .ok (.ireturn, 1) := by decide +kernel
theorem dX11_numberOf_92 : decode cX11_numberOf 92 = .ok (.iinc 3 1, 3) := by decide +kernel
theorem dX11_numberOf_95 : decode cX11_numberOf 95 = .ok (.goto (-85), 3) := by decide +kernel
theorem dX11_numberOf_98 : decode cX11_numberOf 98 = .ok (.iconst (-1), 1) := by decide +kernel
theorem dX11_numberOf_99 : decode cX11_numberOf 99 = .ok (.ireturn, 1) := by decide +kernel
theorem dX11_addBad_0 : decode cX11_addBad 0 = .ok (.aload_n 0, 1) := by decide +kernel
theorem dX11_addBad_1 : decode cX11_addBad 1 = .ok (.getfield 186, 3) := by decide +kernel
theorem dX11_addBad_4 : decode cX11_addBad 4 = .ok (.sipush 200, 3) := by decide +kernel
theorem dX11_addBad_7 : decode cX11_addBad 7 = .ok (.if_icmp .ge 33, 3) := by decide +kernel
theorem dX11_addBad_10 : decode cX11_addBad 10 = .ok (.aload_n 0, 1) := by decide +kernel
theorem dX11_addBad_11 : decode cX11_addBad 11 = .ok (.getfield 78, 3) := by decide +kernel
theorem dX11_addBad_14 : decode cX11_addBad 14 = .ok (.aload_n 0, 1) := by decide +kernel
theorem dX11_addBad_15 : decode cX11_addBad 15 = .ok (.getfield 186, 3) := by decide +kernel
theorem dX11_addBad_18 : decode cX11_addBad 18 = .ok (.iload_n 1, 1) := by decide +kernel
theorem dX11_addBad_19 : decode cX11_addBad 19 = .ok (.iastore, 1) := by decide +kernel
theorem dX11_addBad_20 : decode cX11_addBad 20 = .ok (.aload_n 0, 1) := by decide +kernel
theorem dX11_addBad_21 : decode cX11_addBad 21 = .ok (.getfield 81, 3) := by decide +kernel
theorem dX11_addBad_24 : decode cX11_addBad 24 = .ok (.aload_n 0, 1) := by decide +kernel
theorem dX11_addBad_25 : decode cX11_addBad 25 = .ok (.getfield 186, 3) := by decide +kernel
theorem dX11_addBad_28 : decode cX11_addBad 28 = .ok (.iload_n 2, 1) := by decide +kernel
theorem dX11_addBad_29 : decode cX11_addBad 29 = .ok (.iastore, 1) := by decide +kernel
theorem dX11_addBad_30 : decode cX11_addBad 30 = .ok (.aload_n 0, 1) := by decide +kernel
theorem dX11_addBad_31 : decode cX11_addBad 31 = .ok (.getfield 84, 3) := by decide +kernel
theorem dX11_addBad_34 : decode cX11_addBad 34 = .ok (.aload_n 0, 1) := by decide +kernel
theorem dX11_addBad_35 : decode cX11_addBad 35 = .ok (.getfield 186, 3) := by decide +kernel
theorem dX11_addBad_38 : decode cX11_addBad 38 = .ok (.iload_n 3, 1) := by decide +kernel
theorem dX11_addBad_39 : decode cX11_addBad 39 = .ok (.iastore, 1) := by decide +kernel
theorem dX11_addBad_40 : decode cX11_addBad 40 = .ok (.aload_n 0, 1) := by decide +kernel
theorem dX11_addBad_41 : decode cX11_addBad 41 = .ok (.dup, 1) := by decide +kernel
theorem dX11_addBad_42 : decode cX11_addBad 42 = .ok (.getfield 186, 3) := by decide +kernel
theorem dX11_addBad_45 : decode cX11_addBad 45 = .ok (.iconst 1, 1) := by decide +kernel
theorem dX11_addBad_46 : decode cX11_addBad 46 = .ok (.iadd, 1) := by decide +kernel
theorem dX11_addBad_47 : decode cX11_addBad 47 = .ok (.putfield 186, 3) := by decide +kernel
theorem dX11_addBad_50 : decode cX11_addBad 50 = .ok (.return_, 1) := by decide +kernel
theorem dX11_add_0 : decode cX11_add 0 = .ok (.aload_n 0, 1) := by decide +kernel
theorem dX11_add_1 : decode cX11_add 1 = .ok (.getfield 183, 3) := by decide +kernel
theorem dX11_add_4 : decode cX11_add 4 = .ok (.istore_n 3, 1) := by decide +kernel
theorem dX11_add_5 : decode cX11_add 5 = .ok (.aload_n 0, 1) := by decide +kernel
theorem dX11_add_6 : decode cX11_add 6 = .ok (.getfield 30, 3) := by decide +kernel
theorem dX11_add_9 : decode cX11_add 9 = .ok (.iconst 0, 1) := by decide +kernel
theorem dX11_add_10 : decode cX11_add 10 = .ok (.aload_n 0, 1) := by decide +kernel
theorem dX11_add_11 : decode cX11_add 11 = .ok (.getfield 52, 3) := by decide +kernel
theorem dX11_add_14 : decode cX11_add 14 = .ok (.bipush 56, 2) := by decide +kernel
theorem dX11_add_16 : decode cX11_add 16 = .ok (.iload_n 3, 1) := by decide +kernel
theorem dX11_add_17 : decode cX11_add 17 = .ok (.imul, 1) := by decide +kernel
theorem dX11_add_18 : decode cX11_add 18 = .ok (.invokestatic 94, 3) := by decide +kernel
theorem dX11_add_21 : decode cX11_add 21 = .ok (.aload_n 0, 1) := by decide +kernel
theorem dX11_add_22 : decode cX11_add 22 = .ok (.getfield 55, 3) := by decide +kernel
theorem dX11_add_25 : decode cX11_add 25 = .ok (.iload_n 3, 1) := by decide +kernel
theorem dX11_add_26 : decode cX11_add 26 = .ok (.aload_n 0, 1) := by decide +kernel
theorem dX11_add_27 : decode cX11_add 27 = .ok (.getfield 30, 3) := by decide +kernel
theorem dX11_add_30 : decode cX11_add 30 = .ok (.invokestatic 179, 3) := by decide +kernel
theorem dX11_add_33 : decode cX11_add 33 = .ok (.lastore, 1) := by decide +kernel
theorem dX11_add_34 : decode cX11_add 34 = .ok (.aload_n 0, 1) := by decide +kernel
theorem dX11_add_35 : decode cX11_add 35 = .ok (.getfield 59, 3) := by decide +kernel
theorem dX11_add_38 : decode cX11_add 38 = .ok (.iload_n 3, 1) := by decide +kernel
theorem dX11_add_39 : decode cX11_add 39 = .ok (.iload_n 1, 1) := by decide +kernel
theorem dX11_add_40 : decode cX11_add 40 = .ok (.iastore, 1) := by decide +kernel
theorem dX11_add_41 : decode cX11_add 41 = .ok (.aload_n 0, 1) := by decide +kernel
theorem dX11_add_42 : decode cX11_add 42 = .ok (.getfield 62, 3) := by decide +kernel
theorem dX11_add_45 : decode cX11_add 45 = .ok (.iload_n 3, 1) := by decide +kernel
theorem dX11_add_46 : decode cX11_add 46 = .ok (.iload_n 2, 1) := by decide +kernel
theorem dX11_add_47 : decode cX11_add 47 = .ok (.iastore, 1) := by decide +kernel
theorem dX11_add_48 : decode cX11_add 48 = .ok (.aload_n 0, 1) := by decide +kernel
theorem dX11_add_49 : decode cX11_add 49 = .ok (.getfield 65, 3) := by decide +kernel
theorem dX11_add_52 : decode cX11_add 52 = .ok (.iload_n 3, 1) := by decide +kernel
theorem dX11_add_53 : decode cX11_add 53 = .ok (.iload_n 1, 1) := by decide +kernel
theorem dX11_add_54 : decode cX11_add 54 = .ok (.ifCond .ge 7, 3) := by decide +kernel
theorem dX11_add_57 : decode cX11_add 57 = .ok (.iconst 0, 1) := by decide +kernel
theorem dX11_add_58 : decode cX11_add 58 = .ok (.goto 11, 3) := by decide +kernel
theorem dX11_add_61 : decode cX11_add 61 = .ok (.aload_n 0, 1) := by decide +kernel
theorem dX11_add_62 : decode cX11_add 62 = .ok (.getfield 65, 3) := by decide +kernel
theorem dX11_add_65 : decode cX11_add 65 = .ok (.iload_n 1, 1) := by decide +kernel
theorem dX11_add_66 : decode cX11_add 66 = .ok (.iaload, 1) := by decide +kernel
theorem dX11_add_67 : decode cX11_add 67 = .ok (.iconst 1, 1) := by decide +kernel
theorem dX11_add_68 : decode cX11_add 68 = .ok (.iadd, 1) := by decide +kernel
theorem dX11_add_69 : decode cX11_add 69 = .ok (.iastore, 1) := by decide +kernel
theorem dX11_add_70 : decode cX11_add 70 = .ok (.aload_n 0, 1) := by decide +kernel
theorem dX11_add_71 : decode cX11_add 71 = .ok (.dup, 1) := by decide +kernel
theorem dX11_add_72 : decode cX11_add 72 = .ok (.getfield 183, 3) := by decide +kernel
theorem dX11_add_75 : decode cX11_add 75 = .ok (.iconst 1, 1) := by decide +kernel
theorem dX11_add_76 : decode cX11_add 76 = .ok (.iadd, 1) := by decide +kernel
theorem dX11_add_77 : decode cX11_add 77 = .ok (.putfield 183, 3) := by decide +kernel
theorem dX11_add_80 : decode cX11_add 80 = .ok (.aload_n 0, 1) := by decide +kernel
theorem dX11_add_81 : decode cX11_add 81 = .ok (.dup, 1) := by decide +kernel
theorem dX11_add_82 : decode cX11_add 82 = .ok (.getfield 189, 3) := by decide +kernel
theorem dX11_add_85 : decode cX11_add 85 = .ok (.aload_n 0, 1) := by decide +kernel
theorem dX11_add_86 : decode cX11_add 86 = .ok (.invokevirtual 173, 3) := by decide +kernel
theorem dX11_add_89 : decode cX11_add 89 = .ok (.ifCond .eq 7, 3) := by decide +kernel
theorem dX11_add_92 : decode cX11_add 92 = .ok (.iconst 1, 1) := by decide +kernel
theorem dX11_add_93 : decode cX11_add 93 = .ok (.goto 4, 3) := by decide +kernel
theorem dX11_add_96 : decode cX11_add 96 = .ok (.iconst 0, 1) := by decide +kernel
theorem dX11_add_97 : decode cX11_add 97 = .ok (.iadd, 1) := by decide +kernel
theorem dX11_add_98 : decode cX11_add 98 = .ok (.putfield 189, 3) := by decide +kernel
theorem dX11_add_101 : decode cX11_add 101 = .ok (.aload_n 0, 1) := by decide +kernel
theorem dX11_add_102 : decode cX11_add 102 = .ok (.invokevirtual 169, 3) := by decide +kernel
theorem dX11_add_105 : decode cX11_add 105 = .ok (.istore 4, 2) := by decide +kernel
theorem dX11_add_107 : decode cX11_add 107 = .ok (.iload 4, 2) := by decide +kernel
theorem dX11_add_109 : decode cX11_add 109 = .ok (.ifCond .eq 11, 3) := by decide +kernel
theorem dX11_add_112 : decode cX11_add 112 = .ok (.aload_n 0, 1) := by decide +kernel
theorem dX11_add_113 : decode cX11_add 113 = .ok (.iload 4, 2) := by decide +kernel
theorem dX11_add_115 : decode cX11_add 115 = .ok (.iload_n 3, 1) := by decide +kernel
theorem dX11_add_116 : decode cX11_add 116 = .ok (.iconst (-1), 1) := by decide +kernel
theorem dX11_add_117 : decode cX11_add 117 = .ok (.invokevirtual 192, 3) := by decide +kernel
theorem dX11_add_120 : decode cX11_add 120 = .ok (.iload_n 3, 1) := by decide +kernel
theorem dX11_add_121 : decode cX11_add 121 = .ok (.ireturn, 1) := by decide +kernel
theorem dX11_walk_0 : decode cX11_walk 0 = .ok (.iload_n 1, 1) := by decide +kernel
theorem dX11_walk_1 : decode cX11_walk 1 = .ok (.iconst 1, 1) := by decide +kernel
theorem dX11_walk_2 : decode cX11_walk 2 = .ok (.if_icmp .lt 10, 3) := by decide +kernel
theorem dX11_walk_5 : decode cX11_walk 5 = .ok (.iload_n 1, 1) := by decide +kernel
theorem dX11_walk_6 : decode cX11_walk 6 = .ok (.sipush 4000, 3) := by decide +kernel
theorem dX11_walk_9 : decode cX11_walk 9 = .ok (.if_icmp .le 5, 3) := by decide +kernel
theorem dX11_walk_12 : decode cX11_walk 12 = .ok (.iconst (-1), 1) := by decide +kernel
theorem dX11_walk_13 : decode cX11_walk 13 = .ok (.ireturn, 1) := by decide +kernel
theorem dX11_walk_14 : decode cX11_walk 14 = .ok (.aload_n 0, 1) := by decide +kernel
theorem dX11_walk_15 : decode cX11_walk 15 = .ok (.iconst 0, 1) := by decide +kernel
theorem dX11_walk_16 : decode cX11_walk 16 = .ok (.putfield 183, 3) := by decide +kernel
theorem dX11_walk_19 : decode cX11_walk 19 = .ok (.aload_n 0, 1) := by decide +kernel
theorem dX11_walk_20 : decode cX11_walk 20 = .ok (.iconst 0, 1) := by decide +kernel
theorem dX11_walk_21 : decode cX11_walk 21 = .ok (.putfield 196, 3) := by decide +kernel
theorem dX11_walk_24 : decode cX11_walk 24 = .ok (.aload_n 0, 1) := by decide +kernel
theorem dX11_walk_25 : decode cX11_walk 25 = .ok (.iconst 0, 1) := by decide +kernel
theorem dX11_walk_26 : decode cX11_walk 26 = .ok (.putfield 186, 3) := by decide +kernel
theorem dX11_walk_29 : decode cX11_walk 29 = .ok (.aload_n 0, 1) := by decide +kernel
theorem dX11_walk_30 : decode cX11_walk 30 = .ok (.iconst 0, 1) := by decide +kernel
theorem dX11_walk_31 : decode cX11_walk 31 = .ok (.putfield 189, 3) := by decide +kernel
theorem dX11_walk_34 : decode cX11_walk 34 = .ok (.aload_n 0, 1) := by decide +kernel
theorem dX11_walk_35 : decode cX11_walk 35 = .ok (.iconst 0, 1) := by decide +kernel
theorem dX11_walk_36 : decode cX11_walk 36 = .ok (.putfield 199, 3) := by decide +kernel
theorem dX11_walk_39 : decode cX11_walk 39 = .ok (.aload_n 0, 1) := by decide +kernel
theorem dX11_walk_40 : decode cX11_walk 40 = .ok (.iconst 0, 1) := by decide +kernel
theorem dX11_walk_41 : decode cX11_walk 41 = .ok (.putfield 87, 3) := by decide +kernel
theorem dX11_walk_44 : decode cX11_walk 44 = .ok (.iconst 0, 1) := by decide +kernel
theorem dX11_walk_45 : decode cX11_walk 45 = .ok (.istore_n 2, 1) := by decide +kernel
theorem dX11_walk_46 : decode cX11_walk 46 = .ok (.iload_n 2, 1) := by decide +kernel
theorem dX11_walk_47 : decode cX11_walk 47 = .ok (.sipush 2048, 3) := by decide +kernel
theorem dX11_walk_50 : decode cX11_walk 50 = .ok (.if_icmp .ge 16, 3) := by decide +kernel
theorem dX11_walk_53 : decode cX11_walk 53 = .ok (.aload_n 0, 1) := by decide +kernel
theorem dX11_walk_54 : decode cX11_walk 54 = .ok (.getfield 26, 3) := by decide +kernel
theorem dX11_walk_57 : decode cX11_walk 57 = .ok (.iload_n 2, 1) := by decide +kernel
theorem dX11_walk_58 : decode cX11_walk 58 = .ok (.iconst 0, 1) := by decide +kernel
theorem dX11_walk_59 : decode cX11_walk 59 = .ok (.bastore, 1) := by decide +kernel
theorem dX11_walk_60 : decode cX11_walk 60 = .ok (.iinc 2 1, 3) := by decide +kernel
theorem dX11_walk_63 : decode cX11_walk 63 = .ok (.goto (-17), 3) := by decide +kernel
theorem dX11_walk_66 : decode cX11_walk 66 = .ok (.aload_n 0, 1) := by decide +kernel
theorem dX11_walk_67 : decode cX11_walk 67 = .ok (.invokevirtual 91, 3) := by decide +kernel
theorem dX11_walk_70 : decode cX11_walk 70 = .ok (.aload_n 0, 1) := by decide +kernel
theorem dX11_walk_71 : decode cX11_walk 71 = .ok (.iconst (-1), 1) := by decide +kernel
theorem dX11_walk_72 : decode cX11_walk 72 = .ok (.iconst (-1), 1) := by decide +kernel
theorem dX11_walk_73 : decode cX11_walk 73 = .ok (.invokevirtual 202, 3) := by decide +kernel
theorem dX11_walk_76 : decode cX11_walk 76 = .ok (.istore_n 2, 1) := by decide +kernel
theorem dX11_walk_77 : decode cX11_walk 77 = .ok (.iconst 0, 1) := by decide +kernel
theorem dX11_walk_78 : decode cX11_walk 78 = .ok (.istore_n 3, 1) := by decide +kernel
theorem dX11_walk_79 : decode cX11_walk 79 = .ok (.iload_n 3, 1) := by decide +kernel
theorem dX11_walk_80 : decode cX11_walk 80 = .ok (.aload_n 0, 1) := by decide +kernel
theorem dX11_walk_81 : decode cX11_walk 81 = .ok (.getfield 183, 3) := by decide +kernel
theorem dX11_walk_84 : decode cX11_walk 84 = .ok (.if_icmp .ge 15, 3) := by decide +kernel
theorem dX11_walk_87 : decode cX11_walk 87 = .ok (.aload_n 0, 1) := by decide +kernel
theorem dX11_walk_88 : decode cX11_walk 88 = .ok (.iload_n 3, 1) := by decide +kernel
theorem dX11_walk_89 : decode cX11_walk 89 = .ok (.iload_n 1, 1) := by decide +kernel
theorem dX11_walk_90 : decode cX11_walk 90 = .ok (.invokevirtual 205, 3) := by decide +kernel
theorem dX11_walk_93 : decode cX11_walk 93 = .ok (.iinc 3 1, 3) := by decide +kernel
theorem dX11_walk_96 : decode cX11_walk 96 = .ok (.goto (-17), 3) := by decide +kernel
theorem dX11_walk_99 : decode cX11_walk 99 = .ok (.aload_n 0, 1) := by decide +kernel
theorem dX11_walk_100 : decode cX11_walk 100 = .ok (.invokevirtual 209, 3) := by decide +kernel
theorem dX11_walk_103 : decode cX11_walk 103 = .ok (.aload_n 0, 1) := by decide +kernel
theorem dX11_walk_104 : decode cX11_walk 104 = .ok (.getfield 199, 3) := by decide +kernel
theorem dX11_walk_107 : decode cX11_walk 107 = .ok (.ifCond .eq 13, 3) := by decide +kernel
theorem dX11_walk_110 : decode cX11_walk 110 = .ok (.aload_n 0, 1) := by decide +kernel
theorem dX11_walk_111 : decode cX11_walk 111 = .ok (.getfield 183, 3) := by decide +kernel
theorem dX11_walk_114 : decode cX11_walk 114 = .ok (.ineg, 1) := by decide +kernel
theorem dX11_walk_115 : decode cX11_walk 115 = .ok (.iconst 1, 1) := by decide +kernel
theorem dX11_walk_116 : decode cX11_walk 116 = .ok (.isub, 1) := by decide +kernel
theorem dX11_walk_117 : decode cX11_walk 117 = .ok (.goto 7, 3) := by decide +kernel
theorem dX11_walk_120 : decode cX11_walk 120 = .ok (.aload_n 0, 1) := by decide +kernel
theorem dX11_walk_121 : decode cX11_walk 121 = .ok (.getfield 183, 3) := by decide +kernel
theorem dX11_walk_124 : decode cX11_walk 124 = .ok (.ireturn, 1) := by decide +kernel
theorem dX11_from_0 : decode cX11_from 0 = .ok (.aload_n 0, 1) := by decide +kernel
theorem dX11_from_1 : decode cX11_from 1 = .ok (.getfield 52, 3) := by decide +kernel
theorem dX11_from_4 : decode cX11_from 4 = .ok (.bipush 56, 2) := by decide +kernel
theorem dX11_from_6 : decode cX11_from 6 = .ok (.iload_n 1, 1) := by decide +kernel
theorem dX11_from_7 : decode cX11_from 7 = .ok (.imul, 1) := by decide +kernel
theorem dX11_from_8 : decode cX11_from 8 = .ok (.aload_n 0, 1) := by decide +kernel
theorem dX11_from_9 : decode cX11_from 9 = .ok (.getfield 30, 3) := by decide +kernel
theorem dX11_from_12 : decode cX11_from 12 = .ok (.iconst 0, 1) := by decide +kernel
theorem dX11_from_13 : decode cX11_from 13 = .ok (.invokestatic 94, 3) := by decide +kernel
theorem dX11_from_16 : decode cX11_from 16 = .ok (.aload_n 0, 1) := by decide +kernel
theorem dX11_from_17 : decode cX11_from 17 = .ok (.invokevirtual 160, 3) := by decide +kernel
theorem dX11_from_20 : decode cX11_from 20 = .ok (.aload_n 0, 1) := by decide +kernel
theorem dX11_from_21 : decode cX11_from 21 = .ok (.getfield 72, 3) := by decide +kernel
theorem dX11_from_24 : decode cX11_from 24 = .ok (.iload_n 1, 1) := by decide +kernel
theorem dX11_from_25 : decode cX11_from 25 = .ok (.aload_n 0, 1) := by decide +kernel
theorem dX11_from_26 : decode cX11_from 26 = .ok (.getfield 109, 3) := by decide +kernel
theorem dX11_from_29 : decode cX11_from 29 = .ok (.ifCond .ne 14, 3) := by decide +kernel
theorem dX11_from_32 : decode cX11_from 32 = .ok (.aload_n 0, 1) := by decide +kernel
theorem dX11_from_33 : decode cX11_from 33 = .ok (.invokevirtual 173, 3) := by decide +kernel
theorem dX11_from_36 : decode cX11_from 36 = .ok (.ifCond .ne 7, 3) := by decide +kernel
theorem dX11_from_39 : decode cX11_from 39 = .ok (.iconst 1, 1) := by decide +kernel
theorem dX11_from_40 : decode cX11_from 40 = .ok (.goto 4, 3) := by decide +kernel
theorem dX11_from_43 : decode cX11_from 43 = .ok (.iconst 0, 1) := by decide +kernel
theorem dX11_from_44 : decode cX11_from 44 = .ok (.bastore, 1) := by decide +kernel
theorem dX11_from_45 : decode cX11_from 45 = .ok (.aload_n 0, 1) := by decide +kernel
theorem dX11_from_46 : decode cX11_from 46 = .ok (.getfield 109, 3) := by decide +kernel
theorem dX11_from_49 : decode cX11_from 49 = .ok (.istore_n 3, 1) := by decide +kernel
theorem dX11_from_50 : decode cX11_from 50 = .ok (.iconst 0, 1) := by decide +kernel
theorem dX11_from_51 : decode cX11_from 51 = .ok (.istore 4, 2) := by decide +kernel
theorem dX11_from_53 : decode cX11_from 53 = .ok (.iload 4, 2) := by decide +kernel
theorem dX11_from_55 : decode cX11_from 55 = .ok (.bipush 20, 2) := by decide +kernel
theorem dX11_from_57 : decode cX11_from 57 = .ok (.if_icmp .ge 22, 3) := by decide +kernel
theorem dX11_from_60 : decode cX11_from 60 = .ok (.aload_n 0, 1) := by decide +kernel
theorem dX11_from_61 : decode cX11_from 61 = .ok (.getfield 69, 3) := by decide +kernel
theorem dX11_from_64 : decode cX11_from 64 = .ok (.bipush 20, 2) := by decide +kernel
theorem dX11_from_66 : decode cX11_from 66 = .ok (.iload_n 1, 1) := by decide +kernel
theorem dX11_from_67 : decode cX11_from 67 = .ok (.imul, 1) := by decide +kernel
theorem dX11_from_68 : decode cX11_from 68 = .ok (.iload 4, 2) := by decide +kernel
theorem dX11_from_70 : decode cX11_from 70 = .ok (.iadd, 1) := by decide +kernel
theorem dX11_from_71 : decode cX11_from 71 = .ok (.iconst (-1), 1) := by decide +kernel
theorem dX11_from_72 : decode cX11_from 72 = .ok (.iastore, 1) := by decide +kernel
theorem dX11_from_73 : decode cX11_from 73 = .ok (.iinc 4 1, 3) := by decide +kernel
theorem dX11_from_76 : decode cX11_from 76 = .ok (.goto (-23), 3) := by decide +kernel
theorem dX11_from_79 : decode cX11_from 79 = .ok (.iconst 0, 1) := by decide +kernel
theorem dX11_from_80 : decode cX11_from 80 = .ok (.istore 4, 2) := by decide +kernel
theorem dX11_from_82 : decode cX11_from 82 = .ok (.iload 4, 2) := by decide +kernel
theorem dX11_from_84 : decode cX11_from 84 = .ok (.iload_n 3, 1) := by decide +kernel
theorem dX11_from_85 : decode cX11_from 85 = .ok (.if_icmp .ge 132, 3) := by decide +kernel
theorem dX11_from_88 : decode cX11_from 88 = .ok (.aload_n 0, 1) := by decide +kernel
theorem dX11_from_89 : decode cX11_from 89 = .ok (.getfield 52, 3) := by decide +kernel
theorem dX11_from_92 : decode cX11_from 92 = .ok (.bipush 56, 2) := by decide +kernel
theorem dX11_from_94 : decode cX11_from 94 = .ok (.iload_n 1, 1) := by decide +kernel
theorem dX11_from_95 : decode cX11_from 95 = .ok (.imul, 1) := by decide +kernel
theorem dX11_from_96 : decode cX11_from 96 = .ok (.aload_n 0, 1) := by decide +kernel
theorem dX11_from_97 : decode cX11_from 97 = .ok (.getfield 30, 3) := by decide +kernel
theorem dX11_from_100 : decode cX11_from 100 = .ok (.iconst 0, 1) := by decide +kernel
theorem dX11_from_101 : decode cX11_from 101 = .ok (.invokestatic 94, 3) := by decide +kernel
theorem dX11_from_104 : decode cX11_from 104 = .ok (.aload_n 0, 1) := by decide +kernel
theorem dX11_from_105 : decode cX11_from 105 = .ok (.iload 4, 2) := by decide +kernel
theorem dX11_from_107 : decode cX11_from 107 = .ok (.invokevirtual 166, 3) := by decide +kernel
theorem dX11_from_110 : decode cX11_from 110 = .ok (.istore 5, 2) := by decide +kernel
theorem dX11_from_112 : decode cX11_from 112 = .ok (.aload_n 0, 1) := by decide +kernel
theorem dX11_from_113 : decode cX11_from 113 = .ok (.dup, 1) := by decide +kernel
theorem dX11_from_114 : decode cX11_from 114 = .ok (.getfield 196, 3) := by decide +kernel
theorem dX11_from_117 : decode cX11_from 117 = .ok (.iconst 1, 1) := by decide +kernel
theorem dX11_from_118 : decode cX11_from 118 = .ok (.iadd, 1) := by decide +kernel
theorem dX11_from_119 : decode cX11_from 119 = .ok (.putfield 196, 3) := by decide +kernel
theorem dX11_from_122 : decode cX11_from 122 = .ok (.aload_n 0, 1) := by decide +kernel
theorem dX11_from_123 : decode cX11_from 123 = .ok (.getfield 150, 3) := by decide +kernel
theorem dX11_from_126 : decode cX11_from 126 = .ok (.ifCond .lt 13, 3) := by decide +kernel
theorem dX11_from_129 : decode cX11_from 129 = .ok (.aload_n 0, 1) := by decide +kernel
theorem dX11_from_130 : decode cX11_from 130 = .ok (.getfield 26, 3) := by decide +kernel
theorem dX11_from_133 : decode cX11_from 133 = .ok (.aload_n 0, 1) := by decide +kernel
theorem dX11_from_134 : decode cX11_from 134 = .ok (.getfield 150, 3) := by decide +kernel
theorem dX11_from_137 : decode cX11_from 137 = .ok (.iconst 1, 1) := by decide +kernel
theorem dX11_from_138 : decode cX11_from 138 = .ok (.bastore, 1) := by decide +kernel
theorem dX11_from_139 : decode cX11_from 139 = .ok (.iload 5, 2) := by decide +kernel
theorem dX11_from_141 : decode cX11_from 141 = .ok (.ifCond .eq 15, 3) := by decide +kernel
theorem dX11_from_144 : decode cX11_from 144 = .ok (.aload_n 0, 1) := by decide +kernel
theorem dX11_from_145 : decode cX11_from 145 = .ok (.iload 5, 2) := by decide +kernel
theorem dX11_from_147 : decode cX11_from 147 = .ok (.iload_n 1, 1) := by decide +kernel
theorem dX11_from_148 : decode cX11_from 148 = .ok (.iload 4, 2) := by decide +kernel
theorem dX11_from_150 : decode cX11_from 150 = .ok (.invokevirtual 192, 3) := by decide +kernel
theorem dX11_from_153 : decode cX11_from 153 = .ok (.goto 58, 3) := by decide +kernel
theorem dX11_from_156 : decode cX11_from 156 = .ok (.aload_n 0, 1) := by decide +kernel
theorem dX11_from_157 : decode cX11_from 157 = .ok (.invokevirtual 212, 3) := by decide +kernel
theorem dX11_from_160 : decode cX11_from 160 = .ok (.istore 6, 2) := by decide +kernel
theorem dX11_from_162 : decode cX11_from 162 = .ok (.iload 6, 2) := by decide +kernel
theorem dX11_from_164 : decode cX11_from 164 = .ok (.ifCond .ge 23, 3) := by decide +kernel
theorem dX11_from_167 : decode cX11_from 167 = .ok (.aload_n 0, 1) := by decide +kernel
theorem dX11_from_168 : decode cX11_from 168 = .ok (.getfield 183, 3) := by decide +kernel
theorem dX11_from_171 : decode cX11_from 171 = .ok (.iload_n 2, 1) := by decide +kernel
theorem dX11_from_172 : decode cX11_from 172 = .ok (.if_icmp .ge 15, 3) := by decide +kernel
theorem dX11_from_175 : decode cX11_from 175 = .ok (.aload_n 0, 1) := by decide +kernel
theorem dX11_from_176 : decode cX11_from 176 = .ok (.iload_n 1, 1) := by decide +kernel
theorem dX11_from_177 : decode cX11_from 177 = .ok (.iload 4, 2) := by decide +kernel
theorem dX11_from_179 : decode cX11_from 179 = .ok (.invokevirtual 202, 3) := by decide +kernel
theorem dX11_from_182 : decode cX11_from 182 = .ok (.istore 6, 2) := by decide +kernel
theorem dX11_from_184 : decode cX11_from 184 = .ok (.goto 13, 3) := by decide +kernel
theorem dX11_from_187 : decode cX11_from 187 = .ok (.iload 6, 2) := by decide +kernel
theorem dX11_from_189 : decode cX11_from 189 = .ok (.ifCond .ge 8, 3) := by decide +kernel
theorem dX11_from_192 : decode cX11_from 192 = .ok (.aload_n 0, 1) := by decide +kernel
theorem dX11_from_193 : decode cX11_from 193 = .ok (.iconst 1, 1) := by decide +kernel
theorem dX11_from_194 : decode cX11_from 194 = .ok (.putfield 199, 3) := by decide +kernel
theorem dX11_from_197 : decode cX11_from 197 = .ok (.aload_n 0, 1) := by decide +kernel
theorem dX11_from_198 : decode cX11_from 198 = .ok (.getfield 69, 3) := by decide +kernel
theorem dX11_from_201 : decode cX11_from 201 = .ok (.bipush 20, 2) := by decide +kernel
theorem dX11_from_203 : decode cX11_from 203 = .ok (.iload_n 1, 1) := by decide +kernel
theorem dX11_from_204 : decode cX11_from 204 = .ok (.imul, 1) := by decide +kernel
theorem dX11_from_205 : decode cX11_from 205 = .ok (.iload 4, 2) := by decide +kernel
theorem dX11_from_207 : decode cX11_from 207 = .ok (.iadd, 1) := by decide +kernel
theorem dX11_from_208 : decode cX11_from 208 = .ok (.iload 6, 2) := by decide +kernel
theorem dX11_from_210 : decode cX11_from 210 = .ok (.iastore, 1) := by decide +kernel
theorem dX11_from_211 : decode cX11_from 211 = .ok (.iinc 4 1, 3) := by decide +kernel
theorem dX11_from_214 : decode cX11_from 214 = .ok (.goto (-132), 3) := by decide +kernel
theorem dX11_from_217 : decode cX11_from 217 = .ok (.return_, 1) := by decide +kernel
theorem dX11_lead_0 : decode cX11_lead 0 = .ok (.iconst 0, 1) := by decide +kernel
theorem dX11_lead_1 : decode cX11_lead 1 = .ok (.istore_n 1, 1) := by decide +kernel
theorem dX11_lead_2 : decode cX11_lead 2 = .ok (.iload_n 1, 1) := by decide +kernel
theorem dX11_lead_3 : decode cX11_lead 3 = .ok (.aload_n 0, 1) := by decide +kernel
theorem dX11_lead_4 : decode cX11_lead 4 = .ok (.getfield 183, 3) := by decide +kernel
theorem dX11_lead_7 : decode cX11_lead 7 = .ok (.if_icmp .ge 35, 3) := by decide +kernel
theorem dX11_lead_10 : decode cX11_lead 10 = .ok (.aload_n 0, 1) := by decide +kernel
theorem dX11_lead_11 : decode cX11_lead 11 = .ok (.getfield 52, 3) := by decide +kernel
theorem dX11_lead_14 : decode cX11_lead 14 = .ok (.bipush 56, 2) := by decide +kernel
theorem dX11_lead_16 : decode cX11_lead 16 = .ok (.iload_n 1, 1) := by decide +kernel
theorem dX11_lead_17 : decode cX11_lead 17 = .ok (.imul, 1) := by decide +kernel
theorem dX11_lead_18 : decode cX11_lead 18 = .ok (.aload_n 0, 1) := by decide +kernel
theorem dX11_lead_19 : decode cX11_lead 19 = .ok (.getfield 30, 3) := by decide +kernel
theorem dX11_lead_22 : decode cX11_lead 22 = .ok (.iconst 0, 1) := by decide +kernel
theorem dX11_lead_23 : decode cX11_lead 23 = .ok (.invokestatic 94, 3) := by decide +kernel
theorem dX11_lead_26 : decode cX11_lead 26 = .ok (.aload_n 0, 1) := by decide +kernel
theorem dX11_lead_27 : decode cX11_lead 27 = .ok (.getfield 75, 3) := by decide +kernel
theorem dX11_lead_30 : decode cX11_lead 30 = .ok (.iload_n 1, 1) := by decide +kernel
theorem dX11_lead_31 : decode cX11_lead 31 = .ok (.aload_n 0, 1) := by decide +kernel
theorem dX11_lead_32 : decode cX11_lead 32 = .ok (.invokevirtual 173, 3) := by decide +kernel
theorem dX11_lead_35 : decode cX11_lead 35 = .ok (.bastore, 1) := by decide +kernel
theorem dX11_lead_36 : decode cX11_lead 36 = .ok (.iinc 1 1, 3) := by decide +kernel
theorem dX11_lead_39 : decode cX11_lead 39 = .ok (.goto (-37), 3) := by decide +kernel
theorem dX11_lead_42 : decode cX11_lead 42 = .ok (.iconst 1, 1) := by decide +kernel
theorem dX11_lead_43 : decode cX11_lead 43 = .ok (.istore_n 1, 1) := by decide +kernel
theorem dX11_lead_44 : decode cX11_lead 44 = .ok (.iload_n 1, 1) := by decide +kernel
theorem dX11_lead_45 : decode cX11_lead 45 = .ok (.ifCond .eq 120, 3) := by decide +kernel
theorem dX11_lead_48 : decode cX11_lead 48 = .ok (.iconst 0, 1) := by decide +kernel
theorem dX11_lead_49 : decode cX11_lead 49 = .ok (.istore_n 1, 1) := by decide +kernel
theorem dX11_lead_50 : decode cX11_lead 50 = .ok (.aload_n 0, 1) := by decide +kernel
theorem dX11_lead_51 : decode cX11_lead 51 = .ok (.getfield 183, 3) := by decide +kernel
theorem dX11_lead_54 : decode cX11_lead 54 = .ok (.iconst 1, 1) := by decide +kernel
theorem dX11_lead_55 : decode cX11_lead 55 = .ok (.isub, 1) := by decide +kernel
theorem dX11_lead_56 : decode cX11_lead 56 = .ok (.istore_n 2, 1) := by decide +kernel
theorem dX11_lead_57 : decode cX11_lead 57 = .ok (.iload_n 2, 1) := by decide +kernel
theorem dX11_lead_58 : decode cX11_lead 58 = .ok (.ifCond .lt 104, 3) := by decide +kernel
theorem dX11_lead_61 : decode cX11_lead 61 = .ok (.aload_n 0, 1) := by decide +kernel
theorem dX11_lead_62 : decode cX11_lead 62 = .ok (.getfield 75, 3) := by decide +kernel
theorem dX11_lead_65 : decode cX11_lead 65 = .ok (.iload_n 2, 1) := by decide +kernel
theorem dX11_lead_66 : decode cX11_lead 66 = .ok (.baload, 1) := by decide +kernel
theorem dX11_lead_67 : decode cX11_lead 67 = .ok (.istore_n 3, 1) := by decide +kernel
theorem dX11_lead_68 : decode cX11_lead 68 = .ok (.iconst 0, 1) := by decide +kernel
theorem dX11_lead_69 : decode cX11_lead 69 = .ok (.istore 4, 2) := by decide +kernel
theorem dX11_lead_71 : decode cX11_lead 71 = .ok (.iload 4, 2) := by decide +kernel
theorem dX11_lead_73 : decode cX11_lead 73 = .ok (.bipush 20, 2) := by decide +kernel
theorem dX11_lead_75 : decode cX11_lead 75 = .ok (.if_icmp .ge 54, 3) := by decide +kernel
theorem dX11_lead_78 : decode cX11_lead 78 = .ok (.iload_n 3, 1) := by decide +kernel
theorem dX11_lead_79 : decode cX11_lead 79 = .ok (.ifCond .ne 50, 3) := by decide +kernel
theorem dX11_lead_82 : decode cX11_lead 82 = .ok (.aload_n 0, 1) := by decide +kernel
theorem dX11_lead_83 : decode cX11_lead 83 = .ok (.getfield 69, 3) := by decide +kernel
theorem dX11_lead_86 : decode cX11_lead 86 = .ok (.bipush 20, 2) := by decide +kernel
theorem dX11_lead_88 : decode cX11_lead 88 = .ok (.iload_n 2, 1) := by decide +kernel
theorem dX11_lead_89 : decode cX11_lead 89 = .ok (.imul, 1) := by decide +kernel
theorem dX11_lead_90 : decode cX11_lead 90 = .ok (.iload 4, 2) := by decide +kernel
theorem dX11_lead_92 : decode cX11_lead 92 = .ok (.iadd, 1) := by decide +kernel
theorem dX11_lead_93 : decode cX11_lead 93 = .ok (.iaload, 1) := by decide +kernel
theorem dX11_lead_94 : decode cX11_lead 94 = .ok (.ifCond .lt 27, 3) := by decide +kernel
theorem dX11_lead_97 : decode cX11_lead 97 = .ok (.aload_n 0, 1) := by decide +kernel
theorem dX11_lead_98 : decode cX11_lead 98 = .ok (.getfield 75, 3) := by decide +kernel
theorem dX11_lead_101 : decode cX11_lead 101 = .ok (.aload_n 0, 1) := by decide +kernel
theorem dX11_lead_102 : decode cX11_lead 102 = .ok (.getfield 69, 3) := by decide +kernel
theorem dX11_lead_105 : decode cX11_lead 105 = .ok (.bipush 20, 2) := by decide +kernel
theorem dX11_lead_107 : decode cX11_lead 107 = .ok (.iload_n 2, 1) := by decide +kernel
theorem dX11_lead_108 : decode cX11_lead 108 = .ok (.imul, 1) := by decide +kernel
theorem dX11_lead_109 : decode cX11_lead 109 = .ok (.iload 4, 2) := by decide +kernel
theorem dX11_lead_111 : decode cX11_lead 111 = .ok (.iadd, 1) := by decide +kernel
theorem dX11_lead_112 : decode cX11_lead 112 = .ok (.iaload, 1) := by decide +kernel
theorem dX11_lead_113 : decode cX11_lead 113 = .ok (.baload, 1) := by decide +kernel
theorem dX11_lead_114 : decode cX11_lead 114 = .ok (.ifCond .eq 7, 3) := by decide +kernel
theorem dX11_lead_117 : decode cX11_lead 117 = .ok (.iconst 1, 1) := by decide +kernel
theorem dX11_lead_118 : decode cX11_lead 118 = .ok (.goto 4, 3) := by decide +kernel
theorem dX11_lead_121 : decode cX11_lead 121 = .ok (.iconst 0, 1) := by decide +kernel
theorem dX11_lead_122 : decode cX11_lead 122 = .ok (.istore_n 3, 1) := by decide +kernel
theorem dX11_lead_123 : decode cX11_lead 123 = .ok (.iinc 4 1, 3) := by decide +kernel
theorem dX11_lead_126 : decode cX11_lead 126 = .ok (.goto (-55), 3) := by decide +kernel
theorem dX11_lead_129 : decode cX11_lead 129 = .ok (.iload_n 1, 1) := by decide +kernel
theorem dX11_lead_130 : decode cX11_lead 130 = .ok (.ifCond .ne 13, 3) := by decide +kernel
theorem dX11_lead_133 : decode cX11_lead 133 = .ok (.iload_n 3, 1) := by decide +kernel
theorem dX11_lead_134 : decode cX11_lead 134 = .ok (.aload_n 0, 1) := by decide +kernel
theorem dX11_lead_135 : decode cX11_lead 135 = .ok (.getfield 75, 3) := by decide +kernel
theorem dX11_lead_138 : decode cX11_lead 138 = .ok (.iload_n 2, 1) := by decide +kernel
theorem dX11_lead_139 : decode cX11_lead 139 = .ok (.baload, 1) := by decide +kernel
theorem dX11_lead_140 : decode cX11_lead 140 = .ok (.if_icmp .eq 7, 3) := by decide +kernel
theorem dX11_lead_143 : decode cX11_lead 143 = .ok (.iconst 1, 1) := by decide +kernel
theorem dX11_lead_144 : decode cX11_lead 144 = .ok (.goto 4, 3) := by decide +kernel
theorem dX11_lead_147 : decode cX11_lead 147 = .ok (.iconst 0, 1) := by decide +kernel
theorem dX11_lead_148 : decode cX11_lead 148 = .ok (.istore_n 1, 1) := by decide +kernel
theorem dX11_lead_149 : decode cX11_lead 149 = .ok (.aload_n 0, 1) := by decide +kernel
theorem dX11_lead_150 : decode cX11_lead 150 = .ok (.getfield 75, 3) := by decide +kernel
theorem dX11_lead_153 : decode cX11_lead 153 = .ok (.iload_n 2, 1) := by decide +kernel
theorem dX11_lead_154 : decode cX11_lead 154 = .ok (.iload_n 3, 1) := by decide +kernel
theorem dX11_lead_155 : decode cX11_lead 155 = .ok (.bastore, 1) := by decide +kernel
theorem dX11_lead_156 : decode cX11_lead 156 = .ok (.iinc 2 (-1), 3) := by decide +kernel
theorem dX11_lead_159 : decode cX11_lead 159 = .ok (.goto (-102), 3) := by decide +kernel
theorem dX11_lead_162 : decode cX11_lead 162 = .ok (.goto (-118), 3) := by decide +kernel
theorem dX11_lead_165 : decode cX11_lead 165 = .ok (.return_, 1) := by decide +kernel
theorem dX11_walked_0 : decode cX11_walked 0 = .ok (.iload_n 1, 1) := by decide +kernel
theorem dX11_walked_1 : decode cX11_walked 1 = .ok (.ifCond .lt 9, 3) := by decide +kernel
theorem dX11_walked_4 : decode cX11_walked 4 = .ok (.iload_n 1, 1) := by decide +kernel
theorem dX11_walked_5 : decode cX11_walked 5 = .ok (.bipush 7, 2) := by decide +kernel
theorem dX11_walked_7 : decode cX11_walked 7 = .ok (.if_icmp .le 5, 3) := by decide +kernel
theorem dX11_walked_10 : decode cX11_walked 10 = .ok (.iconst (-1), 1) := by decide +kernel
theorem dX11_walked_11 : decode cX11_walked 11 = .ok (.ireturn, 1) := by decide +kernel
theorem dX11_walked_12 : decode cX11_walked 12 = .ok (.iconst 0, 1) := by decide +kernel
theorem dX11_walked_13 : decode cX11_walked 13 = .ok (.istore_n 2, 1) := by decide +kernel
theorem dX11_walked_14 : decode cX11_walked 14 = .ok (.iload_n 1, 1) := by decide +kernel
theorem dX11_walked_15 : decode cX11_walked 15 = .ok (.tableswitch 78 0 7 #[45, 50, 55, 78, 78, 78, 60, 73], 45) := by decide +kernel
theorem dX11_walked_60 : decode cX11_walked 60 = .ok (.aload_n 0, 1) := by decide +kernel
theorem dX11_walked_61 : decode cX11_walked 61 = .ok (.getfield 183, 3) := by decide +kernel
theorem dX11_walked_64 : decode cX11_walked 64 = .ok (.ireturn, 1) := by decide +kernel
theorem dX11_walked_65 : decode cX11_walked 65 = .ok (.aload_n 0, 1) := by decide +kernel
theorem dX11_walked_66 : decode cX11_walked 66 = .ok (.getfield 196, 3) := by decide +kernel
theorem dX11_walked_69 : decode cX11_walked 69 = .ok (.ireturn, 1) := by decide +kernel
theorem dX11_walked_70 : decode cX11_walked 70 = .ok (.aload_n 0, 1) := by decide +kernel
theorem dX11_walked_71 : decode cX11_walked 71 = .ok (.getfield 186, 3) := by decide +kernel
theorem dX11_walked_74 : decode cX11_walked 74 = .ok (.ireturn, 1) := by decide +kernel
theorem dX11_walked_75 : decode cX11_walked 75 = .ok (.aload_n 0, 1) := by decide +kernel
theorem dX11_walked_76 : decode cX11_walked 76 = .ok (.getfield 199, 3) := by decide +kernel
theorem dX11_walked_79 : decode cX11_walked 79 = .ok (.ifCond .eq 7, 3) := by decide +kernel
theorem dX11_walked_82 : decode cX11_walked 82 = .ok (.iconst 1, 1) := by decide +kernel
theorem dX11_walked_83 : decode cX11_walked 83 = .ok (.goto 4, 3) := by decide +kernel
theorem dX11_walked_86 : decode cX11_walked 86 = .ok (.iconst 0, 1) := by decide +kernel
theorem dX11_walked_87 : decode cX11_walked 87 = .ok (.ireturn, 1) := by decide +kernel
theorem dX11_walked_88 : decode cX11_walked 88 = .ok (.aload_n 0, 1) := by decide +kernel
theorem dX11_walked_89 : decode cX11_walked 89 = .ok (.getfield 189, 3) := by decide +kernel
theorem dX11_walked_92 : decode cX11_walked 92 = .ok (.ireturn, 1) := by decide +kernel
theorem dX11_walked_93 : decode cX11_walked 93 = .ok (.iconst 0, 1) := by decide +kernel
theorem dX11_walked_94 : decode cX11_walked 94 = .ok (.istore_n 3, 1) := by decide +kernel
theorem dX11_walked_95 : decode cX11_walked 95 = .ok (.iload_n 3, 1) := by decide +kernel
theorem dX11_walked_96 : decode cX11_walked 96 = .ok (.aload_n 0, 1) := by decide +kernel
theorem dX11_walked_97 : decode cX11_walked 97 = .ok (.getfield 183, 3) := by decide +kernel
theorem dX11_walked_100 : decode cX11_walked 100 = .ok (.if_icmp .ge 76, 3) := by decide +kernel
theorem dX11_walked_103 : decode cX11_walked 103 = .ok (.iload_n 1, 1) := by decide +kernel
theorem dX11_walked_104 : decode cX11_walked 104 = .ok (.iconst 5, 1) := by decide +kernel
theorem dX11_walked_105 : decode cX11_walked 105 = .ok (.if_icmp .ne 26, 3) := by decide +kernel
theorem dX11_walked_108 : decode cX11_walked 108 = .ok (.aload_n 0, 1) := by decide +kernel
theorem dX11_walked_109 : decode cX11_walked 109 = .ok (.getfield 65, 3) := by decide +kernel
theorem dX11_walked_112 : decode cX11_walked 112 = .ok (.iload_n 3, 1) := by decide +kernel
theorem dX11_walked_113 : decode cX11_walked 113 = .ok (.iaload, 1) := by decide +kernel
theorem dX11_walked_114 : decode cX11_walked 114 = .ok (.iload_n 2, 1) := by decide +kernel
theorem dX11_walked_115 : decode cX11_walked 115 = .ok (.if_icmp .le 12, 3) := by decide +kernel
theorem dX11_walked_118 : decode cX11_walked 118 = .ok (.aload_n 0, 1) := by decide +kernel
theorem dX11_walked_119 : decode cX11_walked 119 = .ok (.getfield 65, 3) := by decide +kernel
theorem dX11_walked_122 : decode cX11_walked 122 = .ok (.iload_n 3, 1) := by decide +kernel
theorem dX11_walked_123 : decode cX11_walked 123 = .ok (.iaload, 1) := by decide +kernel
theorem dX11_walked_124 : decode cX11_walked 124 = .ok (.goto 45, 3) := by decide +kernel
theorem dX11_walked_127 : decode cX11_walked 127 = .ok (.iload_n 2, 1) := by decide +kernel
theorem dX11_walked_128 : decode cX11_walked 128 = .ok (.goto 41, 3) := by decide +kernel
theorem dX11_walked_131 : decode cX11_walked 131 = .ok (.iload_n 2, 1) := by decide +kernel
theorem dX11_walked_132 : decode cX11_walked 132 = .ok (.iload_n 1, 1) := by decide +kernel
theorem dX11_walked_133 : decode cX11_walked 133 = .ok (.iconst 3, 1) := by decide +kernel
theorem dX11_walked_134 : decode cX11_walked 134 = .ok (.if_icmp .ne 20, 3) := by decide +kernel
theorem dX11_walked_137 : decode cX11_walked 137 = .ok (.aload_n 0, 1) := by decide +kernel
theorem dX11_walked_138 : decode cX11_walked 138 = .ok (.getfield 72, 3) := by decide +kernel
theorem dX11_walked_141 : decode cX11_walked 141 = .ok (.iload_n 3, 1) := by decide +kernel
theorem dX11_walked_142 : decode cX11_walked 142 = .ok (.baload, 1) := by decide +kernel
theorem dX11_walked_143 : decode cX11_walked 143 = .ok (.ifCond .eq 7, 3) := by decide +kernel
theorem dX11_walked_146 : decode cX11_walked 146 = .ok (.iconst 1, 1) := by decide +kernel
theorem dX11_walked_147 : decode cX11_walked 147 = .ok (.goto 21, 3) := by decide +kernel
theorem dX11_walked_150 : decode cX11_walked 150 = .ok (.iconst 0, 1) := by decide +kernel
theorem dX11_walked_151 : decode cX11_walked 151 = .ok (.goto 17, 3) := by decide +kernel
theorem dX11_walked_154 : decode cX11_walked 154 = .ok (.aload_n 0, 1) := by decide +kernel
theorem dX11_walked_155 : decode cX11_walked 155 = .ok (.getfield 75, 3) := by decide +kernel
theorem dX11_walked_158 : decode cX11_walked 158 = .ok (.iload_n 3, 1) := by decide +kernel
theorem dX11_walked_159 : decode cX11_walked 159 = .ok (.baload, 1) := by decide +kernel
theorem dX11_walked_160 : decode cX11_walked 160 = .ok (.ifCond .eq 7, 3) := by decide +kernel
theorem dX11_walked_163 : decode cX11_walked 163 = .ok (.iconst 0, 1) := by decide +kernel
theorem dX11_walked_164 : decode cX11_walked 164 = .ok (.goto 4, 3) := by decide +kernel
theorem dX11_walked_167 : decode cX11_walked 167 = .ok (.iconst 1, 1) := by decide +kernel
theorem dX11_walked_168 : decode cX11_walked 168 = .ok (.iadd, 1) := by decide +kernel
theorem dX11_walked_169 : decode cX11_walked 169 = .ok (.istore_n 2, 1) := by decide +kernel
theorem dX11_walked_170 : decode cX11_walked 170 = .ok (.iinc 3 1, 3) := by decide +kernel
theorem dX11_walked_173 : decode cX11_walked 173 = .ok (.goto (-78), 3) := by decide +kernel
theorem dX11_walked_176 : decode cX11_walked 176 = .ok (.iload_n 2, 1) := by decide +kernel
theorem dX11_walked_177 : decode cX11_walked 177 = .ok (.ireturn, 1) := by decide +kernel
theorem dX11_bad_0 : decode cX11_bad 0 = .ok (.iload_n 1, 1) := by decide +kernel
theorem dX11_bad_1 : decode cX11_bad 1 = .ok (.ifCond .lt 27, 3) := by decide +kernel
theorem dX11_bad_4 : decode cX11_bad 4 = .ok (.iload_n 1, 1) := by decide +kernel
theorem dX11_bad_5 : decode cX11_bad 5 = .ok (.aload_n 0, 1) := by decide +kernel
theorem dX11_bad_6 : decode cX11_bad 6 = .ok (.getfield 186, 3) := by decide +kernel
theorem dX11_bad_9 : decode cX11_bad 9 = .ok (.if_icmp .ge 19, 3) := by decide +kernel
theorem dX11_bad_12 : decode cX11_bad 12 = .ok (.iload_n 1, 1) := by decide +kernel
theorem dX11_bad_13 : decode cX11_bad 13 = .ok (.sipush 200, 3) := by decide +kernel
theorem dX11_bad_16 : decode cX11_bad 16 = .ok (.if_icmp .ge 12, 3) := by decide +kernel
theorem dX11_bad_19 : decode cX11_bad 19 = .ok (.iload_n 2, 1) := by decide +kernel
theorem dX11_bad_20 : decode cX11_bad 20 = .ok (.ifCond .lt 8, 3) := by decide +kernel
theorem dX11_bad_23 : decode cX11_bad 23 = .ok (.iload_n 2, 1) := by decide +kernel
theorem dX11_bad_24 : decode cX11_bad 24 = .ok (.iconst 2, 1) := by decide +kernel
theorem dX11_bad_25 : decode cX11_bad 25 = .ok (.if_icmp .le 5, 3) := by decide +kernel
theorem dX11_bad_28 : decode cX11_bad 28 = .ok (.iconst (-1), 1) := by decide +kernel
theorem dX11_bad_29 : decode cX11_bad 29 = .ok (.ireturn, 1) := by decide +kernel
theorem dX11_bad_30 : decode cX11_bad 30 = .ok (.iload_n 2, 1) := by decide +kernel
theorem dX11_bad_31 : decode cX11_bad 31 = .ok (.ifCond .ne 12, 3) := by decide +kernel
theorem dX11_bad_34 : decode cX11_bad 34 = .ok (.aload_n 0, 1) := by decide +kernel
theorem dX11_bad_35 : decode cX11_bad 35 = .ok (.getfield 78, 3) := by decide +kernel
theorem dX11_bad_38 : decode cX11_bad 38 = .ok (.iload_n 1, 1) := by decide +kernel
theorem dX11_bad_39 : decode cX11_bad 39 = .ok (.iaload, 1) := by decide +kernel
theorem dX11_bad_40 : decode cX11_bad 40 = .ok (.goto 23, 3) := by decide +kernel
theorem dX11_bad_43 : decode cX11_bad 43 = .ok (.iload_n 2, 1) := by decide +kernel
theorem dX11_bad_44 : decode cX11_bad 44 = .ok (.iconst 1, 1) := by decide +kernel
theorem dX11_bad_45 : decode cX11_bad 45 = .ok (.if_icmp .ne 12, 3) := by decide +kernel
theorem dX11_bad_48 : decode cX11_bad 48 = .ok (.aload_n 0, 1) := by decide +kernel
theorem dX11_bad_49 : decode cX11_bad 49 = .ok (.getfield 81, 3) := by decide +kernel
theorem dX11_bad_52 : decode cX11_bad 52 = .ok (.iload_n 1, 1) := by decide +kernel
theorem dX11_bad_53 : decode cX11_bad 53 = .ok (.iaload, 1) := by decide +kernel
theorem dX11_bad_54 : decode cX11_bad 54 = .ok (.goto 9, 3) := by decide +kernel
theorem dX11_bad_57 : decode cX11_bad 57 = .ok (.aload_n 0, 1) := by decide +kernel
theorem dX11_bad_58 : decode cX11_bad 58 = .ok (.getfield 84, 3) := by decide +kernel
theorem dX11_bad_61 : decode cX11_bad 61 = .ok (.iload_n 1, 1) := by decide +kernel
theorem dX11_bad_62 : decode cX11_bad 62 = .ok (.iaload, 1) := by decide +kernel
theorem dX11_bad_63 : decode cX11_bad 63 = .ok (.ireturn, 1) := by decide +kernel
theorem dX11_found_0 : decode cX11_found 0 = .ok (.iload_n 1, 1) := by decide +kernel
theorem dX11_found_1 : decode cX11_found 1 = .ok (.ifCond .lt 12, 3) := by decide +kernel
theorem dX11_found_4 : decode cX11_found 4 = .ok (.iload_n 1, 1) := by decide +kernel
theorem dX11_found_5 : decode cX11_found 5 = .ok (.iconst 1, 1) := by decide +kernel
theorem dX11_found_6 : decode cX11_found 6 = .ok (.if_icmp .gt 7, 3) := by decide +kernel
theorem dX11_found_9 : decode cX11_found 9 = .ok (.iload_n 2, 1) := by decide +kernel
theorem dX11_found_10 : decode cX11_found 10 = .ok (.ifCond .ge 5, 3) := by decide +kernel
theorem dX11_found_13 : decode cX11_found 13 = .ok (.iconst (-1), 1) := by decide +kernel
theorem dX11_found_14 : decode cX11_found 14 = .ok (.ireturn, 1) := by decide +kernel
theorem dX11_found_15 : decode cX11_found 15 = .ok (.iload_n 2, 1) := by decide +kernel
theorem dX11_found_16 : decode cX11_found 16 = .ok (.istore_n 3, 1) := by decide +kernel
theorem dX11_found_17 : decode cX11_found 17 = .ok (.iconst 0, 1) := by decide +kernel
theorem dX11_found_18 : decode cX11_found 18 = .ok (.istore 4, 2) := by decide +kernel
theorem dX11_found_20 : decode cX11_found 20 = .ok (.iload 4, 2) := by decide +kernel
theorem dX11_found_22 : decode cX11_found 22 = .ok (.aload_n 0, 1) := by decide +kernel
theorem dX11_found_23 : decode cX11_found 23 = .ok (.getfield 183, 3) := by decide +kernel
theorem dX11_found_26 : decode cX11_found 26 = .ok (.if_icmp .ge 46, 3) := by decide +kernel
theorem dX11_found_29 : decode cX11_found 29 = .ok (.iload_n 1, 1) := by decide +kernel
theorem dX11_found_30 : decode cX11_found 30 = .ok (.ifCond .ne 16, 3) := by decide +kernel
theorem dX11_found_33 : decode cX11_found 33 = .ok (.aload_n 0, 1) := by decide +kernel
theorem dX11_found_34 : decode cX11_found 34 = .ok (.getfield 72, 3) := by decide +kernel
theorem dX11_found_37 : decode cX11_found 37 = .ok (.iload 4, 2) := by decide +kernel
theorem dX11_found_39 : decode cX11_found 39 = .ok (.baload, 1) := by decide +kernel
theorem dX11_found_40 : decode cX11_found 40 = .ok (.ifCond .eq 26, 3) := by decide +kernel
theorem dX11_found_43 : decode cX11_found 43 = .ok (.goto 13, 3) := by decide +kernel
theorem dX11_found_46 : decode cX11_found 46 = .ok (.aload_n 0, 1) := by decide +kernel
theorem dX11_found_47 : decode cX11_found 47 = .ok (.getfield 75, 3) := by decide +kernel
theorem dX11_found_50 : decode cX11_found 50 = .ok (.iload 4, 2) := by decide +kernel
theorem dX11_found_52 : decode cX11_found 52 = .ok (.baload, 1) := by decide +kernel
theorem dX11_found_53 : decode cX11_found 53 = .ok (.ifCond .ne 13, 3) := by decide +kernel
theorem dX11_found_56 : decode cX11_found 56 = .ok (.iload_n 3, 1) := by decide +kernel
theorem dX11_found_57 : decode cX11_found 57 = .ok (.ifCond .ne 6, 3) := by decide +kernel
theorem dX11_found_60 : decode cX11_found 60 = .ok (.iload 4, 2) := by decide +kernel
theorem dX11_found_62 : decode cX11_found 62 = .ok (.ireturn, 1) := by decide +kernel
theorem dX11_found_63 : decode cX11_found 63 = .ok (.iinc 3 (-1), 3) := by decide +kernel
theorem dX11_found_66 : decode cX11_found 66 = .ok (.iinc 4 1, 3) := by decide +kernel
theorem dX11_found_69 : decode cX11_found 69 = .ok (.goto (-49), 3) := by decide +kernel
theorem dX11_found_72 : decode cX11_found 72 = .ok (.iconst (-1), 1) := by decide +kernel
theorem dX11_found_73 : decode cX11_found 73 = .ok (.ireturn, 1) := by decide +kernel
theorem dX11_far_0 : decode cX11_far 0 = .ok (.iload_n 1, 1) := by decide +kernel
theorem dX11_far_1 : decode cX11_far 1 = .ok (.ifCond .lt 11, 3) := by decide +kernel
theorem dX11_far_4 : decode cX11_far 4 = .ok (.iload_n 1, 1) := by decide +kernel
theorem dX11_far_5 : decode cX11_far 5 = .ok (.aload_n 0, 1) := by decide +kernel
theorem dX11_far_6 : decode cX11_far 6 = .ok (.getfield 183, 3) := by decide +kernel
theorem dX11_far_9 : decode cX11_far 9 = .ok (.if_icmp .lt 7, 3) := by decide +kernel
theorem dX11_far_12 : decode cX11_far 12 = .ok (.iconst (-1), 1) := by decide +kernel
theorem dX11_far_13 : decode cX11_far 13 = .ok (.goto 9, 3) := by decide +kernel
theorem dX11_far_16 : decode cX11_far 16 = .ok (.aload_n 0, 1) := by decide +kernel
theorem dX11_far_17 : decode cX11_far 17 = .ok (.getfield 65, 3) := by decide +kernel
theorem dX11_far_20 : decode cX11_far 20 = .ok (.iload_n 1, 1) := by decide +kernel
theorem dX11_far_21 : decode cX11_far 21 = .ok (.iaload, 1) := by decide +kernel
theorem dX11_far_22 : decode cX11_far 22 = .ok (.ireturn, 1) := by decide +kernel
theorem dX11_way_0 : decode cX11_way 0 = .ok (.iload_n 1, 1) := by decide +kernel
theorem dX11_way_1 : decode cX11_way 1 = .ok (.ifCond .lt 25, 3) := by decide +kernel
theorem dX11_way_4 : decode cX11_way 4 = .ok (.iload_n 1, 1) := by decide +kernel
theorem dX11_way_5 : decode cX11_way 5 = .ok (.aload_n 0, 1) := by decide +kernel
theorem dX11_way_6 : decode cX11_way 6 = .ok (.getfield 183, 3) := by decide +kernel
theorem dX11_way_9 : decode cX11_way 9 = .ok (.if_icmp .ge 17, 3) := by decide +kernel
theorem dX11_way_12 : decode cX11_way 12 = .ok (.iload_n 2, 1) := by decide +kernel
theorem dX11_way_13 : decode cX11_way 13 = .ok (.ifCond .lt 13, 3) := by decide +kernel
theorem dX11_way_16 : decode cX11_way 16 = .ok (.iload_n 2, 1) := by decide +kernel
theorem dX11_way_17 : decode cX11_way 17 = .ok (.aload_n 0, 1) := by decide +kernel
theorem dX11_way_18 : decode cX11_way 18 = .ok (.getfield 65, 3) := by decide +kernel
theorem dX11_way_21 : decode cX11_way 21 = .ok (.iload_n 1, 1) := by decide +kernel
theorem dX11_way_22 : decode cX11_way 22 = .ok (.iaload, 1) := by decide +kernel
theorem dX11_way_23 : decode cX11_way 23 = .ok (.if_icmp .lt 5, 3) := by decide +kernel
theorem dX11_way_26 : decode cX11_way 26 = .ok (.iconst (-1), 1) := by decide +kernel
theorem dX11_way_27 : decode cX11_way 27 = .ok (.ireturn, 1) := by decide +kernel
theorem dX11_way_28 : decode cX11_way 28 = .ok (.iload_n 1, 1) := by decide +kernel
theorem dX11_way_29 : decode cX11_way 29 = .ok (.istore_n 3, 1) := by decide +kernel
theorem dX11_way_30 : decode cX11_way 30 = .ok (.aload_n 0, 1) := by decide +kernel
theorem dX11_way_31 : decode cX11_way 31 = .ok (.getfield 65, 3) := by decide +kernel
theorem dX11_way_34 : decode cX11_way 34 = .ok (.iload_n 3, 1) := by decide +kernel
theorem dX11_way_35 : decode cX11_way 35 = .ok (.iaload, 1) := by decide +kernel
theorem dX11_way_36 : decode cX11_way 36 = .ok (.iload_n 2, 1) := by decide +kernel
theorem dX11_way_37 : decode cX11_way 37 = .ok (.iconst 1, 1) := by decide +kernel
theorem dX11_way_38 : decode cX11_way 38 = .ok (.iadd, 1) := by decide +kernel
theorem dX11_way_39 : decode cX11_way 39 = .ok (.if_icmp .le 13, 3) := by decide +kernel
theorem dX11_way_42 : decode cX11_way 42 = .ok (.aload_n 0, 1) := by decide +kernel
theorem dX11_way_43 : decode cX11_way 43 = .ok (.getfield 59, 3) := by decide +kernel
theorem dX11_way_46 : decode cX11_way 46 = .ok (.iload_n 3, 1) := by decide +kernel
theorem dX11_way_47 : decode cX11_way 47 = .ok (.iaload, 1) := by decide +kernel
theorem dX11_way_48 : decode cX11_way 48 = .ok (.istore_n 3, 1) := by decide +kernel
theorem dX11_way_49 : decode cX11_way 49 = .ok (.goto (-19), 3) := by decide +kernel
theorem dX11_way_52 : decode cX11_way 52 = .ok (.aload_n 0, 1) := by decide +kernel
theorem dX11_way_53 : decode cX11_way 53 = .ok (.getfield 62, 3) := by decide +kernel
theorem dX11_way_56 : decode cX11_way 56 = .ok (.iload_n 3, 1) := by decide +kernel
theorem dX11_way_57 : decode cX11_way 57 = .ok (.iaload, 1) := by decide +kernel
theorem dX11_way_58 : decode cX11_way 58 = .ok (.ireturn, 1) := by decide +kernel
theorem dX11_go_0 : decode cX11_go 0 = .ok (.iload_n 1, 1) := by decide +kernel
theorem dX11_go_1 : decode cX11_go 1 = .ok (.ifCond .lt 18, 3) := by decide +kernel
theorem dX11_go_4 : decode cX11_go 4 = .ok (.iload_n 1, 1) := by decide +kernel
theorem dX11_go_5 : decode cX11_go 5 = .ok (.aload_n 0, 1) := by decide +kernel
theorem dX11_go_6 : decode cX11_go 6 = .ok (.getfield 183, 3) := by decide +kernel
theorem dX11_go_9 : decode cX11_go 9 = .ok (.if_icmp .ge 10, 3) := by decide +kernel
theorem dX11_go_12 : decode cX11_go 12 = .ok (.aload_n 0, 1) := by decide +kernel
theorem dX11_go_13 : decode cX11_go 13 = .ok (.getfield 87, 3) := by decide +kernel
theorem dX11_go_16 : decode cX11_go 16 = .ok (.ifCond .eq 5, 3) := by decide +kernel
theorem dX11_go_19 : decode cX11_go 19 = .ok (.iconst (-1), 1) := by decide +kernel
theorem dX11_go_20 : decode cX11_go 20 = .ok (.ireturn, 1) := by decide +kernel
theorem dX11_go_21 : decode cX11_go 21 = .ok (.aload_n 0, 1) := by decide +kernel
theorem dX11_go_22 : decode cX11_go 22 = .ok (.getfield 52, 3) := by decide +kernel
theorem dX11_go_25 : decode cX11_go 25 = .ok (.bipush 56, 2) := by decide +kernel
theorem dX11_go_27 : decode cX11_go 27 = .ok (.iload_n 1, 1) := by decide +kernel
theorem dX11_go_28 : decode cX11_go 28 = .ok (.imul, 1) := by decide +kernel
theorem dX11_go_29 : decode cX11_go 29 = .ok (.aload_n 0, 1) := by decide +kernel
theorem dX11_go_30 : decode cX11_go 30 = .ok (.getfield 33, 3) := by decide +kernel
theorem dX11_go_33 : decode cX11_go 33 = .ok (.iconst 0, 1) := by decide +kernel
theorem dX11_go_34 : decode cX11_go 34 = .ok (.invokestatic 94, 3) := by decide +kernel
theorem dX11_go_37 : decode cX11_go 37 = .ok (.aload_n 0, 1) := by decide +kernel
theorem dX11_go_38 : decode cX11_go 38 = .ok (.invokevirtual 163, 3) := by decide +kernel
theorem dX11_go_41 : decode cX11_go 41 = .ok (.aload_n 0, 1) := by decide +kernel
theorem dX11_go_42 : decode cX11_go 42 = .ok (.getfield 109, 3) := by decide +kernel
theorem dX11_go_45 : decode cX11_go 45 = .ok (.ireturn, 1) := by decide +kernel
theorem dX11_number_0 : decode cX11_number 0 = .ok (.aload_n 0, 1) := by decide +kernel
theorem dX11_number_1 : decode cX11_number 1 = .ok (.getfield 87, 3) := by decide +kernel
theorem dX11_number_4 : decode cX11_number 4 = .ok (.ifCond .eq 5, 3) := by decide +kernel
theorem dX11_number_7 : decode cX11_number 7 = .ok (.iconst (-1), 1) := by decide +kernel
theorem dX11_number_8 : decode cX11_number 8 = .ok (.ireturn, 1) := by decide +kernel
theorem dX11_number_9 : decode cX11_number 9 = .ok (.aload_n 0, 1) := by decide +kernel
theorem dX11_number_10 : decode cX11_number 10 = .ok (.getfield 33, 3) := by decide +kernel
theorem dX11_number_13 : decode cX11_number 13 = .ok (.iconst 0, 1) := by decide +kernel
theorem dX11_number_14 : decode cX11_number 14 = .ok (.aload_n 0, 1) := by decide +kernel
theorem dX11_number_15 : decode cX11_number 15 = .ok (.getfield 30, 3) := by decide +kernel
theorem dX11_number_18 : decode cX11_number 18 = .ok (.iconst 0, 1) := by decide +kernel
theorem dX11_number_19 : decode cX11_number 19 = .ok (.invokestatic 94, 3) := by decide +kernel
theorem dX11_number_22 : decode cX11_number 22 = .ok (.aload_n 0, 1) := by decide +kernel
theorem dX11_number_23 : decode cX11_number 23 = .ok (.invokevirtual 212, 3) := by decide +kernel
theorem dX11_number_26 : decode cX11_number 26 = .ok (.ireturn, 1) := by decide +kernel
theorem dX11_used_0 : decode cX11_used 0 = .ok (.iload_n 1, 1) := by decide +kernel
theorem dX11_used_1 : decode cX11_used 1 = .ok (.invokestatic 101, 3) := by decide +kernel
theorem dX11_used_4 : decode cX11_used 4 = .ok (.istore_n 2, 1) := by decide +kernel
theorem dX11_used_5 : decode cX11_used 5 = .ok (.iload_n 2, 1) := by decide +kernel
theorem dX11_used_6 : decode cX11_used 6 = .ok (.ifCond .lt 12, 3) := by decide +kernel
theorem dX11_used_9 : decode cX11_used 9 = .ok (.aload_n 0, 1) := by decide +kernel
theorem dX11_used_10 : decode cX11_used 10 = .ok (.getfield 20, 3) := by decide +kernel
theorem dX11_used_13 : decode cX11_used 13 = .ok (.iload_n 2, 1) := by decide +kernel
theorem dX11_used_14 : decode cX11_used 14 = .ok (.iaload, 1) := by decide +kernel
theorem dX11_used_15 : decode cX11_used 15 = .ok (.ifCond .ge 7, 3) := by decide +kernel
theorem dX11_used_18 : decode cX11_used 18 = .ok (.iconst (-1), 1) := by decide +kernel
theorem dX11_used_19 : decode cX11_used 19 = .ok (.goto 17, 3) := by decide +kernel
theorem dX11_used_22 : decode cX11_used 22 = .ok (.aload_n 0, 1) := by decide +kernel
theorem dX11_used_23 : decode cX11_used 23 = .ok (.getfield 26, 3) := by decide +kernel
theorem dX11_used_26 : decode cX11_used 26 = .ok (.iload_n 2, 1) := by decide +kernel
theorem dX11_used_27 : decode cX11_used 27 = .ok (.baload, 1) := by decide +kernel
theorem dX11_used_28 : decode cX11_used 28 = .ok (.ifCond .eq 7, 3) := by decide +kernel
theorem dX11_used_31 : decode cX11_used 31 = .ok (.iconst 1, 1) := by decide +kernel
theorem dX11_used_32 : decode cX11_used 32 = .ok (.goto 4, 3) := by decide +kernel
theorem dX11_used_35 : decode cX11_used 35 = .ok (.iconst 0, 1) := by decide +kernel
theorem dX11_used_36 : decode cX11_used 36 = .ok (.ireturn, 1) := by decide +kernel
