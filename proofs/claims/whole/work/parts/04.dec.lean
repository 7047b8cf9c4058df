theorem dX8_nameAt_64 : decode cX8_nameAt 64 = .ok (.aload_n 0, 1) := by decide +kernel
theorem dX8_nameAt_65 : decode cX8_nameAt 65 = .ok (.getfield 13, 3) := by decide +kernel
theorem dX8_nameAt_68 : decode cX8_nameAt 68 = .ok (.iload_n 3, 1) := by decide +kernel
theorem dX8_nameAt_69 : decode cX8_nameAt 69 = .ok (.iaload, 1) := by decide +kernel
theorem dX8_nameAt_70 : decode cX8_nameAt 70 = .ok (.iload 5, 2) := by decide +kernel
theorem dX8_nameAt_72 : decode cX8_nameAt 72 = .ok (.iadd, 1) := by decide +kernel
theorem dX8_nameAt_73 : decode cX8_nameAt 73 = .ok (.iaload, 1) := by decide +kernel
theorem dX8_nameAt_74 : decode cX8_nameAt 74 = .ok (.if_icmp .ne 7, 3) := by decide +kernel
theorem dX8_nameAt_77 : decode cX8_nameAt 77 = .ok (.iconst 1, 1) := by decide +kernel
theorem dX8_nameAt_78 : decode cX8_nameAt 78 = .ok (.goto 4, 3) := by decide +kernel
theorem dX8_nameAt_81 : decode cX8_nameAt 81 = .ok (.iconst 0, 1) := by decide +kernel
theorem dX8_nameAt_82 : decode cX8_nameAt 82 = .ok (.istore 4, 2) := by decide +kernel
theorem dX8_nameAt_84 : decode cX8_nameAt 84 = .ok (.iinc 5 1, 3) := by decide +kernel
theorem dX8_nameAt_87 : decode cX8_nameAt 87 = .ok (.goto (-48), 3) := by decide +kernel
theorem dX8_nameAt_90 : decode cX8_nameAt 90 = .ok (.iload 4, 2) := by decide +kernel
theorem dX8_nameAt_92 : decode cX8_nameAt 92 = .ok (.ifCond .eq 5, 3) := by decide +kernel
theorem dX8_nameAt_95 : decode cX8_nameAt 95 = .ok (.iload_n 3, 1) := by decide +kernel
theorem dX8_nameAt_96 : decode cX8_nameAt 96 = .ok (.ireturn, 1) := by decide +kernel
theorem dX8_nameAt_97 : decode cX8_nameAt 97 = .ok (.iinc 3 1, 3) := by decide +kernel
theorem dX8_nameAt_100 : decode cX8_nameAt 100 = .ok (.goto (-98), 3) := by decide +kernel
theorem dX8_nameAt_103 : decode cX8_nameAt 103 = .ok (.bipush (-4), 2) := by decide +kernel
theorem dX8_nameAt_105 : decode cX8_nameAt 105 = .ok (.ireturn, 1) := by decide +kernel
theorem dX8_next_0 : decode cX8_next 0 = .ok (.aload_n 0, 1) := by decide +kernel
theorem dX8_next_1 : decode cX8_next 1 = .ok (.getfield 103, 3) := by decide +kernel
theorem dX8_next_4 : decode cX8_next 4 = .ok (.ifCond .le 4, 3) := by decide +kernel
theorem dX8_next_7 : decode cX8_next 7 = .ok (.return_, 1) := by decide +kernel
theorem dX8_next_8 : decode cX8_next 8 = .ok (.aload_n 0, 1) := by decide +kernel
theorem dX8_next_9 : decode cX8_next 9 = .ok (.aload_n 0, 1) := by decide +kernel
theorem dX8_next_10 : decode cX8_next 10 = .ok (.getfield 116, 3) := by decide +kernel
theorem dX8_next_13 : decode cX8_next 13 = .ok (.invokevirtual 112, 3) := by decide +kernel
theorem dX8_next_16 : decode cX8_next 16 = .ok (.bipush 32, 2) := by decide +kernel
theorem dX8_next_18 : decode cX8_next 18 = .ok (.if_icmp .ne 16, 3) := by decide +kernel
theorem dX8_next_21 : decode cX8_next 21 = .ok (.aload_n 0, 1) := by decide +kernel
theorem dX8_next_22 : decode cX8_next 22 = .ok (.dup, 1) := by decide +kernel
theorem dX8_next_23 : decode cX8_next 23 = .ok (.getfield 116, 3) := by decide +kernel
theorem dX8_next_26 : decode cX8_next 26 = .ok (.iconst 1, 1) := by decide +kernel
theorem dX8_next_27 : decode cX8_next 27 = .ok (.iadd, 1) := by decide +kernel
theorem dX8_next_28 : decode cX8_next 28 = .ok (.putfield 116, 3) := by decide +kernel
theorem dX8_next_31 : decode cX8_next 31 = .ok (.goto (-23), 3) := by decide +kernel
theorem dX8_next_34 : decode cX8_next 34 = .ok (.aload_n 0, 1) := by decide +kernel
theorem dX8_next_35 : decode cX8_next 35 = .ok (.aload_n 0, 1) := by decide +kernel
theorem dX8_next_36 : decode cX8_next 36 = .ok (.getfield 116, 3) := by decide +kernel
theorem dX8_next_39 : decode cX8_next 39 = .ok (.putfield 106, 3) := by decide +kernel
theorem dX8_next_42 : decode cX8_next 42 = .ok (.aload_n 0, 1) := by decide +kernel
theorem dX8_next_43 : decode cX8_next 43 = .ok (.aload_n 0, 1) := by decide +kernel
theorem dX8_next_44 : decode cX8_next 44 = .ok (.getfield 116, 3) := by decide +kernel
theorem dX8_next_47 : decode cX8_next 47 = .ok (.invokevirtual 112, 3) := by decide +kernel
theorem dX8_next_50 : decode cX8_next 50 = .ok (.istore_n 1, 1) := by decide +kernel
theorem dX8_next_51 : decode cX8_next 51 = .ok (.aload_n 0, 1) := by decide +kernel
theorem dX8_next_52 : decode cX8_next 52 = .ok (.iconst 0, 1) := by decide +kernel
theorem dX8_next_53 : decode cX8_next 53 = .ok (.putfield 119, 3) := by decide +kernel
theorem dX8_next_56 : decode cX8_next 56 = .ok (.iload_n 1, 1) := by decide +kernel
theorem dX8_next_57 : decode cX8_next 57 = .ok (.bipush (-4), 2) := by decide +kernel
theorem dX8_next_59 : decode cX8_next 59 = .ok (.if_icmp .ne 11, 3) := by decide +kernel
theorem dX8_next_62 : decode cX8_next 62 = .ok (.aload_n 0, 1) := by decide +kernel
theorem dX8_next_63 : decode cX8_next 63 = .ok (.iconst 0, 1) := by decide +kernel
theorem dX8_next_64 : decode cX8_next 64 = .ok (.putfield 122, 3) := by decide +kernel
theorem dX8_next_67 : decode cX8_next 67 = .ok (.goto 232, 3) := by decide +kernel
theorem dX8_next_70 : decode cX8_next 70 = .ok (.iload_n 1, 1) := by decide +kernel
theorem dX8_next_71 : decode cX8_next 71 = .ok (.i2l, 1) := by decide +kernel
theorem dX8_next_72 : decode cX8_next 72 = .ok (.ldc2_w 125, 3) := by decide +kernel
theorem dX8_next_75 : decode cX8_next 75 = .ok (.ldc2_w 127, 3) := by decide +kernel
theorem dX8_next_78 : decode cX8_next 78 = .ok (.invokestatic 99, 3) := by decide +kernel
theorem dX8_next_81 : decode cX8_next 81 = .ok (.ifCond .eq 75, 3) := by decide +kernel
theorem dX8_next_84 : decode cX8_next 84 = .ok (.aload_n 0, 1) := by decide +kernel
theorem dX8_next_85 : decode cX8_next 85 = .ok (.aload_n 0, 1) := by decide +kernel
theorem dX8_next_86 : decode cX8_next 86 = .ok (.getfield 116, 3) := by decide +kernel
theorem dX8_next_89 : decode cX8_next 89 = .ok (.invokevirtual 112, 3) := by decide +kernel
theorem dX8_next_92 : decode cX8_next 92 = .ok (.i2l, 1) := by decide +kernel
theorem dX8_next_93 : decode cX8_next 93 = .ok (.ldc2_w 125, 3) := by decide +kernel
theorem dX8_next_96 : decode cX8_next 96 = .ok (.ldc2_w 127, 3) := by decide +kernel
theorem dX8_next_99 : decode cX8_next 99 = .ok (.invokestatic 99, 3) := by decide +kernel
theorem dX8_next_102 : decode cX8_next 102 = .ok (.ifCond .eq 16, 3) := by decide +kernel
theorem dX8_next_105 : decode cX8_next 105 = .ok (.aload_n 0, 1) := by decide +kernel
theorem dX8_next_106 : decode cX8_next 106 = .ok (.dup, 1) := by decide +kernel
theorem dX8_next_107 : decode cX8_next 107 = .ok (.getfield 116, 3) := by decide +kernel
theorem dX8_next_110 : decode cX8_next 110 = .ok (.iconst 1, 1) := by decide +kernel
theorem dX8_next_111 : decode cX8_next 111 = .ok (.iadd, 1) := by decide +kernel
theorem dX8_next_112 : decode cX8_next 112 = .ok (.putfield 116, 3) := by decide +kernel
theorem dX8_next_115 : decode cX8_next 115 = .ok (.goto (-31), 3) := by decide +kernel
theorem dX8_next_118 : decode cX8_next 118 = .ok (.aload_n 0, 1) := by decide +kernel
theorem dX8_next_119 : decode cX8_next 119 = .ok (.iconst 1, 1) := by decide +kernel
theorem dX8_next_120 : decode cX8_next 120 = .ok (.putfield 122, 3) := by decide +kernel
theorem dX8_next_123 : decode cX8_next 123 = .ok (.aload_n 0, 1) := by decide +kernel
theorem dX8_next_124 : decode cX8_next 124 = .ok (.aload_n 0, 1) := by decide +kernel
theorem dX8_next_125 : decode cX8_next 125 = .ok (.aload_n 0, 1) := by decide +kernel
theorem dX8_next_126 : decode cX8_next 126 = .ok (.getfield 106, 3) := by decide +kernel
theorem dX8_next_129 : decode cX8_next 129 = .ok (.aload_n 0, 1) := by decide +kernel
theorem dX8_next_130 : decode cX8_next 130 = .ok (.getfield 116, 3) := by decide +kernel
theorem dX8_next_133 : decode cX8_next 133 = .ok (.invokevirtual 129, 3) := by decide +kernel
theorem dX8_next_136 : decode cX8_next 136 = .ok (.putfield 119, 3) := by decide +kernel
theorem dX8_next_139 : decode cX8_next 139 = .ok (.aload_n 0, 1) := by decide +kernel
theorem dX8_next_140 : decode cX8_next 140 = .ok (.getfield 119, 3) := by decide +kernel
theorem dX8_next_143 : decode cX8_next 143 = .ok (.bipush (-4), 2) := by decide +kernel
theorem dX8_next_145 : decode cX8_next 145 = .ok (.if_icmp .ne 154, 3) := by decide +kernel
theorem dX8_next_148 : decode cX8_next 148 = .ok (.aload_n 0, 1) := by decide +kernel
theorem dX8_next_149 : decode cX8_next 149 = .ok (.iconst 1, 1) := by decide +kernel
theorem dX8_next_150 : decode cX8_next 150 = .ok (.invokevirtual 133, 3) := by decide +kernel
theorem dX8_next_153 : decode cX8_next 153 = .ok (.goto 146, 3) := by decide +kernel
theorem dX8_next_156 : decode cX8_next 156 = .ok (.iload_n 1, 1) := by decide +kernel
theorem dX8_next_157 : decode cX8_next 157 = .ok (.i2l, 1) := by decide +kernel
theorem dX8_next_158 : decode cX8_next 158 = .ok (.ldc2_w 137, 3) := by decide +kernel
theorem dX8_next_161 : decode cX8_next 161 = .ok (.ldc2_w 139, 3) := by decide +kernel
theorem dX8_next_164 : decode cX8_next 164 = .ok (.invokestatic 99, 3) := by decide +kernel
theorem dX8_next_167 : decode cX8_next 167 = .ok (.ifCond .eq 106, 3) := by decide +kernel
theorem dX8_next_170 : decode cX8_next 170 = .ok (.aload_n 0, 1) := by decide +kernel
theorem dX8_next_171 : decode cX8_next 171 = .ok (.aload_n 0, 1) := by decide +kernel
theorem dX8_next_172 : decode cX8_next 172 = .ok (.getfield 116, 3) := by decide +kernel
theorem dX8_next_175 : decode cX8_next 175 = .ok (.invokevirtual 112, 3) := by decide +kernel
theorem dX8_next_178 : decode cX8_next 178 = .ok (.i2l, 1) := by decide +kernel
theorem dX8_next_179 : decode cX8_next 179 = .ok (.ldc2_w 137, 3) := by decide +kernel
theorem dX8_next_182 : decode cX8_next 182 = .ok (.ldc2_w 139, 3) := by decide +kernel
theorem dX8_next_185 : decode cX8_next 185 = .ok (.invokestatic 99, 3) := by decide +kernel
theorem dX8_next_188 : decode cX8_next 188 = .ok (.ifCond .eq 59, 3) := by decide +kernel
theorem dX8_next_191 : decode cX8_next 191 = .ok (.aload_n 0, 1) := by decide +kernel
theorem dX8_next_192 : decode cX8_next 192 = .ok (.aload_n 0, 1) := by decide +kernel
theorem dX8_next_193 : decode cX8_next 193 = .ok (.getfield 116, 3) := by decide +kernel
theorem dX8_next_196 : decode cX8_next 196 = .ok (.aload_n 0, 1) := by decide +kernel
theorem dX8_next_197 : decode cX8_next 197 = .ok (.getfield 106, 3) := by decide +kernel
theorem dX8_next_200 : decode cX8_next 200 = .ok (.isub, 1) := by decide +kernel
theorem dX8_next_201 : decode cX8_next 201 = .ok (.iconst 2, 1) := by decide +kernel
theorem dX8_next_202 : decode cX8_next 202 = .ok (.if_icmp .ge 25, 3) := by decide +kernel
theorem dX8_next_205 : decode cX8_next 205 = .ok (.bipush 10, 2) := by decide +kernel
theorem dX8_next_207 : decode cX8_next 207 = .ok (.aload_n 0, 1) := by decide +kernel
theorem dX8_next_208 : decode cX8_next 208 = .ok (.getfield 119, 3) := by decide +kernel
theorem dX8_next_211 : decode cX8_next 211 = .ok (.imul, 1) := by decide +kernel
theorem dX8_next_212 : decode cX8_next 212 = .ok (.aload_n 0, 1) := by decide +kernel
theorem dX8_next_213 : decode cX8_next 213 = .ok (.aload_n 0, 1) := by decide +kernel
theorem dX8_next_214 : decode cX8_next 214 = .ok (.getfield 116, 3) := by decide +kernel
theorem dX8_next_217 : decode cX8_next 217 = .ok (.invokevirtual 112, 3) := by decide +kernel
theorem dX8_next_220 : decode cX8_next 220 = .ok (.iadd, 1) := by decide +kernel
theorem dX8_next_221 : decode cX8_next 221 = .ok (.bipush 48, 2) := by decide +kernel
theorem dX8_next_223 : decode cX8_next 223 = .ok (.isub, 1) := by decide +kernel
theorem dX8_next_224 : decode cX8_next 224 = .ok (.goto 7, 3) := by decide +kernel
theorem dX8_next_227 : decode cX8_next 227 = .ok (.aload_n 0, 1) := by decide +kernel
theorem dX8_next_228 : decode cX8_next 228 = .ok (.getfield 119, 3) := by decide +kernel
theorem dX8_next_231 : decode cX8_next 231 = .ok (.putfield 119, 3) := by decide +kernel
theorem dX8_next_234 : decode cX8_next 234 = .ok (.aload_n 0, 1) := by decide +kernel
theorem dX8_next_235 : decode cX8_next 235 = .ok (.dup, 1) := by decide +kernel
theorem dX8_next_236 : decode cX8_next 236 = .ok (.getfield 116, 3) := by decide +kernel
theorem dX8_next_239 : decode cX8_next 239 = .ok (.iconst 1, 1) := by decide +kernel
theorem dX8_next_240 : decode cX8_next 240 = .ok (.iadd, 1) := by decide +kernel
theorem dX8_next_241 : decode cX8_next 241 = .ok (.putfield 116, 3) := by decide +kernel
theorem dX8_next_244 : decode cX8_next 244 = .ok (.goto (-74), 3) := by decide +kernel
theorem dX8_next_247 : decode cX8_next 247 = .ok (.aload_n 0, 1) := by decide +kernel
theorem dX8_next_248 : decode cX8_next 248 = .ok (.iconst 2, 1) := by decide +kernel
theorem dX8_next_249 : decode cX8_next 249 = .ok (.putfield 122, 3) := by decide +kernel
theorem dX8_next_252 : decode cX8_next 252 = .ok (.aload_n 0, 1) := by decide +kernel
theorem dX8_next_253 : decode cX8_next 253 = .ok (.getfield 116, 3) := by decide +kernel
theorem dX8_next_256 : decode cX8_next 256 = .ok (.aload_n 0, 1) := by decide +kernel
theorem dX8_next_257 : decode cX8_next 257 = .ok (.getfield 106, 3) := by decide +kernel
theorem dX8_next_260 : decode cX8_next 260 = .ok (.isub, 1) := by decide +kernel
theorem dX8_next_261 : decode cX8_next 261 = .ok (.iconst 2, 1) := by decide +kernel
theorem dX8_next_262 : decode cX8_next 262 = .ok (.if_icmp .le 37, 3) := by decide +kernel
theorem dX8_next_265 : decode cX8_next 265 = .ok (.aload_n 0, 1) := by decide +kernel
theorem dX8_next_266 : decode cX8_next 266 = .ok (.iconst 1, 1) := by decide +kernel
theorem dX8_next_267 : decode cX8_next 267 = .ok (.invokevirtual 133, 3) := by decide +kernel
theorem dX8_next_270 : decode cX8_next 270 = .ok (.goto 29, 3) := by decide +kernel
theorem dX8_next_273 : decode cX8_next 273 = .ok (.aload_n 0, 1) := by decide +kernel
theorem dX8_next_274 : decode cX8_next 274 = .ok (.iconst 3, 1) := by decide +kernel
theorem dX8_next_275 : decode cX8_next 275 = .ok (.putfield 122, 3) := by decide +kernel
theorem dX8_next_278 : decode cX8_next 278 = .ok (.aload_n 0, 1) := by decide +kernel
theorem dX8_next_279 : decode cX8_next 279 = .ok (.dup, 1) := by decide +kernel
theorem dX8_next_280 : decode cX8_next 280 = .ok (.getfield 116, 3) := by decide +kernel
theorem dX8_next_283 : decode cX8_next 283 = .ok (.iconst 1, 1) := by decide +kernel
theorem dX8_next_284 : decode cX8_next 284 = .ok (.iadd, 1) := by decide +kernel
theorem dX8_next_285 : decode cX8_next 285 = .ok (.putfield 116, 3) := by decide +kernel
theorem dX8_next_288 : decode cX8_next 288 = .ok (.iload_n 1, 1) := by decide +kernel
theorem dX8_next_289 : decode cX8_next 289 = .ok (.bipush 59, 2) := by decide +kernel
theorem dX8_next_291 : decode cX8_next 291 = .ok (.if_icmp .eq 8, 3) := by decide +kernel
theorem dX8_next_294 : decode cX8_next 294 = .ok (.aload_n 0, 1) := by decide +kernel
theorem dX8_next_295 : decode cX8_next 295 = .ok (.iconst 1, 1) := by decide +kernel
theorem dX8_next_296 : decode cX8_next 296 = .ok (.invokevirtual 133, 3) := by decide +kernel
theorem dX8_next_299 : decode cX8_next 299 = .ok (.return_, 1) := by decide +kernel
theorem dX8_number_0 : decode cX8_number 0 = .ok (.aload_n 0, 1) := by decide +kernel
theorem dX8_number_1 : decode cX8_number 1 = .ok (.getfield 103, 3) := by decide +kernel
theorem dX8_number_4 : decode cX8_number 4 = .ok (.ifCond .ne 16, 3) := by decide +kernel
theorem dX8_number_7 : decode cX8_number 7 = .ok (.aload_n 0, 1) := by decide +kernel
theorem dX8_number_8 : decode cX8_number 8 = .ok (.getfield 122, 3) := by decide +kernel
theorem dX8_number_11 : decode cX8_number 11 = .ok (.iconst 2, 1) := by decide +kernel
theorem dX8_number_12 : decode cX8_number 12 = .ok (.if_icmp .eq 8, 3) := by decide +kernel
theorem dX8_number_15 : decode cX8_number 15 = .ok (.aload_n 0, 1) := by decide +kernel
theorem dX8_number_16 : decode cX8_number 16 = .ok (.iconst 2, 1) := by decide +kernel
theorem dX8_number_17 : decode cX8_number 17 = .ok (.invokevirtual 133, 3) := by decide +kernel
theorem dX8_number_20 : decode cX8_number 20 = .ok (.aload_n 0, 1) := by decide +kernel
theorem dX8_number_21 : decode cX8_number 21 = .ok (.getfield 103, 3) := by decide +kernel
theorem dX8_number_24 : decode cX8_number 24 = .ok (.ifCond .ne 23, 3) := by decide +kernel
theorem dX8_number_27 : decode cX8_number 27 = .ok (.aload_n 0, 1) := by decide +kernel
theorem dX8_number_28 : decode cX8_number 28 = .ok (.getfield 119, 3) := by decide +kernel
theorem dX8_number_31 : decode cX8_number 31 = .ok (.i2l, 1) := by decide +kernel
theorem dX8_number_32 : decode cX8_number 32 = .ok (.iload_n 1, 1) := by decide +kernel
theorem dX8_number_33 : decode cX8_number 33 = .ok (.i2l, 1) := by decide +kernel
theorem dX8_number_34 : decode cX8_number 34 = .ok (.iload_n 2, 1) := by decide +kernel
theorem dX8_number_35 : decode cX8_number 35 = .ok (.i2l, 1) := by decide +kernel
theorem dX8_number_36 : decode cX8_number 36 = .ok (.invokestatic 99, 3) := by decide +kernel
theorem dX8_number_39 : decode cX8_number 39 = .ok (.ifCond .ne 8, 3) := by decide +kernel
theorem dX8_number_42 : decode cX8_number 42 = .ok (.aload_n 0, 1) := by decide +kernel
theorem dX8_number_43 : decode cX8_number 43 = .ok (.iconst 3, 1) := by decide +kernel
theorem dX8_number_44 : decode cX8_number 44 = .ok (.invokevirtual 133, 3) := by decide +kernel
theorem dX8_number_47 : decode cX8_number 47 = .ok (.aload_n 0, 1) := by decide +kernel
theorem dX8_number_48 : decode cX8_number 48 = .ok (.getfield 103, 3) := by decide +kernel
theorem dX8_number_51 : decode cX8_number 51 = .ok (.ifCond .ne 10, 3) := by decide +kernel
theorem dX8_number_54 : decode cX8_number 54 = .ok (.aload_n 0, 1) := by decide +kernel
theorem dX8_number_55 : decode cX8_number 55 = .ok (.getfield 119, 3) := by decide +kernel
theorem dX8_number_58 : decode cX8_number 58 = .ok (.goto 4, 3) := by decide +kernel
theorem dX8_number_61 : decode cX8_number 61 = .ok (.iload_n 1, 1) := by decide +kernel
theorem dX8_number_62 : decode cX8_number 62 = .ok (.ireturn, 1) := by decide +kernel
theorem dX8_readPoint_0 : decode cX8_readPoint 0 = .ok (.aload_n 0, 1) := by decide +kernel
theorem dX8_readPoint_1 : decode cX8_readPoint 1 = .ok (.invokevirtual 141, 3) := by decide +kernel
theorem dX8_readPoint_4 : decode cX8_readPoint 4 = .ok (.aload_n 0, 1) := by decide +kernel
theorem dX8_readPoint_5 : decode cX8_readPoint 5 = .ok (.iconst 0, 1) := by decide +kernel
theorem dX8_readPoint_6 : decode cX8_readPoint 6 = .ok (.bipush 15, 2) := by decide +kernel
theorem dX8_readPoint_8 : decode cX8_readPoint 8 = .ok (.invokevirtual 144, 3) := by decide +kernel
theorem dX8_readPoint_11 : decode cX8_readPoint 11 = .ok (.istore_n 2, 1) := by decide +kernel
theorem dX8_readPoint_12 : decode cX8_readPoint 12 = .ok (.iload_n 1, 1) := by decide +kernel
theorem dX8_readPoint_13 : decode cX8_readPoint 13 = .ok (.bipush 11, 2) := by decide +kernel
theorem dX8_readPoint_15 : decode cX8_readPoint 15 = .ok (.if_icmp .ne 13, 3) := by decide +kernel
theorem dX8_readPoint_18 : decode cX8_readPoint 18 = .ok (.aload_n 0, 1) := by decide +kernel
theorem dX8_readPoint_19 : decode cX8_readPoint 19 = .ok (.getfield 31, 3) := by decide +kernel
theorem dX8_readPoint_22 : decode cX8_readPoint 22 = .ok (.bipush 11, 2) := by decide +kernel
theorem dX8_readPoint_24 : decode cX8_readPoint 24 = .ok (.iaload, 1) := by decide +kernel
theorem dX8_readPoint_25 : decode cX8_readPoint 25 = .ok (.goto 7, 3) := by decide +kernel
theorem dX8_readPoint_28 : decode cX8_readPoint 28 = .ok (.aload_n 0, 1) := by decide +kernel
theorem dX8_readPoint_29 : decode cX8_readPoint 29 = .ok (.getfield 147, 3) := by decide +kernel
theorem dX8_readPoint_32 : decode cX8_readPoint 32 = .ok (.istore_n 3, 1) := by decide +kernel
theorem dX8_readPoint_33 : decode cX8_readPoint 33 = .ok (.aload_n 0, 1) := by decide +kernel
theorem dX8_readPoint_34 : decode cX8_readPoint 34 = .ok (.getfield 103, 3) := by decide +kernel
theorem dX8_readPoint_37 : decode cX8_readPoint 37 = .ok (.ifCond .ne 17, 3) := by decide +kernel
theorem dX8_readPoint_40 : decode cX8_readPoint 40 = .ok (.iload_n 3, 1) := by decide +kernel
theorem dX8_readPoint_41 : decode cX8_readPoint 41 = .ok (.iload_n 2, 1) := by decide +kernel
theorem dX8_readPoint_42 : decode cX8_readPoint 42 = .ok (.ishr, 1) := by decide +kernel
theorem dX8_readPoint_43 : decode cX8_readPoint 43 = .ok (.iconst 1, 1) := by decide +kernel
theorem dX8_readPoint_44 : decode cX8_readPoint 44 = .ok (.iand, 1) := by decide +kernel
theorem dX8_readPoint_45 : decode cX8_readPoint 45 = .ok (.iconst 1, 1) := by decide +kernel
theorem dX8_readPoint_46 : decode cX8_readPoint 46 = .ok (.if_icmp .ne 8, 3) := by decide +kernel
theorem dX8_readPoint_49 : decode cX8_readPoint 49 = .ok (.aload_n 0, 1) := by decide +kernel
theorem dX8_readPoint_50 : decode cX8_readPoint 50 = .ok (.iconst 4, 1) := by decide +kernel
theorem dX8_readPoint_51 : decode cX8_readPoint 51 = .ok (.invokevirtual 133, 3) := by decide +kernel
theorem dX8_readPoint_54 : decode cX8_readPoint 54 = .ok (.iload_n 1, 1) := by decide +kernel
theorem dX8_readPoint_55 : decode cX8_readPoint 55 = .ok (.bipush 11, 2) := by decide +kernel
theorem dX8_readPoint_57 : decode cX8_readPoint 57 = .ok (.if_icmp .ne 30, 3) := by decide +kernel
theorem dX8_readPoint_60 : decode cX8_readPoint 60 = .ok (.aload_n 0, 1) := by decide +kernel
theorem dX8_readPoint_61 : decode cX8_readPoint 61 = .ok (.getfield 31, 3) := by decide +kernel
theorem dX8_readPoint_64 : decode cX8_readPoint 64 = .ok (.bipush 11, 2) := by decide +kernel
theorem dX8_readPoint_66 : decode cX8_readPoint 66 = .ok (.dup2, 1) := by decide +kernel
theorem dX8_readPoint_67 : decode cX8_readPoint 67 = .ok (.iaload, 1) := by decide +kernel
theorem dX8_readPoint_68 : decode cX8_readPoint 68 = .ok (.aload_n 0, 1) := by decide +kernel
theorem dX8_readPoint_69 : decode cX8_readPoint 69 = .ok (.getfield 103, 3) := by decide +kernel
theorem dX8_readPoint_72 : decode cX8_readPoint 72 = .ok (.ifCond .ne 9, 3) := by decide +kernel
theorem dX8_readPoint_75 : decode cX8_readPoint 75 = .ok (.iconst 1, 1) := by decide +kernel
theorem dX8_readPoint_76 : decode cX8_readPoint 76 = .ok (.iload_n 2, 1) := by decide +kernel
theorem dX8_readPoint_77 : decode cX8_readPoint 77 = .ok (.ishl, 1) := by decide +kernel
theorem dX8_readPoint_78 : decode cX8_readPoint 78 = .ok (.goto 4, 3) := by decide +kernel
theorem dX8_readPoint_81 : decode cX8_readPoint 81 = .ok (.iconst 0, 1) := by decide +kernel
theorem dX8_readPoint_82 : decode cX8_readPoint 82 = .ok (.ior, 1) := by decide +kernel
theorem dX8_readPoint_83 : decode cX8_readPoint 83 = .ok (.iastore, 1) := by decide +kernel
theorem dX8_readPoint_84 : decode cX8_readPoint 84 = .ok (.goto 35, 3) := by decide +kernel
theorem dX8_readPoint_87 : decode cX8_readPoint 87 = .ok (.aload_n 0, 1) := by decide +kernel
theorem dX8_readPoint_88 : decode cX8_readPoint 88 = .ok (.dup, 1) := by decide +kernel
theorem dX8_readPoint_89 : decode cX8_readPoint 89 = .ok (.getfield 147, 3) := by decide +kernel
theorem dX8_readPoint_92 : decode cX8_readPoint 92 = .ok (.iconst 1, 1) := by decide +kernel
theorem dX8_readPoint_93 : decode cX8_readPoint 93 = .ok (.iload_n 2, 1) := by decide +kernel
theorem dX8_readPoint_94 : decode cX8_readPoint 94 = .ok (.ishl, 1) := by decide +kernel
theorem dX8_readPoint_95 : decode cX8_readPoint 95 = .ok (.ior, 1) := by decide +kernel
theorem dX8_readPoint_96 : decode cX8_readPoint 96 = .ok (.putfield 147, 3) := by decide +kernel
theorem dX8_readPoint_99 : decode cX8_readPoint 99 = .ok (.aload_n 0, 1) := by decide +kernel
theorem dX8_readPoint_100 : decode cX8_readPoint 100 = .ok (.invokevirtual 141, 3) := by decide +kernel
theorem dX8_readPoint_103 : decode cX8_readPoint 103 = .ok (.aload_n 0, 1) := by decide +kernel
theorem dX8_readPoint_104 : decode cX8_readPoint 104 = .ok (.getfield 31, 3) := by decide +kernel
theorem dX8_readPoint_107 : decode cX8_readPoint 107 = .ok (.bipush 12, 2) := by decide +kernel
theorem dX8_readPoint_109 : decode cX8_readPoint 109 = .ok (.iload_n 2, 1) := by decide +kernel
theorem dX8_readPoint_110 : decode cX8_readPoint 110 = .ok (.iadd, 1) := by decide +kernel
theorem dX8_readPoint_111 : decode cX8_readPoint 111 = .ok (.aload_n 0, 1) := by decide +kernel
theorem dX8_readPoint_112 : decode cX8_readPoint 112 = .ok (.iconst 1, 1) := by decide +kernel
theorem dX8_readPoint_113 : decode cX8_readPoint 113 = .ok (.bipush 9, 2) := by decide +kernel
theorem dX8_readPoint_115 : decode cX8_readPoint 115 = .ok (.invokevirtual 144, 3) := by decide +kernel
theorem dX8_readPoint_118 : decode cX8_readPoint 118 = .ok (.iastore, 1) := by decide +kernel
theorem dX8_readPoint_119 : decode cX8_readPoint 119 = .ok (.aload_n 0, 1) := by decide +kernel
theorem dX8_readPoint_120 : decode cX8_readPoint 120 = .ok (.invokevirtual 141, 3) := by decide +kernel
theorem dX8_readPoint_123 : decode cX8_readPoint 123 = .ok (.return_, 1) := by decide +kernel
theorem dX8_readLine_0 : decode cX8_readLine 0 = .ok (.aload_n 0, 1) := by decide +kernel
theorem dX8_readLine_1 : decode cX8_readLine 1 = .ok (.getfield 119, 3) := by decide +kernel
theorem dX8_readLine_4 : decode cX8_readLine 4 = .ok (.istore_n 1, 1) := by decide +kernel
theorem dX8_readLine_5 : decode cX8_readLine 5 = .ok (.aload_n 0, 1) := by decide +kernel
theorem dX8_readLine_6 : decode cX8_readLine 6 = .ok (.getfield 122, 3) := by decide +kernel
theorem dX8_readLine_9 : decode cX8_readLine 9 = .ok (.iconst 1, 1) := by decide +kernel
theorem dX8_readLine_10 : decode cX8_readLine 10 = .ok (.if_icmp .ne 9, 3) := by decide +kernel
theorem dX8_readLine_13 : decode cX8_readLine 13 = .ok (.iload_n 1, 1) := by decide +kernel
theorem dX8_readLine_14 : decode cX8_readLine 14 = .ok (.bipush 13, 2) := by decide +kernel
theorem dX8_readLine_16 : decode cX8_readLine 16 = .ok (.if_icmp .lt 9, 3) := by decide +kernel
theorem dX8_readLine_19 : decode cX8_readLine 19 = .ok (.aload_n 0, 1) := by decide +kernel
theorem dX8_readLine_20 : decode cX8_readLine 20 = .ok (.iconst 2, 1) := by decide +kernel
theorem dX8_readLine_21 : decode cX8_readLine 21 = .ok (.invokevirtual 133, 3) := by decide +kernel
theorem dX8_readLine_24 : decode cX8_readLine 24 = .ok (.return_, 1) := by decide +kernel
theorem dX8_readLine_25 : decode cX8_readLine 25 = .ok (.iload_n 1, 1) := by decide +kernel
theorem dX8_readLine_26 : decode cX8_readLine 26 = .ok (.bipush 11, 2) := by decide +kernel
theorem dX8_readLine_28 : decode cX8_readLine 28 = .ok (.if_icmp .lt 11, 3) := by decide +kernel
theorem dX8_readLine_31 : decode cX8_readLine 31 = .ok (.aload_n 0, 1) := by decide +kernel
theorem dX8_readLine_32 : decode cX8_readLine 32 = .ok (.iload_n 1, 1) := by decide +kernel
theorem dX8_readLine_33 : decode cX8_readLine 33 = .ok (.invokevirtual 150, 3) := by decide +kernel
theorem dX8_readLine_36 : decode cX8_readLine 36 = .ok (.goto 141, 3) := by decide +kernel
theorem dX8_readLine_39 : decode cX8_readLine 39 = .ok (.aload_n 0, 1) := by decide +kernel
theorem dX8_readLine_40 : decode cX8_readLine 40 = .ok (.getfield 153, 3) := by decide +kernel
theorem dX8_readLine_43 : decode cX8_readLine 43 = .ok (.iload_n 1, 1) := by decide +kernel
theorem dX8_readLine_44 : decode cX8_readLine 44 = .ok (.ishr, 1) := by decide +kernel
theorem dX8_readLine_45 : decode cX8_readLine 45 = .ok (.iconst 1, 1) := by decide +kernel
theorem dX8_readLine_46 : decode cX8_readLine 46 = .ok (.iand, 1) := by decide +kernel
theorem dX8_readLine_47 : decode cX8_readLine 47 = .ok (.iconst 1, 1) := by decide +kernel
theorem dX8_readLine_48 : decode cX8_readLine 48 = .ok (.if_icmp .ne 8, 3) := by decide +kernel
theorem dX8_readLine_51 : decode cX8_readLine 51 = .ok (.aload_n 0, 1) := by decide +kernel
theorem dX8_readLine_52 : decode cX8_readLine 52 = .ok (.iconst 4, 1) := by decide +kernel
theorem dX8_readLine_53 : decode cX8_readLine 53 = .ok (.invokevirtual 133, 3) := by decide +kernel
theorem dX8_readLine_56 : decode cX8_readLine 56 = .ok (.aload_n 0, 1) := by decide +kernel
theorem dX8_readLine_57 : decode cX8_readLine 57 = .ok (.dup, 1) := by decide +kernel
theorem dX8_readLine_58 : decode cX8_readLine 58 = .ok (.getfield 153, 3) := by decide +kernel
theorem dX8_readLine_61 : decode cX8_readLine 61 = .ok (.iconst 1, 1) := by decide +kernel
theorem dX8_readLine_62 : decode cX8_readLine 62 = .ok (.iload_n 1, 1) := by decide +kernel
theorem dX8_readLine_63 : decode cX8_readLine 63 = .ok (.ishl, 1) := by decide +kernel
theorem dX8_readLine_64 : decode cX8_readLine 64 = .ok (.ior, 1) := by decide +kernel
theorem dX8_readLine_65 : decode cX8_readLine 65 = .ok (.putfield 153, 3) := by decide +kernel
theorem dX8_readLine_68 : decode cX8_readLine 68 = .ok (.aload_n 0, 1) := by decide +kernel
theorem dX8_readLine_69 : decode cX8_readLine 69 = .ok (.invokevirtual 141, 3) := by decide +kernel
theorem dX8_readLine_72 : decode cX8_readLine 72 = .ok (.iload_n 1, 1) := by decide +kernel
theorem dX8_readLine_73 : decode cX8_readLine 73 = .ok (.ifCond .ne 63, 3) := by decide +kernel
theorem dX8_readLine_76 : decode cX8_readLine 76 = .ok (.aload_n 0, 1) := by decide +kernel
theorem dX8_readLine_77 : decode cX8_readLine 77 = .ok (.getfield 103, 3) := by decide +kernel
theorem dX8_readLine_80 : decode cX8_readLine 80 = .ok (.ifCond .ne 25, 3) := by decide +kernel
theorem dX8_readLine_83 : decode cX8_readLine 83 = .ok (.aload_n 0, 1) := by decide +kernel
theorem dX8_readLine_84 : decode cX8_readLine 84 = .ok (.getfield 122, 3) := by decide +kernel
theorem dX8_readLine_87 : decode cX8_readLine 87 = .ok (.iconst 1, 1) := by decide +kernel
theorem dX8_readLine_88 : decode cX8_readLine 88 = .ok (.if_icmp .ne 12, 3) := by decide +kernel
theorem dX8_readLine_91 : decode cX8_readLine 91 = .ok (.aload_n 0, 1) := by decide +kernel
theorem dX8_readLine_92 : decode cX8_readLine 92 = .ok (.getfield 119, 3) := by decide +kernel
theorem dX8_readLine_95 : decode cX8_readLine 95 = .ok (.bipush 13, 2) := by decide +kernel
theorem dX8_readLine_97 : decode cX8_readLine 97 = .ok (.if_icmp .ge 8, 3) := by decide +kernel
theorem dX8_readLine_100 : decode cX8_readLine 100 = .ok (.aload_n 0, 1) := by decide +kernel
theorem dX8_readLine_101 : decode cX8_readLine 101 = .ok (.iconst 2, 1) := by decide +kernel
theorem dX8_readLine_102 : decode cX8_readLine 102 = .ok (.invokevirtual 133, 3) := by decide +kernel
theorem dX8_readLine_105 : decode cX8_readLine 105 = .ok (.aload_n 0, 1) := by decide +kernel
theorem dX8_readLine_106 : decode cX8_readLine 106 = .ok (.getfield 31, 3) := by decide +kernel
theorem dX8_readLine_109 : decode cX8_readLine 109 = .ok (.iconst 0, 1) := by decide +kernel
theorem dX8_readLine_110 : decode cX8_readLine 110 = .ok (.aload_n 0, 1) := by decide +kernel
theorem dX8_readLine_111 : decode cX8_readLine 111 = .ok (.getfield 103, 3) := by decide +kernel
theorem dX8_readLine_114 : decode cX8_readLine 114 = .ok (.ifCond .ne 13, 3) := by decide +kernel
theorem dX8_readLine_117 : decode cX8_readLine 117 = .ok (.aload_n 0, 1) := by decide +kernel
theorem dX8_readLine_118 : decode cX8_readLine 118 = .ok (.getfield 119, 3) := by decide +kernel
theorem dX8_readLine_121 : decode cX8_readLine 121 = .ok (.bipush 13, 2) := by decide +kernel
theorem dX8_readLine_123 : decode cX8_readLine 123 = .ok (.isub, 1) := by decide +kernel
theorem dX8_readLine_124 : decode cX8_readLine 124 = .ok (.goto 4, 3) := by decide +kernel
theorem dX8_readLine_127 : decode cX8_readLine 127 = .ok (.iconst 0, 1) := by decide +kernel
theorem dX8_readLine_128 : decode cX8_readLine 128 = .ok (.iastore, 1) := by decide +kernel
theorem dX8_readLine_129 : decode cX8_readLine 129 = .ok (.aload_n 0, 1) := by decide +kernel
theorem dX8_readLine_130 : decode cX8_readLine 130 = .ok (.invokevirtual 141, 3) := by decide +kernel
theorem dX8_readLine_133 : decode cX8_readLine 133 = .ok (.goto 44, 3) := by decide +kernel
theorem dX8_readLine_136 : decode cX8_readLine 136 = .ok (.iload_n 1, 1) := by decide +kernel
theorem dX8_readLine_137 : decode cX8_readLine 137 = .ok (.iconst 5, 1) := by decide +kernel
theorem dX8_readLine_138 : decode cX8_readLine 138 = .ok (.if_icmp .ne 13, 3) := by decide +kernel
theorem dX8_readLine_141 : decode cX8_readLine 141 = .ok (.aload_n 0, 1) := by decide +kernel
theorem dX8_readLine_142 : decode cX8_readLine 142 = .ok (.getfield 31, 3) := by decide +kernel
theorem dX8_readLine_145 : decode cX8_readLine 145 = .ok (.iconst 5, 1) := by decide +kernel
theorem dX8_readLine_146 : decode cX8_readLine 146 = .ok (.iconst 1, 1) := by decide +kernel
theorem dX8_readLine_147 : decode cX8_readLine 147 = .ok (.iastore, 1) := by decide +kernel
theorem dX8_readLine_148 : decode cX8_readLine 148 = .ok (.goto 29, 3) := by decide +kernel
theorem dX8_readLine_151 : decode cX8_readLine 151 = .ok (.aload_n 0, 1) := by decide +kernel
theorem dX8_readLine_152 : decode cX8_readLine 152 = .ok (.getfield 31, 3) := by decide +kernel
theorem dX8_readLine_155 : decode cX8_readLine 155 = .ok (.iload_n 1, 1) := by decide +kernel
theorem dX8_readLine_156 : decode cX8_readLine 156 = .ok (.aload_n 0, 1) := by decide +kernel
theorem dX8_readLine_157 : decode cX8_readLine 157 = .ok (.aload_n 0, 1) := by decide +kernel
theorem dX8_readLine_158 : decode cX8_readLine 158 = .ok (.getfield 22, 3) := by decide +kernel
theorem dX8_readLine_161 : decode cX8_readLine 161 = .ok (.iload_n 1, 1) := by decide +kernel
theorem dX8_readLine_162 : decode cX8_readLine 162 = .ok (.iaload, 1) := by decide +kernel
theorem dX8_readLine_163 : decode cX8_readLine 163 = .ok (.aload_n 0, 1) := by decide +kernel
theorem dX8_readLine_164 : decode cX8_readLine 164 = .ok (.getfield 25, 3) := by decide +kernel
theorem dX8_readLine_167 : decode cX8_readLine 167 = .ok (.iload_n 1, 1) := by decide +kernel
theorem dX8_readLine_168 : decode cX8_readLine 168 = .ok (.iaload, 1) := by decide +kernel
theorem dX8_readLine_169 : decode cX8_readLine 169 = .ok (.invokevirtual 144, 3) := by decide +kernel
theorem dX8_readLine_172 : decode cX8_readLine 172 = .ok (.iastore, 1) := by decide +kernel
theorem dX8_readLine_173 : decode cX8_readLine 173 = .ok (.aload_n 0, 1) := by decide +kernel
theorem dX8_readLine_174 : decode cX8_readLine 174 = .ok (.invokevirtual 141, 3) := by decide +kernel
theorem dX8_readLine_177 : decode cX8_readLine 177 = .ok (.aload_n 0, 1) := by decide +kernel
theorem dX8_readLine_178 : decode cX8_readLine 178 = .ok (.getfield 103, 3) := by decide +kernel
theorem dX8_readLine_181 : decode cX8_readLine 181 = .ok (.ifCond .ne 16, 3) := by decide +kernel
theorem dX8_readLine_184 : decode cX8_readLine 184 = .ok (.aload_n 0, 1) := by decide +kernel
theorem dX8_readLine_185 : decode cX8_readLine 185 = .ok (.getfield 122, 3) := by decide +kernel
theorem dX8_readLine_188 : decode cX8_readLine 188 = .ok (.iconst 3, 1) := by decide +kernel
theorem dX8_readLine_189 : decode cX8_readLine 189 = .ok (.if_icmp .eq 8, 3) := by decide +kernel
theorem dX8_readLine_192 : decode cX8_readLine 192 = .ok (.aload_n 0, 1) := by decide +kernel
theorem dX8_readLine_193 : decode cX8_readLine 193 = .ok (.iconst 2, 1) := by decide +kernel
theorem dX8_readLine_194 : decode cX8_readLine 194 = .ok (.invokevirtual 133, 3) := by decide +kernel
theorem dX8_readLine_197 : decode cX8_readLine 197 = .ok (.aload_n 0, 1) := by decide +kernel
theorem dX8_readLine_198 : decode cX8_readLine 198 = .ok (.invokevirtual 141, 3) := by decide +kernel
theorem dX8_readLine_201 : decode cX8_readLine 201 = .ok (.return_, 1) := by decide +kernel
theorem dX8_text_0 : decode cX8_text 0 = .ok (.aload_n 0, 1) := by decide +kernel
theorem dX8_text_1 : decode cX8_text 1 = .ok (.iconst 0, 1) := by decide +kernel
theorem dX8_text_2 : decode cX8_text 2 = .ok (.putfield 103, 3) := by decide +kernel
theorem dX8_text_5 : decode cX8_text 5 = .ok (.aload_n 0, 1) := by decide +kernel
theorem dX8_text_6 : decode cX8_text 6 = .ok (.iconst 0, 1) := by decide +kernel
theorem dX8_text_7 : decode cX8_text 7 = .ok (.putfield 116, 3) := by decide +kernel
theorem dX8_text_10 : decode cX8_text 10 = .ok (.aload_n 0, 1) := by decide +kernel
theorem dX8_text_11 : decode cX8_text 11 = .ok (.iconst 0, 1) := by decide +kernel
theorem dX8_text_12 : decode cX8_text 12 = .ok (.putfield 153, 3) := by decide +kernel
theorem dX8_text_15 : decode cX8_text 15 = .ok (.aload_n 0, 1) := by decide +kernel
theorem dX8_text_16 : decode cX8_text 16 = .ok (.iconst 0, 1) := by decide +kernel
theorem dX8_text_17 : decode cX8_text 17 = .ok (.putfield 147, 3) := by decide +kernel
theorem dX8_text_20 : decode cX8_text 20 = .ok (.iconst 0, 1) := by decide +kernel
theorem dX8_text_21 : decode cX8_text 21 = .ok (.istore_n 1, 1) := by decide +kernel
theorem dX8_text_22 : decode cX8_text 22 = .ok (.iconst 0, 1) := by decide +kernel
theorem dX8_text_23 : decode cX8_text 23 = .ok (.istore_n 2, 1) := by decide +kernel
theorem dX8_text_24 : decode cX8_text 24 = .ok (.iload_n 2, 1) := by decide +kernel
theorem dX8_text_25 : decode cX8_text 25 = .ok (.bipush 28, 2) := by decide +kernel
theorem dX8_text_27 : decode cX8_text 27 = .ok (.if_icmp .ge 21, 3) := by decide +kernel
theorem dX8_text_30 : decode cX8_text 30 = .ok (.aload_n 0, 1) := by decide +kernel
theorem dX8_text_31 : decode cX8_text 31 = .ok (.getfield 31, 3) := by decide +kernel
theorem dX8_text_34 : decode cX8_text 34 = .ok (.iload_n 2, 1) := by decide +kernel
theorem dX8_text_35 : decode cX8_text 35 = .ok (.aload_n 0, 1) := by decide +kernel
theorem dX8_text_36 : decode cX8_text 36 = .ok (.getfield 19, 3) := by decide +kernel
theorem dX8_text_39 : decode cX8_text 39 = .ok (.iload_n 2, 1) := by decide +kernel
theorem dX8_text_40 : decode cX8_text 40 = .ok (.iaload, 1) := by decide +kernel
theorem dX8_text_41 : decode cX8_text 41 = .ok (.iastore, 1) := by decide +kernel
theorem dX8_text_42 : decode cX8_text 42 = .ok (.iinc 2 1, 3) := by decide +kernel
theorem dX8_text_45 : decode cX8_text 45 = .ok (.goto (-21), 3) := by decide +kernel
theorem dX8_text_48 : decode cX8_text 48 = .ok (.aload_n 0, 1) := by decide +kernel
theorem dX8_text_49 : decode cX8_text 49 = .ok (.invokevirtual 141, 3) := by decide +kernel
theorem dX8_text_52 : decode cX8_text 52 = .ok (.aload_n 0, 1) := by decide +kernel
theorem dX8_text_53 : decode cX8_text 53 = .ok (.getfield 103, 3) := by decide +kernel
theorem dX8_text_56 : decode cX8_text 56 = .ok (.ifCond .ne 20, 3) := by decide +kernel
theorem dX8_text_59 : decode cX8_text 59 = .ok (.aload_n 0, 1) := by decide +kernel
theorem dX8_text_60 : decode cX8_text 60 = .ok (.getfield 122, 3) := by decide +kernel
theorem dX8_text_63 : decode cX8_text 63 = .ok (.ifCond .eq 13, 3) := by decide +kernel
theorem dX8_text_66 : decode cX8_text 66 = .ok (.aload_n 0, 1) := by decide +kernel
theorem dX8_text_67 : decode cX8_text 67 = .ok (.invokevirtual 156, 3) := by decide +kernel
theorem dX8_text_70 : decode cX8_text 70 = .ok (.iinc 1 1, 3) := by decide +kernel
theorem dX8_text_73 : decode cX8_text 73 = .ok (.goto (-21), 3) := by decide +kernel
theorem dX8_text_76 : decode cX8_text 76 = .ok (.aload_n 0, 1) := by decide +kernel
theorem dX8_text_77 : decode cX8_text 77 = .ok (.iconst 0, 1) := by decide +kernel
theorem dX8_text_78 : decode cX8_text 78 = .ok (.putfield 96, 3) := by decide +kernel
theorem dX8_text_81 : decode cX8_text 81 = .ok (.aload_n 0, 1) := by decide +kernel
theorem dX8_text_82 : decode cX8_text 82 = .ok (.aload_n 0, 1) := by decide +kernel
theorem dX8_text_83 : decode cX8_text 83 = .ok (.getfield 103, 3) := by decide +kernel
theorem dX8_text_86 : decode cX8_text 86 = .ok (.putfield 159, 3) := by decide +kernel
theorem dX8_text_89 : decode cX8_text 89 = .ok (.aload_n 0, 1) := by decide +kernel
theorem dX8_text_90 : decode cX8_text 90 = .ok (.getfield 103, 3) := by decide +kernel
theorem dX8_text_93 : decode cX8_text 93 = .ok (.ifCond .le 11, 3) := by decide +kernel
theorem dX8_text_96 : decode cX8_text 96 = .ok (.bipush (-10), 2) := by decide +kernel
theorem dX8_text_98 : decode cX8_text 98 = .ok (.aload_n 0, 1) := by decide +kernel
theorem dX8_text_99 : decode cX8_text 99 = .ok (.getfield 109, 3) := by decide +kernel
theorem dX8_text_102 : decode cX8_text 102 = .ok (.isub, 1) := by decide +kernel
theorem dX8_text_103 : decode cX8_text 103 = .ok (.ireturn, 1) := by decide +kernel
theorem dX8_text_104 : decode cX8_text 104 = .ok (.iconst 0, 1) := by decide +kernel
theorem dX8_text_105 : decode cX8_text 105 = .ok (.istore_n 2, 1) := by decide +kernel
theorem dX8_text_106 : decode cX8_text 106 = .ok (.iload_n 2, 1) := by decide +kernel
theorem dX8_text_107 : decode cX8_text 107 = .ok (.bipush 28, 2) := by decide +kernel
theorem dX8_text_109 : decode cX8_text 109 = .ok (.if_icmp .ge 21, 3) := by decide +kernel
theorem dX8_text_112 : decode cX8_text 112 = .ok (.aload_n 0, 1) := by decide +kernel
theorem dX8_text_113 : decode cX8_text 113 = .ok (.getfield 28, 3) := by decide +kernel
theorem dX8_text_116 : decode cX8_text 116 = .ok (.iload_n 2, 1) := by decide +kernel
theorem dX8_text_117 : decode cX8_text 117 = .ok (.aload_n 0, 1) := by decide +kernel
theorem dX8_text_118 : decode cX8_text 118 = .ok (.getfield 31, 3) := by decide +kernel
theorem dX8_text_121 : decode cX8_text 121 = .ok (.iload_n 2, 1) := by decide +kernel
theorem dX8_text_122 : decode cX8_text 122 = .ok (.iaload, 1) := by decide +kernel
theorem dX8_text_123 : decode cX8_text 123 = .ok (.iastore, 1) := by decide +kernel
theorem dX8_text_124 : decode cX8_text 124 = .ok (.iinc 2 1, 3) := by decide +kernel
theorem dX8_text_127 : decode cX8_text 127 = .ok (.goto (-21), 3) := by decide +kernel
theorem dX8_text_130 : decode cX8_text 130 = .ok (.iload_n 1, 1) := by decide +kernel
theorem dX8_text_131 : decode cX8_text 131 = .ok (.ireturn, 1) := by decide +kernel
theorem dX8_fault_0 : decode cX8_fault 0 = .ok (.aload_n 0, 1) := by decide +kernel
theorem dX8_fault_1 : decode cX8_fault 1 = .ok (.getfield 159, 3) := by decide +kernel
theorem dX8_fault_4 : decode cX8_fault 4 = .ok (.ireturn, 1) := by decide +kernel
theorem dX8_rule_0 : decode cX8_rule 0 = .ok (.iload_n 1, 1) := by decide +kernel
theorem dX8_rule_1 : decode cX8_rule 1 = .ok (.i2l, 1) := by decide +kernel
theorem dX8_rule_2 : decode cX8_rule 2 = .ok (.lconst 0, 1) := by decide +kernel
theorem dX8_rule_3 : decode cX8_rule 3 = .ok (.ldc2_w 162, 3) := by decide +kernel
theorem dX8_rule_6 : decode cX8_rule 6 = .ok (.invokestatic 99, 3) := by decide +kernel
theorem dX8_rule_9 : decode cX8_rule 9 = .ok (.ifCond .eq 12, 3) := by decide +kernel
theorem dX8_rule_12 : decode cX8_rule 12 = .ok (.aload_n 0, 1) := by decide +kernel
theorem dX8_rule_13 : decode cX8_rule 13 = .ok (.getfield 28, 3) := by decide +kernel
theorem dX8_rule_16 : decode cX8_rule 16 = .ok (.iload_n 1, 1) := by decide +kernel
theorem dX8_rule_17 : decode cX8_rule 17 = .ok (.iaload, 1) := by decide +kernel
theorem dX8_rule_18 : decode cX8_rule 18 = .ok (.goto 33, 3) := by decide +kernel
theorem dX8_rule_21 : decode cX8_rule 21 = .ok (.iload_n 1, 1) := by decide +kernel
theorem dX8_rule_22 : decode cX8_rule 22 = .ok (.i2l, 1) := by decide +kernel
theorem dX8_rule_23 : decode cX8_rule 23 = .ok (.ldc2_w 164, 3) := by decide +kernel
theorem dX8_rule_26 : decode cX8_rule 26 = .ok (.ldc2_w 166, 3) := by decide +kernel
theorem dX8_rule_29 : decode cX8_rule 29 = .ok (.invokestatic 99, 3) := by decide +kernel
theorem dX8_rule_32 : decode cX8_rule 32 = .ok (.ifCond .eq 18, 3) := by decide +kernel
theorem dX8_rule_35 : decode cX8_rule 35 = .ok (.aload_n 0, 1) := by decide +kernel
theorem dX8_rule_36 : decode cX8_rule 36 = .ok (.getfield 28, 3) := by decide +kernel
theorem dX8_rule_39 : decode cX8_rule 39 = .ok (.bipush 12, 2) := by decide +kernel
theorem dX8_rule_41 : decode cX8_rule 41 = .ok (.iload_n 1, 1) := by decide +kernel
theorem dX8_rule_42 : decode cX8_rule 42 = .ok (.iadd, 1) := by decide +kernel
theorem dX8_rule_43 : decode cX8_rule 43 = .ok (.bipush 20, 2) := by decide +kernel
theorem dX8_rule_45 : decode cX8_rule 45 = .ok (.isub, 1) := by decide +kernel
theorem dX8_rule_46 : decode cX8_rule 46 = .ok (.iaload, 1) := by decide +kernel
theorem dX8_rule_47 : decode cX8_rule 47 = .ok (.goto 4, 3) := by decide +kernel
theorem dX8_rule_50 : decode cX8_rule 50 = .ok (.iconst (-1), 1) := by decide +kernel
theorem dX8_rule_51 : decode cX8_rule 51 = .ok (.ireturn, 1) := by decide +kernel
theorem dX8_isScene_0 : decode cX8_isScene 0 = .ok (.iload_n 0, 1) := by decide +kernel
theorem dX8_isScene_1 : decode cX8_isScene 1 = .ok (.i2l, 1) := by decide +kernel
theorem dX8_isScene_2 : decode cX8_isScene 2 = .ok (.lconst 0, 1) := by decide +kernel
theorem dX8_isScene_3 : decode cX8_isScene 3 = .ok (.ldc2_w 168, 3) := by decide +kernel
theorem dX8_isScene_6 : decode cX8_isScene 6 = .ok (.invokestatic 99, 3) := by decide +kernel
theorem dX8_isScene_9 : decode cX8_isScene 9 = .ok (.ireturn, 1) := by decide +kernel
theorem dX8_isPoint_0 : decode cX8_isPoint 0 = .ok (.iload_n 0, 1) := by decide +kernel
theorem dX8_isPoint_1 : decode cX8_isPoint 1 = .ok (.i2l, 1) := by decide +kernel
theorem dX8_isPoint_2 : decode cX8_isPoint 2 = .ok (.lconst 0, 1) := by decide +kernel
theorem dX8_isPoint_3 : decode cX8_isPoint 3 = .ok (.ldc2_w 170, 3) := by decide +kernel
theorem dX8_isPoint_6 : decode cX8_isPoint 6 = .ok (.invokestatic 99, 3) := by decide +kernel
theorem dX8_isPoint_9 : decode cX8_isPoint 9 = .ok (.ireturn, 1) := by decide +kernel
theorem dX8_light_0 : decode cX8_light 0 = .ok (.iload_n 1, 1) := by decide +kernel
theorem dX8_light_1 : decode cX8_light 1 = .ok (.invokestatic 172, 3) := by decide +kernel
theorem dX8_light_4 : decode cX8_light 4 = .ok (.ifCond .eq 27, 3) := by decide +kernel
theorem dX8_light_7 : decode cX8_light 7 = .ok (.iload_n 2, 1) := by decide +kernel
theorem dX8_light_8 : decode cX8_light 8 = .ok (.i2l, 1) := by decide +kernel
theorem dX8_light_9 : decode cX8_light 9 = .ok (.lconst 0, 1) := by decide +kernel
theorem dX8_light_10 : decode cX8_light 10 = .ok (.ldc2_w 176, 3) := by decide +kernel
theorem dX8_light_13 : decode cX8_light 13 = .ok (.invokestatic 99, 3) := by decide +kernel
theorem dX8_light_16 : decode cX8_light 16 = .ok (.ifCond .eq 15, 3) := by decide +kernel
theorem dX8_light_19 : decode cX8_light 19 = .ok (.iload_n 3, 1) := by decide +kernel
theorem dX8_light_20 : decode cX8_light 20 = .ok (.i2l, 1) := by decide +kernel
theorem dX8_light_21 : decode cX8_light 21 = .ok (.lconst 0, 1) := by decide +kernel
theorem dX8_light_22 : decode cX8_light 22 = .ok (.ldc2_w 178, 3) := by decide +kernel
theorem dX8_light_25 : decode cX8_light 25 = .ok (.invokestatic 99, 3) := by decide +kernel
theorem dX8_light_28 : decode cX8_light 28 = .ok (.ifCond .ne 5, 3) := by decide +kernel
theorem dX8_light_31 : decode cX8_light 31 = .ok (.iconst (-1), 1) := by decide +kernel
theorem dX8_light_32 : decode cX8_light 32 = .ok (.ireturn, 1) := by decide +kernel
theorem dX8_light_33 : decode cX8_light 33 = .ok (.aload_n 0, 1) := by decide +kernel
theorem dX8_light_34 : decode cX8_light 34 = .ok (.getfield 34, 3) := by decide +kernel
theorem dX8_light_37 : decode cX8_light 37 = .ok (.bipush 64, 2) := by decide +kernel
theorem dX8_light_39 : decode cX8_light 39 = .ok (.iload_n 1, 1) := by decide +kernel
theorem dX8_light_40 : decode cX8_light 40 = .ok (.imul, 1) := by decide +kernel
theorem dX8_light_41 : decode cX8_light 41 = .ok (.iload_n 2, 1) := by decide +kernel
theorem dX8_light_42 : decode cX8_light 42 = .ok (.iadd, 1) := by decide +kernel
theorem dX8_light_43 : decode cX8_light 43 = .ok (.iaload, 1) := by decide +kernel
theorem dX8_light_44 : decode cX8_light 44 = .ok (.istore 4, 2) := by decide +kernel
theorem dX8_light_46 : decode cX8_light 46 = .ok (.aload_n 0, 1) := by decide +kernel
theorem dX8_light_47 : decode cX8_light 47 = .ok (.getfield 34, 3) := by decide +kernel
theorem dX8_light_50 : decode cX8_light 50 = .ok (.bipush 64, 2) := by decide +kernel
theorem dX8_light_52 : decode cX8_light 52 = .ok (.iload_n 1, 1) := by decide +kernel
theorem dX8_light_53 : decode cX8_light 53 = .ok (.imul, 1) := by decide +kernel
theorem dX8_light_54 : decode cX8_light 54 = .ok (.iload_n 2, 1) := by decide +kernel
theorem dX8_light_55 : decode cX8_light 55 = .ok (.iadd, 1) := by decide +kernel
theorem dX8_light_56 : decode cX8_light 56 = .ok (.iload_n 3, 1) := by decide +kernel
theorem dX8_light_57 : decode cX8_light 57 = .ok (.iastore, 1) := by decide +kernel
theorem dX8_light_58 : decode cX8_light 58 = .ok (.iload 4, 2) := by decide +kernel
theorem dX8_light_60 : decode cX8_light 60 = .ok (.ireturn, 1) := by decide +kernel
theorem dX8_lightOf_0 : decode cX8_lightOf 0 = .ok (.iload_n 1, 1) := by decide +kernel
theorem dX8_lightOf_1 : decode cX8_lightOf 1 = .ok (.invokestatic 172, 3) := by decide +kernel
theorem dX8_lightOf_4 : decode cX8_lightOf 4 = .ok (.ifCond .eq 29, 3) := by decide +kernel
theorem dX8_lightOf_7 : decode cX8_lightOf 7 = .ok (.iload_n 2, 1) := by decide +kernel
theorem dX8_lightOf_8 : decode cX8_lightOf 8 = .ok (.i2l, 1) := by decide +kernel
theorem dX8_lightOf_9 : decode cX8_lightOf 9 = .ok (.lconst 0, 1) := by decide +kernel
theorem dX8_lightOf_10 : decode cX8_lightOf 10 = .ok (.ldc2_w 176, 3) := by decide +kernel
theorem dX8_lightOf_13 : decode cX8_lightOf 13 = .ok (.invokestatic 99, 3) := by decide +kernel
theorem dX8_lightOf_16 : decode cX8_lightOf 16 = .ok (.ifCond .eq 17, 3) := by decide +kernel
theorem dX8_lightOf_19 : decode cX8_lightOf 19 = .ok (.aload_n 0, 1) := by decide +kernel
theorem dX8_lightOf_20 : decode cX8_lightOf 20 = .ok (.getfield 34, 3) := by decide +kernel
theorem dX8_lightOf_23 : decode cX8_lightOf 23 = .ok (.bipush 64, 2) := by decide +kernel
theorem dX8_lightOf_25 : decode cX8_lightOf 25 = .ok (.iload_n 1, 1) := by decide +kernel
theorem dX8_lightOf_26 : decode cX8_lightOf 26 = .ok (.imul, 1) := by decide +kernel
theorem dX8_lightOf_27 : decode cX8_lightOf 27 = .ok (.iload_n 2, 1) := by decide +kernel
theorem dX8_lightOf_28 : decode cX8_lightOf 28 = .ok (.iadd, 1) := by decide +kernel
theorem dX8_lightOf_29 : decode cX8_lightOf 29 = .ok (.iaload, 1) := by decide +kernel
theorem dX8_lightOf_30 : decode cX8_lightOf 30 = .ok (.goto 4, 3) := by decide +kernel
theorem dX8_lightOf_33 : decode cX8_lightOf 33 = .ok (.iconst (-1), 1) := by decide +kernel
theorem dX8_lightOf_34 : decode cX8_lightOf 34 = .ok (.ireturn, 1) := by decide +kernel
theorem dX8_shift_0 : decode cX8_shift 0 = .ok (.iload_n 1, 1) := by decide +kernel
theorem dX8_shift_1 : decode cX8_shift 1 = .ok (.invokestatic 172, 3) := by decide +kernel
theorem dX8_shift_4 : decode cX8_shift 4 = .ok (.ifCond .eq 22, 3) := by decide +kernel
theorem dX8_shift_7 : decode cX8_shift 7 = .ok (.iload_n 2, 1) := by decide +kernel
theorem dX8_shift_8 : decode cX8_shift 8 = .ok (.invokestatic 172, 3) := by decide +kernel
theorem dX8_shift_11 : decode cX8_shift 11 = .ok (.ifCond .eq 15, 3) := by decide +kernel
theorem dX8_shift_14 : decode cX8_shift 14 = .ok (.iload_n 3, 1) := by decide +kernel
theorem dX8_shift_15 : decode cX8_shift 15 = .ok (.i2l, 1) := by decide +kernel
theorem dX8_shift_16 : decode cX8_shift 16 = .ok (.lconst 0, 1) := by decide +kernel
theorem dX8_shift_17 : decode cX8_shift 17 = .ok (.ldc2_w 180, 3) := by decide +kernel
theorem dX8_shift_20 : decode cX8_shift 20 = .ok (.invokestatic 99, 3) := by decide +kernel
theorem dX8_shift_23 : decode cX8_shift 23 = .ok (.ifCond .ne 5, 3) := by decide +kernel
theorem dX8_shift_26 : decode cX8_shift 26 = .ok (.iconst (-1), 1) := by decide +kernel
theorem dX8_shift_27 : decode cX8_shift 27 = .ok (.ireturn, 1) := by decide +kernel
theorem dX8_shift_28 : decode cX8_shift 28 = .ok (.iconst 0, 1) := by decide +kernel
theorem dX8_shift_29 : decode cX8_shift 29 = .ok (.istore 4, 2) := by decide +kernel
theorem dX8_shift_31 : decode cX8_shift 31 = .ok (.bipush 63, 2) := by decide +kernel
theorem dX8_shift_33 : decode cX8_shift 33 = .ok (.istore 5, 2) := by decide +kernel
theorem dX8_shift_35 : decode cX8_shift 35 = .ok (.iload 5, 2) := by decide +kernel
theorem dX8_shift_37 : decode cX8_shift 37 = .ok (.ifCond .lt 79, 3) := by decide +kernel
theorem dX8_shift_40 : decode cX8_shift 40 = .ok (.iload 5, 2) := by decide +kernel
theorem dX8_shift_42 : decode cX8_shift 42 = .ok (.bipush 8, 2) := by decide +kernel
theorem dX8_shift_44 : decode cX8_shift 44 = .ok (.irem, 1) := by decide +kernel
theorem dX8_shift_45 : decode cX8_shift 45 = .ok (.iload_n 3, 1) := by decide +kernel
theorem dX8_shift_46 : decode cX8_shift 46 = .ok (.if_icmp .ge 7, 3) := by decide +kernel
theorem dX8_shift_49 : decode cX8_shift 49 = .ok (.iconst 0, 1) := by decide +kernel
theorem dX8_shift_50 : decode cX8_shift 50 = .ok (.goto 17, 3) := by decide +kernel
theorem dX8_shift_53 : decode cX8_shift 53 = .ok (.aload_n 0, 1) := by decide +kernel
theorem dX8_shift_54 : decode cX8_shift 54 = .ok (.getfield 34, 3) := by decide +kernel
theorem dX8_shift_57 : decode cX8_shift 57 = .ok (.bipush 64, 2) := by decide +kernel
theorem dX8_shift_59 : decode cX8_shift 59 = .ok (.iload_n 1, 1) := by decide +kernel
theorem dX8_shift_60 : decode cX8_shift 60 = .ok (.imul, 1) := by decide +kernel
theorem dX8_shift_61 : decode cX8_shift 61 = .ok (.iload 5, 2) := by decide +kernel
theorem dX8_shift_63 : decode cX8_shift 63 = .ok (.iadd, 1) := by decide +kernel
theorem dX8_shift_64 : decode cX8_shift 64 = .ok (.iload_n 3, 1) := by decide +kernel
theorem dX8_shift_65 : decode cX8_shift 65 = .ok (.isub, 1) := by decide +kernel
theorem dX8_shift_66 : decode cX8_shift 66 = .ok (.iaload, 1) := by decide +kernel
theorem dX8_shift_67 : decode cX8_shift 67 = .ok (.istore 6, 2) := by decide +kernel
theorem dX8_shift_69 : decode cX8_shift 69 = .ok (.iload 4, 2) := by decide +kernel
theorem dX8_shift_71 : decode cX8_shift 71 = .ok (.aload_n 0, 1) := by decide +kernel
theorem dX8_shift_72 : decode cX8_shift 72 = .ok (.getfield 34, 3) := by decide +kernel
theorem dX8_shift_75 : decode cX8_shift 75 = .ok (.bipush 64, 2) := by decide +kernel
theorem dX8_shift_77 : decode cX8_shift 77 = .ok (.iload_n 2, 1) := by decide +kernel
theorem dX8_shift_78 : decode cX8_shift 78 = .ok (.imul, 1) := by decide +kernel
theorem dX8_shift_79 : decode cX8_shift 79 = .ok (.iload 5, 2) := by decide +kernel
theorem dX8_shift_81 : decode cX8_shift 81 = .ok (.iadd, 1) := by decide +kernel
theorem dX8_shift_82 : decode cX8_shift 82 = .ok (.iaload, 1) := by decide +kernel
theorem dX8_shift_83 : decode cX8_shift 83 = .ok (.iload 6, 2) := by decide +kernel
theorem dX8_shift_85 : decode cX8_shift 85 = .ok (.if_icmp .eq 7, 3) := by decide +kernel
theorem dX8_shift_88 : decode cX8_shift 88 = .ok (.iconst 1, 1) := by decide +kernel
theorem dX8_shift_89 : decode cX8_shift 89 = .ok (.goto 4, 3) := by decide +kernel
theorem dX8_shift_92 : decode cX8_shift 92 = .ok (.iconst 0, 1) := by decide +kernel
theorem dX8_shift_93 : decode cX8_shift 93 = .ok (.iadd, 1) := by decide +kernel
theorem dX8_shift_94 : decode cX8_shift 94 = .ok (.istore 4, 2) := by decide +kernel
theorem dX8_shift_96 : decode cX8_shift 96 = .ok (.aload_n 0, 1) := by decide +kernel
theorem dX8_shift_97 : decode cX8_shift 97 = .ok (.getfield 34, 3) := by decide +kernel
theorem dX8_shift_100 : decode cX8_shift 100 = .ok (.bipush 64, 2) := by decide +kernel
theorem dX8_shift_102 : decode cX8_shift 102 = .ok (.iload_n 2, 1) := by decide +kernel
theorem dX8_shift_103 : decode cX8_shift 103 = .ok (.imul, 1) := by decide +kernel
theorem dX8_shift_104 : decode cX8_shift 104 = .ok (.iload 5, 2) := by decide +kernel
theorem dX8_shift_106 : decode cX8_shift 106 = .ok (.iadd, 1) := by decide +kernel
theorem dX8_shift_107 : decode cX8_shift 107 = .ok (.iload 6, 2) := by decide +kernel
theorem dX8_shift_109 : decode cX8_shift 109 = .ok (.iastore, 1) := by decide +kernel
theorem dX8_shift_110 : decode cX8_shift 110 = .ok (.iinc 5 (-1), 3) := by decide +kernel
theorem dX8_shift_113 : decode cX8_shift 113 = .ok (.goto (-78), 3) := by decide +kernel
theorem dX8_shift_116 : decode cX8_shift 116 = .ok (.iload 4, 2) := by decide +kernel
theorem dX8_shift_118 : decode cX8_shift 118 = .ok (.ireturn, 1) := by decide +kernel
theorem dX8_place_0 : decode cX8_place 0 = .ok (.iload_n 1, 1) := by decide +kernel
theorem dX8_place_1 : decode cX8_place 1 = .ok (.i2l, 1) := by decide +kernel
theorem dX8_place_2 : decode cX8_place 2 = .ok (.lconst 0, 1) := by decide +kernel
theorem dX8_place_3 : decode cX8_place 3 = .ok (.ldc2_w 182, 3) := by decide +kernel
theorem dX8_place_6 : decode cX8_place 6 = .ok (.invokestatic 99, 3) := by decide +kernel
theorem dX8_place_9 : decode cX8_place 9 = .ok (.ifCond .ne 5, 3) := by decide +kernel
theorem dX8_place_12 : decode cX8_place 12 = .ok (.iconst (-1), 1) := by decide +kernel
theorem dX8_place_13 : decode cX8_place 13 = .ok (.ireturn, 1) := by decide +kernel
theorem dX8_place_14 : decode cX8_place 14 = .ok (.aload_n 0, 1) := by decide +kernel
theorem dX8_place_15 : decode cX8_place 15 = .ok (.getfield 37, 3) := by decide +kernel
theorem dX8_place_18 : decode cX8_place 18 = .ok (.istore_n 2, 1) := by decide +kernel
theorem dX8_place_19 : decode cX8_place 19 = .ok (.aload_n 0, 1) := by decide +kernel
theorem dX8_place_20 : decode cX8_place 20 = .ok (.iload_n 1, 1) := by decide +kernel
theorem dX8_place_21 : decode cX8_place 21 = .ok (.putfield 37, 3) := by decide +kernel
theorem dX8_place_24 : decode cX8_place 24 = .ok (.iload_n 2, 1) := by decide +kernel
theorem dX8_place_25 : decode cX8_place 25 = .ok (.ireturn, 1) := by decide +kernel
theorem dX8_ledTo_0 : decode cX8_ledTo 0 = .ok (.iload_n 0, 1) := by decide +kernel
theorem dX8_ledTo_1 : decode cX8_ledTo 1 = .ok (.bipush 25, 2) := by decide +kernel
theorem dX8_ledTo_3 : decode cX8_ledTo 3 = .ok (.if_icmp .ne 16, 3) := by decide +kernel
theorem dX8_ledTo_6 : decode cX8_ledTo 6 = .ok (.iload_n 1, 1) := by decide +kernel
theorem dX8_ledTo_7 : decode cX8_ledTo 7 = .ok (.iconst 4, 1) := by decide +kernel
theorem dX8_ledTo_8 : decode cX8_ledTo 8 = .ok (.if_icmp .ne 8, 3) := by decide +kernel
theorem dX8_ledTo_11 : decode cX8_ledTo 11 = .ok (.bipush 12, 2) := by decide +kernel
theorem dX8_ledTo_13 : decode cX8_ledTo 13 = .ok (.goto 5, 3) := by decide +kernel
theorem dX8_ledTo_16 : decode cX8_ledTo 16 = .ok (.bipush 25, 2) := by decide +kernel
theorem dX8_ledTo_18 : decode cX8_ledTo 18 = .ok (.ireturn, 1) := by decide +kernel
theorem dX8_ledTo_19 : decode cX8_ledTo 19 = .ok (.iload_n 1, 1) := by decide +kernel
theorem dX8_ledTo_20 : decode cX8_ledTo 20 = .ok (.tableswitch 99 0 5 #[40, 54, 69, 82, 99, 96], 40) := by decide +kernel
theorem dX8_ledTo_60 : decode cX8_ledTo 60 = .ok (.iload_n 0, 1) := by decide +kernel
theorem dX8_ledTo_61 : decode cX8_ledTo 61 = .ok (.iconst 5, 1) := by decide +kernel
theorem dX8_ledTo_62 : decode cX8_ledTo 62 = .ok (.irem, 1) := by decide +kernel
theorem dX8_ledTo_63 : decode cX8_ledTo 63 = .ok (.ifCond .le 9, 3) := by decide +kernel
theorem dX8_ledTo_66 : decode cX8_ledTo 66 = .ok (.iload_n 0, 1) := by decide +kernel
theorem dX8_ledTo_67 : decode cX8_ledTo 67 = .ok (.iconst 1, 1) := by decide +kernel
theorem dX8_ledTo_68 : decode cX8_ledTo 68 = .ok (.isub, 1) := by decide +kernel
theorem dX8_ledTo_69 : decode cX8_ledTo 69 = .ok (.goto 4, 3) := by decide +kernel
theorem dX8_ledTo_72 : decode cX8_ledTo 72 = .ok (.iload_n 0, 1) := by decide +kernel
theorem dX8_ledTo_73 : decode cX8_ledTo 73 = .ok (.ireturn, 1) := by decide +kernel
theorem dX8_ledTo_74 : decode cX8_ledTo 74 = .ok (.iload_n 0, 1) := by decide +kernel
theorem dX8_ledTo_75 : decode cX8_ledTo 75 = .ok (.iconst 5, 1) := by decide +kernel
theorem dX8_ledTo_76 : decode cX8_ledTo 76 = .ok (.irem, 1) := by decide +kernel
theorem dX8_ledTo_77 : decode cX8_ledTo 77 = .ok (.iconst 4, 1) := by decide +kernel
theorem dX8_ledTo_78 : decode cX8_ledTo 78 = .ok (.if_icmp .ge 9, 3) := by decide +kernel
theorem dX8_ledTo_81 : decode cX8_ledTo 81 = .ok (.iload_n 0, 1) := by decide +kernel
theorem dX8_ledTo_82 : decode cX8_ledTo 82 = .ok (.iconst 1, 1) := by decide +kernel
theorem dX8_ledTo_83 : decode cX8_ledTo 83 = .ok (.iadd, 1) := by decide +kernel
theorem dX8_ledTo_84 : decode cX8_ledTo 84 = .ok (.goto 4, 3) := by decide +kernel
theorem dX8_ledTo_87 : decode cX8_ledTo 87 = .ok (.iload_n 0, 1) := by decide +kernel
theorem dX8_ledTo_88 : decode cX8_ledTo 88 = .ok (.ireturn, 1) := by decide +kernel
theorem dX8_ledTo_89 : decode cX8_ledTo 89 = .ok (.iload_n 0, 1) := by decide +kernel
theorem dX8_ledTo_90 : decode cX8_ledTo 90 = .ok (.iconst 5, 1) := by decide +kernel
theorem dX8_ledTo_91 : decode cX8_ledTo 91 = .ok (.if_icmp .lt 9, 3) := by decide +kernel
theorem dX8_ledTo_94 : decode cX8_ledTo 94 = .ok (.iload_n 0, 1) := by decide +kernel
theorem dX8_ledTo_95 : decode cX8_ledTo 95 = .ok (.iconst 5, 1) := by decide +kernel
theorem dX8_ledTo_96 : decode cX8_ledTo 96 = .ok (.isub, 1) := by decide +kernel
theorem dX8_ledTo_97 : decode cX8_ledTo 97 = .ok (.goto 4, 3) := by decide +kernel
theorem dX8_ledTo_100 : decode cX8_ledTo 100 = .ok (.iload_n 0, 1) := by decide +kernel
theorem dX8_ledTo_101 : decode cX8_ledTo 101 = .ok (.ireturn, 1) := by decide +kernel
theorem dX8_ledTo_102 : decode cX8_ledTo 102 = .ok (.iload_n 0, 1) := by decide +kernel
theorem dX8_ledTo_103 : decode cX8_ledTo 103 = .ok (.bipush 20, 2) := by decide +kernel
theorem dX8_ledTo_105 : decode cX8_ledTo 105 = .ok (.if_icmp .ge 9, 3) := by decide +kernel
theorem dX8_ledTo_108 : decode cX8_ledTo 108 = .ok (.iload_n 0, 1) := by decide +kernel
theorem dX8_ledTo_109 : decode cX8_ledTo 109 = .ok (.iconst 5, 1) := by decide +kernel
theorem dX8_ledTo_110 : decode cX8_ledTo 110 = .ok (.iadd, 1) := by decide +kernel
theorem dX8_ledTo_111 : decode cX8_ledTo 111 = .ok (.goto 4, 3) := by decide +kernel
theorem dX8_ledTo_114 : decode cX8_ledTo 114 = .ok (.iload_n 0, 1) := by decide +kernel
theorem dX8_ledTo_115 : decode cX8_ledTo 115 = .ok (.ireturn, 1) := by decide +kernel
theorem dX8_ledTo_116 : decode cX8_ledTo 116 = .ok (.bipush 25, 2) := by decide +kernel
theorem dX8_ledTo_118 : decode cX8_ledTo 118 = .ok (.ireturn, 1) := by decide +kernel
theorem dX8_ledTo_119 : decode cX8_ledTo 119 = .ok (.iload_n 0, 1) := by decide +kernel
theorem dX8_ledTo_120 : decode cX8_ledTo 120 = .ok (.ireturn, 1) := by decide +kernel
theorem dX8_leads_0 : decode cX8_leads 0 = .ok (.iload_n 1, 1) := by decide +kernel
theorem dX8_leads_1 : decode cX8_leads 1 = .ok (.i2l, 1) := by decide +kernel
theorem dX8_leads_2 : decode cX8_leads 2 = .ok (.lconst 0, 1) := by decide +kernel
theorem dX8_leads_3 : decode cX8_leads 3 = .ok (.ldc2_w 182, 3) := by decide +kernel
theorem dX8_leads_6 : decode cX8_leads 6 = .ok (.invokestatic 99, 3) := by decide +kernel
theorem dX8_leads_9 : decode cX8_leads 9 = .ok (.ifCond .eq 23, 3) := by decide +kernel
theorem dX8_leads_12 : decode cX8_leads 12 = .ok (.iload_n 2, 1) := by decide +kernel
theorem dX8_leads_13 : decode cX8_leads 13 = .ok (.i2l, 1) := by decide +kernel
theorem dX8_leads_14 : decode cX8_leads 14 = .ok (.lconst 0, 1) := by decide +kernel
theorem dX8_leads_15 : decode cX8_leads 15 = .ok (.ldc2_w 168, 3) := by decide +kernel
theorem dX8_leads_18 : decode cX8_leads 18 = .ok (.invokestatic 99, 3) := by decide +kernel
theorem dX8_leads_21 : decode cX8_leads 21 = .ok (.ifCond .eq 11, 3) := by decide +kernel
theorem dX8_leads_24 : decode cX8_leads 24 = .ok (.iload_n 1, 1) := by decide +kernel
theorem dX8_leads_25 : decode cX8_leads 25 = .ok (.iload_n 2, 1) := by decide +kernel
theorem dX8_leads_26 : decode cX8_leads 26 = .ok (.invokestatic 184, 3) := by decide +kernel
theorem dX8_leads_29 : decode cX8_leads 29 = .ok (.goto 4, 3) := by decide +kernel
theorem dX8_leads_32 : decode cX8_leads 32 = .ok (.iconst (-1), 1) := by decide +kernel
theorem dX8_leads_33 : decode cX8_leads 33 = .ok (.ireturn, 1) := by decide +kernel
theorem dX8_lightAt_0 : decode cX8_lightAt 0 = .ok (.aload_n 0, 1) := by decide +kernel
theorem dX8_lightAt_1 : decode cX8_lightAt 1 = .ok (.getfield 34, 3) := by decide +kernel
theorem dX8_lightAt_4 : decode cX8_lightAt 4 = .ok (.bipush 64, 2) := by decide +kernel
theorem dX8_lightAt_6 : decode cX8_lightAt 6 = .ok (.iload_n 1, 1) := by decide +kernel
theorem dX8_lightAt_7 : decode cX8_lightAt 7 = .ok (.imul, 1) := by decide +kernel
theorem dX8_lightAt_8 : decode cX8_lightAt 8 = .ok (.bipush 8, 2) := by decide +kernel
theorem dX8_lightAt_10 : decode cX8_lightAt 10 = .ok (.iload_n 2, 1) := by decide +kernel
theorem dX8_lightAt_11 : decode cX8_lightAt 11 = .ok (.imul, 1) := by decide +kernel
theorem dX8_lightAt_12 : decode cX8_lightAt 12 = .ok (.iadd, 1) := by decide +kernel
theorem dX8_lightAt_13 : decode cX8_lightAt 13 = .ok (.iload_n 3, 1) := by decide +kernel
theorem dX8_lightAt_14 : decode cX8_lightAt 14 = .ok (.iadd, 1) := by decide +kernel
theorem dX8_lightAt_15 : decode cX8_lightAt 15 = .ok (.iaload, 1) := by decide +kernel
theorem dX8_lightAt_16 : decode cX8_lightAt 16 = .ok (.ireturn, 1) := by decide +kernel
theorem dX8_layHas_0 : decode cX8_layHas 0 = .ok (.iconst 0, 1) := by decide +kernel
theorem dX8_layHas_1 : decode cX8_layHas 1 = .ok (.istore_n 3, 1) := by decide +kernel
theorem dX8_layHas_2 : decode cX8_layHas 2 = .ok (.iload_n 3, 1) := by decide +kernel
theorem dX8_layHas_3 : decode cX8_layHas 3 = .ok (.bipush 16, 2) := by decide +kernel
theorem dX8_layHas_5 : decode cX8_layHas 5 = .ok (.if_icmp .ge 130, 3) := by decide +kernel
theorem dX8_layHas_8 : decode cX8_layHas 8 = .ok (.iload_n 3, 1) := by decide +kernel
theorem dX8_layHas_9 : decode cX8_layHas 9 = .ok (.iconst 4, 1) := by decide +kernel
theorem dX8_layHas_10 : decode cX8_layHas 10 = .ok (.idiv, 1) := by decide +kernel
theorem dX8_layHas_11 : decode cX8_layHas 11 = .ok (.istore 4, 2) := by decide +kernel
theorem dX8_layHas_13 : decode cX8_layHas 13 = .ok (.iload_n 3, 1) := by decide +kernel
theorem dX8_layHas_14 : decode cX8_layHas 14 = .ok (.iconst 4, 1) := by decide +kernel
theorem dX8_layHas_15 : decode cX8_layHas 15 = .ok (.irem, 1) := by decide +kernel
theorem dX8_layHas_16 : decode cX8_layHas 16 = .ok (.istore 5, 2) := by decide +kernel
theorem dX8_layHas_18 : decode cX8_layHas 18 = .ok (.iload_n 2, 1) := by decide +kernel
theorem dX8_layHas_19 : decode cX8_layHas 19 = .ok (.bipush 25, 2) := by decide +kernel
theorem dX8_layHas_21 : decode cX8_layHas 21 = .ok (.if_icmp .ne 85, 3) := by decide +kernel
theorem dX8_layHas_24 : decode cX8_layHas 24 = .ok (.aload_n 0, 1) := by decide +kernel
theorem dX8_layHas_25 : decode cX8_layHas 25 = .ok (.iload_n 1, 1) := by decide +kernel
theorem dX8_layHas_26 : decode cX8_layHas 26 = .ok (.iconst 2, 1) := by decide +kernel
theorem dX8_layHas_27 : decode cX8_layHas 27 = .ok (.iload 4, 2) := by decide +kernel
theorem dX8_layHas_29 : decode cX8_layHas 29 = .ok (.imul, 1) := by decide +kernel
theorem dX8_layHas_30 : decode cX8_layHas 30 = .ok (.iconst 2, 1) := by decide +kernel
theorem dX8_layHas_31 : decode cX8_layHas 31 = .ok (.iload 5, 2) := by decide +kernel
theorem dX8_layHas_33 : decode cX8_layHas 33 = .ok (.imul, 1) := by decide +kernel
theorem dX8_layHas_34 : decode cX8_layHas 34 = .ok (.invokevirtual 187, 3) := by decide +kernel
theorem dX8_layHas_37 : decode cX8_layHas 37 = .ok (.aload_n 0, 1) := by decide +kernel
theorem dX8_layHas_38 : decode cX8_layHas 38 = .ok (.iload_n 1, 1) := by decide +kernel
theorem dX8_layHas_39 : decode cX8_layHas 39 = .ok (.iconst 2, 1) := by decide +kernel
theorem dX8_layHas_40 : decode cX8_layHas 40 = .ok (.iload 4, 2) := by decide +kernel
theorem dX8_layHas_42 : decode cX8_layHas 42 = .ok (.imul, 1) := by decide +kernel
theorem dX8_layHas_43 : decode cX8_layHas 43 = .ok (.iconst 2, 1) := by decide +kernel
theorem dX8_layHas_44 : decode cX8_layHas 44 = .ok (.iload 5, 2) := by decide +kernel
theorem dX8_layHas_46 : decode cX8_layHas 46 = .ok (.imul, 1) := by decide +kernel
theorem dX8_layHas_47 : decode cX8_layHas 47 = .ok (.iconst 1, 1) := by decide +kernel
theorem dX8_layHas_48 : decode cX8_layHas 48 = .ok (.iadd, 1) := by decide +kernel
theorem dX8_layHas_49 : decode cX8_layHas 49 = .ok (.invokevirtual 187, 3) := by decide +kernel
theorem dX8_layHas_52 : decode cX8_layHas 52 = .ok (.iadd, 1) := by decide +kernel
theorem dX8_layHas_53 : decode cX8_layHas 53 = .ok (.istore 6, 2) := by decide +kernel
theorem dX8_layHas_55 : decode cX8_layHas 55 = .ok (.iload 6, 2) := by decide +kernel
theorem dX8_layHas_57 : decode cX8_layHas 57 = .ok (.aload_n 0, 1) := by decide +kernel
theorem dX8_layHas_58 : decode cX8_layHas 58 = .ok (.iload_n 1, 1) := by decide +kernel
theorem dX8_layHas_59 : decode cX8_layHas 59 = .ok (.iconst 2, 1) := by decide +kernel
theorem dX8_layHas_60 : decode cX8_layHas 60 = .ok (.iload 4, 2) := by decide +kernel
theorem dX8_layHas_62 : decode cX8_layHas 62 = .ok (.imul, 1) := by decide +kernel
theorem dX8_layHas_63 : decode cX8_layHas 63 = .ok (.iconst 1, 1) := by decide +kernel
theorem dX8_layHas_64 : decode cX8_layHas 64 = .ok (.iadd, 1) := by decide +kernel
theorem dX8_layHas_65 : decode cX8_layHas 65 = .ok (.iconst 2, 1) := by decide +kernel
theorem dX8_layHas_66 : decode cX8_layHas 66 = .ok (.iload 5, 2) := by decide +kernel
theorem dX8_layHas_68 : decode cX8_layHas 68 = .ok (.imul, 1) := by decide +kernel
theorem dX8_layHas_69 : decode cX8_layHas 69 = .ok (.invokevirtual 187, 3) := by decide +kernel
theorem dX8_layHas_72 : decode cX8_layHas 72 = .ok (.aload_n 0, 1) := by decide +kernel
theorem dX8_layHas_73 : decode cX8_layHas 73 = .ok (.iload_n 1, 1) := by decide +kernel
theorem dX8_layHas_74 : decode cX8_layHas 74 = .ok (.iconst 2, 1) := by decide +kernel
theorem dX8_layHas_75 : decode cX8_layHas 75 = .ok (.iload 4, 2) := by decide +kernel
theorem dX8_layHas_77 : decode cX8_layHas 77 = .ok (.imul, 1) := by decide +kernel
theorem dX8_layHas_78 : decode cX8_layHas 78 = .ok (.iconst 1, 1) := by decide +kernel
theorem dX8_layHas_79 : decode cX8_layHas 79 = .ok (.iadd, 1) := by decide +kernel
theorem dX8_layHas_80 : decode cX8_layHas 80 = .ok (.iconst 2, 1) := by decide +kernel
theorem dX8_layHas_81 : decode cX8_layHas 81 = .ok (.iload 5, 2) := by decide +kernel
theorem dX8_layHas_83 : decode cX8_layHas 83 = .ok (.imul, 1) := by decide +kernel
theorem dX8_layHas_84 : decode cX8_layHas 84 = .ok (.iconst 1, 1) := by decide +kernel
theorem dX8_layHas_85 : decode cX8_layHas 85 = .ok (.iadd, 1) := by decide +kernel
theorem dX8_layHas_86 : decode cX8_layHas 86 = .ok (.invokevirtual 187, 3) := by decide +kernel
theorem dX8_layHas_89 : decode cX8_layHas 89 = .ok (.iadd, 1) := by decide +kernel
theorem dX8_layHas_90 : decode cX8_layHas 90 = .ok (.iadd, 1) := by decide +kernel
theorem dX8_layHas_91 : decode cX8_layHas 91 = .ok (.istore 6, 2) := by decide +kernel
theorem dX8_layHas_93 : decode cX8_layHas 93 = .ok (.aload_n 0, 1) := by decide +kernel
theorem dX8_layHas_94 : decode cX8_layHas 94 = .ok (.getfield 41, 3) := by decide +kernel
theorem dX8_layHas_97 : decode cX8_layHas 97 = .ok (.iload_n 3, 1) := by decide +kernel
theorem dX8_layHas_98 : decode cX8_layHas 98 = .ok (.iload 6, 2) := by decide +kernel
theorem dX8_layHas_100 : decode cX8_layHas 100 = .ok (.iconst 4, 1) := by decide +kernel
theorem dX8_layHas_101 : decode cX8_layHas 101 = .ok (.idiv, 1) := by decide +kernel
theorem dX8_layHas_102 : decode cX8_layHas 102 = .ok (.iastore, 1) := by decide +kernel
theorem dX8_layHas_103 : decode cX8_layHas 103 = .ok (.goto 26, 3) := by decide +kernel
theorem dX8_layHas_106 : decode cX8_layHas 106 = .ok (.aload_n 0, 1) := by decide +kernel
theorem dX8_layHas_107 : decode cX8_layHas 107 = .ok (.getfield 41, 3) := by decide +kernel
theorem dX8_layHas_110 : decode cX8_layHas 110 = .ok (.iload_n 3, 1) := by decide +kernel
theorem dX8_layHas_111 : decode cX8_layHas 111 = .ok (.aload_n 0, 1) := by decide +kernel
theorem dX8_layHas_112 : decode cX8_layHas 112 = .ok (.iload_n 1, 1) := by decide +kernel
theorem dX8_layHas_113 : decode cX8_layHas 113 = .ok (.iload_n 2, 1) := by decide +kernel
theorem dX8_layHas_114 : decode cX8_layHas 114 = .ok (.iconst 5, 1) := by decide +kernel
theorem dX8_layHas_115 : decode cX8_layHas 115 = .ok (.idiv, 1) := by decide +kernel
theorem dX8_layHas_116 : decode cX8_layHas 116 = .ok (.iload 4, 2) := by decide +kernel
theorem dX8_layHas_118 : decode cX8_layHas 118 = .ok (.iadd, 1) := by decide +kernel
theorem dX8_layHas_119 : decode cX8_layHas 119 = .ok (.iload_n 2, 1) := by decide +kernel
theorem dX8_layHas_120 : decode cX8_layHas 120 = .ok (.iconst 5, 1) := by decide +kernel
theorem dX8_layHas_121 : decode cX8_layHas 121 = .ok (.irem, 1) := by decide +kernel
theorem dX8_layHas_122 : decode cX8_layHas 122 = .ok (.iload 5, 2) := by decide +kernel
theorem dX8_layHas_124 : decode cX8_layHas 124 = .ok (.iadd, 1) := by decide +kernel
theorem dX8_layHas_125 : decode cX8_layHas 125 = .ok (.invokevirtual 187, 3) := by decide +kernel
theorem dX8_layHas_128 : decode cX8_layHas 128 = .ok (.iastore, 1) := by decide +kernel
theorem dX8_layHas_129 : decode cX8_layHas 129 = .ok (.iinc 3 1, 3) := by decide +kernel
theorem dX8_layHas_132 : decode cX8_layHas 132 = .ok (.goto (-130), 3) := by decide +kernel
theorem dX8_layHas_135 : decode cX8_layHas 135 = .ok (.return_, 1) := by decide +kernel
theorem dX8_size_0 : decode cX8_size 0 = .ok (.iload_n 0, 1) := by decide +kernel
theorem dX8_size_1 : decode cX8_size 1 = .ok (.ifCond .ge 8, 3) := by decide +kernel
theorem dX8_size_4 : decode cX8_size 4 = .ok (.iload_n 0, 1) := by decide +kernel
theorem dX8_size_5 : decode cX8_size 5 = .ok (.ineg, 1) := by decide +kernel
theorem dX8_size_6 : decode cX8_size 6 = .ok (.goto 4, 3) := by decide +kernel
theorem dX8_size_9 : decode cX8_size 9 = .ok (.iload_n 0, 1) := by decide +kernel
theorem dX8_size_10 : decode cX8_size 10 = .ok (.ireturn, 1) := by decide +kernel
theorem dX8_edge_0 : decode cX8_edge 0 = .ok (.iload_n 1, 1) := by decide +kernel
theorem dX8_edge_1 : decode cX8_edge 1 = .ok (.iconst 4, 1) := by decide +kernel
theorem dX8_edge_2 : decode cX8_edge 2 = .ok (.irem, 1) := by decide +kernel
theorem dX8_edge_3 : decode cX8_edge 3 = .ok (.iconst 3, 1) := by decide +kernel
theorem dX8_edge_4 : decode cX8_edge 4 = .ok (.if_icmp .ge 24, 3) := by decide +kernel
theorem dX8_edge_7 : decode cX8_edge 7 = .ok (.aload_n 0, 1) := by decide +kernel
theorem dX8_edge_8 : decode cX8_edge 8 = .ok (.getfield 41, 3) := by decide +kernel
theorem dX8_edge_11 : decode cX8_edge 11 = .ok (.iload_n 1, 1) := by decide +kernel
theorem dX8_edge_12 : decode cX8_edge 12 = .ok (.iaload, 1) := by decide +kernel
theorem dX8_edge_13 : decode cX8_edge 13 = .ok (.aload_n 0, 1) := by decide +kernel
theorem dX8_edge_14 : decode cX8_edge 14 = .ok (.getfield 41, 3) := by decide +kernel
theorem dX8_edge_17 : decode cX8_edge 17 = .ok (.iload_n 1, 1) := by decide +kernel
theorem dX8_edge_18 : decode cX8_edge 18 = .ok (.iconst 1, 1) := by decide +kernel
theorem dX8_edge_19 : decode cX8_edge 19 = .ok (.iadd, 1) := by decide +kernel
theorem dX8_edge_20 : decode cX8_edge 20 = .ok (.iaload, 1) := by decide +kernel
theorem dX8_edge_21 : decode cX8_edge 21 = .ok (.isub, 1) := by decide +kernel
theorem dX8_edge_22 : decode cX8_edge 22 = .ok (.invokestatic 191, 3) := by decide +kernel
theorem dX8_edge_25 : decode cX8_edge 25 = .ok (.goto 4, 3) := by decide +kernel
theorem dX8_edge_28 : decode cX8_edge 28 = .ok (.iconst 0, 1) := by decide +kernel
theorem dX8_edge_29 : decode cX8_edge 29 = .ok (.istore_n 2, 1) := by decide +kernel
theorem dX8_edge_30 : decode cX8_edge 30 = .ok (.iload_n 1, 1) := by decide +kernel
theorem dX8_edge_31 : decode cX8_edge 31 = .ok (.bipush 12, 2) := by decide +kernel
theorem dX8_edge_33 : decode cX8_edge 33 = .ok (.if_icmp .ge 24, 3) := by decide +kernel
theorem dX8_edge_36 : decode cX8_edge 36 = .ok (.aload_n 0, 1) := by decide +kernel
theorem dX8_edge_37 : decode cX8_edge 37 = .ok (.getfield 41, 3) := by decide +kernel
theorem dX8_edge_40 : decode cX8_edge 40 = .ok (.iload_n 1, 1) := by decide +kernel
theorem dX8_edge_41 : decode cX8_edge 41 = .ok (.iaload, 1) := by decide +kernel
theorem dX8_edge_42 : decode cX8_edge 42 = .ok (.aload_n 0, 1) := by decide +kernel
theorem dX8_edge_43 : decode cX8_edge 43 = .ok (.getfield 41, 3) := by decide +kernel
theorem dX8_edge_46 : decode cX8_edge 46 = .ok (.iload_n 1, 1) := by decide +kernel
theorem dX8_edge_47 : decode cX8_edge 47 = .ok (.iconst 4, 1) := by decide +kernel
theorem dX8_edge_48 : decode cX8_edge 48 = .ok (.iadd, 1) := by decide +kernel
theorem dX8_edge_49 : decode cX8_edge 49 = .ok (.iaload, 1) := by decide +kernel
theorem dX8_edge_50 : decode cX8_edge 50 = .ok (.isub, 1) := by decide +kernel
theorem dX8_edge_51 : decode cX8_edge 51 = .ok (.invokestatic 191, 3) := by decide +kernel
theorem dX8_edge_54 : decode cX8_edge 54 = .ok (.goto 4, 3) := by decide +kernel
theorem dX8_edge_57 : decode cX8_edge 57 = .ok (.iconst 0, 1) := by decide +kernel
theorem dX8_edge_58 : decode cX8_edge 58 = .ok (.istore_n 3, 1) := by decide +kernel
theorem dX8_edge_59 : decode cX8_edge 59 = .ok (.iload_n 2, 1) := by decide +kernel
theorem dX8_edge_60 : decode cX8_edge 60 = .ok (.iload_n 3, 1) := by decide +kernel
theorem dX8_edge_61 : decode cX8_edge 61 = .ok (.if_icmp .le 7, 3) := by decide +kernel
theorem dX8_edge_64 : decode cX8_edge 64 = .ok (.iload_n 2, 1) := by decide +kernel
theorem dX8_edge_65 : decode cX8_edge 65 = .ok (.goto 4, 3) := by decide +kernel
theorem dX8_edge_68 : decode cX8_edge 68 = .ok (.iload_n 3, 1) := by decide +kernel
theorem dX8_edge_69 : decode cX8_edge 69 = .ok (.ireturn, 1) := by decide +kernel
theorem dX8_isDead_0 : decode cX8_isDead 0 = .ok (.aload_n 0, 1) := by decide +kernel
theorem dX8_isDead_1 : decode cX8_isDead 1 = .ok (.getfield 194, 3) := by decide +kernel
theorem dX8_isDead_4 : decode cX8_isDead 4 = .ok (.ifCond .ne 22, 3) := by decide +kernel
theorem dX8_isDead_7 : decode cX8_isDead 7 = .ok (.aload_n 0, 1) := by decide +kernel
theorem dX8_isDead_8 : decode cX8_isDead 8 = .ok (.getfield 28, 3) := by decide +kernel
theorem dX8_isDead_11 : decode cX8_isDead 11 = .ok (.bipush 11, 2) := by decide +kernel
theorem dX8_isDead_13 : decode cX8_isDead 13 = .ok (.iaload, 1) := by decide +kernel
theorem dX8_isDead_14 : decode cX8_isDead 14 = .ok (.iload_n 1, 1) := by decide +kernel
theorem dX8_isDead_15 : decode cX8_isDead 15 = .ok (.ishr, 1) := by decide +kernel
theorem dX8_isDead_16 : decode cX8_isDead 16 = .ok (.iconst 1, 1) := by decide +kernel
theorem dX8_isDead_17 : decode cX8_isDead 17 = .ok (.iand, 1) := by decide +kernel
theorem dX8_isDead_18 : decode cX8_isDead 18 = .ok (.iconst 1, 1) := by decide +kernel
theorem dX8_isDead_19 : decode cX8_isDead 19 = .ok (.if_icmp .ne 7, 3) := by decide +kernel
theorem dX8_isDead_22 : decode cX8_isDead 22 = .ok (.iconst 1, 1) := by decide +kernel
theorem dX8_isDead_23 : decode cX8_isDead 23 = .ok (.goto 4, 3) := by decide +kernel
theorem dX8_isDead_26 : decode cX8_isDead 26 = .ok (.iconst 0, 1) := by decide +kernel
theorem dX8_isDead_27 : decode cX8_isDead 27 = .ok (.ireturn, 1) := by decide +kernel
theorem dX8_nextTo_0 : decode cX8_nextTo 0 = .ok (.iload_n 1, 1) := by decide +kernel
theorem dX8_nextTo_1 : decode cX8_nextTo 1 = .ok (.tableswitch 72 0 2 #[27, 42, 58], 27) := by decide +kernel
theorem dX8_nextTo_28 : decode cX8_nextTo 28 = .ok (.iload_n 0, 1) := by decide +kernel
theorem dX8_nextTo_29 : decode cX8_nextTo 29 = .ok (.iconst 4, 1) := by decide +kernel
theorem dX8_nextTo_30 : decode cX8_nextTo 30 = .ok (.irem, 1) := by decide +kernel
theorem dX8_nextTo_31 : decode cX8_nextTo 31 = .ok (.ifCond .le 9, 3) := by decide +kernel
theorem dX8_nextTo_34 : decode cX8_nextTo 34 = .ok (.iload_n 0, 1) := by decide +kernel
theorem dX8_nextTo_35 : decode cX8_nextTo 35 = .ok (.iconst 1, 1) := by decide +kernel
theorem dX8_nextTo_36 : decode cX8_nextTo 36 = .ok (.isub, 1) := by decide +kernel
theorem dX8_nextTo_37 : decode cX8_nextTo 37 = .ok (.goto 5, 3) := by decide +kernel
theorem dX8_nextTo_40 : decode cX8_nextTo 40 = .ok (.bipush (-4), 2) := by decide +kernel
theorem dX8_nextTo_42 : decode cX8_nextTo 42 = .ok (.ireturn, 1) := by decide +kernel
theorem dX8_nextTo_43 : decode cX8_nextTo 43 = .ok (.iload_n 0, 1) := by decide +kernel
theorem dX8_nextTo_44 : decode cX8_nextTo 44 = .ok (.iconst 4, 1) := by decide +kernel
theorem dX8_nextTo_45 : decode cX8_nextTo 45 = .ok (.irem, 1) := by decide +kernel
theorem dX8_nextTo_46 : decode cX8_nextTo 46 = .ok (.iconst 3, 1) := by decide +kernel
theorem dX8_nextTo_47 : decode cX8_nextTo 47 = .ok (.if_icmp .ge 9, 3) := by decide +kernel
theorem dX8_nextTo_50 : decode cX8_nextTo 50 = .ok (.iload_n 0, 1) := by decide +kernel
theorem dX8_nextTo_51 : decode cX8_nextTo 51 = .ok (.iconst 1, 1) := by decide +kernel
theorem dX8_nextTo_52 : decode cX8_nextTo 52 = .ok (.iadd, 1) := by decide +kernel
theorem dX8_nextTo_53 : decode cX8_nextTo 53 = .ok (.goto 5, 3) := by decide +kernel
theorem dX8_nextTo_56 : decode cX8_nextTo 56 = .ok (.bipush (-4), 2) := by decide +kernel
theorem dX8_nextTo_58 : decode cX8_nextTo 58 = .ok (.ireturn, 1) := by decide +kernel
theorem dX8_nextTo_59 : decode cX8_nextTo 59 = .ok (.iload_n 0, 1) := by decide +kernel
theorem dX8_nextTo_60 : decode cX8_nextTo 60 = .ok (.iconst 4, 1) := by decide +kernel
theorem dX8_nextTo_61 : decode cX8_nextTo 61 = .ok (.if_icmp .lt 9, 3) := by decide +kernel
theorem dX8_nextTo_64 : decode cX8_nextTo 64 = .ok (.iload_n 0, 1) := by decide +kernel
theorem dX8_nextTo_65 : decode cX8_nextTo 65 = .ok (.iconst 4, 1) := by decide +kernel
theorem dX8_nextTo_66 : decode cX8_nextTo 66 = .ok (.isub, 1) := by decide +kernel
theorem dX8_nextTo_67 : decode cX8_nextTo 67 = .ok (.goto 5, 3) := by decide +kernel
theorem dX8_nextTo_70 : decode cX8_nextTo 70 = .ok (.bipush (-4), 2) := by decide +kernel
theorem dX8_nextTo_72 : decode cX8_nextTo 72 = .ok (.ireturn, 1) := by decide +kernel
theorem dX8_nextTo_73 : decode cX8_nextTo 73 = .ok (.iload_n 0, 1) := by decide +kernel
theorem dX8_nextTo_74 : decode cX8_nextTo 74 = .ok (.bipush 12, 2) := by decide +kernel
theorem dX8_nextTo_76 : decode cX8_nextTo 76 = .ok (.if_icmp .ge 9, 3) := by decide +kernel
theorem dX8_nextTo_79 : decode cX8_nextTo 79 = .ok (.iload_n 0, 1) := by decide +kernel
theorem dX8_nextTo_80 : decode cX8_nextTo 80 = .ok (.iconst 4, 1) := by decide +kernel
theorem dX8_nextTo_81 : decode cX8_nextTo 81 = .ok (.iadd, 1) := by decide +kernel
theorem dX8_nextTo_82 : decode cX8_nextTo 82 = .ok (.goto 5, 3) := by decide +kernel
theorem dX8_nextTo_85 : decode cX8_nextTo 85 = .ok (.bipush (-4), 2) := by decide +kernel
theorem dX8_nextTo_87 : decode cX8_nextTo 87 = .ok (.ireturn, 1) := by decide +kernel
theorem dX8_layShown_0 : decode cX8_layShown 0 = .ok (.aload_n 0, 1) := by decide +kernel
theorem dX8_layShown_1 : decode cX8_layShown 1 = .ok (.iload_n 1, 1) := by decide +kernel
theorem dX8_layShown_2 : decode cX8_layShown 2 = .ok (.iload_n 2, 1) := by decide +kernel
theorem dX8_layShown_3 : decode cX8_layShown 3 = .ok (.invokevirtual 198, 3) := by decide +kernel
theorem dX8_layShown_6 : decode cX8_layShown 6 = .ok (.iconst 0, 1) := by decide +kernel
theorem dX8_layShown_7 : decode cX8_layShown 7 = .ok (.istore_n 3, 1) := by decide +kernel
theorem dX8_layShown_8 : decode cX8_layShown 8 = .ok (.iload_n 3, 1) := by decide +kernel
theorem dX8_layShown_9 : decode cX8_layShown 9 = .ok (.bipush 16, 2) := by decide +kernel
theorem dX8_layShown_11 : decode cX8_layShown 11 = .ok (.if_icmp .ge 84, 3) := by decide +kernel
theorem dX8_layShown_14 : decode cX8_layShown 14 = .ok (.aload_n 0, 1) := by decide +kernel
theorem dX8_layShown_15 : decode cX8_layShown 15 = .ok (.getfield 44, 3) := by decide +kernel
theorem dX8_layShown_18 : decode cX8_layShown 18 = .ok (.iload_n 3, 1) := by decide +kernel
theorem dX8_layShown_19 : decode cX8_layShown 19 = .ok (.aload_n 0, 1) := by decide +kernel
theorem dX8_layShown_20 : decode cX8_layShown 20 = .ok (.getfield 28, 3) := by decide +kernel
theorem dX8_layShown_23 : decode cX8_layShown 23 = .ok (.iconst 0, 1) := by decide +kernel
theorem dX8_layShown_24 : decode cX8_layShown 24 = .ok (.iaload, 1) := by decide +kernel
theorem dX8_layShown_25 : decode cX8_layShown 25 = .ok (.ifCond .ne 12, 3) := by decide +kernel
theorem dX8_layShown_28 : decode cX8_layShown 28 = .ok (.aload_n 0, 1) := by decide +kernel
theorem dX8_layShown_29 : decode cX8_layShown 29 = .ok (.getfield 41, 3) := by decide +kernel
theorem dX8_layShown_32 : decode cX8_layShown 32 = .ok (.iload_n 3, 1) := by decide +kernel
theorem dX8_layShown_33 : decode cX8_layShown 33 = .ok (.iaload, 1) := by decide +kernel
theorem dX8_layShown_34 : decode cX8_layShown 34 = .ok (.goto 30, 3) := by decide +kernel
theorem dX8_layShown_37 : decode cX8_layShown 37 = .ok (.aload_n 0, 1) := by decide +kernel
theorem dX8_layShown_38 : decode cX8_layShown 38 = .ok (.getfield 28, 3) := by decide +kernel
theorem dX8_layShown_41 : decode cX8_layShown 41 = .ok (.iconst 0, 1) := by decide +kernel
theorem dX8_layShown_42 : decode cX8_layShown 42 = .ok (.iaload, 1) := by decide +kernel
theorem dX8_layShown_43 : decode cX8_layShown 43 = .ok (.iconst 1, 1) := by decide +kernel
theorem dX8_layShown_44 : decode cX8_layShown 44 = .ok (.if_icmp .ne 15, 3) := by decide +kernel
theorem dX8_layShown_47 : decode cX8_layShown 47 = .ok (.bipush 9, 2) := by decide +kernel
theorem dX8_layShown_49 : decode cX8_layShown 49 = .ok (.aload_n 0, 1) := by decide +kernel
theorem dX8_layShown_50 : decode cX8_layShown 50 = .ok (.getfield 41, 3) := by decide +kernel
theorem dX8_layShown_53 : decode cX8_layShown 53 = .ok (.iload_n 3, 1) := by decide +kernel
theorem dX8_layShown_54 : decode cX8_layShown 54 = .ok (.iaload, 1) := by decide +kernel
theorem dX8_layShown_55 : decode cX8_layShown 55 = .ok (.isub, 1) := by decide +kernel
theorem dX8_layShown_56 : decode cX8_layShown 56 = .ok (.goto 8, 3) := by decide +kernel
theorem dX8_layShown_59 : decode cX8_layShown 59 = .ok (.aload_n 0, 1) := by decide +kernel
theorem dX8_layShown_60 : decode cX8_layShown 60 = .ok (.iload_n 3, 1) := by decide +kernel
theorem dX8_layShown_61 : decode cX8_layShown 61 = .ok (.invokevirtual 202, 3) := by decide +kernel
theorem dX8_layShown_64 : decode cX8_layShown 64 = .ok (.iastore, 1) := by decide +kernel
theorem dX8_layShown_65 : decode cX8_layShown 65 = .ok (.aload_n 0, 1) := by decide +kernel
theorem dX8_layShown_66 : decode cX8_layShown 66 = .ok (.getfield 47, 3) := by decide +kernel
theorem dX8_layShown_69 : decode cX8_layShown 69 = .ok (.iload_n 3, 1) := by decide +kernel
theorem dX8_layShown_70 : decode cX8_layShown 70 = .ok (.aload_n 0, 1) := by decide +kernel
theorem dX8_layShown_71 : decode cX8_layShown 71 = .ok (.iload_n 3, 1) := by decide +kernel
theorem dX8_layShown_72 : decode cX8_layShown 72 = .ok (.invokevirtual 205, 3) := by decide +kernel
theorem dX8_layShown_75 : decode cX8_layShown 75 = .ok (.ifCond .eq 7, 3) := by decide +kernel
theorem dX8_layShown_78 : decode cX8_layShown 78 = .ok (.iconst 0, 1) := by decide +kernel
theorem dX8_layShown_79 : decode cX8_layShown 79 = .ok (.goto 9, 3) := by decide +kernel
theorem dX8_layShown_82 : decode cX8_layShown 82 = .ok (.aload_n 0, 1) := by decide +kernel
theorem dX8_layShown_83 : decode cX8_layShown 83 = .ok (.getfield 44, 3) := by decide +kernel
theorem dX8_layShown_86 : decode cX8_layShown 86 = .ok (.iload_n 3, 1) := by decide +kernel
theorem dX8_layShown_87 : decode cX8_layShown 87 = .ok (.iaload, 1) := by decide +kernel
theorem dX8_layShown_88 : decode cX8_layShown 88 = .ok (.iastore, 1) := by decide +kernel
theorem dX8_layShown_89 : decode cX8_layShown 89 = .ok (.iinc 3 1, 3) := by decide +kernel
theorem dX8_layShown_92 : decode cX8_layShown 92 = .ok (.goto (-84), 3) := by decide +kernel
theorem dX8_layShown_95 : decode cX8_layShown 95 = .ok (.iconst 0, 1) := by decide +kernel
theorem dX8_layShown_96 : decode cX8_layShown 96 = .ok (.istore_n 3, 1) := by decide +kernel
theorem dX8_layShown_97 : decode cX8_layShown 97 = .ok (.iload_n 3, 1) := by decide +kernel
theorem dX8_layShown_98 : decode cX8_layShown 98 = .ok (.bipush 16, 2) := by decide +kernel
theorem dX8_layShown_100 : decode cX8_layShown 100 = .ok (.if_icmp .ge 120, 3) := by decide +kernel
theorem dX8_layShown_103 : decode cX8_layShown 103 = .ok (.aload_n 0, 1) := by decide +kernel
theorem dX8_layShown_104 : decode cX8_layShown 104 = .ok (.getfield 28, 3) := by decide +kernel
theorem dX8_layShown_107 : decode cX8_layShown 107 = .ok (.iconst 5, 1) := by decide +kernel
theorem dX8_layShown_108 : decode cX8_layShown 108 = .ok (.iaload, 1) := by decide +kernel
theorem dX8_layShown_109 : decode cX8_layShown 109 = .ok (.iconst 1, 1) := by decide +kernel
theorem dX8_layShown_110 : decode cX8_layShown 110 = .ok (.if_icmp .ne 110, 3) := by decide +kernel
theorem dX8_layShown_113 : decode cX8_layShown 113 = .ok (.aload_n 0, 1) := by decide +kernel
theorem dX8_layShown_114 : decode cX8_layShown 114 = .ok (.iload_n 3, 1) := by decide +kernel
theorem dX8_layShown_115 : decode cX8_layShown 115 = .ok (.invokevirtual 205, 3) := by decide +kernel
theorem dX8_layShown_118 : decode cX8_layShown 118 = .ok (.ifCond .ne 7, 3) := by decide +kernel
theorem dX8_layShown_121 : decode cX8_layShown 121 = .ok (.iconst 1, 1) := by decide +kernel
theorem dX8_layShown_122 : decode cX8_layShown 122 = .ok (.goto 4, 3) := by decide +kernel
theorem dX8_layShown_125 : decode cX8_layShown 125 = .ok (.iconst 0, 1) := by decide +kernel
theorem dX8_layShown_126 : decode cX8_layShown 126 = .ok (.istore 4, 2) := by decide +kernel
theorem dX8_layShown_128 : decode cX8_layShown 128 = .ok (.iconst 0, 1) := by decide +kernel
theorem dX8_layShown_129 : decode cX8_layShown 129 = .ok (.istore 5, 2) := by decide +kernel
theorem dX8_layShown_131 : decode cX8_layShown 131 = .ok (.iload 5, 2) := by decide +kernel
theorem dX8_layShown_133 : decode cX8_layShown 133 = .ok (.iconst 4, 1) := by decide +kernel
theorem dX8_layShown_134 : decode cX8_layShown 134 = .ok (.if_icmp .ge 80, 3) := by decide +kernel
theorem dX8_layShown_137 : decode cX8_layShown 137 = .ok (.iload 4, 2) := by decide +kernel
theorem dX8_layShown_139 : decode cX8_layShown 139 = .ok (.ifCond .ne 75, 3) := by decide +kernel
theorem dX8_layShown_142 : decode cX8_layShown 142 = .ok (.iload_n 3, 1) := by decide +kernel
theorem dX8_layShown_143 : decode cX8_layShown 143 = .ok (.iload 5, 2) := by decide +kernel
theorem dX8_layShown_145 : decode cX8_layShown 145 = .ok (.invokestatic 208, 3) := by decide +kernel
theorem dX8_layShown_148 : decode cX8_layShown 148 = .ok (.istore 6, 2) := by decide +kernel
theorem dX8_layShown_150 : decode cX8_layShown 150 = .ok (.iload 6, 2) := by decide +kernel
theorem dX8_layShown_152 : decode cX8_layShown 152 = .ok (.bipush (-4), 2) := by decide +kernel
theorem dX8_layShown_154 : decode cX8_layShown 154 = .ok (.if_icmp .eq 54, 3) := by decide +kernel
theorem dX8_layShown_157 : decode cX8_layShown 157 = .ok (.aload_n 0, 1) := by decide +kernel
theorem dX8_layShown_158 : decode cX8_layShown 158 = .ok (.iload 6, 2) := by decide +kernel
theorem dX8_layShown_160 : decode cX8_layShown 160 = .ok (.invokevirtual 205, 3) := by decide +kernel
theorem dX8_layShown_163 : decode cX8_layShown 163 = .ok (.ifCond .ne 45, 3) := by decide +kernel
theorem dX8_layShown_166 : decode cX8_layShown 166 = .ok (.aload_n 0, 1) := by decide +kernel
theorem dX8_layShown_167 : decode cX8_layShown 167 = .ok (.getfield 47, 3) := by decide +kernel
theorem dX8_layShown_170 : decode cX8_layShown 170 = .ok (.iload 6, 2) := by decide +kernel
theorem dX8_layShown_172 : decode cX8_layShown 172 = .ok (.aload_n 0, 1) := by decide +kernel
theorem dX8_layShown_173 : decode cX8_layShown 173 = .ok (.getfield 44, 3) := by decide +kernel
theorem dX8_layShown_176 : decode cX8_layShown 176 = .ok (.iload_n 3, 1) := by decide +kernel
theorem dX8_layShown_177 : decode cX8_layShown 177 = .ok (.iaload, 1) := by decide +kernel
theorem dX8_layShown_178 : decode cX8_layShown 178 = .ok (.aload_n 0, 1) := by decide +kernel
theorem dX8_layShown_179 : decode cX8_layShown 179 = .ok (.getfield 47, 3) := by decide +kernel
theorem dX8_layShown_182 : decode cX8_layShown 182 = .ok (.iload 6, 2) := by decide +kernel
theorem dX8_layShown_184 : decode cX8_layShown 184 = .ok (.iaload, 1) := by decide +kernel
theorem dX8_layShown_185 : decode cX8_layShown 185 = .ok (.if_icmp .le 12, 3) := by decide +kernel
theorem dX8_layShown_188 : decode cX8_layShown 188 = .ok (.aload_n 0, 1) := by decide +kernel
theorem dX8_layShown_189 : decode cX8_layShown 189 = .ok (.getfield 44, 3) := by decide +kernel
theorem dX8_layShown_192 : decode cX8_layShown 192 = .ok (.iload_n 3, 1) := by decide +kernel
theorem dX8_layShown_193 : decode cX8_layShown 193 = .ok (.iaload, 1) := by decide +kernel
theorem dX8_layShown_194 : decode cX8_layShown 194 = .ok (.goto 10, 3) := by decide +kernel
theorem dX8_layShown_197 : decode cX8_layShown 197 = .ok (.aload_n 0, 1) := by decide +kernel
theorem dX8_layShown_198 : decode cX8_layShown 198 = .ok (.getfield 47, 3) := by decide +kernel
theorem dX8_layShown_201 : decode cX8_layShown 201 = .ok (.iload 6, 2) := by decide +kernel
theorem dX8_layShown_203 : decode cX8_layShown 203 = .ok (.iaload, 1) := by decide +kernel
theorem dX8_layShown_204 : decode cX8_layShown 204 = .ok (.iastore, 1) := by decide +kernel
theorem dX8_layShown_205 : decode cX8_layShown 205 = .ok (.iconst 1, 1) := by decide +kernel
theorem dX8_layShown_206 : decode cX8_layShown 206 = .ok (.istore 4, 2) := by decide +kernel
theorem dX8_layShown_208 : decode cX8_layShown 208 = .ok (.iinc 5 1, 3) := by decide +kernel
theorem dX8_layShown_211 : decode cX8_layShown 211 = .ok (.goto (-80), 3) := by decide +kernel
theorem dX8_layShown_214 : decode cX8_layShown 214 = .ok (.iinc 3 1, 3) := by decide +kernel
theorem dX8_layShown_217 : decode cX8_layShown 217 = .ok (.goto (-120), 3) := by decide +kernel
theorem dX8_layShown_220 : decode cX8_layShown 220 = .ok (.return_, 1) := by decide +kernel
theorem dX8_layFelt_0 : decode cX8_layFelt 0 = .ok (.aload_n 0, 1) := by decide +kernel
theorem dX8_layFelt_1 : decode cX8_layFelt 1 = .ok (.iload_n 1, 1) := by decide +kernel
theorem dX8_layFelt_2 : decode cX8_layFelt 2 = .ok (.iload_n 2, 1) := by decide +kernel
theorem dX8_layFelt_3 : decode cX8_layFelt 3 = .ok (.invokevirtual 211, 3) := by decide +kernel
theorem dX8_layFelt_6 : decode cX8_layFelt 6 = .ok (.aload_n 0, 1) := by decide +kernel
theorem dX8_layFelt_7 : decode cX8_layFelt 7 = .ok (.iconst 0, 1) := by decide +kernel
theorem dX8_layFelt_8 : decode cX8_layFelt 8 = .ok (.putfield 214, 3) := by decide +kernel
theorem dX8_layFelt_11 : decode cX8_layFelt 11 = .ok (.iconst 0, 1) := by decide +kernel
theorem dX8_layFelt_12 : decode cX8_layFelt 12 = .ok (.istore_n 3, 1) := by decide +kernel
theorem dX8_layFelt_13 : decode cX8_layFelt 13 = .ok (.iload_n 3, 1) := by decide +kernel
theorem dX8_layFelt_14 : decode cX8_layFelt 14 = .ok (.bipush 16, 2) := by decide +kernel
theorem dX8_layFelt_16 : decode cX8_layFelt 16 = .ok (.if_icmp .ge 207, 3) := by decide +kernel
theorem dX8_layFelt_19 : decode cX8_layFelt 19 = .ok (.iconst 0, 1) := by decide +kernel
theorem dX8_layFelt_20 : decode cX8_layFelt 20 = .ok (.istore 4, 2) := by decide +kernel
theorem dX8_layFelt_22 : decode cX8_layFelt 22 = .ok (.iconst 0, 1) := by decide +kernel
theorem dX8_layFelt_23 : decode cX8_layFelt 23 = .ok (.istore 5, 2) := by decide +kernel
theorem dX8_layFelt_25 : decode cX8_layFelt 25 = .ok (.iload 5, 2) := by decide +kernel
theorem dX8_layFelt_27 : decode cX8_layFelt 27 = .ok (.iconst 4, 1) := by decide +kernel
theorem dX8_layFelt_28 : decode cX8_layFelt 28 = .ok (.if_icmp .ge 40, 3) := by decide +kernel
theorem dX8_layFelt_31 : decode cX8_layFelt 31 = .ok (.iload_n 3, 1) := by decide +kernel
theorem dX8_layFelt_32 : decode cX8_layFelt 32 = .ok (.iload 5, 2) := by decide +kernel
theorem dX8_layFelt_34 : decode cX8_layFelt 34 = .ok (.invokestatic 208, 3) := by decide +kernel
theorem dX8_layFelt_37 : decode cX8_layFelt 37 = .ok (.istore 6, 2) := by decide +kernel
theorem dX8_layFelt_39 : decode cX8_layFelt 39 = .ok (.iload 4, 2) := by decide +kernel
theorem dX8_layFelt_41 : decode cX8_layFelt 41 = .ok (.iload 6, 2) := by decide +kernel
theorem dX8_layFelt_43 : decode cX8_layFelt 43 = .ok (.bipush (-4), 2) := by decide +kernel
theorem dX8_layFelt_45 : decode cX8_layFelt 45 = .ok (.if_icmp .ne 7, 3) := by decide +kernel
theorem dX8_layFelt_48 : decode cX8_layFelt 48 = .ok (.iconst 0, 1) := by decide +kernel
theorem dX8_layFelt_49 : decode cX8_layFelt 49 = .ok (.goto 10, 3) := by decide +kernel
theorem dX8_layFelt_52 : decode cX8_layFelt 52 = .ok (.aload_n 0, 1) := by decide +kernel
theorem dX8_layFelt_53 : decode cX8_layFelt 53 = .ok (.getfield 47, 3) := by decide +kernel
theorem dX8_layFelt_56 : decode cX8_layFelt 56 = .ok (.iload 6, 2) := by decide +kernel
theorem dX8_layFelt_58 : decode cX8_layFelt 58 = .ok (.iaload, 1) := by decide +kernel
theorem dX8_layFelt_59 : decode cX8_layFelt 59 = .ok (.iadd, 1) := by decide +kernel
theorem dX8_layFelt_60 : decode cX8_layFelt 60 = .ok (.istore 4, 2) := by decide +kernel
theorem dX8_layFelt_62 : decode cX8_layFelt 62 = .ok (.iinc 5 1, 3) := by decide +kernel
theorem dX8_layFelt_65 : decode cX8_layFelt 65 = .ok (.goto (-40), 3) := by decide +kernel
theorem dX8_layFelt_68 : decode cX8_layFelt 68 = .ok (.aload_n 0, 1) := by decide +kernel
theorem dX8_layFelt_69 : decode cX8_layFelt 69 = .ok (.getfield 47, 3) := by decide +kernel
theorem dX8_layFelt_72 : decode cX8_layFelt 72 = .ok (.iload_n 3, 1) := by decide +kernel
theorem dX8_layFelt_73 : decode cX8_layFelt 73 = .ok (.iaload, 1) := by decide +kernel
theorem dX8_layFelt_74 : decode cX8_layFelt 74 = .ok (.aload_n 0, 1) := by decide +kernel
theorem dX8_layFelt_75 : decode cX8_layFelt 75 = .ok (.getfield 28, 3) := by decide +kernel
theorem dX8_layFelt_78 : decode cX8_layFelt 78 = .ok (.iconst 1, 1) := by decide +kernel
theorem dX8_layFelt_79 : decode cX8_layFelt 79 = .ok (.iaload, 1) := by decide +kernel
theorem dX8_layFelt_80 : decode cX8_layFelt 80 = .ok (.iload 4, 2) := by decide +kernel
theorem dX8_layFelt_82 : decode cX8_layFelt 82 = .ok (.imul, 1) := by decide +kernel
theorem dX8_layFelt_83 : decode cX8_layFelt 83 = .ok (.bipush 16, 2) := by decide +kernel
theorem dX8_layFelt_85 : decode cX8_layFelt 85 = .ok (.idiv, 1) := by decide +kernel
theorem dX8_layFelt_86 : decode cX8_layFelt 86 = .ok (.iadd, 1) := by decide +kernel
theorem dX8_layFelt_87 : decode cX8_layFelt 87 = .ok (.aload_n 0, 1) := by decide +kernel
theorem dX8_layFelt_88 : decode cX8_layFelt 88 = .ok (.getfield 28, 3) := by decide +kernel
theorem dX8_layFelt_91 : decode cX8_layFelt 91 = .ok (.iconst 2, 1) := by decide +kernel
theorem dX8_layFelt_92 : decode cX8_layFelt 92 = .ok (.iaload, 1) := by decide +kernel
theorem dX8_layFelt_93 : decode cX8_layFelt 93 = .ok (.iload_n 3, 1) := by decide +kernel
theorem dX8_layFelt_94 : decode cX8_layFelt 94 = .ok (.iconst 4, 1) := by decide +kernel
theorem dX8_layFelt_95 : decode cX8_layFelt 95 = .ok (.idiv, 1) := by decide +kernel
theorem dX8_layFelt_96 : decode cX8_layFelt 96 = .ok (.imul, 1) := by decide +kernel
theorem dX8_layFelt_97 : decode cX8_layFelt 97 = .ok (.isub, 1) := by decide +kernel
theorem dX8_layFelt_98 : decode cX8_layFelt 98 = .ok (.istore 5, 2) := by decide +kernel
theorem dX8_layFelt_100 : decode cX8_layFelt 100 = .ok (.iload 5, 2) := by decide +kernel
theorem dX8_layFelt_102 : decode cX8_layFelt 102 = .ok (.aload_n 0, 1) := by decide +kernel
theorem dX8_layFelt_103 : decode cX8_layFelt 103 = .ok (.getfield 217, 3) := by decide +kernel
theorem dX8_layFelt_106 : decode cX8_layFelt 106 = .ok (.ifCond .eq 7, 3) := by decide +kernel
theorem dX8_layFelt_109 : decode cX8_layFelt 109 = .ok (.iconst 0, 1) := by decide +kernel
theorem dX8_layFelt_110 : decode cX8_layFelt 110 = .ok (.goto 19, 3) := by decide +kernel
theorem dX8_layFelt_113 : decode cX8_layFelt 113 = .ok (.aload_n 0, 1) := by decide +kernel
theorem dX8_layFelt_114 : decode cX8_layFelt 114 = .ok (.getfield 28, 3) := by decide +kernel
theorem dX8_layFelt_117 : decode cX8_layFelt 117 = .ok (.iconst 3, 1) := by decide +kernel
theorem dX8_layFelt_118 : decode cX8_layFelt 118 = .ok (.iaload, 1) := by decide +kernel
theorem dX8_layFelt_119 : decode cX8_layFelt 119 = .ok (.aload_n 0, 1) := by decide +kernel
theorem dX8_layFelt_120 : decode cX8_layFelt 120 = .ok (.getfield 53, 3) := by decide +kernel
theorem dX8_layFelt_123 : decode cX8_layFelt 123 = .ok (.iload_n 3, 1) := by decide +kernel
theorem dX8_layFelt_124 : decode cX8_layFelt 124 = .ok (.iaload, 1) := by decide +kernel
theorem dX8_layFelt_125 : decode cX8_layFelt 125 = .ok (.imul, 1) := by decide +kernel
theorem dX8_layFelt_126 : decode cX8_layFelt 126 = .ok (.bipush 10, 2) := by decide +kernel
theorem dX8_layFelt_128 : decode cX8_layFelt 128 = .ok (.idiv, 1) := by decide +kernel
theorem dX8_layFelt_129 : decode cX8_layFelt 129 = .ok (.isub, 1) := by decide +kernel
theorem dX8_layFelt_130 : decode cX8_layFelt 130 = .ok (.istore 5, 2) := by decide +kernel
theorem dX8_layFelt_132 : decode cX8_layFelt 132 = .ok (.aload_n 0, 1) := by decide +kernel
theorem dX8_layFelt_133 : decode cX8_layFelt 133 = .ok (.iload_n 3, 1) := by decide +kernel
theorem dX8_layFelt_134 : decode cX8_layFelt 134 = .ok (.invokevirtual 205, 3) := by decide +kernel
theorem dX8_layFelt_137 : decode cX8_layFelt 137 = .ok (.ifCond .ne 17, 3) := by decide +kernel
theorem dX8_layFelt_140 : decode cX8_layFelt 140 = .ok (.iload 5, 2) := by decide +kernel
theorem dX8_layFelt_142 : decode cX8_layFelt 142 = .ok (.aload_n 0, 1) := by decide +kernel
theorem dX8_layFelt_143 : decode cX8_layFelt 143 = .ok (.getfield 28, 3) := by decide +kernel
theorem dX8_layFelt_146 : decode cX8_layFelt 146 = .ok (.bipush 12, 2) := by decide +kernel
theorem dX8_layFelt_148 : decode cX8_layFelt 148 = .ok (.iload_n 3, 1) := by decide +kernel
theorem dX8_layFelt_149 : decode cX8_layFelt 149 = .ok (.iadd, 1) := by decide +kernel
theorem dX8_layFelt_150 : decode cX8_layFelt 150 = .ok (.iaload, 1) := by decide +kernel
theorem dX8_layFelt_151 : decode cX8_layFelt 151 = .ok (.if_icmp .ge 7, 3) := by decide +kernel
theorem dX8_layFelt_154 : decode cX8_layFelt 154 = .ok (.iconst 0, 1) := by decide +kernel
theorem dX8_layFelt_155 : decode cX8_layFelt 155 = .ok (.goto 5, 3) := by decide +kernel
theorem dX8_layFelt_158 : decode cX8_layFelt 158 = .ok (.iload 5, 2) := by decide +kernel
theorem dX8_layFelt_160 : decode cX8_layFelt 160 = .ok (.istore 5, 2) := by decide +kernel
theorem dX8_layFelt_162 : decode cX8_layFelt 162 = .ok (.aload_n 0, 1) := by decide +kernel
theorem dX8_layFelt_163 : decode cX8_layFelt 163 = .ok (.dup, 1) := by decide +kernel
theorem dX8_layFelt_164 : decode cX8_layFelt 164 = .ok (.getfield 214, 3) := by decide +kernel
theorem dX8_layFelt_167 : decode cX8_layFelt 167 = .ok (.iload 5, 2) := by decide +kernel
theorem dX8_layFelt_169 : decode cX8_layFelt 169 = .ok (.aload_n 0, 1) := by decide +kernel
theorem dX8_layFelt_170 : decode cX8_layFelt 170 = .ok (.getfield 28, 3) := by decide +kernel
theorem dX8_layFelt_173 : decode cX8_layFelt 173 = .ok (.iconst 4, 1) := by decide +kernel
theorem dX8_layFelt_174 : decode cX8_layFelt 174 = .ok (.iaload, 1) := by decide +kernel
theorem dX8_layFelt_175 : decode cX8_layFelt 175 = .ok (.if_icmp .le 9, 3) := by decide +kernel
theorem dX8_layFelt_178 : decode cX8_layFelt 178 = .ok (.iconst 1, 1) := by decide +kernel
theorem dX8_layFelt_179 : decode cX8_layFelt 179 = .ok (.iload_n 3, 1) := by decide +kernel
theorem dX8_layFelt_180 : decode cX8_layFelt 180 = .ok (.ishl, 1) := by decide +kernel
theorem dX8_layFelt_181 : decode cX8_layFelt 181 = .ok (.goto 4, 3) := by decide +kernel
theorem dX8_layFelt_184 : decode cX8_layFelt 184 = .ok (.iconst 0, 1) := by decide +kernel
theorem dX8_layFelt_185 : decode cX8_layFelt 185 = .ok (.ior, 1) := by decide +kernel
theorem dX8_layFelt_186 : decode cX8_layFelt 186 = .ok (.putfield 214, 3) := by decide +kernel
theorem dX8_layFelt_189 : decode cX8_layFelt 189 = .ok (.aload_n 0, 1) := by decide +kernel
theorem dX8_layFelt_190 : decode cX8_layFelt 190 = .ok (.getfield 50, 3) := by decide +kernel
theorem dX8_layFelt_193 : decode cX8_layFelt 193 = .ok (.iload_n 3, 1) := by decide +kernel
theorem dX8_layFelt_194 : decode cX8_layFelt 194 = .ok (.iload 5, 2) := by decide +kernel
theorem dX8_layFelt_196 : decode cX8_layFelt 196 = .ok (.aload_n 0, 1) := by decide +kernel
theorem dX8_layFelt_197 : decode cX8_layFelt 197 = .ok (.getfield 28, 3) := by decide +kernel
theorem dX8_layFelt_200 : decode cX8_layFelt 200 = .ok (.iconst 4, 1) := by decide +kernel
theorem dX8_layFelt_201 : decode cX8_layFelt 201 = .ok (.iaload, 1) := by decide +kernel
theorem dX8_layFelt_202 : decode cX8_layFelt 202 = .ok (.if_icmp .le 12, 3) := by decide +kernel
theorem dX8_layFelt_205 : decode cX8_layFelt 205 = .ok (.aload_n 0, 1) := by decide +kernel
theorem dX8_layFelt_206 : decode cX8_layFelt 206 = .ok (.getfield 28, 3) := by decide +kernel
theorem dX8_layFelt_209 : decode cX8_layFelt 209 = .ok (.iconst 4, 1) := by decide +kernel
theorem dX8_layFelt_210 : decode cX8_layFelt 210 = .ok (.iaload, 1) := by decide +kernel
theorem dX8_layFelt_211 : decode cX8_layFelt 211 = .ok (.goto 5, 3) := by decide +kernel
theorem dX8_layFelt_214 : decode cX8_layFelt 214 = .ok (.iload 5, 2) := by decide +kernel
theorem dX8_layFelt_216 : decode cX8_layFelt 216 = .ok (.iastore, 1) := by decide +kernel
theorem dX8_layFelt_217 : decode cX8_layFelt 217 = .ok (.iinc 3 1, 3) := by decide +kernel
theorem dX8_layFelt_220 : decode cX8_layFelt 220 = .ok (.goto (-207), 3) := by decide +kernel
theorem dX8_layFelt_223 : decode cX8_layFelt 223 = .ok (.return_, 1) := by decide +kernel
theorem dX8_point_0 : decode cX8_point 0 = .ok (.iload_n 1, 1) := by decide +kernel
theorem dX8_point_1 : decode cX8_point 1 = .ok (.invokestatic 172, 3) := by decide +kernel
theorem dX8_point_4 : decode cX8_point 4 = .ok (.ifCond .eq 22, 3) := by decide +kernel
theorem dX8_point_7 : decode cX8_point 7 = .ok (.iload_n 2, 1) := by decide +kernel
theorem dX8_point_8 : decode cX8_point 8 = .ok (.invokestatic 220, 3) := by decide +kernel
theorem dX8_point_11 : decode cX8_point 11 = .ok (.ifCond .eq 15, 3) := by decide +kernel
theorem dX8_point_14 : decode cX8_point 14 = .ok (.iload_n 3, 1) := by decide +kernel
theorem dX8_point_15 : decode cX8_point 15 = .ok (.i2l, 1) := by decide +kernel
theorem dX8_point_16 : decode cX8_point 16 = .ok (.lconst 0, 1) := by decide +kernel
theorem dX8_point_17 : decode cX8_point 17 = .ok (.ldc2_w 223, 3) := by decide +kernel
theorem dX8_point_20 : decode cX8_point 20 = .ok (.invokestatic 99, 3) := by decide +kernel
theorem dX8_point_23 : decode cX8_point 23 = .ok (.ifCond .ne 5, 3) := by decide +kernel
theorem dX8_point_26 : decode cX8_point 26 = .ok (.iconst (-1), 1) := by decide +kernel
theorem dX8_point_27 : decode cX8_point 27 = .ok (.ireturn, 1) := by decide +kernel
theorem dX8_point_28 : decode cX8_point 28 = .ok (.aload_n 0, 1) := by decide +kernel
theorem dX8_point_29 : decode cX8_point 29 = .ok (.iload_n 1, 1) := by decide +kernel
theorem dX8_point_30 : decode cX8_point 30 = .ok (.aload_n 0, 1) := by decide +kernel
theorem dX8_point_31 : decode cX8_point 31 = .ok (.getfield 37, 3) := by decide +kernel
theorem dX8_point_34 : decode cX8_point 34 = .ok (.invokevirtual 225, 3) := by decide +kernel
theorem dX8_point_37 : decode cX8_point 37 = .ok (.iload_n 3, 1) := by decide +kernel
theorem dX8_point_38 : decode cX8_point 38 = .ok (.ifCond .ne 12, 3) := by decide +kernel
theorem dX8_point_41 : decode cX8_point 41 = .ok (.aload_n 0, 1) := by decide +kernel
theorem dX8_point_42 : decode cX8_point 42 = .ok (.getfield 41, 3) := by decide +kernel
theorem dX8_point_45 : decode cX8_point 45 = .ok (.iload_n 2, 1) := by decide +kernel
theorem dX8_point_46 : decode cX8_point 46 = .ok (.iaload, 1) := by decide +kernel
theorem dX8_point_47 : decode cX8_point 47 = .ok (.goto 39, 3) := by decide +kernel
theorem dX8_point_50 : decode cX8_point 50 = .ok (.iload_n 3, 1) := by decide +kernel
theorem dX8_point_51 : decode cX8_point 51 = .ok (.iconst 1, 1) := by decide +kernel
theorem dX8_point_52 : decode cX8_point 52 = .ok (.if_icmp .ne 12, 3) := by decide +kernel
theorem dX8_point_55 : decode cX8_point 55 = .ok (.aload_n 0, 1) := by decide +kernel
theorem dX8_point_56 : decode cX8_point 56 = .ok (.getfield 47, 3) := by decide +kernel
theorem dX8_point_59 : decode cX8_point 59 = .ok (.iload_n 2, 1) := by decide +kernel
theorem dX8_point_60 : decode cX8_point 60 = .ok (.iaload, 1) := by decide +kernel
theorem dX8_point_61 : decode cX8_point 61 = .ok (.goto 25, 3) := by decide +kernel
theorem dX8_point_64 : decode cX8_point 64 = .ok (.iload_n 3, 1) := by decide +kernel
theorem dX8_point_65 : decode cX8_point 65 = .ok (.iconst 2, 1) := by decide +kernel
theorem dX8_point_66 : decode cX8_point 66 = .ok (.if_icmp .ne 12, 3) := by decide +kernel
theorem dX8_point_69 : decode cX8_point 69 = .ok (.aload_n 0, 1) := by decide +kernel
theorem dX8_point_70 : decode cX8_point 70 = .ok (.getfield 50, 3) := by decide +kernel
theorem dX8_point_73 : decode cX8_point 73 = .ok (.iload_n 2, 1) := by decide +kernel
theorem dX8_point_74 : decode cX8_point 74 = .ok (.iaload, 1) := by decide +kernel
theorem dX8_point_75 : decode cX8_point 75 = .ok (.goto 11, 3) := by decide +kernel
theorem dX8_point_78 : decode cX8_point 78 = .ok (.aload_n 0, 1) := by decide +kernel
theorem dX8_point_79 : decode cX8_point 79 = .ok (.getfield 214, 3) := by decide +kernel
theorem dX8_point_82 : decode cX8_point 82 = .ok (.iload_n 2, 1) := by decide +kernel
theorem dX8_point_83 : decode cX8_point 83 = .ok (.ishr, 1) := by decide +kernel
theorem dX8_point_84 : decode cX8_point 84 = .ok (.iconst 1, 1) := by decide +kernel
theorem dX8_point_85 : decode cX8_point 85 = .ok (.iand, 1) := by decide +kernel
theorem dX8_point_86 : decode cX8_point 86 = .ok (.ireturn, 1) := by decide +kernel
theorem dX8_feltSome_0 : decode cX8_feltSome 0 = .ok (.iconst 0, 1) := by decide +kernel
theorem dX8_feltSome_1 : decode cX8_feltSome 1 = .ok (.istore_n 1, 1) := by decide +kernel
theorem dX8_feltSome_2 : decode cX8_feltSome 2 = .ok (.iconst 0, 1) := by decide +kernel
theorem dX8_feltSome_3 : decode cX8_feltSome 3 = .ok (.istore_n 2, 1) := by decide +kernel
theorem dX8_feltSome_4 : decode cX8_feltSome 4 = .ok (.iload_n 2, 1) := by decide +kernel
theorem dX8_feltSome_5 : decode cX8_feltSome 5 = .ok (.bipush 16, 2) := by decide +kernel
theorem dX8_feltSome_7 : decode cX8_feltSome 7 = .ok (.if_icmp .ge 28, 3) := by decide +kernel
theorem dX8_feltSome_10 : decode cX8_feltSome 10 = .ok (.iload_n 1, 1) := by decide +kernel
theorem dX8_feltSome_11 : decode cX8_feltSome 11 = .ok (.aload_n 0, 1) := by decide +kernel
theorem dX8_feltSome_12 : decode cX8_feltSome 12 = .ok (.getfield 50, 3) := by decide +kernel
theorem dX8_feltSome_15 : decode cX8_feltSome 15 = .ok (.iload_n 2, 1) := by decide +kernel
theorem dX8_feltSome_16 : decode cX8_feltSome 16 = .ok (.iaload, 1) := by decide +kernel
theorem dX8_feltSome_17 : decode cX8_feltSome 17 = .ok (.ifCond .le 9, 3) := by decide +kernel
theorem dX8_feltSome_20 : decode cX8_feltSome 20 = .ok (.iconst 1, 1) := by decide +kernel
theorem dX8_feltSome_21 : decode cX8_feltSome 21 = .ok (.iload_n 2, 1) := by decide +kernel
theorem dX8_feltSome_22 : decode cX8_feltSome 22 = .ok (.ishl, 1) := by decide +kernel
theorem dX8_feltSome_23 : decode cX8_feltSome 23 = .ok (.goto 4, 3) := by decide +kernel
theorem dX8_feltSome_26 : decode cX8_feltSome 26 = .ok (.iconst 0, 1) := by decide +kernel
theorem dX8_feltSome_27 : decode cX8_feltSome 27 = .ok (.ior, 1) := by decide +kernel
theorem dX8_feltSome_28 : decode cX8_feltSome 28 = .ok (.istore_n 1, 1) := by decide +kernel
theorem dX8_feltSome_29 : decode cX8_feltSome 29 = .ok (.iinc 2 1, 3) := by decide +kernel
theorem dX8_feltSome_32 : decode cX8_feltSome 32 = .ok (.goto (-28), 3) := by decide +kernel
theorem dX8_feltSome_35 : decode cX8_feltSome 35 = .ok (.iload_n 1, 1) := by decide +kernel
theorem dX8_feltSome_36 : decode cX8_feltSome 36 = .ok (.ireturn, 1) := by decide +kernel
theorem dX8_feels_0 : decode cX8_feels 0 = .ok (.iload_n 1, 1) := by decide +kernel
theorem dX8_feels_1 : decode cX8_feels 1 = .ok (.invokestatic 172, 3) := by decide +kernel
theorem dX8_feels_4 : decode cX8_feels 4 = .ok (.ifCond .eq 15, 3) := by decide +kernel
theorem dX8_feels_7 : decode cX8_feels 7 = .ok (.iload_n 2, 1) := by decide +kernel
theorem dX8_feels_8 : decode cX8_feels 8 = .ok (.i2l, 1) := by decide +kernel
theorem dX8_feels_9 : decode cX8_feels 9 = .ok (.lconst 0, 1) := by decide +kernel
theorem dX8_feels_10 : decode cX8_feels 10 = .ok (.ldc2_w 228, 3) := by decide +kernel
theorem dX8_feels_13 : decode cX8_feels 13 = .ok (.invokestatic 99, 3) := by decide +kernel
theorem dX8_feels_16 : decode cX8_feels 16 = .ok (.ifCond .ne 5, 3) := by decide +kernel
theorem dX8_feels_19 : decode cX8_feels 19 = .ok (.iconst (-1), 1) := by decide +kernel
theorem dX8_feels_20 : decode cX8_feels 20 = .ok (.ireturn, 1) := by decide +kernel
theorem dX8_feels_21 : decode cX8_feels 21 = .ok (.aload_n 0, 1) := by decide +kernel
theorem dX8_feels_22 : decode cX8_feels 22 = .ok (.iload_n 1, 1) := by decide +kernel
theorem dX8_feels_23 : decode cX8_feels 23 = .ok (.aload_n 0, 1) := by decide +kernel
theorem dX8_feels_24 : decode cX8_feels 24 = .ok (.getfield 37, 3) := by decide +kernel
theorem dX8_feels_27 : decode cX8_feels 27 = .ok (.invokevirtual 225, 3) := by decide +kernel
theorem dX8_feels_30 : decode cX8_feels 30 = .ok (.iconst 0, 1) := by decide +kernel
theorem dX8_feels_31 : decode cX8_feels 31 = .ok (.istore_n 3, 1) := by decide +kernel
theorem dX8_feels_32 : decode cX8_feels 32 = .ok (.iconst 0, 1) := by decide +kernel
theorem dX8_feels_33 : decode cX8_feels 33 = .ok (.istore 4, 2) := by decide +kernel
theorem dX8_feels_35 : decode cX8_feels 35 = .ok (.iload 4, 2) := by decide +kernel
theorem dX8_feels_37 : decode cX8_feels 37 = .ok (.bipush 16, 2) := by decide +kernel
theorem dX8_feels_39 : decode cX8_feels 39 = .ok (.if_icmp .ge 19, 3) := by decide +kernel
theorem dX8_feels_42 : decode cX8_feels 42 = .ok (.iload_n 3, 1) := by decide +kernel
theorem dX8_feels_43 : decode cX8_feels 43 = .ok (.aload_n 0, 1) := by decide +kernel
theorem dX8_feels_44 : decode cX8_feels 44 = .ok (.getfield 50, 3) := by decide +kernel
theorem dX8_feels_47 : decode cX8_feels 47 = .ok (.iload 4, 2) := by decide +kernel
theorem dX8_feels_49 : decode cX8_feels 49 = .ok (.iaload, 1) := by decide +kernel
theorem dX8_feels_50 : decode cX8_feels 50 = .ok (.iadd, 1) := by decide +kernel
theorem dX8_feels_51 : decode cX8_feels 51 = .ok (.istore_n 3, 1) := by decide +kernel
theorem dX8_feels_52 : decode cX8_feels 52 = .ok (.iinc 4 1, 3) := by decide +kernel
theorem dX8_feels_55 : decode cX8_feels 55 = .ok (.goto (-20), 3) := by decide +kernel
theorem dX8_feels_58 : decode cX8_feels 58 = .ok (.iload_n 2, 1) := by decide +kernel
theorem dX8_feels_59 : decode cX8_feels 59 = .ok (.ifCond .ne 10, 3) := by decide +kernel
theorem dX8_feels_62 : decode cX8_feels 62 = .ok (.aload_n 0, 1) := by decide +kernel
theorem dX8_feels_63 : decode cX8_feels 63 = .ok (.invokevirtual 230, 3) := by decide +kernel
theorem dX8_feels_66 : decode cX8_feels 66 = .ok (.goto 16, 3) := by decide +kernel
theorem dX8_feels_69 : decode cX8_feels 69 = .ok (.iload_n 2, 1) := by decide +kernel
theorem dX8_feels_70 : decode cX8_feels 70 = .ok (.iconst 1, 1) := by decide +kernel
theorem dX8_feels_71 : decode cX8_feels 71 = .ok (.if_icmp .ne 10, 3) := by decide +kernel
theorem dX8_feels_74 : decode cX8_feels 74 = .ok (.aload_n 0, 1) := by decide +kernel
theorem dX8_feels_75 : decode cX8_feels 75 = .ok (.getfield 214, 3) := by decide +kernel
theorem dX8_feels_78 : decode cX8_feels 78 = .ok (.goto 4, 3) := by decide +kernel
theorem dX8_feels_81 : decode cX8_feels 81 = .ok (.iload_n 3, 1) := by decide +kernel
theorem dX8_feels_82 : decode cX8_feels 82 = .ok (.ireturn, 1) := by decide +kernel
theorem dX8_tiredSome_0 : decode cX8_tiredSome 0 = .ok (.iconst 0, 1) := by decide +kernel
theorem dX8_tiredSome_1 : decode cX8_tiredSome 1 = .ok (.istore_n 1, 1) := by decide +kernel
theorem dX8_tiredSome_2 : decode cX8_tiredSome 2 = .ok (.iconst 0, 1) := by decide +kernel
theorem dX8_tiredSome_3 : decode cX8_tiredSome 3 = .ok (.istore_n 2, 1) := by decide +kernel
theorem dX8_tiredSome_4 : decode cX8_tiredSome 4 = .ok (.iload_n 2, 1) := by decide +kernel
theorem dX8_tiredSome_5 : decode cX8_tiredSome 5 = .ok (.bipush 16, 2) := by decide +kernel
theorem dX8_tiredSome_7 : decode cX8_tiredSome 7 = .ok (.if_icmp .ge 28, 3) := by decide +kernel
theorem dX8_tiredSome_10 : decode cX8_tiredSome 10 = .ok (.iload_n 1, 1) := by decide +kernel
theorem dX8_tiredSome_11 : decode cX8_tiredSome 11 = .ok (.aload_n 0, 1) := by decide +kernel
theorem dX8_tiredSome_12 : decode cX8_tiredSome 12 = .ok (.getfield 53, 3) := by decide +kernel
theorem dX8_tiredSome_15 : decode cX8_tiredSome 15 = .ok (.iload_n 2, 1) := by decide +kernel
theorem dX8_tiredSome_16 : decode cX8_tiredSome 16 = .ok (.iaload, 1) := by decide +kernel
theorem dX8_tiredSome_17 : decode cX8_tiredSome 17 = .ok (.ifCond .le 9, 3) := by decide +kernel
theorem dX8_tiredSome_20 : decode cX8_tiredSome 20 = .ok (.iconst 1, 1) := by decide +kernel
theorem dX8_tiredSome_21 : decode cX8_tiredSome 21 = .ok (.iload_n 2, 1) := by decide +kernel
theorem dX8_tiredSome_22 : decode cX8_tiredSome 22 = .ok (.ishl, 1) := by decide +kernel
theorem dX8_tiredSome_23 : decode cX8_tiredSome 23 = .ok (.goto 4, 3) := by decide +kernel
theorem dX8_tiredSome_26 : decode cX8_tiredSome 26 = .ok (.iconst 0, 1) := by decide +kernel
theorem dX8_tiredSome_27 : decode cX8_tiredSome 27 = .ok (.ior, 1) := by decide +kernel
theorem dX8_tiredSome_28 : decode cX8_tiredSome 28 = .ok (.istore_n 1, 1) := by decide +kernel
theorem dX8_tiredSome_29 : decode cX8_tiredSome 29 = .ok (.iinc 2 1, 3) := by decide +kernel
theorem dX8_tiredSome_32 : decode cX8_tiredSome 32 = .ok (.goto (-28), 3) := by decide +kernel
theorem dX8_tiredSome_35 : decode cX8_tiredSome 35 = .ok (.iload_n 1, 1) := by decide +kernel
theorem dX8_tiredSome_36 : decode cX8_tiredSome 36 = .ok (.ireturn, 1) := by decide +kernel
theorem dX8_learns_0 : decode cX8_learns 0 = .ok (.aload_n 0, 1) := by decide +kernel
theorem dX8_learns_1 : decode cX8_learns 1 = .ok (.aload_n 0, 1) := by decide +kernel
theorem dX8_learns_2 : decode cX8_learns 2 = .ok (.getfield 234, 3) := by decide +kernel
theorem dX8_learns_5 : decode cX8_learns 5 = .ok (.iload_n 1, 1) := by decide +kernel
theorem dX8_learns_6 : decode cX8_learns 6 = .ok (.iadd, 1) := by decide +kernel
theorem dX8_learns_7 : decode cX8_learns 7 = .ok (.sipush 999, 3) := by decide +kernel
theorem dX8_learns_10 : decode cX8_learns 10 = .ok (.if_icmp .le 9, 3) := by decide +kernel
theorem dX8_learns_13 : decode cX8_learns 13 = .ok (.sipush 999, 3) := by decide +kernel
theorem dX8_learns_16 : decode cX8_learns 16 = .ok (.goto 9, 3) := by decide +kernel
theorem dX8_learns_19 : decode cX8_learns 19 = .ok (.aload_n 0, 1) := by decide +kernel
theorem dX8_learns_20 : decode cX8_learns 20 = .ok (.getfield 234, 3) := by decide +kernel
theorem dX8_learns_23 : decode cX8_learns 23 = .ok (.iload_n 1, 1) := by decide +kernel
theorem dX8_learns_24 : decode cX8_learns 24 = .ok (.iadd, 1) := by decide +kernel
theorem dX8_learns_25 : decode cX8_learns 25 = .ok (.putfield 234, 3) := by decide +kernel
theorem dX8_learns_28 : decode cX8_learns 28 = .ok (.return_, 1) := by decide +kernel
theorem dX8_tenths_0 : decode cX8_tenths 0 = .ok (.iload_n 1, 1) := by decide +kernel
theorem dX8_tenths_1 : decode cX8_tenths 1 = .ok (.invokestatic 172, 3) := by decide +kernel
theorem dX8_tenths_4 : decode cX8_tenths 4 = .ok (.ifCond .eq 15, 3) := by decide +kernel
theorem dX8_tenths_7 : decode cX8_tenths 7 = .ok (.iload_n 2, 1) := by decide +kernel
theorem dX8_tenths_8 : decode cX8_tenths 8 = .ok (.i2l, 1) := by decide +kernel
theorem dX8_tenths_9 : decode cX8_tenths 9 = .ok (.lconst 1, 1) := by decide +kernel
theorem dX8_tenths_10 : decode cX8_tenths 10 = .ok (.ldc2_w 164, 3) := by decide +kernel
theorem dX8_tenths_13 : decode cX8_tenths 13 = .ok (.invokestatic 99, 3) := by decide +kernel
theorem dX8_tenths_16 : decode cX8_tenths 16 = .ok (.ifCond .ne 5, 3) := by decide +kernel
theorem dX8_tenths_19 : decode cX8_tenths 19 = .ok (.iconst (-1), 1) := by decide +kernel
theorem dX8_tenths_20 : decode cX8_tenths 20 = .ok (.ireturn, 1) := by decide +kernel
theorem dX8_tenths_21 : decode cX8_tenths 21 = .ok (.iconst 0, 1) := by decide +kernel
theorem dX8_tenths_22 : decode cX8_tenths 22 = .ok (.istore_n 3, 1) := by decide +kernel
theorem dX8_tenths_23 : decode cX8_tenths 23 = .ok (.iload_n 3, 1) := by decide +kernel
theorem dX8_tenths_24 : decode cX8_tenths 24 = .ok (.iload_n 2, 1) := by decide +kernel
theorem dX8_tenths_25 : decode cX8_tenths 25 = .ok (.if_icmp .ge 89, 3) := by decide +kernel
theorem dX8_tenths_28 : decode cX8_tenths 28 = .ok (.aload_n 0, 1) := by decide +kernel
theorem dX8_tenths_29 : decode cX8_tenths 29 = .ok (.iload_n 1, 1) := by decide +kernel
theorem dX8_tenths_30 : decode cX8_tenths 30 = .ok (.aload_n 0, 1) := by decide +kernel
theorem dX8_tenths_31 : decode cX8_tenths 31 = .ok (.getfield 37, 3) := by decide +kernel
theorem dX8_tenths_34 : decode cX8_tenths 34 = .ok (.invokevirtual 225, 3) := by decide +kernel
theorem dX8_tenths_37 : decode cX8_tenths 37 = .ok (.iconst 0, 1) := by decide +kernel
theorem dX8_tenths_38 : decode cX8_tenths 38 = .ok (.istore 4, 2) := by decide +kernel
theorem dX8_tenths_40 : decode cX8_tenths 40 = .ok (.iload 4, 2) := by decide +kernel
theorem dX8_tenths_42 : decode cX8_tenths 42 = .ok (.bipush 16, 2) := by decide +kernel
theorem dX8_tenths_44 : decode cX8_tenths 44 = .ok (.if_icmp .ge 64, 3) := by decide +kernel
theorem dX8_tenths_47 : decode cX8_tenths 47 = .ok (.aload_n 0, 1) := by decide +kernel
theorem dX8_tenths_48 : decode cX8_tenths 48 = .ok (.getfield 53, 3) := by decide +kernel
theorem dX8_tenths_51 : decode cX8_tenths 51 = .ok (.iload 4, 2) := by decide +kernel
theorem dX8_tenths_53 : decode cX8_tenths 53 = .ok (.iaload, 1) := by decide +kernel
theorem dX8_tenths_54 : decode cX8_tenths 54 = .ok (.aload_n 0, 1) := by decide +kernel
theorem dX8_tenths_55 : decode cX8_tenths 55 = .ok (.getfield 50, 3) := by decide +kernel
theorem dX8_tenths_58 : decode cX8_tenths 58 = .ok (.iload 4, 2) := by decide +kernel
theorem dX8_tenths_60 : decode cX8_tenths 60 = .ok (.iaload, 1) := by decide +kernel
theorem dX8_tenths_61 : decode cX8_tenths 61 = .ok (.ifCond .le 7, 3) := by decide +kernel
theorem dX8_tenths_64 : decode cX8_tenths 64 = .ok (.iconst 1, 1) := by decide +kernel
theorem dX8_tenths_65 : decode cX8_tenths 65 = .ok (.goto 4, 3) := by decide +kernel
theorem dX8_tenths_68 : decode cX8_tenths 68 = .ok (.iconst (-1), 1) := by decide +kernel
theorem dX8_tenths_69 : decode cX8_tenths 69 = .ok (.iadd, 1) := by decide +kernel
theorem dX8_tenths_70 : decode cX8_tenths 70 = .ok (.istore 5, 2) := by decide +kernel
theorem dX8_tenths_72 : decode cX8_tenths 72 = .ok (.aload_n 0, 1) := by decide +kernel
theorem dX8_tenths_73 : decode cX8_tenths 73 = .ok (.getfield 53, 3) := by decide +kernel
theorem dX8_tenths_76 : decode cX8_tenths 76 = .ok (.iload 4, 2) := by decide +kernel
theorem dX8_tenths_78 : decode cX8_tenths 78 = .ok (.iload 5, 2) := by decide +kernel
theorem dX8_tenths_80 : decode cX8_tenths 80 = .ok (.ifCond .ge 7, 3) := by decide +kernel
theorem dX8_tenths_83 : decode cX8_tenths 83 = .ok (.iconst 0, 1) := by decide +kernel
theorem dX8_tenths_84 : decode cX8_tenths 84 = .ok (.goto 17, 3) := by decide +kernel
theorem dX8_tenths_87 : decode cX8_tenths 87 = .ok (.iload 5, 2) := by decide +kernel
theorem dX8_tenths_89 : decode cX8_tenths 89 = .ok (.bipush 9, 2) := by decide +kernel
theorem dX8_tenths_91 : decode cX8_tenths 91 = .ok (.if_icmp .le 8, 3) := by decide +kernel
theorem dX8_tenths_94 : decode cX8_tenths 94 = .ok (.bipush 9, 2) := by decide +kernel
theorem dX8_tenths_96 : decode cX8_tenths 96 = .ok (.goto 5, 3) := by decide +kernel
theorem dX8_tenths_99 : decode cX8_tenths 99 = .ok (.iload 5, 2) := by decide +kernel
theorem dX8_tenths_101 : decode cX8_tenths 101 = .ok (.iastore, 1) := by decide +kernel
theorem dX8_tenths_102 : decode cX8_tenths 102 = .ok (.iinc 4 1, 3) := by decide +kernel
theorem dX8_tenths_105 : decode cX8_tenths 105 = .ok (.goto (-65), 3) := by decide +kernel
theorem dX8_tenths_108 : decode cX8_tenths 108 = .ok (.iinc 3 1, 3) := by decide +kernel
theorem dX8_tenths_111 : decode cX8_tenths 111 = .ok (.goto (-88), 3) := by decide +kernel
theorem dX8_tenths_114 : decode cX8_tenths 114 = .ok (.aload_n 0, 1) := by decide +kernel
theorem dX8_tenths_115 : decode cX8_tenths 115 = .ok (.iload_n 2, 1) := by decide +kernel
theorem dX8_tenths_116 : decode cX8_tenths 116 = .ok (.aload_n 0, 1) := by decide +kernel
theorem dX8_tenths_117 : decode cX8_tenths 117 = .ok (.getfield 28, 3) := by decide +kernel
theorem dX8_tenths_120 : decode cX8_tenths 120 = .ok (.bipush 9, 2) := by decide +kernel
theorem dX8_tenths_122 : decode cX8_tenths 122 = .ok (.iaload, 1) := by decide +kernel
theorem dX8_tenths_123 : decode cX8_tenths 123 = .ok (.imul, 1) := by decide +kernel
theorem dX8_tenths_124 : decode cX8_tenths 124 = .ok (.invokevirtual 237, 3) := by decide +kernel
theorem dX8_tenths_127 : decode cX8_tenths 127 = .ok (.aload_n 0, 1) := by decide +kernel
theorem dX8_tenths_128 : decode cX8_tenths 128 = .ok (.invokevirtual 240, 3) := by decide +kernel
theorem dX8_tenths_131 : decode cX8_tenths 131 = .ok (.ireturn, 1) := by decide +kernel
theorem dX8_tired_0 : decode cX8_tired 0 = .ok (.iload_n 1, 1) := by decide +kernel
theorem dX8_tired_1 : decode cX8_tired 1 = .ok (.invokestatic 220, 3) := by decide +kernel
theorem dX8_tired_4 : decode cX8_tired 4 = .ok (.ifCond .eq 12, 3) := by decide +kernel
theorem dX8_tired_7 : decode cX8_tired 7 = .ok (.aload_n 0, 1) := by decide +kernel
theorem dX8_tired_8 : decode cX8_tired 8 = .ok (.getfield 53, 3) := by decide +kernel
theorem dX8_tired_11 : decode cX8_tired 11 = .ok (.iload_n 1, 1) := by decide +kernel
theorem dX8_tired_12 : decode cX8_tired 12 = .ok (.iaload, 1) := by decide +kernel
theorem dX8_tired_13 : decode cX8_tired 13 = .ok (.goto 4, 3) := by decide +kernel
theorem dX8_tired_16 : decode cX8_tired 16 = .ok (.iconst (-1), 1) := by decide +kernel
theorem dX8_tired_17 : decode cX8_tired 17 = .ok (.ireturn, 1) := by decide +kernel
theorem dX8_rest_0 : decode cX8_rest 0 = .ok (.aload_n 0, 1) := by decide +kernel
theorem dX8_rest_1 : decode cX8_rest 1 = .ok (.invokevirtual 240, 3) := by decide +kernel
theorem dX8_rest_4 : decode cX8_rest 4 = .ok (.istore_n 1, 1) := by decide +kernel
theorem dX8_rest_5 : decode cX8_rest 5 = .ok (.iconst 0, 1) := by decide +kernel
theorem dX8_rest_6 : decode cX8_rest 6 = .ok (.istore_n 2, 1) := by decide +kernel
theorem dX8_rest_7 : decode cX8_rest 7 = .ok (.iload_n 2, 1) := by decide +kernel
theorem dX8_rest_8 : decode cX8_rest 8 = .ok (.bipush 16, 2) := by decide +kernel
theorem dX8_rest_10 : decode cX8_rest 10 = .ok (.if_icmp .ge 16, 3) := by decide +kernel
theorem dX8_rest_13 : decode cX8_rest 13 = .ok (.aload_n 0, 1) := by decide +kernel
theorem dX8_rest_14 : decode cX8_rest 14 = .ok (.getfield 53, 3) := by decide +kernel
theorem dX8_rest_17 : decode cX8_rest 17 = .ok (.iload_n 2, 1) := by decide +kernel
theorem dX8_rest_18 : decode cX8_rest 18 = .ok (.iconst 0, 1) := by decide +kernel
theorem dX8_rest_19 : decode cX8_rest 19 = .ok (.iastore, 1) := by decide +kernel
theorem dX8_rest_20 : decode cX8_rest 20 = .ok (.iinc 2 1, 3) := by decide +kernel
theorem dX8_rest_23 : decode cX8_rest 23 = .ok (.goto (-16), 3) := by decide +kernel
theorem dX8_rest_26 : decode cX8_rest 26 = .ok (.iload_n 1, 1) := by decide +kernel
theorem dX8_rest_27 : decode cX8_rest 27 = .ok (.ireturn, 1) := by decide +kernel
theorem dX8_areAlike_0 : decode cX8_areAlike 0 = .ok (.aload_n 0, 1) := by decide +kernel
theorem dX8_areAlike_1 : decode cX8_areAlike 1 = .ok (.iload_n 1, 1) := by decide +kernel
theorem dX8_areAlike_2 : decode cX8_areAlike 2 = .ok (.iload_n 3, 1) := by decide +kernel
theorem dX8_areAlike_3 : decode cX8_areAlike 3 = .ok (.invokevirtual 225, 3) := by decide +kernel
theorem dX8_areAlike_6 : decode cX8_areAlike 6 = .ok (.iconst 0, 1) := by decide +kernel
theorem dX8_areAlike_7 : decode cX8_areAlike 7 = .ok (.istore 4, 2) := by decide +kernel
theorem dX8_areAlike_9 : decode cX8_areAlike 9 = .ok (.iload 4, 2) := by decide +kernel
theorem dX8_areAlike_11 : decode cX8_areAlike 11 = .ok (.bipush 16, 2) := by decide +kernel
theorem dX8_areAlike_13 : decode cX8_areAlike 13 = .ok (.if_icmp .ge 23, 3) := by decide +kernel
theorem dX8_areAlike_16 : decode cX8_areAlike 16 = .ok (.aload_n 0, 1) := by decide +kernel
theorem dX8_areAlike_17 : decode cX8_areAlike 17 = .ok (.getfield 59, 3) := by decide +kernel
theorem dX8_areAlike_20 : decode cX8_areAlike 20 = .ok (.iload 4, 2) := by decide +kernel
theorem dX8_areAlike_22 : decode cX8_areAlike 22 = .ok (.aload_n 0, 1) := by decide +kernel
theorem dX8_areAlike_23 : decode cX8_areAlike 23 = .ok (.getfield 50, 3) := by decide +kernel
theorem dX8_areAlike_26 : decode cX8_areAlike 26 = .ok (.iload 4, 2) := by decide +kernel
theorem dX8_areAlike_28 : decode cX8_areAlike 28 = .ok (.iaload, 1) := by decide +kernel
theorem dX8_areAlike_29 : decode cX8_areAlike 29 = .ok (.iastore, 1) := by decide +kernel
theorem dX8_areAlike_30 : decode cX8_areAlike 30 = .ok (.iinc 4 1, 3) := by decide +kernel
theorem dX8_areAlike_33 : decode cX8_areAlike 33 = .ok (.goto (-24), 3) := by decide +kernel
theorem dX8_areAlike_36 : decode cX8_areAlike 36 = .ok (.aload_n 0, 1) := by decide +kernel
theorem dX8_areAlike_37 : decode cX8_areAlike 37 = .ok (.iload_n 2, 1) := by decide +kernel
theorem dX8_areAlike_38 : decode cX8_areAlike 38 = .ok (.iload_n 3, 1) := by decide +kernel
theorem dX8_areAlike_39 : decode cX8_areAlike 39 = .ok (.invokevirtual 225, 3) := by decide +kernel
theorem dX8_areAlike_42 : decode cX8_areAlike 42 = .ok (.iconst 1, 1) := by decide +kernel
theorem dX8_areAlike_43 : decode cX8_areAlike 43 = .ok (.istore 4, 2) := by decide +kernel
theorem dX8_areAlike_45 : decode cX8_areAlike 45 = .ok (.iconst 0, 1) := by decide +kernel
theorem dX8_areAlike_46 : decode cX8_areAlike 46 = .ok (.istore 5, 2) := by decide +kernel
theorem dX8_areAlike_48 : decode cX8_areAlike 48 = .ok (.iload 5, 2) := by decide +kernel
theorem dX8_areAlike_50 : decode cX8_areAlike 50 = .ok (.bipush 16, 2) := by decide +kernel
theorem dX8_areAlike_52 : decode cX8_areAlike 52 = .ok (.if_icmp .ge 38, 3) := by decide +kernel
theorem dX8_areAlike_55 : decode cX8_areAlike 55 = .ok (.iload 4, 2) := by decide +kernel
theorem dX8_areAlike_57 : decode cX8_areAlike 57 = .ok (.ifCond .eq 24, 3) := by decide +kernel
theorem dX8_areAlike_60 : decode cX8_areAlike 60 = .ok (.aload_n 0, 1) := by decide +kernel
theorem dX8_areAlike_61 : decode cX8_areAlike 61 = .ok (.getfield 59, 3) := by decide +kernel
theorem dX8_areAlike_64 : decode cX8_areAlike 64 = .ok (.iload 5, 2) := by decide +kernel
theorem dX8_areAlike_66 : decode cX8_areAlike 66 = .ok (.iaload, 1) := by decide +kernel
theorem dX8_areAlike_67 : decode cX8_areAlike 67 = .ok (.aload_n 0, 1) := by decide +kernel
theorem dX8_areAlike_68 : decode cX8_areAlike 68 = .ok (.getfield 50, 3) := by decide +kernel
theorem dX8_areAlike_71 : decode cX8_areAlike 71 = .ok (.iload 5, 2) := by decide +kernel
theorem dX8_areAlike_73 : decode cX8_areAlike 73 = .ok (.iaload, 1) := by decide +kernel
theorem dX8_areAlike_74 : decode cX8_areAlike 74 = .ok (.if_icmp .ne 7, 3) := by decide +kernel
theorem dX8_areAlike_77 : decode cX8_areAlike 77 = .ok (.iconst 1, 1) := by decide +kernel
theorem dX8_areAlike_78 : decode cX8_areAlike 78 = .ok (.goto 4, 3) := by decide +kernel
theorem dX8_areAlike_81 : decode cX8_areAlike 81 = .ok (.iconst 0, 1) := by decide +kernel
theorem dX8_areAlike_82 : decode cX8_areAlike 82 = .ok (.istore 4, 2) := by decide +kernel
theorem dX8_areAlike_84 : decode cX8_areAlike 84 = .ok (.iinc 5 1, 3) := by decide +kernel
theorem dX8_areAlike_87 : decode cX8_areAlike 87 = .ok (.goto (-39), 3) := by decide +kernel
theorem dX8_areAlike_90 : decode cX8_areAlike 90 = .ok (.iload 4, 2) := by decide +kernel
theorem dX8_areAlike_92 : decode cX8_areAlike 92 = .ok (.ireturn, 1) := by decide +kernel
theorem dX8_layTwins_0 : decode cX8_layTwins 0 = .ok (.iconst 0, 1) := by decide +kernel
theorem dX8_layTwins_1 : decode cX8_layTwins 1 = .ok (.istore_n 1, 1) := by decide +kernel
theorem dX8_layTwins_2 : decode cX8_layTwins 2 = .ok (.iload_n 1, 1) := by decide +kernel
theorem dX8_layTwins_3 : decode cX8_layTwins 3 = .ok (.bipush 26, 2) := by decide +kernel
theorem dX8_layTwins_5 : decode cX8_layTwins 5 = .ok (.if_icmp .ge 75, 3) := by decide +kernel
theorem dX8_layTwins_8 : decode cX8_layTwins 8 = .ok (.iconst 0, 1) := by decide +kernel
theorem dX8_layTwins_9 : decode cX8_layTwins 9 = .ok (.istore_n 2, 1) := by decide +kernel
theorem dX8_layTwins_10 : decode cX8_layTwins 10 = .ok (.iload_n 2, 1) := by decide +kernel
theorem dX8_layTwins_11 : decode cX8_layTwins 11 = .ok (.bipush 6, 2) := by decide +kernel
theorem dX8_layTwins_13 : decode cX8_layTwins 13 = .ok (.if_icmp .ge 61, 3) := by decide +kernel
theorem dX8_layTwins_16 : decode cX8_layTwins 16 = .ok (.iconst 0, 1) := by decide +kernel
theorem dX8_layTwins_17 : decode cX8_layTwins 17 = .ok (.istore_n 3, 1) := by decide +kernel
theorem dX8_layTwins_18 : decode cX8_layTwins 18 = .ok (.iconst 0, 1) := by decide +kernel
theorem dX8_layTwins_19 : decode cX8_layTwins 19 = .ok (.istore 4, 2) := by decide +kernel
theorem dX8_layTwins_21 : decode cX8_layTwins 21 = .ok (.iload 4, 2) := by decide +kernel
theorem dX8_layTwins_23 : decode cX8_layTwins 23 = .ok (.bipush 6, 2) := by decide +kernel
theorem dX8_layTwins_25 : decode cX8_layTwins 25 = .ok (.if_icmp .ge 31, 3) := by decide +kernel
theorem dX8_layTwins_28 : decode cX8_layTwins 28 = .ok (.iload_n 3, 1) := by decide +kernel
theorem dX8_layTwins_29 : decode cX8_layTwins 29 = .ok (.aload_n 0, 1) := by decide +kernel
theorem dX8_layTwins_30 : decode cX8_layTwins 30 = .ok (.iload_n 2, 1) := by decide +kernel
theorem dX8_layTwins_31 : decode cX8_layTwins 31 = .ok (.iload 4, 2) := by decide +kernel
theorem dX8_layTwins_33 : decode cX8_layTwins 33 = .ok (.iload_n 1, 1) := by decide +kernel
theorem dX8_layTwins_34 : decode cX8_layTwins 34 = .ok (.invokevirtual 243, 3) := by decide +kernel
theorem dX8_layTwins_37 : decode cX8_layTwins 37 = .ok (.ifCond .eq 10, 3) := by decide +kernel
theorem dX8_layTwins_40 : decode cX8_layTwins 40 = .ok (.iconst 1, 1) := by decide +kernel
theorem dX8_layTwins_41 : decode cX8_layTwins 41 = .ok (.iload 4, 2) := by decide +kernel
theorem dX8_layTwins_43 : decode cX8_layTwins 43 = .ok (.ishl, 1) := by decide +kernel
theorem dX8_layTwins_44 : decode cX8_layTwins 44 = .ok (.goto 4, 3) := by decide +kernel
theorem dX8_layTwins_47 : decode cX8_layTwins 47 = .ok (.iconst 0, 1) := by decide +kernel
theorem dX8_layTwins_48 : decode cX8_layTwins 48 = .ok (.ior, 1) := by decide +kernel
theorem dX8_layTwins_49 : decode cX8_layTwins 49 = .ok (.istore_n 3, 1) := by decide +kernel
theorem dX8_layTwins_50 : decode cX8_layTwins 50 = .ok (.iinc 4 1, 3) := by decide +kernel
theorem dX8_layTwins_53 : decode cX8_layTwins 53 = .ok (.goto (-32), 3) := by decide +kernel
theorem dX8_layTwins_56 : decode cX8_layTwins 56 = .ok (.aload_n 0, 1) := by decide +kernel
theorem dX8_layTwins_57 : decode cX8_layTwins 57 = .ok (.getfield 56, 3) := by decide +kernel
theorem dX8_layTwins_60 : decode cX8_layTwins 60 = .ok (.bipush 6, 2) := by decide +kernel
theorem dX8_layTwins_62 : decode cX8_layTwins 62 = .ok (.iload_n 1, 1) := by decide +kernel
theorem dX8_layTwins_63 : decode cX8_layTwins 63 = .ok (.imul, 1) := by decide +kernel
theorem dX8_layTwins_64 : decode cX8_layTwins 64 = .ok (.iload_n 2, 1) := by decide +kernel
theorem dX8_layTwins_65 : decode cX8_layTwins 65 = .ok (.iadd, 1) := by decide +kernel
theorem dX8_layTwins_66 : decode cX8_layTwins 66 = .ok (.iload_n 3, 1) := by decide +kernel
theorem dX8_layTwins_67 : decode cX8_layTwins 67 = .ok (.iastore, 1) := by decide +kernel
theorem dX8_layTwins_68 : decode cX8_layTwins 68 = .ok (.iinc 2 1, 3) := by decide +kernel
theorem dX8_layTwins_71 : decode cX8_layTwins 71 = .ok (.goto (-61), 3) := by decide +kernel
theorem dX8_layTwins_74 : decode cX8_layTwins 74 = .ok (.iinc 1 1, 3) := by decide +kernel
theorem dX8_layTwins_77 : decode cX8_layTwins 77 = .ok (.goto (-75), 3) := by decide +kernel
theorem dX8_layTwins_80 : decode cX8_layTwins 80 = .ok (.return_, 1) := by decide +kernel
theorem dX8_alike_0 : decode cX8_alike 0 = .ok (.iload_n 1, 1) := by decide +kernel
theorem dX8_alike_1 : decode cX8_alike 1 = .ok (.invokestatic 172, 3) := by decide +kernel
theorem dX8_alike_4 : decode cX8_alike 4 = .ok (.ifCond .eq 31, 3) := by decide +kernel
theorem dX8_alike_7 : decode cX8_alike 7 = .ok (.iload_n 2, 1) := by decide +kernel
theorem dX8_alike_8 : decode cX8_alike 8 = .ok (.invokestatic 172, 3) := by decide +kernel
theorem dX8_alike_11 : decode cX8_alike 11 = .ok (.ifCond .eq 24, 3) := by decide +kernel
theorem dX8_alike_14 : decode cX8_alike 14 = .ok (.aload_n 0, 1) := by decide +kernel
theorem dX8_alike_15 : decode cX8_alike 15 = .ok (.iload_n 1, 1) := by decide +kernel
theorem dX8_alike_16 : decode cX8_alike 16 = .ok (.iload_n 2, 1) := by decide +kernel
theorem dX8_alike_17 : decode cX8_alike 17 = .ok (.aload_n 0, 1) := by decide +kernel
theorem dX8_alike_18 : decode cX8_alike 18 = .ok (.getfield 37, 3) := by decide +kernel
theorem dX8_alike_21 : decode cX8_alike 21 = .ok (.invokevirtual 243, 3) := by decide +kernel
theorem dX8_alike_24 : decode cX8_alike 24 = .ok (.ifCond .eq 7, 3) := by decide +kernel
theorem dX8_alike_27 : decode cX8_alike 27 = .ok (.iconst 1, 1) := by decide +kernel
theorem dX8_alike_28 : decode cX8_alike 28 = .ok (.goto 8, 3) := by decide +kernel
theorem dX8_alike_31 : decode cX8_alike 31 = .ok (.iconst 0, 1) := by decide +kernel
theorem dX8_alike_32 : decode cX8_alike 32 = .ok (.goto 4, 3) := by decide +kernel
theorem dX8_alike_35 : decode cX8_alike 35 = .ok (.iconst (-1), 1) := by decide +kernel
theorem dX8_alike_36 : decode cX8_alike 36 = .ok (.ireturn, 1) := by decide +kernel
theorem dX8_layFar_0 : decode cX8_layFar 0 = .ok (.iconst 0, 1) := by decide +kernel
theorem dX8_layFar_1 : decode cX8_layFar 1 = .ok (.istore_n 2, 1) := by decide +kernel
theorem dX8_layFar_2 : decode cX8_layFar 2 = .ok (.iload_n 2, 1) := by decide +kernel
theorem dX8_layFar_3 : decode cX8_layFar 3 = .ok (.bipush 26, 2) := by decide +kernel
theorem dX8_layFar_5 : decode cX8_layFar 5 = .ok (.if_icmp .ge 30, 3) := by decide +kernel
theorem dX8_layFar_8 : decode cX8_layFar 8 = .ok (.aload_n 0, 1) := by decide +kernel
theorem dX8_layFar_9 : decode cX8_layFar 9 = .ok (.getfield 62, 3) := by decide +kernel
theorem dX8_layFar_12 : decode cX8_layFar 12 = .ok (.iload_n 2, 1) := by decide +kernel
theorem dX8_layFar_13 : decode cX8_layFar 13 = .ok (.iload_n 1, 1) := by decide +kernel
theorem dX8_layFar_14 : decode cX8_layFar 14 = .ok (.iload_n 2, 1) := by decide +kernel
theorem dX8_layFar_15 : decode cX8_layFar 15 = .ok (.ishr, 1) := by decide +kernel
theorem dX8_layFar_16 : decode cX8_layFar 16 = .ok (.iconst 1, 1) := by decide +kernel
theorem dX8_layFar_17 : decode cX8_layFar 17 = .ok (.iand, 1) := by decide +kernel
theorem dX8_layFar_18 : decode cX8_layFar 18 = .ok (.iconst 1, 1) := by decide +kernel
theorem dX8_layFar_19 : decode cX8_layFar 19 = .ok (.if_icmp .ne 8, 3) := by decide +kernel
theorem dX8_layFar_22 : decode cX8_layFar 22 = .ok (.bipush 100, 2) := by decide +kernel
theorem dX8_layFar_24 : decode cX8_layFar 24 = .ok (.goto 4, 3) := by decide +kernel
theorem dX8_layFar_27 : decode cX8_layFar 27 = .ok (.iconst 0, 1) := by decide +kernel
theorem dX8_layFar_28 : decode cX8_layFar 28 = .ok (.iastore, 1) := by decide +kernel
theorem dX8_layFar_29 : decode cX8_layFar 29 = .ok (.iinc 2 1, 3) := by decide +kernel
theorem dX8_layFar_32 : decode cX8_layFar 32 = .ok (.goto (-30), 3) := by decide +kernel
theorem dX8_layFar_35 : decode cX8_layFar 35 = .ok (.iconst 0, 1) := by decide +kernel
theorem dX8_layFar_36 : decode cX8_layFar 36 = .ok (.istore_n 2, 1) := by decide +kernel
theorem dX8_layFar_37 : decode cX8_layFar 37 = .ok (.iload_n 2, 1) := by decide +kernel
theorem dX8_layFar_38 : decode cX8_layFar 38 = .ok (.bipush 26, 2) := by decide +kernel
theorem dX8_layFar_40 : decode cX8_layFar 40 = .ok (.if_icmp .ge 82, 3) := by decide +kernel
theorem dX8_layFar_43 : decode cX8_layFar 43 = .ok (.iconst 0, 1) := by decide +kernel
theorem dX8_layFar_44 : decode cX8_layFar 44 = .ok (.istore_n 3, 1) := by decide +kernel
theorem dX8_layFar_45 : decode cX8_layFar 45 = .ok (.iload_n 3, 1) := by decide +kernel
theorem dX8_layFar_46 : decode cX8_layFar 46 = .ok (.bipush 26, 2) := by decide +kernel
theorem dX8_layFar_48 : decode cX8_layFar 48 = .ok (.if_icmp .ge 68, 3) := by decide +kernel
theorem dX8_layFar_51 : decode cX8_layFar 51 = .ok (.iconst 0, 1) := by decide +kernel
theorem dX8_layFar_52 : decode cX8_layFar 52 = .ok (.istore 4, 2) := by decide +kernel
theorem dX8_layFar_54 : decode cX8_layFar 54 = .ok (.iload 4, 2) := by decide +kernel
theorem dX8_layFar_56 : decode cX8_layFar 56 = .ok (.bipush 6, 2) := by decide +kernel
theorem dX8_layFar_58 : decode cX8_layFar 58 = .ok (.if_icmp .ge 52, 3) := by decide +kernel
theorem dX8_layFar_61 : decode cX8_layFar 61 = .ok (.aload_n 0, 1) := by decide +kernel
theorem dX8_layFar_62 : decode cX8_layFar 62 = .ok (.getfield 62, 3) := by decide +kernel
theorem dX8_layFar_65 : decode cX8_layFar 65 = .ok (.iload_n 3, 1) := by decide +kernel
theorem dX8_layFar_66 : decode cX8_layFar 66 = .ok (.iload 4, 2) := by decide +kernel
theorem dX8_layFar_68 : decode cX8_layFar 68 = .ok (.invokestatic 184, 3) := by decide +kernel
theorem dX8_layFar_71 : decode cX8_layFar 71 = .ok (.iaload, 1) := by decide +kernel
theorem dX8_layFar_72 : decode cX8_layFar 72 = .ok (.iconst 1, 1) := by decide +kernel
theorem dX8_layFar_73 : decode cX8_layFar 73 = .ok (.iadd, 1) := by decide +kernel
theorem dX8_layFar_74 : decode cX8_layFar 74 = .ok (.istore 5, 2) := by decide +kernel
theorem dX8_layFar_76 : decode cX8_layFar 76 = .ok (.aload_n 0, 1) := by decide +kernel
theorem dX8_layFar_77 : decode cX8_layFar 77 = .ok (.getfield 62, 3) := by decide +kernel
theorem dX8_layFar_80 : decode cX8_layFar 80 = .ok (.iload_n 3, 1) := by decide +kernel
theorem dX8_layFar_81 : decode cX8_layFar 81 = .ok (.iload 5, 2) := by decide +kernel
theorem dX8_layFar_83 : decode cX8_layFar 83 = .ok (.aload_n 0, 1) := by decide +kernel
theorem dX8_layFar_84 : decode cX8_layFar 84 = .ok (.getfield 62, 3) := by decide +kernel
theorem dX8_layFar_87 : decode cX8_layFar 87 = .ok (.iload_n 3, 1) := by decide +kernel
theorem dX8_layFar_88 : decode cX8_layFar 88 = .ok (.iaload, 1) := by decide +kernel
theorem dX8_layFar_89 : decode cX8_layFar 89 = .ok (.if_icmp .ge 8, 3) := by decide +kernel
theorem dX8_layFar_92 : decode cX8_layFar 92 = .ok (.iload 5, 2) := by decide +kernel
theorem dX8_layFar_94 : decode cX8_layFar 94 = .ok (.goto 9, 3) := by decide +kernel
theorem dX8_layFar_97 : decode cX8_layFar 97 = .ok (.aload_n 0, 1) := by decide +kernel
theorem dX8_layFar_98 : decode cX8_layFar 98 = .ok (.getfield 62, 3) := by decide +kernel
theorem dX8_layFar_101 : decode cX8_layFar 101 = .ok (.iload_n 3, 1) := by decide +kernel
theorem dX8_layFar_102 : decode cX8_layFar 102 = .ok (.iaload, 1) := by decide +kernel
theorem dX8_layFar_103 : decode cX8_layFar 103 = .ok (.iastore, 1) := by decide +kernel
theorem dX8_layFar_104 : decode cX8_layFar 104 = .ok (.iinc 4 1, 3) := by decide +kernel
theorem dX8_layFar_107 : decode cX8_layFar 107 = .ok (.goto (-53), 3) := by decide +kernel
theorem dX8_layFar_110 : decode cX8_layFar 110 = .ok (.iinc 3 1, 3) := by decide +kernel
theorem dX8_layFar_113 : decode cX8_layFar 113 = .ok (.goto (-68), 3) := by decide +kernel
theorem dX8_layFar_116 : decode cX8_layFar 116 = .ok (.iinc 2 1, 3) := by decide +kernel
theorem dX8_layFar_119 : decode cX8_layFar 119 = .ok (.goto (-82), 3) := by decide +kernel
theorem dX8_layFar_122 : decode cX8_layFar 122 = .ok (.return_, 1) := by decide +kernel
theorem dX8_parted_0 : decode cX8_parted 0 = .ok (.iload_n 1, 1) := by decide +kernel
theorem dX8_parted_1 : decode cX8_parted 1 = .ok (.invokestatic 172, 3) := by decide +kernel
theorem dX8_parted_4 : decode cX8_parted 4 = .ok (.ifCond .eq 22, 3) := by decide +kernel
theorem dX8_parted_7 : decode cX8_parted 7 = .ok (.iload_n 2, 1) := by decide +kernel
theorem dX8_parted_8 : decode cX8_parted 8 = .ok (.invokestatic 172, 3) := by decide +kernel
theorem dX8_parted_11 : decode cX8_parted 11 = .ok (.ifCond .eq 15, 3) := by decide +kernel
theorem dX8_parted_14 : decode cX8_parted 14 = .ok (.iload_n 3, 1) := by decide +kernel
theorem dX8_parted_15 : decode cX8_parted 15 = .ok (.i2l, 1) := by decide +kernel
theorem dX8_parted_16 : decode cX8_parted 16 = .ok (.lconst 0, 1) := by decide +kernel
theorem dX8_parted_17 : decode cX8_parted 17 = .ok (.ldc2_w 228, 3) := by decide +kernel
theorem dX8_parted_20 : decode cX8_parted 20 = .ok (.invokestatic 99, 3) := by decide +kernel
theorem dX8_parted_23 : decode cX8_parted 23 = .ok (.ifCond .ne 5, 3) := by decide +kernel
theorem dX8_parted_26 : decode cX8_parted 26 = .ok (.iconst (-1), 1) := by decide +kernel
theorem dX8_parted_27 : decode cX8_parted 27 = .ok (.ireturn, 1) := by decide +kernel
theorem dX8_parted_28 : decode cX8_parted 28 = .ok (.iconst 0, 1) := by decide +kernel
theorem dX8_parted_29 : decode cX8_parted 29 = .ok (.istore 4, 2) := by decide +kernel
theorem dX8_parted_31 : decode cX8_parted 31 = .ok (.iconst 0, 1) := by decide +kernel
theorem dX8_parted_32 : decode cX8_parted 32 = .ok (.istore 5, 2) := by decide +kernel
theorem dX8_parted_34 : decode cX8_parted 34 = .ok (.iload 5, 2) := by decide +kernel
theorem dX8_parted_36 : decode cX8_parted 36 = .ok (.bipush 26, 2) := by decide +kernel
theorem dX8_parted_38 : decode cX8_parted 38 = .ok (.if_icmp .ge 33, 3) := by decide +kernel
theorem dX8_parted_41 : decode cX8_parted 41 = .ok (.iload 4, 2) := by decide +kernel
theorem dX8_parted_43 : decode cX8_parted 43 = .ok (.aload_n 0, 1) := by decide +kernel
theorem dX8_parted_44 : decode cX8_parted 44 = .ok (.iload_n 1, 1) := by decide +kernel
theorem dX8_parted_45 : decode cX8_parted 45 = .ok (.iload_n 2, 1) := by decide +kernel
theorem dX8_parted_46 : decode cX8_parted 46 = .ok (.iload 5, 2) := by decide +kernel
theorem dX8_parted_48 : decode cX8_parted 48 = .ok (.invokevirtual 243, 3) := by decide +kernel
theorem dX8_parted_51 : decode cX8_parted 51 = .ok (.ifCond .eq 10, 3) := by decide +kernel
theorem dX8_parted_54 : decode cX8_parted 54 = .ok (.iconst 1, 1) := by decide +kernel
theorem dX8_parted_55 : decode cX8_parted 55 = .ok (.iload 5, 2) := by decide +kernel
theorem dX8_parted_57 : decode cX8_parted 57 = .ok (.ishl, 1) := by decide +kernel
theorem dX8_parted_58 : decode cX8_parted 58 = .ok (.goto 4, 3) := by decide +kernel
theorem dX8_parted_61 : decode cX8_parted 61 = .ok (.iconst 0, 1) := by decide +kernel
theorem dX8_parted_62 : decode cX8_parted 62 = .ok (.ior, 1) := by decide +kernel
theorem dX8_parted_63 : decode cX8_parted 63 = .ok (.istore 4, 2) := by decide +kernel
theorem dX8_parted_65 : decode cX8_parted 65 = .ok (.iinc 5 1, 3) := by decide +kernel
theorem dX8_parted_68 : decode cX8_parted 68 = .ok (.goto (-34), 3) := by decide +kernel
theorem dX8_parted_71 : decode cX8_parted 71 = .ok (.iload_n 3, 1) := by decide +kernel
theorem dX8_parted_72 : decode cX8_parted 72 = .ok (.iconst 2, 1) := by decide +kernel
theorem dX8_parted_73 : decode cX8_parted 73 = .ok (.if_icmp .ne 6, 3) := by decide +kernel
theorem dX8_parted_76 : decode cX8_parted 76 = .ok (.iload 4, 2) := by decide +kernel
theorem dX8_parted_78 : decode cX8_parted 78 = .ok (.ireturn, 1) := by decide +kernel
theorem dX8_parted_79 : decode cX8_parted 79 = .ok (.aload_n 0, 1) := by decide +kernel
theorem dX8_parted_80 : decode cX8_parted 80 = .ok (.iload 4, 2) := by decide +kernel
theorem dX8_parted_82 : decode cX8_parted 82 = .ok (.invokevirtual 247, 3) := by decide +kernel
theorem dX8_parted_85 : decode cX8_parted 85 = .ok (.aload_n 0, 1) := by decide +kernel
theorem dX8_parted_86 : decode cX8_parted 86 = .ok (.getfield 62, 3) := by decide +kernel
theorem dX8_parted_89 : decode cX8_parted 89 = .ok (.aload_n 0, 1) := by decide +kernel
theorem dX8_parted_90 : decode cX8_parted 90 = .ok (.getfield 37, 3) := by decide +kernel
theorem dX8_parted_93 : decode cX8_parted 93 = .ok (.iaload, 1) := by decide +kernel
theorem dX8_parted_94 : decode cX8_parted 94 = .ok (.bipush 100, 2) := by decide +kernel
theorem dX8_parted_96 : decode cX8_parted 96 = .ok (.if_icmp .lt 6, 3) := by decide +kernel
theorem dX8_parted_99 : decode cX8_parted 99 = .ok (.bipush (-4), 2) := by decide +kernel
theorem dX8_parted_101 : decode cX8_parted 101 = .ok (.ireturn, 1) := by decide +kernel
theorem dX8_parted_102 : decode cX8_parted 102 = .ok (.iconst 1, 1) := by decide +kernel
theorem dX8_parted_103 : decode cX8_parted 103 = .ok (.istore 5, 2) := by decide +kernel
theorem dX8_parted_105 : decode cX8_parted 105 = .ok (.aload_n 0, 1) := by decide +kernel
theorem dX8_parted_106 : decode cX8_parted 106 = .ok (.getfield 37, 3) := by decide +kernel
theorem dX8_parted_109 : decode cX8_parted 109 = .ok (.istore 6, 2) := by decide +kernel
theorem dX8_parted_111 : decode cX8_parted 111 = .ok (.aload_n 0, 1) := by decide +kernel
theorem dX8_parted_112 : decode cX8_parted 112 = .ok (.getfield 62, 3) := by decide +kernel
theorem dX8_parted_115 : decode cX8_parted 115 = .ok (.iload 6, 2) := by decide +kernel
theorem dX8_parted_117 : decode cX8_parted 117 = .ok (.iaload, 1) := by decide +kernel
theorem dX8_parted_118 : decode cX8_parted 118 = .ok (.ifCond .le 58, 3) := by decide +kernel
theorem dX8_parted_121 : decode cX8_parted 121 = .ok (.iconst 0, 1) := by decide +kernel
theorem dX8_parted_122 : decode cX8_parted 122 = .ok (.istore 7, 2) := by decide +kernel
theorem dX8_parted_124 : decode cX8_parted 124 = .ok (.aload_n 0, 1) := by decide +kernel
theorem dX8_parted_125 : decode cX8_parted 125 = .ok (.getfield 62, 3) := by decide +kernel
theorem dX8_parted_128 : decode cX8_parted 128 = .ok (.iload 6, 2) := by decide +kernel
theorem dX8_parted_130 : decode cX8_parted 130 = .ok (.iload 7, 2) := by decide +kernel
theorem dX8_parted_132 : decode cX8_parted 132 = .ok (.invokestatic 184, 3) := by decide +kernel
theorem dX8_parted_135 : decode cX8_parted 135 = .ok (.iaload, 1) := by decide +kernel
theorem dX8_parted_136 : decode cX8_parted 136 = .ok (.iconst 1, 1) := by decide +kernel
theorem dX8_parted_137 : decode cX8_parted 137 = .ok (.iadd, 1) := by decide +kernel
theorem dX8_parted_138 : decode cX8_parted 138 = .ok (.aload_n 0, 1) := by decide +kernel
theorem dX8_parted_139 : decode cX8_parted 139 = .ok (.getfield 62, 3) := by decide +kernel
theorem dX8_parted_142 : decode cX8_parted 142 = .ok (.iload 6, 2) := by decide +kernel
theorem dX8_parted_144 : decode cX8_parted 144 = .ok (.iaload, 1) := by decide +kernel
theorem dX8_parted_145 : decode cX8_parted 145 = .ok (.if_icmp .eq 9, 3) := by decide +kernel
theorem dX8_parted_148 : decode cX8_parted 148 = .ok (.iinc 7 1, 3) := by decide +kernel
theorem dX8_parted_151 : decode cX8_parted 151 = .ok (.goto (-27), 3) := by decide +kernel
theorem dX8_parted_154 : decode cX8_parted 154 = .ok (.bipush 6, 2) := by decide +kernel
theorem dX8_parted_156 : decode cX8_parted 156 = .ok (.iload 5, 2) := by decide +kernel
theorem dX8_parted_158 : decode cX8_parted 158 = .ok (.imul, 1) := by decide +kernel
theorem dX8_parted_159 : decode cX8_parted 159 = .ok (.iload 7, 2) := by decide +kernel
theorem dX8_parted_161 : decode cX8_parted 161 = .ok (.iadd, 1) := by decide +kernel
theorem dX8_parted_162 : decode cX8_parted 162 = .ok (.istore 5, 2) := by decide +kernel
theorem dX8_parted_164 : decode cX8_parted 164 = .ok (.iload 6, 2) := by decide +kernel
theorem dX8_parted_166 : decode cX8_parted 166 = .ok (.iload 7, 2) := by decide +kernel
theorem dX8_parted_168 : decode cX8_parted 168 = .ok (.invokestatic 184, 3) := by decide +kernel
theorem dX8_parted_171 : decode cX8_parted 171 = .ok (.istore 6, 2) := by decide +kernel
theorem dX8_parted_173 : decode cX8_parted 173 = .ok (.goto (-62), 3) := by decide +kernel
theorem dX8_parted_176 : decode cX8_parted 176 = .ok (.iload_n 3, 1) := by decide +kernel
theorem dX8_parted_177 : decode cX8_parted 177 = .ok (.ifCond .ne 15, 3) := by decide +kernel
theorem dX8_parted_180 : decode cX8_parted 180 = .ok (.aload_n 0, 1) := by decide +kernel
theorem dX8_parted_181 : decode cX8_parted 181 = .ok (.getfield 62, 3) := by decide +kernel
theorem dX8_parted_184 : decode cX8_parted 184 = .ok (.aload_n 0, 1) := by decide +kernel
theorem dX8_parted_185 : decode cX8_parted 185 = .ok (.getfield 37, 3) := by decide +kernel
theorem dX8_parted_188 : decode cX8_parted 188 = .ok (.iaload, 1) := by decide +kernel
theorem dX8_parted_189 : decode cX8_parted 189 = .ok (.goto 5, 3) := by decide +kernel
theorem dX8_parted_192 : decode cX8_parted 192 = .ok (.iload 5, 2) := by decide +kernel
theorem dX8_parted_194 : decode cX8_parted 194 = .ok (.ireturn, 1) := by decide +kernel
theorem dX8_rightOf_0 : decode cX8_rightOf 0 = .ok (.iconst 0, 1) := by decide +kernel
theorem dX8_rightOf_1 : decode cX8_rightOf 1 = .ok (.istore 4, 2) := by decide +kernel
theorem dX8_rightOf_3 : decode cX8_rightOf 3 = .ok (.iload_n 3, 1) := by decide +kernel
theorem dX8_rightOf_4 : decode cX8_rightOf 4 = .ok (.istore 5, 2) := by decide +kernel
theorem dX8_rightOf_6 : decode cX8_rightOf 6 = .ok (.iconst 0, 1) := by decide +kernel
theorem dX8_rightOf_7 : decode cX8_rightOf 7 = .ok (.istore 6, 2) := by decide +kernel
theorem dX8_rightOf_9 : decode cX8_rightOf 9 = .ok (.iload 6, 2) := by decide +kernel
theorem dX8_rightOf_11 : decode cX8_rightOf 11 = .ok (.bipush 6, 2) := by decide +kernel
theorem dX8_rightOf_13 : decode cX8_rightOf 13 = .ok (.if_icmp .ge 69, 3) := by decide +kernel
theorem dX8_rightOf_16 : decode cX8_rightOf 16 = .ok (.iload 5, 2) := by decide +kernel
theorem dX8_rightOf_18 : decode cX8_rightOf 18 = .ok (.iload 6, 2) := by decide +kernel
theorem dX8_rightOf_20 : decode cX8_rightOf 20 = .ok (.ishr, 1) := by decide +kernel
theorem dX8_rightOf_21 : decode cX8_rightOf 21 = .ok (.iconst 1, 1) := by decide +kernel
theorem dX8_rightOf_22 : decode cX8_rightOf 22 = .ok (.iand, 1) := by decide +kernel
theorem dX8_rightOf_23 : decode cX8_rightOf 23 = .ok (.iconst 1, 1) := by decide +kernel
theorem dX8_rightOf_24 : decode cX8_rightOf 24 = .ok (.if_icmp .ne 52, 3) := by decide +kernel
theorem dX8_rightOf_27 : decode cX8_rightOf 27 = .ok (.iload 5, 2) := by decide +kernel
theorem dX8_rightOf_29 : decode cX8_rightOf 29 = .ok (.aload_n 0, 1) := by decide +kernel
theorem dX8_rightOf_30 : decode cX8_rightOf 30 = .ok (.getfield 56, 3) := by decide +kernel
theorem dX8_rightOf_33 : decode cX8_rightOf 33 = .ok (.bipush 6, 2) := by decide +kernel
theorem dX8_rightOf_35 : decode cX8_rightOf 35 = .ok (.iload_n 2, 1) := by decide +kernel
theorem dX8_rightOf_36 : decode cX8_rightOf 36 = .ok (.imul, 1) := by decide +kernel
theorem dX8_rightOf_37 : decode cX8_rightOf 37 = .ok (.iload 6, 2) := by decide +kernel
theorem dX8_rightOf_39 : decode cX8_rightOf 39 = .ok (.iadd, 1) := by decide +kernel
theorem dX8_rightOf_40 : decode cX8_rightOf 40 = .ok (.iaload, 1) := by decide +kernel
theorem dX8_rightOf_41 : decode cX8_rightOf 41 = .ok (.iand, 1) := by decide +kernel
theorem dX8_rightOf_42 : decode cX8_rightOf 42 = .ok (.istore 7, 2) := by decide +kernel
theorem dX8_rightOf_44 : decode cX8_rightOf 44 = .ok (.iload 4, 2) := by decide +kernel
theorem dX8_rightOf_46 : decode cX8_rightOf 46 = .ok (.aload_n 0, 1) := by decide +kernel
theorem dX8_rightOf_47 : decode cX8_rightOf 47 = .ok (.getfield 65, 3) := by decide +kernel
theorem dX8_rightOf_50 : decode cX8_rightOf 50 = .ok (.sipush 1664, 3) := by decide +kernel
theorem dX8_rightOf_53 : decode cX8_rightOf 53 = .ok (.iload_n 1, 1) := by decide +kernel
theorem dX8_rightOf_54 : decode cX8_rightOf 54 = .ok (.imul, 1) := by decide +kernel
theorem dX8_rightOf_55 : decode cX8_rightOf 55 = .ok (.bipush 64, 2) := by decide +kernel
theorem dX8_rightOf_57 : decode cX8_rightOf 57 = .ok (.iload_n 2, 1) := by decide +kernel
theorem dX8_rightOf_58 : decode cX8_rightOf 58 = .ok (.imul, 1) := by decide +kernel
theorem dX8_rightOf_59 : decode cX8_rightOf 59 = .ok (.iadd, 1) := by decide +kernel
theorem dX8_rightOf_60 : decode cX8_rightOf 60 = .ok (.iload 7, 2) := by decide +kernel
theorem dX8_rightOf_62 : decode cX8_rightOf 62 = .ok (.iadd, 1) := by decide +kernel
theorem dX8_rightOf_63 : decode cX8_rightOf 63 = .ok (.iaload, 1) := by decide +kernel
theorem dX8_rightOf_64 : decode cX8_rightOf 64 = .ok (.iadd, 1) := by decide +kernel
theorem dX8_rightOf_65 : decode cX8_rightOf 65 = .ok (.istore 4, 2) := by decide +kernel
theorem dX8_rightOf_67 : decode cX8_rightOf 67 = .ok (.iload 5, 2) := by decide +kernel
theorem dX8_rightOf_69 : decode cX8_rightOf 69 = .ok (.iload 7, 2) := by decide +kernel
theorem dX8_rightOf_71 : decode cX8_rightOf 71 = .ok (.iconst (-1), 1) := by decide +kernel
theorem dX8_rightOf_72 : decode cX8_rightOf 72 = .ok (.ixor, 1) := by decide +kernel
theorem dX8_rightOf_73 : decode cX8_rightOf 73 = .ok (.iand, 1) := by decide +kernel
theorem dX8_rightOf_74 : decode cX8_rightOf 74 = .ok (.istore 5, 2) := by decide +kernel
theorem dX8_rightOf_76 : decode cX8_rightOf 76 = .ok (.iinc 6 1, 3) := by decide +kernel
theorem dX8_rightOf_79 : decode cX8_rightOf 79 = .ok (.goto (-70), 3) := by decide +kernel
theorem dX8_rightOf_82 : decode cX8_rightOf 82 = .ok (.iload 4, 2) := by decide +kernel
theorem dX8_rightOf_84 : decode cX8_rightOf 84 = .ok (.ireturn, 1) := by decide +kernel
theorem dX8_layRights_0 : decode cX8_layRights 0 = .ok (.aload_n 0, 1) := by decide +kernel
theorem dX8_layRights_1 : decode cX8_layRights 1 = .ok (.invokevirtual 250, 3) := by decide +kernel
theorem dX8_layRights_4 : decode cX8_layRights 4 = .ok (.iconst 0, 1) := by decide +kernel
theorem dX8_layRights_5 : decode cX8_layRights 5 = .ok (.istore_n 2, 1) := by decide +kernel
theorem dX8_layRights_6 : decode cX8_layRights 6 = .ok (.iload_n 2, 1) := by decide +kernel
theorem dX8_layRights_7 : decode cX8_layRights 7 = .ok (.iload_n 1, 1) := by decide +kernel
theorem dX8_layRights_8 : decode cX8_layRights 8 = .ok (.if_icmp .gt 128, 3) := by decide +kernel
theorem dX8_layRights_11 : decode cX8_layRights 11 = .ok (.iconst 0, 1) := by decide +kernel
theorem dX8_layRights_12 : decode cX8_layRights 12 = .ok (.istore_n 3, 1) := by decide +kernel
theorem dX8_layRights_13 : decode cX8_layRights 13 = .ok (.iload_n 3, 1) := by decide +kernel
theorem dX8_layRights_14 : decode cX8_layRights 14 = .ok (.bipush 26, 2) := by decide +kernel
theorem dX8_layRights_16 : decode cX8_layRights 16 = .ok (.if_icmp .ge 114, 3) := by decide +kernel
theorem dX8_layRights_19 : decode cX8_layRights 19 = .ok (.iconst 0, 1) := by decide +kernel
theorem dX8_layRights_20 : decode cX8_layRights 20 = .ok (.istore 4, 2) := by decide +kernel
theorem dX8_layRights_22 : decode cX8_layRights 22 = .ok (.iload 4, 2) := by decide +kernel
theorem dX8_layRights_24 : decode cX8_layRights 24 = .ok (.bipush 64, 2) := by decide +kernel
theorem dX8_layRights_26 : decode cX8_layRights 26 = .ok (.if_icmp .ge 98, 3) := by decide +kernel
theorem dX8_layRights_29 : decode cX8_layRights 29 = .ok (.iload 4, 2) := by decide +kernel
theorem dX8_layRights_31 : decode cX8_layRights 31 = .ok (.ifCond .le 11, 3) := by decide +kernel
theorem dX8_layRights_34 : decode cX8_layRights 34 = .ok (.iload_n 2, 1) := by decide +kernel
theorem dX8_layRights_35 : decode cX8_layRights 35 = .ok (.ifCond .ne 7, 3) := by decide +kernel
theorem dX8_layRights_38 : decode cX8_layRights 38 = .ok (.iconst 1, 1) := by decide +kernel
theorem dX8_layRights_39 : decode cX8_layRights 39 = .ok (.goto 4, 3) := by decide +kernel
theorem dX8_layRights_42 : decode cX8_layRights 42 = .ok (.iconst 0, 1) := by decide +kernel
theorem dX8_layRights_43 : decode cX8_layRights 43 = .ok (.istore 5, 2) := by decide +kernel
theorem dX8_layRights_45 : decode cX8_layRights 45 = .ok (.iconst 0, 1) := by decide +kernel
theorem dX8_layRights_46 : decode cX8_layRights 46 = .ok (.istore 6, 2) := by decide +kernel
theorem dX8_layRights_48 : decode cX8_layRights 48 = .ok (.iload 6, 2) := by decide +kernel
theorem dX8_layRights_50 : decode cX8_layRights 50 = .ok (.bipush 6, 2) := by decide +kernel
theorem dX8_layRights_52 : decode cX8_layRights 52 = .ok (.if_icmp .ge 46, 3) := by decide +kernel
theorem dX8_layRights_55 : decode cX8_layRights 55 = .ok (.iload_n 2, 1) := by decide +kernel
theorem dX8_layRights_56 : decode cX8_layRights 56 = .ok (.ifCond .le 42, 3) := by decide +kernel
theorem dX8_layRights_59 : decode cX8_layRights 59 = .ok (.aload_n 0, 1) := by decide +kernel
theorem dX8_layRights_60 : decode cX8_layRights 60 = .ok (.iload_n 2, 1) := by decide +kernel
theorem dX8_layRights_61 : decode cX8_layRights 61 = .ok (.iconst 1, 1) := by decide +kernel
theorem dX8_layRights_62 : decode cX8_layRights 62 = .ok (.isub, 1) := by decide +kernel
theorem dX8_layRights_63 : decode cX8_layRights 63 = .ok (.iload_n 3, 1) := by decide +kernel
theorem dX8_layRights_64 : decode cX8_layRights 64 = .ok (.iload 6, 2) := by decide +kernel
theorem dX8_layRights_66 : decode cX8_layRights 66 = .ok (.invokestatic 184, 3) := by decide +kernel
theorem dX8_layRights_69 : decode cX8_layRights 69 = .ok (.iload 4, 2) := by decide +kernel
theorem dX8_layRights_71 : decode cX8_layRights 71 = .ok (.invokevirtual 253, 3) := by decide +kernel
theorem dX8_layRights_74 : decode cX8_layRights 74 = .ok (.istore 7, 2) := by decide +kernel
theorem dX8_layRights_76 : decode cX8_layRights 76 = .ok (.iload 7, 2) := by decide +kernel
theorem dX8_layRights_78 : decode cX8_layRights 78 = .ok (.iload 5, 2) := by decide +kernel
theorem dX8_layRights_80 : decode cX8_layRights 80 = .ok (.if_icmp .le 8, 3) := by decide +kernel
theorem dX8_layRights_83 : decode cX8_layRights 83 = .ok (.iload 7, 2) := by decide +kernel
theorem dX8_layRights_85 : decode cX8_layRights 85 = .ok (.goto 5, 3) := by decide +kernel
theorem dX8_layRights_88 : decode cX8_layRights 88 = .ok (.iload 5, 2) := by decide +kernel
theorem dX8_layRights_90 : decode cX8_layRights 90 = .ok (.istore 5, 2) := by decide +kernel
theorem dX8_layRights_92 : decode cX8_layRights 92 = .ok (.iinc 6 1, 3) := by decide +kernel
theorem dX8_layRights_95 : decode cX8_layRights 95 = .ok (.goto (-47), 3) := by decide +kernel
theorem dX8_layRights_98 : decode cX8_layRights 98 = .ok (.aload_n 0, 1) := by decide +kernel
theorem dX8_layRights_99 : decode cX8_layRights 99 = .ok (.getfield 65, 3) := by decide +kernel
theorem dX8_layRights_102 : decode cX8_layRights 102 = .ok (.sipush 1664, 3) := by decide +kernel
theorem dX8_layRights_105 : decode cX8_layRights 105 = .ok (.iload_n 2, 1) := by decide +kernel
theorem dX8_layRights_106 : decode cX8_layRights 106 = .ok (.imul, 1) := by decide +kernel
theorem dX8_layRights_107 : decode cX8_layRights 107 = .ok (.bipush 64, 2) := by decide +kernel
theorem dX8_layRights_109 : decode cX8_layRights 109 = .ok (.iload_n 3, 1) := by decide +kernel
theorem dX8_layRights_110 : decode cX8_layRights 110 = .ok (.imul, 1) := by decide +kernel
theorem dX8_layRights_111 : decode cX8_layRights 111 = .ok (.iadd, 1) := by decide +kernel
theorem dX8_layRights_112 : decode cX8_layRights 112 = .ok (.iload 4, 2) := by decide +kernel
theorem dX8_layRights_114 : decode cX8_layRights 114 = .ok (.iadd, 1) := by decide +kernel
theorem dX8_layRights_115 : decode cX8_layRights 115 = .ok (.iload 5, 2) := by decide +kernel
theorem dX8_layRights_117 : decode cX8_layRights 117 = .ok (.iastore, 1) := by decide +kernel
theorem dX8_layRights_118 : decode cX8_layRights 118 = .ok (.iinc 4 1, 3) := by decide +kernel
theorem dX8_layRights_121 : decode cX8_layRights 121 = .ok (.goto (-99), 3) := by decide +kernel
theorem dX8_layRights_124 : decode cX8_layRights 124 = .ok (.iinc 3 1, 3) := by decide +kernel
theorem dX8_layRights_127 : decode cX8_layRights 127 = .ok (.goto (-114), 3) := by decide +kernel
theorem dX8_layRights_130 : decode cX8_layRights 130 = .ok (.iinc 2 1, 3) := by decide +kernel
theorem dX8_layRights_133 : decode cX8_layRights 133 = .ok (.goto (-127), 3) := by decide +kernel
theorem dX8_layRights_136 : decode cX8_layRights 136 = .ok (.return_, 1) := by decide +kernel
theorem dX8_isSet_0 : decode cX8_isSet 0 = .ok (.iload_n 0, 1) := by decide +kernel
theorem dX8_isSet_1 : decode cX8_isSet 1 = .ok (.i2l, 1) := by decide +kernel
theorem dX8_isSet_2 : decode cX8_isSet 2 = .ok (.lconst 1, 1) := by decide +kernel
theorem dX8_isSet_3 : decode cX8_isSet 3 = .ok (.ldc2_w 176, 3) := by decide +kernel
theorem dX8_isSet_6 : decode cX8_isSet 6 = .ok (.invokestatic 99, 3) := by decide +kernel
theorem dX8_isSet_9 : decode cX8_isSet 9 = .ok (.ireturn, 1) := by decide +kernel
theorem dX8_right_0 : decode cX8_right 0 = .ok (.iload_n 1, 1) := by decide +kernel
theorem dX8_right_1 : decode cX8_right 1 = .ok (.invokestatic 256, 3) := by decide +kernel
theorem dX8_right_4 : decode cX8_right 4 = .ok (.ifCond .eq 25, 3) := by decide +kernel
theorem dX8_right_7 : decode cX8_right 7 = .ok (.iload_n 2, 1) := by decide +kernel
theorem dX8_right_8 : decode cX8_right 8 = .ok (.i2l, 1) := by decide +kernel
theorem dX8_right_9 : decode cX8_right 9 = .ok (.lconst 0, 1) := by decide +kernel
theorem dX8_right_10 : decode cX8_right 10 = .ok (.ldc2_w 223, 3) := by decide +kernel
theorem dX8_right_13 : decode cX8_right 13 = .ok (.invokestatic 99, 3) := by decide +kernel
theorem dX8_right_16 : decode cX8_right 16 = .ok (.ifCond .eq 13, 3) := by decide +kernel
theorem dX8_right_19 : decode cX8_right 19 = .ok (.iload_n 3, 1) := by decide +kernel
theorem dX8_right_20 : decode cX8_right 20 = .ok (.i2l, 1) := by decide +kernel
theorem dX8_right_21 : decode cX8_right 21 = .ok (.lconst 0, 1) := by decide +kernel
theorem dX8_right_22 : decode cX8_right 22 = .ok (.lconst 1, 1) := by decide +kernel
theorem dX8_right_23 : decode cX8_right 23 = .ok (.invokestatic 99, 3) := by decide +kernel
theorem dX8_right_26 : decode cX8_right 26 = .ok (.ifCond .ne 5, 3) := by decide +kernel
theorem dX8_right_29 : decode cX8_right 29 = .ok (.iconst (-1), 1) := by decide +kernel
theorem dX8_right_30 : decode cX8_right 30 = .ok (.ireturn, 1) := by decide +kernel
theorem dX8_right_31 : decode cX8_right 31 = .ok (.aload_n 0, 1) := by decide +kernel
theorem dX8_right_32 : decode cX8_right 32 = .ok (.iload_n 2, 1) := by decide +kernel
theorem dX8_right_33 : decode cX8_right 33 = .ok (.invokevirtual 259, 3) := by decide +kernel
theorem dX8_right_36 : decode cX8_right 36 = .ok (.iload_n 3, 1) := by decide +kernel
theorem dX8_right_37 : decode cX8_right 37 = .ok (.ifCond .ne 14, 3) := by decide +kernel
theorem dX8_right_40 : decode cX8_right 40 = .ok (.aload_n 0, 1) := by decide +kernel
theorem dX8_right_41 : decode cX8_right 41 = .ok (.iload_n 2, 1) := by decide +kernel
theorem dX8_right_42 : decode cX8_right 42 = .ok (.aload_n 0, 1) := by decide +kernel
theorem dX8_right_43 : decode cX8_right 43 = .ok (.getfield 37, 3) := by decide +kernel
theorem dX8_right_46 : decode cX8_right 46 = .ok (.iload_n 1, 1) := by decide +kernel
theorem dX8_right_47 : decode cX8_right 47 = .ok (.invokevirtual 253, 3) := by decide +kernel
theorem dX8_right_50 : decode cX8_right 50 = .ok (.ireturn, 1) := by decide +kernel
theorem dX8_right_51 : decode cX8_right 51 = .ok (.iload_n 2, 1) := by decide +kernel
theorem dX8_right_52 : decode cX8_right 52 = .ok (.ifCond .ne 6, 3) := by decide +kernel
theorem dX8_right_55 : decode cX8_right 55 = .ok (.bipush (-4), 2) := by decide +kernel
theorem dX8_right_57 : decode cX8_right 57 = .ok (.ireturn, 1) := by decide +kernel
theorem dX8_right_58 : decode cX8_right 58 = .ok (.iconst 0, 1) := by decide +kernel
theorem dX8_right_59 : decode cX8_right 59 = .ok (.istore 4, 2) := by decide +kernel
theorem dX8_right_61 : decode cX8_right 61 = .ok (.iload_n 1, 1) := by decide +kernel
theorem dX8_right_62 : decode cX8_right 62 = .ok (.iload 4, 2) := by decide +kernel
theorem dX8_right_64 : decode cX8_right 64 = .ok (.ishr, 1) := by decide +kernel
theorem dX8_right_65 : decode cX8_right 65 = .ok (.iconst 1, 1) := by decide +kernel
theorem dX8_right_66 : decode cX8_right 66 = .ok (.iand, 1) := by decide +kernel
theorem dX8_right_67 : decode cX8_right 67 = .ok (.ifCond .ne 9, 3) := by decide +kernel
theorem dX8_right_70 : decode cX8_right 70 = .ok (.iinc 4 1, 3) := by decide +kernel
theorem dX8_right_73 : decode cX8_right 73 = .ok (.goto (-12), 3) := by decide +kernel
theorem dX8_right_76 : decode cX8_right 76 = .ok (.iload_n 1, 1) := by decide +kernel
theorem dX8_right_77 : decode cX8_right 77 = .ok (.aload_n 0, 1) := by decide +kernel
theorem dX8_right_78 : decode cX8_right 78 = .ok (.getfield 56, 3) := by decide +kernel
theorem dX8_right_81 : decode cX8_right 81 = .ok (.bipush 6, 2) := by decide +kernel
theorem dX8_right_83 : decode cX8_right 83 = .ok (.aload_n 0, 1) := by decide +kernel
theorem dX8_right_84 : decode cX8_right 84 = .ok (.getfield 37, 3) := by decide +kernel
theorem dX8_right_87 : decode cX8_right 87 = .ok (.imul, 1) := by decide +kernel
theorem dX8_right_88 : decode cX8_right 88 = .ok (.iload 4, 2) := by decide +kernel
theorem dX8_right_90 : decode cX8_right 90 = .ok (.iadd, 1) := by decide +kernel
theorem dX8_right_91 : decode cX8_right 91 = .ok (.iaload, 1) := by decide +kernel
theorem dX8_right_92 : decode cX8_right 92 = .ok (.iand, 1) := by decide +kernel
theorem dX8_right_93 : decode cX8_right 93 = .ok (.istore 5, 2) := by decide +kernel
theorem dX8_right_95 : decode cX8_right 95 = .ok (.iconst 0, 1) := by decide +kernel
theorem dX8_right_96 : decode cX8_right 96 = .ok (.istore 6, 2) := by decide +kernel
theorem dX8_right_98 : decode cX8_right 98 = .ok (.aload_n 0, 1) := by decide +kernel
theorem dX8_right_99 : decode cX8_right 99 = .ok (.iload_n 2, 1) := by decide +kernel
theorem dX8_right_100 : decode cX8_right 100 = .ok (.iconst 1, 1) := by decide +kernel
theorem dX8_right_101 : decode cX8_right 101 = .ok (.isub, 1) := by decide +kernel
theorem dX8_right_102 : decode cX8_right 102 = .ok (.aload_n 0, 1) := by decide +kernel
theorem dX8_right_103 : decode cX8_right 103 = .ok (.getfield 37, 3) := by decide +kernel
theorem dX8_right_106 : decode cX8_right 106 = .ok (.iload 6, 2) := by decide +kernel
theorem dX8_right_108 : decode cX8_right 108 = .ok (.invokestatic 184, 3) := by decide +kernel
theorem dX8_right_111 : decode cX8_right 111 = .ok (.iload 5, 2) := by decide +kernel
theorem dX8_right_113 : decode cX8_right 113 = .ok (.invokevirtual 253, 3) := by decide +kernel
theorem dX8_right_116 : decode cX8_right 116 = .ok (.aload_n 0, 1) := by decide +kernel
theorem dX8_right_117 : decode cX8_right 117 = .ok (.getfield 65, 3) := by decide +kernel
theorem dX8_right_120 : decode cX8_right 120 = .ok (.sipush 1664, 3) := by decide +kernel
theorem dX8_right_123 : decode cX8_right 123 = .ok (.iload_n 2, 1) := by decide +kernel
theorem dX8_right_124 : decode cX8_right 124 = .ok (.imul, 1) := by decide +kernel
theorem dX8_right_125 : decode cX8_right 125 = .ok (.bipush 64, 2) := by decide +kernel
theorem dX8_right_127 : decode cX8_right 127 = .ok (.aload_n 0, 1) := by decide +kernel
theorem dX8_right_128 : decode cX8_right 128 = .ok (.getfield 37, 3) := by decide +kernel
theorem dX8_right_131 : decode cX8_right 131 = .ok (.imul, 1) := by decide +kernel
theorem dX8_right_132 : decode cX8_right 132 = .ok (.iadd, 1) := by decide +kernel
theorem dX8_right_133 : decode cX8_right 133 = .ok (.iload 5, 2) := by decide +kernel
theorem dX8_right_135 : decode cX8_right 135 = .ok (.iadd, 1) := by decide +kernel
theorem dX8_right_136 : decode cX8_right 136 = .ok (.iaload, 1) := by decide +kernel
theorem dX8_right_137 : decode cX8_right 137 = .ok (.if_icmp .eq 9, 3) := by decide +kernel
theorem dX8_right_140 : decode cX8_right 140 = .ok (.iinc 6 1, 3) := by decide +kernel
theorem dX8_right_143 : decode cX8_right 143 = .ok (.goto (-45), 3) := by decide +kernel
theorem dX8_right_146 : decode cX8_right 146 = .ok (.iload 6, 2) := by decide +kernel
theorem dX8_right_148 : decode cX8_right 148 = .ok (.ireturn, 1) := by decide +kernel
theorem dX8_countOf_0 : decode cX8_countOf 0 = .ok (.iconst 0, 1) := by decide +kernel
theorem dX8_countOf_1 : decode cX8_countOf 1 = .ok (.istore_n 1, 1) := by decide +kernel
theorem dX8_countOf_2 : decode cX8_countOf 2 = .ok (.iconst 0, 1) := by decide +kernel
theorem dX8_countOf_3 : decode cX8_countOf 3 = .ok (.istore_n 2, 1) := by decide +kernel
theorem dX8_countOf_4 : decode cX8_countOf 4 = .ok (.iload_n 2, 1) := by decide +kernel
theorem dX8_countOf_5 : decode cX8_countOf 5 = .ok (.bipush 16, 2) := by decide +kernel
theorem dX8_countOf_7 : decode cX8_countOf 7 = .ok (.if_icmp .ge 17, 3) := by decide +kernel
theorem dX8_countOf_10 : decode cX8_countOf 10 = .ok (.iload_n 1, 1) := by decide +kernel
theorem dX8_countOf_11 : decode cX8_countOf 11 = .ok (.iload_n 0, 1) := by decide +kernel
theorem dX8_countOf_12 : decode cX8_countOf 12 = .ok (.iload_n 2, 1) := by decide +kernel
theorem dX8_countOf_13 : decode cX8_countOf 13 = .ok (.ishr, 1) := by decide +kernel
theorem dX8_countOf_14 : decode cX8_countOf 14 = .ok (.iconst 1, 1) := by decide +kernel
theorem dX8_countOf_15 : decode cX8_countOf 15 = .ok (.iand, 1) := by decide +kernel
theorem dX8_countOf_16 : decode cX8_countOf 16 = .ok (.iadd, 1) := by decide +kernel
theorem dX8_countOf_17 : decode cX8_countOf 17 = .ok (.istore_n 1, 1) := by decide +kernel
theorem dX8_countOf_18 : decode cX8_countOf 18 = .ok (.iinc 2 1, 3) := by decide +kernel
theorem dX8_countOf_21 : decode cX8_countOf 21 = .ok (.goto (-17), 3) := by decide +kernel
theorem dX8_countOf_24 : decode cX8_countOf 24 = .ok (.iload_n 1, 1) := by decide +kernel
theorem dX8_countOf_25 : decode cX8_countOf 25 = .ok (.ireturn, 1) := by decide +kernel
theorem dX8_needs_0 : decode cX8_needs 0 = .ok (.iload_n 1, 1) := by decide +kernel
theorem dX8_needs_1 : decode cX8_needs 1 = .ok (.invokestatic 256, 3) := by decide +kernel
theorem dX8_needs_4 : decode cX8_needs 4 = .ok (.ifCond .ne 5, 3) := by decide +kernel
theorem dX8_needs_7 : decode cX8_needs 7 = .ok (.iconst (-1), 1) := by decide +kernel
theorem dX8_needs_8 : decode cX8_needs 8 = .ok (.ireturn, 1) := by decide +kernel
theorem dX8_needs_9 : decode cX8_needs 9 = .ok (.aload_n 0, 1) := by decide +kernel
theorem dX8_needs_10 : decode cX8_needs 10 = .ok (.iconst 3, 1) := by decide +kernel
theorem dX8_needs_11 : decode cX8_needs 11 = .ok (.invokevirtual 259, 3) := by decide +kernel
theorem dX8_needs_14 : decode cX8_needs 14 = .ok (.iconst 0, 1) := by decide +kernel
theorem dX8_needs_15 : decode cX8_needs 15 = .ok (.istore_n 2, 1) := by decide +kernel
theorem dX8_needs_16 : decode cX8_needs 16 = .ok (.iload_n 2, 1) := by decide +kernel
theorem dX8_needs_17 : decode cX8_needs 17 = .ok (.iconst 4, 1) := by decide +kernel
theorem dX8_needs_18 : decode cX8_needs 18 = .ok (.if_icmp .ge 28, 3) := by decide +kernel
theorem dX8_needs_21 : decode cX8_needs 21 = .ok (.aload_n 0, 1) := by decide +kernel
theorem dX8_needs_22 : decode cX8_needs 22 = .ok (.iload_n 2, 1) := by decide +kernel
theorem dX8_needs_23 : decode cX8_needs 23 = .ok (.aload_n 0, 1) := by decide +kernel
theorem dX8_needs_24 : decode cX8_needs 24 = .ok (.getfield 37, 3) := by decide +kernel
theorem dX8_needs_27 : decode cX8_needs 27 = .ok (.iload_n 1, 1) := by decide +kernel
theorem dX8_needs_28 : decode cX8_needs 28 = .ok (.invokevirtual 253, 3) := by decide +kernel
theorem dX8_needs_31 : decode cX8_needs 31 = .ok (.iload_n 1, 1) := by decide +kernel
theorem dX8_needs_32 : decode cX8_needs 32 = .ok (.invokestatic 262, 3) := by decide +kernel
theorem dX8_needs_35 : decode cX8_needs 35 = .ok (.if_icmp .ne 5, 3) := by decide +kernel
theorem dX8_needs_38 : decode cX8_needs 38 = .ok (.iload_n 2, 1) := by decide +kernel
theorem dX8_needs_39 : decode cX8_needs 39 = .ok (.ireturn, 1) := by decide +kernel
theorem dX8_needs_40 : decode cX8_needs 40 = .ok (.iinc 2 1, 3) := by decide +kernel
theorem dX8_needs_43 : decode cX8_needs 43 = .ok (.goto (-27), 3) := by decide +kernel
theorem dX8_needs_46 : decode cX8_needs 46 = .ok (.bipush (-4), 2) := by decide +kernel
theorem dX8_needs_48 : decode cX8_needs 48 = .ok (.ireturn, 1) := by decide +kernel
theorem dX8_layChange_0 : decode cX8_layChange 0 = .ok (.aload_n 0, 1) := by decide +kernel
theorem dX8_layChange_1 : decode cX8_layChange 1 = .ok (.iload_n 1, 1) := by decide +kernel
theorem dX8_layChange_2 : decode cX8_layChange 2 = .ok (.aload_n 0, 1) := by decide +kernel
theorem dX8_layChange_3 : decode cX8_layChange 3 = .ok (.getfield 37, 3) := by decide +kernel
theorem dX8_layChange_6 : decode cX8_layChange 6 = .ok (.invokevirtual 225, 3) := by decide +kernel
theorem dX8_layChange_9 : decode cX8_layChange 9 = .ok (.iconst 0, 1) := by decide +kernel
theorem dX8_layChange_10 : decode cX8_layChange 10 = .ok (.istore_n 3, 1) := by decide +kernel
theorem dX8_layChange_11 : decode cX8_layChange 11 = .ok (.iload_n 3, 1) := by decide +kernel
theorem dX8_layChange_12 : decode cX8_layChange 12 = .ok (.bipush 16, 2) := by decide +kernel
theorem dX8_layChange_14 : decode cX8_layChange 14 = .ok (.if_icmp .ge 21, 3) := by decide +kernel
theorem dX8_layChange_17 : decode cX8_layChange 17 = .ok (.aload_n 0, 1) := by decide +kernel
theorem dX8_layChange_18 : decode cX8_layChange 18 = .ok (.getfield 59, 3) := by decide +kernel
theorem dX8_layChange_21 : decode cX8_layChange 21 = .ok (.iload_n 3, 1) := by decide +kernel
theorem dX8_layChange_22 : decode cX8_layChange 22 = .ok (.aload_n 0, 1) := by decide +kernel
theorem dX8_layChange_23 : decode cX8_layChange 23 = .ok (.getfield 50, 3) := by decide +kernel
theorem dX8_layChange_26 : decode cX8_layChange 26 = .ok (.iload_n 3, 1) := by decide +kernel
theorem dX8_layChange_27 : decode cX8_layChange 27 = .ok (.iaload, 1) := by decide +kernel
theorem dX8_layChange_28 : decode cX8_layChange 28 = .ok (.iastore, 1) := by decide +kernel
theorem dX8_layChange_29 : decode cX8_layChange 29 = .ok (.iinc 3 1, 3) := by decide +kernel
theorem dX8_layChange_32 : decode cX8_layChange 32 = .ok (.goto (-21), 3) := by decide +kernel
theorem dX8_layChange_35 : decode cX8_layChange 35 = .ok (.aload_n 0, 1) := by decide +kernel
theorem dX8_layChange_36 : decode cX8_layChange 36 = .ok (.iload_n 1, 1) := by decide +kernel
theorem dX8_layChange_37 : decode cX8_layChange 37 = .ok (.iload_n 2, 1) := by decide +kernel
theorem dX8_layChange_38 : decode cX8_layChange 38 = .ok (.invokevirtual 225, 3) := by decide +kernel
theorem dX8_layChange_41 : decode cX8_layChange 41 = .ok (.aload_n 0, 1) := by decide +kernel
theorem dX8_layChange_42 : decode cX8_layChange 42 = .ok (.iconst 0, 1) := by decide +kernel
theorem dX8_layChange_43 : decode cX8_layChange 43 = .ok (.putfield 265, 3) := by decide +kernel
theorem dX8_layChange_46 : decode cX8_layChange 46 = .ok (.aload_n 0, 1) := by decide +kernel
theorem dX8_layChange_47 : decode cX8_layChange 47 = .ok (.iconst 0, 1) := by decide +kernel
theorem dX8_layChange_48 : decode cX8_layChange 48 = .ok (.putfield 268, 3) := by decide +kernel
theorem dX8_layChange_51 : decode cX8_layChange 51 = .ok (.iconst 0, 1) := by decide +kernel
theorem dX8_layChange_52 : decode cX8_layChange 52 = .ok (.istore_n 3, 1) := by decide +kernel
theorem dX8_layChange_53 : decode cX8_layChange 53 = .ok (.iload_n 3, 1) := by decide +kernel
theorem dX8_layChange_54 : decode cX8_layChange 54 = .ok (.bipush 16, 2) := by decide +kernel
theorem dX8_layChange_56 : decode cX8_layChange 56 = .ok (.if_icmp .ge 71, 3) := by decide +kernel
theorem dX8_layChange_59 : decode cX8_layChange 59 = .ok (.aload_n 0, 1) := by decide +kernel
theorem dX8_layChange_60 : decode cX8_layChange 60 = .ok (.dup, 1) := by decide +kernel
theorem dX8_layChange_61 : decode cX8_layChange 61 = .ok (.getfield 265, 3) := by decide +kernel
theorem dX8_layChange_64 : decode cX8_layChange 64 = .ok (.aload_n 0, 1) := by decide +kernel
theorem dX8_layChange_65 : decode cX8_layChange 65 = .ok (.getfield 50, 3) := by decide +kernel
theorem dX8_layChange_68 : decode cX8_layChange 68 = .ok (.iload_n 3, 1) := by decide +kernel
theorem dX8_layChange_69 : decode cX8_layChange 69 = .ok (.iaload, 1) := by decide +kernel
theorem dX8_layChange_70 : decode cX8_layChange 70 = .ok (.aload_n 0, 1) := by decide +kernel
theorem dX8_layChange_71 : decode cX8_layChange 71 = .ok (.getfield 59, 3) := by decide +kernel
theorem dX8_layChange_74 : decode cX8_layChange 74 = .ok (.iload_n 3, 1) := by decide +kernel
theorem dX8_layChange_75 : decode cX8_layChange 75 = .ok (.iaload, 1) := by decide +kernel
theorem dX8_layChange_76 : decode cX8_layChange 76 = .ok (.if_icmp .le 9, 3) := by decide +kernel
theorem dX8_layChange_79 : decode cX8_layChange 79 = .ok (.iconst 1, 1) := by decide +kernel
theorem dX8_layChange_80 : decode cX8_layChange 80 = .ok (.iload_n 3, 1) := by decide +kernel
theorem dX8_layChange_81 : decode cX8_layChange 81 = .ok (.ishl, 1) := by decide +kernel
theorem dX8_layChange_82 : decode cX8_layChange 82 = .ok (.goto 4, 3) := by decide +kernel
theorem dX8_layChange_85 : decode cX8_layChange 85 = .ok (.iconst 0, 1) := by decide +kernel
theorem dX8_layChange_86 : decode cX8_layChange 86 = .ok (.ior, 1) := by decide +kernel
theorem dX8_layChange_87 : decode cX8_layChange 87 = .ok (.putfield 265, 3) := by decide +kernel
theorem dX8_layChange_90 : decode cX8_layChange 90 = .ok (.aload_n 0, 1) := by decide +kernel
theorem dX8_layChange_91 : decode cX8_layChange 91 = .ok (.dup, 1) := by decide +kernel
theorem dX8_layChange_92 : decode cX8_layChange 92 = .ok (.getfield 268, 3) := by decide +kernel
theorem dX8_layChange_95 : decode cX8_layChange 95 = .ok (.aload_n 0, 1) := by decide +kernel
theorem dX8_layChange_96 : decode cX8_layChange 96 = .ok (.getfield 50, 3) := by decide +kernel
theorem dX8_layChange_99 : decode cX8_layChange 99 = .ok (.iload_n 3, 1) := by decide +kernel
theorem dX8_layChange_100 : decode cX8_layChange 100 = .ok (.iaload, 1) := by decide +kernel
theorem dX8_layChange_101 : decode cX8_layChange 101 = .ok (.aload_n 0, 1) := by decide +kernel
theorem dX8_layChange_102 : decode cX8_layChange 102 = .ok (.getfield 59, 3) := by decide +kernel
theorem dX8_layChange_105 : decode cX8_layChange 105 = .ok (.iload_n 3, 1) := by decide +kernel
theorem dX8_layChange_106 : decode cX8_layChange 106 = .ok (.iaload, 1) := by decide +kernel
theorem dX8_layChange_107 : decode cX8_layChange 107 = .ok (.if_icmp .ge 9, 3) := by decide +kernel
theorem dX8_layChange_110 : decode cX8_layChange 110 = .ok (.iconst 1, 1) := by decide +kernel
theorem dX8_layChange_111 : decode cX8_layChange 111 = .ok (.iload_n 3, 1) := by decide +kernel
theorem dX8_layChange_112 : decode cX8_layChange 112 = .ok (.ishl, 1) := by decide +kernel
theorem dX8_layChange_113 : decode cX8_layChange 113 = .ok (.goto 4, 3) := by decide +kernel
theorem dX8_layChange_116 : decode cX8_layChange 116 = .ok (.iconst 0, 1) := by decide +kernel
theorem dX8_layChange_117 : decode cX8_layChange 117 = .ok (.ior, 1) := by decide +kernel
theorem dX8_layChange_118 : decode cX8_layChange 118 = .ok (.putfield 268, 3) := by decide +kernel
theorem dX8_layChange_121 : decode cX8_layChange 121 = .ok (.iinc 3 1, 3) := by decide +kernel
theorem dX8_layChange_124 : decode cX8_layChange 124 = .ok (.goto (-71), 3) := by decide +kernel
theorem dX8_layChange_127 : decode cX8_layChange 127 = .ok (.return_, 1) := by decide +kernel
theorem dX8_move_0 : decode cX8_move 0 = .ok (.iload_n 1, 1) := by decide +kernel
theorem dX8_move_1 : decode cX8_move 1 = .ok (.invokestatic 172, 3) := by decide +kernel
theorem dX8_move_4 : decode cX8_move 4 = .ok (.ifCond .eq 15, 3) := by decide +kernel
theorem dX8_move_7 : decode cX8_move 7 = .ok (.iload_n 2, 1) := by decide +kernel
theorem dX8_move_8 : decode cX8_move 8 = .ok (.i2l, 1) := by decide +kernel
theorem dX8_move_9 : decode cX8_move 9 = .ok (.lconst 0, 1) := by decide +kernel
theorem dX8_move_10 : decode cX8_move 10 = .ok (.ldc2_w 168, 3) := by decide +kernel
theorem dX8_move_13 : decode cX8_move 13 = .ok (.invokestatic 99, 3) := by decide +kernel
theorem dX8_move_16 : decode cX8_move 16 = .ok (.ifCond .ne 5, 3) := by decide +kernel
theorem dX8_move_19 : decode cX8_move 19 = .ok (.iconst (-1), 1) := by decide +kernel
theorem dX8_move_20 : decode cX8_move 20 = .ok (.ireturn, 1) := by decide +kernel
theorem dX8_move_21 : decode cX8_move 21 = .ok (.aload_n 0, 1) := by decide +kernel
theorem dX8_move_22 : decode cX8_move 22 = .ok (.getfield 37, 3) := by decide +kernel
theorem dX8_move_25 : decode cX8_move 25 = .ok (.iload_n 2, 1) := by decide +kernel
theorem dX8_move_26 : decode cX8_move 26 = .ok (.invokestatic 184, 3) := by decide +kernel
theorem dX8_move_29 : decode cX8_move 29 = .ok (.istore 4, 2) := by decide +kernel
theorem dX8_move_31 : decode cX8_move 31 = .ok (.aload_n 0, 1) := by decide +kernel
theorem dX8_move_32 : decode cX8_move 32 = .ok (.iload_n 1, 1) := by decide +kernel
theorem dX8_move_33 : decode cX8_move 33 = .ok (.iload 4, 2) := by decide +kernel
theorem dX8_move_35 : decode cX8_move 35 = .ok (.invokevirtual 271, 3) := by decide +kernel
theorem dX8_move_38 : decode cX8_move 38 = .ok (.aload_n 0, 1) := by decide +kernel
theorem dX8_move_39 : decode cX8_move 39 = .ok (.iload 4, 2) := by decide +kernel
theorem dX8_move_41 : decode cX8_move 41 = .ok (.putfield 37, 3) := by decide +kernel
theorem dX8_move_44 : decode cX8_move 44 = .ok (.aload_n 0, 1) := by decide +kernel
theorem dX8_move_45 : decode cX8_move 45 = .ok (.getfield 265, 3) := by decide +kernel
theorem dX8_move_48 : decode cX8_move 48 = .ok (.aload_n 0, 1) := by decide +kernel
theorem dX8_move_49 : decode cX8_move 49 = .ok (.getfield 268, 3) := by decide +kernel
theorem dX8_move_52 : decode cX8_move 52 = .ok (.ior, 1) := by decide +kernel
theorem dX8_move_53 : decode cX8_move 53 = .ok (.istore 5, 2) := by decide +kernel
theorem dX8_move_55 : decode cX8_move 55 = .ok (.aload_n 0, 1) := by decide +kernel
theorem dX8_move_56 : decode cX8_move 56 = .ok (.iload_n 3, 1) := by decide +kernel
theorem dX8_move_57 : decode cX8_move 57 = .ok (.ifCond .eq 18, 3) := by decide +kernel
theorem dX8_move_60 : decode cX8_move 60 = .ok (.iload 5, 2) := by decide +kernel
theorem dX8_move_62 : decode cX8_move 62 = .ok (.ifCond .eq 13, 3) := by decide +kernel
theorem dX8_move_65 : decode cX8_move 65 = .ok (.aload_n 0, 1) := by decide +kernel
theorem dX8_move_66 : decode cX8_move 66 = .ok (.getfield 28, 3) := by decide +kernel
