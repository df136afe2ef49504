theorem dX12_appends_5 : decode cX12_appends 5 = .ok (.goto 16, 3) := by decide +kernel
theorem dX12_appends_8 : decode cX12_appends 8 = .ok (.ldc2_w 190, 3) := by decide +kernel
theorem dX12_appends_11 : decode cX12_appends 11 = .ok (.lload_n 0, 1) := by decide +kernel
theorem dX12_appends_12 : decode cX12_appends 12 = .ok (.lmul, 1) := by decide +kernel
theorem dX12_appends_13 : decode cX12_appends 13 = .ok (.iload_n 2, 1) := by decide +kernel
theorem dX12_appends_14 : decode cX12_appends 14 = .ok (.bipush 97, 2) := by decide +kernel
theorem dX12_appends_16 : decode cX12_appends 16 = .ok (.isub, 1) := by decide +kernel
theorem dX12_appends_17 : decode cX12_appends 17 = .ok (.iconst 1, 1) := by decide +kernel
theorem dX12_appends_18 : decode cX12_appends 18 = .ok (.iadd, 1) := by decide +kernel
theorem dX12_appends_19 : decode cX12_appends 19 = .ok (.i2l, 1) := by decide +kernel
theorem dX12_appends_20 : decode cX12_appends 20 = .ok (.ladd, 1) := by decide +kernel
theorem dX12_appends_21 : decode cX12_appends 21 = .ok (.lreturn, 1) := by decide +kernel
theorem dX12_word_0 : decode cX12_word 0 = .ok (.lconst 0, 1) := by decide +kernel
theorem dX12_word_1 : decode cX12_word 1 = .ok (.iload_n 0, 1) := by decide +kernel
theorem dX12_word_2 : decode cX12_word 2 = .ok (.invokestatic 192, 3) := by decide +kernel
theorem dX12_word_5 : decode cX12_word 5 = .ok (.iload_n 1, 1) := by decide +kernel
theorem dX12_word_6 : decode cX12_word 6 = .ok (.invokestatic 192, 3) := by decide +kernel
theorem dX12_word_9 : decode cX12_word 9 = .ok (.iload_n 2, 1) := by decide +kernel
theorem dX12_word_10 : decode cX12_word 10 = .ok (.invokestatic 192, 3) := by decide +kernel
theorem dX12_word_13 : decode cX12_word 13 = .ok (.iload_n 3, 1) := by decide +kernel
theorem dX12_word_14 : decode cX12_word 14 = .ok (.invokestatic 192, 3) := by decide +kernel
theorem dX12_word_17 : decode cX12_word 17 = .ok (.iload 4, 2) := by decide +kernel
theorem dX12_word_19 : decode cX12_word 19 = .ok (.invokestatic 192, 3) := by decide +kernel
theorem dX12_word_22 : decode cX12_word 22 = .ok (.iload 5, 2) := by decide +kernel
theorem dX12_word_24 : decode cX12_word 24 = .ok (.invokestatic 192, 3) := by decide +kernel
theorem dX12_word_27 : decode cX12_word 27 = .ok (.iload 6, 2) := by decide +kernel
theorem dX12_word_29 : decode cX12_word 29 = .ok (.invokestatic 192, 3) := by decide +kernel
theorem dX12_word_32 : decode cX12_word 32 = .ok (.lreturn, 1) := by decide +kernel
theorem dX12_token_0 : decode cX12_token 0 = .ok (.aload_n 0, 1) := by decide +kernel
theorem dX12_token_1 : decode cX12_token 1 = .ok (.getfield 20, 3) := by decide +kernel
theorem dX12_token_4 : decode cX12_token 4 = .ok (.aload_n 0, 1) := by decide +kernel
theorem dX12_token_5 : decode cX12_token 5 = .ok (.getfield 196, 3) := by decide +kernel
theorem dX12_token_8 : decode cX12_token 8 = .ok (.iload_n 1, 1) := by decide +kernel
theorem dX12_token_9 : decode cX12_token 9 = .ok (.iastore, 1) := by decide +kernel
theorem dX12_token_10 : decode cX12_token 10 = .ok (.aload_n 0, 1) := by decide +kernel
theorem dX12_token_11 : decode cX12_token 11 = .ok (.getfield 24, 3) := by decide +kernel
theorem dX12_token_14 : decode cX12_token 14 = .ok (.aload_n 0, 1) := by decide +kernel
theorem dX12_token_15 : decode cX12_token 15 = .ok (.getfield 196, 3) := by decide +kernel
theorem dX12_token_18 : decode cX12_token 18 = .ok (.iload_n 2, 1) := by decide +kernel
theorem dX12_token_19 : decode cX12_token 19 = .ok (.iastore, 1) := by decide +kernel
theorem dX12_token_20 : decode cX12_token 20 = .ok (.aload_n 0, 1) := by decide +kernel
theorem dX12_token_21 : decode cX12_token 21 = .ok (.getfield 27, 3) := by decide +kernel
theorem dX12_token_24 : decode cX12_token 24 = .ok (.aload_n 0, 1) := by decide +kernel
theorem dX12_token_25 : decode cX12_token 25 = .ok (.getfield 196, 3) := by decide +kernel
theorem dX12_token_28 : decode cX12_token 28 = .ok (.iload_n 3, 1) := by decide +kernel
theorem dX12_token_29 : decode cX12_token 29 = .ok (.iastore, 1) := by decide +kernel
theorem dX12_token_30 : decode cX12_token 30 = .ok (.aload_n 0, 1) := by decide +kernel
theorem dX12_token_31 : decode cX12_token 31 = .ok (.getfield 30, 3) := by decide +kernel
theorem dX12_token_34 : decode cX12_token 34 = .ok (.aload_n 0, 1) := by decide +kernel
theorem dX12_token_35 : decode cX12_token 35 = .ok (.getfield 196, 3) := by decide +kernel
theorem dX12_token_38 : decode cX12_token 38 = .ok (.lload 4, 2) := by decide +kernel
theorem dX12_token_40 : decode cX12_token 40 = .ok (.lastore, 1) := by decide +kernel
theorem dX12_token_41 : decode cX12_token 41 = .ok (.aload_n 0, 1) := by decide +kernel
theorem dX12_token_42 : decode cX12_token 42 = .ok (.dup, 1) := by decide +kernel
theorem dX12_token_43 : decode cX12_token 43 = .ok (.getfield 196, 3) := by decide +kernel
theorem dX12_token_46 : decode cX12_token 46 = .ok (.iconst 1, 1) := by decide +kernel
theorem dX12_token_47 : decode cX12_token 47 = .ok (.iadd, 1) := by decide +kernel
theorem dX12_token_48 : decode cX12_token 48 = .ok (.putfield 196, 3) := by decide +kernel
theorem dX12_token_51 : decode cX12_token 51 = .ok (.return_, 1) := by decide +kernel
theorem dX12_cut_0 : decode cX12_cut 0 = .ok (.aload_n 0, 1) := by decide +kernel
theorem dX12_cut_1 : decode cX12_cut 1 = .ok (.iconst 0, 1) := by decide +kernel
theorem dX12_cut_2 : decode cX12_cut 2 = .ok (.putfield 196, 3) := by decide +kernel
theorem dX12_cut_5 : decode cX12_cut 5 = .ok (.iconst 0, 1) := by decide +kernel
theorem dX12_cut_6 : decode cX12_cut 6 = .ok (.istore_n 1, 1) := by decide +kernel
theorem dX12_cut_7 : decode cX12_cut 7 = .ok (.aload_n 0, 1) := by decide +kernel
theorem dX12_cut_8 : decode cX12_cut 8 = .ok (.getfield 196, 3) := by decide +kernel
theorem dX12_cut_11 : decode cX12_cut 11 = .ok (.sipush 400, 3) := by decide +kernel
theorem dX12_cut_14 : decode cX12_cut 14 = .ok (.if_icmp .gt 280, 3) := by decide +kernel
theorem dX12_cut_17 : decode cX12_cut 17 = .ok (.aload_n 0, 1) := by decide +kernel
theorem dX12_cut_18 : decode cX12_cut 18 = .ok (.iload_n 1, 1) := by decide +kernel
theorem dX12_cut_19 : decode cX12_cut 19 = .ok (.invokevirtual 199, 3) := by decide +kernel
theorem dX12_cut_22 : decode cX12_cut 22 = .ok (.istore_n 2, 1) := by decide +kernel
theorem dX12_cut_23 : decode cX12_cut 23 = .ok (.iload_n 1, 1) := by decide +kernel
theorem dX12_cut_24 : decode cX12_cut 24 = .ok (.aload_n 0, 1) := by decide +kernel
theorem dX12_cut_25 : decode cX12_cut 25 = .ok (.getfield 187, 3) := by decide +kernel
theorem dX12_cut_28 : decode cX12_cut 28 = .ok (.if_icmp .lt 15, 3) := by decide +kernel
theorem dX12_cut_31 : decode cX12_cut 31 = .ok (.aload_n 0, 1) := by decide +kernel
theorem dX12_cut_32 : decode cX12_cut 32 = .ok (.iconst 0, 1) := by decide +kernel
theorem dX12_cut_33 : decode cX12_cut 33 = .ok (.aload_n 0, 1) := by decide +kernel
theorem dX12_cut_34 : decode cX12_cut 34 = .ok (.getfield 187, 3) := by decide +kernel
theorem dX12_cut_37 : decode cX12_cut 37 = .ok (.iconst 0, 1) := by decide +kernel
theorem dX12_cut_38 : decode cX12_cut 38 = .ok (.lconst 0, 1) := by decide +kernel
theorem dX12_cut_39 : decode cX12_cut 39 = .ok (.invokevirtual 203, 3) := by decide +kernel
theorem dX12_cut_42 : decode cX12_cut 42 = .ok (.return_, 1) := by decide +kernel
theorem dX12_cut_43 : decode cX12_cut 43 = .ok (.iload_n 2, 1) := by decide +kernel
theorem dX12_cut_44 : decode cX12_cut 44 = .ok (.bipush 9, 2) := by decide +kernel
theorem dX12_cut_46 : decode cX12_cut 46 = .ok (.if_icmp .eq 21, 3) := by decide +kernel
theorem dX12_cut_49 : decode cX12_cut 49 = .ok (.iload_n 2, 1) := by decide +kernel
theorem dX12_cut_50 : decode cX12_cut 50 = .ok (.bipush 10, 2) := by decide +kernel
theorem dX12_cut_52 : decode cX12_cut 52 = .ok (.if_icmp .eq 15, 3) := by decide +kernel
theorem dX12_cut_55 : decode cX12_cut 55 = .ok (.iload_n 2, 1) := by decide +kernel
theorem dX12_cut_56 : decode cX12_cut 56 = .ok (.bipush 13, 2) := by decide +kernel
theorem dX12_cut_58 : decode cX12_cut 58 = .ok (.if_icmp .eq 9, 3) := by decide +kernel
theorem dX12_cut_61 : decode cX12_cut 61 = .ok (.iload_n 2, 1) := by decide +kernel
theorem dX12_cut_62 : decode cX12_cut 62 = .ok (.bipush 32, 2) := by decide +kernel
theorem dX12_cut_64 : decode cX12_cut 64 = .ok (.if_icmp .ne 9, 3) := by decide +kernel
theorem dX12_cut_67 : decode cX12_cut 67 = .ok (.iinc 1 1, 3) := by decide +kernel
theorem dX12_cut_70 : decode cX12_cut 70 = .ok (.goto 221, 3) := by decide +kernel
theorem dX12_cut_73 : decode cX12_cut 73 = .ok (.iload_n 2, 1) := by decide +kernel
theorem dX12_cut_74 : decode cX12_cut 74 = .ok (.invokestatic 207, 3) := by decide +kernel
theorem dX12_cut_77 : decode cX12_cut 77 = .ok (.ifCond .eq 119, 3) := by decide +kernel
theorem dX12_cut_80 : decode cX12_cut 80 = .ok (.iconst 0, 1) := by decide +kernel
theorem dX12_cut_81 : decode cX12_cut 81 = .ok (.istore_n 3, 1) := by decide +kernel
theorem dX12_cut_82 : decode cX12_cut 82 = .ok (.lconst 0, 1) := by decide +kernel
theorem dX12_cut_83 : decode cX12_cut 83 = .ok (.lstore 4, 2) := by decide +kernel
theorem dX12_cut_85 : decode cX12_cut 85 = .ok (.aload_n 0, 1) := by decide +kernel
theorem dX12_cut_86 : decode cX12_cut 86 = .ok (.iload_n 1, 1) := by decide +kernel
theorem dX12_cut_87 : decode cX12_cut 87 = .ok (.iload_n 3, 1) := by decide +kernel
theorem dX12_cut_88 : decode cX12_cut 88 = .ok (.iadd, 1) := by decide +kernel
theorem dX12_cut_89 : decode cX12_cut 89 = .ok (.invokevirtual 199, 3) := by decide +kernel
theorem dX12_cut_92 : decode cX12_cut 92 = .ok (.invokestatic 207, 3) := by decide +kernel
theorem dX12_cut_95 : decode cX12_cut 95 = .ok (.ifCond .eq 29, 3) := by decide +kernel
theorem dX12_cut_98 : decode cX12_cut 98 = .ok (.iload_n 3, 1) := by decide +kernel
theorem dX12_cut_99 : decode cX12_cut 99 = .ok (.bipush 8, 2) := by decide +kernel
theorem dX12_cut_101 : decode cX12_cut 101 = .ok (.if_icmp .ge 17, 3) := by decide +kernel
theorem dX12_cut_104 : decode cX12_cut 104 = .ok (.lload 4, 2) := by decide +kernel
theorem dX12_cut_106 : decode cX12_cut 106 = .ok (.aload_n 0, 1) := by decide +kernel
theorem dX12_cut_107 : decode cX12_cut 107 = .ok (.iload_n 1, 1) := by decide +kernel
theorem dX12_cut_108 : decode cX12_cut 108 = .ok (.iload_n 3, 1) := by decide +kernel
theorem dX12_cut_109 : decode cX12_cut 109 = .ok (.iadd, 1) := by decide +kernel
theorem dX12_cut_110 : decode cX12_cut 110 = .ok (.invokevirtual 199, 3) := by decide +kernel
theorem dX12_cut_113 : decode cX12_cut 113 = .ok (.invokestatic 192, 3) := by decide +kernel
theorem dX12_cut_116 : decode cX12_cut 116 = .ok (.lstore 4, 2) := by decide +kernel
theorem dX12_cut_118 : decode cX12_cut 118 = .ok (.iinc 3 1, 3) := by decide +kernel
theorem dX12_cut_121 : decode cX12_cut 121 = .ok (.goto (-36), 3) := by decide +kernel
theorem dX12_cut_124 : decode cX12_cut 124 = .ok (.iload_n 3, 1) := by decide +kernel
theorem dX12_cut_125 : decode cX12_cut 125 = .ok (.bipush 8, 2) := by decide +kernel
theorem dX12_cut_127 : decode cX12_cut 127 = .ok (.if_icmp .le 7, 3) := by decide +kernel
theorem dX12_cut_130 : decode cX12_cut 130 = .ok (.iconst 3, 1) := by decide +kernel
theorem dX12_cut_131 : decode cX12_cut 131 = .ok (.goto 4, 3) := by decide +kernel
theorem dX12_cut_134 : decode cX12_cut 134 = .ok (.iconst 1, 1) := by decide +kernel
theorem dX12_cut_135 : decode cX12_cut 135 = .ok (.istore 6, 2) := by decide +kernel
theorem dX12_cut_137 : decode cX12_cut 137 = .ok (.iload_n 3, 1) := by decide +kernel
theorem dX12_cut_138 : decode cX12_cut 138 = .ok (.bipush 7, 2) := by decide +kernel
theorem dX12_cut_140 : decode cX12_cut 140 = .ok (.if_icmp .gt 39, 3) := by decide +kernel
theorem dX12_cut_143 : decode cX12_cut 143 = .ok (.iconst 0, 1) := by decide +kernel
theorem dX12_cut_144 : decode cX12_cut 144 = .ok (.istore 7, 2) := by decide +kernel
theorem dX12_cut_146 : decode cX12_cut 146 = .ok (.iload 7, 2) := by decide +kernel
theorem dX12_cut_148 : decode cX12_cut 148 = .ok (.bipush 17, 2) := by decide +kernel
theorem dX12_cut_150 : decode cX12_cut 150 = .ok (.if_icmp .ge 29, 3) := by decide +kernel
theorem dX12_cut_153 : decode cX12_cut 153 = .ok (.aload_n 0, 1) := by decide +kernel
theorem dX12_cut_154 : decode cX12_cut 154 = .ok (.getfield 34, 3) := by decide +kernel
theorem dX12_cut_157 : decode cX12_cut 157 = .ok (.iload 7, 2) := by decide +kernel
theorem dX12_cut_159 : decode cX12_cut 159 = .ok (.laload, 1) := by decide +kernel
theorem dX12_cut_160 : decode cX12_cut 160 = .ok (.lload 4, 2) := by decide +kernel
theorem dX12_cut_162 : decode cX12_cut 162 = .ok (.lcmp, 1) := by decide +kernel
theorem dX12_cut_163 : decode cX12_cut 163 = .ok (.ifCond .ne 10, 3) := by decide +kernel
theorem dX12_cut_166 : decode cX12_cut 166 = .ok (.bipush 20, 2) := by decide +kernel
theorem dX12_cut_168 : decode cX12_cut 168 = .ok (.iload 7, 2) := by decide +kernel
theorem dX12_cut_170 : decode cX12_cut 170 = .ok (.iadd, 1) := by decide +kernel
theorem dX12_cut_171 : decode cX12_cut 171 = .ok (.istore 6, 2) := by decide +kernel
theorem dX12_cut_173 : decode cX12_cut 173 = .ok (.iinc 7 1, 3) := by decide +kernel
theorem dX12_cut_176 : decode cX12_cut 176 = .ok (.goto (-30), 3) := by decide +kernel
theorem dX12_cut_179 : decode cX12_cut 179 = .ok (.aload_n 0, 1) := by decide +kernel
theorem dX12_cut_180 : decode cX12_cut 180 = .ok (.iload 6, 2) := by decide +kernel
theorem dX12_cut_182 : decode cX12_cut 182 = .ok (.iload_n 1, 1) := by decide +kernel
theorem dX12_cut_183 : decode cX12_cut 183 = .ok (.iconst 0, 1) := by decide +kernel
theorem dX12_cut_184 : decode cX12_cut 184 = .ok (.lload 4, 2) := by decide +kernel
theorem dX12_cut_186 : decode cX12_cut 186 = .ok (.invokevirtual 203, 3) := by decide +kernel
theorem dX12_cut_189 : decode cX12_cut 189 = .ok (.iload_n 1, 1) := by decide +kernel
theorem dX12_cut_190 : decode cX12_cut 190 = .ok (.iload_n 3, 1) := by decide +kernel
theorem dX12_cut_191 : decode cX12_cut 191 = .ok (.iadd, 1) := by decide +kernel
theorem dX12_cut_192 : decode cX12_cut 192 = .ok (.istore_n 1, 1) := by decide +kernel
theorem dX12_cut_193 : decode cX12_cut 193 = .ok (.goto 98, 3) := by decide +kernel
theorem dX12_cut_196 : decode cX12_cut 196 = .ok (.iload_n 2, 1) := by decide +kernel
theorem dX12_cut_197 : decode cX12_cut 197 = .ok (.invokestatic 211, 3) := by decide +kernel
theorem dX12_cut_200 : decode cX12_cut 200 = .ok (.ifCond .eq 75, 3) := by decide +kernel
theorem dX12_cut_203 : decode cX12_cut 203 = .ok (.iconst 0, 1) := by decide +kernel
theorem dX12_cut_204 : decode cX12_cut 204 = .ok (.istore_n 3, 1) := by decide +kernel
theorem dX12_cut_205 : decode cX12_cut 205 = .ok (.iconst 0, 1) := by decide +kernel
theorem dX12_cut_206 : decode cX12_cut 206 = .ok (.istore 4, 2) := by decide +kernel
theorem dX12_cut_208 : decode cX12_cut 208 = .ok (.aload_n 0, 1) := by decide +kernel
theorem dX12_cut_209 : decode cX12_cut 209 = .ok (.iload_n 1, 1) := by decide +kernel
theorem dX12_cut_210 : decode cX12_cut 210 = .ok (.iload_n 3, 1) := by decide +kernel
theorem dX12_cut_211 : decode cX12_cut 211 = .ok (.iadd, 1) := by decide +kernel
theorem dX12_cut_212 : decode cX12_cut 212 = .ok (.invokevirtual 199, 3) := by decide +kernel
theorem dX12_cut_215 : decode cX12_cut 215 = .ok (.invokestatic 211, 3) := by decide +kernel
theorem dX12_cut_218 : decode cX12_cut 218 = .ok (.ifCond .eq 32, 3) := by decide +kernel
theorem dX12_cut_221 : decode cX12_cut 221 = .ok (.iload_n 3, 1) := by decide +kernel
theorem dX12_cut_222 : decode cX12_cut 222 = .ok (.iconst 4, 1) := by decide +kernel
theorem dX12_cut_223 : decode cX12_cut 223 = .ok (.if_icmp .ge 21, 3) := by decide +kernel
theorem dX12_cut_226 : decode cX12_cut 226 = .ok (.bipush 10, 2) := by decide +kernel
theorem dX12_cut_228 : decode cX12_cut 228 = .ok (.iload 4, 2) := by decide +kernel
theorem dX12_cut_230 : decode cX12_cut 230 = .ok (.imul, 1) := by decide +kernel
theorem dX12_cut_231 : decode cX12_cut 231 = .ok (.aload_n 0, 1) := by decide +kernel
theorem dX12_cut_232 : decode cX12_cut 232 = .ok (.iload_n 1, 1) := by decide +kernel
theorem dX12_cut_233 : decode cX12_cut 233 = .ok (.iload_n 3, 1) := by decide +kernel
theorem dX12_cut_234 : decode cX12_cut 234 = .ok (.iadd, 1) := by decide +kernel
theorem dX12_cut_235 : decode cX12_cut 235 = .ok (.invokevirtual 199, 3) := by decide +kernel
theorem dX12_cut_238 : decode cX12_cut 238 = .ok (.iadd, 1) := by decide +kernel
theorem dX12_cut_239 : decode cX12_cut 239 = .ok (.bipush 48, 2) := by decide +kernel
theorem dX12_cut_241 : decode cX12_cut 241 = .ok (.isub, 1) := by decide +kernel
theorem dX12_cut_242 : decode cX12_cut 242 = .ok (.istore 4, 2) := by decide +kernel
theorem dX12_cut_244 : decode cX12_cut 244 = .ok (.iinc 3 1, 3) := by decide +kernel
theorem dX12_cut_247 : decode cX12_cut 247 = .ok (.goto (-39), 3) := by decide +kernel
theorem dX12_cut_250 : decode cX12_cut 250 = .ok (.aload_n 0, 1) := by decide +kernel
theorem dX12_cut_251 : decode cX12_cut 251 = .ok (.iload_n 3, 1) := by decide +kernel
theorem dX12_cut_252 : decode cX12_cut 252 = .ok (.iconst 4, 1) := by decide +kernel
theorem dX12_cut_253 : decode cX12_cut 253 = .ok (.if_icmp .le 7, 3) := by decide +kernel
theorem dX12_cut_256 : decode cX12_cut 256 = .ok (.iconst 3, 1) := by decide +kernel
theorem dX12_cut_257 : decode cX12_cut 257 = .ok (.goto 4, 3) := by decide +kernel
theorem dX12_cut_260 : decode cX12_cut 260 = .ok (.iconst 2, 1) := by decide +kernel
theorem dX12_cut_261 : decode cX12_cut 261 = .ok (.iload_n 1, 1) := by decide +kernel
theorem dX12_cut_262 : decode cX12_cut 262 = .ok (.iload 4, 2) := by decide +kernel
theorem dX12_cut_264 : decode cX12_cut 264 = .ok (.lconst 0, 1) := by decide +kernel
theorem dX12_cut_265 : decode cX12_cut 265 = .ok (.invokevirtual 203, 3) := by decide +kernel
theorem dX12_cut_268 : decode cX12_cut 268 = .ok (.iload_n 1, 1) := by decide +kernel
theorem dX12_cut_269 : decode cX12_cut 269 = .ok (.iload_n 3, 1) := by decide +kernel
theorem dX12_cut_270 : decode cX12_cut 270 = .ok (.iadd, 1) := by decide +kernel
theorem dX12_cut_271 : decode cX12_cut 271 = .ok (.istore_n 1, 1) := by decide +kernel
theorem dX12_cut_272 : decode cX12_cut 272 = .ok (.goto 19, 3) := by decide +kernel
theorem dX12_cut_275 : decode cX12_cut 275 = .ok (.iload_n 1, 1) := by decide +kernel
theorem dX12_cut_276 : decode cX12_cut 276 = .ok (.aload_n 0, 1) := by decide +kernel
theorem dX12_cut_277 : decode cX12_cut 277 = .ok (.iload_n 1, 1) := by decide +kernel
theorem dX12_cut_278 : decode cX12_cut 278 = .ok (.iload_n 2, 1) := by decide +kernel
theorem dX12_cut_279 : decode cX12_cut 279 = .ok (.aload_n 0, 1) := by decide +kernel
theorem dX12_cut_280 : decode cX12_cut 280 = .ok (.iload_n 1, 1) := by decide +kernel
theorem dX12_cut_281 : decode cX12_cut 281 = .ok (.iconst 1, 1) := by decide +kernel
theorem dX12_cut_282 : decode cX12_cut 282 = .ok (.iadd, 1) := by decide +kernel
theorem dX12_cut_283 : decode cX12_cut 283 = .ok (.invokevirtual 199, 3) := by decide +kernel
theorem dX12_cut_286 : decode cX12_cut 286 = .ok (.invokevirtual 214, 3) := by decide +kernel
theorem dX12_cut_289 : decode cX12_cut 289 = .ok (.iadd, 1) := by decide +kernel
theorem dX12_cut_290 : decode cX12_cut 290 = .ok (.istore_n 1, 1) := by decide +kernel
theorem dX12_cut_291 : decode cX12_cut 291 = .ok (.goto (-284), 3) := by decide +kernel
theorem dX12_cut_294 : decode cX12_cut 294 = .ok (.return_, 1) := by decide +kernel
theorem dX12_sign_0 : decode cX12_sign 0 = .ok (.iload_n 2, 1) := by decide +kernel
theorem dX12_sign_1 : decode cX12_sign 1 = .ok (.bipush 59, 2) := by decide +kernel
theorem dX12_sign_3 : decode cX12_sign 3 = .ok (.if_icmp .ne 7, 3) := by decide +kernel
theorem dX12_sign_6 : decode cX12_sign 6 = .ok (.iconst 4, 1) := by decide +kernel
theorem dX12_sign_7 : decode cX12_sign 7 = .ok (.goto 36, 3) := by decide +kernel
theorem dX12_sign_10 : decode cX12_sign 10 = .ok (.iload_n 2, 1) := by decide +kernel
theorem dX12_sign_11 : decode cX12_sign 11 = .ok (.bipush 61, 2) := by decide +kernel
theorem dX12_sign_13 : decode cX12_sign 13 = .ok (.if_icmp .ne 7, 3) := by decide +kernel
theorem dX12_sign_16 : decode cX12_sign 16 = .ok (.iconst 5, 1) := by decide +kernel
theorem dX12_sign_17 : decode cX12_sign 17 = .ok (.goto 26, 3) := by decide +kernel
theorem dX12_sign_20 : decode cX12_sign 20 = .ok (.iload_n 2, 1) := by decide +kernel
theorem dX12_sign_21 : decode cX12_sign 21 = .ok (.bipush 40, 2) := by decide +kernel
theorem dX12_sign_23 : decode cX12_sign 23 = .ok (.if_icmp .ne 8, 3) := by decide +kernel
theorem dX12_sign_26 : decode cX12_sign 26 = .ok (.bipush 6, 2) := by decide +kernel
theorem dX12_sign_28 : decode cX12_sign 28 = .ok (.goto 15, 3) := by decide +kernel
theorem dX12_sign_31 : decode cX12_sign 31 = .ok (.iload_n 2, 1) := by decide +kernel
theorem dX12_sign_32 : decode cX12_sign 32 = .ok (.bipush 41, 2) := by decide +kernel
theorem dX12_sign_34 : decode cX12_sign 34 = .ok (.if_icmp .ne 8, 3) := by decide +kernel
theorem dX12_sign_37 : decode cX12_sign 37 = .ok (.bipush 7, 2) := by decide +kernel
theorem dX12_sign_39 : decode cX12_sign 39 = .ok (.goto 4, 3) := by decide +kernel
theorem dX12_sign_42 : decode cX12_sign 42 = .ok (.iconst 3, 1) := by decide +kernel
theorem dX12_sign_43 : decode cX12_sign 43 = .ok (.istore 4, 2) := by decide +kernel
theorem dX12_sign_45 : decode cX12_sign 45 = .ok (.iload_n 2, 1) := by decide +kernel
theorem dX12_sign_46 : decode cX12_sign 46 = .ok (.bipush 43, 2) := by decide +kernel
theorem dX12_sign_48 : decode cX12_sign 48 = .ok (.if_icmp .ne 7, 3) := by decide +kernel
theorem dX12_sign_51 : decode cX12_sign 51 = .ok (.bipush 8, 2) := by decide +kernel
theorem dX12_sign_53 : decode cX12_sign 53 = .ok (.istore 4, 2) := by decide +kernel
theorem dX12_sign_55 : decode cX12_sign 55 = .ok (.iload_n 2, 1) := by decide +kernel
theorem dX12_sign_56 : decode cX12_sign 56 = .ok (.bipush 45, 2) := by decide +kernel
theorem dX12_sign_58 : decode cX12_sign 58 = .ok (.if_icmp .ne 7, 3) := by decide +kernel
theorem dX12_sign_61 : decode cX12_sign 61 = .ok (.bipush 9, 2) := by decide +kernel
theorem dX12_sign_63 : decode cX12_sign 63 = .ok (.istore 4, 2) := by decide +kernel
theorem dX12_sign_65 : decode cX12_sign 65 = .ok (.iload_n 2, 1) := by decide +kernel
theorem dX12_sign_66 : decode cX12_sign 66 = .ok (.bipush 42, 2) := by decide +kernel
theorem dX12_sign_68 : decode cX12_sign 68 = .ok (.if_icmp .ne 7, 3) := by decide +kernel
theorem dX12_sign_71 : decode cX12_sign 71 = .ok (.bipush 10, 2) := by decide +kernel
theorem dX12_sign_73 : decode cX12_sign 73 = .ok (.istore 4, 2) := by decide +kernel
theorem dX12_sign_75 : decode cX12_sign 75 = .ok (.iload_n 2, 1) := by decide +kernel
theorem dX12_sign_76 : decode cX12_sign 76 = .ok (.bipush 47, 2) := by decide +kernel
theorem dX12_sign_78 : decode cX12_sign 78 = .ok (.if_icmp .ne 7, 3) := by decide +kernel
theorem dX12_sign_81 : decode cX12_sign 81 = .ok (.bipush 15, 2) := by decide +kernel
theorem dX12_sign_83 : decode cX12_sign 83 = .ok (.istore 4, 2) := by decide +kernel
theorem dX12_sign_85 : decode cX12_sign 85 = .ok (.iload_n 2, 1) := by decide +kernel
theorem dX12_sign_86 : decode cX12_sign 86 = .ok (.bipush 60, 2) := by decide +kernel
theorem dX12_sign_88 : decode cX12_sign 88 = .ok (.if_icmp .ne 7, 3) := by decide +kernel
theorem dX12_sign_91 : decode cX12_sign 91 = .ok (.bipush 13, 2) := by decide +kernel
theorem dX12_sign_93 : decode cX12_sign 93 = .ok (.istore 4, 2) := by decide +kernel
theorem dX12_sign_95 : decode cX12_sign 95 = .ok (.aload_n 0, 1) := by decide +kernel
theorem dX12_sign_96 : decode cX12_sign 96 = .ok (.iload 4, 2) := by decide +kernel
theorem dX12_sign_98 : decode cX12_sign 98 = .ok (.iload_n 1, 1) := by decide +kernel
theorem dX12_sign_99 : decode cX12_sign 99 = .ok (.iconst 0, 1) := by decide +kernel
theorem dX12_sign_100 : decode cX12_sign 100 = .ok (.lconst 0, 1) := by decide +kernel
theorem dX12_sign_101 : decode cX12_sign 101 = .ok (.invokevirtual 203, 3) := by decide +kernel
theorem dX12_sign_104 : decode cX12_sign 104 = .ok (.iconst 1, 1) := by decide +kernel
theorem dX12_sign_105 : decode cX12_sign 105 = .ok (.ireturn, 1) := by decide +kernel
theorem dX12_is_0 : decode cX12_is 0 = .ok (.aload_n 0, 1) := by decide +kernel
theorem dX12_is_1 : decode cX12_is 1 = .ok (.getfield 218, 3) := by decide +kernel
theorem dX12_is_4 : decode cX12_is 4 = .ok (.ifCond .ne 20, 3) := by decide +kernel
theorem dX12_is_7 : decode cX12_is 7 = .ok (.aload_n 0, 1) := by decide +kernel
theorem dX12_is_8 : decode cX12_is 8 = .ok (.getfield 20, 3) := by decide +kernel
theorem dX12_is_11 : decode cX12_is 11 = .ok (.aload_n 0, 1) := by decide +kernel
theorem dX12_is_12 : decode cX12_is 12 = .ok (.getfield 221, 3) := by decide +kernel
theorem dX12_is_15 : decode cX12_is 15 = .ok (.iaload, 1) := by decide +kernel
theorem dX12_is_16 : decode cX12_is 16 = .ok (.iload_n 1, 1) := by decide +kernel
theorem dX12_is_17 : decode cX12_is 17 = .ok (.if_icmp .ne 7, 3) := by decide +kernel
theorem dX12_is_20 : decode cX12_is 20 = .ok (.iconst 1, 1) := by decide +kernel
theorem dX12_is_21 : decode cX12_is 21 = .ok (.goto 4, 3) := by decide +kernel
theorem dX12_is_24 : decode cX12_is 24 = .ok (.iconst 0, 1) := by decide +kernel
theorem dX12_is_25 : decode cX12_is 25 = .ok (.ireturn, 1) := by decide +kernel
theorem dX12_fail_0 : decode cX12_fail 0 = .ok (.aload_n 0, 1) := by decide +kernel
theorem dX12_fail_1 : decode cX12_fail 1 = .ok (.getfield 218, 3) := by decide +kernel
theorem dX12_fail_4 : decode cX12_fail 4 = .ok (.ifCond .le 4, 3) := by decide +kernel
theorem dX12_fail_7 : decode cX12_fail 7 = .ok (.return_, 1) := by decide +kernel
theorem dX12_fail_8 : decode cX12_fail 8 = .ok (.aload_n 0, 1) := by decide +kernel
theorem dX12_fail_9 : decode cX12_fail 9 = .ok (.iload_n 1, 1) := by decide +kernel
theorem dX12_fail_10 : decode cX12_fail 10 = .ok (.putfield 218, 3) := by decide +kernel
theorem dX12_fail_13 : decode cX12_fail 13 = .ok (.aload_n 0, 1) := by decide +kernel
theorem dX12_fail_14 : decode cX12_fail 14 = .ok (.aload_n 0, 1) := by decide +kernel
theorem dX12_fail_15 : decode cX12_fail 15 = .ok (.getfield 24, 3) := by decide +kernel
theorem dX12_fail_18 : decode cX12_fail 18 = .ok (.aload_n 0, 1) := by decide +kernel
theorem dX12_fail_19 : decode cX12_fail 19 = .ok (.getfield 221, 3) := by decide +kernel
theorem dX12_fail_22 : decode cX12_fail 22 = .ok (.iaload, 1) := by decide +kernel
theorem dX12_fail_23 : decode cX12_fail 23 = .ok (.putfield 224, 3) := by decide +kernel
theorem dX12_fail_26 : decode cX12_fail 26 = .ok (.return_, 1) := by decide +kernel
theorem dX12_wrong_0 : decode cX12_wrong 0 = .ok (.aload_n 0, 1) := by decide +kernel
theorem dX12_wrong_1 : decode cX12_wrong 1 = .ok (.getfield 24, 3) := by decide +kernel
theorem dX12_wrong_4 : decode cX12_wrong 4 = .ok (.iload_n 2, 1) := by decide +kernel
theorem dX12_wrong_5 : decode cX12_wrong 5 = .ok (.iaload, 1) := by decide +kernel
theorem dX12_wrong_6 : decode cX12_wrong 6 = .ok (.istore_n 3, 1) := by decide +kernel
theorem dX12_wrong_7 : decode cX12_wrong 7 = .ok (.aload_n 0, 1) := by decide +kernel
theorem dX12_wrong_8 : decode cX12_wrong 8 = .ok (.getfield 218, 3) := by decide +kernel
theorem dX12_wrong_11 : decode cX12_wrong 11 = .ok (.ifCond .gt 34, 3) := by decide +kernel
theorem dX12_wrong_14 : decode cX12_wrong 14 = .ok (.aload_n 0, 1) := by decide +kernel
theorem dX12_wrong_15 : decode cX12_wrong 15 = .ok (.getfield 227, 3) := by decide +kernel
theorem dX12_wrong_18 : decode cX12_wrong 18 = .ok (.ifCond .eq 28, 3) := by decide +kernel
theorem dX12_wrong_21 : decode cX12_wrong 21 = .ok (.iload_n 3, 1) := by decide +kernel
theorem dX12_wrong_22 : decode cX12_wrong 22 = .ok (.aload_n 0, 1) := by decide +kernel
theorem dX12_wrong_23 : decode cX12_wrong 23 = .ok (.getfield 230, 3) := by decide +kernel
theorem dX12_wrong_26 : decode cX12_wrong 26 = .ok (.if_icmp .gt 19, 3) := by decide +kernel
theorem dX12_wrong_29 : decode cX12_wrong 29 = .ok (.iload_n 3, 1) := by decide +kernel
theorem dX12_wrong_30 : decode cX12_wrong 30 = .ok (.aload_n 0, 1) := by decide +kernel
theorem dX12_wrong_31 : decode cX12_wrong 31 = .ok (.getfield 230, 3) := by decide +kernel
theorem dX12_wrong_34 : decode cX12_wrong 34 = .ok (.if_icmp .ne 12, 3) := by decide +kernel
theorem dX12_wrong_37 : decode cX12_wrong 37 = .ok (.iload_n 1, 1) := by decide +kernel
theorem dX12_wrong_38 : decode cX12_wrong 38 = .ok (.aload_n 0, 1) := by decide +kernel
theorem dX12_wrong_39 : decode cX12_wrong 39 = .ok (.getfield 227, 3) := by decide +kernel
theorem dX12_wrong_42 : decode cX12_wrong 42 = .ok (.if_icmp .lt 4, 3) := by decide +kernel
theorem dX12_wrong_45 : decode cX12_wrong 45 = .ok (.return_, 1) := by decide +kernel
theorem dX12_wrong_46 : decode cX12_wrong 46 = .ok (.aload_n 0, 1) := by decide +kernel
theorem dX12_wrong_47 : decode cX12_wrong 47 = .ok (.iload_n 1, 1) := by decide +kernel
theorem dX12_wrong_48 : decode cX12_wrong 48 = .ok (.putfield 227, 3) := by decide +kernel
theorem dX12_wrong_51 : decode cX12_wrong 51 = .ok (.aload_n 0, 1) := by decide +kernel
theorem dX12_wrong_52 : decode cX12_wrong 52 = .ok (.iload_n 3, 1) := by decide +kernel
theorem dX12_wrong_53 : decode cX12_wrong 53 = .ok (.putfield 230, 3) := by decide +kernel
theorem dX12_wrong_56 : decode cX12_wrong 56 = .ok (.return_, 1) := by decide +kernel
theorem dX12_goesOn_0 : decode cX12_goesOn 0 = .ok (.aload_n 0, 1) := by decide +kernel
theorem dX12_goesOn_1 : decode cX12_goesOn 1 = .ok (.getfield 221, 3) := by decide +kernel
theorem dX12_goesOn_4 : decode cX12_goesOn 4 = .ok (.sipush 400, 3) := by decide +kernel
theorem dX12_goesOn_7 : decode cX12_goesOn 7 = .ok (.if_icmp .ne 11, 3) := by decide +kernel
theorem dX12_goesOn_10 : decode cX12_goesOn 10 = .ok (.aload_n 0, 1) := by decide +kernel
theorem dX12_goesOn_11 : decode cX12_goesOn 11 = .ok (.iconst 2, 1) := by decide +kernel
theorem dX12_goesOn_12 : decode cX12_goesOn 12 = .ok (.invokevirtual 233, 3) := by decide +kernel
theorem dX12_goesOn_15 : decode cX12_goesOn 15 = .ok (.goto 13, 3) := by decide +kernel
theorem dX12_goesOn_18 : decode cX12_goesOn 18 = .ok (.aload_n 0, 1) := by decide +kernel
theorem dX12_goesOn_19 : decode cX12_goesOn 19 = .ok (.dup, 1) := by decide +kernel
theorem dX12_goesOn_20 : decode cX12_goesOn 20 = .ok (.getfield 221, 3) := by decide +kernel
theorem dX12_goesOn_23 : decode cX12_goesOn 23 = .ok (.iconst 1, 1) := by decide +kernel
theorem dX12_goesOn_24 : decode cX12_goesOn 24 = .ok (.iadd, 1) := by decide +kernel
theorem dX12_goesOn_25 : decode cX12_goesOn 25 = .ok (.putfield 221, 3) := by decide +kernel
theorem dX12_goesOn_28 : decode cX12_goesOn 28 = .ok (.return_, 1) := by decide +kernel
theorem dX12_must_0 : decode cX12_must 0 = .ok (.aload_n 0, 1) := by decide +kernel
theorem dX12_must_1 : decode cX12_must 1 = .ok (.iload_n 1, 1) := by decide +kernel
theorem dX12_must_2 : decode cX12_must 2 = .ok (.invokevirtual 236, 3) := by decide +kernel
theorem dX12_must_5 : decode cX12_must 5 = .ok (.ifCond .eq 10, 3) := by decide +kernel
theorem dX12_must_8 : decode cX12_must 8 = .ok (.aload_n 0, 1) := by decide +kernel
theorem dX12_must_9 : decode cX12_must 9 = .ok (.invokevirtual 239, 3) := by decide +kernel
theorem dX12_must_12 : decode cX12_must 12 = .ok (.goto 8, 3) := by decide +kernel
theorem dX12_must_15 : decode cX12_must 15 = .ok (.aload_n 0, 1) := by decide +kernel
theorem dX12_must_16 : decode cX12_must 16 = .ok (.iconst 1, 1) := by decide +kernel
theorem dX12_must_17 : decode cX12_must 17 = .ok (.invokevirtual 233, 3) := by decide +kernel
theorem dX12_must_20 : decode cX12_must 20 = .ok (.return_, 1) := by decide +kernel
theorem dX12_read_0 : decode cX12_read 0 = .ok (.aload_n 0, 1) := by decide +kernel
theorem dX12_read_1 : decode cX12_read 1 = .ok (.aload_n 0, 1) := by decide +kernel
theorem dX12_read_2 : decode cX12_read 2 = .ok (.getfield 180, 3) := by decide +kernel
theorem dX12_read_5 : decode cX12_read 5 = .ok (.putfield 187, 3) := by decide +kernel
theorem dX12_read_8 : decode cX12_read 8 = .ok (.iconst 0, 1) := by decide +kernel
theorem dX12_read_9 : decode cX12_read 9 = .ok (.istore_n 1, 1) := by decide +kernel
theorem dX12_read_10 : decode cX12_read 10 = .ok (.iload_n 1, 1) := by decide +kernel
theorem dX12_read_11 : decode cX12_read 11 = .ok (.aload_n 0, 1) := by decide +kernel
theorem dX12_read_12 : decode cX12_read 12 = .ok (.getfield 187, 3) := by decide +kernel
theorem dX12_read_15 : decode cX12_read 15 = .ok (.if_icmp .ge 21, 3) := by decide +kernel
theorem dX12_read_18 : decode cX12_read 18 = .ok (.aload_n 0, 1) := by decide +kernel
theorem dX12_read_19 : decode cX12_read 19 = .ok (.getfield 17, 3) := by decide +kernel
theorem dX12_read_22 : decode cX12_read 22 = .ok (.iload_n 1, 1) := by decide +kernel
theorem dX12_read_23 : decode cX12_read 23 = .ok (.aload_n 0, 1) := by decide +kernel
theorem dX12_read_24 : decode cX12_read 24 = .ok (.getfield 13, 3) := by decide +kernel
theorem dX12_read_27 : decode cX12_read 27 = .ok (.iload_n 1, 1) := by decide +kernel
theorem dX12_read_28 : decode cX12_read 28 = .ok (.baload, 1) := by decide +kernel
theorem dX12_read_29 : decode cX12_read 29 = .ok (.bastore, 1) := by decide +kernel
theorem dX12_read_30 : decode cX12_read 30 = .ok (.iinc 1 1, 3) := by decide +kernel
theorem dX12_read_33 : decode cX12_read 33 = .ok (.goto (-23), 3) := by decide +kernel
theorem dX12_read_36 : decode cX12_read 36 = .ok (.aload_n 0, 1) := by decide +kernel
theorem dX12_read_37 : decode cX12_read 37 = .ok (.iconst 0, 1) := by decide +kernel
theorem dX12_read_38 : decode cX12_read 38 = .ok (.putfield 180, 3) := by decide +kernel
theorem dX12_read_41 : decode cX12_read 41 = .ok (.aload_n 0, 1) := by decide +kernel
theorem dX12_read_42 : decode cX12_read 42 = .ok (.invokevirtual 242, 3) := by decide +kernel
theorem dX12_read_45 : decode cX12_read 45 = .ok (.aload_n 0, 1) := by decide +kernel
theorem dX12_read_46 : decode cX12_read 46 = .ok (.iconst 0, 1) := by decide +kernel
theorem dX12_read_47 : decode cX12_read 47 = .ok (.putfield 221, 3) := by decide +kernel
theorem dX12_read_50 : decode cX12_read 50 = .ok (.aload_n 0, 1) := by decide +kernel
theorem dX12_read_51 : decode cX12_read 51 = .ok (.iconst 0, 1) := by decide +kernel
theorem dX12_read_52 : decode cX12_read 52 = .ok (.putfield 245, 3) := by decide +kernel
theorem dX12_read_55 : decode cX12_read 55 = .ok (.aload_n 0, 1) := by decide +kernel
theorem dX12_read_56 : decode cX12_read 56 = .ok (.iconst 0, 1) := by decide +kernel
theorem dX12_read_57 : decode cX12_read 57 = .ok (.putfield 218, 3) := by decide +kernel
theorem dX12_read_60 : decode cX12_read 60 = .ok (.aload_n 0, 1) := by decide +kernel
theorem dX12_read_61 : decode cX12_read 61 = .ok (.iconst 0, 1) := by decide +kernel
theorem dX12_read_62 : decode cX12_read 62 = .ok (.putfield 227, 3) := by decide +kernel
theorem dX12_read_65 : decode cX12_read 65 = .ok (.aload_n 0, 1) := by decide +kernel
theorem dX12_read_66 : decode cX12_read 66 = .ok (.iconst 1, 1) := by decide +kernel
theorem dX12_read_67 : decode cX12_read 67 = .ok (.aload_n 0, 1) := by decide +kernel
theorem dX12_read_68 : decode cX12_read 68 = .ok (.getfield 248, 3) := by decide +kernel
theorem dX12_read_71 : decode cX12_read 71 = .ok (.isub, 1) := by decide +kernel
theorem dX12_read_72 : decode cX12_read 72 = .ok (.putfield 251, 3) := by decide +kernel
theorem dX12_read_75 : decode cX12_read 75 = .ok (.aload_n 0, 1) := by decide +kernel
theorem dX12_read_76 : decode cX12_read 76 = .ok (.iconst 0, 1) := by decide +kernel
theorem dX12_read_77 : decode cX12_read 77 = .ok (.putfield 254, 3) := by decide +kernel
theorem dX12_read_80 : decode cX12_read 80 = .ok (.aload_n 0, 1) := by decide +kernel
theorem dX12_read_81 : decode cX12_read 81 = .ok (.getfield 49, 3) := by decide +kernel
theorem dX12_read_84 : decode cX12_read 84 = .ok (.aload_n 0, 1) := by decide +kernel
theorem dX12_read_85 : decode cX12_read 85 = .ok (.getfield 251, 3) := by decide +kernel
theorem dX12_read_88 : decode cX12_read 88 = .ok (.iconst 0, 1) := by decide +kernel
theorem dX12_read_89 : decode cX12_read 89 = .ok (.iastore, 1) := by decide +kernel
theorem dX12_read_90 : decode cX12_read 90 = .ok (.aload_n 0, 1) := by decide +kernel
theorem dX12_read_91 : decode cX12_read 91 = .ok (.getfield 58, 3) := by decide +kernel
theorem dX12_read_94 : decode cX12_read 94 = .ok (.aload_n 0, 1) := by decide +kernel
theorem dX12_read_95 : decode cX12_read 95 = .ok (.getfield 251, 3) := by decide +kernel
theorem dX12_read_98 : decode cX12_read 98 = .ok (.iconst 0, 1) := by decide +kernel
theorem dX12_read_99 : decode cX12_read 99 = .ok (.iastore, 1) := by decide +kernel
theorem dX12_read_100 : decode cX12_read 100 = .ok (.aload_n 0, 1) := by decide +kernel
theorem dX12_read_101 : decode cX12_read 101 = .ok (.getfield 73, 3) := by decide +kernel
theorem dX12_read_104 : decode cX12_read 104 = .ok (.aload_n 0, 1) := by decide +kernel
theorem dX12_read_105 : decode cX12_read 105 = .ok (.getfield 251, 3) := by decide +kernel
theorem dX12_read_108 : decode cX12_read 108 = .ok (.iconst 0, 1) := by decide +kernel
theorem dX12_read_109 : decode cX12_read 109 = .ok (.iastore, 1) := by decide +kernel
theorem dX12_read_110 : decode cX12_read 110 = .ok (.aload_n 0, 1) := by decide +kernel
theorem dX12_read_111 : decode cX12_read 111 = .ok (.getfield 82, 3) := by decide +kernel
theorem dX12_read_114 : decode cX12_read 114 = .ok (.aload_n 0, 1) := by decide +kernel
theorem dX12_read_115 : decode cX12_read 115 = .ok (.getfield 251, 3) := by decide +kernel
theorem dX12_read_118 : decode cX12_read 118 = .ok (.iconst 0, 1) := by decide +kernel
theorem dX12_read_119 : decode cX12_read 119 = .ok (.iastore, 1) := by decide +kernel
theorem dX12_read_120 : decode cX12_read 120 = .ok (.aload_n 0, 1) := by decide +kernel
theorem dX12_read_121 : decode cX12_read 121 = .ok (.getfield 97, 3) := by decide +kernel
theorem dX12_read_124 : decode cX12_read 124 = .ok (.aload_n 0, 1) := by decide +kernel
theorem dX12_read_125 : decode cX12_read 125 = .ok (.getfield 251, 3) := by decide +kernel
theorem dX12_read_128 : decode cX12_read 128 = .ok (.sipush 999, 3) := by decide +kernel
theorem dX12_read_131 : decode cX12_read 131 = .ok (.iastore, 1) := by decide +kernel
theorem dX12_read_132 : decode cX12_read 132 = .ok (.aload_n 0, 1) := by decide +kernel
theorem dX12_read_133 : decode cX12_read 133 = .ok (.getfield 100, 3) := by decide +kernel
theorem dX12_read_136 : decode cX12_read 136 = .ok (.aload_n 0, 1) := by decide +kernel
theorem dX12_read_137 : decode cX12_read 137 = .ok (.getfield 251, 3) := by decide +kernel
theorem dX12_read_140 : decode cX12_read 140 = .ok (.iconst 0, 1) := by decide +kernel
theorem dX12_read_141 : decode cX12_read 141 = .ok (.iastore, 1) := by decide +kernel
theorem dX12_read_142 : decode cX12_read 142 = .ok (.aload_n 0, 1) := by decide +kernel
theorem dX12_read_143 : decode cX12_read 143 = .ok (.sipush 130, 3) := by decide +kernel
theorem dX12_read_146 : decode cX12_read 146 = .ok (.aload_n 0, 1) := by decide +kernel
theorem dX12_read_147 : decode cX12_read 147 = .ok (.getfield 251, 3) := by decide +kernel
theorem dX12_read_150 : decode cX12_read 150 = .ok (.imul, 1) := by decide +kernel
theorem dX12_read_151 : decode cX12_read 151 = .ok (.putfield 257, 3) := by decide +kernel
theorem dX12_read_154 : decode cX12_read 154 = .ok (.aload_n 0, 1) := by decide +kernel
theorem dX12_read_155 : decode cX12_read 155 = .ok (.sipush 420, 3) := by decide +kernel
theorem dX12_read_158 : decode cX12_read 158 = .ok (.aload_n 0, 1) := by decide +kernel
theorem dX12_read_159 : decode cX12_read 159 = .ok (.getfield 251, 3) := by decide +kernel
theorem dX12_read_162 : decode cX12_read 162 = .ok (.imul, 1) := by decide +kernel
theorem dX12_read_163 : decode cX12_read 163 = .ok (.putfield 260, 3) := by decide +kernel
theorem dX12_read_166 : decode cX12_read 166 = .ok (.aload_n 0, 1) := by decide +kernel
theorem dX12_read_167 : decode cX12_read 167 = .ok (.getfield 103, 3) := by decide +kernel
theorem dX12_read_170 : decode cX12_read 170 = .ok (.bipush 17, 2) := by decide +kernel
theorem dX12_read_172 : decode cX12_read 172 = .ok (.aload_n 0, 1) := by decide +kernel
theorem dX12_read_173 : decode cX12_read 173 = .ok (.getfield 251, 3) := by decide +kernel
theorem dX12_read_176 : decode cX12_read 176 = .ok (.imul, 1) := by decide +kernel
theorem dX12_read_177 : decode cX12_read 177 = .ok (.bipush 16, 2) := by decide +kernel
theorem dX12_read_179 : decode cX12_read 179 = .ok (.iadd, 1) := by decide +kernel
theorem dX12_read_180 : decode cX12_read 180 = .ok (.iconst 0, 1) := by decide +kernel
theorem dX12_read_181 : decode cX12_read 181 = .ok (.iastore, 1) := by decide +kernel
theorem dX12_read_182 : decode cX12_read 182 = .ok (.aload_n 0, 1) := by decide +kernel
theorem dX12_read_183 : decode cX12_read 183 = .ok (.getfield 106, 3) := by decide +kernel
theorem dX12_read_186 : decode cX12_read 186 = .ok (.bipush 17, 2) := by decide +kernel
theorem dX12_read_188 : decode cX12_read 188 = .ok (.aload_n 0, 1) := by decide +kernel
theorem dX12_read_189 : decode cX12_read 189 = .ok (.getfield 251, 3) := by decide +kernel
theorem dX12_read_192 : decode cX12_read 192 = .ok (.imul, 1) := by decide +kernel
theorem dX12_read_193 : decode cX12_read 193 = .ok (.bipush 16, 2) := by decide +kernel
theorem dX12_read_195 : decode cX12_read 195 = .ok (.iadd, 1) := by decide +kernel
theorem dX12_read_196 : decode cX12_read 196 = .ok (.iconst 0, 1) := by decide +kernel
theorem dX12_read_197 : decode cX12_read 197 = .ok (.iastore, 1) := by decide +kernel
theorem dX12_read_198 : decode cX12_read 198 = .ok (.aload_n 0, 1) := by decide +kernel
theorem dX12_read_199 : decode cX12_read 199 = .ok (.getfield 218, 3) := by decide +kernel
theorem dX12_read_202 : decode cX12_read 202 = .ok (.ifCond .ne 18, 3) := by decide +kernel
theorem dX12_read_205 : decode cX12_read 205 = .ok (.aload_n 0, 1) := by decide +kernel
theorem dX12_read_206 : decode cX12_read 206 = .ok (.iconst 0, 1) := by decide +kernel
theorem dX12_read_207 : decode cX12_read 207 = .ok (.invokevirtual 236, 3) := by decide +kernel
theorem dX12_read_210 : decode cX12_read 210 = .ok (.ifCond .ne 10, 3) := by decide +kernel
theorem dX12_read_213 : decode cX12_read 213 = .ok (.aload_n 0, 1) := by decide +kernel
theorem dX12_read_214 : decode cX12_read 214 = .ok (.invokevirtual 263, 3) := by decide +kernel
theorem dX12_read_217 : decode cX12_read 217 = .ok (.goto (-19), 3) := by decide +kernel
theorem dX12_read_220 : decode cX12_read 220 = .ok (.aload_n 0, 1) := by decide +kernel
theorem dX12_read_221 : decode cX12_read 221 = .ok (.aload_n 0, 1) := by decide +kernel
theorem dX12_read_222 : decode cX12_read 222 = .ok (.getfield 218, 3) := by decide +kernel
theorem dX12_read_225 : decode cX12_read 225 = .ok (.ifCond .le 10, 3) := by decide +kernel
theorem dX12_read_228 : decode cX12_read 228 = .ok (.aload_n 0, 1) := by decide +kernel
theorem dX12_read_229 : decode cX12_read 229 = .ok (.getfield 224, 3) := by decide +kernel
theorem dX12_read_232 : decode cX12_read 232 = .ok (.goto 18, 3) := by decide +kernel
theorem dX12_read_235 : decode cX12_read 235 = .ok (.aload_n 0, 1) := by decide +kernel
theorem dX12_read_236 : decode cX12_read 236 = .ok (.getfield 227, 3) := by decide +kernel
theorem dX12_read_239 : decode cX12_read 239 = .ok (.ifCond .le 10, 3) := by decide +kernel
theorem dX12_read_242 : decode cX12_read 242 = .ok (.aload_n 0, 1) := by decide +kernel
theorem dX12_read_243 : decode cX12_read 243 = .ok (.getfield 230, 3) := by decide +kernel
theorem dX12_read_246 : decode cX12_read 246 = .ok (.goto 4, 3) := by decide +kernel
theorem dX12_read_249 : decode cX12_read 249 = .ok (.iconst (-1), 1) := by decide +kernel
theorem dX12_read_250 : decode cX12_read 250 = .ok (.putfield 37, 3) := by decide +kernel
theorem dX12_read_253 : decode cX12_read 253 = .ok (.aload_n 0, 1) := by decide +kernel
theorem dX12_read_254 : decode cX12_read 254 = .ok (.getfield 218, 3) := by decide +kernel
theorem dX12_read_257 : decode cX12_read 257 = .ok (.ifCond .le 8, 3) := by decide +kernel
theorem dX12_read_260 : decode cX12_read 260 = .ok (.aload_n 0, 1) := by decide +kernel
theorem dX12_read_261 : decode cX12_read 261 = .ok (.getfield 218, 3) := by decide +kernel
theorem dX12_read_264 : decode cX12_read 264 = .ok (.ireturn, 1) := by decide +kernel
theorem dX12_read_265 : decode cX12_read 265 = .ok (.aload_n 0, 1) := by decide +kernel
theorem dX12_read_266 : decode cX12_read 266 = .ok (.getfield 227, 3) := by decide +kernel
theorem dX12_read_269 : decode cX12_read 269 = .ok (.ifCond .le 8, 3) := by decide +kernel
theorem dX12_read_272 : decode cX12_read 272 = .ok (.aload_n 0, 1) := by decide +kernel
theorem dX12_read_273 : decode cX12_read 273 = .ok (.getfield 227, 3) := by decide +kernel
theorem dX12_read_276 : decode cX12_read 276 = .ok (.ireturn, 1) := by decide +kernel
theorem dX12_read_277 : decode cX12_read 277 = .ok (.aload_n 0, 1) := by decide +kernel
theorem dX12_read_278 : decode cX12_read 278 = .ok (.aload_n 0, 1) := by decide +kernel
theorem dX12_read_279 : decode cX12_read 279 = .ok (.getfield 251, 3) := by decide +kernel
theorem dX12_read_282 : decode cX12_read 282 = .ok (.putfield 248, 3) := by decide +kernel
theorem dX12_read_285 : decode cX12_read 285 = .ok (.aload_n 0, 1) := by decide +kernel
theorem dX12_read_286 : decode cX12_read 286 = .ok (.invokevirtual 266, 3) := by decide +kernel
theorem dX12_read_289 : decode cX12_read 289 = .ok (.iconst 0, 1) := by decide +kernel
theorem dX12_read_290 : decode cX12_read 290 = .ok (.istore_n 1, 1) := by decide +kernel
theorem dX12_read_291 : decode cX12_read 291 = .ok (.iload_n 1, 1) := by decide +kernel
theorem dX12_read_292 : decode cX12_read 292 = .ok (.bipush 80, 2) := by decide +kernel
theorem dX12_read_294 : decode cX12_read 294 = .ok (.if_icmp .ge 21, 3) := by decide +kernel
theorem dX12_read_297 : decode cX12_read 297 = .ok (.aload_n 0, 1) := by decide +kernel
theorem dX12_read_298 : decode cX12_read 298 = .ok (.getfield 140, 3) := by decide +kernel
theorem dX12_read_301 : decode cX12_read 301 = .ok (.iload_n 1, 1) := by decide +kernel
theorem dX12_read_302 : decode cX12_read 302 = .ok (.aload_n 0, 1) := by decide +kernel
theorem dX12_read_303 : decode cX12_read 303 = .ok (.getfield 143, 3) := by decide +kernel
theorem dX12_read_306 : decode cX12_read 306 = .ok (.iload_n 1, 1) := by decide +kernel
theorem dX12_read_307 : decode cX12_read 307 = .ok (.iaload, 1) := by decide +kernel
theorem dX12_read_308 : decode cX12_read 308 = .ok (.iastore, 1) := by decide +kernel
theorem dX12_read_309 : decode cX12_read 309 = .ok (.iinc 1 1, 3) := by decide +kernel
theorem dX12_read_312 : decode cX12_read 312 = .ok (.goto (-21), 3) := by decide +kernel
theorem dX12_read_315 : decode cX12_read 315 = .ok (.aload_n 0, 1) := by decide +kernel
theorem dX12_read_316 : decode cX12_read 316 = .ok (.iconst 0, 1) := by decide +kernel
theorem dX12_read_317 : decode cX12_read 317 = .ok (.putfield 269, 3) := by decide +kernel
theorem dX12_read_320 : decode cX12_read 320 = .ok (.aload_n 0, 1) := by decide +kernel
theorem dX12_read_321 : decode cX12_read 321 = .ok (.iconst 0, 1) := by decide +kernel
theorem dX12_read_322 : decode cX12_read 322 = .ok (.putfield 272, 3) := by decide +kernel
theorem dX12_read_325 : decode cX12_read 325 = .ok (.iconst 0, 1) := by decide +kernel
theorem dX12_read_326 : decode cX12_read 326 = .ok (.istore_n 1, 1) := by decide +kernel
theorem dX12_read_327 : decode cX12_read 327 = .ok (.iload_n 1, 1) := by decide +kernel
theorem dX12_read_328 : decode cX12_read 328 = .ok (.iconst 3, 1) := by decide +kernel
theorem dX12_read_329 : decode cX12_read 329 = .ok (.if_icmp .ge 16, 3) := by decide +kernel
theorem dX12_read_332 : decode cX12_read 332 = .ok (.aload_n 0, 1) := by decide +kernel
theorem dX12_read_333 : decode cX12_read 333 = .ok (.getfield 170, 3) := by decide +kernel
theorem dX12_read_336 : decode cX12_read 336 = .ok (.iload_n 1, 1) := by decide +kernel
theorem dX12_read_337 : decode cX12_read 337 = .ok (.iconst 0, 1) := by decide +kernel
theorem dX12_read_338 : decode cX12_read 338 = .ok (.bastore, 1) := by decide +kernel
theorem dX12_read_339 : decode cX12_read 339 = .ok (.iinc 1 1, 3) := by decide +kernel
theorem dX12_read_342 : decode cX12_read 342 = .ok (.goto (-15), 3) := by decide +kernel
theorem dX12_read_345 : decode cX12_read 345 = .ok (.iconst 0, 1) := by decide +kernel
theorem dX12_read_346 : decode cX12_read 346 = .ok (.ireturn, 1) := by decide +kernel
theorem dX12_place_0 : decode cX12_place 0 = .ok (.aload_n 0, 1) := by decide +kernel
theorem dX12_place_1 : decode cX12_place 1 = .ok (.getfield 37, 3) := by decide +kernel
theorem dX12_place_4 : decode cX12_place 4 = .ok (.ireturn, 1) := by decide +kernel
theorem dX12_roomFor_0 : decode cX12_roomFor 0 = .ok (.iload_n 1, 1) := by decide +kernel
theorem dX12_roomFor_1 : decode cX12_roomFor 1 = .ok (.iload_n 2, 1) := by decide +kernel
theorem dX12_roomFor_2 : decode cX12_roomFor 2 = .ok (.if_icmp .ne 8, 3) := by decide +kernel
theorem dX12_roomFor_5 : decode cX12_roomFor 5 = .ok (.aload_n 0, 1) := by decide +kernel
theorem dX12_roomFor_6 : decode cX12_roomFor 6 = .ok (.iconst 2, 1) := by decide +kernel
theorem dX12_roomFor_7 : decode cX12_roomFor 7 = .ok (.invokevirtual 233, 3) := by decide +kernel
theorem dX12_roomFor_10 : decode cX12_roomFor 10 = .ok (.aload_n 0, 1) := by decide +kernel
theorem dX12_roomFor_11 : decode cX12_roomFor 11 = .ok (.getfield 218, 3) := by decide +kernel
theorem dX12_roomFor_14 : decode cX12_roomFor 14 = .ok (.ifCond .ne 7, 3) := by decide +kernel
theorem dX12_roomFor_17 : decode cX12_roomFor 17 = .ok (.aload_n 0, 1) := by decide +kernel
theorem dX12_roomFor_18 : decode cX12_roomFor 18 = .ok (.invokevirtual 239, 3) := by decide +kernel
theorem dX12_roomFor_21 : decode cX12_roomFor 21 = .ok (.return_, 1) := by decide +kernel
theorem dX12_tell_0 : decode cX12_tell 0 = .ok (.aload_n 0, 1) := by decide +kernel
theorem dX12_tell_1 : decode cX12_tell 1 = .ok (.getfield 20, 3) := by decide +kernel
theorem dX12_tell_4 : decode cX12_tell 4 = .ok (.aload_n 0, 1) := by decide +kernel
theorem dX12_tell_5 : decode cX12_tell 5 = .ok (.getfield 221, 3) := by decide +kernel
theorem dX12_tell_8 : decode cX12_tell 8 = .ok (.iaload, 1) := by decide +kernel
theorem dX12_tell_9 : decode cX12_tell 9 = .ok (.tableswitch 233 20 27 #[47, 75, 104, 133, 146, 175, 233, 204], 47) := by decide +kernel
theorem dX12_tell_56 : decode cX12_tell 56 = .ok (.aload_n 0, 1) := by decide +kernel
theorem dX12_tell_57 : decode cX12_tell 57 = .ok (.aload_n 0, 1) := by decide +kernel
theorem dX12_tell_58 : decode cX12_tell 58 = .ok (.getfield 49, 3) := by decide +kernel
theorem dX12_tell_61 : decode cX12_tell 61 = .ok (.aload_n 0, 1) := by decide +kernel
theorem dX12_tell_62 : decode cX12_tell 62 = .ok (.getfield 251, 3) := by decide +kernel
theorem dX12_tell_65 : decode cX12_tell 65 = .ok (.iaload, 1) := by decide +kernel
theorem dX12_tell_66 : decode cX12_tell 66 = .ok (.iconst 5, 1) := by decide +kernel
theorem dX12_tell_67 : decode cX12_tell 67 = .ok (.invokevirtual 275, 3) := by decide +kernel
theorem dX12_tell_70 : decode cX12_tell 70 = .ok (.aload_n 0, 1) := by decide +kernel
theorem dX12_tell_71 : decode cX12_tell 71 = .ok (.getfield 218, 3) := by decide +kernel
theorem dX12_tell_74 : decode cX12_tell 74 = .ok (.ifCond .ne 173, 3) := by decide +kernel
theorem dX12_tell_77 : decode cX12_tell 77 = .ok (.aload_n 0, 1) := by decide +kernel
theorem dX12_tell_78 : decode cX12_tell 78 = .ok (.invokevirtual 279, 3) := by decide +kernel
theorem dX12_tell_81 : decode cX12_tell 81 = .ok (.goto 166, 3) := by decide +kernel
theorem dX12_tell_84 : decode cX12_tell 84 = .ok (.aload_n 0, 1) := by decide +kernel
theorem dX12_tell_85 : decode cX12_tell 85 = .ok (.aload_n 0, 1) := by decide +kernel
theorem dX12_tell_86 : decode cX12_tell 86 = .ok (.getfield 58, 3) := by decide +kernel
theorem dX12_tell_89 : decode cX12_tell 89 = .ok (.aload_n 0, 1) := by decide +kernel
theorem dX12_tell_90 : decode cX12_tell 90 = .ok (.getfield 251, 3) := by decide +kernel
theorem dX12_tell_93 : decode cX12_tell 93 = .ok (.iaload, 1) := by decide +kernel
theorem dX12_tell_94 : decode cX12_tell 94 = .ok (.bipush 8, 2) := by decide +kernel
theorem dX12_tell_96 : decode cX12_tell 96 = .ok (.invokevirtual 275, 3) := by decide +kernel
theorem dX12_tell_99 : decode cX12_tell 99 = .ok (.aload_n 0, 1) := by decide +kernel
theorem dX12_tell_100 : decode cX12_tell 100 = .ok (.getfield 218, 3) := by decide +kernel
theorem dX12_tell_103 : decode cX12_tell 103 = .ok (.ifCond .ne 144, 3) := by decide +kernel
theorem dX12_tell_106 : decode cX12_tell 106 = .ok (.aload_n 0, 1) := by decide +kernel
theorem dX12_tell_107 : decode cX12_tell 107 = .ok (.invokevirtual 282, 3) := by decide +kernel
theorem dX12_tell_110 : decode cX12_tell 110 = .ok (.goto 137, 3) := by decide +kernel
theorem dX12_tell_113 : decode cX12_tell 113 = .ok (.aload_n 0, 1) := by decide +kernel
theorem dX12_tell_114 : decode cX12_tell 114 = .ok (.aload_n 0, 1) := by decide +kernel
theorem dX12_tell_115 : decode cX12_tell 115 = .ok (.getfield 73, 3) := by decide +kernel
theorem dX12_tell_118 : decode cX12_tell 118 = .ok (.aload_n 0, 1) := by decide +kernel
theorem dX12_tell_119 : decode cX12_tell 119 = .ok (.getfield 251, 3) := by decide +kernel
theorem dX12_tell_122 : decode cX12_tell 122 = .ok (.iaload, 1) := by decide +kernel
theorem dX12_tell_123 : decode cX12_tell 123 = .ok (.bipush 16, 2) := by decide +kernel
theorem dX12_tell_125 : decode cX12_tell 125 = .ok (.invokevirtual 275, 3) := by decide +kernel
theorem dX12_tell_128 : decode cX12_tell 128 = .ok (.aload_n 0, 1) := by decide +kernel
theorem dX12_tell_129 : decode cX12_tell 129 = .ok (.getfield 218, 3) := by decide +kernel
theorem dX12_tell_132 : decode cX12_tell 132 = .ok (.ifCond .ne 115, 3) := by decide +kernel
theorem dX12_tell_135 : decode cX12_tell 135 = .ok (.aload_n 0, 1) := by decide +kernel
theorem dX12_tell_136 : decode cX12_tell 136 = .ok (.invokevirtual 285, 3) := by decide +kernel
theorem dX12_tell_139 : decode cX12_tell 139 = .ok (.goto 108, 3) := by decide +kernel
theorem dX12_tell_142 : decode cX12_tell 142 = .ok (.aload_n 0, 1) := by decide +kernel
theorem dX12_tell_143 : decode cX12_tell 143 = .ok (.invokevirtual 239, 3) := by decide +kernel
theorem dX12_tell_146 : decode cX12_tell 146 = .ok (.aload_n 0, 1) := by decide +kernel
theorem dX12_tell_147 : decode cX12_tell 147 = .ok (.bipush 16, 2) := by decide +kernel
theorem dX12_tell_149 : decode cX12_tell 149 = .ok (.invokevirtual 288, 3) := by decide +kernel
theorem dX12_tell_152 : decode cX12_tell 152 = .ok (.goto 95, 3) := by decide +kernel
theorem dX12_tell_155 : decode cX12_tell 155 = .ok (.aload_n 0, 1) := by decide +kernel
theorem dX12_tell_156 : decode cX12_tell 156 = .ok (.invokevirtual 239, 3) := by decide +kernel
theorem dX12_tell_159 : decode cX12_tell 159 = .ok (.aload_n 0, 1) := by decide +kernel
theorem dX12_tell_160 : decode cX12_tell 160 = .ok (.getfield 97, 3) := by decide +kernel
theorem dX12_tell_163 : decode cX12_tell 163 = .ok (.aload_n 0, 1) := by decide +kernel
theorem dX12_tell_164 : decode cX12_tell 164 = .ok (.getfield 251, 3) := by decide +kernel
theorem dX12_tell_167 : decode cX12_tell 167 = .ok (.aload_n 0, 1) := by decide +kernel
theorem dX12_tell_168 : decode cX12_tell 168 = .ok (.iconst 1, 1) := by decide +kernel
theorem dX12_tell_169 : decode cX12_tell 169 = .ok (.sipush 9999, 3) := by decide +kernel
theorem dX12_tell_172 : decode cX12_tell 172 = .ok (.invokevirtual 291, 3) := by decide +kernel
theorem dX12_tell_175 : decode cX12_tell 175 = .ok (.iastore, 1) := by decide +kernel
theorem dX12_tell_176 : decode cX12_tell 176 = .ok (.aload_n 0, 1) := by decide +kernel
theorem dX12_tell_177 : decode cX12_tell 177 = .ok (.iconst 4, 1) := by decide +kernel
theorem dX12_tell_178 : decode cX12_tell 178 = .ok (.invokevirtual 295, 3) := by decide +kernel
theorem dX12_tell_181 : decode cX12_tell 181 = .ok (.goto 66, 3) := by decide +kernel
theorem dX12_tell_184 : decode cX12_tell 184 = .ok (.aload_n 0, 1) := by decide +kernel
theorem dX12_tell_185 : decode cX12_tell 185 = .ok (.aload_n 0, 1) := by decide +kernel
theorem dX12_tell_186 : decode cX12_tell 186 = .ok (.getfield 82, 3) := by decide +kernel
theorem dX12_tell_189 : decode cX12_tell 189 = .ok (.aload_n 0, 1) := by decide +kernel
theorem dX12_tell_190 : decode cX12_tell 190 = .ok (.getfield 251, 3) := by decide +kernel
theorem dX12_tell_193 : decode cX12_tell 193 = .ok (.iaload, 1) := by decide +kernel
theorem dX12_tell_194 : decode cX12_tell 194 = .ok (.bipush 6, 2) := by decide +kernel
theorem dX12_tell_196 : decode cX12_tell 196 = .ok (.invokevirtual 275, 3) := by decide +kernel
theorem dX12_tell_199 : decode cX12_tell 199 = .ok (.aload_n 0, 1) := by decide +kernel
theorem dX12_tell_200 : decode cX12_tell 200 = .ok (.getfield 218, 3) := by decide +kernel
theorem dX12_tell_203 : decode cX12_tell 203 = .ok (.ifCond .ne 44, 3) := by decide +kernel
theorem dX12_tell_206 : decode cX12_tell 206 = .ok (.aload_n 0, 1) := by decide +kernel
theorem dX12_tell_207 : decode cX12_tell 207 = .ok (.invokevirtual 298, 3) := by decide +kernel
theorem dX12_tell_210 : decode cX12_tell 210 = .ok (.goto 37, 3) := by decide +kernel
theorem dX12_tell_213 : decode cX12_tell 213 = .ok (.aload_n 0, 1) := by decide +kernel
theorem dX12_tell_214 : decode cX12_tell 214 = .ok (.invokevirtual 239, 3) := by decide +kernel
theorem dX12_tell_217 : decode cX12_tell 217 = .ok (.aload_n 0, 1) := by decide +kernel
theorem dX12_tell_218 : decode cX12_tell 218 = .ok (.getfield 100, 3) := by decide +kernel
theorem dX12_tell_221 : decode cX12_tell 221 = .ok (.aload_n 0, 1) := by decide +kernel
theorem dX12_tell_222 : decode cX12_tell 222 = .ok (.getfield 251, 3) := by decide +kernel
theorem dX12_tell_225 : decode cX12_tell 225 = .ok (.aload_n 0, 1) := by decide +kernel
theorem dX12_tell_226 : decode cX12_tell 226 = .ok (.iconst 0, 1) := by decide +kernel
theorem dX12_tell_227 : decode cX12_tell 227 = .ok (.sipush 9999, 3) := by decide +kernel
theorem dX12_tell_230 : decode cX12_tell 230 = .ok (.invokevirtual 291, 3) := by decide +kernel
theorem dX12_tell_233 : decode cX12_tell 233 = .ok (.iastore, 1) := by decide +kernel
theorem dX12_tell_234 : decode cX12_tell 234 = .ok (.aload_n 0, 1) := by decide +kernel
theorem dX12_tell_235 : decode cX12_tell 235 = .ok (.iconst 4, 1) := by decide +kernel
theorem dX12_tell_236 : decode cX12_tell 236 = .ok (.invokevirtual 295, 3) := by decide +kernel
theorem dX12_tell_239 : decode cX12_tell 239 = .ok (.goto 8, 3) := by decide +kernel
theorem dX12_tell_242 : decode cX12_tell 242 = .ok (.aload_n 0, 1) := by decide +kernel
theorem dX12_tell_243 : decode cX12_tell 243 = .ok (.iconst 1, 1) := by decide +kernel
theorem dX12_tell_244 : decode cX12_tell 244 = .ok (.invokevirtual 233, 3) := by decide +kernel
theorem dX12_tell_247 : decode cX12_tell 247 = .ok (.return_, 1) := by decide +kernel
theorem dX12_named_0 : decode cX12_named 0 = .ok (.aload_n 0, 1) := by decide +kernel
theorem dX12_named_1 : decode cX12_named 1 = .ok (.getfield 221, 3) := by decide +kernel
theorem dX12_named_4 : decode cX12_named 4 = .ok (.istore_n 1, 1) := by decide +kernel
theorem dX12_named_5 : decode cX12_named 5 = .ok (.aload_n 0, 1) := by decide +kernel
theorem dX12_named_6 : decode cX12_named 6 = .ok (.iconst 1, 1) := by decide +kernel
theorem dX12_named_7 : decode cX12_named 7 = .ok (.invokevirtual 295, 3) := by decide +kernel
theorem dX12_named_10 : decode cX12_named 10 = .ok (.iconst 0, 1) := by decide +kernel
theorem dX12_named_11 : decode cX12_named 11 = .ok (.istore_n 2, 1) := by decide +kernel
theorem dX12_named_12 : decode cX12_named 12 = .ok (.iload_n 2, 1) := by decide +kernel
theorem dX12_named_13 : decode cX12_named 13 = .ok (.aload_n 0, 1) := by decide +kernel
theorem dX12_named_14 : decode cX12_named 14 = .ok (.getfield 254, 3) := by decide +kernel
theorem dX12_named_17 : decode cX12_named 17 = .ok (.if_icmp .ge 38, 3) := by decide +kernel
theorem dX12_named_20 : decode cX12_named 20 = .ok (.aload_n 0, 1) := by decide +kernel
theorem dX12_named_21 : decode cX12_named 21 = .ok (.getfield 218, 3) := by decide +kernel
theorem dX12_named_24 : decode cX12_named 24 = .ok (.ifCond .ne 31, 3) := by decide +kernel
theorem dX12_named_27 : decode cX12_named 27 = .ok (.aload_n 0, 1) := by decide +kernel
theorem dX12_named_28 : decode cX12_named 28 = .ok (.getfield 40, 3) := by decide +kernel
theorem dX12_named_31 : decode cX12_named 31 = .ok (.iload_n 2, 1) := by decide +kernel
theorem dX12_named_32 : decode cX12_named 32 = .ok (.laload, 1) := by decide +kernel
theorem dX12_named_33 : decode cX12_named 33 = .ok (.aload_n 0, 1) := by decide +kernel
theorem dX12_named_34 : decode cX12_named 34 = .ok (.getfield 30, 3) := by decide +kernel
theorem dX12_named_37 : decode cX12_named 37 = .ok (.iload_n 1, 1) := by decide +kernel
theorem dX12_named_38 : decode cX12_named 38 = .ok (.laload, 1) := by decide +kernel
theorem dX12_named_39 : decode cX12_named 39 = .ok (.lcmp, 1) := by decide +kernel
theorem dX12_named_40 : decode cX12_named 40 = .ok (.ifCond .ne 9, 3) := by decide +kernel
theorem dX12_named_43 : decode cX12_named 43 = .ok (.aload_n 0, 1) := by decide +kernel
theorem dX12_named_44 : decode cX12_named 44 = .ok (.iconst 3, 1) := by decide +kernel
theorem dX12_named_45 : decode cX12_named 45 = .ok (.iload_n 1, 1) := by decide +kernel
theorem dX12_named_46 : decode cX12_named 46 = .ok (.invokevirtual 301, 3) := by decide +kernel
theorem dX12_named_49 : decode cX12_named 49 = .ok (.iinc 2 1, 3) := by decide +kernel
theorem dX12_named_52 : decode cX12_named 52 = .ok (.goto (-40), 3) := by decide +kernel
theorem dX12_named_55 : decode cX12_named 55 = .ok (.iload_n 1, 1) := by decide +kernel
theorem dX12_named_56 : decode cX12_named 56 = .ok (.ireturn, 1) := by decide +kernel
theorem dX12_notes_0 : decode cX12_notes 0 = .ok (.aload_n 0, 1) := by decide +kernel
theorem dX12_notes_1 : decode cX12_notes 1 = .ok (.getfield 40, 3) := by decide +kernel
theorem dX12_notes_4 : decode cX12_notes 4 = .ok (.aload_n 0, 1) := by decide +kernel
theorem dX12_notes_5 : decode cX12_notes 5 = .ok (.getfield 254, 3) := by decide +kernel
theorem dX12_notes_8 : decode cX12_notes 8 = .ok (.aload_n 0, 1) := by decide +kernel
theorem dX12_notes_9 : decode cX12_notes 9 = .ok (.getfield 30, 3) := by decide +kernel
theorem dX12_notes_12 : decode cX12_notes 12 = .ok (.iload_n 1, 1) := by decide +kernel
theorem dX12_notes_13 : decode cX12_notes 13 = .ok (.laload, 1) := by decide +kernel
theorem dX12_notes_14 : decode cX12_notes 14 = .ok (.lastore, 1) := by decide +kernel
theorem dX12_notes_15 : decode cX12_notes 15 = .ok (.aload_n 0, 1) := by decide +kernel
theorem dX12_notes_16 : decode cX12_notes 16 = .ok (.getfield 43, 3) := by decide +kernel
theorem dX12_notes_19 : decode cX12_notes 19 = .ok (.aload_n 0, 1) := by decide +kernel
theorem dX12_notes_20 : decode cX12_notes 20 = .ok (.getfield 254, 3) := by decide +kernel
theorem dX12_notes_23 : decode cX12_notes 23 = .ok (.iload_n 2, 1) := by decide +kernel
theorem dX12_notes_24 : decode cX12_notes 24 = .ok (.iastore, 1) := by decide +kernel
theorem dX12_notes_25 : decode cX12_notes 25 = .ok (.aload_n 0, 1) := by decide +kernel
theorem dX12_notes_26 : decode cX12_notes 26 = .ok (.getfield 46, 3) := by decide +kernel
theorem dX12_notes_29 : decode cX12_notes 29 = .ok (.aload_n 0, 1) := by decide +kernel
theorem dX12_notes_30 : decode cX12_notes 30 = .ok (.getfield 254, 3) := by decide +kernel
theorem dX12_notes_33 : decode cX12_notes 33 = .ok (.iload_n 3, 1) := by decide +kernel
theorem dX12_notes_34 : decode cX12_notes 34 = .ok (.iastore, 1) := by decide +kernel
theorem dX12_notes_35 : decode cX12_notes 35 = .ok (.aload_n 0, 1) := by decide +kernel
theorem dX12_notes_36 : decode cX12_notes 36 = .ok (.dup, 1) := by decide +kernel
theorem dX12_notes_37 : decode cX12_notes 37 = .ok (.getfield 254, 3) := by decide +kernel
theorem dX12_notes_40 : decode cX12_notes 40 = .ok (.iconst 1, 1) := by decide +kernel
theorem dX12_notes_41 : decode cX12_notes 41 = .ok (.iadd, 1) := by decide +kernel
theorem dX12_notes_42 : decode cX12_notes 42 = .ok (.putfield 254, 3) := by decide +kernel
theorem dX12_notes_45 : decode cX12_notes 45 = .ok (.return_, 1) := by decide +kernel
theorem dX12_known_0 : decode cX12_known 0 = .ok (.aload_n 0, 1) := by decide +kernel
theorem dX12_known_1 : decode cX12_known 1 = .ok (.getfield 221, 3) := by decide +kernel
theorem dX12_known_4 : decode cX12_known 4 = .ok (.istore_n 2, 1) := by decide +kernel
theorem dX12_known_5 : decode cX12_known 5 = .ok (.aload_n 0, 1) := by decide +kernel
theorem dX12_known_6 : decode cX12_known 6 = .ok (.iconst 1, 1) := by decide +kernel
theorem dX12_known_7 : decode cX12_known 7 = .ok (.invokevirtual 295, 3) := by decide +kernel
theorem dX12_known_10 : decode cX12_known 10 = .ok (.aload_n 0, 1) := by decide +kernel
theorem dX12_known_11 : decode cX12_known 11 = .ok (.getfield 218, 3) := by decide +kernel
theorem dX12_known_14 : decode cX12_known 14 = .ok (.ifCond .le 5, 3) := by decide +kernel
theorem dX12_known_17 : decode cX12_known 17 = .ok (.iconst (-1), 1) := by decide +kernel
theorem dX12_known_18 : decode cX12_known 18 = .ok (.ireturn, 1) := by decide +kernel
theorem dX12_known_19 : decode cX12_known 19 = .ok (.iconst 0, 1) := by decide +kernel
theorem dX12_known_20 : decode cX12_known 20 = .ok (.istore_n 3, 1) := by decide +kernel
theorem dX12_known_21 : decode cX12_known 21 = .ok (.iload_n 3, 1) := by decide +kernel
theorem dX12_known_22 : decode cX12_known 22 = .ok (.aload_n 0, 1) := by decide +kernel
theorem dX12_known_23 : decode cX12_known 23 = .ok (.getfield 254, 3) := by decide +kernel
theorem dX12_known_26 : decode cX12_known 26 = .ok (.if_icmp .ge 42, 3) := by decide +kernel
theorem dX12_known_29 : decode cX12_known 29 = .ok (.aload_n 0, 1) := by decide +kernel
theorem dX12_known_30 : decode cX12_known 30 = .ok (.getfield 40, 3) := by decide +kernel
theorem dX12_known_33 : decode cX12_known 33 = .ok (.iload_n 3, 1) := by decide +kernel
theorem dX12_known_34 : decode cX12_known 34 = .ok (.laload, 1) := by decide +kernel
theorem dX12_known_35 : decode cX12_known 35 = .ok (.aload_n 0, 1) := by decide +kernel
theorem dX12_known_36 : decode cX12_known 36 = .ok (.getfield 30, 3) := by decide +kernel
theorem dX12_known_39 : decode cX12_known 39 = .ok (.iload_n 2, 1) := by decide +kernel
theorem dX12_known_40 : decode cX12_known 40 = .ok (.laload, 1) := by decide +kernel
theorem dX12_known_41 : decode cX12_known 41 = .ok (.lcmp, 1) := by decide +kernel
theorem dX12_known_42 : decode cX12_known 42 = .ok (.ifCond .ne 20, 3) := by decide +kernel
theorem dX12_known_45 : decode cX12_known 45 = .ok (.aload_n 0, 1) := by decide +kernel
theorem dX12_known_46 : decode cX12_known 46 = .ok (.getfield 43, 3) := by decide +kernel
theorem dX12_known_49 : decode cX12_known 49 = .ok (.iload_n 3, 1) := by decide +kernel
theorem dX12_known_50 : decode cX12_known 50 = .ok (.iaload, 1) := by decide +kernel
theorem dX12_known_51 : decode cX12_known 51 = .ok (.iload_n 1, 1) := by decide +kernel
theorem dX12_known_52 : decode cX12_known 52 = .ok (.if_icmp .ne 10, 3) := by decide +kernel
theorem dX12_known_55 : decode cX12_known 55 = .ok (.aload_n 0, 1) := by decide +kernel
theorem dX12_known_56 : decode cX12_known 56 = .ok (.getfield 46, 3) := by decide +kernel
theorem dX12_known_59 : decode cX12_known 59 = .ok (.iload_n 3, 1) := by decide +kernel
theorem dX12_known_60 : decode cX12_known 60 = .ok (.iaload, 1) := by decide +kernel
theorem dX12_known_61 : decode cX12_known 61 = .ok (.ireturn, 1) := by decide +kernel
theorem dX12_known_62 : decode cX12_known 62 = .ok (.iinc 3 1, 3) := by decide +kernel
theorem dX12_known_65 : decode cX12_known 65 = .ok (.goto (-44), 3) := by decide +kernel
theorem dX12_known_68 : decode cX12_known 68 = .ok (.aload_n 0, 1) := by decide +kernel
theorem dX12_known_69 : decode cX12_known 69 = .ok (.iconst 4, 1) := by decide +kernel
theorem dX12_known_70 : decode cX12_known 70 = .ok (.iload_n 2, 1) := by decide +kernel
theorem dX12_known_71 : decode cX12_known 71 = .ok (.invokevirtual 301, 3) := by decide +kernel
theorem dX12_known_74 : decode cX12_known 74 = .ok (.iconst (-1), 1) := by decide +kernel
theorem dX12_known_75 : decode cX12_known 75 = .ok (.ireturn, 1) := by decide +kernel
theorem dX12_bounded_0 : decode cX12_bounded 0 = .ok (.aload_n 0, 1) := by decide +kernel
theorem dX12_bounded_1 : decode cX12_bounded 1 = .ok (.getfield 218, 3) := by decide +kernel
theorem dX12_bounded_4 : decode cX12_bounded 4 = .ok (.ifCond .gt 11, 3) := by decide +kernel
theorem dX12_bounded_7 : decode cX12_bounded 7 = .ok (.aload_n 0, 1) := by decide +kernel
theorem dX12_bounded_8 : decode cX12_bounded 8 = .ok (.iconst 2, 1) := by decide +kernel
theorem dX12_bounded_9 : decode cX12_bounded 9 = .ok (.invokevirtual 236, 3) := by decide +kernel
theorem dX12_bounded_12 : decode cX12_bounded 12 = .ok (.ifCond .ne 10, 3) := by decide +kernel
theorem dX12_bounded_15 : decode cX12_bounded 15 = .ok (.aload_n 0, 1) := by decide +kernel
theorem dX12_bounded_16 : decode cX12_bounded 16 = .ok (.iconst 1, 1) := by decide +kernel
theorem dX12_bounded_17 : decode cX12_bounded 17 = .ok (.invokevirtual 233, 3) := by decide +kernel
theorem dX12_bounded_20 : decode cX12_bounded 20 = .ok (.iload_n 1, 1) := by decide +kernel
theorem dX12_bounded_21 : decode cX12_bounded 21 = .ok (.ireturn, 1) := by decide +kernel
theorem dX12_bounded_22 : decode cX12_bounded 22 = .ok (.aload_n 0, 1) := by decide +kernel
theorem dX12_bounded_23 : decode cX12_bounded 23 = .ok (.getfield 27, 3) := by decide +kernel
theorem dX12_bounded_26 : decode cX12_bounded 26 = .ok (.aload_n 0, 1) := by decide +kernel
theorem dX12_bounded_27 : decode cX12_bounded 27 = .ok (.getfield 221, 3) := by decide +kernel
theorem dX12_bounded_30 : decode cX12_bounded 30 = .ok (.iaload, 1) := by decide +kernel
theorem dX12_bounded_31 : decode cX12_bounded 31 = .ok (.istore_n 3, 1) := by decide +kernel
theorem dX12_bounded_32 : decode cX12_bounded 32 = .ok (.iload_n 3, 1) := by decide +kernel
theorem dX12_bounded_33 : decode cX12_bounded 33 = .ok (.iload_n 1, 1) := by decide +kernel
theorem dX12_bounded_34 : decode cX12_bounded 34 = .ok (.if_icmp .lt 8, 3) := by decide +kernel
theorem dX12_bounded_37 : decode cX12_bounded 37 = .ok (.iload_n 3, 1) := by decide +kernel
theorem dX12_bounded_38 : decode cX12_bounded 38 = .ok (.iload_n 2, 1) := by decide +kernel
theorem dX12_bounded_39 : decode cX12_bounded 39 = .ok (.if_icmp .le 12, 3) := by decide +kernel
theorem dX12_bounded_42 : decode cX12_bounded 42 = .ok (.aload_n 0, 1) := by decide +kernel
theorem dX12_bounded_43 : decode cX12_bounded 43 = .ok (.iconst 5, 1) := by decide +kernel
theorem dX12_bounded_44 : decode cX12_bounded 44 = .ok (.aload_n 0, 1) := by decide +kernel
theorem dX12_bounded_45 : decode cX12_bounded 45 = .ok (.getfield 221, 3) := by decide +kernel
theorem dX12_bounded_48 : decode cX12_bounded 48 = .ok (.invokevirtual 301, 3) := by decide +kernel
theorem dX12_bounded_51 : decode cX12_bounded 51 = .ok (.aload_n 0, 1) := by decide +kernel
theorem dX12_bounded_52 : decode cX12_bounded 52 = .ok (.invokevirtual 239, 3) := by decide +kernel
theorem dX12_bounded_55 : decode cX12_bounded 55 = .ok (.iload_n 3, 1) := by decide +kernel
theorem dX12_bounded_56 : decode cX12_bounded 56 = .ok (.ireturn, 1) := by decide +kernel
theorem dX12_tellWater_0 : decode cX12_tellWater 0 = .ok (.iconst 5, 1) := by decide +kernel
theorem dX12_tellWater_1 : decode cX12_tellWater 1 = .ok (.aload_n 0, 1) := by decide +kernel
theorem dX12_tellWater_2 : decode cX12_tellWater 2 = .ok (.getfield 251, 3) := by decide +kernel
theorem dX12_tellWater_5 : decode cX12_tellWater 5 = .ok (.imul, 1) := by decide +kernel
theorem dX12_tellWater_6 : decode cX12_tellWater 6 = .ok (.aload_n 0, 1) := by decide +kernel
theorem dX12_tellWater_7 : decode cX12_tellWater 7 = .ok (.getfield 49, 3) := by decide +kernel
theorem dX12_tellWater_10 : decode cX12_tellWater 10 = .ok (.aload_n 0, 1) := by decide +kernel
theorem dX12_tellWater_11 : decode cX12_tellWater 11 = .ok (.getfield 251, 3) := by decide +kernel
theorem dX12_tellWater_14 : decode cX12_tellWater 14 = .ok (.iaload, 1) := by decide +kernel
theorem dX12_tellWater_15 : decode cX12_tellWater 15 = .ok (.iadd, 1) := by decide +kernel
theorem dX12_tellWater_16 : decode cX12_tellWater 16 = .ok (.istore_n 1, 1) := by decide +kernel
theorem dX12_tellWater_17 : decode cX12_tellWater 17 = .ok (.aload_n 0, 1) := by decide +kernel
theorem dX12_tellWater_18 : decode cX12_tellWater 18 = .ok (.invokevirtual 304, 3) := by decide +kernel
theorem dX12_tellWater_21 : decode cX12_tellWater 21 = .ok (.istore_n 2, 1) := by decide +kernel
theorem dX12_tellWater_22 : decode cX12_tellWater 22 = .ok (.aload_n 0, 1) := by decide +kernel
theorem dX12_tellWater_23 : decode cX12_tellWater 23 = .ok (.getfield 52, 3) := by decide +kernel
theorem dX12_tellWater_26 : decode cX12_tellWater 26 = .ok (.iload_n 1, 1) := by decide +kernel
theorem dX12_tellWater_27 : decode cX12_tellWater 27 = .ok (.aload_n 0, 1) := by decide +kernel
theorem dX12_tellWater_28 : decode cX12_tellWater 28 = .ok (.iconst 0, 1) := by decide +kernel
theorem dX12_tellWater_29 : decode cX12_tellWater 29 = .ok (.bipush 99, 2) := by decide +kernel
theorem dX12_tellWater_31 : decode cX12_tellWater 31 = .ok (.invokevirtual 291, 3) := by decide +kernel
theorem dX12_tellWater_34 : decode cX12_tellWater 34 = .ok (.iastore, 1) := by decide +kernel
theorem dX12_tellWater_35 : decode cX12_tellWater 35 = .ok (.aload_n 0, 1) := by decide +kernel
theorem dX12_tellWater_36 : decode cX12_tellWater 36 = .ok (.getfield 55, 3) := by decide +kernel
theorem dX12_tellWater_39 : decode cX12_tellWater 39 = .ok (.iload_n 1, 1) := by decide +kernel
theorem dX12_tellWater_40 : decode cX12_tellWater 40 = .ok (.aload_n 0, 1) := by decide +kernel
theorem dX12_tellWater_41 : decode cX12_tellWater 41 = .ok (.iconst 0, 1) := by decide +kernel
theorem dX12_tellWater_42 : decode cX12_tellWater 42 = .ok (.bipush 9, 2) := by decide +kernel
theorem dX12_tellWater_44 : decode cX12_tellWater 44 = .ok (.invokevirtual 291, 3) := by decide +kernel
theorem dX12_tellWater_47 : decode cX12_tellWater 47 = .ok (.iastore, 1) := by decide +kernel
theorem dX12_tellWater_48 : decode cX12_tellWater 48 = .ok (.aload_n 0, 1) := by decide +kernel
theorem dX12_tellWater_49 : decode cX12_tellWater 49 = .ok (.iconst 4, 1) := by decide +kernel
theorem dX12_tellWater_50 : decode cX12_tellWater 50 = .ok (.invokevirtual 295, 3) := by decide +kernel
theorem dX12_tellWater_53 : decode cX12_tellWater 53 = .ok (.aload_n 0, 1) := by decide +kernel
theorem dX12_tellWater_54 : decode cX12_tellWater 54 = .ok (.getfield 218, 3) := by decide +kernel
theorem dX12_tellWater_57 : decode cX12_tellWater 57 = .ok (.ifCond .le 4, 3) := by decide +kernel
theorem dX12_tellWater_60 : decode cX12_tellWater 60 = .ok (.return_, 1) := by decide +kernel
theorem dX12_tellWater_61 : decode cX12_tellWater 61 = .ok (.aload_n 0, 1) := by decide +kernel
theorem dX12_tellWater_62 : decode cX12_tellWater 62 = .ok (.iload_n 2, 1) := by decide +kernel
theorem dX12_tellWater_63 : decode cX12_tellWater 63 = .ok (.iconst 0, 1) := by decide +kernel
theorem dX12_tellWater_64 : decode cX12_tellWater 64 = .ok (.aload_n 0, 1) := by decide +kernel
theorem dX12_tellWater_65 : decode cX12_tellWater 65 = .ok (.getfield 49, 3) := by decide +kernel
theorem dX12_tellWater_68 : decode cX12_tellWater 68 = .ok (.aload_n 0, 1) := by decide +kernel
theorem dX12_tellWater_69 : decode cX12_tellWater 69 = .ok (.getfield 251, 3) := by decide +kernel
theorem dX12_tellWater_72 : decode cX12_tellWater 72 = .ok (.iaload, 1) := by decide +kernel
theorem dX12_tellWater_73 : decode cX12_tellWater 73 = .ok (.invokevirtual 308, 3) := by decide +kernel
theorem dX12_tellWater_76 : decode cX12_tellWater 76 = .ok (.aload_n 0, 1) := by decide +kernel
theorem dX12_tellWater_77 : decode cX12_tellWater 77 = .ok (.getfield 49, 3) := by decide +kernel
theorem dX12_tellWater_80 : decode cX12_tellWater 80 = .ok (.aload_n 0, 1) := by decide +kernel
theorem dX12_tellWater_81 : decode cX12_tellWater 81 = .ok (.getfield 251, 3) := by decide +kernel
theorem dX12_tellWater_84 : decode cX12_tellWater 84 = .ok (.dup2, 1) := by decide +kernel
theorem dX12_tellWater_85 : decode cX12_tellWater 85 = .ok (.iaload, 1) := by decide +kernel
theorem dX12_tellWater_86 : decode cX12_tellWater 86 = .ok (.iconst 1, 1) := by decide +kernel
theorem dX12_tellWater_87 : decode cX12_tellWater 87 = .ok (.iadd, 1) := by decide +kernel
theorem dX12_tellWater_88 : decode cX12_tellWater 88 = .ok (.iastore, 1) := by decide +kernel
theorem dX12_tellWater_89 : decode cX12_tellWater 89 = .ok (.return_, 1) := by decide +kernel
theorem dX12_tellHeir_0 : decode cX12_tellHeir 0 = .ok (.bipush 8, 2) := by decide +kernel
theorem dX12_tellHeir_2 : decode cX12_tellHeir 2 = .ok (.aload_n 0, 1) := by decide +kernel
theorem dX12_tellHeir_3 : decode cX12_tellHeir 3 = .ok (.getfield 251, 3) := by decide +kernel
theorem dX12_tellHeir_6 : decode cX12_tellHeir 6 = .ok (.imul, 1) := by decide +kernel
theorem dX12_tellHeir_7 : decode cX12_tellHeir 7 = .ok (.aload_n 0, 1) := by decide +kernel
theorem dX12_tellHeir_8 : decode cX12_tellHeir 8 = .ok (.getfield 58, 3) := by decide +kernel
theorem dX12_tellHeir_11 : decode cX12_tellHeir 11 = .ok (.aload_n 0, 1) := by decide +kernel
theorem dX12_tellHeir_12 : decode cX12_tellHeir 12 = .ok (.getfield 251, 3) := by decide +kernel
theorem dX12_tellHeir_15 : decode cX12_tellHeir 15 = .ok (.iaload, 1) := by decide +kernel
theorem dX12_tellHeir_16 : decode cX12_tellHeir 16 = .ok (.iadd, 1) := by decide +kernel
theorem dX12_tellHeir_17 : decode cX12_tellHeir 17 = .ok (.istore_n 1, 1) := by decide +kernel
theorem dX12_tellHeir_18 : decode cX12_tellHeir 18 = .ok (.aload_n 0, 1) := by decide +kernel
theorem dX12_tellHeir_19 : decode cX12_tellHeir 19 = .ok (.invokevirtual 304, 3) := by decide +kernel
theorem dX12_tellHeir_22 : decode cX12_tellHeir 22 = .ok (.istore_n 2, 1) := by decide +kernel
theorem dX12_tellHeir_23 : decode cX12_tellHeir 23 = .ok (.aload_n 0, 1) := by decide +kernel
theorem dX12_tellHeir_24 : decode cX12_tellHeir 24 = .ok (.getfield 61, 3) := by decide +kernel
theorem dX12_tellHeir_27 : decode cX12_tellHeir 27 = .ok (.iload_n 1, 1) := by decide +kernel
theorem dX12_tellHeir_28 : decode cX12_tellHeir 28 = .ok (.aload_n 0, 1) := by decide +kernel
theorem dX12_tellHeir_29 : decode cX12_tellHeir 29 = .ok (.iconst 1, 1) := by decide +kernel
theorem dX12_tellHeir_30 : decode cX12_tellHeir 30 = .ok (.bipush 99, 2) := by decide +kernel
theorem dX12_tellHeir_32 : decode cX12_tellHeir 32 = .ok (.invokevirtual 291, 3) := by decide +kernel
theorem dX12_tellHeir_35 : decode cX12_tellHeir 35 = .ok (.iastore, 1) := by decide +kernel
theorem dX12_tellHeir_36 : decode cX12_tellHeir 36 = .ok (.aload_n 0, 1) := by decide +kernel
theorem dX12_tellHeir_37 : decode cX12_tellHeir 37 = .ok (.getfield 64, 3) := by decide +kernel
theorem dX12_tellHeir_40 : decode cX12_tellHeir 40 = .ok (.iload_n 1, 1) := by decide +kernel
theorem dX12_tellHeir_41 : decode cX12_tellHeir 41 = .ok (.aload_n 0, 1) := by decide +kernel
theorem dX12_tellHeir_42 : decode cX12_tellHeir 42 = .ok (.iconst 0, 1) := by decide +kernel
theorem dX12_tellHeir_43 : decode cX12_tellHeir 43 = .ok (.bipush 99, 2) := by decide +kernel
theorem dX12_tellHeir_45 : decode cX12_tellHeir 45 = .ok (.invokevirtual 291, 3) := by decide +kernel
theorem dX12_tellHeir_48 : decode cX12_tellHeir 48 = .ok (.iastore, 1) := by decide +kernel
theorem dX12_tellHeir_49 : decode cX12_tellHeir 49 = .ok (.aload_n 0, 1) := by decide +kernel
theorem dX12_tellHeir_50 : decode cX12_tellHeir 50 = .ok (.getfield 67, 3) := by decide +kernel
theorem dX12_tellHeir_53 : decode cX12_tellHeir 53 = .ok (.iload_n 1, 1) := by decide +kernel
theorem dX12_tellHeir_54 : decode cX12_tellHeir 54 = .ok (.aload_n 0, 1) := by decide +kernel
theorem dX12_tellHeir_55 : decode cX12_tellHeir 55 = .ok (.iconst 0, 1) := by decide +kernel
theorem dX12_tellHeir_56 : decode cX12_tellHeir 56 = .ok (.sipush 999, 3) := by decide +kernel
theorem dX12_tellHeir_59 : decode cX12_tellHeir 59 = .ok (.invokevirtual 291, 3) := by decide +kernel
theorem dX12_tellHeir_62 : decode cX12_tellHeir 62 = .ok (.iastore, 1) := by decide +kernel
theorem dX12_tellHeir_63 : decode cX12_tellHeir 63 = .ok (.aload_n 0, 1) := by decide +kernel
theorem dX12_tellHeir_64 : decode cX12_tellHeir 64 = .ok (.getfield 70, 3) := by decide +kernel
theorem dX12_tellHeir_67 : decode cX12_tellHeir 67 = .ok (.iload_n 1, 1) := by decide +kernel
theorem dX12_tellHeir_68 : decode cX12_tellHeir 68 = .ok (.aload_n 0, 1) := by decide +kernel
theorem dX12_tellHeir_69 : decode cX12_tellHeir 69 = .ok (.iconst 0, 1) := by decide +kernel
theorem dX12_tellHeir_70 : decode cX12_tellHeir 70 = .ok (.sipush 999, 3) := by decide +kernel
theorem dX12_tellHeir_73 : decode cX12_tellHeir 73 = .ok (.invokevirtual 291, 3) := by decide +kernel
theorem dX12_tellHeir_76 : decode cX12_tellHeir 76 = .ok (.iastore, 1) := by decide +kernel
theorem dX12_tellHeir_77 : decode cX12_tellHeir 77 = .ok (.aload_n 0, 1) := by decide +kernel
theorem dX12_tellHeir_78 : decode cX12_tellHeir 78 = .ok (.iconst 4, 1) := by decide +kernel
theorem dX12_tellHeir_79 : decode cX12_tellHeir 79 = .ok (.invokevirtual 295, 3) := by decide +kernel
theorem dX12_tellHeir_82 : decode cX12_tellHeir 82 = .ok (.aload_n 0, 1) := by decide +kernel
theorem dX12_tellHeir_83 : decode cX12_tellHeir 83 = .ok (.getfield 218, 3) := by decide +kernel
theorem dX12_tellHeir_86 : decode cX12_tellHeir 86 = .ok (.ifCond .le 4, 3) := by decide +kernel
theorem dX12_tellHeir_89 : decode cX12_tellHeir 89 = .ok (.return_, 1) := by decide +kernel
theorem dX12_tellHeir_90 : decode cX12_tellHeir 90 = .ok (.aload_n 0, 1) := by decide +kernel
theorem dX12_tellHeir_91 : decode cX12_tellHeir 91 = .ok (.iload_n 2, 1) := by decide +kernel
theorem dX12_tellHeir_92 : decode cX12_tellHeir 92 = .ok (.iconst 1, 1) := by decide +kernel
theorem dX12_tellHeir_93 : decode cX12_tellHeir 93 = .ok (.aload_n 0, 1) := by decide +kernel
theorem dX12_tellHeir_94 : decode cX12_tellHeir 94 = .ok (.getfield 58, 3) := by decide +kernel
theorem dX12_tellHeir_97 : decode cX12_tellHeir 97 = .ok (.aload_n 0, 1) := by decide +kernel
theorem dX12_tellHeir_98 : decode cX12_tellHeir 98 = .ok (.getfield 251, 3) := by decide +kernel
theorem dX12_tellHeir_101 : decode cX12_tellHeir 101 = .ok (.iaload, 1) := by decide +kernel
theorem dX12_tellHeir_102 : decode cX12_tellHeir 102 = .ok (.invokevirtual 308, 3) := by decide +kernel
theorem dX12_tellHeir_105 : decode cX12_tellHeir 105 = .ok (.aload_n 0, 1) := by decide +kernel
theorem dX12_tellHeir_106 : decode cX12_tellHeir 106 = .ok (.getfield 58, 3) := by decide +kernel
theorem dX12_tellHeir_109 : decode cX12_tellHeir 109 = .ok (.aload_n 0, 1) := by decide +kernel
theorem dX12_tellHeir_110 : decode cX12_tellHeir 110 = .ok (.getfield 251, 3) := by decide +kernel
theorem dX12_tellHeir_113 : decode cX12_tellHeir 113 = .ok (.dup2, 1) := by decide +kernel
theorem dX12_tellHeir_114 : decode cX12_tellHeir 114 = .ok (.iaload, 1) := by decide +kernel
theorem dX12_tellHeir_115 : decode cX12_tellHeir 115 = .ok (.iconst 1, 1) := by decide +kernel
theorem dX12_tellHeir_116 : decode cX12_tellHeir 116 = .ok (.iadd, 1) := by decide +kernel
theorem dX12_tellHeir_117 : decode cX12_tellHeir 117 = .ok (.iastore, 1) := by decide +kernel
theorem dX12_tellHeir_118 : decode cX12_tellHeir 118 = .ok (.return_, 1) := by decide +kernel
theorem dX12_tellSends_0 : decode cX12_tellSends 0 = .ok (.bipush 16, 2) := by decide +kernel
theorem dX12_tellSends_2 : decode cX12_tellSends 2 = .ok (.aload_n 0, 1) := by decide +kernel
theorem dX12_tellSends_3 : decode cX12_tellSends 3 = .ok (.getfield 251, 3) := by decide +kernel
theorem dX12_tellSends_6 : decode cX12_tellSends 6 = .ok (.imul, 1) := by decide +kernel
theorem dX12_tellSends_7 : decode cX12_tellSends 7 = .ok (.aload_n 0, 1) := by decide +kernel
theorem dX12_tellSends_8 : decode cX12_tellSends 8 = .ok (.getfield 73, 3) := by decide +kernel
theorem dX12_tellSends_11 : decode cX12_tellSends 11 = .ok (.aload_n 0, 1) := by decide +kernel
theorem dX12_tellSends_12 : decode cX12_tellSends 12 = .ok (.getfield 251, 3) := by decide +kernel
theorem dX12_tellSends_15 : decode cX12_tellSends 15 = .ok (.iaload, 1) := by decide +kernel
theorem dX12_tellSends_16 : decode cX12_tellSends 16 = .ok (.iadd, 1) := by decide +kernel
theorem dX12_tellSends_17 : decode cX12_tellSends 17 = .ok (.istore_n 1, 1) := by decide +kernel
theorem dX12_tellSends_18 : decode cX12_tellSends 18 = .ok (.aload_n 0, 1) := by decide +kernel
theorem dX12_tellSends_19 : decode cX12_tellSends 19 = .ok (.getfield 76, 3) := by decide +kernel
theorem dX12_tellSends_22 : decode cX12_tellSends 22 = .ok (.iload_n 1, 1) := by decide +kernel
theorem dX12_tellSends_23 : decode cX12_tellSends 23 = .ok (.aload_n 0, 1) := by decide +kernel
theorem dX12_tellSends_24 : decode cX12_tellSends 24 = .ok (.iconst 1, 1) := by decide +kernel
theorem dX12_tellSends_25 : decode cX12_tellSends 25 = .ok (.invokevirtual 312, 3) := by decide +kernel
theorem dX12_tellSends_28 : decode cX12_tellSends 28 = .ok (.iastore, 1) := by decide +kernel
theorem dX12_tellSends_29 : decode cX12_tellSends 29 = .ok (.aload_n 0, 1) := by decide +kernel
theorem dX12_tellSends_30 : decode cX12_tellSends 30 = .ok (.getfield 79, 3) := by decide +kernel
theorem dX12_tellSends_33 : decode cX12_tellSends 33 = .ok (.iload_n 1, 1) := by decide +kernel
theorem dX12_tellSends_34 : decode cX12_tellSends 34 = .ok (.aload_n 0, 1) := by decide +kernel
theorem dX12_tellSends_35 : decode cX12_tellSends 35 = .ok (.iconst 0, 1) := by decide +kernel
theorem dX12_tellSends_36 : decode cX12_tellSends 36 = .ok (.invokevirtual 312, 3) := by decide +kernel
theorem dX12_tellSends_39 : decode cX12_tellSends 39 = .ok (.iastore, 1) := by decide +kernel
theorem dX12_tellSends_40 : decode cX12_tellSends 40 = .ok (.aload_n 0, 1) := by decide +kernel
theorem dX12_tellSends_41 : decode cX12_tellSends 41 = .ok (.aload_n 0, 1) := by decide +kernel
theorem dX12_tellSends_42 : decode cX12_tellSends 42 = .ok (.getfield 73, 3) := by decide +kernel
theorem dX12_tellSends_45 : decode cX12_tellSends 45 = .ok (.aload_n 0, 1) := by decide +kernel
theorem dX12_tellSends_46 : decode cX12_tellSends 46 = .ok (.getfield 251, 3) := by decide +kernel
theorem dX12_tellSends_49 : decode cX12_tellSends 49 = .ok (.iaload, 1) := by decide +kernel
theorem dX12_tellSends_50 : decode cX12_tellSends 50 = .ok (.invokevirtual 288, 3) := by decide +kernel
theorem dX12_tellSends_53 : decode cX12_tellSends 53 = .ok (.aload_n 0, 1) := by decide +kernel
theorem dX12_tellSends_54 : decode cX12_tellSends 54 = .ok (.getfield 218, 3) := by decide +kernel
theorem dX12_tellSends_57 : decode cX12_tellSends 57 = .ok (.ifCond .ne 16, 3) := by decide +kernel
theorem dX12_tellSends_60 : decode cX12_tellSends 60 = .ok (.aload_n 0, 1) := by decide +kernel
theorem dX12_tellSends_61 : decode cX12_tellSends 61 = .ok (.getfield 73, 3) := by decide +kernel
theorem dX12_tellSends_64 : decode cX12_tellSends 64 = .ok (.aload_n 0, 1) := by decide +kernel
theorem dX12_tellSends_65 : decode cX12_tellSends 65 = .ok (.getfield 251, 3) := by decide +kernel
theorem dX12_tellSends_68 : decode cX12_tellSends 68 = .ok (.dup2, 1) := by decide +kernel
theorem dX12_tellSends_69 : decode cX12_tellSends 69 = .ok (.iaload, 1) := by decide +kernel
theorem dX12_tellSends_70 : decode cX12_tellSends 70 = .ok (.iconst 1, 1) := by decide +kernel
theorem dX12_tellSends_71 : decode cX12_tellSends 71 = .ok (.iadd, 1) := by decide +kernel
theorem dX12_tellSends_72 : decode cX12_tellSends 72 = .ok (.iastore, 1) := by decide +kernel
theorem dX12_tellSends_73 : decode cX12_tellSends 73 = .ok (.return_, 1) := by decide +kernel
theorem dX12_tellClaim_0 : decode cX12_tellClaim 0 = .ok (.bipush 6, 2) := by decide +kernel
theorem dX12_tellClaim_2 : decode cX12_tellClaim 2 = .ok (.aload_n 0, 1) := by decide +kernel
theorem dX12_tellClaim_3 : decode cX12_tellClaim 3 = .ok (.getfield 251, 3) := by decide +kernel
theorem dX12_tellClaim_6 : decode cX12_tellClaim 6 = .ok (.imul, 1) := by decide +kernel
theorem dX12_tellClaim_7 : decode cX12_tellClaim 7 = .ok (.aload_n 0, 1) := by decide +kernel
theorem dX12_tellClaim_8 : decode cX12_tellClaim 8 = .ok (.getfield 82, 3) := by decide +kernel
theorem dX12_tellClaim_11 : decode cX12_tellClaim 11 = .ok (.aload_n 0, 1) := by decide +kernel
theorem dX12_tellClaim_12 : decode cX12_tellClaim 12 = .ok (.getfield 251, 3) := by decide +kernel
theorem dX12_tellClaim_15 : decode cX12_tellClaim 15 = .ok (.iaload, 1) := by decide +kernel
theorem dX12_tellClaim_16 : decode cX12_tellClaim 16 = .ok (.iadd, 1) := by decide +kernel
theorem dX12_tellClaim_17 : decode cX12_tellClaim 17 = .ok (.istore_n 1, 1) := by decide +kernel
theorem dX12_tellClaim_18 : decode cX12_tellClaim 18 = .ok (.aload_n 0, 1) := by decide +kernel
theorem dX12_tellClaim_19 : decode cX12_tellClaim 19 = .ok (.invokevirtual 304, 3) := by decide +kernel
theorem dX12_tellClaim_22 : decode cX12_tellClaim 22 = .ok (.istore_n 2, 1) := by decide +kernel
theorem dX12_tellClaim_23 : decode cX12_tellClaim 23 = .ok (.aload_n 0, 1) := by decide +kernel
theorem dX12_tellClaim_24 : decode cX12_tellClaim 24 = .ok (.iconst 5, 1) := by decide +kernel
theorem dX12_tellClaim_25 : decode cX12_tellClaim 25 = .ok (.invokevirtual 295, 3) := by decide +kernel
theorem dX12_tellClaim_28 : decode cX12_tellClaim 28 = .ok (.aload_n 0, 1) := by decide +kernel
theorem dX12_tellClaim_29 : decode cX12_tellClaim 29 = .ok (.getfield 85, 3) := by decide +kernel
theorem dX12_tellClaim_32 : decode cX12_tellClaim 32 = .ok (.iload_n 1, 1) := by decide +kernel
theorem dX12_tellClaim_33 : decode cX12_tellClaim 33 = .ok (.iconst 0, 1) := by decide +kernel
theorem dX12_tellClaim_34 : decode cX12_tellClaim 34 = .ok (.iastore, 1) := by decide +kernel
theorem dX12_tellClaim_35 : decode cX12_tellClaim 35 = .ok (.iconst 1, 1) := by decide +kernel
theorem dX12_tellClaim_36 : decode cX12_tellClaim 36 = .ok (.istore_n 3, 1) := by decide +kernel
theorem dX12_tellClaim_37 : decode cX12_tellClaim 37 = .ok (.iload_n 3, 1) := by decide +kernel
theorem dX12_tellClaim_38 : decode cX12_tellClaim 38 = .ok (.ifCond .eq 152, 3) := by decide +kernel
theorem dX12_tellClaim_41 : decode cX12_tellClaim 41 = .ok (.aload_n 0, 1) := by decide +kernel
theorem dX12_tellClaim_42 : decode cX12_tellClaim 42 = .ok (.getfield 218, 3) := by decide +kernel
theorem dX12_tellClaim_45 : decode cX12_tellClaim 45 = .ok (.ifCond .ne 145, 3) := by decide +kernel
theorem dX12_tellClaim_48 : decode cX12_tellClaim 48 = .ok (.aload_n 0, 1) := by decide +kernel
theorem dX12_tellClaim_49 : decode cX12_tellClaim 49 = .ok (.getfield 85, 3) := by decide +kernel
theorem dX12_tellClaim_52 : decode cX12_tellClaim 52 = .ok (.iload_n 1, 1) := by decide +kernel
theorem dX12_tellClaim_53 : decode cX12_tellClaim 53 = .ok (.iaload, 1) := by decide +kernel
theorem dX12_tellClaim_54 : decode cX12_tellClaim 54 = .ok (.bipush 6, 2) := by decide +kernel
theorem dX12_tellClaim_56 : decode cX12_tellClaim 56 = .ok (.if_icmp .ne 16, 3) := by decide +kernel
theorem dX12_tellClaim_59 : decode cX12_tellClaim 59 = .ok (.aload_n 0, 1) := by decide +kernel
theorem dX12_tellClaim_60 : decode cX12_tellClaim 60 = .ok (.iconst 2, 1) := by decide +kernel
theorem dX12_tellClaim_61 : decode cX12_tellClaim 61 = .ok (.invokevirtual 236, 3) := by decide +kernel
theorem dX12_tellClaim_64 : decode cX12_tellClaim 64 = .ok (.ifCond .eq 8, 3) := by decide +kernel
theorem dX12_tellClaim_67 : decode cX12_tellClaim 67 = .ok (.aload_n 0, 1) := by decide +kernel
theorem dX12_tellClaim_68 : decode cX12_tellClaim 68 = .ok (.iconst 2, 1) := by decide +kernel
theorem dX12_tellClaim_69 : decode cX12_tellClaim 69 = .ok (.invokevirtual 233, 3) := by decide +kernel
theorem dX12_tellClaim_72 : decode cX12_tellClaim 72 = .ok (.aload_n 0, 1) := by decide +kernel
theorem dX12_tellClaim_73 : decode cX12_tellClaim 73 = .ok (.getfield 218, 3) := by decide +kernel
theorem dX12_tellClaim_76 : decode cX12_tellClaim 76 = .ok (.ifCond .le 4, 3) := by decide +kernel
theorem dX12_tellClaim_79 : decode cX12_tellClaim 79 = .ok (.return_, 1) := by decide +kernel
theorem dX12_tellClaim_80 : decode cX12_tellClaim 80 = .ok (.bipush 6, 2) := by decide +kernel
theorem dX12_tellClaim_82 : decode cX12_tellClaim 82 = .ok (.iload_n 1, 1) := by decide +kernel
theorem dX12_tellClaim_83 : decode cX12_tellClaim 83 = .ok (.imul, 1) := by decide +kernel
theorem dX12_tellClaim_84 : decode cX12_tellClaim 84 = .ok (.aload_n 0, 1) := by decide +kernel
theorem dX12_tellClaim_85 : decode cX12_tellClaim 85 = .ok (.getfield 85, 3) := by decide +kernel
theorem dX12_tellClaim_88 : decode cX12_tellClaim 88 = .ok (.iload_n 1, 1) := by decide +kernel
theorem dX12_tellClaim_89 : decode cX12_tellClaim 89 = .ok (.iaload, 1) := by decide +kernel
theorem dX12_tellClaim_90 : decode cX12_tellClaim 90 = .ok (.bipush 6, 2) := by decide +kernel
theorem dX12_tellClaim_92 : decode cX12_tellClaim 92 = .ok (.if_icmp .ge 12, 3) := by decide +kernel
theorem dX12_tellClaim_95 : decode cX12_tellClaim 95 = .ok (.aload_n 0, 1) := by decide +kernel
theorem dX12_tellClaim_96 : decode cX12_tellClaim 96 = .ok (.getfield 85, 3) := by decide +kernel
theorem dX12_tellClaim_99 : decode cX12_tellClaim 99 = .ok (.iload_n 1, 1) := by decide +kernel
theorem dX12_tellClaim_100 : decode cX12_tellClaim 100 = .ok (.iaload, 1) := by decide +kernel
theorem dX12_tellClaim_101 : decode cX12_tellClaim 101 = .ok (.goto 4, 3) := by decide +kernel
theorem dX12_tellClaim_104 : decode cX12_tellClaim 104 = .ok (.iconst 5, 1) := by decide +kernel
theorem dX12_tellClaim_105 : decode cX12_tellClaim 105 = .ok (.iadd, 1) := by decide +kernel
theorem dX12_tellClaim_106 : decode cX12_tellClaim 106 = .ok (.istore 4, 2) := by decide +kernel
theorem dX12_tellClaim_108 : decode cX12_tellClaim 108 = .ok (.aload_n 0, 1) := by decide +kernel
theorem dX12_tellClaim_109 : decode cX12_tellClaim 109 = .ok (.getfield 88, 3) := by decide +kernel
theorem dX12_tellClaim_112 : decode cX12_tellClaim 112 = .ok (.iload 4, 2) := by decide +kernel
theorem dX12_tellClaim_114 : decode cX12_tellClaim 114 = .ok (.aload_n 0, 1) := by decide +kernel
theorem dX12_tellClaim_115 : decode cX12_tellClaim 115 = .ok (.iconst 1, 1) := by decide +kernel
theorem dX12_tellClaim_116 : decode cX12_tellClaim 116 = .ok (.bipush 99, 2) := by decide +kernel
theorem dX12_tellClaim_118 : decode cX12_tellClaim 118 = .ok (.invokevirtual 291, 3) := by decide +kernel
theorem dX12_tellClaim_121 : decode cX12_tellClaim 121 = .ok (.iastore, 1) := by decide +kernel
theorem dX12_tellClaim_122 : decode cX12_tellClaim 122 = .ok (.aload_n 0, 1) := by decide +kernel
theorem dX12_tellClaim_123 : decode cX12_tellClaim 123 = .ok (.bipush 26, 2) := by decide +kernel
theorem dX12_tellClaim_125 : decode cX12_tellClaim 125 = .ok (.invokevirtual 295, 3) := by decide +kernel
theorem dX12_tellClaim_128 : decode cX12_tellClaim 128 = .ok (.aload_n 0, 1) := by decide +kernel
theorem dX12_tellClaim_129 : decode cX12_tellClaim 129 = .ok (.getfield 91, 3) := by decide +kernel
theorem dX12_tellClaim_132 : decode cX12_tellClaim 132 = .ok (.iload 4, 2) := by decide +kernel
theorem dX12_tellClaim_134 : decode cX12_tellClaim 134 = .ok (.aload_n 0, 1) := by decide +kernel
theorem dX12_tellClaim_135 : decode cX12_tellClaim 135 = .ok (.iconst 1, 1) := by decide +kernel
theorem dX12_tellClaim_136 : decode cX12_tellClaim 136 = .ok (.bipush 99, 2) := by decide +kernel
theorem dX12_tellClaim_138 : decode cX12_tellClaim 138 = .ok (.invokevirtual 291, 3) := by decide +kernel
theorem dX12_tellClaim_141 : decode cX12_tellClaim 141 = .ok (.iastore, 1) := by decide +kernel
theorem dX12_tellClaim_142 : decode cX12_tellClaim 142 = .ok (.aload_n 0, 1) := by decide +kernel
theorem dX12_tellClaim_143 : decode cX12_tellClaim 143 = .ok (.getfield 94, 3) := by decide +kernel
theorem dX12_tellClaim_146 : decode cX12_tellClaim 146 = .ok (.iload 4, 2) := by decide +kernel
theorem dX12_tellClaim_148 : decode cX12_tellClaim 148 = .ok (.aload_n 0, 1) := by decide +kernel
theorem dX12_tellClaim_149 : decode cX12_tellClaim 149 = .ok (.iconst 1, 1) := by decide +kernel
theorem dX12_tellClaim_150 : decode cX12_tellClaim 150 = .ok (.invokevirtual 312, 3) := by decide +kernel
theorem dX12_tellClaim_153 : decode cX12_tellClaim 153 = .ok (.iastore, 1) := by decide +kernel
theorem dX12_tellClaim_154 : decode cX12_tellClaim 154 = .ok (.aload_n 0, 1) := by decide +kernel
theorem dX12_tellClaim_155 : decode cX12_tellClaim 155 = .ok (.getfield 218, 3) := by decide +kernel
theorem dX12_tellClaim_158 : decode cX12_tellClaim 158 = .ok (.ifCond .le 4, 3) := by decide +kernel
theorem dX12_tellClaim_161 : decode cX12_tellClaim 161 = .ok (.return_, 1) := by decide +kernel
theorem dX12_tellClaim_162 : decode cX12_tellClaim 162 = .ok (.aload_n 0, 1) := by decide +kernel
theorem dX12_tellClaim_163 : decode cX12_tellClaim 163 = .ok (.getfield 85, 3) := by decide +kernel
theorem dX12_tellClaim_166 : decode cX12_tellClaim 166 = .ok (.iload_n 1, 1) := by decide +kernel
theorem dX12_tellClaim_167 : decode cX12_tellClaim 167 = .ok (.dup2, 1) := by decide +kernel
theorem dX12_tellClaim_168 : decode cX12_tellClaim 168 = .ok (.iaload, 1) := by decide +kernel
theorem dX12_tellClaim_169 : decode cX12_tellClaim 169 = .ok (.iconst 1, 1) := by decide +kernel
theorem dX12_tellClaim_170 : decode cX12_tellClaim 170 = .ok (.iadd, 1) := by decide +kernel
theorem dX12_tellClaim_171 : decode cX12_tellClaim 171 = .ok (.iastore, 1) := by decide +kernel
theorem dX12_tellClaim_172 : decode cX12_tellClaim 172 = .ok (.aload_n 0, 1) := by decide +kernel
theorem dX12_tellClaim_173 : decode cX12_tellClaim 173 = .ok (.bipush 8, 2) := by decide +kernel
theorem dX12_tellClaim_175 : decode cX12_tellClaim 175 = .ok (.invokevirtual 236, 3) := by decide +kernel
theorem dX12_tellClaim_178 : decode cX12_tellClaim 178 = .ok (.istore_n 3, 1) := by decide +kernel
theorem dX12_tellClaim_179 : decode cX12_tellClaim 179 = .ok (.iload_n 3, 1) := by decide +kernel
theorem dX12_tellClaim_180 : decode cX12_tellClaim 180 = .ok (.ifCond .eq 7, 3) := by decide +kernel
theorem dX12_tellClaim_183 : decode cX12_tellClaim 183 = .ok (.aload_n 0, 1) := by decide +kernel
theorem dX12_tellClaim_184 : decode cX12_tellClaim 184 = .ok (.invokevirtual 239, 3) := by decide +kernel
theorem dX12_tellClaim_187 : decode cX12_tellClaim 187 = .ok (.goto (-150), 3) := by decide +kernel
theorem dX12_tellClaim_190 : decode cX12_tellClaim 190 = .ok (.aload_n 0, 1) := by decide +kernel
theorem dX12_tellClaim_191 : decode cX12_tellClaim 191 = .ok (.iconst 4, 1) := by decide +kernel
theorem dX12_tellClaim_192 : decode cX12_tellClaim 192 = .ok (.invokevirtual 295, 3) := by decide +kernel
theorem dX12_tellClaim_195 : decode cX12_tellClaim 195 = .ok (.aload_n 0, 1) := by decide +kernel
theorem dX12_tellClaim_196 : decode cX12_tellClaim 196 = .ok (.getfield 218, 3) := by decide +kernel
theorem dX12_tellClaim_199 : decode cX12_tellClaim 199 = .ok (.ifCond .le 4, 3) := by decide +kernel
theorem dX12_tellClaim_202 : decode cX12_tellClaim 202 = .ok (.return_, 1) := by decide +kernel
theorem dX12_tellClaim_203 : decode cX12_tellClaim 203 = .ok (.aload_n 0, 1) := by decide +kernel
theorem dX12_tellClaim_204 : decode cX12_tellClaim 204 = .ok (.iload_n 2, 1) := by decide +kernel
theorem dX12_tellClaim_205 : decode cX12_tellClaim 205 = .ok (.iconst 2, 1) := by decide +kernel
theorem dX12_tellClaim_206 : decode cX12_tellClaim 206 = .ok (.aload_n 0, 1) := by decide +kernel
theorem dX12_tellClaim_207 : decode cX12_tellClaim 207 = .ok (.getfield 82, 3) := by decide +kernel
theorem dX12_tellClaim_210 : decode cX12_tellClaim 210 = .ok (.aload_n 0, 1) := by decide +kernel
theorem dX12_tellClaim_211 : decode cX12_tellClaim 211 = .ok (.getfield 251, 3) := by decide +kernel
theorem dX12_tellClaim_214 : decode cX12_tellClaim 214 = .ok (.iaload, 1) := by decide +kernel
theorem dX12_tellClaim_215 : decode cX12_tellClaim 215 = .ok (.invokevirtual 308, 3) := by decide +kernel
theorem dX12_tellClaim_218 : decode cX12_tellClaim 218 = .ok (.aload_n 0, 1) := by decide +kernel
theorem dX12_tellClaim_219 : decode cX12_tellClaim 219 = .ok (.getfield 82, 3) := by decide +kernel
theorem dX12_tellClaim_222 : decode cX12_tellClaim 222 = .ok (.aload_n 0, 1) := by decide +kernel
theorem dX12_tellClaim_223 : decode cX12_tellClaim 223 = .ok (.getfield 251, 3) := by decide +kernel
theorem dX12_tellClaim_226 : decode cX12_tellClaim 226 = .ok (.dup2, 1) := by decide +kernel
theorem dX12_tellClaim_227 : decode cX12_tellClaim 227 = .ok (.iaload, 1) := by decide +kernel
theorem dX12_tellClaim_228 : decode cX12_tellClaim 228 = .ok (.iconst 1, 1) := by decide +kernel
theorem dX12_tellClaim_229 : decode cX12_tellClaim 229 = .ok (.iadd, 1) := by decide +kernel
theorem dX12_tellClaim_230 : decode cX12_tellClaim 230 = .ok (.iastore, 1) := by decide +kernel
theorem dX12_tellClaim_231 : decode cX12_tellClaim 231 = .ok (.return_, 1) := by decide +kernel
theorem dX12_tellLaw_0 : decode cX12_tellLaw 0 = .ok (.aload_n 0, 1) := by decide +kernel
theorem dX12_tellLaw_1 : decode cX12_tellLaw 1 = .ok (.iconst 5, 1) := by decide +kernel
theorem dX12_tellLaw_2 : decode cX12_tellLaw 2 = .ok (.invokevirtual 295, 3) := by decide +kernel
theorem dX12_tellLaw_5 : decode cX12_tellLaw 5 = .ok (.aload_n 0, 1) := by decide +kernel
theorem dX12_tellLaw_6 : decode cX12_tellLaw 6 = .ok (.getfield 257, 3) := by decide +kernel
theorem dX12_tellLaw_9 : decode cX12_tellLaw 9 = .ok (.istore_n 2, 1) := by decide +kernel
theorem dX12_tellLaw_10 : decode cX12_tellLaw 10 = .ok (.iconst 0, 1) := by decide +kernel
theorem dX12_tellLaw_11 : decode cX12_tellLaw 11 = .ok (.istore_n 3, 1) := by decide +kernel
theorem dX12_tellLaw_12 : decode cX12_tellLaw 12 = .ok (.aload_n 0, 1) := by decide +kernel
theorem dX12_tellLaw_13 : decode cX12_tellLaw 13 = .ok (.getfield 218, 3) := by decide +kernel
theorem dX12_tellLaw_16 : decode cX12_tellLaw 16 = .ok (.ifCond .ne 113, 3) := by decide +kernel
theorem dX12_tellLaw_19 : decode cX12_tellLaw 19 = .ok (.aload_n 0, 1) := by decide +kernel
theorem dX12_tellLaw_20 : decode cX12_tellLaw 20 = .ok (.bipush 28, 2) := by decide +kernel
theorem dX12_tellLaw_22 : decode cX12_tellLaw 22 = .ok (.invokevirtual 236, 3) := by decide +kernel
theorem dX12_tellLaw_25 : decode cX12_tellLaw 25 = .ok (.ifCond .eq 104, 3) := by decide +kernel
theorem dX12_tellLaw_28 : decode cX12_tellLaw 28 = .ok (.iload_n 3, 1) := by decide +kernel
theorem dX12_tellLaw_29 : decode cX12_tellLaw 29 = .ok (.iconst 4, 1) := by decide +kernel
theorem dX12_tellLaw_30 : decode cX12_tellLaw 30 = .ok (.if_icmp .ne 8, 3) := by decide +kernel
theorem dX12_tellLaw_33 : decode cX12_tellLaw 33 = .ok (.aload_n 0, 1) := by decide +kernel
theorem dX12_tellLaw_34 : decode cX12_tellLaw 34 = .ok (.iconst 2, 1) := by decide +kernel
theorem dX12_tellLaw_35 : decode cX12_tellLaw 35 = .ok (.invokevirtual 233, 3) := by decide +kernel
theorem dX12_tellLaw_38 : decode cX12_tellLaw 38 = .ok (.aload_n 0, 1) := by decide +kernel
theorem dX12_tellLaw_39 : decode cX12_tellLaw 39 = .ok (.getfield 218, 3) := by decide +kernel
theorem dX12_tellLaw_42 : decode cX12_tellLaw 42 = .ok (.ifCond .le 4, 3) := by decide +kernel
theorem dX12_tellLaw_45 : decode cX12_tellLaw 45 = .ok (.return_, 1) := by decide +kernel
theorem dX12_tellLaw_46 : decode cX12_tellLaw 46 = .ok (.iinc 3 1, 3) := by decide +kernel
theorem dX12_tellLaw_49 : decode cX12_tellLaw 49 = .ok (.aload_n 0, 1) := by decide +kernel
theorem dX12_tellLaw_50 : decode cX12_tellLaw 50 = .ok (.invokevirtual 239, 3) := by decide +kernel
theorem dX12_tellLaw_53 : decode cX12_tellLaw 53 = .ok (.aload_n 0, 1) := by decide +kernel
theorem dX12_tellLaw_54 : decode cX12_tellLaw 54 = .ok (.getfield 109, 3) := by decide +kernel
theorem dX12_tellLaw_57 : decode cX12_tellLaw 57 = .ok (.aload_n 0, 1) := by decide +kernel
theorem dX12_tellLaw_58 : decode cX12_tellLaw 58 = .ok (.getfield 257, 3) := by decide +kernel
theorem dX12_tellLaw_61 : decode cX12_tellLaw 61 = .ok (.iconst 1, 1) := by decide +kernel
theorem dX12_tellLaw_62 : decode cX12_tellLaw 62 = .ok (.bastore, 1) := by decide +kernel
theorem dX12_tellLaw_63 : decode cX12_tellLaw 63 = .ok (.aload_n 0, 1) := by decide +kernel
theorem dX12_tellLaw_64 : decode cX12_tellLaw 64 = .ok (.getfield 113, 3) := by decide +kernel
theorem dX12_tellLaw_67 : decode cX12_tellLaw 67 = .ok (.aload_n 0, 1) := by decide +kernel
theorem dX12_tellLaw_68 : decode cX12_tellLaw 68 = .ok (.getfield 257, 3) := by decide +kernel
theorem dX12_tellLaw_71 : decode cX12_tellLaw 71 = .ok (.aload_n 0, 1) := by decide +kernel
theorem dX12_tellLaw_72 : decode cX12_tellLaw 72 = .ok (.getfield 260, 3) := by decide +kernel
theorem dX12_tellLaw_75 : decode cX12_tellLaw 75 = .ok (.iastore, 1) := by decide +kernel
theorem dX12_tellLaw_76 : decode cX12_tellLaw 76 = .ok (.aload_n 0, 1) := by decide +kernel
theorem dX12_tellLaw_77 : decode cX12_tellLaw 77 = .ok (.invokevirtual 315, 3) := by decide +kernel
theorem dX12_tellLaw_80 : decode cX12_tellLaw 80 = .ok (.aload_n 0, 1) := by decide +kernel
theorem dX12_tellLaw_81 : decode cX12_tellLaw 81 = .ok (.bipush 13, 2) := by decide +kernel
theorem dX12_tellLaw_83 : decode cX12_tellLaw 83 = .ok (.invokevirtual 295, 3) := by decide +kernel
theorem dX12_tellLaw_86 : decode cX12_tellLaw 86 = .ok (.aload_n 0, 1) := by decide +kernel
theorem dX12_tellLaw_87 : decode cX12_tellLaw 87 = .ok (.getfield 116, 3) := by decide +kernel
theorem dX12_tellLaw_90 : decode cX12_tellLaw 90 = .ok (.aload_n 0, 1) := by decide +kernel
theorem dX12_tellLaw_91 : decode cX12_tellLaw 91 = .ok (.getfield 257, 3) := by decide +kernel
theorem dX12_tellLaw_94 : decode cX12_tellLaw 94 = .ok (.aload_n 0, 1) := by decide +kernel
theorem dX12_tellLaw_95 : decode cX12_tellLaw 95 = .ok (.getfield 260, 3) := by decide +kernel
theorem dX12_tellLaw_98 : decode cX12_tellLaw 98 = .ok (.iastore, 1) := by decide +kernel
theorem dX12_tellLaw_99 : decode cX12_tellLaw 99 = .ok (.aload_n 0, 1) := by decide +kernel
theorem dX12_tellLaw_100 : decode cX12_tellLaw 100 = .ok (.getfield 218, 3) := by decide +kernel
theorem dX12_tellLaw_103 : decode cX12_tellLaw 103 = .ok (.ifCond .ne 7, 3) := by decide +kernel
theorem dX12_tellLaw_106 : decode cX12_tellLaw 106 = .ok (.aload_n 0, 1) := by decide +kernel
theorem dX12_tellLaw_107 : decode cX12_tellLaw 107 = .ok (.invokevirtual 315, 3) := by decide +kernel
theorem dX12_tellLaw_110 : decode cX12_tellLaw 110 = .ok (.aload_n 0, 1) := by decide +kernel
theorem dX12_tellLaw_111 : decode cX12_tellLaw 111 = .ok (.bipush 29, 2) := by decide +kernel
theorem dX12_tellLaw_113 : decode cX12_tellLaw 113 = .ok (.invokevirtual 295, 3) := by decide +kernel
theorem dX12_tellLaw_116 : decode cX12_tellLaw 116 = .ok (.aload_n 0, 1) := by decide +kernel
theorem dX12_tellLaw_117 : decode cX12_tellLaw 117 = .ok (.invokevirtual 318, 3) := by decide +kernel
theorem dX12_tellLaw_120 : decode cX12_tellLaw 120 = .ok (.aload_n 0, 1) := by decide +kernel
theorem dX12_tellLaw_121 : decode cX12_tellLaw 121 = .ok (.bipush 30, 2) := by decide +kernel
theorem dX12_tellLaw_123 : decode cX12_tellLaw 123 = .ok (.invokevirtual 295, 3) := by decide +kernel
theorem dX12_tellLaw_126 : decode cX12_tellLaw 126 = .ok (.goto (-114), 3) := by decide +kernel
theorem dX12_tellLaw_129 : decode cX12_tellLaw 129 = .ok (.aload_n 0, 1) := by decide +kernel
theorem dX12_tellLaw_130 : decode cX12_tellLaw 130 = .ok (.getfield 109, 3) := by decide +kernel
theorem dX12_tellLaw_133 : decode cX12_tellLaw 133 = .ok (.aload_n 0, 1) := by decide +kernel
theorem dX12_tellLaw_134 : decode cX12_tellLaw 134 = .ok (.getfield 257, 3) := by decide +kernel
theorem dX12_tellLaw_137 : decode cX12_tellLaw 137 = .ok (.iconst 0, 1) := by decide +kernel
theorem dX12_tellLaw_138 : decode cX12_tellLaw 138 = .ok (.bastore, 1) := by decide +kernel
theorem dX12_tellLaw_139 : decode cX12_tellLaw 139 = .ok (.aload_n 0, 1) := by decide +kernel
theorem dX12_tellLaw_140 : decode cX12_tellLaw 140 = .ok (.invokevirtual 318, 3) := by decide +kernel
theorem dX12_tellLaw_143 : decode cX12_tellLaw 143 = .ok (.aload_n 0, 1) := by decide +kernel
theorem dX12_tellLaw_144 : decode cX12_tellLaw 144 = .ok (.iconst 4, 1) := by decide +kernel
theorem dX12_tellLaw_145 : decode cX12_tellLaw 145 = .ok (.invokevirtual 295, 3) := by decide +kernel
theorem dX12_tellLaw_148 : decode cX12_tellLaw 148 = .ok (.aload_n 0, 1) := by decide +kernel
theorem dX12_tellLaw_149 : decode cX12_tellLaw 149 = .ok (.getfield 218, 3) := by decide +kernel
theorem dX12_tellLaw_152 : decode cX12_tellLaw 152 = .ok (.ifCond .le 4, 3) := by decide +kernel
theorem dX12_tellLaw_155 : decode cX12_tellLaw 155 = .ok (.return_, 1) := by decide +kernel
theorem dX12_tellLaw_156 : decode cX12_tellLaw 156 = .ok (.aload_n 0, 1) := by decide +kernel
theorem dX12_tellLaw_157 : decode cX12_tellLaw 157 = .ok (.getfield 103, 3) := by decide +kernel
theorem dX12_tellLaw_160 : decode cX12_tellLaw 160 = .ok (.bipush 17, 2) := by decide +kernel
theorem dX12_tellLaw_162 : decode cX12_tellLaw 162 = .ok (.aload_n 0, 1) := by decide +kernel
theorem dX12_tellLaw_163 : decode cX12_tellLaw 163 = .ok (.getfield 251, 3) := by decide +kernel
theorem dX12_tellLaw_166 : decode cX12_tellLaw 166 = .ok (.imul, 1) := by decide +kernel
theorem dX12_tellLaw_167 : decode cX12_tellLaw 167 = .ok (.iload_n 1, 1) := by decide +kernel
theorem dX12_tellLaw_168 : decode cX12_tellLaw 168 = .ok (.iadd, 1) := by decide +kernel
theorem dX12_tellLaw_169 : decode cX12_tellLaw 169 = .ok (.iload_n 2, 1) := by decide +kernel
theorem dX12_tellLaw_170 : decode cX12_tellLaw 170 = .ok (.iastore, 1) := by decide +kernel
theorem dX12_tellLaw_171 : decode cX12_tellLaw 171 = .ok (.aload_n 0, 1) := by decide +kernel
theorem dX12_tellLaw_172 : decode cX12_tellLaw 172 = .ok (.getfield 106, 3) := by decide +kernel
theorem dX12_tellLaw_175 : decode cX12_tellLaw 175 = .ok (.bipush 17, 2) := by decide +kernel
theorem dX12_tellLaw_177 : decode cX12_tellLaw 177 = .ok (.aload_n 0, 1) := by decide +kernel
theorem dX12_tellLaw_178 : decode cX12_tellLaw 178 = .ok (.getfield 251, 3) := by decide +kernel
theorem dX12_tellLaw_181 : decode cX12_tellLaw 181 = .ok (.imul, 1) := by decide +kernel
theorem dX12_tellLaw_182 : decode cX12_tellLaw 182 = .ok (.iload_n 1, 1) := by decide +kernel
theorem dX12_tellLaw_183 : decode cX12_tellLaw 183 = .ok (.iadd, 1) := by decide +kernel
theorem dX12_tellLaw_184 : decode cX12_tellLaw 184 = .ok (.aload_n 0, 1) := by decide +kernel
theorem dX12_tellLaw_185 : decode cX12_tellLaw 185 = .ok (.getfield 257, 3) := by decide +kernel
theorem dX12_tellLaw_188 : decode cX12_tellLaw 188 = .ok (.iastore, 1) := by decide +kernel
theorem dX12_tellLaw_189 : decode cX12_tellLaw 189 = .ok (.return_, 1) := by decide +kernel
theorem dX12_term_0 : decode cX12_term 0 = .ok (.aload_n 0, 1) := by decide +kernel
theorem dX12_term_1 : decode cX12_term 1 = .ok (.getfield 119, 3) := by decide +kernel
theorem dX12_term_4 : decode cX12_term 4 = .ok (.aload_n 0, 1) := by decide +kernel
theorem dX12_term_5 : decode cX12_term 5 = .ok (.getfield 257, 3) := by decide +kernel
theorem dX12_term_8 : decode cX12_term 8 = .ok (.aload_n 0, 1) := by decide +kernel
theorem dX12_term_9 : decode cX12_term 9 = .ok (.getfield 260, 3) := by decide +kernel
theorem dX12_term_12 : decode cX12_term 12 = .ok (.iastore, 1) := by decide +kernel
theorem dX12_term_13 : decode cX12_term 13 = .ok (.aload_n 0, 1) := by decide +kernel
theorem dX12_term_14 : decode cX12_term 14 = .ok (.getfield 218, 3) := by decide +kernel
theorem dX12_term_17 : decode cX12_term 17 = .ok (.ifCond .ne 7, 3) := by decide +kernel
theorem dX12_term_20 : decode cX12_term 20 = .ok (.aload_n 0, 1) := by decide +kernel
theorem dX12_term_21 : decode cX12_term 21 = .ok (.invokevirtual 315, 3) := by decide +kernel
theorem dX12_term_24 : decode cX12_term 24 = .ok (.aload_n 0, 1) := by decide +kernel
theorem dX12_term_25 : decode cX12_term 25 = .ok (.getfield 122, 3) := by decide +kernel
theorem dX12_term_28 : decode cX12_term 28 = .ok (.aload_n 0, 1) := by decide +kernel
theorem dX12_term_29 : decode cX12_term 29 = .ok (.getfield 257, 3) := by decide +kernel
theorem dX12_term_32 : decode cX12_term 32 = .ok (.aload_n 0, 1) := by decide +kernel
theorem dX12_term_33 : decode cX12_term 33 = .ok (.getfield 260, 3) := by decide +kernel
theorem dX12_term_36 : decode cX12_term 36 = .ok (.iastore, 1) := by decide +kernel
theorem dX12_term_37 : decode cX12_term 37 = .ok (.aload_n 0, 1) := by decide +kernel
theorem dX12_term_38 : decode cX12_term 38 = .ok (.dup, 1) := by decide +kernel
theorem dX12_term_39 : decode cX12_term 39 = .ok (.getfield 257, 3) := by decide +kernel
theorem dX12_term_42 : decode cX12_term 42 = .ok (.iconst 1, 1) := by decide +kernel
theorem dX12_term_43 : decode cX12_term 43 = .ok (.iadd, 1) := by decide +kernel
theorem dX12_term_44 : decode cX12_term 44 = .ok (.putfield 257, 3) := by decide +kernel
theorem dX12_term_47 : decode cX12_term 47 = .ok (.return_, 1) := by decide +kernel
theorem dX12_emit_0 : decode cX12_emit 0 = .ok (.aload_n 0, 1) := by decide +kernel
theorem dX12_emit_1 : decode cX12_emit 1 = .ok (.getfield 125, 3) := by decide +kernel
theorem dX12_emit_4 : decode cX12_emit 4 = .ok (.aload_n 0, 1) := by decide +kernel
theorem dX12_emit_5 : decode cX12_emit 5 = .ok (.getfield 260, 3) := by decide +kernel
theorem dX12_emit_8 : decode cX12_emit 8 = .ok (.iload_n 1, 1) := by decide +kernel
theorem dX12_emit_9 : decode cX12_emit 9 = .ok (.iastore, 1) := by decide +kernel
theorem dX12_emit_10 : decode cX12_emit 10 = .ok (.aload_n 0, 1) := by decide +kernel
theorem dX12_emit_11 : decode cX12_emit 11 = .ok (.getfield 128, 3) := by decide +kernel
theorem dX12_emit_14 : decode cX12_emit 14 = .ok (.aload_n 0, 1) := by decide +kernel
theorem dX12_emit_15 : decode cX12_emit 15 = .ok (.getfield 260, 3) := by decide +kernel
theorem dX12_emit_18 : decode cX12_emit 18 = .ok (.iload_n 2, 1) := by decide +kernel
theorem dX12_emit_19 : decode cX12_emit 19 = .ok (.iastore, 1) := by decide +kernel
theorem dX12_emit_20 : decode cX12_emit 20 = .ok (.aload_n 0, 1) := by decide +kernel
theorem dX12_emit_21 : decode cX12_emit 21 = .ok (.dup, 1) := by decide +kernel
theorem dX12_emit_22 : decode cX12_emit 22 = .ok (.getfield 260, 3) := by decide +kernel
theorem dX12_emit_25 : decode cX12_emit 25 = .ok (.iconst 1, 1) := by decide +kernel
theorem dX12_emit_26 : decode cX12_emit 26 = .ok (.iadd, 1) := by decide +kernel
theorem dX12_emit_27 : decode cX12_emit 27 = .ok (.putfield 260, 3) := by decide +kernel
theorem dX12_emit_30 : decode cX12_emit 30 = .ok (.return_, 1) := by decide +kernel
theorem dX12_comesOut_0 : decode cX12_comesOut 0 = .ok (.aload_n 0, 1) := by decide +kernel
theorem dX12_comesOut_1 : decode cX12_comesOut 1 = .ok (.getfield 321, 3) := by decide +kernel
theorem dX12_comesOut_4 : decode cX12_comesOut 4 = .ok (.ifCond .le 87, 3) := by decide +kernel
theorem dX12_comesOut_7 : decode cX12_comesOut 7 = .ok (.aload_n 0, 1) := by decide +kernel
theorem dX12_comesOut_8 : decode cX12_comesOut 8 = .ok (.getfield 131, 3) := by decide +kernel
theorem dX12_comesOut_11 : decode cX12_comesOut 11 = .ok (.aload_n 0, 1) := by decide +kernel
theorem dX12_comesOut_12 : decode cX12_comesOut 12 = .ok (.getfield 321, 3) := by decide +kernel
theorem dX12_comesOut_15 : decode cX12_comesOut 15 = .ok (.iconst 1, 1) := by decide +kernel
theorem dX12_comesOut_16 : decode cX12_comesOut 16 = .ok (.isub, 1) := by decide +kernel
theorem dX12_comesOut_17 : decode cX12_comesOut 17 = .ok (.iaload, 1) := by decide +kernel
theorem dX12_comesOut_18 : decode cX12_comesOut 18 = .ok (.istore_n 2, 1) := by decide +kernel
theorem dX12_comesOut_19 : decode cX12_comesOut 19 = .ok (.iload_n 2, 1) := by decide +kernel
theorem dX12_comesOut_20 : decode cX12_comesOut 20 = .ok (.bipush 6, 2) := by decide +kernel
theorem dX12_comesOut_22 : decode cX12_comesOut 22 = .ok (.if_icmp .eq 19, 3) := by decide +kernel
theorem dX12_comesOut_25 : decode cX12_comesOut 25 = .ok (.iload_n 1, 1) := by decide +kernel
theorem dX12_comesOut_26 : decode cX12_comesOut 26 = .ok (.ifCond .eq 16, 3) := by decide +kernel
theorem dX12_comesOut_29 : decode cX12_comesOut 29 = .ok (.iload_n 2, 1) := by decide +kernel
theorem dX12_comesOut_30 : decode cX12_comesOut 30 = .ok (.bipush 8, 2) := by decide +kernel
theorem dX12_comesOut_32 : decode cX12_comesOut 32 = .ok (.if_icmp .eq 9, 3) := by decide +kernel
theorem dX12_comesOut_35 : decode cX12_comesOut 35 = .ok (.iload_n 2, 1) := by decide +kernel
theorem dX12_comesOut_36 : decode cX12_comesOut 36 = .ok (.bipush 9, 2) := by decide +kernel
theorem dX12_comesOut_38 : decode cX12_comesOut 38 = .ok (.if_icmp .ne 4, 3) := by decide +kernel
theorem dX12_comesOut_41 : decode cX12_comesOut 41 = .ok (.return_, 1) := by decide +kernel
theorem dX12_comesOut_42 : decode cX12_comesOut 42 = .ok (.aload_n 0, 1) := by decide +kernel
theorem dX12_comesOut_43 : decode cX12_comesOut 43 = .ok (.dup, 1) := by decide +kernel
theorem dX12_comesOut_44 : decode cX12_comesOut 44 = .ok (.getfield 321, 3) := by decide +kernel
theorem dX12_comesOut_47 : decode cX12_comesOut 47 = .ok (.iconst 1, 1) := by decide +kernel
