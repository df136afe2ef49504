theorem dX12_comesOut_48 : decode cX12_comesOut 48 = .ok (.isub, 1) := by decide +kernel
theorem dX12_comesOut_49 : decode cX12_comesOut 49 = .ok (.putfield 321, 3) := by decide +kernel
theorem dX12_comesOut_52 : decode cX12_comesOut 52 = .ok (.aload_n 0, 1) := by decide +kernel
theorem dX12_comesOut_53 : decode cX12_comesOut 53 = .ok (.iload_n 2, 1) := by decide +kernel
theorem dX12_comesOut_54 : decode cX12_comesOut 54 = .ok (.bipush 8, 2) := by decide +kernel
theorem dX12_comesOut_56 : decode cX12_comesOut 56 = .ok (.if_icmp .ne 7, 3) := by decide +kernel
theorem dX12_comesOut_59 : decode cX12_comesOut 59 = .ok (.iconst 2, 1) := by decide +kernel
theorem dX12_comesOut_60 : decode cX12_comesOut 60 = .ok (.goto 24, 3) := by decide +kernel
theorem dX12_comesOut_63 : decode cX12_comesOut 63 = .ok (.iload_n 2, 1) := by decide +kernel
theorem dX12_comesOut_64 : decode cX12_comesOut 64 = .ok (.bipush 9, 2) := by decide +kernel
theorem dX12_comesOut_66 : decode cX12_comesOut 66 = .ok (.if_icmp .ne 7, 3) := by decide +kernel
theorem dX12_comesOut_69 : decode cX12_comesOut 69 = .ok (.iconst 3, 1) := by decide +kernel
theorem dX12_comesOut_70 : decode cX12_comesOut 70 = .ok (.goto 14, 3) := by decide +kernel
theorem dX12_comesOut_73 : decode cX12_comesOut 73 = .ok (.iload_n 2, 1) := by decide +kernel
theorem dX12_comesOut_74 : decode cX12_comesOut 74 = .ok (.bipush 10, 2) := by decide +kernel
theorem dX12_comesOut_76 : decode cX12_comesOut 76 = .ok (.if_icmp .ne 7, 3) := by decide +kernel
theorem dX12_comesOut_79 : decode cX12_comesOut 79 = .ok (.iconst 4, 1) := by decide +kernel
theorem dX12_comesOut_80 : decode cX12_comesOut 80 = .ok (.goto 4, 3) := by decide +kernel
theorem dX12_comesOut_83 : decode cX12_comesOut 83 = .ok (.iconst 5, 1) := by decide +kernel
theorem dX12_comesOut_84 : decode cX12_comesOut 84 = .ok (.iconst 0, 1) := by decide +kernel
theorem dX12_comesOut_85 : decode cX12_comesOut 85 = .ok (.invokevirtual 324, 3) := by decide +kernel
theorem dX12_comesOut_88 : decode cX12_comesOut 88 = .ok (.goto (-88), 3) := by decide +kernel
theorem dX12_comesOut_91 : decode cX12_comesOut 91 = .ok (.return_, 1) := by decide +kernel
theorem dX12_expression_0 : decode cX12_expression 0 = .ok (.aload_n 0, 1) := by decide +kernel
theorem dX12_expression_1 : decode cX12_expression 1 = .ok (.iconst 0, 1) := by decide +kernel
theorem dX12_expression_2 : decode cX12_expression 2 = .ok (.putfield 321, 3) := by decide +kernel
theorem dX12_expression_5 : decode cX12_expression 5 = .ok (.aload_n 0, 1) := by decide +kernel
theorem dX12_expression_6 : decode cX12_expression 6 = .ok (.getfield 245, 3) := by decide +kernel
theorem dX12_expression_9 : decode cX12_expression 9 = .ok (.istore_n 1, 1) := by decide +kernel
theorem dX12_expression_10 : decode cX12_expression 10 = .ok (.iconst 1, 1) := by decide +kernel
theorem dX12_expression_11 : decode cX12_expression 11 = .ok (.istore_n 2, 1) := by decide +kernel
theorem dX12_expression_12 : decode cX12_expression 12 = .ok (.iload_n 2, 1) := by decide +kernel
theorem dX12_expression_13 : decode cX12_expression 13 = .ok (.ifCond .eq 259, 3) := by decide +kernel
theorem dX12_expression_16 : decode cX12_expression 16 = .ok (.aload_n 0, 1) := by decide +kernel
theorem dX12_expression_17 : decode cX12_expression 17 = .ok (.getfield 218, 3) := by decide +kernel
theorem dX12_expression_20 : decode cX12_expression 20 = .ok (.ifCond .ne 252, 3) := by decide +kernel
theorem dX12_expression_23 : decode cX12_expression 23 = .ok (.aload_n 0, 1) := by decide +kernel
theorem dX12_expression_24 : decode cX12_expression 24 = .ok (.bipush 6, 2) := by decide +kernel
theorem dX12_expression_26 : decode cX12_expression 26 = .ok (.invokevirtual 236, 3) := by decide +kernel
theorem dX12_expression_29 : decode cX12_expression 29 = .ok (.ifCond .eq 55, 3) := by decide +kernel
theorem dX12_expression_32 : decode cX12_expression 32 = .ok (.aload_n 0, 1) := by decide +kernel
theorem dX12_expression_33 : decode cX12_expression 33 = .ok (.getfield 245, 3) := by decide +kernel
theorem dX12_expression_36 : decode cX12_expression 36 = .ok (.bipush 6, 2) := by decide +kernel
theorem dX12_expression_38 : decode cX12_expression 38 = .ok (.if_icmp .ne 8, 3) := by decide +kernel
theorem dX12_expression_41 : decode cX12_expression 41 = .ok (.aload_n 0, 1) := by decide +kernel
theorem dX12_expression_42 : decode cX12_expression 42 = .ok (.iconst 2, 1) := by decide +kernel
theorem dX12_expression_43 : decode cX12_expression 43 = .ok (.invokevirtual 233, 3) := by decide +kernel
theorem dX12_expression_46 : decode cX12_expression 46 = .ok (.aload_n 0, 1) := by decide +kernel
theorem dX12_expression_47 : decode cX12_expression 47 = .ok (.dup, 1) := by decide +kernel
theorem dX12_expression_48 : decode cX12_expression 48 = .ok (.getfield 245, 3) := by decide +kernel
theorem dX12_expression_51 : decode cX12_expression 51 = .ok (.iconst 1, 1) := by decide +kernel
theorem dX12_expression_52 : decode cX12_expression 52 = .ok (.iadd, 1) := by decide +kernel
theorem dX12_expression_53 : decode cX12_expression 53 = .ok (.putfield 245, 3) := by decide +kernel
theorem dX12_expression_56 : decode cX12_expression 56 = .ok (.aload_n 0, 1) := by decide +kernel
theorem dX12_expression_57 : decode cX12_expression 57 = .ok (.invokevirtual 239, 3) := by decide +kernel
theorem dX12_expression_60 : decode cX12_expression 60 = .ok (.aload_n 0, 1) := by decide +kernel
theorem dX12_expression_61 : decode cX12_expression 61 = .ok (.getfield 131, 3) := by decide +kernel
theorem dX12_expression_64 : decode cX12_expression 64 = .ok (.aload_n 0, 1) := by decide +kernel
theorem dX12_expression_65 : decode cX12_expression 65 = .ok (.getfield 321, 3) := by decide +kernel
theorem dX12_expression_68 : decode cX12_expression 68 = .ok (.bipush 6, 2) := by decide +kernel
theorem dX12_expression_70 : decode cX12_expression 70 = .ok (.iastore, 1) := by decide +kernel
theorem dX12_expression_71 : decode cX12_expression 71 = .ok (.aload_n 0, 1) := by decide +kernel
theorem dX12_expression_72 : decode cX12_expression 72 = .ok (.dup, 1) := by decide +kernel
theorem dX12_expression_73 : decode cX12_expression 73 = .ok (.getfield 321, 3) := by decide +kernel
theorem dX12_expression_76 : decode cX12_expression 76 = .ok (.iconst 1, 1) := by decide +kernel
theorem dX12_expression_77 : decode cX12_expression 77 = .ok (.iadd, 1) := by decide +kernel
theorem dX12_expression_78 : decode cX12_expression 78 = .ok (.putfield 321, 3) := by decide +kernel
theorem dX12_expression_81 : decode cX12_expression 81 = .ok (.goto (-58), 3) := by decide +kernel
theorem dX12_expression_84 : decode cX12_expression 84 = .ok (.aload_n 0, 1) := by decide +kernel
theorem dX12_expression_85 : decode cX12_expression 85 = .ok (.invokevirtual 327, 3) := by decide +kernel
theorem dX12_expression_88 : decode cX12_expression 88 = .ok (.aload_n 0, 1) := by decide +kernel
theorem dX12_expression_89 : decode cX12_expression 89 = .ok (.getfield 218, 3) := by decide +kernel
theorem dX12_expression_92 : decode cX12_expression 92 = .ok (.ifCond .le 4, 3) := by decide +kernel
theorem dX12_expression_95 : decode cX12_expression 95 = .ok (.return_, 1) := by decide +kernel
theorem dX12_expression_96 : decode cX12_expression 96 = .ok (.aload_n 0, 1) := by decide +kernel
theorem dX12_expression_97 : decode cX12_expression 97 = .ok (.bipush 7, 2) := by decide +kernel
theorem dX12_expression_99 : decode cX12_expression 99 = .ok (.invokevirtual 236, 3) := by decide +kernel
theorem dX12_expression_102 : decode cX12_expression 102 = .ok (.ifCond .eq 43, 3) := by decide +kernel
theorem dX12_expression_105 : decode cX12_expression 105 = .ok (.aload_n 0, 1) := by decide +kernel
theorem dX12_expression_106 : decode cX12_expression 106 = .ok (.getfield 245, 3) := by decide +kernel
theorem dX12_expression_109 : decode cX12_expression 109 = .ok (.iload_n 1, 1) := by decide +kernel
theorem dX12_expression_110 : decode cX12_expression 110 = .ok (.if_icmp .le 35, 3) := by decide +kernel
theorem dX12_expression_113 : decode cX12_expression 113 = .ok (.aload_n 0, 1) := by decide +kernel
theorem dX12_expression_114 : decode cX12_expression 114 = .ok (.iconst 0, 1) := by decide +kernel
theorem dX12_expression_115 : decode cX12_expression 115 = .ok (.invokevirtual 330, 3) := by decide +kernel
theorem dX12_expression_118 : decode cX12_expression 118 = .ok (.aload_n 0, 1) := by decide +kernel
theorem dX12_expression_119 : decode cX12_expression 119 = .ok (.dup, 1) := by decide +kernel
theorem dX12_expression_120 : decode cX12_expression 120 = .ok (.getfield 321, 3) := by decide +kernel
theorem dX12_expression_123 : decode cX12_expression 123 = .ok (.iconst 1, 1) := by decide +kernel
theorem dX12_expression_124 : decode cX12_expression 124 = .ok (.isub, 1) := by decide +kernel
theorem dX12_expression_125 : decode cX12_expression 125 = .ok (.putfield 321, 3) := by decide +kernel
theorem dX12_expression_128 : decode cX12_expression 128 = .ok (.aload_n 0, 1) := by decide +kernel
theorem dX12_expression_129 : decode cX12_expression 129 = .ok (.dup, 1) := by decide +kernel
theorem dX12_expression_130 : decode cX12_expression 130 = .ok (.getfield 245, 3) := by decide +kernel
theorem dX12_expression_133 : decode cX12_expression 133 = .ok (.iconst 1, 1) := by decide +kernel
theorem dX12_expression_134 : decode cX12_expression 134 = .ok (.isub, 1) := by decide +kernel
theorem dX12_expression_135 : decode cX12_expression 135 = .ok (.putfield 245, 3) := by decide +kernel
theorem dX12_expression_138 : decode cX12_expression 138 = .ok (.aload_n 0, 1) := by decide +kernel
theorem dX12_expression_139 : decode cX12_expression 139 = .ok (.invokevirtual 239, 3) := by decide +kernel
theorem dX12_expression_142 : decode cX12_expression 142 = .ok (.goto (-46), 3) := by decide +kernel
theorem dX12_expression_145 : decode cX12_expression 145 = .ok (.aload_n 0, 1) := by decide +kernel
theorem dX12_expression_146 : decode cX12_expression 146 = .ok (.bipush 8, 2) := by decide +kernel
theorem dX12_expression_148 : decode cX12_expression 148 = .ok (.invokevirtual 236, 3) := by decide +kernel
theorem dX12_expression_151 : decode cX12_expression 151 = .ok (.ifCond .ne 30, 3) := by decide +kernel
theorem dX12_expression_154 : decode cX12_expression 154 = .ok (.aload_n 0, 1) := by decide +kernel
theorem dX12_expression_155 : decode cX12_expression 155 = .ok (.bipush 9, 2) := by decide +kernel
theorem dX12_expression_157 : decode cX12_expression 157 = .ok (.invokevirtual 236, 3) := by decide +kernel
theorem dX12_expression_160 : decode cX12_expression 160 = .ok (.ifCond .ne 21, 3) := by decide +kernel
theorem dX12_expression_163 : decode cX12_expression 163 = .ok (.aload_n 0, 1) := by decide +kernel
theorem dX12_expression_164 : decode cX12_expression 164 = .ok (.bipush 10, 2) := by decide +kernel
theorem dX12_expression_166 : decode cX12_expression 166 = .ok (.invokevirtual 236, 3) := by decide +kernel
theorem dX12_expression_169 : decode cX12_expression 169 = .ok (.ifCond .ne 12, 3) := by decide +kernel
theorem dX12_expression_172 : decode cX12_expression 172 = .ok (.aload_n 0, 1) := by decide +kernel
theorem dX12_expression_173 : decode cX12_expression 173 = .ok (.bipush 15, 2) := by decide +kernel
theorem dX12_expression_175 : decode cX12_expression 175 = .ok (.invokevirtual 236, 3) := by decide +kernel
theorem dX12_expression_178 : decode cX12_expression 178 = .ok (.ifCond .eq 7, 3) := by decide +kernel
theorem dX12_expression_181 : decode cX12_expression 181 = .ok (.iconst 1, 1) := by decide +kernel
theorem dX12_expression_182 : decode cX12_expression 182 = .ok (.goto 4, 3) := by decide +kernel
theorem dX12_expression_185 : decode cX12_expression 185 = .ok (.iconst 0, 1) := by decide +kernel
theorem dX12_expression_186 : decode cX12_expression 186 = .ok (.istore_n 2, 1) := by decide +kernel
theorem dX12_expression_187 : decode cX12_expression 187 = .ok (.iload_n 2, 1) := by decide +kernel
theorem dX12_expression_188 : decode cX12_expression 188 = .ok (.ifCond .ne 22, 3) := by decide +kernel
theorem dX12_expression_191 : decode cX12_expression 191 = .ok (.aload_n 0, 1) := by decide +kernel
theorem dX12_expression_192 : decode cX12_expression 192 = .ok (.getfield 245, 3) := by decide +kernel
theorem dX12_expression_195 : decode cX12_expression 195 = .ok (.iload_n 1, 1) := by decide +kernel
theorem dX12_expression_196 : decode cX12_expression 196 = .ok (.if_icmp .le 8, 3) := by decide +kernel
theorem dX12_expression_199 : decode cX12_expression 199 = .ok (.aload_n 0, 1) := by decide +kernel
theorem dX12_expression_200 : decode cX12_expression 200 = .ok (.iconst 1, 1) := by decide +kernel
theorem dX12_expression_201 : decode cX12_expression 201 = .ok (.invokevirtual 233, 3) := by decide +kernel
theorem dX12_expression_204 : decode cX12_expression 204 = .ok (.aload_n 0, 1) := by decide +kernel
theorem dX12_expression_205 : decode cX12_expression 205 = .ok (.iconst 0, 1) := by decide +kernel
theorem dX12_expression_206 : decode cX12_expression 206 = .ok (.invokevirtual 330, 3) := by decide +kernel
theorem dX12_expression_209 : decode cX12_expression 209 = .ok (.return_, 1) := by decide +kernel
theorem dX12_expression_210 : decode cX12_expression 210 = .ok (.aload_n 0, 1) := by decide +kernel
theorem dX12_expression_211 : decode cX12_expression 211 = .ok (.aload_n 0, 1) := by decide +kernel
theorem dX12_expression_212 : decode cX12_expression 212 = .ok (.bipush 10, 2) := by decide +kernel
theorem dX12_expression_214 : decode cX12_expression 214 = .ok (.invokevirtual 236, 3) := by decide +kernel
theorem dX12_expression_217 : decode cX12_expression 217 = .ok (.ifCond .ne 12, 3) := by decide +kernel
theorem dX12_expression_220 : decode cX12_expression 220 = .ok (.aload_n 0, 1) := by decide +kernel
theorem dX12_expression_221 : decode cX12_expression 221 = .ok (.bipush 15, 2) := by decide +kernel
theorem dX12_expression_223 : decode cX12_expression 223 = .ok (.invokevirtual 236, 3) := by decide +kernel
theorem dX12_expression_226 : decode cX12_expression 226 = .ok (.ifCond .eq 7, 3) := by decide +kernel
theorem dX12_expression_229 : decode cX12_expression 229 = .ok (.iconst 1, 1) := by decide +kernel
theorem dX12_expression_230 : decode cX12_expression 230 = .ok (.goto 4, 3) := by decide +kernel
theorem dX12_expression_233 : decode cX12_expression 233 = .ok (.iconst 0, 1) := by decide +kernel
theorem dX12_expression_234 : decode cX12_expression 234 = .ok (.invokevirtual 330, 3) := by decide +kernel
theorem dX12_expression_237 : decode cX12_expression 237 = .ok (.aload_n 0, 1) := by decide +kernel
theorem dX12_expression_238 : decode cX12_expression 238 = .ok (.getfield 131, 3) := by decide +kernel
theorem dX12_expression_241 : decode cX12_expression 241 = .ok (.aload_n 0, 1) := by decide +kernel
theorem dX12_expression_242 : decode cX12_expression 242 = .ok (.getfield 321, 3) := by decide +kernel
theorem dX12_expression_245 : decode cX12_expression 245 = .ok (.aload_n 0, 1) := by decide +kernel
theorem dX12_expression_246 : decode cX12_expression 246 = .ok (.getfield 20, 3) := by decide +kernel
theorem dX12_expression_249 : decode cX12_expression 249 = .ok (.aload_n 0, 1) := by decide +kernel
theorem dX12_expression_250 : decode cX12_expression 250 = .ok (.getfield 221, 3) := by decide +kernel
theorem dX12_expression_253 : decode cX12_expression 253 = .ok (.iaload, 1) := by decide +kernel
theorem dX12_expression_254 : decode cX12_expression 254 = .ok (.iastore, 1) := by decide +kernel
theorem dX12_expression_255 : decode cX12_expression 255 = .ok (.aload_n 0, 1) := by decide +kernel
theorem dX12_expression_256 : decode cX12_expression 256 = .ok (.dup, 1) := by decide +kernel
theorem dX12_expression_257 : decode cX12_expression 257 = .ok (.getfield 321, 3) := by decide +kernel
theorem dX12_expression_260 : decode cX12_expression 260 = .ok (.iconst 1, 1) := by decide +kernel
theorem dX12_expression_261 : decode cX12_expression 261 = .ok (.iadd, 1) := by decide +kernel
theorem dX12_expression_262 : decode cX12_expression 262 = .ok (.putfield 321, 3) := by decide +kernel
theorem dX12_expression_265 : decode cX12_expression 265 = .ok (.aload_n 0, 1) := by decide +kernel
theorem dX12_expression_266 : decode cX12_expression 266 = .ok (.invokevirtual 239, 3) := by decide +kernel
theorem dX12_expression_269 : decode cX12_expression 269 = .ok (.goto (-257), 3) := by decide +kernel
theorem dX12_expression_272 : decode cX12_expression 272 = .ok (.return_, 1) := by decide +kernel
theorem dX12_unit_0 : decode cX12_unit 0 = .ok (.aload_n 0, 1) := by decide +kernel
theorem dX12_unit_1 : decode cX12_unit 1 = .ok (.iconst 2, 1) := by decide +kernel
theorem dX12_unit_2 : decode cX12_unit 2 = .ok (.invokevirtual 236, 3) := by decide +kernel
theorem dX12_unit_5 : decode cX12_unit 5 = .ok (.ifCond .eq 24, 3) := by decide +kernel
theorem dX12_unit_8 : decode cX12_unit 8 = .ok (.aload_n 0, 1) := by decide +kernel
theorem dX12_unit_9 : decode cX12_unit 9 = .ok (.iconst 0, 1) := by decide +kernel
theorem dX12_unit_10 : decode cX12_unit 10 = .ok (.aload_n 0, 1) := by decide +kernel
theorem dX12_unit_11 : decode cX12_unit 11 = .ok (.getfield 27, 3) := by decide +kernel
theorem dX12_unit_14 : decode cX12_unit 14 = .ok (.aload_n 0, 1) := by decide +kernel
theorem dX12_unit_15 : decode cX12_unit 15 = .ok (.getfield 221, 3) := by decide +kernel
theorem dX12_unit_18 : decode cX12_unit 18 = .ok (.iaload, 1) := by decide +kernel
theorem dX12_unit_19 : decode cX12_unit 19 = .ok (.invokevirtual 324, 3) := by decide +kernel
theorem dX12_unit_22 : decode cX12_unit 22 = .ok (.aload_n 0, 1) := by decide +kernel
theorem dX12_unit_23 : decode cX12_unit 23 = .ok (.invokevirtual 239, 3) := by decide +kernel
theorem dX12_unit_26 : decode cX12_unit 26 = .ok (.goto 67, 3) := by decide +kernel
theorem dX12_unit_29 : decode cX12_unit 29 = .ok (.aload_n 0, 1) := by decide +kernel
theorem dX12_unit_30 : decode cX12_unit 30 = .ok (.getfield 218, 3) := by decide +kernel
theorem dX12_unit_33 : decode cX12_unit 33 = .ok (.ifCond .ne 55, 3) := by decide +kernel
theorem dX12_unit_36 : decode cX12_unit 36 = .ok (.aload_n 0, 1) := by decide +kernel
theorem dX12_unit_37 : decode cX12_unit 37 = .ok (.getfield 20, 3) := by decide +kernel
theorem dX12_unit_40 : decode cX12_unit 40 = .ok (.aload_n 0, 1) := by decide +kernel
theorem dX12_unit_41 : decode cX12_unit 41 = .ok (.getfield 221, 3) := by decide +kernel
theorem dX12_unit_44 : decode cX12_unit 44 = .ok (.iaload, 1) := by decide +kernel
theorem dX12_unit_45 : decode cX12_unit 45 = .ok (.bipush 31, 2) := by decide +kernel
theorem dX12_unit_47 : decode cX12_unit 47 = .ok (.if_icmp .lt 41, 3) := by decide +kernel
theorem dX12_unit_50 : decode cX12_unit 50 = .ok (.aload_n 0, 1) := by decide +kernel
theorem dX12_unit_51 : decode cX12_unit 51 = .ok (.getfield 20, 3) := by decide +kernel
theorem dX12_unit_54 : decode cX12_unit 54 = .ok (.aload_n 0, 1) := by decide +kernel
theorem dX12_unit_55 : decode cX12_unit 55 = .ok (.getfield 221, 3) := by decide +kernel
theorem dX12_unit_58 : decode cX12_unit 58 = .ok (.iaload, 1) := by decide +kernel
theorem dX12_unit_59 : decode cX12_unit 59 = .ok (.bipush 36, 2) := by decide +kernel
theorem dX12_unit_61 : decode cX12_unit 61 = .ok (.if_icmp .gt 27, 3) := by decide +kernel
theorem dX12_unit_64 : decode cX12_unit 64 = .ok (.aload_n 0, 1) := by decide +kernel
theorem dX12_unit_65 : decode cX12_unit 65 = .ok (.iconst 1, 1) := by decide +kernel
theorem dX12_unit_66 : decode cX12_unit 66 = .ok (.aload_n 0, 1) := by decide +kernel
theorem dX12_unit_67 : decode cX12_unit 67 = .ok (.getfield 20, 3) := by decide +kernel
theorem dX12_unit_70 : decode cX12_unit 70 = .ok (.aload_n 0, 1) := by decide +kernel
theorem dX12_unit_71 : decode cX12_unit 71 = .ok (.getfield 221, 3) := by decide +kernel
theorem dX12_unit_74 : decode cX12_unit 74 = .ok (.iaload, 1) := by decide +kernel
theorem dX12_unit_75 : decode cX12_unit 75 = .ok (.bipush 31, 2) := by decide +kernel
theorem dX12_unit_77 : decode cX12_unit 77 = .ok (.isub, 1) := by decide +kernel
theorem dX12_unit_78 : decode cX12_unit 78 = .ok (.invokevirtual 324, 3) := by decide +kernel
theorem dX12_unit_81 : decode cX12_unit 81 = .ok (.aload_n 0, 1) := by decide +kernel
theorem dX12_unit_82 : decode cX12_unit 82 = .ok (.invokevirtual 239, 3) := by decide +kernel
theorem dX12_unit_85 : decode cX12_unit 85 = .ok (.goto 8, 3) := by decide +kernel
theorem dX12_unit_88 : decode cX12_unit 88 = .ok (.aload_n 0, 1) := by decide +kernel
theorem dX12_unit_89 : decode cX12_unit 89 = .ok (.iconst 1, 1) := by decide +kernel
theorem dX12_unit_90 : decode cX12_unit 90 = .ok (.invokevirtual 233, 3) := by decide +kernel
theorem dX12_unit_93 : decode cX12_unit 93 = .ok (.return_, 1) := by decide +kernel
theorem dX12_termOf_0 : decode cX12_termOf 0 = .ok (.iconst 0, 1) := by decide +kernel
theorem dX12_termOf_1 : decode cX12_termOf 1 = .ok (.istore_n 3, 1) := by decide +kernel
theorem dX12_termOf_2 : decode cX12_termOf 2 = .ok (.iload_n 1, 1) := by decide +kernel
theorem dX12_termOf_3 : decode cX12_termOf 3 = .ok (.istore 4, 2) := by decide +kernel
theorem dX12_termOf_5 : decode cX12_termOf 5 = .ok (.iload 4, 2) := by decide +kernel
theorem dX12_termOf_7 : decode cX12_termOf 7 = .ok (.iload_n 2, 1) := by decide +kernel
theorem dX12_termOf_8 : decode cX12_termOf 8 = .ok (.if_icmp .ge 157, 3) := by decide +kernel
theorem dX12_termOf_11 : decode cX12_termOf 11 = .ok (.aload_n 0, 1) := by decide +kernel
theorem dX12_termOf_12 : decode cX12_termOf 12 = .ok (.getfield 125, 3) := by decide +kernel
theorem dX12_termOf_15 : decode cX12_termOf 15 = .ok (.iload 4, 2) := by decide +kernel
theorem dX12_termOf_17 : decode cX12_termOf 17 = .ok (.iaload, 1) := by decide +kernel
theorem dX12_termOf_18 : decode cX12_termOf 18 = .ok (.istore 5, 2) := by decide +kernel
theorem dX12_termOf_20 : decode cX12_termOf 20 = .ok (.iload 5, 2) := by decide +kernel
theorem dX12_termOf_22 : decode cX12_termOf 22 = .ok (.iconst 2, 1) := by decide +kernel
theorem dX12_termOf_23 : decode cX12_termOf 23 = .ok (.if_icmp .ge 42, 3) := by decide +kernel
theorem dX12_termOf_26 : decode cX12_termOf 26 = .ok (.aload_n 0, 1) := by decide +kernel
theorem dX12_termOf_27 : decode cX12_termOf 27 = .ok (.getfield 137, 3) := by decide +kernel
theorem dX12_termOf_30 : decode cX12_termOf 30 = .ok (.iload_n 3, 1) := by decide +kernel
theorem dX12_termOf_31 : decode cX12_termOf 31 = .ok (.iload 5, 2) := by decide +kernel
theorem dX12_termOf_33 : decode cX12_termOf 33 = .ok (.ifCond .ne 13, 3) := by decide +kernel
theorem dX12_termOf_36 : decode cX12_termOf 36 = .ok (.aload_n 0, 1) := by decide +kernel
theorem dX12_termOf_37 : decode cX12_termOf 37 = .ok (.getfield 128, 3) := by decide +kernel
theorem dX12_termOf_40 : decode cX12_termOf 40 = .ok (.iload 4, 2) := by decide +kernel
theorem dX12_termOf_42 : decode cX12_termOf 42 = .ok (.iaload, 1) := by decide +kernel
theorem dX12_termOf_43 : decode cX12_termOf 43 = .ok (.goto 15, 3) := by decide +kernel
theorem dX12_termOf_46 : decode cX12_termOf 46 = .ok (.aload_n 0, 1) := by decide +kernel
theorem dX12_termOf_47 : decode cX12_termOf 47 = .ok (.getfield 134, 3) := by decide +kernel
theorem dX12_termOf_50 : decode cX12_termOf 50 = .ok (.aload_n 0, 1) := by decide +kernel
theorem dX12_termOf_51 : decode cX12_termOf 51 = .ok (.getfield 128, 3) := by decide +kernel
theorem dX12_termOf_54 : decode cX12_termOf 54 = .ok (.iload 4, 2) := by decide +kernel
theorem dX12_termOf_56 : decode cX12_termOf 56 = .ok (.iaload, 1) := by decide +kernel
theorem dX12_termOf_57 : decode cX12_termOf 57 = .ok (.iaload, 1) := by decide +kernel
theorem dX12_termOf_58 : decode cX12_termOf 58 = .ok (.iastore, 1) := by decide +kernel
theorem dX12_termOf_59 : decode cX12_termOf 59 = .ok (.iinc 3 1, 3) := by decide +kernel
theorem dX12_termOf_62 : decode cX12_termOf 62 = .ok (.goto 97, 3) := by decide +kernel
theorem dX12_termOf_65 : decode cX12_termOf 65 = .ok (.iinc 3 (-1), 3) := by decide +kernel
theorem dX12_termOf_68 : decode cX12_termOf 68 = .ok (.aload_n 0, 1) := by decide +kernel
theorem dX12_termOf_69 : decode cX12_termOf 69 = .ok (.getfield 137, 3) := by decide +kernel
theorem dX12_termOf_72 : decode cX12_termOf 72 = .ok (.iload_n 3, 1) := by decide +kernel
theorem dX12_termOf_73 : decode cX12_termOf 73 = .ok (.iconst 1, 1) := by decide +kernel
theorem dX12_termOf_74 : decode cX12_termOf 74 = .ok (.isub, 1) := by decide +kernel
theorem dX12_termOf_75 : decode cX12_termOf 75 = .ok (.iaload, 1) := by decide +kernel
theorem dX12_termOf_76 : decode cX12_termOf 76 = .ok (.istore 6, 2) := by decide +kernel
theorem dX12_termOf_78 : decode cX12_termOf 78 = .ok (.aload_n 0, 1) := by decide +kernel
theorem dX12_termOf_79 : decode cX12_termOf 79 = .ok (.getfield 137, 3) := by decide +kernel
theorem dX12_termOf_82 : decode cX12_termOf 82 = .ok (.iload_n 3, 1) := by decide +kernel
theorem dX12_termOf_83 : decode cX12_termOf 83 = .ok (.iaload, 1) := by decide +kernel
theorem dX12_termOf_84 : decode cX12_termOf 84 = .ok (.istore 7, 2) := by decide +kernel
theorem dX12_termOf_86 : decode cX12_termOf 86 = .ok (.iload 5, 2) := by decide +kernel
theorem dX12_termOf_88 : decode cX12_termOf 88 = .ok (.iconst 5, 1) := by decide +kernel
theorem dX12_termOf_89 : decode cX12_termOf 89 = .ok (.if_icmp .ne 15, 3) := by decide +kernel
theorem dX12_termOf_92 : decode cX12_termOf 92 = .ok (.iload 7, 2) := by decide +kernel
theorem dX12_termOf_94 : decode cX12_termOf 94 = .ok (.ifCond .ne 10, 3) := by decide +kernel
theorem dX12_termOf_97 : decode cX12_termOf 97 = .ok (.aload_n 0, 1) := by decide +kernel
theorem dX12_termOf_98 : decode cX12_termOf 98 = .ok (.iconst 1, 1) := by decide +kernel
theorem dX12_termOf_99 : decode cX12_termOf 99 = .ok (.putfield 334, 3) := by decide +kernel
theorem dX12_termOf_102 : decode cX12_termOf 102 = .ok (.iconst 0, 1) := by decide +kernel
theorem dX12_termOf_103 : decode cX12_termOf 103 = .ok (.ireturn, 1) := by decide +kernel
theorem dX12_termOf_104 : decode cX12_termOf 104 = .ok (.aload_n 0, 1) := by decide +kernel
theorem dX12_termOf_105 : decode cX12_termOf 105 = .ok (.getfield 137, 3) := by decide +kernel
theorem dX12_termOf_108 : decode cX12_termOf 108 = .ok (.iload_n 3, 1) := by decide +kernel
theorem dX12_termOf_109 : decode cX12_termOf 109 = .ok (.iconst 1, 1) := by decide +kernel
theorem dX12_termOf_110 : decode cX12_termOf 110 = .ok (.isub, 1) := by decide +kernel
theorem dX12_termOf_111 : decode cX12_termOf 111 = .ok (.iload 5, 2) := by decide +kernel
theorem dX12_termOf_113 : decode cX12_termOf 113 = .ok (.iconst 2, 1) := by decide +kernel
theorem dX12_termOf_114 : decode cX12_termOf 114 = .ok (.if_icmp .ne 11, 3) := by decide +kernel
theorem dX12_termOf_117 : decode cX12_termOf 117 = .ok (.iload 6, 2) := by decide +kernel
theorem dX12_termOf_119 : decode cX12_termOf 119 = .ok (.iload 7, 2) := by decide +kernel
theorem dX12_termOf_121 : decode cX12_termOf 121 = .ok (.iadd, 1) := by decide +kernel
theorem dX12_termOf_122 : decode cX12_termOf 122 = .ok (.goto 36, 3) := by decide +kernel
theorem dX12_termOf_125 : decode cX12_termOf 125 = .ok (.iload 5, 2) := by decide +kernel
theorem dX12_termOf_127 : decode cX12_termOf 127 = .ok (.iconst 3, 1) := by decide +kernel
theorem dX12_termOf_128 : decode cX12_termOf 128 = .ok (.if_icmp .ne 11, 3) := by decide +kernel
theorem dX12_termOf_131 : decode cX12_termOf 131 = .ok (.iload 6, 2) := by decide +kernel
theorem dX12_termOf_133 : decode cX12_termOf 133 = .ok (.iload 7, 2) := by decide +kernel
theorem dX12_termOf_135 : decode cX12_termOf 135 = .ok (.isub, 1) := by decide +kernel
theorem dX12_termOf_136 : decode cX12_termOf 136 = .ok (.goto 22, 3) := by decide +kernel
theorem dX12_termOf_139 : decode cX12_termOf 139 = .ok (.iload 5, 2) := by decide +kernel
theorem dX12_termOf_141 : decode cX12_termOf 141 = .ok (.iconst 4, 1) := by decide +kernel
theorem dX12_termOf_142 : decode cX12_termOf 142 = .ok (.if_icmp .ne 11, 3) := by decide +kernel
theorem dX12_termOf_145 : decode cX12_termOf 145 = .ok (.iload 6, 2) := by decide +kernel
theorem dX12_termOf_147 : decode cX12_termOf 147 = .ok (.iload 7, 2) := by decide +kernel
theorem dX12_termOf_149 : decode cX12_termOf 149 = .ok (.imul, 1) := by decide +kernel
theorem dX12_termOf_150 : decode cX12_termOf 150 = .ok (.goto 8, 3) := by decide +kernel
theorem dX12_termOf_153 : decode cX12_termOf 153 = .ok (.iload 6, 2) := by decide +kernel
theorem dX12_termOf_155 : decode cX12_termOf 155 = .ok (.iload 7, 2) := by decide +kernel
theorem dX12_termOf_157 : decode cX12_termOf 157 = .ok (.idiv, 1) := by decide +kernel
theorem dX12_termOf_158 : decode cX12_termOf 158 = .ok (.iastore, 1) := by decide +kernel
theorem dX12_termOf_159 : decode cX12_termOf 159 = .ok (.iinc 4 1, 3) := by decide +kernel
theorem dX12_termOf_162 : decode cX12_termOf 162 = .ok (.goto (-157), 3) := by decide +kernel
theorem dX12_termOf_165 : decode cX12_termOf 165 = .ok (.aload_n 0, 1) := by decide +kernel
theorem dX12_termOf_166 : decode cX12_termOf 166 = .ok (.getfield 137, 3) := by decide +kernel
theorem dX12_termOf_169 : decode cX12_termOf 169 = .ok (.iconst 0, 1) := by decide +kernel
theorem dX12_termOf_170 : decode cX12_termOf 170 = .ok (.iaload, 1) := by decide +kernel
theorem dX12_termOf_171 : decode cX12_termOf 171 = .ok (.ireturn, 1) := by decide +kernel
theorem dX12_in_0 : decode cX12_in 0 = .ok (.iload_n 0, 1) := by decide +kernel
theorem dX12_in_1 : decode cX12_in 1 = .ok (.iload_n 1, 1) := by decide +kernel
theorem dX12_in_2 : decode cX12_in 2 = .ok (.if_icmp .lt 12, 3) := by decide +kernel
theorem dX12_in_5 : decode cX12_in 5 = .ok (.iload_n 0, 1) := by decide +kernel
theorem dX12_in_6 : decode cX12_in 6 = .ok (.iload_n 2, 1) := by decide +kernel
theorem dX12_in_7 : decode cX12_in 7 = .ok (.if_icmp .gt 7, 3) := by decide +kernel
theorem dX12_in_10 : decode cX12_in 10 = .ok (.iconst 1, 1) := by decide +kernel
theorem dX12_in_11 : decode cX12_in 11 = .ok (.goto 4, 3) := by decide +kernel
theorem dX12_in_14 : decode cX12_in 14 = .ok (.iconst 0, 1) := by decide +kernel
theorem dX12_in_15 : decode cX12_in 15 = .ok (.ireturn, 1) := by decide +kernel
theorem dX12_isHeir_0 : decode cX12_isHeir 0 = .ok (.iload_n 1, 1) := by decide +kernel
theorem dX12_isHeir_1 : decode cX12_isHeir 1 = .ok (.iconst 0, 1) := by decide +kernel
theorem dX12_isHeir_2 : decode cX12_isHeir 2 = .ok (.aload_n 0, 1) := by decide +kernel
theorem dX12_isHeir_3 : decode cX12_isHeir 3 = .ok (.getfield 58, 3) := by decide +kernel
theorem dX12_isHeir_6 : decode cX12_isHeir 6 = .ok (.aload_n 0, 1) := by decide +kernel
theorem dX12_isHeir_7 : decode cX12_isHeir 7 = .ok (.getfield 248, 3) := by decide +kernel
theorem dX12_isHeir_10 : decode cX12_isHeir 10 = .ok (.iaload, 1) := by decide +kernel
theorem dX12_isHeir_11 : decode cX12_isHeir 11 = .ok (.iconst 1, 1) := by decide +kernel
theorem dX12_isHeir_12 : decode cX12_isHeir 12 = .ok (.isub, 1) := by decide +kernel
theorem dX12_isHeir_13 : decode cX12_isHeir 13 = .ok (.invokestatic 338, 3) := by decide +kernel
theorem dX12_isHeir_16 : decode cX12_isHeir 16 = .ok (.ireturn, 1) := by decide +kernel
theorem dX12_isWater_0 : decode cX12_isWater 0 = .ok (.iload_n 1, 1) := by decide +kernel
theorem dX12_isWater_1 : decode cX12_isWater 1 = .ok (.iconst 0, 1) := by decide +kernel
theorem dX12_isWater_2 : decode cX12_isWater 2 = .ok (.aload_n 0, 1) := by decide +kernel
theorem dX12_isWater_3 : decode cX12_isWater 3 = .ok (.getfield 49, 3) := by decide +kernel
theorem dX12_isWater_6 : decode cX12_isWater 6 = .ok (.aload_n 0, 1) := by decide +kernel
theorem dX12_isWater_7 : decode cX12_isWater 7 = .ok (.getfield 248, 3) := by decide +kernel
theorem dX12_isWater_10 : decode cX12_isWater 10 = .ok (.iaload, 1) := by decide +kernel
theorem dX12_isWater_11 : decode cX12_isWater 11 = .ok (.iconst 1, 1) := by decide +kernel
theorem dX12_isWater_12 : decode cX12_isWater 12 = .ok (.isub, 1) := by decide +kernel
theorem dX12_isWater_13 : decode cX12_isWater 13 = .ok (.invokestatic 338, 3) := by decide +kernel
theorem dX12_isWater_16 : decode cX12_isWater 16 = .ok (.ireturn, 1) := by decide +kernel
theorem dX12_begins_0 : decode cX12_begins 0 = .ok (.iconst 0, 1) := by decide +kernel
theorem dX12_begins_1 : decode cX12_begins 1 = .ok (.istore_n 1, 1) := by decide +kernel
theorem dX12_begins_2 : decode cX12_begins 2 = .ok (.iload_n 1, 1) := by decide +kernel
theorem dX12_begins_3 : decode cX12_begins 3 = .ok (.bipush 80, 2) := by decide +kernel
theorem dX12_begins_5 : decode cX12_begins 5 = .ok (.if_icmp .ge 16, 3) := by decide +kernel
theorem dX12_begins_8 : decode cX12_begins 8 = .ok (.aload_n 0, 1) := by decide +kernel
theorem dX12_begins_9 : decode cX12_begins 9 = .ok (.getfield 143, 3) := by decide +kernel
theorem dX12_begins_12 : decode cX12_begins 12 = .ok (.iload_n 1, 1) := by decide +kernel
theorem dX12_begins_13 : decode cX12_begins 13 = .ok (.iconst 0, 1) := by decide +kernel
theorem dX12_begins_14 : decode cX12_begins 14 = .ok (.iastore, 1) := by decide +kernel
theorem dX12_begins_15 : decode cX12_begins 15 = .ok (.iinc 1 1, 3) := by decide +kernel
theorem dX12_begins_18 : decode cX12_begins 18 = .ok (.goto (-16), 3) := by decide +kernel
theorem dX12_begins_21 : decode cX12_begins 21 = .ok (.iconst 0, 1) := by decide +kernel
theorem dX12_begins_22 : decode cX12_begins 22 = .ok (.istore_n 1, 1) := by decide +kernel
theorem dX12_begins_23 : decode cX12_begins 23 = .ok (.iload_n 1, 1) := by decide +kernel
theorem dX12_begins_24 : decode cX12_begins 24 = .ok (.aload_n 0, 1) := by decide +kernel
theorem dX12_begins_25 : decode cX12_begins 25 = .ok (.getfield 58, 3) := by decide +kernel
theorem dX12_begins_28 : decode cX12_begins 28 = .ok (.aload_n 0, 1) := by decide +kernel
theorem dX12_begins_29 : decode cX12_begins 29 = .ok (.getfield 248, 3) := by decide +kernel
theorem dX12_begins_32 : decode cX12_begins 32 = .ok (.iaload, 1) := by decide +kernel
theorem dX12_begins_33 : decode cX12_begins 33 = .ok (.if_icmp .ge 32, 3) := by decide +kernel
theorem dX12_begins_36 : decode cX12_begins 36 = .ok (.aload_n 0, 1) := by decide +kernel
theorem dX12_begins_37 : decode cX12_begins 37 = .ok (.getfield 143, 3) := by decide +kernel
theorem dX12_begins_40 : decode cX12_begins 40 = .ok (.bipush 48, 2) := by decide +kernel
theorem dX12_begins_42 : decode cX12_begins 42 = .ok (.iload_n 1, 1) := by decide +kernel
theorem dX12_begins_43 : decode cX12_begins 43 = .ok (.iadd, 1) := by decide +kernel
theorem dX12_begins_44 : decode cX12_begins 44 = .ok (.aload_n 0, 1) := by decide +kernel
theorem dX12_begins_45 : decode cX12_begins 45 = .ok (.getfield 61, 3) := by decide +kernel
theorem dX12_begins_48 : decode cX12_begins 48 = .ok (.bipush 8, 2) := by decide +kernel
theorem dX12_begins_50 : decode cX12_begins 50 = .ok (.aload_n 0, 1) := by decide +kernel
theorem dX12_begins_51 : decode cX12_begins 51 = .ok (.getfield 248, 3) := by decide +kernel
theorem dX12_begins_54 : decode cX12_begins 54 = .ok (.imul, 1) := by decide +kernel
theorem dX12_begins_55 : decode cX12_begins 55 = .ok (.iload_n 1, 1) := by decide +kernel
theorem dX12_begins_56 : decode cX12_begins 56 = .ok (.iadd, 1) := by decide +kernel
theorem dX12_begins_57 : decode cX12_begins 57 = .ok (.iaload, 1) := by decide +kernel
theorem dX12_begins_58 : decode cX12_begins 58 = .ok (.iastore, 1) := by decide +kernel
theorem dX12_begins_59 : decode cX12_begins 59 = .ok (.iinc 1 1, 3) := by decide +kernel
theorem dX12_begins_62 : decode cX12_begins 62 = .ok (.goto (-39), 3) := by decide +kernel
theorem dX12_begins_65 : decode cX12_begins 65 = .ok (.aload_n 0, 1) := by decide +kernel
theorem dX12_begins_66 : decode cX12_begins 66 = .ok (.iconst (-1), 1) := by decide +kernel
theorem dX12_begins_67 : decode cX12_begins 67 = .ok (.putfield 342, 3) := by decide +kernel
theorem dX12_begins_70 : decode cX12_begins 70 = .ok (.aload_n 0, 1) := by decide +kernel
theorem dX12_begins_71 : decode cX12_begins 71 = .ok (.iconst (-1), 1) := by decide +kernel
theorem dX12_begins_72 : decode cX12_begins 72 = .ok (.putfield 345, 3) := by decide +kernel
theorem dX12_begins_75 : decode cX12_begins 75 = .ok (.return_, 1) := by decide +kernel
theorem dX12_copies_0 : decode cX12_copies 0 = .ok (.iconst 0, 1) := by decide +kernel
theorem dX12_copies_1 : decode cX12_copies 1 = .ok (.istore_n 1, 1) := by decide +kernel
theorem dX12_copies_2 : decode cX12_copies 2 = .ok (.iload_n 1, 1) := by decide +kernel
theorem dX12_copies_3 : decode cX12_copies 3 = .ok (.bipush 80, 2) := by decide +kernel
theorem dX12_copies_5 : decode cX12_copies 5 = .ok (.if_icmp .ge 21, 3) := by decide +kernel
theorem dX12_copies_8 : decode cX12_copies 8 = .ok (.aload_n 0, 1) := by decide +kernel
theorem dX12_copies_9 : decode cX12_copies 9 = .ok (.getfield 143, 3) := by decide +kernel
theorem dX12_copies_12 : decode cX12_copies 12 = .ok (.iload_n 1, 1) := by decide +kernel
theorem dX12_copies_13 : decode cX12_copies 13 = .ok (.aload_n 0, 1) := by decide +kernel
theorem dX12_copies_14 : decode cX12_copies 14 = .ok (.getfield 140, 3) := by decide +kernel
theorem dX12_copies_17 : decode cX12_copies 17 = .ok (.iload_n 1, 1) := by decide +kernel
theorem dX12_copies_18 : decode cX12_copies 18 = .ok (.iaload, 1) := by decide +kernel
theorem dX12_copies_19 : decode cX12_copies 19 = .ok (.iastore, 1) := by decide +kernel
theorem dX12_copies_20 : decode cX12_copies 20 = .ok (.iinc 1 1, 3) := by decide +kernel
theorem dX12_copies_23 : decode cX12_copies 23 = .ok (.goto (-21), 3) := by decide +kernel
theorem dX12_copies_26 : decode cX12_copies 26 = .ok (.aload_n 0, 1) := by decide +kernel
theorem dX12_copies_27 : decode cX12_copies 27 = .ok (.iconst (-1), 1) := by decide +kernel
theorem dX12_copies_28 : decode cX12_copies 28 = .ok (.putfield 342, 3) := by decide +kernel
theorem dX12_copies_31 : decode cX12_copies 31 = .ok (.aload_n 0, 1) := by decide +kernel
theorem dX12_copies_32 : decode cX12_copies 32 = .ok (.iconst (-1), 1) := by decide +kernel
theorem dX12_copies_33 : decode cX12_copies 33 = .ok (.putfield 345, 3) := by decide +kernel
theorem dX12_copies_36 : decode cX12_copies 36 = .ok (.return_, 1) := by decide +kernel
theorem dX12_dropsOf_0 : decode cX12_dropsOf 0 = .ok (.iconst 0, 1) := by decide +kernel
theorem dX12_dropsOf_1 : decode cX12_dropsOf 1 = .ok (.istore_n 2, 1) := by decide +kernel
theorem dX12_dropsOf_2 : decode cX12_dropsOf 2 = .ok (.iconst 0, 1) := by decide +kernel
theorem dX12_dropsOf_3 : decode cX12_dropsOf 3 = .ok (.istore_n 3, 1) := by decide +kernel
theorem dX12_dropsOf_4 : decode cX12_dropsOf 4 = .ok (.iload_n 3, 1) := by decide +kernel
theorem dX12_dropsOf_5 : decode cX12_dropsOf 5 = .ok (.iconst 5, 1) := by decide +kernel
theorem dX12_dropsOf_6 : decode cX12_dropsOf 6 = .ok (.if_icmp .ge 22, 3) := by decide +kernel
theorem dX12_dropsOf_9 : decode cX12_dropsOf 9 = .ok (.iload_n 2, 1) := by decide +kernel
theorem dX12_dropsOf_10 : decode cX12_dropsOf 10 = .ok (.aload_n 0, 1) := by decide +kernel
theorem dX12_dropsOf_11 : decode cX12_dropsOf 11 = .ok (.getfield 143, 3) := by decide +kernel
theorem dX12_dropsOf_14 : decode cX12_dropsOf 14 = .ok (.iconst 5, 1) := by decide +kernel
theorem dX12_dropsOf_15 : decode cX12_dropsOf 15 = .ok (.iload_n 1, 1) := by decide +kernel
theorem dX12_dropsOf_16 : decode cX12_dropsOf 16 = .ok (.imul, 1) := by decide +kernel
theorem dX12_dropsOf_17 : decode cX12_dropsOf 17 = .ok (.iload_n 3, 1) := by decide +kernel
theorem dX12_dropsOf_18 : decode cX12_dropsOf 18 = .ok (.iadd, 1) := by decide +kernel
theorem dX12_dropsOf_19 : decode cX12_dropsOf 19 = .ok (.iaload, 1) := by decide +kernel
theorem dX12_dropsOf_20 : decode cX12_dropsOf 20 = .ok (.iadd, 1) := by decide +kernel
theorem dX12_dropsOf_21 : decode cX12_dropsOf 21 = .ok (.istore_n 2, 1) := by decide +kernel
theorem dX12_dropsOf_22 : decode cX12_dropsOf 22 = .ok (.iinc 3 1, 3) := by decide +kernel
theorem dX12_dropsOf_25 : decode cX12_dropsOf 25 = .ok (.goto (-21), 3) := by decide +kernel
theorem dX12_dropsOf_28 : decode cX12_dropsOf 28 = .ok (.iload_n 2, 1) := by decide +kernel
theorem dX12_dropsOf_29 : decode cX12_dropsOf 29 = .ok (.ireturn, 1) := by decide +kernel
theorem dX12_allDrops_0 : decode cX12_allDrops 0 = .ok (.iconst 0, 1) := by decide +kernel
theorem dX12_allDrops_1 : decode cX12_allDrops 1 = .ok (.istore_n 1, 1) := by decide +kernel
theorem dX12_allDrops_2 : decode cX12_allDrops 2 = .ok (.iconst 0, 1) := by decide +kernel
theorem dX12_allDrops_3 : decode cX12_allDrops 3 = .ok (.istore_n 2, 1) := by decide +kernel
theorem dX12_allDrops_4 : decode cX12_allDrops 4 = .ok (.iload_n 2, 1) := by decide +kernel
theorem dX12_allDrops_5 : decode cX12_allDrops 5 = .ok (.bipush 40, 2) := by decide +kernel
theorem dX12_allDrops_7 : decode cX12_allDrops 7 = .ok (.if_icmp .ge 18, 3) := by decide +kernel
theorem dX12_allDrops_10 : decode cX12_allDrops 10 = .ok (.iload_n 1, 1) := by decide +kernel
theorem dX12_allDrops_11 : decode cX12_allDrops 11 = .ok (.aload_n 0, 1) := by decide +kernel
theorem dX12_allDrops_12 : decode cX12_allDrops 12 = .ok (.getfield 143, 3) := by decide +kernel
theorem dX12_allDrops_15 : decode cX12_allDrops 15 = .ok (.iload_n 2, 1) := by decide +kernel
theorem dX12_allDrops_16 : decode cX12_allDrops 16 = .ok (.iaload, 1) := by decide +kernel
theorem dX12_allDrops_17 : decode cX12_allDrops 17 = .ok (.iadd, 1) := by decide +kernel
theorem dX12_allDrops_18 : decode cX12_allDrops 18 = .ok (.istore_n 1, 1) := by decide +kernel
theorem dX12_allDrops_19 : decode cX12_allDrops 19 = .ok (.iinc 2 1, 3) := by decide +kernel
theorem dX12_allDrops_22 : decode cX12_allDrops 22 = .ok (.goto (-18), 3) := by decide +kernel
theorem dX12_allDrops_25 : decode cX12_allDrops 25 = .ok (.iload_n 1, 1) := by decide +kernel
theorem dX12_allDrops_26 : decode cX12_allDrops 26 = .ok (.ireturn, 1) := by decide +kernel
theorem dX12_sumOn_0 : decode cX12_sumOn 0 = .ok (.iconst 0, 1) := by decide +kernel
theorem dX12_sumOn_1 : decode cX12_sumOn 1 = .ok (.istore_n 2, 1) := by decide +kernel
theorem dX12_sumOn_2 : decode cX12_sumOn 2 = .ok (.iconst 0, 1) := by decide +kernel
theorem dX12_sumOn_3 : decode cX12_sumOn 3 = .ok (.istore_n 3, 1) := by decide +kernel
theorem dX12_sumOn_4 : decode cX12_sumOn 4 = .ok (.iload_n 3, 1) := by decide +kernel
theorem dX12_sumOn_5 : decode cX12_sumOn 5 = .ok (.bipush 8, 2) := by decide +kernel
theorem dX12_sumOn_7 : decode cX12_sumOn 7 = .ok (.if_icmp .ge 20, 3) := by decide +kernel
theorem dX12_sumOn_10 : decode cX12_sumOn 10 = .ok (.iload_n 2, 1) := by decide +kernel
theorem dX12_sumOn_11 : decode cX12_sumOn 11 = .ok (.aload_n 0, 1) := by decide +kernel
theorem dX12_sumOn_12 : decode cX12_sumOn 12 = .ok (.getfield 143, 3) := by decide +kernel
theorem dX12_sumOn_15 : decode cX12_sumOn 15 = .ok (.iload_n 1, 1) := by decide +kernel
theorem dX12_sumOn_16 : decode cX12_sumOn 16 = .ok (.iload_n 3, 1) := by decide +kernel
theorem dX12_sumOn_17 : decode cX12_sumOn 17 = .ok (.iadd, 1) := by decide +kernel
theorem dX12_sumOn_18 : decode cX12_sumOn 18 = .ok (.iaload, 1) := by decide +kernel
theorem dX12_sumOn_19 : decode cX12_sumOn 19 = .ok (.iadd, 1) := by decide +kernel
theorem dX12_sumOn_20 : decode cX12_sumOn 20 = .ok (.istore_n 2, 1) := by decide +kernel
theorem dX12_sumOn_21 : decode cX12_sumOn 21 = .ok (.iinc 3 1, 3) := by decide +kernel
theorem dX12_sumOn_24 : decode cX12_sumOn 24 = .ok (.goto (-20), 3) := by decide +kernel
theorem dX12_sumOn_27 : decode cX12_sumOn 27 = .ok (.iload_n 2, 1) := by decide +kernel
theorem dX12_sumOn_28 : decode cX12_sumOn 28 = .ok (.ireturn, 1) := by decide +kernel
theorem dX12_mixed_0 : decode cX12_mixed 0 = .ok (.iload_n 0, 1) := by decide +kernel
theorem dX12_mixed_1 : decode cX12_mixed 1 = .ok (.iload_n 1, 1) := by decide +kernel
theorem dX12_mixed_2 : decode cX12_mixed 2 = .ok (.ixor, 1) := by decide +kernel
theorem dX12_mixed_3 : decode cX12_mixed 3 = .ok (.ldc_w 348, 3) := by decide +kernel
theorem dX12_mixed_6 : decode cX12_mixed 6 = .ok (.imul, 1) := by decide +kernel
theorem dX12_mixed_7 : decode cX12_mixed 7 = .ok (.sipush 12345, 3) := by decide +kernel
theorem dX12_mixed_10 : decode cX12_mixed 10 = .ok (.iadd, 1) := by decide +kernel
theorem dX12_mixed_11 : decode cX12_mixed 11 = .ok (.istore_n 2, 1) := by decide +kernel
theorem dX12_mixed_12 : decode cX12_mixed 12 = .ok (.iload_n 2, 1) := by decide +kernel
theorem dX12_mixed_13 : decode cX12_mixed 13 = .ok (.iload_n 2, 1) := by decide +kernel
theorem dX12_mixed_14 : decode cX12_mixed 14 = .ok (.bipush 15, 2) := by decide +kernel
theorem dX12_mixed_16 : decode cX12_mixed 16 = .ok (.iushr, 1) := by decide +kernel
theorem dX12_mixed_17 : decode cX12_mixed 17 = .ok (.ixor, 1) := by decide +kernel
theorem dX12_mixed_18 : decode cX12_mixed 18 = .ok (.ireturn, 1) := by decide +kernel
theorem dX12_lot_0 : decode cX12_lot 0 = .ok (.iload_n 0, 1) := by decide +kernel
theorem dX12_lot_1 : decode cX12_lot 1 = .ok (.bipush 24, 2) := by decide +kernel
theorem dX12_lot_3 : decode cX12_lot 3 = .ok (.invokestatic 349, 3) := by decide +kernel
theorem dX12_lot_6 : decode cX12_lot 6 = .ok (.iload_n 1, 1) := by decide +kernel
theorem dX12_lot_7 : decode cX12_lot 7 = .ok (.invokestatic 349, 3) := by decide +kernel
theorem dX12_lot_10 : decode cX12_lot 10 = .ok (.iconst 1, 1) := by decide +kernel
theorem dX12_lot_11 : decode cX12_lot 11 = .ok (.iushr, 1) := by decide +kernel
theorem dX12_lot_12 : decode cX12_lot 12 = .ok (.iload_n 2, 1) := by decide +kernel
theorem dX12_lot_13 : decode cX12_lot 13 = .ok (.irem, 1) := by decide +kernel
theorem dX12_lot_14 : decode cX12_lot 14 = .ok (.ireturn, 1) := by decide +kernel
theorem dX12_tellsBy_0 : decode cX12_tellsBy 0 = .ok (.aload_n 0, 1) := by decide +kernel
theorem dX12_tellsBy_1 : decode cX12_tellsBy 1 = .ok (.getfield 103, 3) := by decide +kernel
theorem dX12_tellsBy_4 : decode cX12_tellsBy 4 = .ok (.bipush 17, 2) := by decide +kernel
theorem dX12_tellsBy_6 : decode cX12_tellsBy 6 = .ok (.aload_n 0, 1) := by decide +kernel
theorem dX12_tellsBy_7 : decode cX12_tellsBy 7 = .ok (.getfield 248, 3) := by decide +kernel
theorem dX12_tellsBy_10 : decode cX12_tellsBy 10 = .ok (.imul, 1) := by decide +kernel
theorem dX12_tellsBy_11 : decode cX12_tellsBy 11 = .ok (.iload_n 1, 1) := by decide +kernel
theorem dX12_tellsBy_12 : decode cX12_tellsBy 12 = .ok (.iadd, 1) := by decide +kernel
theorem dX12_tellsBy_13 : decode cX12_tellsBy 13 = .ok (.iaload, 1) := by decide +kernel
theorem dX12_tellsBy_14 : decode cX12_tellsBy 14 = .ok (.istore 6, 2) := by decide +kernel
theorem dX12_tellsBy_16 : decode cX12_tellsBy 16 = .ok (.aload_n 0, 1) := by decide +kernel
theorem dX12_tellsBy_17 : decode cX12_tellsBy 17 = .ok (.getfield 106, 3) := by decide +kernel
theorem dX12_tellsBy_20 : decode cX12_tellsBy 20 = .ok (.bipush 17, 2) := by decide +kernel
theorem dX12_tellsBy_22 : decode cX12_tellsBy 22 = .ok (.aload_n 0, 1) := by decide +kernel
theorem dX12_tellsBy_23 : decode cX12_tellsBy 23 = .ok (.getfield 248, 3) := by decide +kernel
theorem dX12_tellsBy_26 : decode cX12_tellsBy 26 = .ok (.imul, 1) := by decide +kernel
theorem dX12_tellsBy_27 : decode cX12_tellsBy 27 = .ok (.iload_n 1, 1) := by decide +kernel
theorem dX12_tellsBy_28 : decode cX12_tellsBy 28 = .ok (.iadd, 1) := by decide +kernel
theorem dX12_tellsBy_29 : decode cX12_tellsBy 29 = .ok (.iaload, 1) := by decide +kernel
theorem dX12_tellsBy_30 : decode cX12_tellsBy 30 = .ok (.istore 7, 2) := by decide +kernel
theorem dX12_tellsBy_32 : decode cX12_tellsBy 32 = .ok (.aload_n 0, 1) := by decide +kernel
theorem dX12_tellsBy_33 : decode cX12_tellsBy 33 = .ok (.getfield 134, 3) := by decide +kernel
theorem dX12_tellsBy_36 : decode cX12_tellsBy 36 = .ok (.iconst 0, 1) := by decide +kernel
theorem dX12_tellsBy_37 : decode cX12_tellsBy 37 = .ok (.aload_n 0, 1) := by decide +kernel
theorem dX12_tellsBy_38 : decode cX12_tellsBy 38 = .ok (.getfield 143, 3) := by decide +kernel
theorem dX12_tellsBy_41 : decode cX12_tellsBy 41 = .ok (.bipush 64, 2) := by decide +kernel
theorem dX12_tellsBy_43 : decode cX12_tellsBy 43 = .ok (.iaload, 1) := by decide +kernel
theorem dX12_tellsBy_44 : decode cX12_tellsBy 44 = .ok (.iastore, 1) := by decide +kernel
theorem dX12_tellsBy_45 : decode cX12_tellsBy 45 = .ok (.aload_n 0, 1) := by decide +kernel
theorem dX12_tellsBy_46 : decode cX12_tellsBy 46 = .ok (.getfield 134, 3) := by decide +kernel
theorem dX12_tellsBy_49 : decode cX12_tellsBy 49 = .ok (.iconst 1, 1) := by decide +kernel
theorem dX12_tellsBy_50 : decode cX12_tellsBy 50 = .ok (.aload_n 0, 1) := by decide +kernel
theorem dX12_tellsBy_51 : decode cX12_tellsBy 51 = .ok (.invokevirtual 352, 3) := by decide +kernel
theorem dX12_tellsBy_54 : decode cX12_tellsBy 54 = .ok (.iastore, 1) := by decide +kernel
theorem dX12_tellsBy_55 : decode cX12_tellsBy 55 = .ok (.aload_n 0, 1) := by decide +kernel
theorem dX12_tellsBy_56 : decode cX12_tellsBy 56 = .ok (.getfield 134, 3) := by decide +kernel
theorem dX12_tellsBy_59 : decode cX12_tellsBy 59 = .ok (.iconst 2, 1) := by decide +kernel
theorem dX12_tellsBy_60 : decode cX12_tellsBy 60 = .ok (.aload_n 0, 1) := by decide +kernel
theorem dX12_tellsBy_61 : decode cX12_tellsBy 61 = .ok (.getfield 143, 3) := by decide +kernel
theorem dX12_tellsBy_64 : decode cX12_tellsBy 64 = .ok (.bipush 65, 2) := by decide +kernel
theorem dX12_tellsBy_66 : decode cX12_tellsBy 66 = .ok (.iaload, 1) := by decide +kernel
theorem dX12_tellsBy_67 : decode cX12_tellsBy 67 = .ok (.iastore, 1) := by decide +kernel
theorem dX12_tellsBy_68 : decode cX12_tellsBy 68 = .ok (.aload_n 0, 1) := by decide +kernel
theorem dX12_tellsBy_69 : decode cX12_tellsBy 69 = .ok (.getfield 134, 3) := by decide +kernel
theorem dX12_tellsBy_72 : decode cX12_tellsBy 72 = .ok (.iconst 3, 1) := by decide +kernel
theorem dX12_tellsBy_73 : decode cX12_tellsBy 73 = .ok (.iload_n 2, 1) := by decide +kernel
theorem dX12_tellsBy_74 : decode cX12_tellsBy 74 = .ok (.iastore, 1) := by decide +kernel
theorem dX12_tellsBy_75 : decode cX12_tellsBy 75 = .ok (.aload_n 0, 1) := by decide +kernel
theorem dX12_tellsBy_76 : decode cX12_tellsBy 76 = .ok (.getfield 134, 3) := by decide +kernel
theorem dX12_tellsBy_79 : decode cX12_tellsBy 79 = .ok (.iconst 4, 1) := by decide +kernel
theorem dX12_tellsBy_80 : decode cX12_tellsBy 80 = .ok (.iload_n 3, 1) := by decide +kernel
theorem dX12_tellsBy_81 : decode cX12_tellsBy 81 = .ok (.iastore, 1) := by decide +kernel
theorem dX12_tellsBy_82 : decode cX12_tellsBy 82 = .ok (.aload_n 0, 1) := by decide +kernel
theorem dX12_tellsBy_83 : decode cX12_tellsBy 83 = .ok (.getfield 134, 3) := by decide +kernel
theorem dX12_tellsBy_86 : decode cX12_tellsBy 86 = .ok (.iconst 5, 1) := by decide +kernel
theorem dX12_tellsBy_87 : decode cX12_tellsBy 87 = .ok (.aload_n 0, 1) := by decide +kernel
theorem dX12_tellsBy_88 : decode cX12_tellsBy 88 = .ok (.getfield 100, 3) := by decide +kernel
theorem dX12_tellsBy_91 : decode cX12_tellsBy 91 = .ok (.aload_n 0, 1) := by decide +kernel
theorem dX12_tellsBy_92 : decode cX12_tellsBy 92 = .ok (.getfield 248, 3) := by decide +kernel
theorem dX12_tellsBy_95 : decode cX12_tellsBy 95 = .ok (.iaload, 1) := by decide +kernel
theorem dX12_tellsBy_96 : decode cX12_tellsBy 96 = .ok (.bipush 20, 2) := by decide +kernel
theorem dX12_tellsBy_98 : decode cX12_tellsBy 98 = .ok (.aload_n 0, 1) := by decide +kernel
theorem dX12_tellsBy_99 : decode cX12_tellsBy 99 = .ok (.getfield 143, 3) := by decide +kernel
theorem dX12_tellsBy_102 : decode cX12_tellsBy 102 = .ok (.bipush 64, 2) := by decide +kernel
theorem dX12_tellsBy_104 : decode cX12_tellsBy 104 = .ok (.iaload, 1) := by decide +kernel
theorem dX12_tellsBy_105 : decode cX12_tellsBy 105 = .ok (.imul, 1) := by decide +kernel
theorem dX12_tellsBy_106 : decode cX12_tellsBy 106 = .ok (.iload 4, 2) := by decide +kernel
theorem dX12_tellsBy_108 : decode cX12_tellsBy 108 = .ok (.iadd, 1) := by decide +kernel
theorem dX12_tellsBy_109 : decode cX12_tellsBy 109 = .ok (.sipush 1000, 3) := by decide +kernel
theorem dX12_tellsBy_112 : decode cX12_tellsBy 112 = .ok (.invokestatic 355, 3) := by decide +kernel
theorem dX12_tellsBy_115 : decode cX12_tellsBy 115 = .ok (.iastore, 1) := by decide +kernel
theorem dX12_tellsBy_116 : decode cX12_tellsBy 116 = .ok (.aload_n 0, 1) := by decide +kernel
theorem dX12_tellsBy_117 : decode cX12_tellsBy 117 = .ok (.iconst 0, 1) := by decide +kernel
theorem dX12_tellsBy_118 : decode cX12_tellsBy 118 = .ok (.putfield 334, 3) := by decide +kernel
theorem dX12_tellsBy_121 : decode cX12_tellsBy 121 = .ok (.iload 6, 2) := by decide +kernel
theorem dX12_tellsBy_123 : decode cX12_tellsBy 123 = .ok (.istore 8, 2) := by decide +kernel
theorem dX12_tellsBy_125 : decode cX12_tellsBy 125 = .ok (.iload 8, 2) := by decide +kernel
theorem dX12_tellsBy_127 : decode cX12_tellsBy 127 = .ok (.iload 7, 2) := by decide +kernel
theorem dX12_tellsBy_129 : decode cX12_tellsBy 129 = .ok (.if_icmp .ge 129, 3) := by decide +kernel
theorem dX12_tellsBy_132 : decode cX12_tellsBy 132 = .ok (.aload_n 0, 1) := by decide +kernel
theorem dX12_tellsBy_133 : decode cX12_tellsBy 133 = .ok (.getfield 109, 3) := by decide +kernel
theorem dX12_tellsBy_136 : decode cX12_tellsBy 136 = .ok (.iload 8, 2) := by decide +kernel
theorem dX12_tellsBy_138 : decode cX12_tellsBy 138 = .ok (.baload, 1) := by decide +kernel
theorem dX12_tellsBy_139 : decode cX12_tellsBy 139 = .ok (.ifCond .eq 62, 3) := by decide +kernel
theorem dX12_tellsBy_142 : decode cX12_tellsBy 142 = .ok (.aload_n 0, 1) := by decide +kernel
theorem dX12_tellsBy_143 : decode cX12_tellsBy 143 = .ok (.aload_n 0, 1) := by decide +kernel
theorem dX12_tellsBy_144 : decode cX12_tellsBy 144 = .ok (.getfield 113, 3) := by decide +kernel
theorem dX12_tellsBy_147 : decode cX12_tellsBy 147 = .ok (.iload 8, 2) := by decide +kernel
theorem dX12_tellsBy_149 : decode cX12_tellsBy 149 = .ok (.iaload, 1) := by decide +kernel
theorem dX12_tellsBy_150 : decode cX12_tellsBy 150 = .ok (.aload_n 0, 1) := by decide +kernel
theorem dX12_tellsBy_151 : decode cX12_tellsBy 151 = .ok (.getfield 116, 3) := by decide +kernel
theorem dX12_tellsBy_154 : decode cX12_tellsBy 154 = .ok (.iload 8, 2) := by decide +kernel
theorem dX12_tellsBy_156 : decode cX12_tellsBy 156 = .ok (.iaload, 1) := by decide +kernel
theorem dX12_tellsBy_157 : decode cX12_tellsBy 157 = .ok (.invokevirtual 358, 3) := by decide +kernel
theorem dX12_tellsBy_160 : decode cX12_tellsBy 160 = .ok (.istore 9, 2) := by decide +kernel
theorem dX12_tellsBy_162 : decode cX12_tellsBy 162 = .ok (.aload_n 0, 1) := by decide +kernel
theorem dX12_tellsBy_163 : decode cX12_tellsBy 163 = .ok (.aload_n 0, 1) := by decide +kernel
theorem dX12_tellsBy_164 : decode cX12_tellsBy 164 = .ok (.getfield 116, 3) := by decide +kernel
theorem dX12_tellsBy_167 : decode cX12_tellsBy 167 = .ok (.iload 8, 2) := by decide +kernel
theorem dX12_tellsBy_169 : decode cX12_tellsBy 169 = .ok (.iaload, 1) := by decide +kernel
theorem dX12_tellsBy_170 : decode cX12_tellsBy 170 = .ok (.aload_n 0, 1) := by decide +kernel
theorem dX12_tellsBy_171 : decode cX12_tellsBy 171 = .ok (.getfield 119, 3) := by decide +kernel
theorem dX12_tellsBy_174 : decode cX12_tellsBy 174 = .ok (.iload 8, 2) := by decide +kernel
theorem dX12_tellsBy_176 : decode cX12_tellsBy 176 = .ok (.iaload, 1) := by decide +kernel
theorem dX12_tellsBy_177 : decode cX12_tellsBy 177 = .ok (.invokevirtual 358, 3) := by decide +kernel
theorem dX12_tellsBy_180 : decode cX12_tellsBy 180 = .ok (.istore 10, 2) := by decide +kernel
theorem dX12_tellsBy_182 : decode cX12_tellsBy 182 = .ok (.aload_n 0, 1) := by decide +kernel
theorem dX12_tellsBy_183 : decode cX12_tellsBy 183 = .ok (.getfield 334, 3) := by decide +kernel
theorem dX12_tellsBy_186 : decode cX12_tellsBy 186 = .ok (.ifCond .eq 5, 3) := by decide +kernel
theorem dX12_tellsBy_189 : decode cX12_tellsBy 189 = .ok (.iconst 0, 1) := by decide +kernel
theorem dX12_tellsBy_190 : decode cX12_tellsBy 190 = .ok (.ireturn, 1) := by decide +kernel
theorem dX12_tellsBy_191 : decode cX12_tellsBy 191 = .ok (.iload 9, 2) := by decide +kernel
theorem dX12_tellsBy_193 : decode cX12_tellsBy 193 = .ok (.iload 10, 2) := by decide +kernel
theorem dX12_tellsBy_195 : decode cX12_tellsBy 195 = .ok (.if_icmp .lt 6, 3) := by decide +kernel
theorem dX12_tellsBy_198 : decode cX12_tellsBy 198 = .ok (.goto 54, 3) := by decide +kernel
theorem dX12_tellsBy_201 : decode cX12_tellsBy 201 = .ok (.aload_n 0, 1) := by decide +kernel
theorem dX12_tellsBy_202 : decode cX12_tellsBy 202 = .ok (.aload_n 0, 1) := by decide +kernel
theorem dX12_tellsBy_203 : decode cX12_tellsBy 203 = .ok (.getfield 119, 3) := by decide +kernel
theorem dX12_tellsBy_206 : decode cX12_tellsBy 206 = .ok (.iload 8, 2) := by decide +kernel
theorem dX12_tellsBy_208 : decode cX12_tellsBy 208 = .ok (.iaload, 1) := by decide +kernel
theorem dX12_tellsBy_209 : decode cX12_tellsBy 209 = .ok (.aload_n 0, 1) := by decide +kernel
theorem dX12_tellsBy_210 : decode cX12_tellsBy 210 = .ok (.getfield 122, 3) := by decide +kernel
theorem dX12_tellsBy_213 : decode cX12_tellsBy 213 = .ok (.iload 8, 2) := by decide +kernel
theorem dX12_tellsBy_215 : decode cX12_tellsBy 215 = .ok (.iaload, 1) := by decide +kernel
theorem dX12_tellsBy_216 : decode cX12_tellsBy 216 = .ok (.invokevirtual 358, 3) := by decide +kernel
theorem dX12_tellsBy_219 : decode cX12_tellsBy 219 = .ok (.istore 9, 2) := by decide +kernel
theorem dX12_tellsBy_221 : decode cX12_tellsBy 221 = .ok (.aload_n 0, 1) := by decide +kernel
theorem dX12_tellsBy_222 : decode cX12_tellsBy 222 = .ok (.getfield 334, 3) := by decide +kernel
theorem dX12_tellsBy_225 : decode cX12_tellsBy 225 = .ok (.ifCond .ne 8, 3) := by decide +kernel
theorem dX12_tellsBy_228 : decode cX12_tellsBy 228 = .ok (.iload 9, 2) := by decide +kernel
theorem dX12_tellsBy_230 : decode cX12_tellsBy 230 = .ok (.ifCond .ge 7, 3) := by decide +kernel
theorem dX12_tellsBy_233 : decode cX12_tellsBy 233 = .ok (.iconst 0, 1) := by decide +kernel
theorem dX12_tellsBy_234 : decode cX12_tellsBy 234 = .ok (.goto 17, 3) := by decide +kernel
theorem dX12_tellsBy_237 : decode cX12_tellsBy 237 = .ok (.iload 9, 2) := by decide +kernel
theorem dX12_tellsBy_239 : decode cX12_tellsBy 239 = .ok (.iload 5, 2) := by decide +kernel
theorem dX12_tellsBy_241 : decode cX12_tellsBy 241 = .ok (.if_icmp .le 8, 3) := by decide +kernel
theorem dX12_tellsBy_244 : decode cX12_tellsBy 244 = .ok (.iload 5, 2) := by decide +kernel
theorem dX12_tellsBy_246 : decode cX12_tellsBy 246 = .ok (.goto 5, 3) := by decide +kernel
theorem dX12_tellsBy_249 : decode cX12_tellsBy 249 = .ok (.iload 9, 2) := by decide +kernel
theorem dX12_tellsBy_251 : decode cX12_tellsBy 251 = .ok (.ireturn, 1) := by decide +kernel
theorem dX12_tellsBy_252 : decode cX12_tellsBy 252 = .ok (.iinc 8 1, 3) := by decide +kernel
theorem dX12_tellsBy_255 : decode cX12_tellsBy 255 = .ok (.goto (-130), 3) := by decide +kernel
theorem dX12_tellsBy_258 : decode cX12_tellsBy 258 = .ok (.iconst 0, 1) := by decide +kernel
theorem dX12_tellsBy_259 : decode cX12_tellsBy 259 = .ok (.ireturn, 1) := by decide +kernel
theorem dX12_tellsNow_0 : decode cX12_tellsNow 0 = .ok (.aload_n 0, 1) := by decide +kernel
theorem dX12_tellsNow_1 : decode cX12_tellsNow 1 = .ok (.getfield 76, 3) := by decide +kernel
theorem dX12_tellsNow_4 : decode cX12_tellsNow 4 = .ok (.bipush 16, 2) := by decide +kernel
theorem dX12_tellsNow_6 : decode cX12_tellsNow 6 = .ok (.aload_n 0, 1) := by decide +kernel
theorem dX12_tellsNow_7 : decode cX12_tellsNow 7 = .ok (.getfield 248, 3) := by decide +kernel
theorem dX12_tellsNow_10 : decode cX12_tellsNow 10 = .ok (.imul, 1) := by decide +kernel
theorem dX12_tellsNow_11 : decode cX12_tellsNow 11 = .ok (.iload_n 1, 1) := by decide +kernel
theorem dX12_tellsNow_12 : decode cX12_tellsNow 12 = .ok (.iadd, 1) := by decide +kernel
theorem dX12_tellsNow_13 : decode cX12_tellsNow 13 = .ok (.iaload, 1) := by decide +kernel
theorem dX12_tellsNow_14 : decode cX12_tellsNow 14 = .ok (.istore_n 2, 1) := by decide +kernel
theorem dX12_tellsNow_15 : decode cX12_tellsNow 15 = .ok (.iload_n 2, 1) := by decide +kernel
theorem dX12_tellsNow_16 : decode cX12_tellsNow 16 = .ok (.aload_n 0, 1) := by decide +kernel
theorem dX12_tellsNow_17 : decode cX12_tellsNow 17 = .ok (.getfield 342, 3) := by decide +kernel
theorem dX12_tellsNow_20 : decode cX12_tellsNow 20 = .ok (.if_icmp .ne 27, 3) := by decide +kernel
theorem dX12_tellsNow_23 : decode cX12_tellsNow 23 = .ok (.aload_n 0, 1) := by decide +kernel
theorem dX12_tellsNow_24 : decode cX12_tellsNow 24 = .ok (.getfield 345, 3) := by decide +kernel
theorem dX12_tellsNow_27 : decode cX12_tellsNow 27 = .ok (.iconst (-1), 1) := by decide +kernel
theorem dX12_tellsNow_28 : decode cX12_tellsNow 28 = .ok (.if_icmp .eq 17, 3) := by decide +kernel
theorem dX12_tellsNow_31 : decode cX12_tellsNow 31 = .ok (.aload_n 0, 1) := by decide +kernel
theorem dX12_tellsNow_32 : decode cX12_tellsNow 32 = .ok (.getfield 345, 3) := by decide +kernel
theorem dX12_tellsNow_35 : decode cX12_tellsNow 35 = .ok (.aload_n 0, 1) := by decide +kernel
theorem dX12_tellsNow_36 : decode cX12_tellsNow 36 = .ok (.getfield 143, 3) := by decide +kernel
theorem dX12_tellsNow_39 : decode cX12_tellsNow 39 = .ok (.bipush 64, 2) := by decide +kernel
theorem dX12_tellsNow_41 : decode cX12_tellsNow 41 = .ok (.iaload, 1) := by decide +kernel
theorem dX12_tellsNow_42 : decode cX12_tellsNow 42 = .ok (.if_icmp .ne 5, 3) := by decide +kernel
theorem dX12_tellsNow_45 : decode cX12_tellsNow 45 = .ok (.iconst 0, 1) := by decide +kernel
theorem dX12_tellsNow_46 : decode cX12_tellsNow 46 = .ok (.ireturn, 1) := by decide +kernel
theorem dX12_tellsNow_47 : decode cX12_tellsNow 47 = .ok (.aload_n 0, 1) := by decide +kernel
theorem dX12_tellsNow_48 : decode cX12_tellsNow 48 = .ok (.iload_n 1, 1) := by decide +kernel
theorem dX12_tellsNow_49 : decode cX12_tellsNow 49 = .ok (.aload_n 0, 1) := by decide +kernel
theorem dX12_tellsNow_50 : decode cX12_tellsNow 50 = .ok (.getfield 143, 3) := by decide +kernel
theorem dX12_tellsNow_53 : decode cX12_tellsNow 53 = .ok (.bipush 48, 2) := by decide +kernel
theorem dX12_tellsNow_55 : decode cX12_tellsNow 55 = .ok (.iload_n 2, 1) := by decide +kernel
theorem dX12_tellsNow_56 : decode cX12_tellsNow 56 = .ok (.iadd, 1) := by decide +kernel
theorem dX12_tellsNow_57 : decode cX12_tellsNow 57 = .ok (.iaload, 1) := by decide +kernel
theorem dX12_tellsNow_58 : decode cX12_tellsNow 58 = .ok (.aload_n 0, 1) := by decide +kernel
theorem dX12_tellsNow_59 : decode cX12_tellsNow 59 = .ok (.getfield 143, 3) := by decide +kernel
theorem dX12_tellsNow_62 : decode cX12_tellsNow 62 = .ok (.bipush 56, 2) := by decide +kernel
theorem dX12_tellsNow_64 : decode cX12_tellsNow 64 = .ok (.iload_n 2, 1) := by decide +kernel
theorem dX12_tellsNow_65 : decode cX12_tellsNow 65 = .ok (.iadd, 1) := by decide +kernel
theorem dX12_tellsNow_66 : decode cX12_tellsNow 66 = .ok (.iaload, 1) := by decide +kernel
theorem dX12_tellsNow_67 : decode cX12_tellsNow 67 = .ok (.iload_n 1, 1) := by decide +kernel
theorem dX12_tellsNow_68 : decode cX12_tellsNow 68 = .ok (.bipush 99, 2) := by decide +kernel
theorem dX12_tellsNow_70 : decode cX12_tellsNow 70 = .ok (.invokevirtual 361, 3) := by decide +kernel
theorem dX12_tellsNow_73 : decode cX12_tellsNow 73 = .ok (.ireturn, 1) := by decide +kernel
theorem dX12_lessens_0 : decode cX12_lessens 0 = .ok (.aload_n 0, 1) := by decide +kernel
theorem dX12_lessens_1 : decode cX12_lessens 1 = .ok (.invokevirtual 352, 3) := by decide +kernel
theorem dX12_lessens_4 : decode cX12_lessens 4 = .ok (.istore_n 2, 1) := by decide +kernel
theorem dX12_lessens_5 : decode cX12_lessens 5 = .ok (.iload_n 2, 1) := by decide +kernel
theorem dX12_lessens_6 : decode cX12_lessens 6 = .ok (.ifCond .eq 7, 3) := by decide +kernel
theorem dX12_lessens_9 : decode cX12_lessens 9 = .ok (.iload_n 1, 1) := by decide +kernel
theorem dX12_lessens_10 : decode cX12_lessens 10 = .ok (.ifCond .ne 4, 3) := by decide +kernel
theorem dX12_lessens_13 : decode cX12_lessens 13 = .ok (.return_, 1) := by decide +kernel
theorem dX12_lessens_14 : decode cX12_lessens 14 = .ok (.iload_n 1, 1) := by decide +kernel
theorem dX12_lessens_15 : decode cX12_lessens 15 = .ok (.istore_n 3, 1) := by decide +kernel
theorem dX12_lessens_16 : decode cX12_lessens 16 = .ok (.iconst 0, 1) := by decide +kernel
theorem dX12_lessens_17 : decode cX12_lessens 17 = .ok (.istore 4, 2) := by decide +kernel
theorem dX12_lessens_19 : decode cX12_lessens 19 = .ok (.iload 4, 2) := by decide +kernel
theorem dX12_lessens_21 : decode cX12_lessens 21 = .ok (.bipush 40, 2) := by decide +kernel
theorem dX12_lessens_23 : decode cX12_lessens 23 = .ok (.if_icmp .ge 57, 3) := by decide +kernel
theorem dX12_lessens_26 : decode cX12_lessens 26 = .ok (.iload_n 1, 1) := by decide +kernel
theorem dX12_lessens_27 : decode cX12_lessens 27 = .ok (.i2l, 1) := by decide +kernel
theorem dX12_lessens_28 : decode cX12_lessens 28 = .ok (.aload_n 0, 1) := by decide +kernel
theorem dX12_lessens_29 : decode cX12_lessens 29 = .ok (.getfield 143, 3) := by decide +kernel
theorem dX12_lessens_32 : decode cX12_lessens 32 = .ok (.iload 4, 2) := by decide +kernel
theorem dX12_lessens_34 : decode cX12_lessens 34 = .ok (.iaload, 1) := by decide +kernel
theorem dX12_lessens_35 : decode cX12_lessens 35 = .ok (.i2l, 1) := by decide +kernel
theorem dX12_lessens_36 : decode cX12_lessens 36 = .ok (.lmul, 1) := by decide +kernel
theorem dX12_lessens_37 : decode cX12_lessens 37 = .ok (.lstore 5, 2) := by decide +kernel
theorem dX12_lessens_39 : decode cX12_lessens 39 = .ok (.aload_n 0, 1) := by decide +kernel
theorem dX12_lessens_40 : decode cX12_lessens 40 = .ok (.getfield 146, 3) := by decide +kernel
theorem dX12_lessens_43 : decode cX12_lessens 43 = .ok (.iload 4, 2) := by decide +kernel
theorem dX12_lessens_45 : decode cX12_lessens 45 = .ok (.lload 5, 2) := by decide +kernel
theorem dX12_lessens_47 : decode cX12_lessens 47 = .ok (.iload_n 2, 1) := by decide +kernel
theorem dX12_lessens_48 : decode cX12_lessens 48 = .ok (.i2l, 1) := by decide +kernel
theorem dX12_lessens_49 : decode cX12_lessens 49 = .ok (.ldiv, 1) := by decide +kernel
theorem dX12_lessens_50 : decode cX12_lessens 50 = .ok (.l2i, 1) := by decide +kernel
theorem dX12_lessens_51 : decode cX12_lessens 51 = .ok (.iastore, 1) := by decide +kernel
theorem dX12_lessens_52 : decode cX12_lessens 52 = .ok (.aload_n 0, 1) := by decide +kernel
theorem dX12_lessens_53 : decode cX12_lessens 53 = .ok (.getfield 149, 3) := by decide +kernel
theorem dX12_lessens_56 : decode cX12_lessens 56 = .ok (.iload 4, 2) := by decide +kernel
theorem dX12_lessens_58 : decode cX12_lessens 58 = .ok (.lload 5, 2) := by decide +kernel
theorem dX12_lessens_60 : decode cX12_lessens 60 = .ok (.iload_n 2, 1) := by decide +kernel
theorem dX12_lessens_61 : decode cX12_lessens 61 = .ok (.i2l, 1) := by decide +kernel
theorem dX12_lessens_62 : decode cX12_lessens 62 = .ok (.lrem, 1) := by decide +kernel
theorem dX12_lessens_63 : decode cX12_lessens 63 = .ok (.lastore, 1) := by decide +kernel
theorem dX12_lessens_64 : decode cX12_lessens 64 = .ok (.iload_n 3, 1) := by decide +kernel
theorem dX12_lessens_65 : decode cX12_lessens 65 = .ok (.aload_n 0, 1) := by decide +kernel
theorem dX12_lessens_66 : decode cX12_lessens 66 = .ok (.getfield 146, 3) := by decide +kernel
theorem dX12_lessens_69 : decode cX12_lessens 69 = .ok (.iload 4, 2) := by decide +kernel
theorem dX12_lessens_71 : decode cX12_lessens 71 = .ok (.iaload, 1) := by decide +kernel
theorem dX12_lessens_72 : decode cX12_lessens 72 = .ok (.isub, 1) := by decide +kernel
theorem dX12_lessens_73 : decode cX12_lessens 73 = .ok (.istore_n 3, 1) := by decide +kernel
theorem dX12_lessens_74 : decode cX12_lessens 74 = .ok (.iinc 4 1, 3) := by decide +kernel
theorem dX12_lessens_77 : decode cX12_lessens 77 = .ok (.goto (-58), 3) := by decide +kernel
theorem dX12_lessens_80 : decode cX12_lessens 80 = .ok (.iconst 0, 1) := by decide +kernel
theorem dX12_lessens_81 : decode cX12_lessens 81 = .ok (.istore 4, 2) := by decide +kernel
theorem dX12_lessens_83 : decode cX12_lessens 83 = .ok (.iload 4, 2) := by decide +kernel
theorem dX12_lessens_85 : decode cX12_lessens 85 = .ok (.iload_n 3, 1) := by decide +kernel
theorem dX12_lessens_86 : decode cX12_lessens 86 = .ok (.if_icmp .ge 71, 3) := by decide +kernel
theorem dX12_lessens_89 : decode cX12_lessens 89 = .ok (.iconst 0, 1) := by decide +kernel
theorem dX12_lessens_90 : decode cX12_lessens 90 = .ok (.istore 5, 2) := by decide +kernel
theorem dX12_lessens_92 : decode cX12_lessens 92 = .ok (.iconst 1, 1) := by decide +kernel
theorem dX12_lessens_93 : decode cX12_lessens 93 = .ok (.istore 6, 2) := by decide +kernel
theorem dX12_lessens_95 : decode cX12_lessens 95 = .ok (.iload 6, 2) := by decide +kernel
theorem dX12_lessens_97 : decode cX12_lessens 97 = .ok (.bipush 40, 2) := by decide +kernel
theorem dX12_lessens_99 : decode cX12_lessens 99 = .ok (.if_icmp .ge 31, 3) := by decide +kernel
theorem dX12_lessens_102 : decode cX12_lessens 102 = .ok (.aload_n 0, 1) := by decide +kernel
theorem dX12_lessens_103 : decode cX12_lessens 103 = .ok (.getfield 149, 3) := by decide +kernel
theorem dX12_lessens_106 : decode cX12_lessens 106 = .ok (.iload 6, 2) := by decide +kernel
theorem dX12_lessens_108 : decode cX12_lessens 108 = .ok (.laload, 1) := by decide +kernel
theorem dX12_lessens_109 : decode cX12_lessens 109 = .ok (.aload_n 0, 1) := by decide +kernel
theorem dX12_lessens_110 : decode cX12_lessens 110 = .ok (.getfield 149, 3) := by decide +kernel
theorem dX12_lessens_113 : decode cX12_lessens 113 = .ok (.iload 5, 2) := by decide +kernel
theorem dX12_lessens_115 : decode cX12_lessens 115 = .ok (.laload, 1) := by decide +kernel
theorem dX12_lessens_116 : decode cX12_lessens 116 = .ok (.lcmp, 1) := by decide +kernel
theorem dX12_lessens_117 : decode cX12_lessens 117 = .ok (.ifCond .le 7, 3) := by decide +kernel
theorem dX12_lessens_120 : decode cX12_lessens 120 = .ok (.iload 6, 2) := by decide +kernel
theorem dX12_lessens_122 : decode cX12_lessens 122 = .ok (.istore 5, 2) := by decide +kernel
theorem dX12_lessens_124 : decode cX12_lessens 124 = .ok (.iinc 6 1, 3) := by decide +kernel
theorem dX12_lessens_127 : decode cX12_lessens 127 = .ok (.goto (-32), 3) := by decide +kernel
theorem dX12_lessens_130 : decode cX12_lessens 130 = .ok (.aload_n 0, 1) := by decide +kernel
theorem dX12_lessens_131 : decode cX12_lessens 131 = .ok (.getfield 146, 3) := by decide +kernel
theorem dX12_lessens_134 : decode cX12_lessens 134 = .ok (.iload 5, 2) := by decide +kernel
theorem dX12_lessens_136 : decode cX12_lessens 136 = .ok (.dup2, 1) := by decide +kernel
theorem dX12_lessens_137 : decode cX12_lessens 137 = .ok (.iaload, 1) := by decide +kernel
theorem dX12_lessens_138 : decode cX12_lessens 138 = .ok (.iconst 1, 1) := by decide +kernel
theorem dX12_lessens_139 : decode cX12_lessens 139 = .ok (.iadd, 1) := by decide +kernel
theorem dX12_lessens_140 : decode cX12_lessens 140 = .ok (.iastore, 1) := by decide +kernel
theorem dX12_lessens_141 : decode cX12_lessens 141 = .ok (.aload_n 0, 1) := by decide +kernel
theorem dX12_lessens_142 : decode cX12_lessens 142 = .ok (.getfield 149, 3) := by decide +kernel
theorem dX12_lessens_145 : decode cX12_lessens 145 = .ok (.iload 5, 2) := by decide +kernel
theorem dX12_lessens_147 : decode cX12_lessens 147 = .ok (.ldc2_w 365, 3) := by decide +kernel
theorem dX12_lessens_150 : decode cX12_lessens 150 = .ok (.lastore, 1) := by decide +kernel
theorem dX12_lessens_151 : decode cX12_lessens 151 = .ok (.iinc 4 1, 3) := by decide +kernel
theorem dX12_lessens_154 : decode cX12_lessens 154 = .ok (.goto (-71), 3) := by decide +kernel
theorem dX12_lessens_157 : decode cX12_lessens 157 = .ok (.iconst 0, 1) := by decide +kernel
theorem dX12_lessens_158 : decode cX12_lessens 158 = .ok (.istore 4, 2) := by decide +kernel
theorem dX12_lessens_160 : decode cX12_lessens 160 = .ok (.iload 4, 2) := by decide +kernel
theorem dX12_lessens_162 : decode cX12_lessens 162 = .ok (.bipush 40, 2) := by decide +kernel
theorem dX12_lessens_164 : decode cX12_lessens 164 = .ok (.if_icmp .ge 26, 3) := by decide +kernel
theorem dX12_lessens_167 : decode cX12_lessens 167 = .ok (.aload_n 0, 1) := by decide +kernel
theorem dX12_lessens_168 : decode cX12_lessens 168 = .ok (.getfield 143, 3) := by decide +kernel
theorem dX12_lessens_171 : decode cX12_lessens 171 = .ok (.iload 4, 2) := by decide +kernel
theorem dX12_lessens_173 : decode cX12_lessens 173 = .ok (.dup2, 1) := by decide +kernel
theorem dX12_lessens_174 : decode cX12_lessens 174 = .ok (.iaload, 1) := by decide +kernel
theorem dX12_lessens_175 : decode cX12_lessens 175 = .ok (.aload_n 0, 1) := by decide +kernel
theorem dX12_lessens_176 : decode cX12_lessens 176 = .ok (.getfield 146, 3) := by decide +kernel
theorem dX12_lessens_179 : decode cX12_lessens 179 = .ok (.iload 4, 2) := by decide +kernel
theorem dX12_lessens_181 : decode cX12_lessens 181 = .ok (.iaload, 1) := by decide +kernel
theorem dX12_lessens_182 : decode cX12_lessens 182 = .ok (.isub, 1) := by decide +kernel
theorem dX12_lessens_183 : decode cX12_lessens 183 = .ok (.iastore, 1) := by decide +kernel
theorem dX12_lessens_184 : decode cX12_lessens 184 = .ok (.iinc 4 1, 3) := by decide +kernel
theorem dX12_lessens_187 : decode cX12_lessens 187 = .ok (.goto (-27), 3) := by decide +kernel
theorem dX12_lessens_190 : decode cX12_lessens 190 = .ok (.return_, 1) := by decide +kernel
theorem dX12_weekGoes_0 : decode cX12_weekGoes 0 = .ok (.iconst 0, 1) := by decide +kernel
theorem dX12_weekGoes_1 : decode cX12_weekGoes 1 = .ok (.istore_n 1, 1) := by decide +kernel
theorem dX12_weekGoes_2 : decode cX12_weekGoes 2 = .ok (.iload_n 1, 1) := by decide +kernel
theorem dX12_weekGoes_3 : decode cX12_weekGoes 3 = .ok (.aload_n 0, 1) := by decide +kernel
theorem dX12_weekGoes_4 : decode cX12_weekGoes 4 = .ok (.getfield 73, 3) := by decide +kernel
theorem dX12_weekGoes_7 : decode cX12_weekGoes 7 = .ok (.aload_n 0, 1) := by decide +kernel
theorem dX12_weekGoes_8 : decode cX12_weekGoes 8 = .ok (.getfield 248, 3) := by decide +kernel
theorem dX12_weekGoes_11 : decode cX12_weekGoes 11 = .ok (.iaload, 1) := by decide +kernel
theorem dX12_weekGoes_12 : decode cX12_weekGoes 12 = .ok (.if_icmp .ge 173, 3) := by decide +kernel
theorem dX12_weekGoes_15 : decode cX12_weekGoes 15 = .ok (.aload_n 0, 1) := by decide +kernel
theorem dX12_weekGoes_16 : decode cX12_weekGoes 16 = .ok (.getfield 76, 3) := by decide +kernel
theorem dX12_weekGoes_19 : decode cX12_weekGoes 19 = .ok (.bipush 16, 2) := by decide +kernel
theorem dX12_weekGoes_21 : decode cX12_weekGoes 21 = .ok (.aload_n 0, 1) := by decide +kernel
theorem dX12_weekGoes_22 : decode cX12_weekGoes 22 = .ok (.getfield 248, 3) := by decide +kernel
theorem dX12_weekGoes_25 : decode cX12_weekGoes 25 = .ok (.imul, 1) := by decide +kernel
theorem dX12_weekGoes_26 : decode cX12_weekGoes 26 = .ok (.iload_n 1, 1) := by decide +kernel
theorem dX12_weekGoes_27 : decode cX12_weekGoes 27 = .ok (.iadd, 1) := by decide +kernel
theorem dX12_weekGoes_28 : decode cX12_weekGoes 28 = .ok (.iaload, 1) := by decide +kernel
theorem dX12_weekGoes_29 : decode cX12_weekGoes 29 = .ok (.istore_n 2, 1) := by decide +kernel
theorem dX12_weekGoes_30 : decode cX12_weekGoes 30 = .ok (.aload_n 0, 1) := by decide +kernel
theorem dX12_weekGoes_31 : decode cX12_weekGoes 31 = .ok (.getfield 79, 3) := by decide +kernel
theorem dX12_weekGoes_34 : decode cX12_weekGoes 34 = .ok (.bipush 16, 2) := by decide +kernel
theorem dX12_weekGoes_36 : decode cX12_weekGoes 36 = .ok (.aload_n 0, 1) := by decide +kernel
theorem dX12_weekGoes_37 : decode cX12_weekGoes 37 = .ok (.getfield 248, 3) := by decide +kernel
theorem dX12_weekGoes_40 : decode cX12_weekGoes 40 = .ok (.imul, 1) := by decide +kernel
theorem dX12_weekGoes_41 : decode cX12_weekGoes 41 = .ok (.iload_n 1, 1) := by decide +kernel
theorem dX12_weekGoes_42 : decode cX12_weekGoes 42 = .ok (.iadd, 1) := by decide +kernel
theorem dX12_weekGoes_43 : decode cX12_weekGoes 43 = .ok (.iaload, 1) := by decide +kernel
theorem dX12_weekGoes_44 : decode cX12_weekGoes 44 = .ok (.istore_n 3, 1) := by decide +kernel
theorem dX12_weekGoes_45 : decode cX12_weekGoes 45 = .ok (.aload_n 0, 1) := by decide +kernel
theorem dX12_weekGoes_46 : decode cX12_weekGoes 46 = .ok (.iload_n 1, 1) := by decide +kernel
theorem dX12_weekGoes_47 : decode cX12_weekGoes 47 = .ok (.invokevirtual 367, 3) := by decide +kernel
theorem dX12_weekGoes_50 : decode cX12_weekGoes 50 = .ok (.istore 4, 2) := by decide +kernel
theorem dX12_weekGoes_52 : decode cX12_weekGoes 52 = .ok (.aload_n 0, 1) := by decide +kernel
theorem dX12_weekGoes_53 : decode cX12_weekGoes 53 = .ok (.getfield 97, 3) := by decide +kernel
theorem dX12_weekGoes_56 : decode cX12_weekGoes 56 = .ok (.aload_n 0, 1) := by decide +kernel
theorem dX12_weekGoes_57 : decode cX12_weekGoes 57 = .ok (.getfield 248, 3) := by decide +kernel
theorem dX12_weekGoes_60 : decode cX12_weekGoes 60 = .ok (.iaload, 1) := by decide +kernel
theorem dX12_weekGoes_61 : decode cX12_weekGoes 61 = .ok (.aload_n 0, 1) := by decide +kernel
theorem dX12_weekGoes_62 : decode cX12_weekGoes 62 = .ok (.invokevirtual 352, 3) := by decide +kernel
theorem dX12_weekGoes_65 : decode cX12_weekGoes 65 = .ok (.isub, 1) := by decide +kernel
theorem dX12_weekGoes_66 : decode cX12_weekGoes 66 = .ok (.istore 5, 2) := by decide +kernel
theorem dX12_weekGoes_68 : decode cX12_weekGoes 68 = .ok (.iload 4, 2) := by decide +kernel
theorem dX12_weekGoes_70 : decode cX12_weekGoes 70 = .ok (.iload 5, 2) := by decide +kernel
theorem dX12_weekGoes_72 : decode cX12_weekGoes 72 = .ok (.if_icmp .ge 8, 3) := by decide +kernel
theorem dX12_weekGoes_75 : decode cX12_weekGoes 75 = .ok (.iload 4, 2) := by decide +kernel
theorem dX12_weekGoes_77 : decode cX12_weekGoes 77 = .ok (.goto 5, 3) := by decide +kernel
theorem dX12_weekGoes_80 : decode cX12_weekGoes 80 = .ok (.iload 5, 2) := by decide +kernel
theorem dX12_weekGoes_82 : decode cX12_weekGoes 82 = .ok (.istore 6, 2) := by decide +kernel
theorem dX12_weekGoes_84 : decode cX12_weekGoes 84 = .ok (.aload_n 0, 1) := by decide +kernel
theorem dX12_weekGoes_85 : decode cX12_weekGoes 85 = .ok (.getfield 143, 3) := by decide +kernel
theorem dX12_weekGoes_88 : decode cX12_weekGoes 88 = .ok (.iconst 5, 1) := by decide +kernel
theorem dX12_weekGoes_89 : decode cX12_weekGoes 89 = .ok (.iload_n 2, 1) := by decide +kernel
theorem dX12_weekGoes_90 : decode cX12_weekGoes 90 = .ok (.imul, 1) := by decide +kernel
theorem dX12_weekGoes_91 : decode cX12_weekGoes 91 = .ok (.iload_n 3, 1) := by decide +kernel
theorem dX12_weekGoes_92 : decode cX12_weekGoes 92 = .ok (.iadd, 1) := by decide +kernel
theorem dX12_weekGoes_93 : decode cX12_weekGoes 93 = .ok (.dup2, 1) := by decide +kernel
theorem dX12_weekGoes_94 : decode cX12_weekGoes 94 = .ok (.iaload, 1) := by decide +kernel
theorem dX12_weekGoes_95 : decode cX12_weekGoes 95 = .ok (.iload 6, 2) := by decide +kernel
theorem dX12_weekGoes_97 : decode cX12_weekGoes 97 = .ok (.iadd, 1) := by decide +kernel
theorem dX12_weekGoes_98 : decode cX12_weekGoes 98 = .ok (.iastore, 1) := by decide +kernel
theorem dX12_weekGoes_99 : decode cX12_weekGoes 99 = .ok (.aload_n 0, 1) := by decide +kernel
theorem dX12_weekGoes_100 : decode cX12_weekGoes 100 = .ok (.getfield 143, 3) := by decide +kernel
theorem dX12_weekGoes_103 : decode cX12_weekGoes 103 = .ok (.bipush 40, 2) := by decide +kernel
theorem dX12_weekGoes_105 : decode cX12_weekGoes 105 = .ok (.iload_n 2, 1) := by decide +kernel
theorem dX12_weekGoes_106 : decode cX12_weekGoes 106 = .ok (.iadd, 1) := by decide +kernel
theorem dX12_weekGoes_107 : decode cX12_weekGoes 107 = .ok (.dup2, 1) := by decide +kernel
theorem dX12_weekGoes_108 : decode cX12_weekGoes 108 = .ok (.iaload, 1) := by decide +kernel
theorem dX12_weekGoes_109 : decode cX12_weekGoes 109 = .ok (.iload 4, 2) := by decide +kernel
theorem dX12_weekGoes_111 : decode cX12_weekGoes 111 = .ok (.iload 6, 2) := by decide +kernel
theorem dX12_weekGoes_113 : decode cX12_weekGoes 113 = .ok (.isub, 1) := by decide +kernel
theorem dX12_weekGoes_114 : decode cX12_weekGoes 114 = .ok (.iadd, 1) := by decide +kernel
theorem dX12_weekGoes_115 : decode cX12_weekGoes 115 = .ok (.iastore, 1) := by decide +kernel
theorem dX12_weekGoes_116 : decode cX12_weekGoes 116 = .ok (.aload_n 0, 1) := by decide +kernel
theorem dX12_weekGoes_117 : decode cX12_weekGoes 117 = .ok (.getfield 143, 3) := by decide +kernel
theorem dX12_weekGoes_120 : decode cX12_weekGoes 120 = .ok (.bipush 56, 2) := by decide +kernel
theorem dX12_weekGoes_122 : decode cX12_weekGoes 122 = .ok (.iload_n 2, 1) := by decide +kernel
theorem dX12_weekGoes_123 : decode cX12_weekGoes 123 = .ok (.iadd, 1) := by decide +kernel
theorem dX12_weekGoes_124 : decode cX12_weekGoes 124 = .ok (.dup2, 1) := by decide +kernel
theorem dX12_weekGoes_125 : decode cX12_weekGoes 125 = .ok (.iaload, 1) := by decide +kernel
theorem dX12_weekGoes_126 : decode cX12_weekGoes 126 = .ok (.iload 6, 2) := by decide +kernel
theorem dX12_weekGoes_128 : decode cX12_weekGoes 128 = .ok (.iadd, 1) := by decide +kernel
theorem dX12_weekGoes_129 : decode cX12_weekGoes 129 = .ok (.iastore, 1) := by decide +kernel
theorem dX12_weekGoes_130 : decode cX12_weekGoes 130 = .ok (.aload_n 0, 1) := by decide +kernel
theorem dX12_weekGoes_131 : decode cX12_weekGoes 131 = .ok (.getfield 143, 3) := by decide +kernel
theorem dX12_weekGoes_134 : decode cX12_weekGoes 134 = .ok (.bipush 65, 2) := by decide +kernel
theorem dX12_weekGoes_136 : decode cX12_weekGoes 136 = .ok (.iaload, 1) := by decide +kernel
theorem dX12_weekGoes_137 : decode cX12_weekGoes 137 = .ok (.iload 6, 2) := by decide +kernel
theorem dX12_weekGoes_139 : decode cX12_weekGoes 139 = .ok (.aload_n 0, 1) := by decide +kernel
theorem dX12_weekGoes_140 : decode cX12_weekGoes 140 = .ok (.getfield 52, 3) := by decide +kernel
theorem dX12_weekGoes_143 : decode cX12_weekGoes 143 = .ok (.iconst 5, 1) := by decide +kernel
theorem dX12_weekGoes_144 : decode cX12_weekGoes 144 = .ok (.aload_n 0, 1) := by decide +kernel
theorem dX12_weekGoes_145 : decode cX12_weekGoes 145 = .ok (.getfield 248, 3) := by decide +kernel
theorem dX12_weekGoes_148 : decode cX12_weekGoes 148 = .ok (.imul, 1) := by decide +kernel
theorem dX12_weekGoes_149 : decode cX12_weekGoes 149 = .ok (.iload_n 3, 1) := by decide +kernel
theorem dX12_weekGoes_150 : decode cX12_weekGoes 150 = .ok (.iadd, 1) := by decide +kernel
theorem dX12_weekGoes_151 : decode cX12_weekGoes 151 = .ok (.iaload, 1) := by decide +kernel
theorem dX12_weekGoes_152 : decode cX12_weekGoes 152 = .ok (.imul, 1) := by decide +kernel
theorem dX12_weekGoes_153 : decode cX12_weekGoes 153 = .ok (.iadd, 1) := by decide +kernel
theorem dX12_weekGoes_154 : decode cX12_weekGoes 154 = .ok (.istore 7, 2) := by decide +kernel
theorem dX12_weekGoes_156 : decode cX12_weekGoes 156 = .ok (.aload_n 0, 1) := by decide +kernel
theorem dX12_weekGoes_157 : decode cX12_weekGoes 157 = .ok (.getfield 143, 3) := by decide +kernel
theorem dX12_weekGoes_160 : decode cX12_weekGoes 160 = .ok (.bipush 65, 2) := by decide +kernel
theorem dX12_weekGoes_162 : decode cX12_weekGoes 162 = .ok (.iload 7, 2) := by decide +kernel
theorem dX12_weekGoes_164 : decode cX12_weekGoes 164 = .ok (.ldc_w 370, 3) := by decide +kernel
theorem dX12_weekGoes_167 : decode cX12_weekGoes 167 = .ok (.if_icmp .le 9, 3) := by decide +kernel
theorem dX12_weekGoes_170 : decode cX12_weekGoes 170 = .ok (.ldc_w 370, 3) := by decide +kernel
theorem dX12_weekGoes_173 : decode cX12_weekGoes 173 = .ok (.goto 5, 3) := by decide +kernel
theorem dX12_weekGoes_176 : decode cX12_weekGoes 176 = .ok (.iload 7, 2) := by decide +kernel
theorem dX12_weekGoes_178 : decode cX12_weekGoes 178 = .ok (.iastore, 1) := by decide +kernel
theorem dX12_weekGoes_179 : decode cX12_weekGoes 179 = .ok (.iinc 1 1, 3) := by decide +kernel
theorem dX12_weekGoes_182 : decode cX12_weekGoes 182 = .ok (.goto (-180), 3) := by decide +kernel
theorem dX12_weekGoes_185 : decode cX12_weekGoes 185 = .ok (.aload_n 0, 1) := by decide +kernel
theorem dX12_weekGoes_186 : decode cX12_weekGoes 186 = .ok (.invokevirtual 352, 3) := by decide +kernel
theorem dX12_weekGoes_189 : decode cX12_weekGoes 189 = .ok (.istore_n 1, 1) := by decide +kernel
theorem dX12_weekGoes_190 : decode cX12_weekGoes 190 = .ok (.aload_n 0, 1) := by decide +kernel
theorem dX12_weekGoes_191 : decode cX12_weekGoes 191 = .ok (.aload_n 0, 1) := by decide +kernel
theorem dX12_weekGoes_192 : decode cX12_weekGoes 192 = .ok (.bipush 16, 2) := by decide +kernel
theorem dX12_weekGoes_194 : decode cX12_weekGoes 194 = .ok (.aload_n 0, 1) := by decide +kernel
theorem dX12_weekGoes_195 : decode cX12_weekGoes 195 = .ok (.bipush 48, 2) := by decide +kernel
theorem dX12_weekGoes_197 : decode cX12_weekGoes 197 = .ok (.invokevirtual 371, 3) := by decide +kernel
theorem dX12_weekGoes_200 : decode cX12_weekGoes 200 = .ok (.aload_n 0, 1) := by decide +kernel
theorem dX12_weekGoes_201 : decode cX12_weekGoes 201 = .ok (.bipush 56, 2) := by decide +kernel
theorem dX12_weekGoes_203 : decode cX12_weekGoes 203 = .ok (.invokevirtual 371, 3) := by decide +kernel
theorem dX12_weekGoes_206 : decode cX12_weekGoes 206 = .ok (.bipush 19, 2) := by decide +kernel
theorem dX12_weekGoes_208 : decode cX12_weekGoes 208 = .ok (.iload_n 1, 1) := by decide +kernel
theorem dX12_weekGoes_209 : decode cX12_weekGoes 209 = .ok (.invokevirtual 361, 3) := by decide +kernel
theorem dX12_weekGoes_212 : decode cX12_weekGoes 212 = .ok (.invokevirtual 374, 3) := by decide +kernel
theorem dX12_weekGoes_215 : decode cX12_weekGoes 215 = .ok (.aload_n 0, 1) := by decide +kernel
theorem dX12_weekGoes_216 : decode cX12_weekGoes 216 = .ok (.getfield 143, 3) := by decide +kernel
theorem dX12_weekGoes_219 : decode cX12_weekGoes 219 = .ok (.bipush 64, 2) := by decide +kernel
theorem dX12_weekGoes_221 : decode cX12_weekGoes 221 = .ok (.dup2, 1) := by decide +kernel
theorem dX12_weekGoes_222 : decode cX12_weekGoes 222 = .ok (.iaload, 1) := by decide +kernel
theorem dX12_weekGoes_223 : decode cX12_weekGoes 223 = .ok (.iconst 1, 1) := by decide +kernel
theorem dX12_weekGoes_224 : decode cX12_weekGoes 224 = .ok (.iadd, 1) := by decide +kernel
theorem dX12_weekGoes_225 : decode cX12_weekGoes 225 = .ok (.iastore, 1) := by decide +kernel
theorem dX12_weekGoes_226 : decode cX12_weekGoes 226 = .ok (.return_, 1) := by decide +kernel
theorem dX12_common_0 : decode cX12_common 0 = .ok (.lload_n 0, 1) := by decide +kernel
theorem dX12_common_1 : decode cX12_common 1 = .ok (.lstore 4, 2) := by decide +kernel
theorem dX12_common_3 : decode cX12_common 3 = .ok (.lload_n 2, 1) := by decide +kernel
theorem dX12_common_4 : decode cX12_common 4 = .ok (.lstore 6, 2) := by decide +kernel
theorem dX12_common_6 : decode cX12_common 6 = .ok (.lload 6, 2) := by decide +kernel
theorem dX12_common_8 : decode cX12_common 8 = .ok (.lconst 0, 1) := by decide +kernel
theorem dX12_common_9 : decode cX12_common 9 = .ok (.lcmp, 1) := by decide +kernel
theorem dX12_common_10 : decode cX12_common 10 = .ok (.ifCond .eq 21, 3) := by decide +kernel
theorem dX12_common_13 : decode cX12_common 13 = .ok (.lload 4, 2) := by decide +kernel
theorem dX12_common_15 : decode cX12_common 15 = .ok (.lload 6, 2) := by decide +kernel
theorem dX12_common_17 : decode cX12_common 17 = .ok (.lrem, 1) := by decide +kernel
theorem dX12_common_18 : decode cX12_common 18 = .ok (.lstore 8, 2) := by decide +kernel
theorem dX12_common_20 : decode cX12_common 20 = .ok (.lload 6, 2) := by decide +kernel
theorem dX12_common_22 : decode cX12_common 22 = .ok (.lstore 4, 2) := by decide +kernel
theorem dX12_common_24 : decode cX12_common 24 = .ok (.lload 8, 2) := by decide +kernel
theorem dX12_common_26 : decode cX12_common 26 = .ok (.lstore 6, 2) := by decide +kernel
theorem dX12_common_28 : decode cX12_common 28 = .ok (.goto (-22), 3) := by decide +kernel
theorem dX12_common_31 : decode cX12_common 31 = .ok (.lload 4, 2) := by decide +kernel
theorem dX12_common_33 : decode cX12_common 33 = .ok (.lreturn, 1) := by decide +kernel
theorem dX12_rankOf_0 : decode cX12_rankOf 0 = .ok (.iconst 0, 1) := by decide +kernel
theorem dX12_rankOf_1 : decode cX12_rankOf 1 = .ok (.istore_n 2, 1) := by decide +kernel
theorem dX12_rankOf_2 : decode cX12_rankOf 2 = .ok (.iconst 0, 1) := by decide +kernel
theorem dX12_rankOf_3 : decode cX12_rankOf 3 = .ok (.istore_n 3, 1) := by decide +kernel
theorem dX12_rankOf_4 : decode cX12_rankOf 4 = .ok (.iload_n 3, 1) := by decide +kernel
theorem dX12_rankOf_5 : decode cX12_rankOf 5 = .ok (.aload_n 0, 1) := by decide +kernel
theorem dX12_rankOf_6 : decode cX12_rankOf 6 = .ok (.getfield 58, 3) := by decide +kernel
theorem dX12_rankOf_9 : decode cX12_rankOf 9 = .ok (.aload_n 0, 1) := by decide +kernel
theorem dX12_rankOf_10 : decode cX12_rankOf 10 = .ok (.getfield 248, 3) := by decide +kernel
theorem dX12_rankOf_13 : decode cX12_rankOf 13 = .ok (.iaload, 1) := by decide +kernel
theorem dX12_rankOf_14 : decode cX12_rankOf 14 = .ok (.if_icmp .ge 43, 3) := by decide +kernel
theorem dX12_rankOf_17 : decode cX12_rankOf 17 = .ok (.aload_n 0, 1) := by decide +kernel
theorem dX12_rankOf_18 : decode cX12_rankOf 18 = .ok (.iload_n 3, 1) := by decide +kernel
theorem dX12_rankOf_19 : decode cX12_rankOf 19 = .ok (.invokevirtual 377, 3) := by decide +kernel
theorem dX12_rankOf_22 : decode cX12_rankOf 22 = .ok (.aload_n 0, 1) := by decide +kernel
theorem dX12_rankOf_23 : decode cX12_rankOf 23 = .ok (.iload_n 1, 1) := by decide +kernel
theorem dX12_rankOf_24 : decode cX12_rankOf 24 = .ok (.invokevirtual 377, 3) := by decide +kernel
theorem dX12_rankOf_27 : decode cX12_rankOf 27 = .ok (.if_icmp .gt 21, 3) := by decide +kernel
theorem dX12_rankOf_30 : decode cX12_rankOf 30 = .ok (.aload_n 0, 1) := by decide +kernel
theorem dX12_rankOf_31 : decode cX12_rankOf 31 = .ok (.iload_n 3, 1) := by decide +kernel
theorem dX12_rankOf_32 : decode cX12_rankOf 32 = .ok (.invokevirtual 377, 3) := by decide +kernel
theorem dX12_rankOf_35 : decode cX12_rankOf 35 = .ok (.aload_n 0, 1) := by decide +kernel
theorem dX12_rankOf_36 : decode cX12_rankOf 36 = .ok (.iload_n 1, 1) := by decide +kernel
theorem dX12_rankOf_37 : decode cX12_rankOf 37 = .ok (.invokevirtual 377, 3) := by decide +kernel
theorem dX12_rankOf_40 : decode cX12_rankOf 40 = .ok (.if_icmp .ne 11, 3) := by decide +kernel
theorem dX12_rankOf_43 : decode cX12_rankOf 43 = .ok (.iload_n 3, 1) := by decide +kernel
theorem dX12_rankOf_44 : decode cX12_rankOf 44 = .ok (.iload_n 1, 1) := by decide +kernel
theorem dX12_rankOf_45 : decode cX12_rankOf 45 = .ok (.if_icmp .ge 6, 3) := by decide +kernel
theorem dX12_rankOf_48 : decode cX12_rankOf 48 = .ok (.iinc 2 1, 3) := by decide +kernel
theorem dX12_rankOf_51 : decode cX12_rankOf 51 = .ok (.iinc 3 1, 3) := by decide +kernel
theorem dX12_rankOf_54 : decode cX12_rankOf 54 = .ok (.goto (-50), 3) := by decide +kernel
theorem dX12_rankOf_57 : decode cX12_rankOf 57 = .ok (.iload_n 2, 1) := by decide +kernel
theorem dX12_rankOf_58 : decode cX12_rankOf 58 = .ok (.ireturn, 1) := by decide +kernel
theorem dX12_heir_0 : decode cX12_heir 0 = .ok (.aload_n 0, 1) := by decide +kernel
theorem dX12_heir_1 : decode cX12_heir 1 = .ok (.iload_n 1, 1) := by decide +kernel
theorem dX12_heir_2 : decode cX12_heir 2 = .ok (.invokevirtual 380, 3) := by decide +kernel
theorem dX12_heir_5 : decode cX12_heir 5 = .ok (.ifCond .ne 5, 3) := by decide +kernel
theorem dX12_heir_8 : decode cX12_heir 8 = .ok (.iconst (-1), 1) := by decide +kernel
theorem dX12_heir_9 : decode cX12_heir 9 = .ok (.ireturn, 1) := by decide +kernel
theorem dX12_heir_10 : decode cX12_heir 10 = .ok (.aload_n 0, 1) := by decide +kernel
theorem dX12_heir_11 : decode cX12_heir 11 = .ok (.invokevirtual 383, 3) := by decide +kernel
theorem dX12_heir_14 : decode cX12_heir 14 = .ok (.iload_n 2, 1) := by decide +kernel
theorem dX12_heir_15 : decode cX12_heir 15 = .ok (.tableswitch 114 0 5 #[37, 43, 53, 63, 73, 108], 37) := by decide +kernel
theorem dX12_heir_52 : decode cX12_heir 52 = .ok (.aload_n 0, 1) := by decide +kernel
theorem dX12_heir_53 : decode cX12_heir 53 = .ok (.iload_n 1, 1) := by decide +kernel
theorem dX12_heir_54 : decode cX12_heir 54 = .ok (.invokevirtual 377, 3) := by decide +kernel
theorem dX12_heir_57 : decode cX12_heir 57 = .ok (.ireturn, 1) := by decide +kernel
theorem dX12_heir_58 : decode cX12_heir 58 = .ok (.aload_n 0, 1) := by decide +kernel
theorem dX12_heir_59 : decode cX12_heir 59 = .ok (.getfield 143, 3) := by decide +kernel
theorem dX12_heir_62 : decode cX12_heir 62 = .ok (.bipush 40, 2) := by decide +kernel
theorem dX12_heir_64 : decode cX12_heir 64 = .ok (.iload_n 1, 1) := by decide +kernel
theorem dX12_heir_65 : decode cX12_heir 65 = .ok (.iadd, 1) := by decide +kernel
theorem dX12_heir_66 : decode cX12_heir 66 = .ok (.iaload, 1) := by decide +kernel
theorem dX12_heir_67 : decode cX12_heir 67 = .ok (.ireturn, 1) := by decide +kernel
theorem dX12_heir_68 : decode cX12_heir 68 = .ok (.aload_n 0, 1) := by decide +kernel
theorem dX12_heir_69 : decode cX12_heir 69 = .ok (.getfield 143, 3) := by decide +kernel
theorem dX12_heir_72 : decode cX12_heir 72 = .ok (.bipush 48, 2) := by decide +kernel
theorem dX12_heir_74 : decode cX12_heir 74 = .ok (.iload_n 1, 1) := by decide +kernel
theorem dX12_heir_75 : decode cX12_heir 75 = .ok (.iadd, 1) := by decide +kernel
theorem dX12_heir_76 : decode cX12_heir 76 = .ok (.iaload, 1) := by decide +kernel
theorem dX12_heir_77 : decode cX12_heir 77 = .ok (.ireturn, 1) := by decide +kernel
theorem dX12_heir_78 : decode cX12_heir 78 = .ok (.aload_n 0, 1) := by decide +kernel
theorem dX12_heir_79 : decode cX12_heir 79 = .ok (.getfield 143, 3) := by decide +kernel
theorem dX12_heir_82 : decode cX12_heir 82 = .ok (.bipush 56, 2) := by decide +kernel
theorem dX12_heir_84 : decode cX12_heir 84 = .ok (.iload_n 1, 1) := by decide +kernel
theorem dX12_heir_85 : decode cX12_heir 85 = .ok (.iadd, 1) := by decide +kernel
theorem dX12_heir_86 : decode cX12_heir 86 = .ok (.iaload, 1) := by decide +kernel
theorem dX12_heir_87 : decode cX12_heir 87 = .ok (.ireturn, 1) := by decide +kernel
theorem dX12_heir_88 : decode cX12_heir 88 = .ok (.aload_n 0, 1) := by decide +kernel
theorem dX12_heir_89 : decode cX12_heir 89 = .ok (.bipush 48, 2) := by decide +kernel
theorem dX12_heir_91 : decode cX12_heir 91 = .ok (.invokevirtual 371, 3) := by decide +kernel
theorem dX12_heir_94 : decode cX12_heir 94 = .ok (.ifCond .ne 7, 3) := by decide +kernel
theorem dX12_heir_97 : decode cX12_heir 97 = .ok (.iconst 0, 1) := by decide +kernel
theorem dX12_heir_98 : decode cX12_heir 98 = .ok (.goto 24, 3) := by decide +kernel
theorem dX12_heir_101 : decode cX12_heir 101 = .ok (.aload_n 0, 1) := by decide +kernel
theorem dX12_heir_102 : decode cX12_heir 102 = .ok (.invokevirtual 352, 3) := by decide +kernel
theorem dX12_heir_105 : decode cX12_heir 105 = .ok (.aload_n 0, 1) := by decide +kernel
theorem dX12_heir_106 : decode cX12_heir 106 = .ok (.getfield 143, 3) := by decide +kernel
theorem dX12_heir_109 : decode cX12_heir 109 = .ok (.bipush 48, 2) := by decide +kernel
theorem dX12_heir_111 : decode cX12_heir 111 = .ok (.iload_n 1, 1) := by decide +kernel
theorem dX12_heir_112 : decode cX12_heir 112 = .ok (.iadd, 1) := by decide +kernel
theorem dX12_heir_113 : decode cX12_heir 113 = .ok (.iaload, 1) := by decide +kernel
theorem dX12_heir_114 : decode cX12_heir 114 = .ok (.imul, 1) := by decide +kernel
theorem dX12_heir_115 : decode cX12_heir 115 = .ok (.aload_n 0, 1) := by decide +kernel
theorem dX12_heir_116 : decode cX12_heir 116 = .ok (.bipush 48, 2) := by decide +kernel
theorem dX12_heir_118 : decode cX12_heir 118 = .ok (.invokevirtual 371, 3) := by decide +kernel
theorem dX12_heir_121 : decode cX12_heir 121 = .ok (.idiv, 1) := by decide +kernel
theorem dX12_heir_122 : decode cX12_heir 122 = .ok (.ireturn, 1) := by decide +kernel
theorem dX12_heir_123 : decode cX12_heir 123 = .ok (.aload_n 0, 1) := by decide +kernel
theorem dX12_heir_124 : decode cX12_heir 124 = .ok (.iload_n 1, 1) := by decide +kernel
theorem dX12_heir_125 : decode cX12_heir 125 = .ok (.invokevirtual 386, 3) := by decide +kernel
theorem dX12_heir_128 : decode cX12_heir 128 = .ok (.ireturn, 1) := by decide +kernel
theorem dX12_heir_129 : decode cX12_heir 129 = .ok (.iconst (-1), 1) := by decide +kernel
theorem dX12_heir_130 : decode cX12_heir 130 = .ok (.ireturn, 1) := by decide +kernel
theorem dX12_drops_0 : decode cX12_drops 0 = .ok (.iload_n 1, 1) := by decide +kernel
theorem dX12_drops_1 : decode cX12_drops 1 = .ok (.iconst (-1), 1) := by decide +kernel
theorem dX12_drops_2 : decode cX12_drops 2 = .ok (.if_icmp .eq 11, 3) := by decide +kernel
theorem dX12_drops_5 : decode cX12_drops 5 = .ok (.aload_n 0, 1) := by decide +kernel
theorem dX12_drops_6 : decode cX12_drops 6 = .ok (.iload_n 1, 1) := by decide +kernel
theorem dX12_drops_7 : decode cX12_drops 7 = .ok (.invokevirtual 380, 3) := by decide +kernel
theorem dX12_drops_10 : decode cX12_drops 10 = .ok (.ifCond .eq 16, 3) := by decide +kernel
theorem dX12_drops_13 : decode cX12_drops 13 = .ok (.iload_n 2, 1) := by decide +kernel
theorem dX12_drops_14 : decode cX12_drops 14 = .ok (.iconst (-1), 1) := by decide +kernel
theorem dX12_drops_15 : decode cX12_drops 15 = .ok (.if_icmp .eq 13, 3) := by decide +kernel
theorem dX12_drops_18 : decode cX12_drops 18 = .ok (.aload_n 0, 1) := by decide +kernel
theorem dX12_drops_19 : decode cX12_drops 19 = .ok (.iload_n 2, 1) := by decide +kernel
theorem dX12_drops_20 : decode cX12_drops 20 = .ok (.invokevirtual 389, 3) := by decide +kernel
theorem dX12_drops_23 : decode cX12_drops 23 = .ok (.ifCond .ne 5, 3) := by decide +kernel
theorem dX12_drops_26 : decode cX12_drops 26 = .ok (.iconst (-1), 1) := by decide +kernel
theorem dX12_drops_27 : decode cX12_drops 27 = .ok (.ireturn, 1) := by decide +kernel
theorem dX12_drops_28 : decode cX12_drops 28 = .ok (.iconst 0, 1) := by decide +kernel
theorem dX12_drops_29 : decode cX12_drops 29 = .ok (.istore_n 3, 1) := by decide +kernel
theorem dX12_drops_30 : decode cX12_drops 30 = .ok (.iconst 0, 1) := by decide +kernel
theorem dX12_drops_31 : decode cX12_drops 31 = .ok (.istore 4, 2) := by decide +kernel
theorem dX12_drops_33 : decode cX12_drops 33 = .ok (.iload 4, 2) := by decide +kernel
theorem dX12_drops_35 : decode cX12_drops 35 = .ok (.bipush 40, 2) := by decide +kernel
theorem dX12_drops_37 : decode cX12_drops 37 = .ok (.if_icmp .ge 45, 3) := by decide +kernel
theorem dX12_drops_40 : decode cX12_drops 40 = .ok (.iload_n 1, 1) := by decide +kernel
theorem dX12_drops_41 : decode cX12_drops 41 = .ok (.iconst (-1), 1) := by decide +kernel
theorem dX12_drops_42 : decode cX12_drops 42 = .ok (.if_icmp .eq 11, 3) := by decide +kernel
theorem dX12_drops_45 : decode cX12_drops 45 = .ok (.iload 4, 2) := by decide +kernel
theorem dX12_drops_47 : decode cX12_drops 47 = .ok (.iconst 5, 1) := by decide +kernel
theorem dX12_drops_48 : decode cX12_drops 48 = .ok (.idiv, 1) := by decide +kernel
theorem dX12_drops_49 : decode cX12_drops 49 = .ok (.iload_n 1, 1) := by decide +kernel
theorem dX12_drops_50 : decode cX12_drops 50 = .ok (.if_icmp .ne 26, 3) := by decide +kernel
theorem dX12_drops_53 : decode cX12_drops 53 = .ok (.iload_n 2, 1) := by decide +kernel
theorem dX12_drops_54 : decode cX12_drops 54 = .ok (.iconst (-1), 1) := by decide +kernel
theorem dX12_drops_55 : decode cX12_drops 55 = .ok (.if_icmp .eq 11, 3) := by decide +kernel
theorem dX12_drops_58 : decode cX12_drops 58 = .ok (.iload 4, 2) := by decide +kernel
theorem dX12_drops_60 : decode cX12_drops 60 = .ok (.iconst 5, 1) := by decide +kernel
theorem dX12_drops_61 : decode cX12_drops 61 = .ok (.irem, 1) := by decide +kernel
theorem dX12_drops_62 : decode cX12_drops 62 = .ok (.iload_n 2, 1) := by decide +kernel
theorem dX12_drops_63 : decode cX12_drops 63 = .ok (.if_icmp .ne 13, 3) := by decide +kernel
theorem dX12_drops_66 : decode cX12_drops 66 = .ok (.iload_n 3, 1) := by decide +kernel
theorem dX12_drops_67 : decode cX12_drops 67 = .ok (.aload_n 0, 1) := by decide +kernel
theorem dX12_drops_68 : decode cX12_drops 68 = .ok (.getfield 140, 3) := by decide +kernel
theorem dX12_drops_71 : decode cX12_drops 71 = .ok (.iload 4, 2) := by decide +kernel
theorem dX12_drops_73 : decode cX12_drops 73 = .ok (.iaload, 1) := by decide +kernel
theorem dX12_drops_74 : decode cX12_drops 74 = .ok (.iadd, 1) := by decide +kernel
theorem dX12_drops_75 : decode cX12_drops 75 = .ok (.istore_n 3, 1) := by decide +kernel
theorem dX12_drops_76 : decode cX12_drops 76 = .ok (.iinc 4 1, 3) := by decide +kernel
theorem dX12_drops_79 : decode cX12_drops 79 = .ok (.goto (-46), 3) := by decide +kernel
theorem dX12_drops_82 : decode cX12_drops 82 = .ok (.iload_n 3, 1) := by decide +kernel
theorem dX12_drops_83 : decode cX12_drops 83 = .ok (.ireturn, 1) := by decide +kernel
theorem dX12_salt_0 : decode cX12_salt 0 = .ok (.aload_n 0, 1) := by decide +kernel
theorem dX12_salt_1 : decode cX12_salt 1 = .ok (.getfield 140, 3) := by decide +kernel
theorem dX12_salt_4 : decode cX12_salt 4 = .ok (.bipush 65, 2) := by decide +kernel
theorem dX12_salt_6 : decode cX12_salt 6 = .ok (.iaload, 1) := by decide +kernel
theorem dX12_salt_7 : decode cX12_salt 7 = .ok (.ireturn, 1) := by decide +kernel
theorem dX12_owns_0 : decode cX12_owns 0 = .ok (.aload_n 0, 1) := by decide +kernel
theorem dX12_owns_1 : decode cX12_owns 1 = .ok (.iload_n 1, 1) := by decide +kernel
theorem dX12_owns_2 : decode cX12_owns 2 = .ok (.invokevirtual 380, 3) := by decide +kernel
theorem dX12_owns_5 : decode cX12_owns 5 = .ok (.ifCond .ne 5, 3) := by decide +kernel
theorem dX12_owns_8 : decode cX12_owns 8 = .ok (.iconst (-1), 1) := by decide +kernel
theorem dX12_owns_9 : decode cX12_owns 9 = .ok (.ireturn, 1) := by decide +kernel
theorem dX12_owns_10 : decode cX12_owns 10 = .ok (.aload_n 0, 1) := by decide +kernel
theorem dX12_owns_11 : decode cX12_owns 11 = .ok (.invokevirtual 383, 3) := by decide +kernel
theorem dX12_owns_14 : decode cX12_owns 14 = .ok (.aload_n 0, 1) := by decide +kernel
theorem dX12_owns_15 : decode cX12_owns 15 = .ok (.iload_n 1, 1) := by decide +kernel
theorem dX12_owns_16 : decode cX12_owns 16 = .ok (.invokevirtual 377, 3) := by decide +kernel
theorem dX12_owns_19 : decode cX12_owns 19 = .ok (.istore_n 3, 1) := by decide +kernel
theorem dX12_owns_20 : decode cX12_owns 20 = .ok (.aload_n 0, 1) := by decide +kernel
theorem dX12_owns_21 : decode cX12_owns 21 = .ok (.invokevirtual 352, 3) := by decide +kernel
theorem dX12_owns_24 : decode cX12_owns 24 = .ok (.istore 4, 2) := by decide +kernel
theorem dX12_owns_26 : decode cX12_owns 26 = .ok (.iload_n 3, 1) := by decide +kernel
theorem dX12_owns_27 : decode cX12_owns 27 = .ok (.ifCond .ne 13, 3) := by decide +kernel
theorem dX12_owns_30 : decode cX12_owns 30 = .ok (.iload_n 2, 1) := by decide +kernel
theorem dX12_owns_31 : decode cX12_owns 31 = .ok (.ifCond .eq 7, 3) := by decide +kernel
theorem dX12_owns_34 : decode cX12_owns 34 = .ok (.iconst 1, 1) := by decide +kernel
theorem dX12_owns_35 : decode cX12_owns 35 = .ok (.goto 4, 3) := by decide +kernel
theorem dX12_owns_38 : decode cX12_owns 38 = .ok (.iconst 0, 1) := by decide +kernel
theorem dX12_owns_39 : decode cX12_owns 39 = .ok (.ireturn, 1) := by decide +kernel
theorem dX12_owns_40 : decode cX12_owns 40 = .ok (.iload_n 3, 1) := by decide +kernel
theorem dX12_owns_41 : decode cX12_owns 41 = .ok (.i2l, 1) := by decide +kernel
theorem dX12_owns_42 : decode cX12_owns 42 = .ok (.iload 4, 2) := by decide +kernel
theorem dX12_owns_44 : decode cX12_owns 44 = .ok (.i2l, 1) := by decide +kernel
theorem dX12_owns_45 : decode cX12_owns 45 = .ok (.invokestatic 392, 3) := by decide +kernel
theorem dX12_owns_48 : decode cX12_owns 48 = .ok (.l2i, 1) := by decide +kernel
theorem dX12_owns_49 : decode cX12_owns 49 = .ok (.istore 5, 2) := by decide +kernel
theorem dX12_owns_51 : decode cX12_owns 51 = .ok (.iload_n 2, 1) := by decide +kernel
theorem dX12_owns_52 : decode cX12_owns 52 = .ok (.ifCond .eq 11, 3) := by decide +kernel
theorem dX12_owns_55 : decode cX12_owns 55 = .ok (.iload 4, 2) := by decide +kernel
theorem dX12_owns_57 : decode cX12_owns 57 = .ok (.iload 5, 2) := by decide +kernel
theorem dX12_owns_59 : decode cX12_owns 59 = .ok (.idiv, 1) := by decide +kernel
theorem dX12_owns_60 : decode cX12_owns 60 = .ok (.goto 7, 3) := by decide +kernel
theorem dX12_owns_63 : decode cX12_owns 63 = .ok (.iload_n 3, 1) := by decide +kernel
theorem dX12_owns_64 : decode cX12_owns 64 = .ok (.iload 5, 2) := by decide +kernel
theorem dX12_owns_66 : decode cX12_owns 66 = .ok (.idiv, 1) := by decide +kernel
theorem dX12_owns_67 : decode cX12_owns 67 = .ok (.ireturn, 1) := by decide +kernel
theorem dX12_claim_0 : decode cX12_claim 0 = .ok (.iload_n 1, 1) := by decide +kernel
theorem dX12_claim_1 : decode cX12_claim 1 = .ok (.iconst 0, 1) := by decide +kernel
theorem dX12_claim_2 : decode cX12_claim 2 = .ok (.aload_n 0, 1) := by decide +kernel
theorem dX12_claim_3 : decode cX12_claim 3 = .ok (.getfield 82, 3) := by decide +kernel
theorem dX12_claim_6 : decode cX12_claim 6 = .ok (.aload_n 0, 1) := by decide +kernel
theorem dX12_claim_7 : decode cX12_claim 7 = .ok (.getfield 248, 3) := by decide +kernel
theorem dX12_claim_10 : decode cX12_claim 10 = .ok (.iaload, 1) := by decide +kernel
theorem dX12_claim_11 : decode cX12_claim 11 = .ok (.iconst 1, 1) := by decide +kernel
theorem dX12_claim_12 : decode cX12_claim 12 = .ok (.isub, 1) := by decide +kernel
theorem dX12_claim_13 : decode cX12_claim 13 = .ok (.invokestatic 338, 3) := by decide +kernel
theorem dX12_claim_16 : decode cX12_claim 16 = .ok (.ifCond .ne 7, 3) := by decide +kernel
theorem dX12_claim_19 : decode cX12_claim 19 = .ok (.ldc2_w 365, 3) := by decide +kernel
theorem dX12_claim_22 : decode cX12_claim 22 = .ok (.lreturn, 1) := by decide +kernel
theorem dX12_claim_23 : decode cX12_claim 23 = .ok (.aload_n 0, 1) := by decide +kernel
theorem dX12_claim_24 : decode cX12_claim 24 = .ok (.invokevirtual 383, 3) := by decide +kernel
theorem dX12_claim_27 : decode cX12_claim 27 = .ok (.lconst 0, 1) := by decide +kernel
theorem dX12_claim_28 : decode cX12_claim 28 = .ok (.lstore_n 3, 1) := by decide +kernel
theorem dX12_claim_29 : decode cX12_claim 29 = .ok (.lconst 1, 1) := by decide +kernel
theorem dX12_claim_30 : decode cX12_claim 30 = .ok (.lstore 5, 2) := by decide +kernel
theorem dX12_claim_32 : decode cX12_claim 32 = .ok (.iconst 0, 1) := by decide +kernel
theorem dX12_claim_33 : decode cX12_claim 33 = .ok (.istore 7, 2) := by decide +kernel
theorem dX12_claim_35 : decode cX12_claim 35 = .ok (.iload 7, 2) := by decide +kernel
theorem dX12_claim_37 : decode cX12_claim 37 = .ok (.aload_n 0, 1) := by decide +kernel
theorem dX12_claim_38 : decode cX12_claim 38 = .ok (.getfield 85, 3) := by decide +kernel
theorem dX12_claim_41 : decode cX12_claim 41 = .ok (.bipush 6, 2) := by decide +kernel
theorem dX12_claim_43 : decode cX12_claim 43 = .ok (.aload_n 0, 1) := by decide +kernel
theorem dX12_claim_44 : decode cX12_claim 44 = .ok (.getfield 248, 3) := by decide +kernel
theorem dX12_claim_47 : decode cX12_claim 47 = .ok (.imul, 1) := by decide +kernel
theorem dX12_claim_48 : decode cX12_claim 48 = .ok (.iload_n 1, 1) := by decide +kernel
theorem dX12_claim_49 : decode cX12_claim 49 = .ok (.iadd, 1) := by decide +kernel
theorem dX12_claim_50 : decode cX12_claim 50 = .ok (.iaload, 1) := by decide +kernel
theorem dX12_claim_51 : decode cX12_claim 51 = .ok (.if_icmp .ge 123, 3) := by decide +kernel
theorem dX12_claim_54 : decode cX12_claim 54 = .ok (.bipush 6, 2) := by decide +kernel
theorem dX12_claim_56 : decode cX12_claim 56 = .ok (.bipush 6, 2) := by decide +kernel
theorem dX12_claim_58 : decode cX12_claim 58 = .ok (.aload_n 0, 1) := by decide +kernel
theorem dX12_claim_59 : decode cX12_claim 59 = .ok (.getfield 248, 3) := by decide +kernel
theorem dX12_claim_62 : decode cX12_claim 62 = .ok (.imul, 1) := by decide +kernel
theorem dX12_claim_63 : decode cX12_claim 63 = .ok (.iload_n 1, 1) := by decide +kernel
theorem dX12_claim_64 : decode cX12_claim 64 = .ok (.iadd, 1) := by decide +kernel
theorem dX12_claim_65 : decode cX12_claim 65 = .ok (.imul, 1) := by decide +kernel
theorem dX12_claim_66 : decode cX12_claim 66 = .ok (.iload 7, 2) := by decide +kernel
theorem dX12_claim_68 : decode cX12_claim 68 = .ok (.iadd, 1) := by decide +kernel
theorem dX12_claim_69 : decode cX12_claim 69 = .ok (.istore 8, 2) := by decide +kernel
theorem dX12_claim_71 : decode cX12_claim 71 = .ok (.lload 5, 2) := by decide +kernel
theorem dX12_claim_73 : decode cX12_claim 73 = .ok (.aload_n 0, 1) := by decide +kernel
theorem dX12_claim_74 : decode cX12_claim 74 = .ok (.getfield 91, 3) := by decide +kernel
theorem dX12_claim_77 : decode cX12_claim 77 = .ok (.iload 8, 2) := by decide +kernel
theorem dX12_claim_79 : decode cX12_claim 79 = .ok (.iaload, 1) := by decide +kernel
theorem dX12_claim_80 : decode cX12_claim 80 = .ok (.i2l, 1) := by decide +kernel
theorem dX12_claim_81 : decode cX12_claim 81 = .ok (.invokestatic 392, 3) := by decide +kernel
theorem dX12_claim_84 : decode cX12_claim 84 = .ok (.lstore 9, 2) := by decide +kernel
theorem dX12_claim_86 : decode cX12_claim 86 = .ok (.aload_n 0, 1) := by decide +kernel
theorem dX12_claim_87 : decode cX12_claim 87 = .ok (.getfield 88, 3) := by decide +kernel
theorem dX12_claim_90 : decode cX12_claim 90 = .ok (.iload 8, 2) := by decide +kernel
theorem dX12_claim_92 : decode cX12_claim 92 = .ok (.iaload, 1) := by decide +kernel
theorem dX12_claim_93 : decode cX12_claim 93 = .ok (.i2l, 1) := by decide +kernel
theorem dX12_claim_94 : decode cX12_claim 94 = .ok (.aload_n 0, 1) := by decide +kernel
theorem dX12_claim_95 : decode cX12_claim 95 = .ok (.aload_n 0, 1) := by decide +kernel
theorem dX12_claim_96 : decode cX12_claim 96 = .ok (.getfield 94, 3) := by decide +kernel
theorem dX12_claim_99 : decode cX12_claim 99 = .ok (.iload 8, 2) := by decide +kernel
theorem dX12_claim_101 : decode cX12_claim 101 = .ok (.iaload, 1) := by decide +kernel
theorem dX12_claim_102 : decode cX12_claim 102 = .ok (.invokevirtual 377, 3) := by decide +kernel
theorem dX12_claim_105 : decode cX12_claim 105 = .ok (.i2l, 1) := by decide +kernel
theorem dX12_claim_106 : decode cX12_claim 106 = .ok (.lmul, 1) := by decide +kernel
theorem dX12_claim_107 : decode cX12_claim 107 = .ok (.lload 5, 2) := by decide +kernel
theorem dX12_claim_109 : decode cX12_claim 109 = .ok (.lload 9, 2) := by decide +kernel
theorem dX12_claim_111 : decode cX12_claim 111 = .ok (.ldiv, 1) := by decide +kernel
theorem dX12_claim_112 : decode cX12_claim 112 = .ok (.lmul, 1) := by decide +kernel
theorem dX12_claim_113 : decode cX12_claim 113 = .ok (.lstore 11, 2) := by decide +kernel
theorem dX12_claim_115 : decode cX12_claim 115 = .ok (.lload_n 3, 1) := by decide +kernel
theorem dX12_claim_116 : decode cX12_claim 116 = .ok (.aload_n 0, 1) := by decide +kernel
theorem dX12_claim_117 : decode cX12_claim 117 = .ok (.getfield 91, 3) := by decide +kernel
theorem dX12_claim_120 : decode cX12_claim 120 = .ok (.iload 8, 2) := by decide +kernel
theorem dX12_claim_122 : decode cX12_claim 122 = .ok (.iaload, 1) := by decide +kernel
theorem dX12_claim_123 : decode cX12_claim 123 = .ok (.i2l, 1) := by decide +kernel
theorem dX12_claim_124 : decode cX12_claim 124 = .ok (.lload 9, 2) := by decide +kernel
theorem dX12_claim_126 : decode cX12_claim 126 = .ok (.ldiv, 1) := by decide +kernel
theorem dX12_claim_127 : decode cX12_claim 127 = .ok (.lmul, 1) := by decide +kernel
theorem dX12_claim_128 : decode cX12_claim 128 = .ok (.lload 11, 2) := by decide +kernel
theorem dX12_claim_130 : decode cX12_claim 130 = .ok (.ladd, 1) := by decide +kernel
theorem dX12_claim_131 : decode cX12_claim 131 = .ok (.lstore_n 3, 1) := by decide +kernel
theorem dX12_claim_132 : decode cX12_claim 132 = .ok (.lload 5, 2) := by decide +kernel
theorem dX12_claim_134 : decode cX12_claim 134 = .ok (.lload 9, 2) := by decide +kernel
theorem dX12_claim_136 : decode cX12_claim 136 = .ok (.ldiv, 1) := by decide +kernel
theorem dX12_claim_137 : decode cX12_claim 137 = .ok (.aload_n 0, 1) := by decide +kernel
theorem dX12_claim_138 : decode cX12_claim 138 = .ok (.getfield 91, 3) := by decide +kernel
theorem dX12_claim_141 : decode cX12_claim 141 = .ok (.iload 8, 2) := by decide +kernel
theorem dX12_claim_143 : decode cX12_claim 143 = .ok (.iaload, 1) := by decide +kernel
theorem dX12_claim_144 : decode cX12_claim 144 = .ok (.i2l, 1) := by decide +kernel
theorem dX12_claim_145 : decode cX12_claim 145 = .ok (.lmul, 1) := by decide +kernel
theorem dX12_claim_146 : decode cX12_claim 146 = .ok (.lstore 5, 2) := by decide +kernel
theorem dX12_claim_148 : decode cX12_claim 148 = .ok (.lload 5, 2) := by decide +kernel
theorem dX12_claim_150 : decode cX12_claim 150 = .ok (.lload_n 3, 1) := by decide +kernel
theorem dX12_claim_151 : decode cX12_claim 151 = .ok (.invokestatic 392, 3) := by decide +kernel
theorem dX12_claim_154 : decode cX12_claim 154 = .ok (.lstore 9, 2) := by decide +kernel
theorem dX12_claim_156 : decode cX12_claim 156 = .ok (.lload_n 3, 1) := by decide +kernel
theorem dX12_claim_157 : decode cX12_claim 157 = .ok (.lload 9, 2) := by decide +kernel
theorem dX12_claim_159 : decode cX12_claim 159 = .ok (.ldiv, 1) := by decide +kernel
theorem dX12_claim_160 : decode cX12_claim 160 = .ok (.lstore_n 3, 1) := by decide +kernel
theorem dX12_claim_161 : decode cX12_claim 161 = .ok (.lload 5, 2) := by decide +kernel
theorem dX12_claim_163 : decode cX12_claim 163 = .ok (.lload 9, 2) := by decide +kernel
theorem dX12_claim_165 : decode cX12_claim 165 = .ok (.ldiv, 1) := by decide +kernel
theorem dX12_claim_166 : decode cX12_claim 166 = .ok (.lstore 5, 2) := by decide +kernel
theorem dX12_claim_168 : decode cX12_claim 168 = .ok (.iinc 7 1, 3) := by decide +kernel
theorem dX12_claim_171 : decode cX12_claim 171 = .ok (.goto (-136), 3) := by decide +kernel
theorem dX12_claim_174 : decode cX12_claim 174 = .ok (.iload_n 2, 1) := by decide +kernel
theorem dX12_claim_175 : decode cX12_claim 175 = .ok (.ifCond .eq 8, 3) := by decide +kernel
theorem dX12_claim_178 : decode cX12_claim 178 = .ok (.lload 5, 2) := by decide +kernel
theorem dX12_claim_180 : decode cX12_claim 180 = .ok (.goto 4, 3) := by decide +kernel
theorem dX12_claim_183 : decode cX12_claim 183 = .ok (.lload_n 3, 1) := by decide +kernel
theorem dX12_claim_184 : decode cX12_claim 184 = .ok (.lreturn, 1) := by decide +kernel
theorem dX12_ranked_0 : decode cX12_ranked 0 = .ok (.aload_n 0, 1) := by decide +kernel
theorem dX12_ranked_1 : decode cX12_ranked 1 = .ok (.invokevirtual 383, 3) := by decide +kernel
theorem dX12_ranked_4 : decode cX12_ranked 4 = .ok (.iconst 0, 1) := by decide +kernel
theorem dX12_ranked_5 : decode cX12_ranked 5 = .ok (.istore_n 2, 1) := by decide +kernel
theorem dX12_ranked_6 : decode cX12_ranked 6 = .ok (.iload_n 2, 1) := by decide +kernel
theorem dX12_ranked_7 : decode cX12_ranked 7 = .ok (.aload_n 0, 1) := by decide +kernel
theorem dX12_ranked_8 : decode cX12_ranked 8 = .ok (.getfield 58, 3) := by decide +kernel
theorem dX12_ranked_11 : decode cX12_ranked 11 = .ok (.aload_n 0, 1) := by decide +kernel
theorem dX12_ranked_12 : decode cX12_ranked 12 = .ok (.getfield 248, 3) := by decide +kernel
theorem dX12_ranked_15 : decode cX12_ranked 15 = .ok (.iaload, 1) := by decide +kernel
theorem dX12_ranked_16 : decode cX12_ranked 16 = .ok (.if_icmp .ge 20, 3) := by decide +kernel
theorem dX12_ranked_19 : decode cX12_ranked 19 = .ok (.aload_n 0, 1) := by decide +kernel
theorem dX12_ranked_20 : decode cX12_ranked 20 = .ok (.iload_n 2, 1) := by decide +kernel
theorem dX12_ranked_21 : decode cX12_ranked 21 = .ok (.invokevirtual 386, 3) := by decide +kernel
theorem dX12_ranked_24 : decode cX12_ranked 24 = .ok (.iload_n 1, 1) := by decide +kernel
theorem dX12_ranked_25 : decode cX12_ranked 25 = .ok (.if_icmp .ne 5, 3) := by decide +kernel
theorem dX12_ranked_28 : decode cX12_ranked 28 = .ok (.iload_n 2, 1) := by decide +kernel
theorem dX12_ranked_29 : decode cX12_ranked 29 = .ok (.ireturn, 1) := by decide +kernel
theorem dX12_ranked_30 : decode cX12_ranked 30 = .ok (.iinc 2 1, 3) := by decide +kernel
theorem dX12_ranked_33 : decode cX12_ranked 33 = .ok (.goto (-27), 3) := by decide +kernel
theorem dX12_ranked_36 : decode cX12_ranked 36 = .ok (.iconst (-1), 1) := by decide +kernel
theorem dX12_ranked_37 : decode cX12_ranked 37 = .ok (.ireturn, 1) := by decide +kernel
theorem dX12_keeps_0 : decode cX12_keeps 0 = .ok (.aload_n 0, 1) := by decide +kernel
theorem dX12_keeps_1 : decode cX12_keeps 1 = .ok (.getfield 269, 3) := by decide +kernel
theorem dX12_keeps_4 : decode cX12_keeps 4 = .ok (.bipush 30, 2) := by decide +kernel
theorem dX12_keeps_6 : decode cX12_keeps 6 = .ok (.if_icmp .ne 43, 3) := by decide +kernel
theorem dX12_keeps_9 : decode cX12_keeps 9 = .ok (.iconst 0, 1) := by decide +kernel
theorem dX12_keeps_10 : decode cX12_keeps 10 = .ok (.istore_n 1, 1) := by decide +kernel
theorem dX12_keeps_11 : decode cX12_keeps 11 = .ok (.iload_n 1, 1) := by decide +kernel
theorem dX12_keeps_12 : decode cX12_keeps 12 = .ok (.sipush 2320, 3) := by decide +kernel
theorem dX12_keeps_15 : decode cX12_keeps 15 = .ok (.if_icmp .ge 24, 3) := by decide +kernel
theorem dX12_keeps_18 : decode cX12_keeps 18 = .ok (.aload_n 0, 1) := by decide +kernel
theorem dX12_keeps_19 : decode cX12_keeps 19 = .ok (.getfield 152, 3) := by decide +kernel
theorem dX12_keeps_22 : decode cX12_keeps 22 = .ok (.iload_n 1, 1) := by decide +kernel
theorem dX12_keeps_23 : decode cX12_keeps 23 = .ok (.aload_n 0, 1) := by decide +kernel
theorem dX12_keeps_24 : decode cX12_keeps 24 = .ok (.getfield 152, 3) := by decide +kernel
theorem dX12_keeps_27 : decode cX12_keeps 27 = .ok (.iload_n 1, 1) := by decide +kernel
theorem dX12_keeps_28 : decode cX12_keeps 28 = .ok (.bipush 80, 2) := by decide +kernel
theorem dX12_keeps_30 : decode cX12_keeps 30 = .ok (.iadd, 1) := by decide +kernel
theorem dX12_keeps_31 : decode cX12_keeps 31 = .ok (.iaload, 1) := by decide +kernel
theorem dX12_keeps_32 : decode cX12_keeps 32 = .ok (.iastore, 1) := by decide +kernel
theorem dX12_keeps_33 : decode cX12_keeps 33 = .ok (.iinc 1 1, 3) := by decide +kernel
theorem dX12_keeps_36 : decode cX12_keeps 36 = .ok (.goto (-25), 3) := by decide +kernel
theorem dX12_keeps_39 : decode cX12_keeps 39 = .ok (.aload_n 0, 1) := by decide +kernel
theorem dX12_keeps_40 : decode cX12_keeps 40 = .ok (.dup, 1) := by decide +kernel
theorem dX12_keeps_41 : decode cX12_keeps 41 = .ok (.getfield 269, 3) := by decide +kernel
theorem dX12_keeps_44 : decode cX12_keeps 44 = .ok (.iconst 1, 1) := by decide +kernel
theorem dX12_keeps_45 : decode cX12_keeps 45 = .ok (.isub, 1) := by decide +kernel
theorem dX12_keeps_46 : decode cX12_keeps 46 = .ok (.putfield 269, 3) := by decide +kernel
theorem dX12_keeps_49 : decode cX12_keeps 49 = .ok (.iconst 0, 1) := by decide +kernel
theorem dX12_keeps_50 : decode cX12_keeps 50 = .ok (.istore_n 1, 1) := by decide +kernel
theorem dX12_keeps_51 : decode cX12_keeps 51 = .ok (.iload_n 1, 1) := by decide +kernel
