theorem dL_drawn_0 : decode cL_drawn 0 = .ok (.iload_n 1, 1) := by decide +kernel
theorem dL_drawn_1 : decode cL_drawn 1 = .ok (.aload_n 0, 1) := by decide +kernel
theorem dL_drawn_2 : decode cL_drawn 2 = .ok (.arraylength, 1) := by decide +kernel
theorem dL_drawn_3 : decode cL_drawn 3 = .ok (.if_icmp .ge 9, 3) := by decide +kernel
theorem dL_drawn_6 : decode cL_drawn 6 = .ok (.aload_n 0, 1) := by decide +kernel
theorem dL_drawn_7 : decode cL_drawn 7 = .ok (.iload_n 1, 1) := by decide +kernel
theorem dL_drawn_8 : decode cL_drawn 8 = .ok (.iaload, 1) := by decide +kernel
theorem dL_drawn_9 : decode cL_drawn 9 = .ok (.goto 12, 3) := by decide +kernel
theorem dL_drawn_12 : decode cL_drawn 12 = .ok (.sipush 13469, 3) := by decide +kernel
theorem dL_drawn_15 : decode cL_drawn 15 = .ok (.iload_n 1, 1) := by decide +kernel
theorem dL_drawn_16 : decode cL_drawn 16 = .ok (.imul, 1) := by decide +kernel
theorem dL_drawn_17 : decode cL_drawn 17 = .ok (.sipush 7207, 3) := by decide +kernel
theorem dL_drawn_20 : decode cL_drawn 20 = .ok (.iadd, 1) := by decide +kernel
theorem dL_drawn_21 : decode cL_drawn 21 = .ok (.istore_n 2, 1) := by decide +kernel
theorem dL_drawn_22 : decode cL_drawn 22 = .ok (.iload_n 2, 1) := by decide +kernel
theorem dL_drawn_23 : decode cL_drawn 23 = .ok (.ldc 7, 2) := by decide +kernel
theorem dL_drawn_25 : decode cL_drawn 25 = .ok (.iand, 1) := by decide +kernel
theorem dL_drawn_26 : decode cL_drawn 26 = .ok (.ireturn, 1) := by decide +kernel
theorem dL_does_0 : decode cL_does 0 = .ok (.iload_n 1, 1) := by decide +kernel
theorem dL_does_1 : decode cL_does 1 = .ok (.ifCond .ne 14, 3) := by decide +kernel
theorem dL_does_4 : decode cL_does 4 = .ok (.aload_n 0, 1) := by decide +kernel
theorem dL_does_5 : decode cL_does 5 = .ok (.iload_n 2, 1) := by decide +kernel
theorem dL_does_6 : decode cL_does 6 = .ok (.iload_n 3, 1) := by decide +kernel
theorem dL_does_7 : decode cL_does 7 = .ok (.iload 4, 2) := by decide +kernel
theorem dL_does_9 : decode cL_does 9 = .ok (.invokevirtual 8, 3) := by decide +kernel
theorem dL_does_12 : decode cL_does 12 = .ok (.goto 253, 3) := by decide +kernel
theorem dL_does_15 : decode cL_does 15 = .ok (.iload_n 1, 1) := by decide +kernel
theorem dL_does_16 : decode cL_does 16 = .ok (.iconst 1, 1) := by decide +kernel
theorem dL_does_17 : decode cL_does 17 = .ok (.if_icmp .ne 11, 3) := by decide +kernel
theorem dL_does_20 : decode cL_does 20 = .ok (.aload_n 0, 1) := by decide +kernel
theorem dL_does_21 : decode cL_does 21 = .ok (.iload_n 2, 1) := by decide +kernel
theorem dL_does_22 : decode cL_does 22 = .ok (.invokevirtual 14, 3) := by decide +kernel
theorem dL_does_25 : decode cL_does 25 = .ok (.goto 240, 3) := by decide +kernel
theorem dL_does_28 : decode cL_does 28 = .ok (.iload_n 1, 1) := by decide +kernel
theorem dL_does_29 : decode cL_does 29 = .ok (.iconst 2, 1) := by decide +kernel
theorem dL_does_30 : decode cL_does 30 = .ok (.if_icmp .ne 12, 3) := by decide +kernel
theorem dL_does_33 : decode cL_does 33 = .ok (.aload_n 0, 1) := by decide +kernel
theorem dL_does_34 : decode cL_does 34 = .ok (.iload_n 2, 1) := by decide +kernel
theorem dL_does_35 : decode cL_does 35 = .ok (.iload_n 3, 1) := by decide +kernel
theorem dL_does_36 : decode cL_does 36 = .ok (.invokevirtual 18, 3) := by decide +kernel
theorem dL_does_39 : decode cL_does 39 = .ok (.goto 226, 3) := by decide +kernel
theorem dL_does_42 : decode cL_does 42 = .ok (.iload_n 1, 1) := by decide +kernel
theorem dL_does_43 : decode cL_does 43 = .ok (.iconst 3, 1) := by decide +kernel
theorem dL_does_44 : decode cL_does 44 = .ok (.if_icmp .ne 12, 3) := by decide +kernel
theorem dL_does_47 : decode cL_does 47 = .ok (.aload_n 0, 1) := by decide +kernel
theorem dL_does_48 : decode cL_does 48 = .ok (.iload_n 2, 1) := by decide +kernel
theorem dL_does_49 : decode cL_does 49 = .ok (.iload_n 3, 1) := by decide +kernel
theorem dL_does_50 : decode cL_does 50 = .ok (.invokevirtual 22, 3) := by decide +kernel
theorem dL_does_53 : decode cL_does 53 = .ok (.goto 212, 3) := by decide +kernel
theorem dL_does_56 : decode cL_does 56 = .ok (.iload_n 1, 1) := by decide +kernel
theorem dL_does_57 : decode cL_does 57 = .ok (.iconst 4, 1) := by decide +kernel
theorem dL_does_58 : decode cL_does 58 = .ok (.if_icmp .ne 11, 3) := by decide +kernel
theorem dL_does_61 : decode cL_does 61 = .ok (.aload_n 0, 1) := by decide +kernel
theorem dL_does_62 : decode cL_does 62 = .ok (.iload_n 2, 1) := by decide +kernel
theorem dL_does_63 : decode cL_does 63 = .ok (.invokevirtual 25, 3) := by decide +kernel
theorem dL_does_66 : decode cL_does 66 = .ok (.goto 199, 3) := by decide +kernel
theorem dL_does_69 : decode cL_does 69 = .ok (.iload_n 1, 1) := by decide +kernel
theorem dL_does_70 : decode cL_does 70 = .ok (.iconst 5, 1) := by decide +kernel
theorem dL_does_71 : decode cL_does 71 = .ok (.if_icmp .ne 18, 3) := by decide +kernel
theorem dL_does_74 : decode cL_does 74 = .ok (.aload_n 0, 1) := by decide +kernel
theorem dL_does_75 : decode cL_does 75 = .ok (.iload_n 2, 1) := by decide +kernel
theorem dL_does_76 : decode cL_does 76 = .ok (.iload_n 3, 1) := by decide +kernel
theorem dL_does_77 : decode cL_does 77 = .ok (.iload 4, 2) := by decide +kernel
theorem dL_does_79 : decode cL_does 79 = .ok (.iload 5, 2) := by decide +kernel
theorem dL_does_81 : decode cL_does 81 = .ok (.iload 6, 2) := by decide +kernel
theorem dL_does_83 : decode cL_does 83 = .ok (.invokevirtual 28, 3) := by decide +kernel
theorem dL_does_86 : decode cL_does 86 = .ok (.goto 179, 3) := by decide +kernel
theorem dL_does_89 : decode cL_does 89 = .ok (.iload_n 1, 1) := by decide +kernel
theorem dL_does_90 : decode cL_does 90 = .ok (.bipush 6, 2) := by decide +kernel
theorem dL_does_92 : decode cL_does 92 = .ok (.if_icmp .ne 12, 3) := by decide +kernel
theorem dL_does_95 : decode cL_does 95 = .ok (.aload_n 0, 1) := by decide +kernel
theorem dL_does_96 : decode cL_does 96 = .ok (.iload_n 2, 1) := by decide +kernel
theorem dL_does_97 : decode cL_does 97 = .ok (.iload_n 3, 1) := by decide +kernel
theorem dL_does_98 : decode cL_does 98 = .ok (.invokevirtual 32, 3) := by decide +kernel
theorem dL_does_101 : decode cL_does 101 = .ok (.goto 164, 3) := by decide +kernel
theorem dL_does_104 : decode cL_does 104 = .ok (.iload_n 1, 1) := by decide +kernel
theorem dL_does_105 : decode cL_does 105 = .ok (.bipush 7, 2) := by decide +kernel
theorem dL_does_107 : decode cL_does 107 = .ok (.if_icmp .ne 14, 3) := by decide +kernel
theorem dL_does_110 : decode cL_does 110 = .ok (.aload_n 0, 1) := by decide +kernel
theorem dL_does_111 : decode cL_does 111 = .ok (.iload_n 2, 1) := by decide +kernel
theorem dL_does_112 : decode cL_does 112 = .ok (.iload_n 3, 1) := by decide +kernel
theorem dL_does_113 : decode cL_does 113 = .ok (.iload 4, 2) := by decide +kernel
theorem dL_does_115 : decode cL_does 115 = .ok (.invokevirtual 35, 3) := by decide +kernel
theorem dL_does_118 : decode cL_does 118 = .ok (.goto 147, 3) := by decide +kernel
theorem dL_does_121 : decode cL_does 121 = .ok (.iload_n 1, 1) := by decide +kernel
theorem dL_does_122 : decode cL_does 122 = .ok (.bipush 8, 2) := by decide +kernel
theorem dL_does_124 : decode cL_does 124 = .ok (.if_icmp .ne 14, 3) := by decide +kernel
theorem dL_does_127 : decode cL_does 127 = .ok (.aload_n 0, 1) := by decide +kernel
theorem dL_does_128 : decode cL_does 128 = .ok (.iload_n 2, 1) := by decide +kernel
theorem dL_does_129 : decode cL_does 129 = .ok (.iload_n 3, 1) := by decide +kernel
theorem dL_does_130 : decode cL_does 130 = .ok (.iload 4, 2) := by decide +kernel
theorem dL_does_132 : decode cL_does 132 = .ok (.invokevirtual 38, 3) := by decide +kernel
theorem dL_does_135 : decode cL_does 135 = .ok (.goto 130, 3) := by decide +kernel
theorem dL_does_138 : decode cL_does 138 = .ok (.iload_n 1, 1) := by decide +kernel
theorem dL_does_139 : decode cL_does 139 = .ok (.bipush 9, 2) := by decide +kernel
theorem dL_does_141 : decode cL_does 141 = .ok (.if_icmp .ne 16, 3) := by decide +kernel
theorem dL_does_144 : decode cL_does 144 = .ok (.aload_n 0, 1) := by decide +kernel
theorem dL_does_145 : decode cL_does 145 = .ok (.iload_n 2, 1) := by decide +kernel
theorem dL_does_146 : decode cL_does 146 = .ok (.iload_n 3, 1) := by decide +kernel
theorem dL_does_147 : decode cL_does 147 = .ok (.iload 4, 2) := by decide +kernel
theorem dL_does_149 : decode cL_does 149 = .ok (.iload 5, 2) := by decide +kernel
theorem dL_does_151 : decode cL_does 151 = .ok (.invokevirtual 41, 3) := by decide +kernel
theorem dL_does_154 : decode cL_does 154 = .ok (.goto 111, 3) := by decide +kernel
theorem dL_does_157 : decode cL_does 157 = .ok (.iload_n 1, 1) := by decide +kernel
theorem dL_does_158 : decode cL_does 158 = .ok (.bipush 10, 2) := by decide +kernel
theorem dL_does_160 : decode cL_does 160 = .ok (.if_icmp .ne 11, 3) := by decide +kernel
theorem dL_does_163 : decode cL_does 163 = .ok (.aload_n 0, 1) := by decide +kernel
theorem dL_does_164 : decode cL_does 164 = .ok (.iload_n 2, 1) := by decide +kernel
theorem dL_does_165 : decode cL_does 165 = .ok (.invokevirtual 45, 3) := by decide +kernel
theorem dL_does_168 : decode cL_does 168 = .ok (.goto 97, 3) := by decide +kernel
theorem dL_does_171 : decode cL_does 171 = .ok (.iload_n 1, 1) := by decide +kernel
theorem dL_does_172 : decode cL_does 172 = .ok (.bipush 11, 2) := by decide +kernel
theorem dL_does_174 : decode cL_does 174 = .ok (.if_icmp .ne 11, 3) := by decide +kernel
theorem dL_does_177 : decode cL_does 177 = .ok (.aload_n 0, 1) := by decide +kernel
theorem dL_does_178 : decode cL_does 178 = .ok (.iload_n 2, 1) := by decide +kernel
theorem dL_does_179 : decode cL_does 179 = .ok (.invokevirtual 48, 3) := by decide +kernel
theorem dL_does_182 : decode cL_does 182 = .ok (.goto 83, 3) := by decide +kernel
theorem dL_does_185 : decode cL_does 185 = .ok (.iload_n 1, 1) := by decide +kernel
theorem dL_does_186 : decode cL_does 186 = .ok (.bipush 12, 2) := by decide +kernel
theorem dL_does_188 : decode cL_does 188 = .ok (.if_icmp .ne 12, 3) := by decide +kernel
theorem dL_does_191 : decode cL_does 191 = .ok (.aload_n 0, 1) := by decide +kernel
theorem dL_does_192 : decode cL_does 192 = .ok (.iload_n 2, 1) := by decide +kernel
theorem dL_does_193 : decode cL_does 193 = .ok (.iload_n 3, 1) := by decide +kernel
theorem dL_does_194 : decode cL_does 194 = .ok (.invokevirtual 51, 3) := by decide +kernel
theorem dL_does_197 : decode cL_does 197 = .ok (.goto 68, 3) := by decide +kernel
theorem dL_does_200 : decode cL_does 200 = .ok (.iload_n 1, 1) := by decide +kernel
theorem dL_does_201 : decode cL_does 201 = .ok (.bipush 13, 2) := by decide +kernel
theorem dL_does_203 : decode cL_does 203 = .ok (.if_icmp .ne 12, 3) := by decide +kernel
theorem dL_does_206 : decode cL_does 206 = .ok (.aload_n 0, 1) := by decide +kernel
theorem dL_does_207 : decode cL_does 207 = .ok (.iload_n 2, 1) := by decide +kernel
theorem dL_does_208 : decode cL_does 208 = .ok (.iload_n 3, 1) := by decide +kernel
theorem dL_does_209 : decode cL_does 209 = .ok (.invokevirtual 54, 3) := by decide +kernel
theorem dL_does_212 : decode cL_does 212 = .ok (.goto 53, 3) := by decide +kernel
theorem dL_does_215 : decode cL_does 215 = .ok (.iload_n 1, 1) := by decide +kernel
theorem dL_does_216 : decode cL_does 216 = .ok (.bipush 14, 2) := by decide +kernel
theorem dL_does_218 : decode cL_does 218 = .ok (.if_icmp .ne 12, 3) := by decide +kernel
theorem dL_does_221 : decode cL_does 221 = .ok (.aload_n 0, 1) := by decide +kernel
theorem dL_does_222 : decode cL_does 222 = .ok (.iload_n 2, 1) := by decide +kernel
theorem dL_does_223 : decode cL_does 223 = .ok (.iload_n 3, 1) := by decide +kernel
theorem dL_does_224 : decode cL_does 224 = .ok (.invokevirtual 57, 3) := by decide +kernel
theorem dL_does_227 : decode cL_does 227 = .ok (.goto 38, 3) := by decide +kernel
theorem dL_does_230 : decode cL_does 230 = .ok (.iload_n 1, 1) := by decide +kernel
theorem dL_does_231 : decode cL_does 231 = .ok (.bipush 15, 2) := by decide +kernel
theorem dL_does_233 : decode cL_does 233 = .ok (.if_icmp .ne 12, 3) := by decide +kernel
theorem dL_does_236 : decode cL_does 236 = .ok (.aload_n 0, 1) := by decide +kernel
theorem dL_does_237 : decode cL_does 237 = .ok (.iload_n 2, 1) := by decide +kernel
theorem dL_does_238 : decode cL_does 238 = .ok (.iload_n 3, 1) := by decide +kernel
theorem dL_does_239 : decode cL_does 239 = .ok (.invokevirtual 60, 3) := by decide +kernel
theorem dL_does_242 : decode cL_does 242 = .ok (.goto 23, 3) := by decide +kernel
theorem dL_does_245 : decode cL_does 245 = .ok (.iload_n 1, 1) := by decide +kernel
theorem dL_does_246 : decode cL_does 246 = .ok (.bipush 16, 2) := by decide +kernel
theorem dL_does_248 : decode cL_does 248 = .ok (.if_icmp .ne 12, 3) := by decide +kernel
theorem dL_does_251 : decode cL_does 251 = .ok (.aload_n 0, 1) := by decide +kernel
theorem dL_does_252 : decode cL_does 252 = .ok (.iload_n 2, 1) := by decide +kernel
theorem dL_does_253 : decode cL_does 253 = .ok (.iload_n 3, 1) := by decide +kernel
theorem dL_does_254 : decode cL_does 254 = .ok (.invokevirtual 63, 3) := by decide +kernel
theorem dL_does_257 : decode cL_does 257 = .ok (.goto 8, 3) := by decide +kernel
theorem dL_does_260 : decode cL_does 260 = .ok (.aload_n 0, 1) := by decide +kernel
theorem dL_does_261 : decode cL_does 261 = .ok (.iload_n 2, 1) := by decide +kernel
theorem dL_does_262 : decode cL_does 262 = .ok (.invokevirtual 66, 3) := by decide +kernel
theorem dL_does_265 : decode cL_does 265 = .ok (.ireturn, 1) := by decide +kernel
theorem dL_does_266 : decode cL_does 266 = .ok (.astore 7, 2) := by decide +kernel
theorem dL_does_268 : decode cL_does 268 = .ok (.bipush (-9), 2) := by decide +kernel
theorem dL_does_270 : decode cL_does 270 = .ok (.ireturn, 1) := by decide +kernel
theorem dL_does_271 : decode cL_does 271 = .ok (.astore 7, 2) := by decide +kernel
theorem dL_does_273 : decode cL_does 273 = .ok (.bipush (-9), 2) := by decide +kernel
theorem dL_does_275 : decode cL_does 275 = .ok (.ireturn, 1) := by decide +kernel
theorem dL_does_276 : decode cL_does 276 = .ok (.astore 7, 2) := by decide +kernel
theorem dL_does_278 : decode cL_does 278 = .ok (.bipush (-9), 2) := by decide +kernel
theorem dL_does_280 : decode cL_does 280 = .ok (.ireturn, 1) := by decide +kernel
theorem dL_rule_0 : decode cL_rule 0 = .ok (.aload_n 0, 1) := by decide +kernel
theorem dL_rule_1 : decode cL_rule 1 = .ok (.iload_n 1, 1) := by decide +kernel
theorem dL_rule_2 : decode cL_rule 2 = .ok (.iload_n 2, 1) := by decide +kernel
theorem dL_rule_3 : decode cL_rule 3 = .ok (.iload_n 3, 1) := by decide +kernel
theorem dL_rule_4 : decode cL_rule 4 = .ok (.iload 4, 2) := by decide +kernel
theorem dL_rule_6 : decode cL_rule 6 = .ok (.iload 5, 2) := by decide +kernel
theorem dL_rule_8 : decode cL_rule 8 = .ok (.iload 6, 2) := by decide +kernel
theorem dL_rule_10 : decode cL_rule 10 = .ok (.invokevirtual 75, 3) := by decide +kernel
theorem dL_rule_13 : decode cL_rule 13 = .ok (.ireturn, 1) := by decide +kernel
theorem dL_rule_14 : decode cL_rule 14 = .ok (.astore 7, 2) := by decide +kernel
theorem dL_rule_16 : decode cL_rule 16 = .ok (.bipush (-9), 2) := by decide +kernel
theorem dL_rule_18 : decode cL_rule 18 = .ok (.ireturn, 1) := by decide +kernel
theorem dL_rule_19 : decode cL_rule 19 = .ok (.astore 7, 2) := by decide +kernel
theorem dL_rule_21 : decode cL_rule 21 = .ok (.bipush (-9), 2) := by decide +kernel
theorem dL_rule_23 : decode cL_rule 23 = .ok (.ireturn, 1) := by decide +kernel
theorem dL_is_0 : decode cL_is 0 = .ok (.iload_n 1, 1) := by decide +kernel
theorem dL_is_1 : decode cL_is 1 = .ok (.ifCond .ne 24, 3) := by decide +kernel
theorem dL_is_4 : decode cL_is 4 = .ok (.aload_n 0, 1) := by decide +kernel
theorem dL_is_5 : decode cL_is 5 = .ok (.iload_n 2, 1) := by decide +kernel
theorem dL_is_6 : decode cL_is 6 = .ok (.iload_n 3, 1) := by decide +kernel
theorem dL_is_7 : decode cL_is 7 = .ok (.iconst 1, 1) := by decide +kernel
theorem dL_is_8 : decode cL_is 8 = .ok (.if_icmp .ne 7, 3) := by decide +kernel
theorem dL_is_11 : decode cL_is 11 = .ok (.iconst 1, 1) := by decide +kernel
theorem dL_is_12 : decode cL_is 12 = .ok (.goto 4, 3) := by decide +kernel
theorem dL_is_15 : decode cL_is 15 = .ok (.iconst 0, 1) := by decide +kernel
theorem dL_is_16 : decode cL_is 16 = .ok (.invokevirtual 79, 3) := by decide +kernel
theorem dL_is_19 : decode cL_is 19 = .ok (.ifCond .eq 19, 3) := by decide +kernel
theorem dL_is_22 : decode cL_is 22 = .ok (.goto 12, 3) := by decide +kernel
theorem dL_is_25 : decode cL_is 25 = .ok (.aload_n 0, 1) := by decide +kernel
theorem dL_is_26 : decode cL_is 26 = .ok (.iload_n 2, 1) := by decide +kernel
theorem dL_is_27 : decode cL_is 27 = .ok (.iload_n 3, 1) := by decide +kernel
theorem dL_is_28 : decode cL_is 28 = .ok (.invokevirtual 83, 3) := by decide +kernel
theorem dL_is_31 : decode cL_is 31 = .ok (.ifCond .eq 7, 3) := by decide +kernel
theorem dL_is_34 : decode cL_is 34 = .ok (.iconst 1, 1) := by decide +kernel
theorem dL_is_35 : decode cL_is 35 = .ok (.goto 4, 3) := by decide +kernel
theorem dL_is_38 : decode cL_is 38 = .ok (.iconst 0, 1) := by decide +kernel
theorem dL_is_39 : decode cL_is 39 = .ok (.ireturn, 1) := by decide +kernel
theorem dL_is_40 : decode cL_is 40 = .ok (.astore 4, 2) := by decide +kernel
theorem dL_is_42 : decode cL_is 42 = .ok (.bipush (-9), 2) := by decide +kernel
theorem dL_is_44 : decode cL_is 44 = .ok (.ireturn, 1) := by decide +kernel
theorem dL_declares_0 : decode cL_declares 0 = .ok (.iload_n 3, 1) := by decide +kernel
theorem dL_declares_1 : decode cL_declares 1 = .ok (.bipush 8, 2) := by decide +kernel
theorem dL_declares_3 : decode cL_declares 3 = .ok (.idiv, 1) := by decide +kernel
theorem dL_declares_4 : decode cL_declares 4 = .ok (.istore 4, 2) := by decide +kernel
theorem dL_declares_6 : decode cL_declares 6 = .ok (.iload_n 3, 1) := by decide +kernel
theorem dL_declares_7 : decode cL_declares 7 = .ok (.bipush 8, 2) := by decide +kernel
theorem dL_declares_9 : decode cL_declares 9 = .ok (.irem, 1) := by decide +kernel
theorem dL_declares_10 : decode cL_declares 10 = .ok (.iconst 2, 1) := by decide +kernel
theorem dL_declares_11 : decode cL_declares 11 = .ok (.if_icmp .ge 18, 3) := by decide +kernel
theorem dL_declares_14 : decode cL_declares 14 = .ok (.aload_n 0, 1) := by decide +kernel
theorem dL_declares_15 : decode cL_declares 15 = .ok (.bipush 8, 2) := by decide +kernel
theorem dL_declares_17 : decode cL_declares 17 = .ok (.iload_n 1, 1) := by decide +kernel
theorem dL_declares_18 : decode cL_declares 18 = .ok (.iload_n 2, 1) := by decide +kernel
theorem dL_declares_19 : decode cL_declares 19 = .ok (.iload 4, 2) := by decide +kernel
theorem dL_declares_21 : decode cL_declares 21 = .ok (.iconst 4, 1) := by decide +kernel
theorem dL_declares_22 : decode cL_declares 22 = .ok (.irem, 1) := by decide +kernel
theorem dL_declares_23 : decode cL_declares 23 = .ok (.iconst 0, 1) := by decide +kernel
theorem dL_declares_24 : decode cL_declares 24 = .ok (.iconst 0, 1) := by decide +kernel
theorem dL_declares_25 : decode cL_declares 25 = .ok (.invokestatic 87, 3) := by decide +kernel
theorem dL_declares_28 : decode cL_declares 28 = .ok (.ireturn, 1) := by decide +kernel
theorem dL_declares_29 : decode cL_declares 29 = .ok (.iload_n 3, 1) := by decide +kernel
theorem dL_declares_30 : decode cL_declares 30 = .ok (.bipush 8, 2) := by decide +kernel
theorem dL_declares_32 : decode cL_declares 32 = .ok (.irem, 1) := by decide +kernel
theorem dL_declares_33 : decode cL_declares 33 = .ok (.iconst 2, 1) := by decide +kernel
theorem dL_declares_34 : decode cL_declares 34 = .ok (.if_icmp .ne 31, 3) := by decide +kernel
theorem dL_declares_37 : decode cL_declares 37 = .ok (.aload_n 0, 1) := by decide +kernel
theorem dL_declares_38 : decode cL_declares 38 = .ok (.bipush 9, 2) := by decide +kernel
theorem dL_declares_40 : decode cL_declares 40 = .ok (.iload_n 1, 1) := by decide +kernel
theorem dL_declares_41 : decode cL_declares 41 = .ok (.iload_n 2, 1) := by decide +kernel
theorem dL_declares_42 : decode cL_declares 42 = .ok (.iload 4, 2) := by decide +kernel
theorem dL_declares_44 : decode cL_declares 44 = .ok (.iconst 4, 1) := by decide +kernel
theorem dL_declares_45 : decode cL_declares 45 = .ok (.irem, 1) := by decide +kernel
theorem dL_declares_46 : decode cL_declares 46 = .ok (.iload 4, 2) := by decide +kernel
theorem dL_declares_48 : decode cL_declares 48 = .ok (.iconst 4, 1) := by decide +kernel
theorem dL_declares_49 : decode cL_declares 49 = .ok (.idiv, 1) := by decide +kernel
theorem dL_declares_50 : decode cL_declares 50 = .ok (.iconst 3, 1) := by decide +kernel
theorem dL_declares_51 : decode cL_declares 51 = .ok (.irem, 1) := by decide +kernel
theorem dL_declares_52 : decode cL_declares 52 = .ok (.ifCond .ne 7, 3) := by decide +kernel
theorem dL_declares_55 : decode cL_declares 55 = .ok (.iconst (-1), 1) := by decide +kernel
theorem dL_declares_56 : decode cL_declares 56 = .ok (.goto 4, 3) := by decide +kernel
theorem dL_declares_59 : decode cL_declares 59 = .ok (.iconst 1, 1) := by decide +kernel
theorem dL_declares_60 : decode cL_declares 60 = .ok (.iconst 0, 1) := by decide +kernel
theorem dL_declares_61 : decode cL_declares 61 = .ok (.invokestatic 87, 3) := by decide +kernel
theorem dL_declares_64 : decode cL_declares 64 = .ok (.ireturn, 1) := by decide +kernel
theorem dL_declares_65 : decode cL_declares 65 = .ok (.iload_n 2, 1) := by decide +kernel
theorem dL_declares_66 : decode cL_declares 66 = .ok (.iconst 3, 1) := by decide +kernel
theorem dL_declares_67 : decode cL_declares 67 = .ok (.if_icmp .ge 11, 3) := by decide +kernel
theorem dL_declares_70 : decode cL_declares 70 = .ok (.iload 4, 2) := by decide +kernel
theorem dL_declares_72 : decode cL_declares 72 = .ok (.bipush 90, 2) := by decide +kernel
theorem dL_declares_74 : decode cL_declares 74 = .ok (.irem, 1) := by decide +kernel
theorem dL_declares_75 : decode cL_declares 75 = .ok (.goto 38, 3) := by decide +kernel
theorem dL_declares_78 : decode cL_declares 78 = .ok (.iload_n 2, 1) := by decide +kernel
theorem dL_declares_79 : decode cL_declares 79 = .ok (.iconst 5, 1) := by decide +kernel
theorem dL_declares_80 : decode cL_declares 80 = .ok (.if_icmp .ne 10, 3) := by decide +kernel
theorem dL_declares_83 : decode cL_declares 83 = .ok (.iload 4, 2) := by decide +kernel
theorem dL_declares_85 : decode cL_declares 85 = .ok (.iconst 4, 1) := by decide +kernel
theorem dL_declares_86 : decode cL_declares 86 = .ok (.irem, 1) := by decide +kernel
theorem dL_declares_87 : decode cL_declares 87 = .ok (.goto 26, 3) := by decide +kernel
theorem dL_declares_90 : decode cL_declares 90 = .ok (.iload_n 2, 1) := by decide +kernel
theorem dL_declares_91 : decode cL_declares 91 = .ok (.bipush 7, 2) := by decide +kernel
theorem dL_declares_93 : decode cL_declares 93 = .ok (.if_icmp .ne 13, 3) := by decide +kernel
theorem dL_declares_96 : decode cL_declares 96 = .ok (.iconst 1, 1) := by decide +kernel
theorem dL_declares_97 : decode cL_declares 97 = .ok (.iload 4, 2) := by decide +kernel
theorem dL_declares_99 : decode cL_declares 99 = .ok (.bipush 6, 2) := by decide +kernel
theorem dL_declares_101 : decode cL_declares 101 = .ok (.irem, 1) := by decide +kernel
theorem dL_declares_102 : decode cL_declares 102 = .ok (.iadd, 1) := by decide +kernel
theorem dL_declares_103 : decode cL_declares 103 = .ok (.goto 10, 3) := by decide +kernel
theorem dL_declares_106 : decode cL_declares 106 = .ok (.iconst 1, 1) := by decide +kernel
theorem dL_declares_107 : decode cL_declares 107 = .ok (.iload 4, 2) := by decide +kernel
theorem dL_declares_109 : decode cL_declares 109 = .ok (.bipush 9, 2) := by decide +kernel
theorem dL_declares_111 : decode cL_declares 111 = .ok (.irem, 1) := by decide +kernel
theorem dL_declares_112 : decode cL_declares 112 = .ok (.iadd, 1) := by decide +kernel
theorem dL_declares_113 : decode cL_declares 113 = .ok (.istore 5, 2) := by decide +kernel
theorem dL_declares_115 : decode cL_declares 115 = .ok (.aload_n 0, 1) := by decide +kernel
theorem dL_declares_116 : decode cL_declares 116 = .ok (.bipush 7, 2) := by decide +kernel
theorem dL_declares_118 : decode cL_declares 118 = .ok (.iload_n 1, 1) := by decide +kernel
theorem dL_declares_119 : decode cL_declares 119 = .ok (.iload_n 2, 1) := by decide +kernel
theorem dL_declares_120 : decode cL_declares 120 = .ok (.iload 5, 2) := by decide +kernel
theorem dL_declares_122 : decode cL_declares 122 = .ok (.iconst 0, 1) := by decide +kernel
theorem dL_declares_123 : decode cL_declares 123 = .ok (.iconst 0, 1) := by decide +kernel
theorem dL_declares_124 : decode cL_declares 124 = .ok (.invokestatic 87, 3) := by decide +kernel
theorem dL_declares_127 : decode cL_declares 127 = .ok (.ireturn, 1) := by decide +kernel
theorem dL_law_0 : decode cL_law 0 = .ok (.new 9, 3) := by decide +kernel
theorem dL_law_3 : decode cL_law 3 = .ok (.dup, 1) := by decide +kernel
theorem dL_law_4 : decode cL_law 4 = .ok (.invokespecial 93, 3) := by decide +kernel
theorem dL_law_7 : decode cL_law 7 = .ok (.astore_n 1, 1) := by decide +kernel
theorem dL_law_8 : decode cL_law 8 = .ok (.new 9, 3) := by decide +kernel
theorem dL_law_11 : decode cL_law 11 = .ok (.dup, 1) := by decide +kernel
theorem dL_law_12 : decode cL_law 12 = .ok (.invokespecial 93, 3) := by decide +kernel
theorem dL_law_15 : decode cL_law 15 = .ok (.astore_n 2, 1) := by decide +kernel
theorem dL_law_16 : decode cL_law 16 = .ok (.bipush 10, 2) := by decide +kernel
theorem dL_law_18 : decode cL_law 18 = .ok (.newarray .int, 2) := by decide +kernel
theorem dL_law_20 : decode cL_law 20 = .ok (.astore_n 3, 1) := by decide +kernel
theorem dL_law_21 : decode cL_law 21 = .ok (.bipush 10, 2) := by decide +kernel
theorem dL_law_23 : decode cL_law 23 = .ok (.newarray .int, 2) := by decide +kernel
theorem dL_law_25 : decode cL_law 25 = .ok (.astore 4, 2) := by decide +kernel
theorem dL_law_27 : decode cL_law 27 = .ok (.bipush 10, 2) := by decide +kernel
theorem dL_law_29 : decode cL_law 29 = .ok (.newarray .int, 2) := by decide +kernel
theorem dL_law_31 : decode cL_law 31 = .ok (.astore 5, 2) := by decide +kernel
theorem dL_law_33 : decode cL_law 33 = .ok (.bipush 6, 2) := by decide +kernel
theorem dL_law_35 : decode cL_law 35 = .ok (.newarray .int, 2) := by decide +kernel
theorem dL_law_37 : decode cL_law 37 = .ok (.astore 6, 2) := by decide +kernel
theorem dL_law_39 : decode cL_law 39 = .ok (.bipush 60, 2) := by decide +kernel
theorem dL_law_41 : decode cL_law 41 = .ok (.newarray .int, 2) := by decide +kernel
theorem dL_law_43 : decode cL_law 43 = .ok (.astore 7, 2) := by decide +kernel
theorem dL_law_45 : decode cL_law 45 = .ok (.bipush 100, 2) := by decide +kernel
theorem dL_law_47 : decode cL_law 47 = .ok (.istore 8, 2) := by decide +kernel
theorem dL_law_49 : decode cL_law 49 = .ok (.iconst 1, 1) := by decide +kernel
theorem dL_law_50 : decode cL_law 50 = .ok (.istore 9, 2) := by decide +kernel
theorem dL_law_52 : decode cL_law 52 = .ok (.iconst 1, 1) := by decide +kernel
theorem dL_law_53 : decode cL_law 53 = .ok (.istore 10, 2) := by decide +kernel
theorem dL_law_55 : decode cL_law 55 = .ok (.iload 10, 2) := by decide +kernel
theorem dL_law_57 : decode cL_law 57 = .ok (.bipush 10, 2) := by decide +kernel
theorem dL_law_59 : decode cL_law 59 = .ok (.if_icmp .ge 74, 3) := by decide +kernel
theorem dL_law_62 : decode cL_law 62 = .ok (.iload 9, 2) := by decide +kernel
theorem dL_law_64 : decode cL_law 64 = .ok (.ifCond .eq 69, 3) := by decide +kernel
theorem dL_law_67 : decode cL_law 67 = .ok (.aload_n 0, 1) := by decide +kernel
theorem dL_law_68 : decode cL_law 68 = .ok (.iload 10, 2) := by decide +kernel
theorem dL_law_70 : decode cL_law 70 = .ok (.invokestatic 94, 3) := by decide +kernel
theorem dL_law_73 : decode cL_law 73 = .ok (.istore 11, 2) := by decide +kernel
theorem dL_law_75 : decode cL_law 75 = .ok (.aload_n 1, 1) := by decide +kernel
theorem dL_law_76 : decode cL_law 76 = .ok (.iconst 0, 1) := by decide +kernel
theorem dL_law_77 : decode cL_law 77 = .ok (.iload 11, 2) := by decide +kernel
theorem dL_law_79 : decode cL_law 79 = .ok (.iload 10, 2) := by decide +kernel
theorem dL_law_81 : decode cL_law 81 = .ok (.irem, 1) := by decide +kernel
theorem dL_law_82 : decode cL_law 82 = .ok (.iload 11, 2) := by decide +kernel
theorem dL_law_84 : decode cL_law 84 = .ok (.bipush 9, 2) := by decide +kernel
theorem dL_law_86 : decode cL_law 86 = .ok (.idiv, 1) := by decide +kernel
theorem dL_law_87 : decode cL_law 87 = .ok (.bipush 6, 2) := by decide +kernel
theorem dL_law_89 : decode cL_law 89 = .ok (.irem, 1) := by decide +kernel
theorem dL_law_90 : decode cL_law 90 = .ok (.iload 11, 2) := by decide +kernel
theorem dL_law_92 : decode cL_law 92 = .ok (.bipush 54, 2) := by decide +kernel
theorem dL_law_94 : decode cL_law 94 = .ok (.idiv, 1) := by decide +kernel
theorem dL_law_95 : decode cL_law 95 = .ok (.bipush 16, 2) := by decide +kernel
theorem dL_law_97 : decode cL_law 97 = .ok (.irem, 1) := by decide +kernel
theorem dL_law_98 : decode cL_law 98 = .ok (.iconst 0, 1) := by decide +kernel
theorem dL_law_99 : decode cL_law 99 = .ok (.iconst 0, 1) := by decide +kernel
theorem dL_law_100 : decode cL_law 100 = .ok (.invokestatic 87, 3) := by decide +kernel
theorem dL_law_103 : decode cL_law 103 = .ok (.iload 10, 2) := by decide +kernel
theorem dL_law_105 : decode cL_law 105 = .ok (.if_icmp .ne 7, 3) := by decide +kernel
theorem dL_law_108 : decode cL_law 108 = .ok (.iconst 1, 1) := by decide +kernel
theorem dL_law_109 : decode cL_law 109 = .ok (.goto 4, 3) := by decide +kernel
theorem dL_law_112 : decode cL_law 112 = .ok (.iconst 0, 1) := by decide +kernel
theorem dL_law_113 : decode cL_law 113 = .ok (.istore 9, 2) := by decide +kernel
theorem dL_law_115 : decode cL_law 115 = .ok (.aload_n 3, 1) := by decide +kernel
theorem dL_law_116 : decode cL_law 116 = .ok (.iload 10, 2) := by decide +kernel
theorem dL_law_118 : decode cL_law 118 = .ok (.iload 11, 2) := by decide +kernel
theorem dL_law_120 : decode cL_law 120 = .ok (.bipush 54, 2) := by decide +kernel
theorem dL_law_122 : decode cL_law 122 = .ok (.idiv, 1) := by decide +kernel
theorem dL_law_123 : decode cL_law 123 = .ok (.bipush 16, 2) := by decide +kernel
theorem dL_law_125 : decode cL_law 125 = .ok (.irem, 1) := by decide +kernel
theorem dL_law_126 : decode cL_law 126 = .ok (.iastore, 1) := by decide +kernel
theorem dL_law_127 : decode cL_law 127 = .ok (.iinc 10 1, 3) := by decide +kernel
theorem dL_law_130 : decode cL_law 130 = .ok (.goto (-75), 3) := by decide +kernel
theorem dL_law_133 : decode cL_law 133 = .ok (.iconst 0, 1) := by decide +kernel
theorem dL_law_134 : decode cL_law 134 = .ok (.istore 10, 2) := by decide +kernel
theorem dL_law_136 : decode cL_law 136 = .ok (.iload 10, 2) := by decide +kernel
theorem dL_law_138 : decode cL_law 138 = .ok (.bipush 6, 2) := by decide +kernel
theorem dL_law_140 : decode cL_law 140 = .ok (.if_icmp .ge 114, 3) := by decide +kernel
theorem dL_law_143 : decode cL_law 143 = .ok (.iload 9, 2) := by decide +kernel
theorem dL_law_145 : decode cL_law 145 = .ok (.ifCond .eq 109, 3) := by decide +kernel
theorem dL_law_148 : decode cL_law 148 = .ok (.aload_n 0, 1) := by decide +kernel
theorem dL_law_149 : decode cL_law 149 = .ok (.bipush 10, 2) := by decide +kernel
theorem dL_law_151 : decode cL_law 151 = .ok (.iload 10, 2) := by decide +kernel
theorem dL_law_153 : decode cL_law 153 = .ok (.iadd, 1) := by decide +kernel
theorem dL_law_154 : decode cL_law 154 = .ok (.invokestatic 94, 3) := by decide +kernel
theorem dL_law_157 : decode cL_law 157 = .ok (.istore 11, 2) := by decide +kernel
theorem dL_law_159 : decode cL_law 159 = .ok (.aload_n 1, 1) := by decide +kernel
theorem dL_law_160 : decode cL_law 160 = .ok (.iload 11, 2) := by decide +kernel
theorem dL_law_162 : decode cL_law 162 = .ok (.iconst 3, 1) := by decide +kernel
theorem dL_law_163 : decode cL_law 163 = .ok (.irem, 1) := by decide +kernel
theorem dL_law_164 : decode cL_law 164 = .ok (.ifCond .ne 13, 3) := by decide +kernel
theorem dL_law_167 : decode cL_law 167 = .ok (.iload 11, 2) := by decide +kernel
theorem dL_law_169 : decode cL_law 169 = .ok (.iconst 3, 1) := by decide +kernel
theorem dL_law_170 : decode cL_law 170 = .ok (.idiv, 1) := by decide +kernel
theorem dL_law_171 : decode cL_law 171 = .ok (.bipush 6, 2) := by decide +kernel
theorem dL_law_173 : decode cL_law 173 = .ok (.irem, 1) := by decide +kernel
theorem dL_law_174 : decode cL_law 174 = .ok (.goto 4, 3) := by decide +kernel
theorem dL_law_177 : decode cL_law 177 = .ok (.iconst (-1), 1) := by decide +kernel
theorem dL_law_178 : decode cL_law 178 = .ok (.iload 11, 2) := by decide +kernel
theorem dL_law_180 : decode cL_law 180 = .ok (.bipush 18, 2) := by decide +kernel
theorem dL_law_182 : decode cL_law 182 = .ok (.idiv, 1) := by decide +kernel
theorem dL_law_183 : decode cL_law 183 = .ok (.iconst 4, 1) := by decide +kernel
theorem dL_law_184 : decode cL_law 184 = .ok (.irem, 1) := by decide +kernel
theorem dL_law_185 : decode cL_law 185 = .ok (.iload 11, 2) := by decide +kernel
theorem dL_law_187 : decode cL_law 187 = .ok (.bipush 72, 2) := by decide +kernel
theorem dL_law_189 : decode cL_law 189 = .ok (.idiv, 1) := by decide +kernel
theorem dL_law_190 : decode cL_law 190 = .ok (.iconst 2, 1) := by decide +kernel
theorem dL_law_191 : decode cL_law 191 = .ok (.irem, 1) := by decide +kernel
theorem dL_law_192 : decode cL_law 192 = .ok (.bipush 8, 2) := by decide +kernel
theorem dL_law_194 : decode cL_law 194 = .ok (.imul, 1) := by decide +kernel
theorem dL_law_195 : decode cL_law 195 = .ok (.iload 11, 2) := by decide +kernel
theorem dL_law_197 : decode cL_law 197 = .ok (.sipush 144, 3) := by decide +kernel
theorem dL_law_200 : decode cL_law 200 = .ok (.idiv, 1) := by decide +kernel
theorem dL_law_201 : decode cL_law 201 = .ok (.iconst 2, 1) := by decide +kernel
theorem dL_law_202 : decode cL_law 202 = .ok (.irem, 1) := by decide +kernel
theorem dL_law_203 : decode cL_law 203 = .ok (.iload 11, 2) := by decide +kernel
theorem dL_law_205 : decode cL_law 205 = .ok (.sipush 288, 3) := by decide +kernel
theorem dL_law_208 : decode cL_law 208 = .ok (.idiv, 1) := by decide +kernel
theorem dL_law_209 : decode cL_law 209 = .ok (.iconst 3, 1) := by decide +kernel
theorem dL_law_210 : decode cL_law 210 = .ok (.irem, 1) := by decide +kernel
theorem dL_law_211 : decode cL_law 211 = .ok (.iload 11, 2) := by decide +kernel
theorem dL_law_213 : decode cL_law 213 = .ok (.sipush 864, 3) := by decide +kernel
theorem dL_law_216 : decode cL_law 216 = .ok (.idiv, 1) := by decide +kernel
theorem dL_law_217 : decode cL_law 217 = .ok (.iconst 3, 1) := by decide +kernel
theorem dL_law_218 : decode cL_law 218 = .ok (.irem, 1) := by decide +kernel
theorem dL_law_219 : decode cL_law 219 = .ok (.ifCond .ne 7, 3) := by decide +kernel
theorem dL_law_222 : decode cL_law 222 = .ok (.iconst 1, 1) := by decide +kernel
theorem dL_law_223 : decode cL_law 223 = .ok (.goto 4, 3) := by decide +kernel
theorem dL_law_226 : decode cL_law 226 = .ok (.iconst 0, 1) := by decide +kernel
theorem dL_law_227 : decode cL_law 227 = .ok (.invokestatic 98, 3) := by decide +kernel
theorem dL_law_230 : decode cL_law 230 = .ok (.iload 10, 2) := by decide +kernel
theorem dL_law_232 : decode cL_law 232 = .ok (.if_icmp .ne 7, 3) := by decide +kernel
theorem dL_law_235 : decode cL_law 235 = .ok (.iconst 1, 1) := by decide +kernel
theorem dL_law_236 : decode cL_law 236 = .ok (.goto 4, 3) := by decide +kernel
theorem dL_law_239 : decode cL_law 239 = .ok (.iconst 0, 1) := by decide +kernel
theorem dL_law_240 : decode cL_law 240 = .ok (.istore 9, 2) := by decide +kernel
theorem dL_law_242 : decode cL_law 242 = .ok (.aload 6, 2) := by decide +kernel
theorem dL_law_244 : decode cL_law 244 = .ok (.iload 10, 2) := by decide +kernel
theorem dL_law_246 : decode cL_law 246 = .ok (.iconst (-1), 1) := by decide +kernel
theorem dL_law_247 : decode cL_law 247 = .ok (.iastore, 1) := by decide +kernel
theorem dL_law_248 : decode cL_law 248 = .ok (.iinc 10 1, 3) := by decide +kernel
theorem dL_law_251 : decode cL_law 251 = .ok (.goto (-115), 3) := by decide +kernel
theorem dL_law_254 : decode cL_law 254 = .ok (.iconst 0, 1) := by decide +kernel
theorem dL_law_255 : decode cL_law 255 = .ok (.istore 10, 2) := by decide +kernel
theorem dL_law_257 : decode cL_law 257 = .ok (.iload 10, 2) := by decide +kernel
theorem dL_law_259 : decode cL_law 259 = .ok (.bipush 48, 2) := by decide +kernel
theorem dL_law_261 : decode cL_law 261 = .ok (.if_icmp .ge 496, 3) := by decide +kernel
theorem dL_law_264 : decode cL_law 264 = .ok (.iload 9, 2) := by decide +kernel
theorem dL_law_266 : decode cL_law 266 = .ok (.ifCond .eq 491, 3) := by decide +kernel
theorem dL_law_269 : decode cL_law 269 = .ok (.aload_n 0, 1) := by decide +kernel
theorem dL_law_270 : decode cL_law 270 = .ok (.bipush 16, 2) := by decide +kernel
theorem dL_law_272 : decode cL_law 272 = .ok (.iload 10, 2) := by decide +kernel
theorem dL_law_274 : decode cL_law 274 = .ok (.bipush 48, 2) := by decide +kernel
theorem dL_law_276 : decode cL_law 276 = .ok (.irem, 1) := by decide +kernel
theorem dL_law_277 : decode cL_law 277 = .ok (.iadd, 1) := by decide +kernel
theorem dL_law_278 : decode cL_law 278 = .ok (.invokestatic 94, 3) := by decide +kernel
theorem dL_law_281 : decode cL_law 281 = .ok (.istore 11, 2) := by decide +kernel
theorem dL_law_283 : decode cL_law 283 = .ok (.iload 11, 2) := by decide +kernel
theorem dL_law_285 : decode cL_law 285 = .ok (.bipush 10, 2) := by decide +kernel
theorem dL_law_287 : decode cL_law 287 = .ok (.idiv, 1) := by decide +kernel
theorem dL_law_288 : decode cL_law 288 = .ok (.istore 12, 2) := by decide +kernel
theorem dL_law_290 : decode cL_law 290 = .ok (.iload 11, 2) := by decide +kernel
theorem dL_law_292 : decode cL_law 292 = .ok (.bipush 10, 2) := by decide +kernel
theorem dL_law_294 : decode cL_law 294 = .ok (.irem, 1) := by decide +kernel
theorem dL_law_295 : decode cL_law 295 = .ok (.istore 13, 2) := by decide +kernel
theorem dL_law_297 : decode cL_law 297 = .ok (.iload 12, 2) := by decide +kernel
theorem dL_law_299 : decode cL_law 299 = .ok (.bipush 10, 2) := by decide +kernel
theorem dL_law_301 : decode cL_law 301 = .ok (.irem, 1) := by decide +kernel
theorem dL_law_302 : decode cL_law 302 = .ok (.istore 14, 2) := by decide +kernel
theorem dL_law_304 : decode cL_law 304 = .ok (.iload 12, 2) := by decide +kernel
theorem dL_law_306 : decode cL_law 306 = .ok (.bipush 6, 2) := by decide +kernel
theorem dL_law_308 : decode cL_law 308 = .ok (.irem, 1) := by decide +kernel
theorem dL_law_309 : decode cL_law 309 = .ok (.istore 15, 2) := by decide +kernel
theorem dL_law_311 : decode cL_law 311 = .ok (.iload 13, 2) := by decide +kernel
theorem dL_law_313 : decode cL_law 313 = .ok (.ifCond .ne 50, 3) := by decide +kernel
theorem dL_law_316 : decode cL_law 316 = .ok (.aload_n 1, 1) := by decide +kernel
theorem dL_law_317 : decode cL_law 317 = .ok (.iconst 2, 1) := by decide +kernel
theorem dL_law_318 : decode cL_law 318 = .ok (.iload 14, 2) := by decide +kernel
theorem dL_law_320 : decode cL_law 320 = .ok (.iload 12, 2) := by decide +kernel
theorem dL_law_322 : decode cL_law 322 = .ok (.bipush 10, 2) := by decide +kernel
theorem dL_law_324 : decode cL_law 324 = .ok (.idiv, 1) := by decide +kernel
theorem dL_law_325 : decode cL_law 325 = .ok (.bipush 16, 2) := by decide +kernel
theorem dL_law_327 : decode cL_law 327 = .ok (.irem, 1) := by decide +kernel
theorem dL_law_328 : decode cL_law 328 = .ok (.iconst 0, 1) := by decide +kernel
theorem dL_law_329 : decode cL_law 329 = .ok (.iconst 0, 1) := by decide +kernel
theorem dL_law_330 : decode cL_law 330 = .ok (.iconst 0, 1) := by decide +kernel
theorem dL_law_331 : decode cL_law 331 = .ok (.invokestatic 87, 3) := by decide +kernel
theorem dL_law_334 : decode cL_law 334 = .ok (.aload_n 3, 1) := by decide +kernel
theorem dL_law_335 : decode cL_law 335 = .ok (.iload 14, 2) := by decide +kernel
theorem dL_law_337 : decode cL_law 337 = .ok (.iaload, 1) := by decide +kernel
theorem dL_law_338 : decode cL_law 338 = .ok (.if_icmp .ne 7, 3) := by decide +kernel
theorem dL_law_341 : decode cL_law 341 = .ok (.iconst 1, 1) := by decide +kernel
theorem dL_law_342 : decode cL_law 342 = .ok (.goto 4, 3) := by decide +kernel
theorem dL_law_345 : decode cL_law 345 = .ok (.iconst 0, 1) := by decide +kernel
theorem dL_law_346 : decode cL_law 346 = .ok (.istore 9, 2) := by decide +kernel
theorem dL_law_348 : decode cL_law 348 = .ok (.aload_n 3, 1) := by decide +kernel
theorem dL_law_349 : decode cL_law 349 = .ok (.iload 14, 2) := by decide +kernel
theorem dL_law_351 : decode cL_law 351 = .ok (.iload 12, 2) := by decide +kernel
theorem dL_law_353 : decode cL_law 353 = .ok (.bipush 10, 2) := by decide +kernel
theorem dL_law_355 : decode cL_law 355 = .ok (.idiv, 1) := by decide +kernel
theorem dL_law_356 : decode cL_law 356 = .ok (.bipush 16, 2) := by decide +kernel
theorem dL_law_358 : decode cL_law 358 = .ok (.irem, 1) := by decide +kernel
theorem dL_law_359 : decode cL_law 359 = .ok (.iastore, 1) := by decide +kernel
theorem dL_law_360 : decode cL_law 360 = .ok (.goto 391, 3) := by decide +kernel
theorem dL_law_363 : decode cL_law 363 = .ok (.iload 13, 2) := by decide +kernel
theorem dL_law_365 : decode cL_law 365 = .ok (.iconst 1, 1) := by decide +kernel
theorem dL_law_366 : decode cL_law 366 = .ok (.if_icmp .ne 90, 3) := by decide +kernel
theorem dL_law_369 : decode cL_law 369 = .ok (.aload 4, 2) := by decide +kernel
theorem dL_law_371 : decode cL_law 371 = .ok (.iload 14, 2) := by decide +kernel
theorem dL_law_373 : decode cL_law 373 = .ok (.iconst 1, 1) := by decide +kernel
theorem dL_law_374 : decode cL_law 374 = .ok (.iload 12, 2) := by decide +kernel
theorem dL_law_376 : decode cL_law 376 = .ok (.bipush 10, 2) := by decide +kernel
theorem dL_law_378 : decode cL_law 378 = .ok (.idiv, 1) := by decide +kernel
theorem dL_law_379 : decode cL_law 379 = .ok (.bipush 9, 2) := by decide +kernel
theorem dL_law_381 : decode cL_law 381 = .ok (.irem, 1) := by decide +kernel
theorem dL_law_382 : decode cL_law 382 = .ok (.iadd, 1) := by decide +kernel
theorem dL_law_383 : decode cL_law 383 = .ok (.iload 12, 2) := by decide +kernel
theorem dL_law_385 : decode cL_law 385 = .ok (.bipush 90, 2) := by decide +kernel
theorem dL_law_387 : decode cL_law 387 = .ok (.idiv, 1) := by decide +kernel
theorem dL_law_388 : decode cL_law 388 = .ok (.iconst 2, 1) := by decide +kernel
theorem dL_law_389 : decode cL_law 389 = .ok (.irem, 1) := by decide +kernel
theorem dL_law_390 : decode cL_law 390 = .ok (.ifCond .ne 7, 3) := by decide +kernel
theorem dL_law_393 : decode cL_law 393 = .ok (.iconst 0, 1) := by decide +kernel
theorem dL_law_394 : decode cL_law 394 = .ok (.goto 17, 3) := by decide +kernel
theorem dL_law_397 : decode cL_law 397 = .ok (.bipush 10, 2) := by decide +kernel
theorem dL_law_399 : decode cL_law 399 = .ok (.iconst 1, 1) := by decide +kernel
theorem dL_law_400 : decode cL_law 400 = .ok (.iload 12, 2) := by decide +kernel
theorem dL_law_402 : decode cL_law 402 = .ok (.sipush 180, 3) := by decide +kernel
theorem dL_law_405 : decode cL_law 405 = .ok (.idiv, 1) := by decide +kernel
theorem dL_law_406 : decode cL_law 406 = .ok (.bipush 9, 2) := by decide +kernel
theorem dL_law_408 : decode cL_law 408 = .ok (.irem, 1) := by decide +kernel
theorem dL_law_409 : decode cL_law 409 = .ok (.iadd, 1) := by decide +kernel
theorem dL_law_410 : decode cL_law 410 = .ok (.imul, 1) := by decide +kernel
theorem dL_law_411 : decode cL_law 411 = .ok (.iadd, 1) := by decide +kernel
theorem dL_law_412 : decode cL_law 412 = .ok (.iastore, 1) := by decide +kernel
theorem dL_law_413 : decode cL_law 413 = .ok (.aload_n 1, 1) := by decide +kernel
theorem dL_law_414 : decode cL_law 414 = .ok (.iconst 3, 1) := by decide +kernel
theorem dL_law_415 : decode cL_law 415 = .ok (.iload 14, 2) := by decide +kernel
theorem dL_law_417 : decode cL_law 417 = .ok (.aload 4, 2) := by decide +kernel
theorem dL_law_419 : decode cL_law 419 = .ok (.iload 14, 2) := by decide +kernel
theorem dL_law_421 : decode cL_law 421 = .ok (.iaload, 1) := by decide +kernel
theorem dL_law_422 : decode cL_law 422 = .ok (.iconst 0, 1) := by decide +kernel
theorem dL_law_423 : decode cL_law 423 = .ok (.iconst 0, 1) := by decide +kernel
theorem dL_law_424 : decode cL_law 424 = .ok (.iconst 0, 1) := by decide +kernel
theorem dL_law_425 : decode cL_law 425 = .ok (.invokestatic 87, 3) := by decide +kernel
theorem dL_law_428 : decode cL_law 428 = .ok (.aload 4, 2) := by decide +kernel
theorem dL_law_430 : decode cL_law 430 = .ok (.iload 14, 2) := by decide +kernel
theorem dL_law_432 : decode cL_law 432 = .ok (.iaload, 1) := by decide +kernel
theorem dL_law_433 : decode cL_law 433 = .ok (.bipush 9, 2) := by decide +kernel
theorem dL_law_435 : decode cL_law 435 = .ok (.if_icmp .le 7, 3) := by decide +kernel
theorem dL_law_438 : decode cL_law 438 = .ok (.iconst 2, 1) := by decide +kernel
theorem dL_law_439 : decode cL_law 439 = .ok (.goto 4, 3) := by decide +kernel
theorem dL_law_442 : decode cL_law 442 = .ok (.iconst 1, 1) := by decide +kernel
theorem dL_law_443 : decode cL_law 443 = .ok (.if_icmp .ne 7, 3) := by decide +kernel
theorem dL_law_446 : decode cL_law 446 = .ok (.iconst 1, 1) := by decide +kernel
theorem dL_law_447 : decode cL_law 447 = .ok (.goto 4, 3) := by decide +kernel
theorem dL_law_450 : decode cL_law 450 = .ok (.iconst 0, 1) := by decide +kernel
theorem dL_law_451 : decode cL_law 451 = .ok (.istore 9, 2) := by decide +kernel
theorem dL_law_453 : decode cL_law 453 = .ok (.goto 298, 3) := by decide +kernel
theorem dL_law_456 : decode cL_law 456 = .ok (.iload 13, 2) := by decide +kernel
theorem dL_law_458 : decode cL_law 458 = .ok (.iconst 2, 1) := by decide +kernel
theorem dL_law_459 : decode cL_law 459 = .ok (.if_icmp .ne 47, 3) := by decide +kernel
theorem dL_law_462 : decode cL_law 462 = .ok (.aload_n 1, 1) := by decide +kernel
theorem dL_law_463 : decode cL_law 463 = .ok (.iconst 0, 1) := by decide +kernel
theorem dL_law_464 : decode cL_law 464 = .ok (.iload 14, 2) := by decide +kernel
theorem dL_law_466 : decode cL_law 466 = .ok (.iload 12, 2) := by decide +kernel
theorem dL_law_468 : decode cL_law 468 = .ok (.bipush 10, 2) := by decide +kernel
theorem dL_law_470 : decode cL_law 470 = .ok (.idiv, 1) := by decide +kernel
theorem dL_law_471 : decode cL_law 471 = .ok (.iconst 2, 1) := by decide +kernel
theorem dL_law_472 : decode cL_law 472 = .ok (.irem, 1) := by decide +kernel
theorem dL_law_473 : decode cL_law 473 = .ok (.invokestatic 101, 3) := by decide +kernel
theorem dL_law_476 : decode cL_law 476 = .ok (.aload 5, 2) := by decide +kernel
theorem dL_law_478 : decode cL_law 478 = .ok (.iload 14, 2) := by decide +kernel
theorem dL_law_480 : decode cL_law 480 = .ok (.iaload, 1) := by decide +kernel
theorem dL_law_481 : decode cL_law 481 = .ok (.if_icmp .ne 7, 3) := by decide +kernel
theorem dL_law_484 : decode cL_law 484 = .ok (.iconst 1, 1) := by decide +kernel
theorem dL_law_485 : decode cL_law 485 = .ok (.goto 4, 3) := by decide +kernel
theorem dL_law_488 : decode cL_law 488 = .ok (.iconst 0, 1) := by decide +kernel
theorem dL_law_489 : decode cL_law 489 = .ok (.istore 9, 2) := by decide +kernel
theorem dL_law_491 : decode cL_law 491 = .ok (.aload 5, 2) := by decide +kernel
theorem dL_law_493 : decode cL_law 493 = .ok (.iload 14, 2) := by decide +kernel
theorem dL_law_495 : decode cL_law 495 = .ok (.iload 12, 2) := by decide +kernel
theorem dL_law_497 : decode cL_law 497 = .ok (.bipush 10, 2) := by decide +kernel
theorem dL_law_499 : decode cL_law 499 = .ok (.idiv, 1) := by decide +kernel
theorem dL_law_500 : decode cL_law 500 = .ok (.iconst 2, 1) := by decide +kernel
theorem dL_law_501 : decode cL_law 501 = .ok (.irem, 1) := by decide +kernel
theorem dL_law_502 : decode cL_law 502 = .ok (.iastore, 1) := by decide +kernel
theorem dL_law_503 : decode cL_law 503 = .ok (.goto 248, 3) := by decide +kernel
theorem dL_law_506 : decode cL_law 506 = .ok (.iload 13, 2) := by decide +kernel
theorem dL_law_508 : decode cL_law 508 = .ok (.iconst 3, 1) := by decide +kernel
theorem dL_law_509 : decode cL_law 509 = .ok (.if_icmp .ne 41, 3) := by decide +kernel
theorem dL_law_512 : decode cL_law 512 = .ok (.aload_n 1, 1) := by decide +kernel
theorem dL_law_513 : decode cL_law 513 = .ok (.iconst 4, 1) := by decide +kernel
theorem dL_law_514 : decode cL_law 514 = .ok (.iload 12, 2) := by decide +kernel
theorem dL_law_516 : decode cL_law 516 = .ok (.sipush 150, 3) := by decide +kernel
theorem dL_law_519 : decode cL_law 519 = .ok (.irem, 1) := by decide +kernel
theorem dL_law_520 : decode cL_law 520 = .ok (.iconst 0, 1) := by decide +kernel
theorem dL_law_521 : decode cL_law 521 = .ok (.iconst 0, 1) := by decide +kernel
theorem dL_law_522 : decode cL_law 522 = .ok (.iconst 0, 1) := by decide +kernel
theorem dL_law_523 : decode cL_law 523 = .ok (.iconst 0, 1) := by decide +kernel
theorem dL_law_524 : decode cL_law 524 = .ok (.invokestatic 87, 3) := by decide +kernel
theorem dL_law_527 : decode cL_law 527 = .ok (.iload 8, 2) := by decide +kernel
theorem dL_law_529 : decode cL_law 529 = .ok (.if_icmp .ne 7, 3) := by decide +kernel
theorem dL_law_532 : decode cL_law 532 = .ok (.iconst 1, 1) := by decide +kernel
theorem dL_law_533 : decode cL_law 533 = .ok (.goto 4, 3) := by decide +kernel
theorem dL_law_536 : decode cL_law 536 = .ok (.iconst 0, 1) := by decide +kernel
theorem dL_law_537 : decode cL_law 537 = .ok (.istore 9, 2) := by decide +kernel
theorem dL_law_539 : decode cL_law 539 = .ok (.iload 12, 2) := by decide +kernel
theorem dL_law_541 : decode cL_law 541 = .ok (.sipush 150, 3) := by decide +kernel
theorem dL_law_544 : decode cL_law 544 = .ok (.irem, 1) := by decide +kernel
theorem dL_law_545 : decode cL_law 545 = .ok (.istore 8, 2) := by decide +kernel
theorem dL_law_547 : decode cL_law 547 = .ok (.goto 204, 3) := by decide +kernel
theorem dL_law_550 : decode cL_law 550 = .ok (.iload 13, 2) := by decide +kernel
theorem dL_law_552 : decode cL_law 552 = .ok (.iconst 4, 1) := by decide +kernel
theorem dL_law_553 : decode cL_law 553 = .ok (.if_icmp .ne 57, 3) := by decide +kernel
theorem dL_law_556 : decode cL_law 556 = .ok (.aload_n 1, 1) := by decide +kernel
theorem dL_law_557 : decode cL_law 557 = .ok (.bipush 6, 2) := by decide +kernel
theorem dL_law_559 : decode cL_law 559 = .ok (.iload 15, 2) := by decide +kernel
theorem dL_law_561 : decode cL_law 561 = .ok (.iload 12, 2) := by decide +kernel
theorem dL_law_563 : decode cL_law 563 = .ok (.bipush 6, 2) := by decide +kernel
theorem dL_law_565 : decode cL_law 565 = .ok (.idiv, 1) := by decide +kernel
theorem dL_law_566 : decode cL_law 566 = .ok (.bipush 80, 2) := by decide +kernel
theorem dL_law_568 : decode cL_law 568 = .ok (.irem, 1) := by decide +kernel
theorem dL_law_569 : decode cL_law 569 = .ok (.iconst 1, 1) := by decide +kernel
theorem dL_law_570 : decode cL_law 570 = .ok (.isub, 1) := by decide +kernel
theorem dL_law_571 : decode cL_law 571 = .ok (.iconst 0, 1) := by decide +kernel
theorem dL_law_572 : decode cL_law 572 = .ok (.iconst 0, 1) := by decide +kernel
theorem dL_law_573 : decode cL_law 573 = .ok (.iconst 0, 1) := by decide +kernel
theorem dL_law_574 : decode cL_law 574 = .ok (.invokestatic 87, 3) := by decide +kernel
theorem dL_law_577 : decode cL_law 577 = .ok (.aload 6, 2) := by decide +kernel
theorem dL_law_579 : decode cL_law 579 = .ok (.iload 15, 2) := by decide +kernel
theorem dL_law_581 : decode cL_law 581 = .ok (.iaload, 1) := by decide +kernel
theorem dL_law_582 : decode cL_law 582 = .ok (.if_icmp .ne 7, 3) := by decide +kernel
theorem dL_law_585 : decode cL_law 585 = .ok (.iconst 1, 1) := by decide +kernel
theorem dL_law_586 : decode cL_law 586 = .ok (.goto 4, 3) := by decide +kernel
theorem dL_law_589 : decode cL_law 589 = .ok (.iconst 0, 1) := by decide +kernel
theorem dL_law_590 : decode cL_law 590 = .ok (.istore 9, 2) := by decide +kernel
theorem dL_law_592 : decode cL_law 592 = .ok (.aload 6, 2) := by decide +kernel
theorem dL_law_594 : decode cL_law 594 = .ok (.iload 15, 2) := by decide +kernel
theorem dL_law_596 : decode cL_law 596 = .ok (.iload 12, 2) := by decide +kernel
theorem dL_law_598 : decode cL_law 598 = .ok (.bipush 6, 2) := by decide +kernel
theorem dL_law_600 : decode cL_law 600 = .ok (.idiv, 1) := by decide +kernel
theorem dL_law_601 : decode cL_law 601 = .ok (.bipush 80, 2) := by decide +kernel
theorem dL_law_603 : decode cL_law 603 = .ok (.irem, 1) := by decide +kernel
theorem dL_law_604 : decode cL_law 604 = .ok (.iconst 1, 1) := by decide +kernel
theorem dL_law_605 : decode cL_law 605 = .ok (.isub, 1) := by decide +kernel
theorem dL_law_606 : decode cL_law 606 = .ok (.iastore, 1) := by decide +kernel
theorem dL_law_607 : decode cL_law 607 = .ok (.goto 144, 3) := by decide +kernel
theorem dL_law_610 : decode cL_law 610 = .ok (.iload 12, 2) := by decide +kernel
theorem dL_law_612 : decode cL_law 612 = .ok (.bipush 6, 2) := by decide +kernel
theorem dL_law_614 : decode cL_law 614 = .ok (.idiv, 1) := by decide +kernel
theorem dL_law_615 : decode cL_law 615 = .ok (.bipush 10, 2) := by decide +kernel
theorem dL_law_617 : decode cL_law 617 = .ok (.irem, 1) := by decide +kernel
theorem dL_law_618 : decode cL_law 618 = .ok (.istore 16, 2) := by decide +kernel
theorem dL_law_620 : decode cL_law 620 = .ok (.iload 12, 2) := by decide +kernel
theorem dL_law_622 : decode cL_law 622 = .ok (.bipush 60, 2) := by decide +kernel
theorem dL_law_624 : decode cL_law 624 = .ok (.idiv, 1) := by decide +kernel
theorem dL_law_625 : decode cL_law 625 = .ok (.sipush 3000, 3) := by decide +kernel
theorem dL_law_628 : decode cL_law 628 = .ok (.irem, 1) := by decide +kernel
theorem dL_law_629 : decode cL_law 629 = .ok (.istore 17, 2) := by decide +kernel
theorem dL_law_631 : decode cL_law 631 = .ok (.iconst 0, 1) := by decide +kernel
theorem dL_law_632 : decode cL_law 632 = .ok (.istore 18, 2) := by decide +kernel
theorem dL_law_634 : decode cL_law 634 = .ok (.iconst 0, 1) := by decide +kernel
theorem dL_law_635 : decode cL_law 635 = .ok (.istore 19, 2) := by decide +kernel
theorem dL_law_637 : decode cL_law 637 = .ok (.iload 19, 2) := by decide +kernel
theorem dL_law_639 : decode cL_law 639 = .ok (.bipush 10, 2) := by decide +kernel
theorem dL_law_641 : decode cL_law 641 = .ok (.if_icmp .ge 40, 3) := by decide +kernel
theorem dL_law_644 : decode cL_law 644 = .ok (.iload 18, 2) := by decide +kernel
theorem dL_law_646 : decode cL_law 646 = .ok (.aload 7, 2) := by decide +kernel
theorem dL_law_648 : decode cL_law 648 = .ok (.bipush 10, 2) := by decide +kernel
theorem dL_law_650 : decode cL_law 650 = .ok (.iload 15, 2) := by decide +kernel
theorem dL_law_652 : decode cL_law 652 = .ok (.imul, 1) := by decide +kernel
theorem dL_law_653 : decode cL_law 653 = .ok (.iload 19, 2) := by decide +kernel
theorem dL_law_655 : decode cL_law 655 = .ok (.iadd, 1) := by decide +kernel
theorem dL_law_656 : decode cL_law 656 = .ok (.iaload, 1) := by decide +kernel
theorem dL_law_657 : decode cL_law 657 = .ok (.ifCond .ne 14, 3) := by decide +kernel
theorem dL_law_660 : decode cL_law 660 = .ok (.iload 19, 2) := by decide +kernel
theorem dL_law_662 : decode cL_law 662 = .ok (.iload 16, 2) := by decide +kernel
theorem dL_law_664 : decode cL_law 664 = .ok (.if_icmp .eq 7, 3) := by decide +kernel
theorem dL_law_667 : decode cL_law 667 = .ok (.iconst 0, 1) := by decide +kernel
theorem dL_law_668 : decode cL_law 668 = .ok (.goto 4, 3) := by decide +kernel
theorem dL_law_671 : decode cL_law 671 = .ok (.iconst 1, 1) := by decide +kernel
theorem dL_law_672 : decode cL_law 672 = .ok (.iadd, 1) := by decide +kernel
theorem dL_law_673 : decode cL_law 673 = .ok (.istore 18, 2) := by decide +kernel
theorem dL_law_675 : decode cL_law 675 = .ok (.iinc 19 1, 3) := by decide +kernel
theorem dL_law_678 : decode cL_law 678 = .ok (.goto (-41), 3) := by decide +kernel
theorem dL_law_681 : decode cL_law 681 = .ok (.aload_n 1, 1) := by decide +kernel
theorem dL_law_682 : decode cL_law 682 = .ok (.iload 15, 2) := by decide +kernel
theorem dL_law_684 : decode cL_law 684 = .ok (.iload 16, 2) := by decide +kernel
theorem dL_law_686 : decode cL_law 686 = .ok (.iload 17, 2) := by decide +kernel
theorem dL_law_688 : decode cL_law 688 = .ok (.invokestatic 105, 3) := by decide +kernel
theorem dL_law_691 : decode cL_law 691 = .ok (.iload 18, 2) := by decide +kernel
theorem dL_law_693 : decode cL_law 693 = .ok (.bipush 6, 2) := by decide +kernel
theorem dL_law_695 : decode cL_law 695 = .ok (.if_icmp .le 8, 3) := by decide +kernel
theorem dL_law_698 : decode cL_law 698 = .ok (.bipush (-9), 2) := by decide +kernel
theorem dL_law_700 : decode cL_law 700 = .ok (.goto 5, 3) := by decide +kernel
theorem dL_law_703 : decode cL_law 703 = .ok (.iload 18, 2) := by decide +kernel
theorem dL_law_705 : decode cL_law 705 = .ok (.if_icmp .ne 7, 3) := by decide +kernel
theorem dL_law_708 : decode cL_law 708 = .ok (.iconst 1, 1) := by decide +kernel
theorem dL_law_709 : decode cL_law 709 = .ok (.goto 4, 3) := by decide +kernel
theorem dL_law_712 : decode cL_law 712 = .ok (.iconst 0, 1) := by decide +kernel
theorem dL_law_713 : decode cL_law 713 = .ok (.istore 9, 2) := by decide +kernel
theorem dL_law_715 : decode cL_law 715 = .ok (.aload 7, 2) := by decide +kernel
theorem dL_law_717 : decode cL_law 717 = .ok (.bipush 10, 2) := by decide +kernel
theorem dL_law_719 : decode cL_law 719 = .ok (.iload 15, 2) := by decide +kernel
theorem dL_law_721 : decode cL_law 721 = .ok (.imul, 1) := by decide +kernel
theorem dL_law_722 : decode cL_law 722 = .ok (.iload 16, 2) := by decide +kernel
theorem dL_law_724 : decode cL_law 724 = .ok (.iadd, 1) := by decide +kernel
theorem dL_law_725 : decode cL_law 725 = .ok (.iload 18, 2) := by decide +kernel
theorem dL_law_727 : decode cL_law 727 = .ok (.bipush 6, 2) := by decide +kernel
theorem dL_law_729 : decode cL_law 729 = .ok (.if_icmp .le 17, 3) := by decide +kernel
theorem dL_law_732 : decode cL_law 732 = .ok (.aload 7, 2) := by decide +kernel
theorem dL_law_734 : decode cL_law 734 = .ok (.bipush 10, 2) := by decide +kernel
theorem dL_law_736 : decode cL_law 736 = .ok (.iload 15, 2) := by decide +kernel
theorem dL_law_738 : decode cL_law 738 = .ok (.imul, 1) := by decide +kernel
theorem dL_law_739 : decode cL_law 739 = .ok (.iload 16, 2) := by decide +kernel
theorem dL_law_741 : decode cL_law 741 = .ok (.iadd, 1) := by decide +kernel
theorem dL_law_742 : decode cL_law 742 = .ok (.iaload, 1) := by decide +kernel
theorem dL_law_743 : decode cL_law 743 = .ok (.goto 7, 3) := by decide +kernel
theorem dL_law_746 : decode cL_law 746 = .ok (.iload 17, 2) := by decide +kernel
theorem dL_law_748 : decode cL_law 748 = .ok (.iconst 1, 1) := by decide +kernel
theorem dL_law_749 : decode cL_law 749 = .ok (.iadd, 1) := by decide +kernel
theorem dL_law_750 : decode cL_law 750 = .ok (.iastore, 1) := by decide +kernel
theorem dL_law_751 : decode cL_law 751 = .ok (.iinc 10 1, 3) := by decide +kernel
theorem dL_law_754 : decode cL_law 754 = .ok (.goto (-497), 3) := by decide +kernel
theorem dL_law_757 : decode cL_law 757 = .ok (.iconst 0, 1) := by decide +kernel
theorem dL_law_758 : decode cL_law 758 = .ok (.istore 10, 2) := by decide +kernel
theorem dL_law_760 : decode cL_law 760 = .ok (.iload 10, 2) := by decide +kernel
theorem dL_law_762 : decode cL_law 762 = .ok (.bipush 6, 2) := by decide +kernel
theorem dL_law_764 : decode cL_law 764 = .ok (.if_icmp .ge 205, 3) := by decide +kernel
theorem dL_law_767 : decode cL_law 767 = .ok (.iload 9, 2) := by decide +kernel
theorem dL_law_769 : decode cL_law 769 = .ok (.ifCond .eq 200, 3) := by decide +kernel
theorem dL_law_772 : decode cL_law 772 = .ok (.aload_n 0, 1) := by decide +kernel
theorem dL_law_773 : decode cL_law 773 = .ok (.bipush 10, 2) := by decide +kernel
theorem dL_law_775 : decode cL_law 775 = .ok (.iload 10, 2) := by decide +kernel
theorem dL_law_777 : decode cL_law 777 = .ok (.iadd, 1) := by decide +kernel
theorem dL_law_778 : decode cL_law 778 = .ok (.invokestatic 94, 3) := by decide +kernel
theorem dL_law_781 : decode cL_law 781 = .ok (.istore 11, 2) := by decide +kernel
theorem dL_law_783 : decode cL_law 783 = .ok (.aload_n 2, 1) := by decide +kernel
theorem dL_law_784 : decode cL_law 784 = .ok (.iload 11, 2) := by decide +kernel
theorem dL_law_786 : decode cL_law 786 = .ok (.iconst 3, 1) := by decide +kernel
theorem dL_law_787 : decode cL_law 787 = .ok (.irem, 1) := by decide +kernel
theorem dL_law_788 : decode cL_law 788 = .ok (.ifCond .ne 13, 3) := by decide +kernel
theorem dL_law_791 : decode cL_law 791 = .ok (.iload 11, 2) := by decide +kernel
theorem dL_law_793 : decode cL_law 793 = .ok (.iconst 3, 1) := by decide +kernel
theorem dL_law_794 : decode cL_law 794 = .ok (.idiv, 1) := by decide +kernel
theorem dL_law_795 : decode cL_law 795 = .ok (.bipush 6, 2) := by decide +kernel
theorem dL_law_797 : decode cL_law 797 = .ok (.irem, 1) := by decide +kernel
theorem dL_law_798 : decode cL_law 798 = .ok (.goto 4, 3) := by decide +kernel
theorem dL_law_801 : decode cL_law 801 = .ok (.iconst (-1), 1) := by decide +kernel
theorem dL_law_802 : decode cL_law 802 = .ok (.iload 11, 2) := by decide +kernel
theorem dL_law_804 : decode cL_law 804 = .ok (.bipush 18, 2) := by decide +kernel
theorem dL_law_806 : decode cL_law 806 = .ok (.idiv, 1) := by decide +kernel
theorem dL_law_807 : decode cL_law 807 = .ok (.iconst 4, 1) := by decide +kernel
theorem dL_law_808 : decode cL_law 808 = .ok (.irem, 1) := by decide +kernel
theorem dL_law_809 : decode cL_law 809 = .ok (.iload 11, 2) := by decide +kernel
theorem dL_law_811 : decode cL_law 811 = .ok (.bipush 72, 2) := by decide +kernel
theorem dL_law_813 : decode cL_law 813 = .ok (.idiv, 1) := by decide +kernel
theorem dL_law_814 : decode cL_law 814 = .ok (.iconst 2, 1) := by decide +kernel
theorem dL_law_815 : decode cL_law 815 = .ok (.irem, 1) := by decide +kernel
theorem dL_law_816 : decode cL_law 816 = .ok (.bipush 8, 2) := by decide +kernel
theorem dL_law_818 : decode cL_law 818 = .ok (.imul, 1) := by decide +kernel
theorem dL_law_819 : decode cL_law 819 = .ok (.iload 11, 2) := by decide +kernel
theorem dL_law_821 : decode cL_law 821 = .ok (.sipush 144, 3) := by decide +kernel
theorem dL_law_824 : decode cL_law 824 = .ok (.idiv, 1) := by decide +kernel
theorem dL_law_825 : decode cL_law 825 = .ok (.iconst 2, 1) := by decide +kernel
theorem dL_law_826 : decode cL_law 826 = .ok (.irem, 1) := by decide +kernel
theorem dL_law_827 : decode cL_law 827 = .ok (.iload 11, 2) := by decide +kernel
theorem dL_law_829 : decode cL_law 829 = .ok (.sipush 288, 3) := by decide +kernel
theorem dL_law_832 : decode cL_law 832 = .ok (.idiv, 1) := by decide +kernel
theorem dL_law_833 : decode cL_law 833 = .ok (.iconst 3, 1) := by decide +kernel
theorem dL_law_834 : decode cL_law 834 = .ok (.irem, 1) := by decide +kernel
theorem dL_law_835 : decode cL_law 835 = .ok (.iload 11, 2) := by decide +kernel
theorem dL_law_837 : decode cL_law 837 = .ok (.sipush 864, 3) := by decide +kernel
theorem dL_law_840 : decode cL_law 840 = .ok (.idiv, 1) := by decide +kernel
theorem dL_law_841 : decode cL_law 841 = .ok (.iconst 3, 1) := by decide +kernel
theorem dL_law_842 : decode cL_law 842 = .ok (.irem, 1) := by decide +kernel
theorem dL_law_843 : decode cL_law 843 = .ok (.ifCond .ne 7, 3) := by decide +kernel
theorem dL_law_846 : decode cL_law 846 = .ok (.iconst 1, 1) := by decide +kernel
theorem dL_law_847 : decode cL_law 847 = .ok (.goto 4, 3) := by decide +kernel
theorem dL_law_850 : decode cL_law 850 = .ok (.iconst 0, 1) := by decide +kernel
theorem dL_law_851 : decode cL_law 851 = .ok (.invokestatic 98, 3) := by decide +kernel
theorem dL_law_854 : decode cL_law 854 = .ok (.iload 10, 2) := by decide +kernel
theorem dL_law_856 : decode cL_law 856 = .ok (.if_icmp .ne 7, 3) := by decide +kernel
theorem dL_law_859 : decode cL_law 859 = .ok (.iconst 1, 1) := by decide +kernel
theorem dL_law_860 : decode cL_law 860 = .ok (.goto 4, 3) := by decide +kernel
theorem dL_law_863 : decode cL_law 863 = .ok (.iconst 0, 1) := by decide +kernel
theorem dL_law_864 : decode cL_law 864 = .ok (.istore 9, 2) := by decide +kernel
theorem dL_law_866 : decode cL_law 866 = .ok (.bipush 9, 2) := by decide +kernel
theorem dL_law_868 : decode cL_law 868 = .ok (.istore 12, 2) := by decide +kernel
theorem dL_law_870 : decode cL_law 870 = .ok (.iload 12, 2) := by decide +kernel
theorem dL_law_872 : decode cL_law 872 = .ok (.ifCond .lt 59, 3) := by decide +kernel
theorem dL_law_875 : decode cL_law 875 = .ok (.iload 9, 2) := by decide +kernel
theorem dL_law_877 : decode cL_law 877 = .ok (.ifCond .eq 54, 3) := by decide +kernel
theorem dL_law_880 : decode cL_law 880 = .ok (.aload 7, 2) := by decide +kernel
theorem dL_law_882 : decode cL_law 882 = .ok (.bipush 10, 2) := by decide +kernel
theorem dL_law_884 : decode cL_law 884 = .ok (.iload 10, 2) := by decide +kernel
theorem dL_law_886 : decode cL_law 886 = .ok (.imul, 1) := by decide +kernel
theorem dL_law_887 : decode cL_law 887 = .ok (.iload 12, 2) := by decide +kernel
theorem dL_law_889 : decode cL_law 889 = .ok (.iadd, 1) := by decide +kernel
theorem dL_law_890 : decode cL_law 890 = .ok (.iaload, 1) := by decide +kernel
theorem dL_law_891 : decode cL_law 891 = .ok (.ifCond .eq 27, 3) := by decide +kernel
theorem dL_law_894 : decode cL_law 894 = .ok (.aload_n 2, 1) := by decide +kernel
theorem dL_law_895 : decode cL_law 895 = .ok (.iload 10, 2) := by decide +kernel
theorem dL_law_897 : decode cL_law 897 = .ok (.iload 12, 2) := by decide +kernel
theorem dL_law_899 : decode cL_law 899 = .ok (.aload 7, 2) := by decide +kernel
theorem dL_law_901 : decode cL_law 901 = .ok (.bipush 10, 2) := by decide +kernel
theorem dL_law_903 : decode cL_law 903 = .ok (.iload 10, 2) := by decide +kernel
theorem dL_law_905 : decode cL_law 905 = .ok (.imul, 1) := by decide +kernel
theorem dL_law_906 : decode cL_law 906 = .ok (.iload 12, 2) := by decide +kernel
theorem dL_law_908 : decode cL_law 908 = .ok (.iadd, 1) := by decide +kernel
theorem dL_law_909 : decode cL_law 909 = .ok (.iaload, 1) := by decide +kernel
theorem dL_law_910 : decode cL_law 910 = .ok (.iconst 1, 1) := by decide +kernel
theorem dL_law_911 : decode cL_law 911 = .ok (.isub, 1) := by decide +kernel
theorem dL_law_912 : decode cL_law 912 = .ok (.invokestatic 105, 3) := by decide +kernel
theorem dL_law_915 : decode cL_law 915 = .ok (.ifCond .le 7, 3) := by decide +kernel
theorem dL_law_918 : decode cL_law 918 = .ok (.iconst 1, 1) := by decide +kernel
theorem dL_law_919 : decode cL_law 919 = .ok (.goto 4, 3) := by decide +kernel
theorem dL_law_922 : decode cL_law 922 = .ok (.iconst 0, 1) := by decide +kernel
theorem dL_law_923 : decode cL_law 923 = .ok (.istore 9, 2) := by decide +kernel
theorem dL_law_925 : decode cL_law 925 = .ok (.iinc 12 (-1), 3) := by decide +kernel
theorem dL_law_928 : decode cL_law 928 = .ok (.goto (-58), 3) := by decide +kernel
theorem dL_law_931 : decode cL_law 931 = .ok (.iload 9, 2) := by decide +kernel
theorem dL_law_933 : decode cL_law 933 = .ok (.ifCond .eq 27, 3) := by decide +kernel
theorem dL_law_936 : decode cL_law 936 = .ok (.aload_n 2, 1) := by decide +kernel
theorem dL_law_937 : decode cL_law 937 = .ok (.bipush 6, 2) := by decide +kernel
theorem dL_law_939 : decode cL_law 939 = .ok (.iload 10, 2) := by decide +kernel
theorem dL_law_941 : decode cL_law 941 = .ok (.aload 6, 2) := by decide +kernel
theorem dL_law_943 : decode cL_law 943 = .ok (.iload 10, 2) := by decide +kernel
theorem dL_law_945 : decode cL_law 945 = .ok (.iaload, 1) := by decide +kernel
theorem dL_law_946 : decode cL_law 946 = .ok (.iconst 0, 1) := by decide +kernel
theorem dL_law_947 : decode cL_law 947 = .ok (.iconst 0, 1) := by decide +kernel
theorem dL_law_948 : decode cL_law 948 = .ok (.iconst 0, 1) := by decide +kernel
theorem dL_law_949 : decode cL_law 949 = .ok (.invokestatic 87, 3) := by decide +kernel
theorem dL_law_952 : decode cL_law 952 = .ok (.iconst (-1), 1) := by decide +kernel
theorem dL_law_953 : decode cL_law 953 = .ok (.if_icmp .ne 7, 3) := by decide +kernel
theorem dL_law_956 : decode cL_law 956 = .ok (.iconst 1, 1) := by decide +kernel
theorem dL_law_957 : decode cL_law 957 = .ok (.goto 4, 3) := by decide +kernel
theorem dL_law_960 : decode cL_law 960 = .ok (.iconst 0, 1) := by decide +kernel
theorem dL_law_961 : decode cL_law 961 = .ok (.istore 9, 2) := by decide +kernel
theorem dL_law_963 : decode cL_law 963 = .ok (.iinc 10 1, 3) := by decide +kernel
theorem dL_law_966 : decode cL_law 966 = .ok (.goto (-206), 3) := by decide +kernel
theorem dL_law_969 : decode cL_law 969 = .ok (.iload 9, 2) := by decide +kernel
theorem dL_law_971 : decode cL_law 971 = .ok (.ifCond .eq 44, 3) := by decide +kernel
theorem dL_law_974 : decode cL_law 974 = .ok (.aload_n 2, 1) := by decide +kernel
theorem dL_law_975 : decode cL_law 975 = .ok (.iconst 4, 1) := by decide +kernel
theorem dL_law_976 : decode cL_law 976 = .ok (.iload 8, 2) := by decide +kernel
theorem dL_law_978 : decode cL_law 978 = .ok (.iconst 0, 1) := by decide +kernel
theorem dL_law_979 : decode cL_law 979 = .ok (.iconst 0, 1) := by decide +kernel
theorem dL_law_980 : decode cL_law 980 = .ok (.iconst 0, 1) := by decide +kernel
theorem dL_law_981 : decode cL_law 981 = .ok (.iconst 0, 1) := by decide +kernel
theorem dL_law_982 : decode cL_law 982 = .ok (.invokestatic 87, 3) := by decide +kernel
theorem dL_law_985 : decode cL_law 985 = .ok (.bipush 100, 2) := by decide +kernel
theorem dL_law_987 : decode cL_law 987 = .ok (.if_icmp .ne 28, 3) := by decide +kernel
theorem dL_law_990 : decode cL_law 990 = .ok (.aload_n 3, 1) := by decide +kernel
theorem dL_law_991 : decode cL_law 991 = .ok (.iconst 0, 1) := by decide +kernel
theorem dL_law_992 : decode cL_law 992 = .ok (.iaload, 1) := by decide +kernel
theorem dL_law_993 : decode cL_law 993 = .ok (.ifCond .eq 18, 3) := by decide +kernel
theorem dL_law_996 : decode cL_law 996 = .ok (.aload_n 2, 1) := by decide +kernel
theorem dL_law_997 : decode cL_law 997 = .ok (.iconst 2, 1) := by decide +kernel
theorem dL_law_998 : decode cL_law 998 = .ok (.iconst 0, 1) := by decide +kernel
theorem dL_law_999 : decode cL_law 999 = .ok (.aload_n 3, 1) := by decide +kernel
theorem dL_law_1000 : decode cL_law 1000 = .ok (.iconst 0, 1) := by decide +kernel
theorem dL_law_1001 : decode cL_law 1001 = .ok (.iaload, 1) := by decide +kernel
theorem dL_law_1002 : decode cL_law 1002 = .ok (.iconst 0, 1) := by decide +kernel
theorem dL_law_1003 : decode cL_law 1003 = .ok (.iconst 0, 1) := by decide +kernel
theorem dL_law_1004 : decode cL_law 1004 = .ok (.iconst 0, 1) := by decide +kernel
theorem dL_law_1005 : decode cL_law 1005 = .ok (.invokestatic 87, 3) := by decide +kernel
theorem dL_law_1008 : decode cL_law 1008 = .ok (.ifCond .ne 7, 3) := by decide +kernel
theorem dL_law_1011 : decode cL_law 1011 = .ok (.iconst 1, 1) := by decide +kernel
theorem dL_law_1012 : decode cL_law 1012 = .ok (.goto 4, 3) := by decide +kernel
theorem dL_law_1015 : decode cL_law 1015 = .ok (.iconst 0, 1) := by decide +kernel
theorem dL_law_1016 : decode cL_law 1016 = .ok (.istore 9, 2) := by decide +kernel
theorem dL_law_1018 : decode cL_law 1018 = .ok (.iconst 1, 1) := by decide +kernel
theorem dL_law_1019 : decode cL_law 1019 = .ok (.istore 10, 2) := by decide +kernel
theorem dL_law_1021 : decode cL_law 1021 = .ok (.iload 10, 2) := by decide +kernel
theorem dL_law_1023 : decode cL_law 1023 = .ok (.bipush 10, 2) := by decide +kernel
theorem dL_law_1025 : decode cL_law 1025 = .ok (.if_icmp .ge 58, 3) := by decide +kernel
theorem dL_law_1028 : decode cL_law 1028 = .ok (.iload 9, 2) := by decide +kernel
theorem dL_law_1030 : decode cL_law 1030 = .ok (.ifCond .eq 53, 3) := by decide +kernel
theorem dL_law_1033 : decode cL_law 1033 = .ok (.aload_n 0, 1) := by decide +kernel
theorem dL_law_1034 : decode cL_law 1034 = .ok (.iload 10, 2) := by decide +kernel
theorem dL_law_1036 : decode cL_law 1036 = .ok (.invokestatic 94, 3) := by decide +kernel
theorem dL_law_1039 : decode cL_law 1039 = .ok (.istore 11, 2) := by decide +kernel
theorem dL_law_1041 : decode cL_law 1041 = .ok (.aload_n 2, 1) := by decide +kernel
theorem dL_law_1042 : decode cL_law 1042 = .ok (.iconst 0, 1) := by decide +kernel
theorem dL_law_1043 : decode cL_law 1043 = .ok (.iload 11, 2) := by decide +kernel
theorem dL_law_1045 : decode cL_law 1045 = .ok (.iload 10, 2) := by decide +kernel
theorem dL_law_1047 : decode cL_law 1047 = .ok (.irem, 1) := by decide +kernel
theorem dL_law_1048 : decode cL_law 1048 = .ok (.iload 11, 2) := by decide +kernel
theorem dL_law_1050 : decode cL_law 1050 = .ok (.bipush 9, 2) := by decide +kernel
theorem dL_law_1052 : decode cL_law 1052 = .ok (.idiv, 1) := by decide +kernel
theorem dL_law_1053 : decode cL_law 1053 = .ok (.bipush 6, 2) := by decide +kernel
theorem dL_law_1055 : decode cL_law 1055 = .ok (.irem, 1) := by decide +kernel
theorem dL_law_1056 : decode cL_law 1056 = .ok (.aload_n 3, 1) := by decide +kernel
theorem dL_law_1057 : decode cL_law 1057 = .ok (.iload 10, 2) := by decide +kernel
theorem dL_law_1059 : decode cL_law 1059 = .ok (.iaload, 1) := by decide +kernel
theorem dL_law_1060 : decode cL_law 1060 = .ok (.iconst 0, 1) := by decide +kernel
theorem dL_law_1061 : decode cL_law 1061 = .ok (.iconst 0, 1) := by decide +kernel
theorem dL_law_1062 : decode cL_law 1062 = .ok (.invokestatic 87, 3) := by decide +kernel
theorem dL_law_1065 : decode cL_law 1065 = .ok (.iload 10, 2) := by decide +kernel
theorem dL_law_1067 : decode cL_law 1067 = .ok (.if_icmp .ne 7, 3) := by decide +kernel
theorem dL_law_1070 : decode cL_law 1070 = .ok (.iconst 1, 1) := by decide +kernel
theorem dL_law_1071 : decode cL_law 1071 = .ok (.goto 4, 3) := by decide +kernel
theorem dL_law_1074 : decode cL_law 1074 = .ok (.iconst 0, 1) := by decide +kernel
theorem dL_law_1075 : decode cL_law 1075 = .ok (.istore 9, 2) := by decide +kernel
theorem dL_law_1077 : decode cL_law 1077 = .ok (.iinc 10 1, 3) := by decide +kernel
theorem dL_law_1080 : decode cL_law 1080 = .ok (.goto (-59), 3) := by decide +kernel
theorem dL_law_1083 : decode cL_law 1083 = .ok (.bipush 9, 2) := by decide +kernel
theorem dL_law_1085 : decode cL_law 1085 = .ok (.istore 10, 2) := by decide +kernel
theorem dL_law_1087 : decode cL_law 1087 = .ok (.iload 10, 2) := by decide +kernel
theorem dL_law_1089 : decode cL_law 1089 = .ok (.ifCond .lt 62, 3) := by decide +kernel
theorem dL_law_1092 : decode cL_law 1092 = .ok (.iload 9, 2) := by decide +kernel
theorem dL_law_1094 : decode cL_law 1094 = .ok (.ifCond .eq 57, 3) := by decide +kernel
theorem dL_law_1097 : decode cL_law 1097 = .ok (.aload 4, 2) := by decide +kernel
theorem dL_law_1099 : decode cL_law 1099 = .ok (.iload 10, 2) := by decide +kernel
theorem dL_law_1101 : decode cL_law 1101 = .ok (.iaload, 1) := by decide +kernel
theorem dL_law_1102 : decode cL_law 1102 = .ok (.ifCond .eq 21, 3) := by decide +kernel
theorem dL_law_1105 : decode cL_law 1105 = .ok (.aload_n 2, 1) := by decide +kernel
theorem dL_law_1106 : decode cL_law 1106 = .ok (.iconst 3, 1) := by decide +kernel
theorem dL_law_1107 : decode cL_law 1107 = .ok (.iload 10, 2) := by decide +kernel
theorem dL_law_1109 : decode cL_law 1109 = .ok (.aload 4, 2) := by decide +kernel
theorem dL_law_1111 : decode cL_law 1111 = .ok (.iload 10, 2) := by decide +kernel
theorem dL_law_1113 : decode cL_law 1113 = .ok (.iaload, 1) := by decide +kernel
theorem dL_law_1114 : decode cL_law 1114 = .ok (.iconst 0, 1) := by decide +kernel
theorem dL_law_1115 : decode cL_law 1115 = .ok (.iconst 0, 1) := by decide +kernel
theorem dL_law_1116 : decode cL_law 1116 = .ok (.iconst 0, 1) := by decide +kernel
theorem dL_law_1117 : decode cL_law 1117 = .ok (.invokestatic 87, 3) := by decide +kernel
theorem dL_law_1120 : decode cL_law 1120 = .ok (.ifCond .le 22, 3) := by decide +kernel
theorem dL_law_1123 : decode cL_law 1123 = .ok (.aload_n 2, 1) := by decide +kernel
theorem dL_law_1124 : decode cL_law 1124 = .ok (.iconst 0, 1) := by decide +kernel
theorem dL_law_1125 : decode cL_law 1125 = .ok (.iload 10, 2) := by decide +kernel
theorem dL_law_1127 : decode cL_law 1127 = .ok (.aload 5, 2) := by decide +kernel
theorem dL_law_1129 : decode cL_law 1129 = .ok (.iload 10, 2) := by decide +kernel
theorem dL_law_1131 : decode cL_law 1131 = .ok (.iaload, 1) := by decide +kernel
theorem dL_law_1132 : decode cL_law 1132 = .ok (.invokestatic 101, 3) := by decide +kernel
theorem dL_law_1135 : decode cL_law 1135 = .ok (.ifCond .ne 7, 3) := by decide +kernel
theorem dL_law_1138 : decode cL_law 1138 = .ok (.iconst 1, 1) := by decide +kernel
theorem dL_law_1139 : decode cL_law 1139 = .ok (.goto 4, 3) := by decide +kernel
theorem dL_law_1142 : decode cL_law 1142 = .ok (.iconst 0, 1) := by decide +kernel
theorem dL_law_1143 : decode cL_law 1143 = .ok (.istore 9, 2) := by decide +kernel
theorem dL_law_1145 : decode cL_law 1145 = .ok (.iinc 10 (-1), 3) := by decide +kernel
theorem dL_law_1148 : decode cL_law 1148 = .ok (.goto (-61), 3) := by decide +kernel
theorem dL_law_1151 : decode cL_law 1151 = .ok (.iconst 0, 1) := by decide +kernel
theorem dL_law_1152 : decode cL_law 1152 = .ok (.istore 10, 2) := by decide +kernel
theorem dL_law_1154 : decode cL_law 1154 = .ok (.iload 10, 2) := by decide +kernel
theorem dL_law_1156 : decode cL_law 1156 = .ok (.bipush 10, 2) := by decide +kernel
theorem dL_law_1158 : decode cL_law 1158 = .ok (.if_icmp .ge 195, 3) := by decide +kernel
theorem dL_law_1161 : decode cL_law 1161 = .ok (.iload 9, 2) := by decide +kernel
theorem dL_law_1163 : decode cL_law 1163 = .ok (.ifCond .eq 190, 3) := by decide +kernel
theorem dL_law_1166 : decode cL_law 1166 = .ok (.iconst 0, 1) := by decide +kernel
theorem dL_law_1167 : decode cL_law 1167 = .ok (.istore 11, 2) := by decide +kernel
theorem dL_law_1169 : decode cL_law 1169 = .ok (.iload 11, 2) := by decide +kernel
theorem dL_law_1171 : decode cL_law 1171 = .ok (.bipush 14, 2) := by decide +kernel
theorem dL_law_1173 : decode cL_law 1173 = .ok (.if_icmp .ge 79, 3) := by decide +kernel
theorem dL_law_1176 : decode cL_law 1176 = .ok (.iload 9, 2) := by decide +kernel
theorem dL_law_1178 : decode cL_law 1178 = .ok (.ifCond .eq 74, 3) := by decide +kernel
theorem dL_law_1181 : decode cL_law 1181 = .ok (.aload_n 1, 1) := by decide +kernel
theorem dL_law_1182 : decode cL_law 1182 = .ok (.bipush 12, 2) := by decide +kernel
theorem dL_law_1184 : decode cL_law 1184 = .ok (.iload 10, 2) := by decide +kernel
theorem dL_law_1186 : decode cL_law 1186 = .ok (.iload 11, 2) := by decide +kernel
theorem dL_law_1188 : decode cL_law 1188 = .ok (.iconst 0, 1) := by decide +kernel
theorem dL_law_1189 : decode cL_law 1189 = .ok (.iconst 0, 1) := by decide +kernel
theorem dL_law_1190 : decode cL_law 1190 = .ok (.iconst 0, 1) := by decide +kernel
theorem dL_law_1191 : decode cL_law 1191 = .ok (.invokestatic 87, 3) := by decide +kernel
theorem dL_law_1194 : decode cL_law 1194 = .ok (.aload_n 2, 1) := by decide +kernel
theorem dL_law_1195 : decode cL_law 1195 = .ok (.bipush 12, 2) := by decide +kernel
theorem dL_law_1197 : decode cL_law 1197 = .ok (.iload 10, 2) := by decide +kernel
theorem dL_law_1199 : decode cL_law 1199 = .ok (.iload 11, 2) := by decide +kernel
theorem dL_law_1201 : decode cL_law 1201 = .ok (.iconst 0, 1) := by decide +kernel
theorem dL_law_1202 : decode cL_law 1202 = .ok (.iconst 0, 1) := by decide +kernel
theorem dL_law_1203 : decode cL_law 1203 = .ok (.iconst 0, 1) := by decide +kernel
theorem dL_law_1204 : decode cL_law 1204 = .ok (.invokestatic 87, 3) := by decide +kernel
theorem dL_law_1207 : decode cL_law 1207 = .ok (.if_icmp .ne 36, 3) := by decide +kernel
theorem dL_law_1210 : decode cL_law 1210 = .ok (.aload_n 1, 1) := by decide +kernel
theorem dL_law_1211 : decode cL_law 1211 = .ok (.bipush 14, 2) := by decide +kernel
theorem dL_law_1213 : decode cL_law 1213 = .ok (.iload 10, 2) := by decide +kernel
theorem dL_law_1215 : decode cL_law 1215 = .ok (.iload 11, 2) := by decide +kernel
theorem dL_law_1217 : decode cL_law 1217 = .ok (.iconst 0, 1) := by decide +kernel
theorem dL_law_1218 : decode cL_law 1218 = .ok (.iconst 0, 1) := by decide +kernel
theorem dL_law_1219 : decode cL_law 1219 = .ok (.iconst 0, 1) := by decide +kernel
theorem dL_law_1220 : decode cL_law 1220 = .ok (.invokestatic 87, 3) := by decide +kernel
theorem dL_law_1223 : decode cL_law 1223 = .ok (.aload_n 2, 1) := by decide +kernel
theorem dL_law_1224 : decode cL_law 1224 = .ok (.bipush 14, 2) := by decide +kernel
theorem dL_law_1226 : decode cL_law 1226 = .ok (.iload 10, 2) := by decide +kernel
theorem dL_law_1228 : decode cL_law 1228 = .ok (.iload 11, 2) := by decide +kernel
theorem dL_law_1230 : decode cL_law 1230 = .ok (.iconst 0, 1) := by decide +kernel
theorem dL_law_1231 : decode cL_law 1231 = .ok (.iconst 0, 1) := by decide +kernel
theorem dL_law_1232 : decode cL_law 1232 = .ok (.iconst 0, 1) := by decide +kernel
theorem dL_law_1233 : decode cL_law 1233 = .ok (.invokestatic 87, 3) := by decide +kernel
theorem dL_law_1236 : decode cL_law 1236 = .ok (.if_icmp .ne 7, 3) := by decide +kernel
theorem dL_law_1239 : decode cL_law 1239 = .ok (.iconst 1, 1) := by decide +kernel
theorem dL_law_1240 : decode cL_law 1240 = .ok (.goto 4, 3) := by decide +kernel
theorem dL_law_1243 : decode cL_law 1243 = .ok (.iconst 0, 1) := by decide +kernel
theorem dL_law_1244 : decode cL_law 1244 = .ok (.istore 9, 2) := by decide +kernel
theorem dL_law_1246 : decode cL_law 1246 = .ok (.iinc 11 1, 3) := by decide +kernel
theorem dL_law_1249 : decode cL_law 1249 = .ok (.goto (-80), 3) := by decide +kernel
theorem dL_law_1252 : decode cL_law 1252 = .ok (.iconst 0, 1) := by decide +kernel
theorem dL_law_1253 : decode cL_law 1253 = .ok (.istore 11, 2) := by decide +kernel
theorem dL_law_1255 : decode cL_law 1255 = .ok (.iload 11, 2) := by decide +kernel
theorem dL_law_1257 : decode cL_law 1257 = .ok (.iconst 4, 1) := by decide +kernel
theorem dL_law_1258 : decode cL_law 1258 = .ok (.if_icmp .ge 50, 3) := by decide +kernel
theorem dL_law_1261 : decode cL_law 1261 = .ok (.iload 9, 2) := by decide +kernel
theorem dL_law_1263 : decode cL_law 1263 = .ok (.ifCond .eq 45, 3) := by decide +kernel
theorem dL_law_1266 : decode cL_law 1266 = .ok (.aload_n 1, 1) := by decide +kernel
theorem dL_law_1267 : decode cL_law 1267 = .ok (.bipush 15, 2) := by decide +kernel
theorem dL_law_1269 : decode cL_law 1269 = .ok (.iload 10, 2) := by decide +kernel
theorem dL_law_1271 : decode cL_law 1271 = .ok (.iload 11, 2) := by decide +kernel
theorem dL_law_1273 : decode cL_law 1273 = .ok (.iconst 0, 1) := by decide +kernel
theorem dL_law_1274 : decode cL_law 1274 = .ok (.iconst 0, 1) := by decide +kernel
theorem dL_law_1275 : decode cL_law 1275 = .ok (.iconst 0, 1) := by decide +kernel
theorem dL_law_1276 : decode cL_law 1276 = .ok (.invokestatic 87, 3) := by decide +kernel
theorem dL_law_1279 : decode cL_law 1279 = .ok (.aload_n 2, 1) := by decide +kernel
theorem dL_law_1280 : decode cL_law 1280 = .ok (.bipush 15, 2) := by decide +kernel
theorem dL_law_1282 : decode cL_law 1282 = .ok (.iload 10, 2) := by decide +kernel
theorem dL_law_1284 : decode cL_law 1284 = .ok (.iload 11, 2) := by decide +kernel
theorem dL_law_1286 : decode cL_law 1286 = .ok (.iconst 0, 1) := by decide +kernel
theorem dL_law_1287 : decode cL_law 1287 = .ok (.iconst 0, 1) := by decide +kernel
theorem dL_law_1288 : decode cL_law 1288 = .ok (.iconst 0, 1) := by decide +kernel
theorem dL_law_1289 : decode cL_law 1289 = .ok (.invokestatic 87, 3) := by decide +kernel
theorem dL_law_1292 : decode cL_law 1292 = .ok (.if_icmp .ne 7, 3) := by decide +kernel
theorem dL_law_1295 : decode cL_law 1295 = .ok (.iconst 1, 1) := by decide +kernel
theorem dL_law_1296 : decode cL_law 1296 = .ok (.goto 4, 3) := by decide +kernel
theorem dL_law_1299 : decode cL_law 1299 = .ok (.iconst 0, 1) := by decide +kernel
theorem dL_law_1300 : decode cL_law 1300 = .ok (.istore 9, 2) := by decide +kernel
theorem dL_law_1302 : decode cL_law 1302 = .ok (.iinc 11 1, 3) := by decide +kernel
theorem dL_law_1305 : decode cL_law 1305 = .ok (.goto (-50), 3) := by decide +kernel
theorem dL_law_1308 : decode cL_law 1308 = .ok (.iload 9, 2) := by decide +kernel
theorem dL_law_1310 : decode cL_law 1310 = .ok (.ifCond .eq 34, 3) := by decide +kernel
theorem dL_law_1313 : decode cL_law 1313 = .ok (.aload_n 1, 1) := by decide +kernel
theorem dL_law_1314 : decode cL_law 1314 = .ok (.bipush 17, 2) := by decide +kernel
theorem dL_law_1316 : decode cL_law 1316 = .ok (.iload 10, 2) := by decide +kernel
theorem dL_law_1318 : decode cL_law 1318 = .ok (.iconst 0, 1) := by decide +kernel
theorem dL_law_1319 : decode cL_law 1319 = .ok (.iconst 0, 1) := by decide +kernel
theorem dL_law_1320 : decode cL_law 1320 = .ok (.iconst 0, 1) := by decide +kernel
theorem dL_law_1321 : decode cL_law 1321 = .ok (.iconst 0, 1) := by decide +kernel
theorem dL_law_1322 : decode cL_law 1322 = .ok (.invokestatic 87, 3) := by decide +kernel
theorem dL_law_1325 : decode cL_law 1325 = .ok (.aload_n 2, 1) := by decide +kernel
theorem dL_law_1326 : decode cL_law 1326 = .ok (.bipush 17, 2) := by decide +kernel
theorem dL_law_1328 : decode cL_law 1328 = .ok (.iload 10, 2) := by decide +kernel
theorem dL_law_1330 : decode cL_law 1330 = .ok (.iconst 0, 1) := by decide +kernel
theorem dL_law_1331 : decode cL_law 1331 = .ok (.iconst 0, 1) := by decide +kernel
theorem dL_law_1332 : decode cL_law 1332 = .ok (.iconst 0, 1) := by decide +kernel
theorem dL_law_1333 : decode cL_law 1333 = .ok (.iconst 0, 1) := by decide +kernel
theorem dL_law_1334 : decode cL_law 1334 = .ok (.invokestatic 87, 3) := by decide +kernel
theorem dL_law_1337 : decode cL_law 1337 = .ok (.if_icmp .ne 7, 3) := by decide +kernel
theorem dL_law_1340 : decode cL_law 1340 = .ok (.iconst 1, 1) := by decide +kernel
theorem dL_law_1341 : decode cL_law 1341 = .ok (.goto 4, 3) := by decide +kernel
theorem dL_law_1344 : decode cL_law 1344 = .ok (.iconst 0, 1) := by decide +kernel
theorem dL_law_1345 : decode cL_law 1345 = .ok (.istore 9, 2) := by decide +kernel
theorem dL_law_1347 : decode cL_law 1347 = .ok (.iinc 10 1, 3) := by decide +kernel
theorem dL_law_1350 : decode cL_law 1350 = .ok (.goto (-196), 3) := by decide +kernel
theorem dL_law_1353 : decode cL_law 1353 = .ok (.iload 9, 2) := by decide +kernel
theorem dL_law_1355 : decode cL_law 1355 = .ok (.ireturn, 1) := by decide +kernel
