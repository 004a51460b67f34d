theorem dX12_init_0 : decode cX12_init 0 = .ok (.aload_n 0, 1) := by decide +kernel
theorem dX12_init_1 : decode cX12_init 1 = .ok (.invokespecial 1, 3) := by decide +kernel
theorem dX12_init_4 : decode cX12_init 4 = .ok (.aload_n 0, 1) := by decide +kernel
theorem dX12_init_5 : decode cX12_init 5 = .ok (.bipush 100, 2) := by decide +kernel
theorem dX12_init_7 : decode cX12_init 7 = .ok (.putfield 7, 3) := by decide +kernel
theorem dX12_init_10 : decode cX12_init 10 = .ok (.aload_n 0, 1) := by decide +kernel
theorem dX12_init_11 : decode cX12_init 11 = .ok (.iconst 1, 1) := by decide +kernel
theorem dX12_init_12 : decode cX12_init 12 = .ok (.putfield 13, 3) := by decide +kernel
theorem dX12_init_15 : decode cX12_init 15 = .ok (.aload_n 0, 1) := by decide +kernel
theorem dX12_init_16 : decode cX12_init 16 = .ok (.iconst 1, 1) := by decide +kernel
theorem dX12_init_17 : decode cX12_init 17 = .ok (.putfield 16, 3) := by decide +kernel
theorem dX12_init_20 : decode cX12_init 20 = .ok (.aload_n 0, 1) := by decide +kernel
theorem dX12_init_21 : decode cX12_init 21 = .ok (.bipush 24, 2) := by decide +kernel
theorem dX12_init_23 : decode cX12_init 23 = .ok (.newarray .int, 2) := by decide +kernel
theorem dX12_init_25 : decode cX12_init 25 = .ok (.putfield 19, 3) := by decide +kernel
theorem dX12_init_28 : decode cX12_init 28 = .ok (.aload_n 0, 1) := by decide +kernel
theorem dX12_init_29 : decode cX12_init 29 = .ok (.bipush 24, 2) := by decide +kernel
theorem dX12_init_31 : decode cX12_init 31 = .ok (.newarray .int, 2) := by decide +kernel
theorem dX12_init_33 : decode cX12_init 33 = .ok (.putfield 23, 3) := by decide +kernel
theorem dX12_init_36 : decode cX12_init 36 = .ok (.aload_n 0, 1) := by decide +kernel
theorem dX12_init_37 : decode cX12_init 37 = .ok (.bipush 24, 2) := by decide +kernel
theorem dX12_init_39 : decode cX12_init 39 = .ok (.newarray .int, 2) := by decide +kernel
theorem dX12_init_41 : decode cX12_init 41 = .ok (.putfield 26, 3) := by decide +kernel
theorem dX12_init_44 : decode cX12_init 44 = .ok (.aload_n 0, 1) := by decide +kernel
theorem dX12_init_45 : decode cX12_init 45 = .ok (.bipush 24, 2) := by decide +kernel
theorem dX12_init_47 : decode cX12_init 47 = .ok (.newarray .int, 2) := by decide +kernel
theorem dX12_init_49 : decode cX12_init 49 = .ok (.putfield 29, 3) := by decide +kernel
theorem dX12_init_52 : decode cX12_init 52 = .ok (.aload_n 0, 1) := by decide +kernel
theorem dX12_init_53 : decode cX12_init 53 = .ok (.bipush 24, 2) := by decide +kernel
theorem dX12_init_55 : decode cX12_init 55 = .ok (.newarray .int, 2) := by decide +kernel
theorem dX12_init_57 : decode cX12_init 57 = .ok (.putfield 32, 3) := by decide +kernel
theorem dX12_init_60 : decode cX12_init 60 = .ok (.aload_n 0, 1) := by decide +kernel
theorem dX12_init_61 : decode cX12_init 61 = .ok (.bipush 24, 2) := by decide +kernel
theorem dX12_init_63 : decode cX12_init 63 = .ok (.newarray .boolean, 2) := by decide +kernel
theorem dX12_init_65 : decode cX12_init 65 = .ok (.putfield 35, 3) := by decide +kernel
theorem dX12_init_68 : decode cX12_init 68 = .ok (.aload_n 0, 1) := by decide +kernel
theorem dX12_init_69 : decode cX12_init 69 = .ok (.bipush 16, 2) := by decide +kernel
theorem dX12_init_71 : decode cX12_init 71 = .ok (.newarray .int, 2) := by decide +kernel
theorem dX12_init_73 : decode cX12_init 73 = .ok (.putfield 39, 3) := by decide +kernel
theorem dX12_init_76 : decode cX12_init 76 = .ok (.aload_n 0, 1) := by decide +kernel
theorem dX12_init_77 : decode cX12_init 77 = .ok (.bipush 48, 2) := by decide +kernel
theorem dX12_init_79 : decode cX12_init 79 = .ok (.newarray .int, 2) := by decide +kernel
theorem dX12_init_81 : decode cX12_init 81 = .ok (.putfield 42, 3) := by decide +kernel
theorem dX12_init_84 : decode cX12_init 84 = .ok (.aload_n 0, 1) := by decide +kernel
theorem dX12_init_85 : decode cX12_init 85 = .ok (.bipush 48, 2) := by decide +kernel
theorem dX12_init_87 : decode cX12_init 87 = .ok (.newarray .int, 2) := by decide +kernel
theorem dX12_init_89 : decode cX12_init 89 = .ok (.putfield 45, 3) := by decide +kernel
theorem dX12_init_92 : decode cX12_init 92 = .ok (.aload_n 0, 1) := by decide +kernel
theorem dX12_init_93 : decode cX12_init 93 = .ok (.bipush 48, 2) := by decide +kernel
theorem dX12_init_95 : decode cX12_init 95 = .ok (.newarray .int, 2) := by decide +kernel
theorem dX12_init_97 : decode cX12_init 97 = .ok (.putfield 48, 3) := by decide +kernel
theorem dX12_init_100 : decode cX12_init 100 = .ok (.aload_n 0, 1) := by decide +kernel
theorem dX12_init_101 : decode cX12_init 101 = .ok (.bipush 48, 2) := by decide +kernel
theorem dX12_init_103 : decode cX12_init 103 = .ok (.newarray .int, 2) := by decide +kernel
theorem dX12_init_105 : decode cX12_init 105 = .ok (.putfield 51, 3) := by decide +kernel
theorem dX12_init_108 : decode cX12_init 108 = .ok (.aload_n 0, 1) := by decide +kernel
theorem dX12_init_109 : decode cX12_init 109 = .ok (.bipush 16, 2) := by decide +kernel
theorem dX12_init_111 : decode cX12_init 111 = .ok (.newarray .int, 2) := by decide +kernel
theorem dX12_init_113 : decode cX12_init 113 = .ok (.putfield 54, 3) := by decide +kernel
theorem dX12_init_116 : decode cX12_init 116 = .ok (.aload_n 0, 1) := by decide +kernel
theorem dX12_init_117 : decode cX12_init 117 = .ok (.bipush 16, 2) := by decide +kernel
theorem dX12_init_119 : decode cX12_init 119 = .ok (.newarray .int, 2) := by decide +kernel
theorem dX12_init_121 : decode cX12_init 121 = .ok (.putfield 57, 3) := by decide +kernel
theorem dX12_init_124 : decode cX12_init 124 = .ok (.aload_n 0, 1) := by decide +kernel
theorem dX12_init_125 : decode cX12_init 125 = .ok (.bipush 16, 2) := by decide +kernel
theorem dX12_init_127 : decode cX12_init 127 = .ok (.newarray .boolean, 2) := by decide +kernel
theorem dX12_init_129 : decode cX12_init 129 = .ok (.putfield 60, 3) := by decide +kernel
theorem dX12_init_132 : decode cX12_init 132 = .ok (.aload_n 0, 1) := by decide +kernel
theorem dX12_init_133 : decode cX12_init 133 = .ok (.bipush 16, 2) := by decide +kernel
theorem dX12_init_135 : decode cX12_init 135 = .ok (.newarray .int, 2) := by decide +kernel
theorem dX12_init_137 : decode cX12_init 137 = .ok (.putfield 63, 3) := by decide +kernel
theorem dX12_init_140 : decode cX12_init 140 = .ok (.aload_n 0, 1) := by decide +kernel
theorem dX12_init_141 : decode cX12_init 141 = .ok (.sipush 224, 3) := by decide +kernel
theorem dX12_init_144 : decode cX12_init 144 = .ok (.newarray .int, 2) := by decide +kernel
theorem dX12_init_146 : decode cX12_init 146 = .ok (.putfield 66, 3) := by decide +kernel
theorem dX12_init_149 : decode cX12_init 149 = .ok (.aload_n 0, 1) := by decide +kernel
theorem dX12_init_150 : decode cX12_init 150 = .ok (.sipush 224, 3) := by decide +kernel
theorem dX12_init_153 : decode cX12_init 153 = .ok (.newarray .int, 2) := by decide +kernel
theorem dX12_init_155 : decode cX12_init 155 = .ok (.putfield 69, 3) := by decide +kernel
theorem dX12_init_158 : decode cX12_init 158 = .ok (.aload_n 0, 1) := by decide +kernel
theorem dX12_init_159 : decode cX12_init 159 = .ok (.sipush 224, 3) := by decide +kernel
theorem dX12_init_162 : decode cX12_init 162 = .ok (.newarray .int, 2) := by decide +kernel
theorem dX12_init_164 : decode cX12_init 164 = .ok (.putfield 72, 3) := by decide +kernel
theorem dX12_init_167 : decode cX12_init 167 = .ok (.aload_n 0, 1) := by decide +kernel
theorem dX12_init_168 : decode cX12_init 168 = .ok (.sipush 336, 3) := by decide +kernel
theorem dX12_init_171 : decode cX12_init 171 = .ok (.newarray .int, 2) := by decide +kernel
theorem dX12_init_173 : decode cX12_init 173 = .ok (.putfield 75, 3) := by decide +kernel
theorem dX12_init_176 : decode cX12_init 176 = .ok (.aload_n 0, 1) := by decide +kernel
theorem dX12_init_177 : decode cX12_init 177 = .ok (.sipush 336, 3) := by decide +kernel
theorem dX12_init_180 : decode cX12_init 180 = .ok (.newarray .int, 2) := by decide +kernel
theorem dX12_init_182 : decode cX12_init 182 = .ok (.putfield 78, 3) := by decide +kernel
theorem dX12_init_185 : decode cX12_init 185 = .ok (.aload_n 0, 1) := by decide +kernel
theorem dX12_init_186 : decode cX12_init 186 = .ok (.bipush 96, 2) := by decide +kernel
theorem dX12_init_188 : decode cX12_init 188 = .ok (.newarray .int, 2) := by decide +kernel
theorem dX12_init_190 : decode cX12_init 190 = .ok (.putfield 81, 3) := by decide +kernel
theorem dX12_init_193 : decode cX12_init 193 = .ok (.aload_n 0, 1) := by decide +kernel
theorem dX12_init_194 : decode cX12_init 194 = .ok (.bipush 24, 2) := by decide +kernel
theorem dX12_init_196 : decode cX12_init 196 = .ok (.newarray .int, 2) := by decide +kernel
theorem dX12_init_198 : decode cX12_init 198 = .ok (.putfield 84, 3) := by decide +kernel
theorem dX12_init_201 : decode cX12_init 201 = .ok (.aload_n 0, 1) := by decide +kernel
theorem dX12_init_202 : decode cX12_init 202 = .ok (.bipush 24, 2) := by decide +kernel
theorem dX12_init_204 : decode cX12_init 204 = .ok (.newarray .int, 2) := by decide +kernel
theorem dX12_init_206 : decode cX12_init 206 = .ok (.putfield 87, 3) := by decide +kernel
theorem dX12_init_209 : decode cX12_init 209 = .ok (.aload_n 0, 1) := by decide +kernel
theorem dX12_init_210 : decode cX12_init 210 = .ok (.bipush 24, 2) := by decide +kernel
theorem dX12_init_212 : decode cX12_init 212 = .ok (.newarray .boolean, 2) := by decide +kernel
theorem dX12_init_214 : decode cX12_init 214 = .ok (.putfield 90, 3) := by decide +kernel
theorem dX12_init_217 : decode cX12_init 217 = .ok (.aload_n 0, 1) := by decide +kernel
theorem dX12_init_218 : decode cX12_init 218 = .ok (.bipush 24, 2) := by decide +kernel
theorem dX12_init_220 : decode cX12_init 220 = .ok (.newarray .int, 2) := by decide +kernel
theorem dX12_init_222 : decode cX12_init 222 = .ok (.putfield 93, 3) := by decide +kernel
theorem dX12_init_225 : decode cX12_init 225 = .ok (.aload_n 0, 1) := by decide +kernel
theorem dX12_init_226 : decode cX12_init 226 = .ok (.sipush 336, 3) := by decide +kernel
theorem dX12_init_229 : decode cX12_init 229 = .ok (.newarray .int, 2) := by decide +kernel
theorem dX12_init_231 : decode cX12_init 231 = .ok (.putfield 96, 3) := by decide +kernel
theorem dX12_init_234 : decode cX12_init 234 = .ok (.aload_n 0, 1) := by decide +kernel
theorem dX12_init_235 : decode cX12_init 235 = .ok (.bipush 96, 2) := by decide +kernel
theorem dX12_init_237 : decode cX12_init 237 = .ok (.newarray .int, 2) := by decide +kernel
theorem dX12_init_239 : decode cX12_init 239 = .ok (.putfield 99, 3) := by decide +kernel
theorem dX12_init_242 : decode cX12_init 242 = .ok (.aload_n 0, 1) := by decide +kernel
theorem dX12_init_243 : decode cX12_init 243 = .ok (.bipush 24, 2) := by decide +kernel
theorem dX12_init_245 : decode cX12_init 245 = .ok (.newarray .int, 2) := by decide +kernel
theorem dX12_init_247 : decode cX12_init 247 = .ok (.putfield 102, 3) := by decide +kernel
theorem dX12_init_250 : decode cX12_init 250 = .ok (.aload_n 0, 1) := by decide +kernel
theorem dX12_init_251 : decode cX12_init 251 = .ok (.bipush 24, 2) := by decide +kernel
theorem dX12_init_253 : decode cX12_init 253 = .ok (.newarray .boolean, 2) := by decide +kernel
theorem dX12_init_255 : decode cX12_init 255 = .ok (.putfield 105, 3) := by decide +kernel
theorem dX12_init_258 : decode cX12_init 258 = .ok (.aload_n 0, 1) := by decide +kernel
theorem dX12_init_259 : decode cX12_init 259 = .ok (.bipush 16, 2) := by decide +kernel
theorem dX12_init_261 : decode cX12_init 261 = .ok (.newarray .boolean, 2) := by decide +kernel
theorem dX12_init_263 : decode cX12_init 263 = .ok (.putfield 108, 3) := by decide +kernel
theorem dX12_init_266 : decode cX12_init 266 = .ok (.aload_n 0, 1) := by decide +kernel
theorem dX12_init_267 : decode cX12_init 267 = .ok (.iconst 4, 1) := by decide +kernel
theorem dX12_init_268 : decode cX12_init 268 = .ok (.newarray .int, 2) := by decide +kernel
theorem dX12_init_270 : decode cX12_init 270 = .ok (.putfield 111, 3) := by decide +kernel
theorem dX12_init_273 : decode cX12_init 273 = .ok (.aload_n 0, 1) := by decide +kernel
theorem dX12_init_274 : decode cX12_init 274 = .ok (.bipush 24, 2) := by decide +kernel
theorem dX12_init_276 : decode cX12_init 276 = .ok (.newarray .int, 2) := by decide +kernel
theorem dX12_init_278 : decode cX12_init 278 = .ok (.putfield 114, 3) := by decide +kernel
theorem dX12_init_281 : decode cX12_init 281 = .ok (.aload_n 0, 1) := by decide +kernel
theorem dX12_init_282 : decode cX12_init 282 = .ok (.bipush 24, 2) := by decide +kernel
theorem dX12_init_284 : decode cX12_init 284 = .ok (.newarray .boolean, 2) := by decide +kernel
theorem dX12_init_286 : decode cX12_init 286 = .ok (.putfield 117, 3) := by decide +kernel
theorem dX12_init_289 : decode cX12_init 289 = .ok (.aload_n 0, 1) := by decide +kernel
theorem dX12_init_290 : decode cX12_init 290 = .ok (.getfield 23, 3) := by decide +kernel
theorem dX12_init_293 : decode cX12_init 293 = .ok (.iconst 0, 1) := by decide +kernel
theorem dX12_init_294 : decode cX12_init 294 = .ok (.iconst (-1), 1) := by decide +kernel
theorem dX12_init_295 : decode cX12_init 295 = .ok (.iastore, 1) := by decide +kernel
theorem dX12_init_296 : decode cX12_init 296 = .ok (.aload_n 0, 1) := by decide +kernel
theorem dX12_init_297 : decode cX12_init 297 = .ok (.invokevirtual 120, 3) := by decide +kernel
theorem dX12_init_300 : decode cX12_init 300 = .ok (.return_, 1) := by decide +kernel
theorem dX12_thrown_0 : decode cX12_thrown 0 = .ok (.aload_n 0, 1) := by decide +kernel
theorem dX12_thrown_1 : decode cX12_thrown 1 = .ok (.getfield 123, 3) := by decide +kernel
theorem dX12_thrown_4 : decode cX12_thrown 4 = .ok (.ireturn, 1) := by decide +kernel
theorem dX12_asked_0 : decode cX12_asked 0 = .ok (.aload_n 0, 1) := by decide +kernel
theorem dX12_asked_1 : decode cX12_asked 1 = .ok (.iload_n 1, 1) := by decide +kernel
theorem dX12_asked_2 : decode cX12_asked 2 = .ok (.ifCond .eq 7, 3) := by decide +kernel
theorem dX12_asked_5 : decode cX12_asked 5 = .ok (.iconst 0, 1) := by decide +kernel
theorem dX12_asked_6 : decode cX12_asked 6 = .ok (.goto 4, 3) := by decide +kernel
theorem dX12_asked_9 : decode cX12_asked 9 = .ok (.iconst 1, 1) := by decide +kernel
theorem dX12_asked_10 : decode cX12_asked 10 = .ok (.putfield 123, 3) := by decide +kernel
theorem dX12_asked_13 : decode cX12_asked 13 = .ok (.iload_n 1, 1) := by decide +kernel
theorem dX12_asked_14 : decode cX12_asked 14 = .ok (.ireturn, 1) := by decide +kernel
theorem dX12_asked__0 : decode cX12_asked_ 0 = .ok (.aload_n 0, 1) := by decide +kernel
theorem dX12_asked__1 : decode cX12_asked_ 1 = .ok (.iload_n 1, 1) := by decide +kernel
theorem dX12_asked__2 : decode cX12_asked_ 2 = .ok (.ifCond .ne 7, 3) := by decide +kernel
theorem dX12_asked__5 : decode cX12_asked_ 5 = .ok (.iconst 1, 1) := by decide +kernel
theorem dX12_asked__6 : decode cX12_asked_ 6 = .ok (.goto 12, 3) := by decide +kernel
theorem dX12_asked__9 : decode cX12_asked_ 9 = .ok (.iload_n 2, 1) := by decide +kernel
theorem dX12_asked__10 : decode cX12_asked_ 10 = .ok (.ifCond .eq 7, 3) := by decide +kernel
theorem dX12_asked__13 : decode cX12_asked_ 13 = .ok (.iconst 0, 1) := by decide +kernel
theorem dX12_asked__14 : decode cX12_asked_ 14 = .ok (.goto 4, 3) := by decide +kernel
theorem dX12_asked__17 : decode cX12_asked_ 17 = .ok (.iconst 2, 1) := by decide +kernel
theorem dX12_asked__18 : decode cX12_asked_ 18 = .ok (.putfield 123, 3) := by decide +kernel
theorem dX12_asked__21 : decode cX12_asked_ 21 = .ok (.aload_n 0, 1) := by decide +kernel
theorem dX12_asked__22 : decode cX12_asked_ 22 = .ok (.getfield 123, 3) := by decide +kernel
theorem dX12_asked__25 : decode cX12_asked_ 25 = .ok (.ifCond .ne 7, 3) := by decide +kernel
theorem dX12_asked__28 : decode cX12_asked_ 28 = .ok (.iconst 1, 1) := by decide +kernel
theorem dX12_asked__29 : decode cX12_asked_ 29 = .ok (.goto 4, 3) := by decide +kernel
theorem dX12_asked__32 : decode cX12_asked_ 32 = .ok (.iconst 0, 1) := by decide +kernel
theorem dX12_asked__33 : decode cX12_asked_ 33 = .ok (.ireturn, 1) := by decide +kernel
theorem dX12_asked___0 : decode cX12_asked__ 0 = .ok (.aload_n 0, 1) := by decide +kernel
theorem dX12_asked___1 : decode cX12_asked__ 1 = .ok (.iload_n 1, 1) := by decide +kernel
theorem dX12_asked___2 : decode cX12_asked__ 2 = .ok (.ifCond .ne 7, 3) := by decide +kernel
theorem dX12_asked___5 : decode cX12_asked__ 5 = .ok (.iconst 1, 1) := by decide +kernel
theorem dX12_asked___6 : decode cX12_asked__ 6 = .ok (.goto 20, 3) := by decide +kernel
theorem dX12_asked___9 : decode cX12_asked__ 9 = .ok (.iload_n 2, 1) := by decide +kernel
theorem dX12_asked___10 : decode cX12_asked__ 10 = .ok (.ifCond .ne 7, 3) := by decide +kernel
theorem dX12_asked___13 : decode cX12_asked__ 13 = .ok (.iconst 2, 1) := by decide +kernel
theorem dX12_asked___14 : decode cX12_asked__ 14 = .ok (.goto 12, 3) := by decide +kernel
theorem dX12_asked___17 : decode cX12_asked__ 17 = .ok (.iload_n 3, 1) := by decide +kernel
theorem dX12_asked___18 : decode cX12_asked__ 18 = .ok (.ifCond .eq 7, 3) := by decide +kernel
theorem dX12_asked___21 : decode cX12_asked__ 21 = .ok (.iconst 0, 1) := by decide +kernel
theorem dX12_asked___22 : decode cX12_asked__ 22 = .ok (.goto 4, 3) := by decide +kernel
theorem dX12_asked___25 : decode cX12_asked__ 25 = .ok (.iconst 3, 1) := by decide +kernel
theorem dX12_asked___26 : decode cX12_asked__ 26 = .ok (.putfield 123, 3) := by decide +kernel
theorem dX12_asked___29 : decode cX12_asked__ 29 = .ok (.aload_n 0, 1) := by decide +kernel
theorem dX12_asked___30 : decode cX12_asked__ 30 = .ok (.getfield 123, 3) := by decide +kernel
theorem dX12_asked___33 : decode cX12_asked__ 33 = .ok (.ifCond .ne 7, 3) := by decide +kernel
theorem dX12_asked___36 : decode cX12_asked__ 36 = .ok (.iconst 1, 1) := by decide +kernel
theorem dX12_asked___37 : decode cX12_asked__ 37 = .ok (.goto 4, 3) := by decide +kernel
theorem dX12_asked___40 : decode cX12_asked__ 40 = .ok (.iconst 0, 1) := by decide +kernel
theorem dX12_asked___41 : decode cX12_asked__ 41 = .ok (.ireturn, 1) := by decide +kernel
theorem dX12_in_0 : decode cX12_in 0 = .ok (.iload_n 0, 1) := by decide +kernel
theorem dX12_in_1 : decode cX12_in 1 = .ok (.iload_n 1, 1) := by decide +kernel
theorem dX12_in_2 : decode cX12_in 2 = .ok (.if_icmp .lt 12, 3) := by decide +kernel
theorem dX12_in_5 : decode cX12_in 5 = .ok (.iload_n 0, 1) := by decide +kernel
theorem dX12_in_6 : decode cX12_in 6 = .ok (.iload_n 2, 1) := by decide +kernel
theorem dX12_in_7 : decode cX12_in 7 = .ok (.if_icmp .gt 7, 3) := by decide +kernel
theorem dX12_in_10 : decode cX12_in 10 = .ok (.iconst 1, 1) := by decide +kernel
theorem dX12_in_11 : decode cX12_in 11 = .ok (.goto 4, 3) := by decide +kernel
theorem dX12_in_14 : decode cX12_in 14 = .ok (.iconst 0, 1) := by decide +kernel
theorem dX12_in_15 : decode cX12_in 15 = .ok (.ireturn, 1) := by decide +kernel
theorem dX12_placeOf_0 : decode cX12_placeOf 0 = .ok (.iconst 0, 1) := by decide +kernel
theorem dX12_placeOf_1 : decode cX12_placeOf 1 = .ok (.istore_n 2, 1) := by decide +kernel
theorem dX12_placeOf_2 : decode cX12_placeOf 2 = .ok (.iload_n 2, 1) := by decide +kernel
theorem dX12_placeOf_3 : decode cX12_placeOf 3 = .ok (.aload_n 0, 1) := by decide +kernel
theorem dX12_placeOf_4 : decode cX12_placeOf 4 = .ok (.getfield 16, 3) := by decide +kernel
theorem dX12_placeOf_7 : decode cX12_placeOf 7 = .ok (.if_icmp .ge 21, 3) := by decide +kernel
theorem dX12_placeOf_10 : decode cX12_placeOf 10 = .ok (.aload_n 0, 1) := by decide +kernel
theorem dX12_placeOf_11 : decode cX12_placeOf 11 = .ok (.getfield 19, 3) := by decide +kernel
theorem dX12_placeOf_14 : decode cX12_placeOf 14 = .ok (.iload_n 2, 1) := by decide +kernel
theorem dX12_placeOf_15 : decode cX12_placeOf 15 = .ok (.iaload, 1) := by decide +kernel
theorem dX12_placeOf_16 : decode cX12_placeOf 16 = .ok (.iload_n 1, 1) := by decide +kernel
theorem dX12_placeOf_17 : decode cX12_placeOf 17 = .ok (.if_icmp .ne 5, 3) := by decide +kernel
theorem dX12_placeOf_20 : decode cX12_placeOf 20 = .ok (.iload_n 2, 1) := by decide +kernel
theorem dX12_placeOf_21 : decode cX12_placeOf 21 = .ok (.ireturn, 1) := by decide +kernel
theorem dX12_placeOf_22 : decode cX12_placeOf 22 = .ok (.iinc 2 1, 3) := by decide +kernel
theorem dX12_placeOf_25 : decode cX12_placeOf 25 = .ok (.goto (-23), 3) := by decide +kernel
theorem dX12_placeOf_28 : decode cX12_placeOf 28 = .ok (.iconst (-1), 1) := by decide +kernel
theorem dX12_placeOf_29 : decode cX12_placeOf 29 = .ok (.ireturn, 1) := by decide +kernel
theorem dX12_isRule_0 : decode cX12_isRule 0 = .ok (.iload_n 1, 1) := by decide +kernel
theorem dX12_isRule_1 : decode cX12_isRule 1 = .ok (.iconst 0, 1) := by decide +kernel
theorem dX12_isRule_2 : decode cX12_isRule 2 = .ok (.aload_n 0, 1) := by decide +kernel
theorem dX12_isRule_3 : decode cX12_isRule 3 = .ok (.getfield 126, 3) := by decide +kernel
theorem dX12_isRule_6 : decode cX12_isRule 6 = .ok (.iconst 1, 1) := by decide +kernel
theorem dX12_isRule_7 : decode cX12_isRule 7 = .ok (.isub, 1) := by decide +kernel
theorem dX12_isRule_8 : decode cX12_isRule 8 = .ok (.invokestatic 129, 3) := by decide +kernel
theorem dX12_isRule_11 : decode cX12_isRule 11 = .ok (.ireturn, 1) := by decide +kernel
theorem dX12_keeps_0 : decode cX12_keeps 0 = .ok (.aload_n 0, 1) := by decide +kernel
theorem dX12_keeps_1 : decode cX12_keeps 1 = .ok (.aload_n 0, 1) := by decide +kernel
theorem dX12_keeps_2 : decode cX12_keeps 2 = .ok (.getfield 16, 3) := by decide +kernel
theorem dX12_keeps_5 : decode cX12_keeps 5 = .ok (.putfield 133, 3) := by decide +kernel
theorem dX12_keeps_8 : decode cX12_keeps 8 = .ok (.iconst 0, 1) := by decide +kernel
theorem dX12_keeps_9 : decode cX12_keeps 9 = .ok (.istore_n 1, 1) := by decide +kernel
theorem dX12_keeps_10 : decode cX12_keeps 10 = .ok (.iload_n 1, 1) := by decide +kernel
theorem dX12_keeps_11 : decode cX12_keeps 11 = .ok (.aload_n 0, 1) := by decide +kernel
theorem dX12_keeps_12 : decode cX12_keeps 12 = .ok (.getfield 16, 3) := by decide +kernel
theorem dX12_keeps_15 : decode cX12_keeps 15 = .ok (.if_icmp .ge 21, 3) := by decide +kernel
theorem dX12_keeps_18 : decode cX12_keeps 18 = .ok (.aload_n 0, 1) := by decide +kernel
theorem dX12_keeps_19 : decode cX12_keeps 19 = .ok (.getfield 93, 3) := by decide +kernel
theorem dX12_keeps_22 : decode cX12_keeps 22 = .ok (.iload_n 1, 1) := by decide +kernel
theorem dX12_keeps_23 : decode cX12_keeps 23 = .ok (.aload_n 0, 1) := by decide +kernel
theorem dX12_keeps_24 : decode cX12_keeps 24 = .ok (.getfield 19, 3) := by decide +kernel
theorem dX12_keeps_27 : decode cX12_keeps 27 = .ok (.iload_n 1, 1) := by decide +kernel
theorem dX12_keeps_28 : decode cX12_keeps 28 = .ok (.iaload, 1) := by decide +kernel
theorem dX12_keeps_29 : decode cX12_keeps 29 = .ok (.iastore, 1) := by decide +kernel
theorem dX12_keeps_30 : decode cX12_keeps 30 = .ok (.iinc 1 1, 3) := by decide +kernel
theorem dX12_keeps_33 : decode cX12_keeps 33 = .ok (.goto (-23), 3) := by decide +kernel
theorem dX12_keeps_36 : decode cX12_keeps 36 = .ok (.iconst 0, 1) := by decide +kernel
theorem dX12_keeps_37 : decode cX12_keeps 37 = .ok (.istore_n 1, 1) := by decide +kernel
theorem dX12_keeps_38 : decode cX12_keeps 38 = .ok (.iload_n 1, 1) := by decide +kernel
theorem dX12_keeps_39 : decode cX12_keeps 39 = .ok (.bipush 14, 2) := by decide +kernel
theorem dX12_keeps_41 : decode cX12_keeps 41 = .ok (.aload_n 0, 1) := by decide +kernel
theorem dX12_keeps_42 : decode cX12_keeps 42 = .ok (.getfield 16, 3) := by decide +kernel
theorem dX12_keeps_45 : decode cX12_keeps 45 = .ok (.imul, 1) := by decide +kernel
theorem dX12_keeps_46 : decode cX12_keeps 46 = .ok (.if_icmp .ge 21, 3) := by decide +kernel
theorem dX12_keeps_49 : decode cX12_keeps 49 = .ok (.aload_n 0, 1) := by decide +kernel
theorem dX12_keeps_50 : decode cX12_keeps 50 = .ok (.getfield 96, 3) := by decide +kernel
theorem dX12_keeps_53 : decode cX12_keeps 53 = .ok (.iload_n 1, 1) := by decide +kernel
theorem dX12_keeps_54 : decode cX12_keeps 54 = .ok (.aload_n 0, 1) := by decide +kernel
theorem dX12_keeps_55 : decode cX12_keeps 55 = .ok (.getfield 75, 3) := by decide +kernel
theorem dX12_keeps_58 : decode cX12_keeps 58 = .ok (.iload_n 1, 1) := by decide +kernel
theorem dX12_keeps_59 : decode cX12_keeps 59 = .ok (.iaload, 1) := by decide +kernel
theorem dX12_keeps_60 : decode cX12_keeps 60 = .ok (.iastore, 1) := by decide +kernel
theorem dX12_keeps_61 : decode cX12_keeps 61 = .ok (.iinc 1 1, 3) := by decide +kernel
theorem dX12_keeps_64 : decode cX12_keeps 64 = .ok (.goto (-26), 3) := by decide +kernel
theorem dX12_keeps_67 : decode cX12_keeps 67 = .ok (.iconst 0, 1) := by decide +kernel
theorem dX12_keeps_68 : decode cX12_keeps 68 = .ok (.istore_n 1, 1) := by decide +kernel
theorem dX12_keeps_69 : decode cX12_keeps 69 = .ok (.iload_n 1, 1) := by decide +kernel
theorem dX12_keeps_70 : decode cX12_keeps 70 = .ok (.iconst 4, 1) := by decide +kernel
theorem dX12_keeps_71 : decode cX12_keeps 71 = .ok (.aload_n 0, 1) := by decide +kernel
theorem dX12_keeps_72 : decode cX12_keeps 72 = .ok (.getfield 16, 3) := by decide +kernel
theorem dX12_keeps_75 : decode cX12_keeps 75 = .ok (.imul, 1) := by decide +kernel
theorem dX12_keeps_76 : decode cX12_keeps 76 = .ok (.if_icmp .ge 21, 3) := by decide +kernel
theorem dX12_keeps_79 : decode cX12_keeps 79 = .ok (.aload_n 0, 1) := by decide +kernel
theorem dX12_keeps_80 : decode cX12_keeps 80 = .ok (.getfield 99, 3) := by decide +kernel
theorem dX12_keeps_83 : decode cX12_keeps 83 = .ok (.iload_n 1, 1) := by decide +kernel
theorem dX12_keeps_84 : decode cX12_keeps 84 = .ok (.aload_n 0, 1) := by decide +kernel
theorem dX12_keeps_85 : decode cX12_keeps 85 = .ok (.getfield 81, 3) := by decide +kernel
theorem dX12_keeps_88 : decode cX12_keeps 88 = .ok (.iload_n 1, 1) := by decide +kernel
theorem dX12_keeps_89 : decode cX12_keeps 89 = .ok (.iaload, 1) := by decide +kernel
theorem dX12_keeps_90 : decode cX12_keeps 90 = .ok (.iastore, 1) := by decide +kernel
theorem dX12_keeps_91 : decode cX12_keeps 91 = .ok (.iinc 1 1, 3) := by decide +kernel
theorem dX12_keeps_94 : decode cX12_keeps 94 = .ok (.goto (-25), 3) := by decide +kernel
theorem dX12_keeps_97 : decode cX12_keeps 97 = .ok (.return_, 1) := by decide +kernel
theorem dX12_changes_0 : decode cX12_changes 0 = .ok (.aload_n 0, 1) := by decide +kernel
theorem dX12_changes_1 : decode cX12_changes 1 = .ok (.invokevirtual 120, 3) := by decide +kernel
theorem dX12_changes_4 : decode cX12_changes 4 = .ok (.iconst 0, 1) := by decide +kernel
theorem dX12_changes_5 : decode cX12_changes 5 = .ok (.istore_n 1, 1) := by decide +kernel
theorem dX12_changes_6 : decode cX12_changes 6 = .ok (.iconst 0, 1) := by decide +kernel
theorem dX12_changes_7 : decode cX12_changes 7 = .ok (.istore_n 2, 1) := by decide +kernel
theorem dX12_changes_8 : decode cX12_changes 8 = .ok (.iload_n 2, 1) := by decide +kernel
theorem dX12_changes_9 : decode cX12_changes 9 = .ok (.aload_n 0, 1) := by decide +kernel
theorem dX12_changes_10 : decode cX12_changes 10 = .ok (.getfield 16, 3) := by decide +kernel
theorem dX12_changes_13 : decode cX12_changes 13 = .ok (.if_icmp .ge 178, 3) := by decide +kernel
theorem dX12_changes_16 : decode cX12_changes 16 = .ok (.iconst 0, 1) := by decide +kernel
theorem dX12_changes_17 : decode cX12_changes 17 = .ok (.istore_n 3, 1) := by decide +kernel
theorem dX12_changes_18 : decode cX12_changes 18 = .ok (.iload_n 3, 1) := by decide +kernel
theorem dX12_changes_19 : decode cX12_changes 19 = .ok (.aload_n 0, 1) := by decide +kernel
theorem dX12_changes_20 : decode cX12_changes 20 = .ok (.getfield 133, 3) := by decide +kernel
theorem dX12_changes_23 : decode cX12_changes 23 = .ok (.if_icmp .ge 162, 3) := by decide +kernel
theorem dX12_changes_26 : decode cX12_changes 26 = .ok (.aload_n 0, 1) := by decide +kernel
theorem dX12_changes_27 : decode cX12_changes 27 = .ok (.getfield 19, 3) := by decide +kernel
theorem dX12_changes_30 : decode cX12_changes 30 = .ok (.iload_n 2, 1) := by decide +kernel
theorem dX12_changes_31 : decode cX12_changes 31 = .ok (.iaload, 1) := by decide +kernel
theorem dX12_changes_32 : decode cX12_changes 32 = .ok (.aload_n 0, 1) := by decide +kernel
theorem dX12_changes_33 : decode cX12_changes 33 = .ok (.getfield 93, 3) := by decide +kernel
theorem dX12_changes_36 : decode cX12_changes 36 = .ok (.iload_n 3, 1) := by decide +kernel
theorem dX12_changes_37 : decode cX12_changes 37 = .ok (.iaload, 1) := by decide +kernel
theorem dX12_changes_38 : decode cX12_changes 38 = .ok (.if_icmp .ne 141, 3) := by decide +kernel
theorem dX12_changes_41 : decode cX12_changes 41 = .ok (.iconst 1, 1) := by decide +kernel
theorem dX12_changes_42 : decode cX12_changes 42 = .ok (.istore 4, 2) := by decide +kernel
theorem dX12_changes_44 : decode cX12_changes 44 = .ok (.iconst 0, 1) := by decide +kernel
theorem dX12_changes_45 : decode cX12_changes 45 = .ok (.istore 5, 2) := by decide +kernel
theorem dX12_changes_47 : decode cX12_changes 47 = .ok (.iload 5, 2) := by decide +kernel
theorem dX12_changes_49 : decode cX12_changes 49 = .ok (.bipush 14, 2) := by decide +kernel
theorem dX12_changes_51 : decode cX12_changes 51 = .ok (.if_icmp .ge 46, 3) := by decide +kernel
theorem dX12_changes_54 : decode cX12_changes 54 = .ok (.iload 4, 2) := by decide +kernel
theorem dX12_changes_56 : decode cX12_changes 56 = .ok (.aload_n 0, 1) := by decide +kernel
theorem dX12_changes_57 : decode cX12_changes 57 = .ok (.getfield 75, 3) := by decide +kernel
theorem dX12_changes_60 : decode cX12_changes 60 = .ok (.bipush 14, 2) := by decide +kernel
theorem dX12_changes_62 : decode cX12_changes 62 = .ok (.iload_n 2, 1) := by decide +kernel
theorem dX12_changes_63 : decode cX12_changes 63 = .ok (.imul, 1) := by decide +kernel
theorem dX12_changes_64 : decode cX12_changes 64 = .ok (.iload 5, 2) := by decide +kernel
theorem dX12_changes_66 : decode cX12_changes 66 = .ok (.iadd, 1) := by decide +kernel
theorem dX12_changes_67 : decode cX12_changes 67 = .ok (.iaload, 1) := by decide +kernel
theorem dX12_changes_68 : decode cX12_changes 68 = .ok (.aload_n 0, 1) := by decide +kernel
theorem dX12_changes_69 : decode cX12_changes 69 = .ok (.getfield 96, 3) := by decide +kernel
theorem dX12_changes_72 : decode cX12_changes 72 = .ok (.bipush 14, 2) := by decide +kernel
theorem dX12_changes_74 : decode cX12_changes 74 = .ok (.iload_n 3, 1) := by decide +kernel
theorem dX12_changes_75 : decode cX12_changes 75 = .ok (.imul, 1) := by decide +kernel
theorem dX12_changes_76 : decode cX12_changes 76 = .ok (.iload 5, 2) := by decide +kernel
theorem dX12_changes_78 : decode cX12_changes 78 = .ok (.iadd, 1) := by decide +kernel
theorem dX12_changes_79 : decode cX12_changes 79 = .ok (.iaload, 1) := by decide +kernel
theorem dX12_changes_80 : decode cX12_changes 80 = .ok (.if_icmp .ne 7, 3) := by decide +kernel
theorem dX12_changes_83 : decode cX12_changes 83 = .ok (.iconst 1, 1) := by decide +kernel
theorem dX12_changes_84 : decode cX12_changes 84 = .ok (.goto 4, 3) := by decide +kernel
theorem dX12_changes_87 : decode cX12_changes 87 = .ok (.iconst 0, 1) := by decide +kernel
theorem dX12_changes_88 : decode cX12_changes 88 = .ok (.iand, 1) := by decide +kernel
theorem dX12_changes_89 : decode cX12_changes 89 = .ok (.istore 4, 2) := by decide +kernel
theorem dX12_changes_91 : decode cX12_changes 91 = .ok (.iinc 5 1, 3) := by decide +kernel
theorem dX12_changes_94 : decode cX12_changes 94 = .ok (.goto (-47), 3) := by decide +kernel
theorem dX12_changes_97 : decode cX12_changes 97 = .ok (.iconst 0, 1) := by decide +kernel
theorem dX12_changes_98 : decode cX12_changes 98 = .ok (.istore 5, 2) := by decide +kernel
theorem dX12_changes_100 : decode cX12_changes 100 = .ok (.iload 5, 2) := by decide +kernel
theorem dX12_changes_102 : decode cX12_changes 102 = .ok (.iconst 4, 1) := by decide +kernel
theorem dX12_changes_103 : decode cX12_changes 103 = .ok (.if_icmp .ge 44, 3) := by decide +kernel
theorem dX12_changes_106 : decode cX12_changes 106 = .ok (.iload 4, 2) := by decide +kernel
theorem dX12_changes_108 : decode cX12_changes 108 = .ok (.aload_n 0, 1) := by decide +kernel
theorem dX12_changes_109 : decode cX12_changes 109 = .ok (.getfield 81, 3) := by decide +kernel
theorem dX12_changes_112 : decode cX12_changes 112 = .ok (.iconst 4, 1) := by decide +kernel
theorem dX12_changes_113 : decode cX12_changes 113 = .ok (.iload_n 2, 1) := by decide +kernel
theorem dX12_changes_114 : decode cX12_changes 114 = .ok (.imul, 1) := by decide +kernel
theorem dX12_changes_115 : decode cX12_changes 115 = .ok (.iload 5, 2) := by decide +kernel
theorem dX12_changes_117 : decode cX12_changes 117 = .ok (.iadd, 1) := by decide +kernel
theorem dX12_changes_118 : decode cX12_changes 118 = .ok (.iaload, 1) := by decide +kernel
theorem dX12_changes_119 : decode cX12_changes 119 = .ok (.aload_n 0, 1) := by decide +kernel
theorem dX12_changes_120 : decode cX12_changes 120 = .ok (.getfield 99, 3) := by decide +kernel
theorem dX12_changes_123 : decode cX12_changes 123 = .ok (.iconst 4, 1) := by decide +kernel
theorem dX12_changes_124 : decode cX12_changes 124 = .ok (.iload_n 3, 1) := by decide +kernel
theorem dX12_changes_125 : decode cX12_changes 125 = .ok (.imul, 1) := by decide +kernel
theorem dX12_changes_126 : decode cX12_changes 126 = .ok (.iload 5, 2) := by decide +kernel
theorem dX12_changes_128 : decode cX12_changes 128 = .ok (.iadd, 1) := by decide +kernel
theorem dX12_changes_129 : decode cX12_changes 129 = .ok (.iaload, 1) := by decide +kernel
theorem dX12_changes_130 : decode cX12_changes 130 = .ok (.if_icmp .ne 7, 3) := by decide +kernel
theorem dX12_changes_133 : decode cX12_changes 133 = .ok (.iconst 1, 1) := by decide +kernel
theorem dX12_changes_134 : decode cX12_changes 134 = .ok (.goto 4, 3) := by decide +kernel
theorem dX12_changes_137 : decode cX12_changes 137 = .ok (.iconst 0, 1) := by decide +kernel
theorem dX12_changes_138 : decode cX12_changes 138 = .ok (.iand, 1) := by decide +kernel
theorem dX12_changes_139 : decode cX12_changes 139 = .ok (.istore 4, 2) := by decide +kernel
theorem dX12_changes_141 : decode cX12_changes 141 = .ok (.iinc 5 1, 3) := by decide +kernel
theorem dX12_changes_144 : decode cX12_changes 144 = .ok (.goto (-44), 3) := by decide +kernel
theorem dX12_changes_147 : decode cX12_changes 147 = .ok (.iload_n 1, 1) := by decide +kernel
theorem dX12_changes_148 : decode cX12_changes 148 = .ok (.iload 4, 2) := by decide +kernel
theorem dX12_changes_150 : decode cX12_changes 150 = .ok (.ifCond .eq 7, 3) := by decide +kernel
theorem dX12_changes_153 : decode cX12_changes 153 = .ok (.iconst 1, 1) := by decide +kernel
theorem dX12_changes_154 : decode cX12_changes 154 = .ok (.goto 4, 3) := by decide +kernel
theorem dX12_changes_157 : decode cX12_changes 157 = .ok (.iconst 0, 1) := by decide +kernel
theorem dX12_changes_158 : decode cX12_changes 158 = .ok (.iadd, 1) := by decide +kernel
theorem dX12_changes_159 : decode cX12_changes 159 = .ok (.istore_n 1, 1) := by decide +kernel
theorem dX12_changes_160 : decode cX12_changes 160 = .ok (.aload_n 0, 1) := by decide +kernel
theorem dX12_changes_161 : decode cX12_changes 161 = .ok (.dup, 1) := by decide +kernel
theorem dX12_changes_162 : decode cX12_changes 162 = .ok (.getfield 136, 3) := by decide +kernel
theorem dX12_changes_165 : decode cX12_changes 165 = .ok (.iload 4, 2) := by decide +kernel
theorem dX12_changes_167 : decode cX12_changes 167 = .ok (.ifCond .eq 7, 3) := by decide +kernel
theorem dX12_changes_170 : decode cX12_changes 170 = .ok (.iconst 0, 1) := by decide +kernel
theorem dX12_changes_171 : decode cX12_changes 171 = .ok (.goto 4, 3) := by decide +kernel
theorem dX12_changes_174 : decode cX12_changes 174 = .ok (.iconst 1, 1) := by decide +kernel
theorem dX12_changes_175 : decode cX12_changes 175 = .ok (.iadd, 1) := by decide +kernel
theorem dX12_changes_176 : decode cX12_changes 176 = .ok (.putfield 136, 3) := by decide +kernel
theorem dX12_changes_179 : decode cX12_changes 179 = .ok (.iinc 3 1, 3) := by decide +kernel
theorem dX12_changes_182 : decode cX12_changes 182 = .ok (.goto (-164), 3) := by decide +kernel
theorem dX12_changes_185 : decode cX12_changes 185 = .ok (.iinc 2 1, 3) := by decide +kernel
theorem dX12_changes_188 : decode cX12_changes 188 = .ok (.goto (-180), 3) := by decide +kernel
theorem dX12_changes_191 : decode cX12_changes 191 = .ok (.iload_n 1, 1) := by decide +kernel
theorem dX12_changes_192 : decode cX12_changes 192 = .ok (.aload_n 0, 1) := by decide +kernel
theorem dX12_changes_193 : decode cX12_changes 193 = .ok (.getfield 136, 3) := by decide +kernel
theorem dX12_changes_196 : decode cX12_changes 196 = .ok (.iadd, 1) := by decide +kernel
theorem dX12_changes_197 : decode cX12_changes 197 = .ok (.istore_n 2, 1) := by decide +kernel
theorem dX12_changes_198 : decode cX12_changes 198 = .ok (.aload_n 0, 1) := by decide +kernel
theorem dX12_changes_199 : decode cX12_changes 199 = .ok (.dup, 1) := by decide +kernel
theorem dX12_changes_200 : decode cX12_changes 200 = .ok (.getfield 136, 3) := by decide +kernel
theorem dX12_changes_203 : decode cX12_changes 203 = .ok (.aload_n 0, 1) := by decide +kernel
theorem dX12_changes_204 : decode cX12_changes 204 = .ok (.getfield 16, 3) := by decide +kernel
theorem dX12_changes_207 : decode cX12_changes 207 = .ok (.iload_n 2, 1) := by decide +kernel
theorem dX12_changes_208 : decode cX12_changes 208 = .ok (.isub, 1) := by decide +kernel
theorem dX12_changes_209 : decode cX12_changes 209 = .ok (.aload_n 0, 1) := by decide +kernel
theorem dX12_changes_210 : decode cX12_changes 210 = .ok (.getfield 133, 3) := by decide +kernel
theorem dX12_changes_213 : decode cX12_changes 213 = .ok (.iadd, 1) := by decide +kernel
theorem dX12_changes_214 : decode cX12_changes 214 = .ok (.iload_n 2, 1) := by decide +kernel
theorem dX12_changes_215 : decode cX12_changes 215 = .ok (.isub, 1) := by decide +kernel
theorem dX12_changes_216 : decode cX12_changes 216 = .ok (.iadd, 1) := by decide +kernel
theorem dX12_changes_217 : decode cX12_changes 217 = .ok (.putfield 136, 3) := by decide +kernel
theorem dX12_changes_220 : decode cX12_changes 220 = .ok (.return_, 1) := by decide +kernel
theorem dX12_add_0 : decode cX12_add 0 = .ok (.aload_n 0, 1) := by decide +kernel
theorem dX12_add_1 : decode cX12_add 1 = .ok (.iload_n 1, 1) := by decide +kernel
theorem dX12_add_2 : decode cX12_add 2 = .ok (.invokevirtual 139, 3) := by decide +kernel
theorem dX12_add_5 : decode cX12_add 5 = .ok (.istore 4, 2) := by decide +kernel
theorem dX12_add_7 : decode cX12_add 7 = .ok (.aload_n 0, 1) := by decide +kernel
theorem dX12_add_8 : decode cX12_add 8 = .ok (.iload 4, 2) := by decide +kernel
theorem dX12_add_10 : decode cX12_add 10 = .ok (.iconst (-1), 1) := by decide +kernel
theorem dX12_add_11 : decode cX12_add 11 = .ok (.if_icmp .eq 7, 3) := by decide +kernel
theorem dX12_add_14 : decode cX12_add 14 = .ok (.iconst 1, 1) := by decide +kernel
theorem dX12_add_15 : decode cX12_add 15 = .ok (.goto 4, 3) := by decide +kernel
theorem dX12_add_18 : decode cX12_add 18 = .ok (.iconst 0, 1) := by decide +kernel
theorem dX12_add_19 : decode cX12_add 19 = .ok (.iload_n 2, 1) := by decide +kernel
theorem dX12_add_20 : decode cX12_add 20 = .ok (.iconst 0, 1) := by decide +kernel
theorem dX12_add_21 : decode cX12_add 21 = .ok (.iconst 5, 1) := by decide +kernel
theorem dX12_add_22 : decode cX12_add 22 = .ok (.invokestatic 129, 3) := by decide +kernel
theorem dX12_add_25 : decode cX12_add 25 = .ok (.ifCond .eq 18, 3) := by decide +kernel
theorem dX12_add_28 : decode cX12_add 28 = .ok (.iload_n 3, 1) := by decide +kernel
theorem dX12_add_29 : decode cX12_add 29 = .ok (.iconst 0, 1) := by decide +kernel
theorem dX12_add_30 : decode cX12_add 30 = .ok (.sipush 255, 3) := by decide +kernel
theorem dX12_add_33 : decode cX12_add 33 = .ok (.invokestatic 129, 3) := by decide +kernel
theorem dX12_add_36 : decode cX12_add 36 = .ok (.ifCond .eq 7, 3) := by decide +kernel
theorem dX12_add_39 : decode cX12_add 39 = .ok (.iconst 1, 1) := by decide +kernel
theorem dX12_add_40 : decode cX12_add 40 = .ok (.goto 4, 3) := by decide +kernel
theorem dX12_add_43 : decode cX12_add 43 = .ok (.iconst 0, 1) := by decide +kernel
theorem dX12_add_44 : decode cX12_add 44 = .ok (.aload_n 0, 1) := by decide +kernel
theorem dX12_add_45 : decode cX12_add 45 = .ok (.getfield 16, 3) := by decide +kernel
theorem dX12_add_48 : decode cX12_add 48 = .ok (.bipush 24, 2) := by decide +kernel
theorem dX12_add_50 : decode cX12_add 50 = .ok (.if_icmp .ge 7, 3) := by decide +kernel
theorem dX12_add_53 : decode cX12_add 53 = .ok (.iconst 1, 1) := by decide +kernel
theorem dX12_add_54 : decode cX12_add 54 = .ok (.goto 4, 3) := by decide +kernel
theorem dX12_add_57 : decode cX12_add 57 = .ok (.iconst 0, 1) := by decide +kernel
theorem dX12_add_58 : decode cX12_add 58 = .ok (.invokevirtual 143, 3) := by decide +kernel
theorem dX12_add_61 : decode cX12_add 61 = .ok (.ifCond .ne 5, 3) := by decide +kernel
theorem dX12_add_64 : decode cX12_add 64 = .ok (.iconst 0, 1) := by decide +kernel
theorem dX12_add_65 : decode cX12_add 65 = .ok (.ireturn, 1) := by decide +kernel
theorem dX12_add_66 : decode cX12_add 66 = .ok (.aload_n 0, 1) := by decide +kernel
theorem dX12_add_67 : decode cX12_add 67 = .ok (.invokevirtual 147, 3) := by decide +kernel
theorem dX12_add_70 : decode cX12_add 70 = .ok (.aload_n 0, 1) := by decide +kernel
theorem dX12_add_71 : decode cX12_add 71 = .ok (.getfield 19, 3) := by decide +kernel
theorem dX12_add_74 : decode cX12_add 74 = .ok (.aload_n 0, 1) := by decide +kernel
theorem dX12_add_75 : decode cX12_add 75 = .ok (.getfield 16, 3) := by decide +kernel
theorem dX12_add_78 : decode cX12_add 78 = .ok (.aload_n 0, 1) := by decide +kernel
theorem dX12_add_79 : decode cX12_add 79 = .ok (.getfield 13, 3) := by decide +kernel
theorem dX12_add_82 : decode cX12_add 82 = .ok (.iastore, 1) := by decide +kernel
theorem dX12_add_83 : decode cX12_add 83 = .ok (.aload_n 0, 1) := by decide +kernel
theorem dX12_add_84 : decode cX12_add 84 = .ok (.getfield 23, 3) := by decide +kernel
theorem dX12_add_87 : decode cX12_add 87 = .ok (.aload_n 0, 1) := by decide +kernel
theorem dX12_add_88 : decode cX12_add 88 = .ok (.getfield 16, 3) := by decide +kernel
theorem dX12_add_91 : decode cX12_add 91 = .ok (.iload 4, 2) := by decide +kernel
theorem dX12_add_93 : decode cX12_add 93 = .ok (.iastore, 1) := by decide +kernel
theorem dX12_add_94 : decode cX12_add 94 = .ok (.aload_n 0, 1) := by decide +kernel
theorem dX12_add_95 : decode cX12_add 95 = .ok (.getfield 26, 3) := by decide +kernel
theorem dX12_add_98 : decode cX12_add 98 = .ok (.aload_n 0, 1) := by decide +kernel
theorem dX12_add_99 : decode cX12_add 99 = .ok (.getfield 16, 3) := by decide +kernel
theorem dX12_add_102 : decode cX12_add 102 = .ok (.iload_n 2, 1) := by decide +kernel
theorem dX12_add_103 : decode cX12_add 103 = .ok (.iastore, 1) := by decide +kernel
theorem dX12_add_104 : decode cX12_add 104 = .ok (.aload_n 0, 1) := by decide +kernel
theorem dX12_add_105 : decode cX12_add 105 = .ok (.getfield 29, 3) := by decide +kernel
theorem dX12_add_108 : decode cX12_add 108 = .ok (.aload_n 0, 1) := by decide +kernel
theorem dX12_add_109 : decode cX12_add 109 = .ok (.getfield 16, 3) := by decide +kernel
theorem dX12_add_112 : decode cX12_add 112 = .ok (.iload_n 3, 1) := by decide +kernel
theorem dX12_add_113 : decode cX12_add 113 = .ok (.iastore, 1) := by decide +kernel
theorem dX12_add_114 : decode cX12_add 114 = .ok (.aload_n 0, 1) := by decide +kernel
theorem dX12_add_115 : decode cX12_add 115 = .ok (.getfield 32, 3) := by decide +kernel
theorem dX12_add_118 : decode cX12_add 118 = .ok (.aload_n 0, 1) := by decide +kernel
theorem dX12_add_119 : decode cX12_add 119 = .ok (.getfield 16, 3) := by decide +kernel
theorem dX12_add_122 : decode cX12_add 122 = .ok (.iconst 0, 1) := by decide +kernel
theorem dX12_add_123 : decode cX12_add 123 = .ok (.iastore, 1) := by decide +kernel
theorem dX12_add_124 : decode cX12_add 124 = .ok (.aload_n 0, 1) := by decide +kernel
theorem dX12_add_125 : decode cX12_add 125 = .ok (.getfield 35, 3) := by decide +kernel
theorem dX12_add_128 : decode cX12_add 128 = .ok (.aload_n 0, 1) := by decide +kernel
theorem dX12_add_129 : decode cX12_add 129 = .ok (.getfield 16, 3) := by decide +kernel
theorem dX12_add_132 : decode cX12_add 132 = .ok (.iconst 0, 1) := by decide +kernel
theorem dX12_add_133 : decode cX12_add 133 = .ok (.bastore, 1) := by decide +kernel
theorem dX12_add_134 : decode cX12_add 134 = .ok (.aload_n 0, 1) := by decide +kernel
theorem dX12_add_135 : decode cX12_add 135 = .ok (.dup, 1) := by decide +kernel
theorem dX12_add_136 : decode cX12_add 136 = .ok (.getfield 16, 3) := by decide +kernel
theorem dX12_add_139 : decode cX12_add 139 = .ok (.iconst 1, 1) := by decide +kernel
theorem dX12_add_140 : decode cX12_add 140 = .ok (.iadd, 1) := by decide +kernel
theorem dX12_add_141 : decode cX12_add 141 = .ok (.putfield 16, 3) := by decide +kernel
theorem dX12_add_144 : decode cX12_add 144 = .ok (.aload_n 0, 1) := by decide +kernel
theorem dX12_add_145 : decode cX12_add 145 = .ok (.dup, 1) := by decide +kernel
theorem dX12_add_146 : decode cX12_add 146 = .ok (.getfield 13, 3) := by decide +kernel
theorem dX12_add_149 : decode cX12_add 149 = .ok (.iconst 1, 1) := by decide +kernel
theorem dX12_add_150 : decode cX12_add 150 = .ok (.iadd, 1) := by decide +kernel
theorem dX12_add_151 : decode cX12_add 151 = .ok (.putfield 13, 3) := by decide +kernel
theorem dX12_add_154 : decode cX12_add 154 = .ok (.aload_n 0, 1) := by decide +kernel
theorem dX12_add_155 : decode cX12_add 155 = .ok (.iconst 0, 1) := by decide +kernel
theorem dX12_add_156 : decode cX12_add 156 = .ok (.putfield 136, 3) := by decide +kernel
theorem dX12_add_159 : decode cX12_add 159 = .ok (.aload_n 0, 1) := by decide +kernel
theorem dX12_add_160 : decode cX12_add 160 = .ok (.invokevirtual 150, 3) := by decide +kernel
theorem dX12_add_163 : decode cX12_add 163 = .ok (.aload_n 0, 1) := by decide +kernel
theorem dX12_add_164 : decode cX12_add 164 = .ok (.getfield 13, 3) := by decide +kernel
theorem dX12_add_167 : decode cX12_add 167 = .ok (.iconst 1, 1) := by decide +kernel
theorem dX12_add_168 : decode cX12_add 168 = .ok (.isub, 1) := by decide +kernel
theorem dX12_add_169 : decode cX12_add 169 = .ok (.ireturn, 1) := by decide +kernel
theorem dX12_isBelow_0 : decode cX12_isBelow 0 = .ok (.iload_n 1, 1) := by decide +kernel
theorem dX12_isBelow_1 : decode cX12_isBelow 1 = .ok (.istore_n 3, 1) := by decide +kernel
theorem dX12_isBelow_2 : decode cX12_isBelow 2 = .ok (.iload_n 3, 1) := by decide +kernel
theorem dX12_isBelow_3 : decode cX12_isBelow 3 = .ok (.iconst (-1), 1) := by decide +kernel
theorem dX12_isBelow_4 : decode cX12_isBelow 4 = .ok (.if_icmp .eq 18, 3) := by decide +kernel
theorem dX12_isBelow_7 : decode cX12_isBelow 7 = .ok (.iload_n 3, 1) := by decide +kernel
theorem dX12_isBelow_8 : decode cX12_isBelow 8 = .ok (.iload_n 2, 1) := by decide +kernel
theorem dX12_isBelow_9 : decode cX12_isBelow 9 = .ok (.if_icmp .eq 13, 3) := by decide +kernel
theorem dX12_isBelow_12 : decode cX12_isBelow 12 = .ok (.aload_n 0, 1) := by decide +kernel
theorem dX12_isBelow_13 : decode cX12_isBelow 13 = .ok (.getfield 23, 3) := by decide +kernel
theorem dX12_isBelow_16 : decode cX12_isBelow 16 = .ok (.iload_n 3, 1) := by decide +kernel
theorem dX12_isBelow_17 : decode cX12_isBelow 17 = .ok (.iaload, 1) := by decide +kernel
theorem dX12_isBelow_18 : decode cX12_isBelow 18 = .ok (.istore_n 3, 1) := by decide +kernel
theorem dX12_isBelow_19 : decode cX12_isBelow 19 = .ok (.goto (-17), 3) := by decide +kernel
theorem dX12_isBelow_22 : decode cX12_isBelow 22 = .ok (.iload_n 3, 1) := by decide +kernel
theorem dX12_isBelow_23 : decode cX12_isBelow 23 = .ok (.iload_n 2, 1) := by decide +kernel
theorem dX12_isBelow_24 : decode cX12_isBelow 24 = .ok (.if_icmp .ne 7, 3) := by decide +kernel
theorem dX12_isBelow_27 : decode cX12_isBelow 27 = .ok (.iconst 1, 1) := by decide +kernel
theorem dX12_isBelow_28 : decode cX12_isBelow 28 = .ok (.goto 4, 3) := by decide +kernel
theorem dX12_isBelow_31 : decode cX12_isBelow 31 = .ok (.iconst 0, 1) := by decide +kernel
theorem dX12_isBelow_32 : decode cX12_isBelow 32 = .ok (.ireturn, 1) := by decide +kernel
theorem dX12_remove_0 : decode cX12_remove 0 = .ok (.aload_n 0, 1) := by decide +kernel
theorem dX12_remove_1 : decode cX12_remove 1 = .ok (.iload_n 1, 1) := by decide +kernel
theorem dX12_remove_2 : decode cX12_remove 2 = .ok (.invokevirtual 139, 3) := by decide +kernel
theorem dX12_remove_5 : decode cX12_remove 5 = .ok (.istore_n 2, 1) := by decide +kernel
theorem dX12_remove_6 : decode cX12_remove 6 = .ok (.aload_n 0, 1) := by decide +kernel
theorem dX12_remove_7 : decode cX12_remove 7 = .ok (.iload_n 2, 1) := by decide +kernel
theorem dX12_remove_8 : decode cX12_remove 8 = .ok (.iconst (-1), 1) := by decide +kernel
theorem dX12_remove_9 : decode cX12_remove 9 = .ok (.if_icmp .eq 7, 3) := by decide +kernel
theorem dX12_remove_12 : decode cX12_remove 12 = .ok (.iconst 1, 1) := by decide +kernel
theorem dX12_remove_13 : decode cX12_remove 13 = .ok (.goto 4, 3) := by decide +kernel
theorem dX12_remove_16 : decode cX12_remove 16 = .ok (.iconst 0, 1) := by decide +kernel
theorem dX12_remove_17 : decode cX12_remove 17 = .ok (.iload_n 2, 1) := by decide +kernel
theorem dX12_remove_18 : decode cX12_remove 18 = .ok (.ifCond .eq 7, 3) := by decide +kernel
theorem dX12_remove_21 : decode cX12_remove 21 = .ok (.iconst 1, 1) := by decide +kernel
theorem dX12_remove_22 : decode cX12_remove 22 = .ok (.goto 4, 3) := by decide +kernel
theorem dX12_remove_25 : decode cX12_remove 25 = .ok (.iconst 0, 1) := by decide +kernel
theorem dX12_remove_26 : decode cX12_remove 26 = .ok (.invokevirtual 153, 3) := by decide +kernel
theorem dX12_remove_29 : decode cX12_remove 29 = .ok (.ifCond .ne 5, 3) := by decide +kernel
theorem dX12_remove_32 : decode cX12_remove 32 = .ok (.iconst 0, 1) := by decide +kernel
theorem dX12_remove_33 : decode cX12_remove 33 = .ok (.ireturn, 1) := by decide +kernel
theorem dX12_remove_34 : decode cX12_remove 34 = .ok (.aload_n 0, 1) := by decide +kernel
theorem dX12_remove_35 : decode cX12_remove 35 = .ok (.invokevirtual 147, 3) := by decide +kernel
theorem dX12_remove_38 : decode cX12_remove 38 = .ok (.aload_n 0, 1) := by decide +kernel
theorem dX12_remove_39 : decode cX12_remove 39 = .ok (.getfield 105, 3) := by decide +kernel
theorem dX12_remove_42 : decode cX12_remove 42 = .ok (.astore_n 3, 1) := by decide +kernel
theorem dX12_remove_43 : decode cX12_remove 43 = .ok (.iconst 0, 1) := by decide +kernel
theorem dX12_remove_44 : decode cX12_remove 44 = .ok (.istore 4, 2) := by decide +kernel
theorem dX12_remove_46 : decode cX12_remove 46 = .ok (.iconst 0, 1) := by decide +kernel
theorem dX12_remove_47 : decode cX12_remove 47 = .ok (.istore 5, 2) := by decide +kernel
theorem dX12_remove_49 : decode cX12_remove 49 = .ok (.iload 5, 2) := by decide +kernel
theorem dX12_remove_51 : decode cX12_remove 51 = .ok (.aload_n 0, 1) := by decide +kernel
theorem dX12_remove_52 : decode cX12_remove 52 = .ok (.getfield 16, 3) := by decide +kernel
theorem dX12_remove_55 : decode cX12_remove 55 = .ok (.if_icmp .ge 37, 3) := by decide +kernel
theorem dX12_remove_58 : decode cX12_remove 58 = .ok (.aload_n 3, 1) := by decide +kernel
theorem dX12_remove_59 : decode cX12_remove 59 = .ok (.iload 5, 2) := by decide +kernel
theorem dX12_remove_61 : decode cX12_remove 61 = .ok (.aload_n 0, 1) := by decide +kernel
theorem dX12_remove_62 : decode cX12_remove 62 = .ok (.iload 5, 2) := by decide +kernel
theorem dX12_remove_64 : decode cX12_remove 64 = .ok (.iload_n 2, 1) := by decide +kernel
theorem dX12_remove_65 : decode cX12_remove 65 = .ok (.invokevirtual 156, 3) := by decide +kernel
theorem dX12_remove_68 : decode cX12_remove 68 = .ok (.bastore, 1) := by decide +kernel
theorem dX12_remove_69 : decode cX12_remove 69 = .ok (.iload 4, 2) := by decide +kernel
theorem dX12_remove_71 : decode cX12_remove 71 = .ok (.aload_n 3, 1) := by decide +kernel
theorem dX12_remove_72 : decode cX12_remove 72 = .ok (.iload 5, 2) := by decide +kernel
theorem dX12_remove_74 : decode cX12_remove 74 = .ok (.baload, 1) := by decide +kernel
theorem dX12_remove_75 : decode cX12_remove 75 = .ok (.ifCond .eq 7, 3) := by decide +kernel
theorem dX12_remove_78 : decode cX12_remove 78 = .ok (.iconst 1, 1) := by decide +kernel
theorem dX12_remove_79 : decode cX12_remove 79 = .ok (.goto 4, 3) := by decide +kernel
theorem dX12_remove_82 : decode cX12_remove 82 = .ok (.iconst 0, 1) := by decide +kernel
theorem dX12_remove_83 : decode cX12_remove 83 = .ok (.iadd, 1) := by decide +kernel
theorem dX12_remove_84 : decode cX12_remove 84 = .ok (.istore 4, 2) := by decide +kernel
theorem dX12_remove_86 : decode cX12_remove 86 = .ok (.iinc 5 1, 3) := by decide +kernel
theorem dX12_remove_89 : decode cX12_remove 89 = .ok (.goto (-40), 3) := by decide +kernel
theorem dX12_remove_92 : decode cX12_remove 92 = .ok (.iconst 0, 1) := by decide +kernel
theorem dX12_remove_93 : decode cX12_remove 93 = .ok (.istore 5, 2) := by decide +kernel
theorem dX12_remove_95 : decode cX12_remove 95 = .ok (.iconst 0, 1) := by decide +kernel
theorem dX12_remove_96 : decode cX12_remove 96 = .ok (.istore 6, 2) := by decide +kernel
theorem dX12_remove_98 : decode cX12_remove 98 = .ok (.iload 6, 2) := by decide +kernel
theorem dX12_remove_100 : decode cX12_remove 100 = .ok (.aload_n 0, 1) := by decide +kernel
theorem dX12_remove_101 : decode cX12_remove 101 = .ok (.getfield 16, 3) := by decide +kernel
theorem dX12_remove_104 : decode cX12_remove 104 = .ok (.if_icmp .ge 35, 3) := by decide +kernel
theorem dX12_remove_107 : decode cX12_remove 107 = .ok (.aload_n 0, 1) := by decide +kernel
theorem dX12_remove_108 : decode cX12_remove 108 = .ok (.getfield 102, 3) := by decide +kernel
theorem dX12_remove_111 : decode cX12_remove 111 = .ok (.iload 6, 2) := by decide +kernel
theorem dX12_remove_113 : decode cX12_remove 113 = .ok (.iload 5, 2) := by decide +kernel
theorem dX12_remove_115 : decode cX12_remove 115 = .ok (.iastore, 1) := by decide +kernel
theorem dX12_remove_116 : decode cX12_remove 116 = .ok (.iload 5, 2) := by decide +kernel
theorem dX12_remove_118 : decode cX12_remove 118 = .ok (.aload_n 3, 1) := by decide +kernel
theorem dX12_remove_119 : decode cX12_remove 119 = .ok (.iload 6, 2) := by decide +kernel
theorem dX12_remove_121 : decode cX12_remove 121 = .ok (.baload, 1) := by decide +kernel
theorem dX12_remove_122 : decode cX12_remove 122 = .ok (.ifCond .eq 7, 3) := by decide +kernel
theorem dX12_remove_125 : decode cX12_remove 125 = .ok (.iconst 0, 1) := by decide +kernel
theorem dX12_remove_126 : decode cX12_remove 126 = .ok (.goto 4, 3) := by decide +kernel
theorem dX12_remove_129 : decode cX12_remove 129 = .ok (.iconst 1, 1) := by decide +kernel
theorem dX12_remove_130 : decode cX12_remove 130 = .ok (.iadd, 1) := by decide +kernel
theorem dX12_remove_131 : decode cX12_remove 131 = .ok (.istore 5, 2) := by decide +kernel
theorem dX12_remove_133 : decode cX12_remove 133 = .ok (.iinc 6 1, 3) := by decide +kernel
theorem dX12_remove_136 : decode cX12_remove 136 = .ok (.goto (-38), 3) := by decide +kernel
theorem dX12_remove_139 : decode cX12_remove 139 = .ok (.iconst 0, 1) := by decide +kernel
theorem dX12_remove_140 : decode cX12_remove 140 = .ok (.istore 6, 2) := by decide +kernel
theorem dX12_remove_142 : decode cX12_remove 142 = .ok (.iload 6, 2) := by decide +kernel
theorem dX12_remove_144 : decode cX12_remove 144 = .ok (.aload_n 0, 1) := by decide +kernel
theorem dX12_remove_145 : decode cX12_remove 145 = .ok (.getfield 16, 3) := by decide +kernel
theorem dX12_remove_148 : decode cX12_remove 148 = .ok (.if_icmp .ge 129, 3) := by decide +kernel
theorem dX12_remove_151 : decode cX12_remove 151 = .ok (.aload_n 3, 1) := by decide +kernel
theorem dX12_remove_152 : decode cX12_remove 152 = .ok (.iload 6, 2) := by decide +kernel
theorem dX12_remove_154 : decode cX12_remove 154 = .ok (.baload, 1) := by decide +kernel
theorem dX12_remove_155 : decode cX12_remove 155 = .ok (.ifCond .ne 116, 3) := by decide +kernel
theorem dX12_remove_158 : decode cX12_remove 158 = .ok (.aload_n 0, 1) := by decide +kernel
theorem dX12_remove_159 : decode cX12_remove 159 = .ok (.getfield 102, 3) := by decide +kernel
theorem dX12_remove_162 : decode cX12_remove 162 = .ok (.iload 6, 2) := by decide +kernel
theorem dX12_remove_164 : decode cX12_remove 164 = .ok (.iaload, 1) := by decide +kernel
theorem dX12_remove_165 : decode cX12_remove 165 = .ok (.istore 7, 2) := by decide +kernel
theorem dX12_remove_167 : decode cX12_remove 167 = .ok (.aload_n 0, 1) := by decide +kernel
theorem dX12_remove_168 : decode cX12_remove 168 = .ok (.getfield 19, 3) := by decide +kernel
theorem dX12_remove_171 : decode cX12_remove 171 = .ok (.iload 7, 2) := by decide +kernel
theorem dX12_remove_173 : decode cX12_remove 173 = .ok (.aload_n 0, 1) := by decide +kernel
theorem dX12_remove_174 : decode cX12_remove 174 = .ok (.getfield 19, 3) := by decide +kernel
theorem dX12_remove_177 : decode cX12_remove 177 = .ok (.iload 6, 2) := by decide +kernel
theorem dX12_remove_179 : decode cX12_remove 179 = .ok (.iaload, 1) := by decide +kernel
theorem dX12_remove_180 : decode cX12_remove 180 = .ok (.iastore, 1) := by decide +kernel
theorem dX12_remove_181 : decode cX12_remove 181 = .ok (.aload_n 0, 1) := by decide +kernel
theorem dX12_remove_182 : decode cX12_remove 182 = .ok (.getfield 23, 3) := by decide +kernel
theorem dX12_remove_185 : decode cX12_remove 185 = .ok (.iload 7, 2) := by decide +kernel
theorem dX12_remove_187 : decode cX12_remove 187 = .ok (.aload_n 0, 1) := by decide +kernel
theorem dX12_remove_188 : decode cX12_remove 188 = .ok (.getfield 23, 3) := by decide +kernel
theorem dX12_remove_191 : decode cX12_remove 191 = .ok (.iload 6, 2) := by decide +kernel
theorem dX12_remove_193 : decode cX12_remove 193 = .ok (.iaload, 1) := by decide +kernel
theorem dX12_remove_194 : decode cX12_remove 194 = .ok (.iconst (-1), 1) := by decide +kernel
theorem dX12_remove_195 : decode cX12_remove 195 = .ok (.if_icmp .ne 7, 3) := by decide +kernel
theorem dX12_remove_198 : decode cX12_remove 198 = .ok (.iconst (-1), 1) := by decide +kernel
theorem dX12_remove_199 : decode cX12_remove 199 = .ok (.goto 15, 3) := by decide +kernel
theorem dX12_remove_202 : decode cX12_remove 202 = .ok (.aload_n 0, 1) := by decide +kernel
theorem dX12_remove_203 : decode cX12_remove 203 = .ok (.getfield 102, 3) := by decide +kernel
theorem dX12_remove_206 : decode cX12_remove 206 = .ok (.aload_n 0, 1) := by decide +kernel
theorem dX12_remove_207 : decode cX12_remove 207 = .ok (.getfield 23, 3) := by decide +kernel
theorem dX12_remove_210 : decode cX12_remove 210 = .ok (.iload 6, 2) := by decide +kernel
theorem dX12_remove_212 : decode cX12_remove 212 = .ok (.iaload, 1) := by decide +kernel
theorem dX12_remove_213 : decode cX12_remove 213 = .ok (.iaload, 1) := by decide +kernel
theorem dX12_remove_214 : decode cX12_remove 214 = .ok (.iastore, 1) := by decide +kernel
theorem dX12_remove_215 : decode cX12_remove 215 = .ok (.aload_n 0, 1) := by decide +kernel
theorem dX12_remove_216 : decode cX12_remove 216 = .ok (.getfield 26, 3) := by decide +kernel
theorem dX12_remove_219 : decode cX12_remove 219 = .ok (.iload 7, 2) := by decide +kernel
theorem dX12_remove_221 : decode cX12_remove 221 = .ok (.aload_n 0, 1) := by decide +kernel
theorem dX12_remove_222 : decode cX12_remove 222 = .ok (.getfield 26, 3) := by decide +kernel
theorem dX12_remove_225 : decode cX12_remove 225 = .ok (.iload 6, 2) := by decide +kernel
theorem dX12_remove_227 : decode cX12_remove 227 = .ok (.iaload, 1) := by decide +kernel
theorem dX12_remove_228 : decode cX12_remove 228 = .ok (.iastore, 1) := by decide +kernel
theorem dX12_remove_229 : decode cX12_remove 229 = .ok (.aload_n 0, 1) := by decide +kernel
theorem dX12_remove_230 : decode cX12_remove 230 = .ok (.getfield 29, 3) := by decide +kernel
theorem dX12_remove_233 : decode cX12_remove 233 = .ok (.iload 7, 2) := by decide +kernel
theorem dX12_remove_235 : decode cX12_remove 235 = .ok (.aload_n 0, 1) := by decide +kernel
theorem dX12_remove_236 : decode cX12_remove 236 = .ok (.getfield 29, 3) := by decide +kernel
theorem dX12_remove_239 : decode cX12_remove 239 = .ok (.iload 6, 2) := by decide +kernel
theorem dX12_remove_241 : decode cX12_remove 241 = .ok (.iaload, 1) := by decide +kernel
theorem dX12_remove_242 : decode cX12_remove 242 = .ok (.iastore, 1) := by decide +kernel
theorem dX12_remove_243 : decode cX12_remove 243 = .ok (.aload_n 0, 1) := by decide +kernel
theorem dX12_remove_244 : decode cX12_remove 244 = .ok (.getfield 32, 3) := by decide +kernel
theorem dX12_remove_247 : decode cX12_remove 247 = .ok (.iload 7, 2) := by decide +kernel
theorem dX12_remove_249 : decode cX12_remove 249 = .ok (.aload_n 0, 1) := by decide +kernel
theorem dX12_remove_250 : decode cX12_remove 250 = .ok (.getfield 32, 3) := by decide +kernel
theorem dX12_remove_253 : decode cX12_remove 253 = .ok (.iload 6, 2) := by decide +kernel
theorem dX12_remove_255 : decode cX12_remove 255 = .ok (.iaload, 1) := by decide +kernel
theorem dX12_remove_256 : decode cX12_remove 256 = .ok (.iastore, 1) := by decide +kernel
theorem dX12_remove_257 : decode cX12_remove 257 = .ok (.aload_n 0, 1) := by decide +kernel
theorem dX12_remove_258 : decode cX12_remove 258 = .ok (.getfield 35, 3) := by decide +kernel
theorem dX12_remove_261 : decode cX12_remove 261 = .ok (.iload 7, 2) := by decide +kernel
theorem dX12_remove_263 : decode cX12_remove 263 = .ok (.aload_n 0, 1) := by decide +kernel
theorem dX12_remove_264 : decode cX12_remove 264 = .ok (.getfield 35, 3) := by decide +kernel
theorem dX12_remove_267 : decode cX12_remove 267 = .ok (.iload 6, 2) := by decide +kernel
theorem dX12_remove_269 : decode cX12_remove 269 = .ok (.baload, 1) := by decide +kernel
theorem dX12_remove_270 : decode cX12_remove 270 = .ok (.bastore, 1) := by decide +kernel
theorem dX12_remove_271 : decode cX12_remove 271 = .ok (.iinc 6 1, 3) := by decide +kernel
theorem dX12_remove_274 : decode cX12_remove 274 = .ok (.goto (-132), 3) := by decide +kernel
theorem dX12_remove_277 : decode cX12_remove 277 = .ok (.aload_n 0, 1) := by decide +kernel
theorem dX12_remove_278 : decode cX12_remove 278 = .ok (.iload 5, 2) := by decide +kernel
theorem dX12_remove_280 : decode cX12_remove 280 = .ok (.putfield 16, 3) := by decide +kernel
theorem dX12_remove_283 : decode cX12_remove 283 = .ok (.aload_n 0, 1) := by decide +kernel
theorem dX12_remove_284 : decode cX12_remove 284 = .ok (.iconst 0, 1) := by decide +kernel
theorem dX12_remove_285 : decode cX12_remove 285 = .ok (.putfield 136, 3) := by decide +kernel
theorem dX12_remove_288 : decode cX12_remove 288 = .ok (.aload_n 0, 1) := by decide +kernel
theorem dX12_remove_289 : decode cX12_remove 289 = .ok (.invokevirtual 150, 3) := by decide +kernel
theorem dX12_remove_292 : decode cX12_remove 292 = .ok (.iload 4, 2) := by decide +kernel
theorem dX12_remove_294 : decode cX12_remove 294 = .ok (.ireturn, 1) := by decide +kernel
theorem dX12_dress_0 : decode cX12_dress 0 = .ok (.aload_n 0, 1) := by decide +kernel
theorem dX12_dress_1 : decode cX12_dress 1 = .ok (.iload_n 1, 1) := by decide +kernel
theorem dX12_dress_2 : decode cX12_dress 2 = .ok (.invokevirtual 139, 3) := by decide +kernel
theorem dX12_dress_5 : decode cX12_dress 5 = .ok (.istore_n 3, 1) := by decide +kernel
theorem dX12_dress_6 : decode cX12_dress 6 = .ok (.aload_n 0, 1) := by decide +kernel
theorem dX12_dress_7 : decode cX12_dress 7 = .ok (.iload_n 3, 1) := by decide +kernel
theorem dX12_dress_8 : decode cX12_dress 8 = .ok (.iconst (-1), 1) := by decide +kernel
theorem dX12_dress_9 : decode cX12_dress 9 = .ok (.if_icmp .eq 7, 3) := by decide +kernel
theorem dX12_dress_12 : decode cX12_dress 12 = .ok (.iconst 1, 1) := by decide +kernel
theorem dX12_dress_13 : decode cX12_dress 13 = .ok (.goto 4, 3) := by decide +kernel
theorem dX12_dress_16 : decode cX12_dress 16 = .ok (.iconst 0, 1) := by decide +kernel
theorem dX12_dress_17 : decode cX12_dress 17 = .ok (.iload_n 2, 1) := by decide +kernel
theorem dX12_dress_18 : decode cX12_dress 18 = .ok (.iconst 0, 1) := by decide +kernel
theorem dX12_dress_19 : decode cX12_dress 19 = .ok (.sipush 255, 3) := by decide +kernel
theorem dX12_dress_22 : decode cX12_dress 22 = .ok (.invokestatic 129, 3) := by decide +kernel
theorem dX12_dress_25 : decode cX12_dress 25 = .ok (.invokevirtual 153, 3) := by decide +kernel
theorem dX12_dress_28 : decode cX12_dress 28 = .ok (.ifCond .ne 5, 3) := by decide +kernel
theorem dX12_dress_31 : decode cX12_dress 31 = .ok (.iconst 0, 1) := by decide +kernel
theorem dX12_dress_32 : decode cX12_dress 32 = .ok (.ireturn, 1) := by decide +kernel
theorem dX12_dress_33 : decode cX12_dress 33 = .ok (.aload_n 0, 1) := by decide +kernel
theorem dX12_dress_34 : decode cX12_dress 34 = .ok (.invokevirtual 147, 3) := by decide +kernel
theorem dX12_dress_37 : decode cX12_dress 37 = .ok (.aload_n 0, 1) := by decide +kernel
theorem dX12_dress_38 : decode cX12_dress 38 = .ok (.getfield 29, 3) := by decide +kernel
theorem dX12_dress_41 : decode cX12_dress 41 = .ok (.iload_n 3, 1) := by decide +kernel
theorem dX12_dress_42 : decode cX12_dress 42 = .ok (.iaload, 1) := by decide +kernel
theorem dX12_dress_43 : decode cX12_dress 43 = .ok (.istore 4, 2) := by decide +kernel
theorem dX12_dress_45 : decode cX12_dress 45 = .ok (.aload_n 0, 1) := by decide +kernel
theorem dX12_dress_46 : decode cX12_dress 46 = .ok (.getfield 29, 3) := by decide +kernel
theorem dX12_dress_49 : decode cX12_dress 49 = .ok (.iload_n 3, 1) := by decide +kernel
theorem dX12_dress_50 : decode cX12_dress 50 = .ok (.iload_n 2, 1) := by decide +kernel
theorem dX12_dress_51 : decode cX12_dress 51 = .ok (.iastore, 1) := by decide +kernel
theorem dX12_dress_52 : decode cX12_dress 52 = .ok (.aload_n 0, 1) := by decide +kernel
theorem dX12_dress_53 : decode cX12_dress 53 = .ok (.iconst 0, 1) := by decide +kernel
theorem dX12_dress_54 : decode cX12_dress 54 = .ok (.putfield 136, 3) := by decide +kernel
theorem dX12_dress_57 : decode cX12_dress 57 = .ok (.aload_n 0, 1) := by decide +kernel
theorem dX12_dress_58 : decode cX12_dress 58 = .ok (.invokevirtual 150, 3) := by decide +kernel
theorem dX12_dress_61 : decode cX12_dress 61 = .ok (.iload 4, 2) := by decide +kernel
theorem dX12_dress_63 : decode cX12_dress 63 = .ok (.ireturn, 1) := by decide +kernel
theorem dX12_text_0 : decode cX12_text 0 = .ok (.aload_n 0, 1) := by decide +kernel
theorem dX12_text_1 : decode cX12_text 1 = .ok (.iload_n 1, 1) := by decide +kernel
theorem dX12_text_2 : decode cX12_text 2 = .ok (.invokevirtual 139, 3) := by decide +kernel
theorem dX12_text_5 : decode cX12_text 5 = .ok (.istore_n 3, 1) := by decide +kernel
theorem dX12_text_6 : decode cX12_text 6 = .ok (.iload_n 2, 1) := by decide +kernel
theorem dX12_text_7 : decode cX12_text 7 = .ok (.ifCond .lt 13, 3) := by decide +kernel
theorem dX12_text_10 : decode cX12_text 10 = .ok (.iload_n 2, 1) := by decide +kernel
theorem dX12_text_11 : decode cX12_text 11 = .ok (.ldc 160, 2) := by decide +kernel
theorem dX12_text_13 : decode cX12_text 13 = .ok (.if_icmp .ge 7, 3) := by decide +kernel
theorem dX12_text_16 : decode cX12_text 16 = .ok (.iconst 1, 1) := by decide +kernel
theorem dX12_text_17 : decode cX12_text 17 = .ok (.goto 4, 3) := by decide +kernel
theorem dX12_text_20 : decode cX12_text 20 = .ok (.iconst 0, 1) := by decide +kernel
theorem dX12_text_21 : decode cX12_text 21 = .ok (.istore 4, 2) := by decide +kernel
theorem dX12_text_23 : decode cX12_text 23 = .ok (.iconst 0, 1) := by decide +kernel
theorem dX12_text_24 : decode cX12_text 24 = .ok (.istore 5, 2) := by decide +kernel
theorem dX12_text_26 : decode cX12_text 26 = .ok (.iload_n 2, 1) := by decide +kernel
theorem dX12_text_27 : decode cX12_text 27 = .ok (.istore 6, 2) := by decide +kernel
theorem dX12_text_29 : decode cX12_text 29 = .ok (.iload 6, 2) := by decide +kernel
theorem dX12_text_31 : decode cX12_text 31 = .ok (.ifCond .le 36, 3) := by decide +kernel
theorem dX12_text_34 : decode cX12_text 34 = .ok (.iload 4, 2) := by decide +kernel
theorem dX12_text_36 : decode cX12_text 36 = .ok (.ifCond .eq 31, 3) := by decide +kernel
theorem dX12_text_39 : decode cX12_text 39 = .ok (.iload 6, 2) := by decide +kernel
theorem dX12_text_41 : decode cX12_text 41 = .ok (.bipush 10, 2) := by decide +kernel
theorem dX12_text_43 : decode cX12_text 43 = .ok (.irem, 1) := by decide +kernel
theorem dX12_text_44 : decode cX12_text 44 = .ok (.ifCond .eq 7, 3) := by decide +kernel
theorem dX12_text_47 : decode cX12_text 47 = .ok (.iconst 1, 1) := by decide +kernel
theorem dX12_text_48 : decode cX12_text 48 = .ok (.goto 4, 3) := by decide +kernel
theorem dX12_text_51 : decode cX12_text 51 = .ok (.iconst 0, 1) := by decide +kernel
theorem dX12_text_52 : decode cX12_text 52 = .ok (.istore 4, 2) := by decide +kernel
theorem dX12_text_54 : decode cX12_text 54 = .ok (.iinc 5 1, 3) := by decide +kernel
theorem dX12_text_57 : decode cX12_text 57 = .ok (.iload 6, 2) := by decide +kernel
theorem dX12_text_59 : decode cX12_text 59 = .ok (.bipush 10, 2) := by decide +kernel
theorem dX12_text_61 : decode cX12_text 61 = .ok (.idiv, 1) := by decide +kernel
theorem dX12_text_62 : decode cX12_text 62 = .ok (.istore 6, 2) := by decide +kernel
theorem dX12_text_64 : decode cX12_text 64 = .ok (.goto (-35), 3) := by decide +kernel
theorem dX12_text_67 : decode cX12_text 67 = .ok (.aload_n 0, 1) := by decide +kernel
theorem dX12_text_68 : decode cX12_text 68 = .ok (.iload_n 3, 1) := by decide +kernel
theorem dX12_text_69 : decode cX12_text 69 = .ok (.iconst (-1), 1) := by decide +kernel
theorem dX12_text_70 : decode cX12_text 70 = .ok (.if_icmp .eq 7, 3) := by decide +kernel
theorem dX12_text_73 : decode cX12_text 73 = .ok (.iconst 1, 1) := by decide +kernel
theorem dX12_text_74 : decode cX12_text 74 = .ok (.goto 4, 3) := by decide +kernel
theorem dX12_text_77 : decode cX12_text 77 = .ok (.iconst 0, 1) := by decide +kernel
theorem dX12_text_78 : decode cX12_text 78 = .ok (.iload 4, 2) := by decide +kernel
theorem dX12_text_80 : decode cX12_text 80 = .ok (.invokevirtual 153, 3) := by decide +kernel
theorem dX12_text_83 : decode cX12_text 83 = .ok (.ifCond .ne 5, 3) := by decide +kernel
theorem dX12_text_86 : decode cX12_text 86 = .ok (.iconst 0, 1) := by decide +kernel
theorem dX12_text_87 : decode cX12_text 87 = .ok (.ireturn, 1) := by decide +kernel
theorem dX12_text_88 : decode cX12_text 88 = .ok (.aload_n 0, 1) := by decide +kernel
theorem dX12_text_89 : decode cX12_text 89 = .ok (.invokevirtual 147, 3) := by decide +kernel
theorem dX12_text_92 : decode cX12_text 92 = .ok (.aload_n 0, 1) := by decide +kernel
theorem dX12_text_93 : decode cX12_text 93 = .ok (.getfield 32, 3) := by decide +kernel
theorem dX12_text_96 : decode cX12_text 96 = .ok (.iload_n 3, 1) := by decide +kernel
theorem dX12_text_97 : decode cX12_text 97 = .ok (.iload_n 2, 1) := by decide +kernel
theorem dX12_text_98 : decode cX12_text 98 = .ok (.iastore, 1) := by decide +kernel
theorem dX12_text_99 : decode cX12_text 99 = .ok (.aload_n 0, 1) := by decide +kernel
theorem dX12_text_100 : decode cX12_text 100 = .ok (.iconst 0, 1) := by decide +kernel
theorem dX12_text_101 : decode cX12_text 101 = .ok (.putfield 136, 3) := by decide +kernel
theorem dX12_text_104 : decode cX12_text 104 = .ok (.aload_n 0, 1) := by decide +kernel
theorem dX12_text_105 : decode cX12_text 105 = .ok (.invokevirtual 150, 3) := by decide +kernel
theorem dX12_text_108 : decode cX12_text 108 = .ok (.iload 5, 2) := by decide +kernel
theorem dX12_text_110 : decode cX12_text 110 = .ok (.ireturn, 1) := by decide +kernel
theorem dX12_contain_0 : decode cX12_contain 0 = .ok (.aload_n 0, 1) := by decide +kernel
theorem dX12_contain_1 : decode cX12_contain 1 = .ok (.iload_n 1, 1) := by decide +kernel
theorem dX12_contain_2 : decode cX12_contain 2 = .ok (.invokevirtual 139, 3) := by decide +kernel
theorem dX12_contain_5 : decode cX12_contain 5 = .ok (.istore_n 3, 1) := by decide +kernel
theorem dX12_contain_6 : decode cX12_contain 6 = .ok (.aload_n 0, 1) := by decide +kernel
theorem dX12_contain_7 : decode cX12_contain 7 = .ok (.iload_n 3, 1) := by decide +kernel
theorem dX12_contain_8 : decode cX12_contain 8 = .ok (.iconst (-1), 1) := by decide +kernel
theorem dX12_contain_9 : decode cX12_contain 9 = .ok (.if_icmp .eq 7, 3) := by decide +kernel
theorem dX12_contain_12 : decode cX12_contain 12 = .ok (.iconst 1, 1) := by decide +kernel
theorem dX12_contain_13 : decode cX12_contain 13 = .ok (.goto 4, 3) := by decide +kernel
theorem dX12_contain_16 : decode cX12_contain 16 = .ok (.iconst 0, 1) := by decide +kernel
theorem dX12_contain_17 : decode cX12_contain 17 = .ok (.invokevirtual 161, 3) := by decide +kernel
theorem dX12_contain_20 : decode cX12_contain 20 = .ok (.ifCond .ne 5, 3) := by decide +kernel
theorem dX12_contain_23 : decode cX12_contain 23 = .ok (.iconst 0, 1) := by decide +kernel
theorem dX12_contain_24 : decode cX12_contain 24 = .ok (.ireturn, 1) := by decide +kernel
theorem dX12_contain_25 : decode cX12_contain 25 = .ok (.aload_n 0, 1) := by decide +kernel
theorem dX12_contain_26 : decode cX12_contain 26 = .ok (.invokevirtual 147, 3) := by decide +kernel
theorem dX12_contain_29 : decode cX12_contain 29 = .ok (.aload_n 0, 1) := by decide +kernel
theorem dX12_contain_30 : decode cX12_contain 30 = .ok (.getfield 35, 3) := by decide +kernel
theorem dX12_contain_33 : decode cX12_contain 33 = .ok (.iload_n 3, 1) := by decide +kernel
theorem dX12_contain_34 : decode cX12_contain 34 = .ok (.baload, 1) := by decide +kernel
theorem dX12_contain_35 : decode cX12_contain 35 = .ok (.istore 4, 2) := by decide +kernel
theorem dX12_contain_37 : decode cX12_contain 37 = .ok (.aload_n 0, 1) := by decide +kernel
theorem dX12_contain_38 : decode cX12_contain 38 = .ok (.getfield 35, 3) := by decide +kernel
theorem dX12_contain_41 : decode cX12_contain 41 = .ok (.iload_n 3, 1) := by decide +kernel
theorem dX12_contain_42 : decode cX12_contain 42 = .ok (.iload_n 2, 1) := by decide +kernel
theorem dX12_contain_43 : decode cX12_contain 43 = .ok (.bastore, 1) := by decide +kernel
theorem dX12_contain_44 : decode cX12_contain 44 = .ok (.aload_n 0, 1) := by decide +kernel
theorem dX12_contain_45 : decode cX12_contain 45 = .ok (.iconst 0, 1) := by decide +kernel
theorem dX12_contain_46 : decode cX12_contain 46 = .ok (.putfield 136, 3) := by decide +kernel
theorem dX12_contain_49 : decode cX12_contain 49 = .ok (.aload_n 0, 1) := by decide +kernel
theorem dX12_contain_50 : decode cX12_contain 50 = .ok (.invokevirtual 150, 3) := by decide +kernel
theorem dX12_contain_53 : decode cX12_contain 53 = .ok (.iload 4, 2) := by decide +kernel
theorem dX12_contain_55 : decode cX12_contain 55 = .ok (.ireturn, 1) := by decide +kernel
theorem dX12_window_0 : decode cX12_window 0 = .ok (.aload_n 0, 1) := by decide +kernel
theorem dX12_window_1 : decode cX12_window 1 = .ok (.iload_n 1, 1) := by decide +kernel
theorem dX12_window_2 : decode cX12_window 2 = .ok (.iconst 0, 1) := by decide +kernel
theorem dX12_window_3 : decode cX12_window 3 = .ok (.sipush 2000, 3) := by decide +kernel
theorem dX12_window_6 : decode cX12_window 6 = .ok (.invokestatic 129, 3) := by decide +kernel
theorem dX12_window_9 : decode cX12_window 9 = .ok (.invokevirtual 161, 3) := by decide +kernel
theorem dX12_window_12 : decode cX12_window 12 = .ok (.ifCond .ne 5, 3) := by decide +kernel
theorem dX12_window_15 : decode cX12_window 15 = .ok (.iconst 0, 1) := by decide +kernel
theorem dX12_window_16 : decode cX12_window 16 = .ok (.ireturn, 1) := by decide +kernel
theorem dX12_window_17 : decode cX12_window 17 = .ok (.aload_n 0, 1) := by decide +kernel
theorem dX12_window_18 : decode cX12_window 18 = .ok (.invokevirtual 147, 3) := by decide +kernel
theorem dX12_window_21 : decode cX12_window 21 = .ok (.aload_n 0, 1) := by decide +kernel
theorem dX12_window_22 : decode cX12_window 22 = .ok (.getfield 7, 3) := by decide +kernel
theorem dX12_window_25 : decode cX12_window 25 = .ok (.istore_n 2, 1) := by decide +kernel
theorem dX12_window_26 : decode cX12_window 26 = .ok (.aload_n 0, 1) := by decide +kernel
theorem dX12_window_27 : decode cX12_window 27 = .ok (.iload_n 1, 1) := by decide +kernel
theorem dX12_window_28 : decode cX12_window 28 = .ok (.putfield 7, 3) := by decide +kernel
theorem dX12_window_31 : decode cX12_window 31 = .ok (.aload_n 0, 1) := by decide +kernel
theorem dX12_window_32 : decode cX12_window 32 = .ok (.iconst 0, 1) := by decide +kernel
theorem dX12_window_33 : decode cX12_window 33 = .ok (.putfield 136, 3) := by decide +kernel
theorem dX12_window_36 : decode cX12_window 36 = .ok (.aload_n 0, 1) := by decide +kernel
theorem dX12_window_37 : decode cX12_window 37 = .ok (.invokevirtual 150, 3) := by decide +kernel
theorem dX12_window_40 : decode cX12_window 40 = .ok (.iload_n 2, 1) := by decide +kernel
theorem dX12_window_41 : decode cX12_window 41 = .ok (.ireturn, 1) := by decide +kernel
theorem dX12_isPart_0 : decode cX12_isPart 0 = .ok (.iload_n 0, 1) := by decide +kernel
theorem dX12_isPart_1 : decode cX12_isPart 1 = .ok (.iconst (-1), 1) := by decide +kernel
theorem dX12_isPart_2 : decode cX12_isPart 2 = .ok (.iconst 5, 1) := by decide +kernel
theorem dX12_isPart_3 : decode cX12_isPart 3 = .ok (.invokestatic 129, 3) := by decide +kernel
theorem dX12_isPart_6 : decode cX12_isPart 6 = .ok (.ifCond .eq 29, 3) := by decide +kernel
theorem dX12_isPart_9 : decode cX12_isPart 9 = .ok (.iload_n 1, 1) := by decide +kernel
theorem dX12_isPart_10 : decode cX12_isPart 10 = .ok (.iconst 0, 1) := by decide +kernel
theorem dX12_isPart_11 : decode cX12_isPart 11 = .ok (.sipush 255, 3) := by decide +kernel
theorem dX12_isPart_14 : decode cX12_isPart 14 = .ok (.invokestatic 129, 3) := by decide +kernel
theorem dX12_isPart_17 : decode cX12_isPart 17 = .ok (.ifCond .eq 18, 3) := by decide +kernel
theorem dX12_isPart_20 : decode cX12_isPart 20 = .ok (.iload_n 2, 1) := by decide +kernel
theorem dX12_isPart_21 : decode cX12_isPart 21 = .ok (.iconst 0, 1) := by decide +kernel
theorem dX12_isPart_22 : decode cX12_isPart 22 = .ok (.sipush 255, 3) := by decide +kernel
theorem dX12_isPart_25 : decode cX12_isPart 25 = .ok (.invokestatic 129, 3) := by decide +kernel
theorem dX12_isPart_28 : decode cX12_isPart 28 = .ok (.ifCond .eq 7, 3) := by decide +kernel
theorem dX12_isPart_31 : decode cX12_isPart 31 = .ok (.iconst 1, 1) := by decide +kernel
theorem dX12_isPart_32 : decode cX12_isPart 32 = .ok (.goto 4, 3) := by decide +kernel
theorem dX12_isPart_35 : decode cX12_isPart 35 = .ok (.iconst 0, 1) := by decide +kernel
theorem dX12_isPart_36 : decode cX12_isPart 36 = .ok (.ireturn, 1) := by decide +kernel
theorem dX12_lay_0 : decode cX12_lay 0 = .ok (.aload_n 0, 1) := by decide +kernel
theorem dX12_lay_1 : decode cX12_lay 1 = .ok (.getfield 42, 3) := by decide +kernel
theorem dX12_lay_4 : decode cX12_lay 4 = .ok (.iload_n 1, 1) := by decide +kernel
theorem dX12_lay_5 : decode cX12_lay 5 = .ok (.iload_n 2, 1) := by decide +kernel
theorem dX12_lay_6 : decode cX12_lay 6 = .ok (.iastore, 1) := by decide +kernel
theorem dX12_lay_7 : decode cX12_lay 7 = .ok (.aload_n 0, 1) := by decide +kernel
theorem dX12_lay_8 : decode cX12_lay 8 = .ok (.getfield 45, 3) := by decide +kernel
theorem dX12_lay_11 : decode cX12_lay 11 = .ok (.iload_n 1, 1) := by decide +kernel
theorem dX12_lay_12 : decode cX12_lay 12 = .ok (.iload_n 3, 1) := by decide +kernel
theorem dX12_lay_13 : decode cX12_lay 13 = .ok (.iastore, 1) := by decide +kernel
theorem dX12_lay_14 : decode cX12_lay 14 = .ok (.aload_n 0, 1) := by decide +kernel
theorem dX12_lay_15 : decode cX12_lay 15 = .ok (.getfield 48, 3) := by decide +kernel
theorem dX12_lay_18 : decode cX12_lay 18 = .ok (.iload_n 1, 1) := by decide +kernel
theorem dX12_lay_19 : decode cX12_lay 19 = .ok (.iload 4, 2) := by decide +kernel
theorem dX12_lay_21 : decode cX12_lay 21 = .ok (.iastore, 1) := by decide +kernel
theorem dX12_lay_22 : decode cX12_lay 22 = .ok (.aload_n 0, 1) := by decide +kernel
theorem dX12_lay_23 : decode cX12_lay 23 = .ok (.getfield 51, 3) := by decide +kernel
theorem dX12_lay_26 : decode cX12_lay 26 = .ok (.iload_n 1, 1) := by decide +kernel
theorem dX12_lay_27 : decode cX12_lay 27 = .ok (.iload 5, 2) := by decide +kernel
theorem dX12_lay_29 : decode cX12_lay 29 = .ok (.iastore, 1) := by decide +kernel
theorem dX12_lay_30 : decode cX12_lay 30 = .ok (.return_, 1) := by decide +kernel
theorem dX12_rule_0 : decode cX12_rule 0 = .ok (.iload_n 1, 1) := by decide +kernel
theorem dX12_rule_1 : decode cX12_rule 1 = .ok (.iload_n 2, 1) := by decide +kernel
theorem dX12_rule_2 : decode cX12_rule 2 = .ok (.iload_n 3, 1) := by decide +kernel
theorem dX12_rule_3 : decode cX12_rule 3 = .ok (.invokestatic 164, 3) := by decide +kernel
theorem dX12_rule_6 : decode cX12_rule 6 = .ok (.ifCond .eq 27, 3) := by decide +kernel
theorem dX12_rule_9 : decode cX12_rule 9 = .ok (.iload 4, 2) := by decide +kernel
theorem dX12_rule_11 : decode cX12_rule 11 = .ok (.iconst 0, 1) := by decide +kernel
theorem dX12_rule_12 : decode cX12_rule 12 = .ok (.iconst 1, 1) := by decide +kernel
theorem dX12_rule_13 : decode cX12_rule 13 = .ok (.invokestatic 129, 3) := by decide +kernel
theorem dX12_rule_16 : decode cX12_rule 16 = .ok (.ifCond .eq 17, 3) := by decide +kernel
theorem dX12_rule_19 : decode cX12_rule 19 = .ok (.iload 5, 2) := by decide +kernel
theorem dX12_rule_21 : decode cX12_rule 21 = .ok (.iconst 0, 1) := by decide +kernel
theorem dX12_rule_22 : decode cX12_rule 22 = .ok (.iconst 2, 1) := by decide +kernel
theorem dX12_rule_23 : decode cX12_rule 23 = .ok (.invokestatic 129, 3) := by decide +kernel
theorem dX12_rule_26 : decode cX12_rule 26 = .ok (.ifCond .eq 7, 3) := by decide +kernel
theorem dX12_rule_29 : decode cX12_rule 29 = .ok (.iconst 1, 1) := by decide +kernel
theorem dX12_rule_30 : decode cX12_rule 30 = .ok (.goto 4, 3) := by decide +kernel
theorem dX12_rule_33 : decode cX12_rule 33 = .ok (.iconst 0, 1) := by decide +kernel
theorem dX12_rule_34 : decode cX12_rule 34 = .ok (.istore 7, 2) := by decide +kernel
theorem dX12_rule_36 : decode cX12_rule 36 = .ok (.aload_n 0, 1) := by decide +kernel
theorem dX12_rule_37 : decode cX12_rule 37 = .ok (.iload 7, 2) := by decide +kernel
theorem dX12_rule_39 : decode cX12_rule 39 = .ok (.aload_n 0, 1) := by decide +kernel
theorem dX12_rule_40 : decode cX12_rule 40 = .ok (.getfield 126, 3) := by decide +kernel
theorem dX12_rule_43 : decode cX12_rule 43 = .ok (.bipush 16, 2) := by decide +kernel
theorem dX12_rule_45 : decode cX12_rule 45 = .ok (.if_icmp .ge 7, 3) := by decide +kernel
theorem dX12_rule_48 : decode cX12_rule 48 = .ok (.iconst 1, 1) := by decide +kernel
theorem dX12_rule_49 : decode cX12_rule 49 = .ok (.goto 4, 3) := by decide +kernel
theorem dX12_rule_52 : decode cX12_rule 52 = .ok (.iconst 0, 1) := by decide +kernel
theorem dX12_rule_53 : decode cX12_rule 53 = .ok (.invokevirtual 153, 3) := by decide +kernel
theorem dX12_rule_56 : decode cX12_rule 56 = .ok (.ifCond .ne 5, 3) := by decide +kernel
theorem dX12_rule_59 : decode cX12_rule 59 = .ok (.iconst 0, 1) := by decide +kernel
theorem dX12_rule_60 : decode cX12_rule 60 = .ok (.ireturn, 1) := by decide +kernel
theorem dX12_rule_61 : decode cX12_rule 61 = .ok (.aload_n 0, 1) := by decide +kernel
theorem dX12_rule_62 : decode cX12_rule 62 = .ok (.invokevirtual 147, 3) := by decide +kernel
theorem dX12_rule_65 : decode cX12_rule 65 = .ok (.aload_n 0, 1) := by decide +kernel
theorem dX12_rule_66 : decode cX12_rule 66 = .ok (.iconst 3, 1) := by decide +kernel
theorem dX12_rule_67 : decode cX12_rule 67 = .ok (.aload_n 0, 1) := by decide +kernel
theorem dX12_rule_68 : decode cX12_rule 68 = .ok (.getfield 126, 3) := by decide +kernel
theorem dX12_rule_71 : decode cX12_rule 71 = .ok (.imul, 1) := by decide +kernel
theorem dX12_rule_72 : decode cX12_rule 72 = .ok (.iconst (-1), 1) := by decide +kernel
theorem dX12_rule_73 : decode cX12_rule 73 = .ok (.iload_n 1, 1) := by decide +kernel
theorem dX12_rule_74 : decode cX12_rule 74 = .ok (.iload_n 2, 1) := by decide +kernel
theorem dX12_rule_75 : decode cX12_rule 75 = .ok (.iload_n 3, 1) := by decide +kernel
theorem dX12_rule_76 : decode cX12_rule 76 = .ok (.invokevirtual 167, 3) := by decide +kernel
theorem dX12_rule_79 : decode cX12_rule 79 = .ok (.aload_n 0, 1) := by decide +kernel
theorem dX12_rule_80 : decode cX12_rule 80 = .ok (.getfield 39, 3) := by decide +kernel
theorem dX12_rule_83 : decode cX12_rule 83 = .ok (.aload_n 0, 1) := by decide +kernel
theorem dX12_rule_84 : decode cX12_rule 84 = .ok (.getfield 126, 3) := by decide +kernel
theorem dX12_rule_87 : decode cX12_rule 87 = .ok (.iconst 1, 1) := by decide +kernel
theorem dX12_rule_88 : decode cX12_rule 88 = .ok (.iastore, 1) := by decide +kernel
theorem dX12_rule_89 : decode cX12_rule 89 = .ok (.aload_n 0, 1) := by decide +kernel
theorem dX12_rule_90 : decode cX12_rule 90 = .ok (.getfield 54, 3) := by decide +kernel
theorem dX12_rule_93 : decode cX12_rule 93 = .ok (.aload_n 0, 1) := by decide +kernel
theorem dX12_rule_94 : decode cX12_rule 94 = .ok (.getfield 126, 3) := by decide +kernel
theorem dX12_rule_97 : decode cX12_rule 97 = .ok (.iload 4, 2) := by decide +kernel
theorem dX12_rule_99 : decode cX12_rule 99 = .ok (.iastore, 1) := by decide +kernel
theorem dX12_rule_100 : decode cX12_rule 100 = .ok (.aload_n 0, 1) := by decide +kernel
theorem dX12_rule_101 : decode cX12_rule 101 = .ok (.getfield 57, 3) := by decide +kernel
theorem dX12_rule_104 : decode cX12_rule 104 = .ok (.aload_n 0, 1) := by decide +kernel
theorem dX12_rule_105 : decode cX12_rule 105 = .ok (.getfield 126, 3) := by decide +kernel
theorem dX12_rule_108 : decode cX12_rule 108 = .ok (.iload 5, 2) := by decide +kernel
theorem dX12_rule_110 : decode cX12_rule 110 = .ok (.iastore, 1) := by decide +kernel
theorem dX12_rule_111 : decode cX12_rule 111 = .ok (.aload_n 0, 1) := by decide +kernel
theorem dX12_rule_112 : decode cX12_rule 112 = .ok (.getfield 60, 3) := by decide +kernel
theorem dX12_rule_115 : decode cX12_rule 115 = .ok (.aload_n 0, 1) := by decide +kernel
theorem dX12_rule_116 : decode cX12_rule 116 = .ok (.getfield 126, 3) := by decide +kernel
theorem dX12_rule_119 : decode cX12_rule 119 = .ok (.iload 6, 2) := by decide +kernel
theorem dX12_rule_121 : decode cX12_rule 121 = .ok (.bastore, 1) := by decide +kernel
theorem dX12_rule_122 : decode cX12_rule 122 = .ok (.aload_n 0, 1) := by decide +kernel
theorem dX12_rule_123 : decode cX12_rule 123 = .ok (.getfield 63, 3) := by decide +kernel
theorem dX12_rule_126 : decode cX12_rule 126 = .ok (.aload_n 0, 1) := by decide +kernel
theorem dX12_rule_127 : decode cX12_rule 127 = .ok (.getfield 126, 3) := by decide +kernel
theorem dX12_rule_130 : decode cX12_rule 130 = .ok (.iconst (-1), 1) := by decide +kernel
theorem dX12_rule_131 : decode cX12_rule 131 = .ok (.iastore, 1) := by decide +kernel
theorem dX12_rule_132 : decode cX12_rule 132 = .ok (.aload_n 0, 1) := by decide +kernel
theorem dX12_rule_133 : decode cX12_rule 133 = .ok (.dup, 1) := by decide +kernel
theorem dX12_rule_134 : decode cX12_rule 134 = .ok (.getfield 126, 3) := by decide +kernel
theorem dX12_rule_137 : decode cX12_rule 137 = .ok (.iconst 1, 1) := by decide +kernel
theorem dX12_rule_138 : decode cX12_rule 138 = .ok (.iadd, 1) := by decide +kernel
theorem dX12_rule_139 : decode cX12_rule 139 = .ok (.putfield 126, 3) := by decide +kernel
theorem dX12_rule_142 : decode cX12_rule 142 = .ok (.aload_n 0, 1) := by decide +kernel
theorem dX12_rule_143 : decode cX12_rule 143 = .ok (.iconst 0, 1) := by decide +kernel
theorem dX12_rule_144 : decode cX12_rule 144 = .ok (.putfield 136, 3) := by decide +kernel
theorem dX12_rule_147 : decode cX12_rule 147 = .ok (.aload_n 0, 1) := by decide +kernel
theorem dX12_rule_148 : decode cX12_rule 148 = .ok (.invokevirtual 150, 3) := by decide +kernel
theorem dX12_rule_151 : decode cX12_rule 151 = .ok (.aload_n 0, 1) := by decide +kernel
theorem dX12_rule_152 : decode cX12_rule 152 = .ok (.getfield 126, 3) := by decide +kernel
theorem dX12_rule_155 : decode cX12_rule 155 = .ok (.iconst 1, 1) := by decide +kernel
theorem dX12_rule_156 : decode cX12_rule 156 = .ok (.isub, 1) := by decide +kernel
theorem dX12_rule_157 : decode cX12_rule 157 = .ok (.ireturn, 1) := by decide +kernel
theorem dX12_bits_0 : decode cX12_bits 0 = .ok (.iconst 0, 1) := by decide +kernel
theorem dX12_bits_1 : decode cX12_bits 1 = .ok (.istore_n 1, 1) := by decide +kernel
theorem dX12_bits_2 : decode cX12_bits 2 = .ok (.iconst 0, 1) := by decide +kernel
theorem dX12_bits_3 : decode cX12_bits 3 = .ok (.istore_n 2, 1) := by decide +kernel
theorem dX12_bits_4 : decode cX12_bits 4 = .ok (.iload_n 2, 1) := by decide +kernel
theorem dX12_bits_5 : decode cX12_bits 5 = .ok (.bipush 8, 2) := by decide +kernel
theorem dX12_bits_7 : decode cX12_bits 7 = .ok (.if_icmp .ge 17, 3) := by decide +kernel
theorem dX12_bits_10 : decode cX12_bits 10 = .ok (.iload_n 1, 1) := by decide +kernel
theorem dX12_bits_11 : decode cX12_bits 11 = .ok (.iload_n 0, 1) := by decide +kernel
theorem dX12_bits_12 : decode cX12_bits 12 = .ok (.iload_n 2, 1) := by decide +kernel
theorem dX12_bits_13 : decode cX12_bits 13 = .ok (.ishr, 1) := by decide +kernel
theorem dX12_bits_14 : decode cX12_bits 14 = .ok (.iconst 1, 1) := by decide +kernel
theorem dX12_bits_15 : decode cX12_bits 15 = .ok (.iand, 1) := by decide +kernel
theorem dX12_bits_16 : decode cX12_bits 16 = .ok (.iadd, 1) := by decide +kernel
theorem dX12_bits_17 : decode cX12_bits 17 = .ok (.istore_n 1, 1) := by decide +kernel
theorem dX12_bits_18 : decode cX12_bits 18 = .ok (.iinc 2 1, 3) := by decide +kernel
theorem dX12_bits_21 : decode cX12_bits 21 = .ok (.goto (-17), 3) := by decide +kernel
theorem dX12_bits_24 : decode cX12_bits 24 = .ok (.iload_n 1, 1) := by decide +kernel
theorem dX12_bits_25 : decode cX12_bits 25 = .ok (.ireturn, 1) := by decide +kernel
theorem dX12_weightOf_0 : decode cX12_weightOf 0 = .ok (.iconst 0, 1) := by decide +kernel
theorem dX12_weightOf_1 : decode cX12_weightOf 1 = .ok (.istore_n 2, 1) := by decide +kernel
theorem dX12_weightOf_2 : decode cX12_weightOf 2 = .ok (.iconst 0, 1) := by decide +kernel
theorem dX12_weightOf_3 : decode cX12_weightOf 3 = .ok (.istore_n 3, 1) := by decide +kernel
theorem dX12_weightOf_4 : decode cX12_weightOf 4 = .ok (.iload_n 3, 1) := by decide +kernel
theorem dX12_weightOf_5 : decode cX12_weightOf 5 = .ok (.aload_n 0, 1) := by decide +kernel
theorem dX12_weightOf_6 : decode cX12_weightOf 6 = .ok (.getfield 39, 3) := by decide +kernel
theorem dX12_weightOf_9 : decode cX12_weightOf 9 = .ok (.iload_n 1, 1) := by decide +kernel
theorem dX12_weightOf_10 : decode cX12_weightOf 10 = .ok (.iaload, 1) := by decide +kernel
theorem dX12_weightOf_11 : decode cX12_weightOf 11 = .ok (.if_icmp .ge 60, 3) := by decide +kernel
theorem dX12_weightOf_14 : decode cX12_weightOf 14 = .ok (.iconst 3, 1) := by decide +kernel
theorem dX12_weightOf_15 : decode cX12_weightOf 15 = .ok (.iload_n 1, 1) := by decide +kernel
theorem dX12_weightOf_16 : decode cX12_weightOf 16 = .ok (.imul, 1) := by decide +kernel
theorem dX12_weightOf_17 : decode cX12_weightOf 17 = .ok (.iload_n 3, 1) := by decide +kernel
theorem dX12_weightOf_18 : decode cX12_weightOf 18 = .ok (.iadd, 1) := by decide +kernel
theorem dX12_weightOf_19 : decode cX12_weightOf 19 = .ok (.istore 4, 2) := by decide +kernel
theorem dX12_weightOf_21 : decode cX12_weightOf 21 = .ok (.iload_n 2, 1) := by decide +kernel
theorem dX12_weightOf_22 : decode cX12_weightOf 22 = .ok (.bipush 10, 2) := by decide +kernel
theorem dX12_weightOf_24 : decode cX12_weightOf 24 = .ok (.aload_n 0, 1) := by decide +kernel
theorem dX12_weightOf_25 : decode cX12_weightOf 25 = .ok (.getfield 48, 3) := by decide +kernel
theorem dX12_weightOf_28 : decode cX12_weightOf 28 = .ok (.iload 4, 2) := by decide +kernel
theorem dX12_weightOf_30 : decode cX12_weightOf 30 = .ok (.iaload, 1) := by decide +kernel
theorem dX12_weightOf_31 : decode cX12_weightOf 31 = .ok (.invokestatic 171, 3) := by decide +kernel
theorem dX12_weightOf_34 : decode cX12_weightOf 34 = .ok (.aload_n 0, 1) := by decide +kernel
theorem dX12_weightOf_35 : decode cX12_weightOf 35 = .ok (.getfield 51, 3) := by decide +kernel
theorem dX12_weightOf_38 : decode cX12_weightOf 38 = .ok (.iload 4, 2) := by decide +kernel
theorem dX12_weightOf_40 : decode cX12_weightOf 40 = .ok (.iaload, 1) := by decide +kernel
theorem dX12_weightOf_41 : decode cX12_weightOf 41 = .ok (.invokestatic 171, 3) := by decide +kernel
theorem dX12_weightOf_44 : decode cX12_weightOf 44 = .ok (.iadd, 1) := by decide +kernel
theorem dX12_weightOf_45 : decode cX12_weightOf 45 = .ok (.imul, 1) := by decide +kernel
theorem dX12_weightOf_46 : decode cX12_weightOf 46 = .ok (.aload_n 0, 1) := by decide +kernel
theorem dX12_weightOf_47 : decode cX12_weightOf 47 = .ok (.getfield 45, 3) := by decide +kernel
theorem dX12_weightOf_50 : decode cX12_weightOf 50 = .ok (.iload 4, 2) := by decide +kernel
theorem dX12_weightOf_52 : decode cX12_weightOf 52 = .ok (.iaload, 1) := by decide +kernel
theorem dX12_weightOf_53 : decode cX12_weightOf 53 = .ok (.iconst (-1), 1) := by decide +kernel
theorem dX12_weightOf_54 : decode cX12_weightOf 54 = .ok (.if_icmp .ne 7, 3) := by decide +kernel
theorem dX12_weightOf_57 : decode cX12_weightOf 57 = .ok (.iconst 0, 1) := by decide +kernel
theorem dX12_weightOf_58 : decode cX12_weightOf 58 = .ok (.goto 4, 3) := by decide +kernel
theorem dX12_weightOf_61 : decode cX12_weightOf 61 = .ok (.iconst 1, 1) := by decide +kernel
theorem dX12_weightOf_62 : decode cX12_weightOf 62 = .ok (.iadd, 1) := by decide +kernel
theorem dX12_weightOf_63 : decode cX12_weightOf 63 = .ok (.iadd, 1) := by decide +kernel
theorem dX12_weightOf_64 : decode cX12_weightOf 64 = .ok (.istore_n 2, 1) := by decide +kernel
theorem dX12_weightOf_65 : decode cX12_weightOf 65 = .ok (.iinc 3 1, 3) := by decide +kernel
theorem dX12_weightOf_68 : decode cX12_weightOf 68 = .ok (.goto (-64), 3) := by decide +kernel
theorem dX12_weightOf_71 : decode cX12_weightOf 71 = .ok (.iload_n 2, 1) := by decide +kernel
theorem dX12_weightOf_72 : decode cX12_weightOf 72 = .ok (.ireturn, 1) := by decide +kernel
theorem dX12_part_0 : decode cX12_part 0 = .ok (.aload_n 0, 1) := by decide +kernel
theorem dX12_part_1 : decode cX12_part 1 = .ok (.aload_n 0, 1) := by decide +kernel
theorem dX12_part_2 : decode cX12_part 2 = .ok (.iload_n 1, 1) := by decide +kernel
theorem dX12_part_3 : decode cX12_part 3 = .ok (.invokevirtual 174, 3) := by decide +kernel
theorem dX12_part_6 : decode cX12_part 6 = .ok (.iload_n 2, 1) := by decide +kernel
theorem dX12_part_7 : decode cX12_part 7 = .ok (.iconst 0, 1) := by decide +kernel
theorem dX12_part_8 : decode cX12_part 8 = .ok (.iconst 2, 1) := by decide +kernel
theorem dX12_part_9 : decode cX12_part 9 = .ok (.invokestatic 129, 3) := by decide +kernel
theorem dX12_part_12 : decode cX12_part 12 = .ok (.ifCond .eq 18, 3) := by decide +kernel
theorem dX12_part_15 : decode cX12_part 15 = .ok (.iload_n 3, 1) := by decide +kernel
theorem dX12_part_16 : decode cX12_part 16 = .ok (.iload 4, 2) := by decide +kernel
theorem dX12_part_18 : decode cX12_part 18 = .ok (.iload 5, 2) := by decide +kernel
theorem dX12_part_20 : decode cX12_part 20 = .ok (.invokestatic 164, 3) := by decide +kernel
theorem dX12_part_23 : decode cX12_part 23 = .ok (.ifCond .eq 7, 3) := by decide +kernel
theorem dX12_part_26 : decode cX12_part 26 = .ok (.iconst 1, 1) := by decide +kernel
theorem dX12_part_27 : decode cX12_part 27 = .ok (.goto 4, 3) := by decide +kernel
theorem dX12_part_30 : decode cX12_part 30 = .ok (.iconst 0, 1) := by decide +kernel
theorem dX12_part_31 : decode cX12_part 31 = .ok (.aload_n 0, 1) := by decide +kernel
theorem dX12_part_32 : decode cX12_part 32 = .ok (.iload_n 1, 1) := by decide +kernel
theorem dX12_part_33 : decode cX12_part 33 = .ok (.invokevirtual 174, 3) := by decide +kernel
theorem dX12_part_36 : decode cX12_part 36 = .ok (.ifCond .eq 17, 3) := by decide +kernel
theorem dX12_part_39 : decode cX12_part 39 = .ok (.aload_n 0, 1) := by decide +kernel
theorem dX12_part_40 : decode cX12_part 40 = .ok (.getfield 39, 3) := by decide +kernel
theorem dX12_part_43 : decode cX12_part 43 = .ok (.iload_n 1, 1) := by decide +kernel
theorem dX12_part_44 : decode cX12_part 44 = .ok (.iaload, 1) := by decide +kernel
theorem dX12_part_45 : decode cX12_part 45 = .ok (.iconst 3, 1) := by decide +kernel
theorem dX12_part_46 : decode cX12_part 46 = .ok (.if_icmp .ge 7, 3) := by decide +kernel
theorem dX12_part_49 : decode cX12_part 49 = .ok (.iconst 1, 1) := by decide +kernel
theorem dX12_part_50 : decode cX12_part 50 = .ok (.goto 4, 3) := by decide +kernel
theorem dX12_part_53 : decode cX12_part 53 = .ok (.iconst 0, 1) := by decide +kernel
theorem dX12_part_54 : decode cX12_part 54 = .ok (.invokevirtual 143, 3) := by decide +kernel
theorem dX12_part_57 : decode cX12_part 57 = .ok (.ifCond .ne 5, 3) := by decide +kernel
theorem dX12_part_60 : decode cX12_part 60 = .ok (.iconst 0, 1) := by decide +kernel
theorem dX12_part_61 : decode cX12_part 61 = .ok (.ireturn, 1) := by decide +kernel
theorem dX12_part_62 : decode cX12_part 62 = .ok (.aload_n 0, 1) := by decide +kernel
theorem dX12_part_63 : decode cX12_part 63 = .ok (.invokevirtual 147, 3) := by decide +kernel
theorem dX12_part_66 : decode cX12_part 66 = .ok (.aload_n 0, 1) := by decide +kernel
theorem dX12_part_67 : decode cX12_part 67 = .ok (.iconst 3, 1) := by decide +kernel
theorem dX12_part_68 : decode cX12_part 68 = .ok (.iload_n 1, 1) := by decide +kernel
theorem dX12_part_69 : decode cX12_part 69 = .ok (.imul, 1) := by decide +kernel
theorem dX12_part_70 : decode cX12_part 70 = .ok (.aload_n 0, 1) := by decide +kernel
theorem dX12_part_71 : decode cX12_part 71 = .ok (.getfield 39, 3) := by decide +kernel
theorem dX12_part_74 : decode cX12_part 74 = .ok (.iload_n 1, 1) := by decide +kernel
theorem dX12_part_75 : decode cX12_part 75 = .ok (.iaload, 1) := by decide +kernel
theorem dX12_part_76 : decode cX12_part 76 = .ok (.iadd, 1) := by decide +kernel
theorem dX12_part_77 : decode cX12_part 77 = .ok (.iload_n 2, 1) := by decide +kernel
theorem dX12_part_78 : decode cX12_part 78 = .ok (.iload_n 3, 1) := by decide +kernel
theorem dX12_part_79 : decode cX12_part 79 = .ok (.iload 4, 2) := by decide +kernel
theorem dX12_part_81 : decode cX12_part 81 = .ok (.iload 5, 2) := by decide +kernel
theorem dX12_part_83 : decode cX12_part 83 = .ok (.invokevirtual 167, 3) := by decide +kernel
theorem dX12_part_86 : decode cX12_part 86 = .ok (.aload_n 0, 1) := by decide +kernel
theorem dX12_part_87 : decode cX12_part 87 = .ok (.getfield 39, 3) := by decide +kernel
theorem dX12_part_90 : decode cX12_part 90 = .ok (.iload_n 1, 1) := by decide +kernel
theorem dX12_part_91 : decode cX12_part 91 = .ok (.dup2, 1) := by decide +kernel
theorem dX12_part_92 : decode cX12_part 92 = .ok (.iaload, 1) := by decide +kernel
theorem dX12_part_93 : decode cX12_part 93 = .ok (.iconst 1, 1) := by decide +kernel
theorem dX12_part_94 : decode cX12_part 94 = .ok (.iadd, 1) := by decide +kernel
theorem dX12_part_95 : decode cX12_part 95 = .ok (.iastore, 1) := by decide +kernel
theorem dX12_part_96 : decode cX12_part 96 = .ok (.aload_n 0, 1) := by decide +kernel
theorem dX12_part_97 : decode cX12_part 97 = .ok (.iconst 0, 1) := by decide +kernel
theorem dX12_part_98 : decode cX12_part 98 = .ok (.putfield 136, 3) := by decide +kernel
theorem dX12_part_101 : decode cX12_part 101 = .ok (.aload_n 0, 1) := by decide +kernel
theorem dX12_part_102 : decode cX12_part 102 = .ok (.invokevirtual 150, 3) := by decide +kernel
theorem dX12_part_105 : decode cX12_part 105 = .ok (.aload_n 0, 1) := by decide +kernel
theorem dX12_part_106 : decode cX12_part 106 = .ok (.iload_n 1, 1) := by decide +kernel
theorem dX12_part_107 : decode cX12_part 107 = .ok (.invokevirtual 178, 3) := by decide +kernel
theorem dX12_part_110 : decode cX12_part 110 = .ok (.ireturn, 1) := by decide +kernel
theorem dX12_ask_0 : decode cX12_ask 0 = .ok (.aload_n 0, 1) := by decide +kernel
theorem dX12_ask_1 : decode cX12_ask 1 = .ok (.aload_n 0, 1) := by decide +kernel
theorem dX12_ask_2 : decode cX12_ask 2 = .ok (.iload_n 1, 1) := by decide +kernel
theorem dX12_ask_3 : decode cX12_ask 3 = .ok (.invokevirtual 174, 3) := by decide +kernel
theorem dX12_ask_6 : decode cX12_ask 6 = .ok (.iload_n 2, 1) := by decide +kernel
theorem dX12_ask_7 : decode cX12_ask 7 = .ok (.iconst (-1), 1) := by decide +kernel
theorem dX12_ask_8 : decode cX12_ask 8 = .ok (.sipush 2000, 3) := by decide +kernel
theorem dX12_ask_11 : decode cX12_ask 11 = .ok (.invokestatic 129, 3) := by decide +kernel
theorem dX12_ask_14 : decode cX12_ask 14 = .ok (.invokevirtual 153, 3) := by decide +kernel
theorem dX12_ask_17 : decode cX12_ask 17 = .ok (.ifCond .ne 5, 3) := by decide +kernel
theorem dX12_ask_20 : decode cX12_ask 20 = .ok (.iconst 0, 1) := by decide +kernel
theorem dX12_ask_21 : decode cX12_ask 21 = .ok (.ireturn, 1) := by decide +kernel
theorem dX12_ask_22 : decode cX12_ask 22 = .ok (.aload_n 0, 1) := by decide +kernel
theorem dX12_ask_23 : decode cX12_ask 23 = .ok (.invokevirtual 147, 3) := by decide +kernel
theorem dX12_ask_26 : decode cX12_ask 26 = .ok (.aload_n 0, 1) := by decide +kernel
theorem dX12_ask_27 : decode cX12_ask 27 = .ok (.getfield 63, 3) := by decide +kernel
theorem dX12_ask_30 : decode cX12_ask 30 = .ok (.iload_n 1, 1) := by decide +kernel
theorem dX12_ask_31 : decode cX12_ask 31 = .ok (.iaload, 1) := by decide +kernel
theorem dX12_ask_32 : decode cX12_ask 32 = .ok (.istore_n 3, 1) := by decide +kernel
theorem dX12_ask_33 : decode cX12_ask 33 = .ok (.aload_n 0, 1) := by decide +kernel
theorem dX12_ask_34 : decode cX12_ask 34 = .ok (.getfield 63, 3) := by decide +kernel
theorem dX12_ask_37 : decode cX12_ask 37 = .ok (.iload_n 1, 1) := by decide +kernel
theorem dX12_ask_38 : decode cX12_ask 38 = .ok (.iload_n 2, 1) := by decide +kernel
theorem dX12_ask_39 : decode cX12_ask 39 = .ok (.iastore, 1) := by decide +kernel
theorem dX12_ask_40 : decode cX12_ask 40 = .ok (.aload_n 0, 1) := by decide +kernel
theorem dX12_ask_41 : decode cX12_ask 41 = .ok (.iconst 0, 1) := by decide +kernel
theorem dX12_ask_42 : decode cX12_ask 42 = .ok (.putfield 136, 3) := by decide +kernel
theorem dX12_ask_45 : decode cX12_ask 45 = .ok (.aload_n 0, 1) := by decide +kernel
theorem dX12_ask_46 : decode cX12_ask 46 = .ok (.invokevirtual 150, 3) := by decide +kernel
theorem dX12_ask_49 : decode cX12_ask 49 = .ok (.iload_n 3, 1) := by decide +kernel
theorem dX12_ask_50 : decode cX12_ask 50 = .ok (.ireturn, 1) := by decide +kernel
theorem dX12_canBe_0 : decode cX12_canBe 0 = .ok (.iload_n 0, 1) := by decide +kernel
theorem dX12_canBe_1 : decode cX12_canBe 1 = .ok (.tableswitch 110 3 14 #[63, 63, 71, 78, 86, 94, 102, 110, 110, 110, 110, 63], 63) := by decide +kernel
theorem dX12_canBe_64 : decode cX12_canBe 64 = .ok (.iload_n 1, 1) := by decide +kernel
theorem dX12_canBe_65 : decode cX12_canBe 65 = .ok (.iconst 0, 1) := by decide +kernel
theorem dX12_canBe_66 : decode cX12_canBe 66 = .ok (.bipush 100, 2) := by decide +kernel
theorem dX12_canBe_68 : decode cX12_canBe 68 = .ok (.invokestatic 129, 3) := by decide +kernel
theorem dX12_canBe_71 : decode cX12_canBe 71 = .ok (.ireturn, 1) := by decide +kernel
theorem dX12_canBe_72 : decode cX12_canBe 72 = .ok (.iload_n 1, 1) := by decide +kernel
theorem dX12_canBe_73 : decode cX12_canBe 73 = .ok (.iconst 0, 1) := by decide +kernel
theorem dX12_canBe_74 : decode cX12_canBe 74 = .ok (.iconst 3, 1) := by decide +kernel
theorem dX12_canBe_75 : decode cX12_canBe 75 = .ok (.invokestatic 129, 3) := by decide +kernel
theorem dX12_canBe_78 : decode cX12_canBe 78 = .ok (.ireturn, 1) := by decide +kernel
theorem dX12_canBe_79 : decode cX12_canBe 79 = .ok (.iload_n 1, 1) := by decide +kernel
theorem dX12_canBe_80 : decode cX12_canBe 80 = .ok (.iconst 0, 1) := by decide +kernel
theorem dX12_canBe_81 : decode cX12_canBe 81 = .ok (.bipush 9, 2) := by decide +kernel
theorem dX12_canBe_83 : decode cX12_canBe 83 = .ok (.invokestatic 129, 3) := by decide +kernel
theorem dX12_canBe_86 : decode cX12_canBe 86 = .ok (.ireturn, 1) := by decide +kernel
theorem dX12_canBe_87 : decode cX12_canBe 87 = .ok (.iload_n 1, 1) := by decide +kernel
theorem dX12_canBe_88 : decode cX12_canBe 88 = .ok (.iconst 1, 1) := by decide +kernel
theorem dX12_canBe_89 : decode cX12_canBe 89 = .ok (.bipush 6, 2) := by decide +kernel
theorem dX12_canBe_91 : decode cX12_canBe 91 = .ok (.invokestatic 129, 3) := by decide +kernel
theorem dX12_canBe_94 : decode cX12_canBe 94 = .ok (.ireturn, 1) := by decide +kernel
theorem dX12_canBe_95 : decode cX12_canBe 95 = .ok (.iload_n 1, 1) := by decide +kernel
theorem dX12_canBe_96 : decode cX12_canBe 96 = .ok (.iconst 0, 1) := by decide +kernel
theorem dX12_canBe_97 : decode cX12_canBe 97 = .ok (.bipush 99, 2) := by decide +kernel
theorem dX12_canBe_99 : decode cX12_canBe 99 = .ok (.invokestatic 129, 3) := by decide +kernel
theorem dX12_canBe_102 : decode cX12_canBe 102 = .ok (.ireturn, 1) := by decide +kernel
theorem dX12_canBe_103 : decode cX12_canBe 103 = .ok (.iload_n 1, 1) := by decide +kernel
theorem dX12_canBe_104 : decode cX12_canBe 104 = .ok (.iconst 1, 1) := by decide +kernel
theorem dX12_canBe_105 : decode cX12_canBe 105 = .ok (.bipush 20, 2) := by decide +kernel
theorem dX12_canBe_107 : decode cX12_canBe 107 = .ok (.invokestatic 129, 3) := by decide +kernel
theorem dX12_canBe_110 : decode cX12_canBe 110 = .ok (.ireturn, 1) := by decide +kernel
theorem dX12_canBe_111 : decode cX12_canBe 111 = .ok (.iload_n 1, 1) := by decide +kernel
theorem dX12_canBe_112 : decode cX12_canBe 112 = .ok (.iconst 0, 1) := by decide +kernel
theorem dX12_canBe_113 : decode cX12_canBe 113 = .ok (.sipush 2000, 3) := by decide +kernel
theorem dX12_canBe_116 : decode cX12_canBe 116 = .ok (.invokestatic 129, 3) := by decide +kernel
theorem dX12_canBe_119 : decode cX12_canBe 119 = .ok (.ireturn, 1) := by decide +kernel
theorem dX12_declared_0 : decode cX12_declared 0 = .ok (.iconst 0, 1) := by decide +kernel
theorem dX12_declared_1 : decode cX12_declared 1 = .ok (.istore_n 2, 1) := by decide +kernel
theorem dX12_declared_2 : decode cX12_declared 2 = .ok (.iconst 0, 1) := by decide +kernel
theorem dX12_declared_3 : decode cX12_declared 3 = .ok (.istore_n 3, 1) := by decide +kernel
theorem dX12_declared_4 : decode cX12_declared 4 = .ok (.iload_n 3, 1) := by decide +kernel
theorem dX12_declared_5 : decode cX12_declared 5 = .ok (.bipush 14, 2) := by decide +kernel
theorem dX12_declared_7 : decode cX12_declared 7 = .ok (.if_icmp .ge 31, 3) := by decide +kernel
theorem dX12_declared_10 : decode cX12_declared 10 = .ok (.iload_n 2, 1) := by decide +kernel
theorem dX12_declared_11 : decode cX12_declared 11 = .ok (.aload_n 0, 1) := by decide +kernel
theorem dX12_declared_12 : decode cX12_declared 12 = .ok (.getfield 66, 3) := by decide +kernel
theorem dX12_declared_15 : decode cX12_declared 15 = .ok (.bipush 14, 2) := by decide +kernel
theorem dX12_declared_17 : decode cX12_declared 17 = .ok (.iload_n 1, 1) := by decide +kernel
theorem dX12_declared_18 : decode cX12_declared 18 = .ok (.imul, 1) := by decide +kernel
theorem dX12_declared_19 : decode cX12_declared 19 = .ok (.iload_n 3, 1) := by decide +kernel
theorem dX12_declared_20 : decode cX12_declared 20 = .ok (.iadd, 1) := by decide +kernel
theorem dX12_declared_21 : decode cX12_declared 21 = .ok (.iaload, 1) := by decide +kernel
theorem dX12_declared_22 : decode cX12_declared 22 = .ok (.ifCond .ne 7, 3) := by decide +kernel
theorem dX12_declared_25 : decode cX12_declared 25 = .ok (.iconst 0, 1) := by decide +kernel
theorem dX12_declared_26 : decode cX12_declared 26 = .ok (.goto 4, 3) := by decide +kernel
theorem dX12_declared_29 : decode cX12_declared 29 = .ok (.iconst 1, 1) := by decide +kernel
theorem dX12_declared_30 : decode cX12_declared 30 = .ok (.iadd, 1) := by decide +kernel
theorem dX12_declared_31 : decode cX12_declared 31 = .ok (.istore_n 2, 1) := by decide +kernel
theorem dX12_declared_32 : decode cX12_declared 32 = .ok (.iinc 3 1, 3) := by decide +kernel
theorem dX12_declared_35 : decode cX12_declared 35 = .ok (.goto (-31), 3) := by decide +kernel
theorem dX12_declared_38 : decode cX12_declared 38 = .ok (.iload_n 2, 1) := by decide +kernel
theorem dX12_declared_39 : decode cX12_declared 39 = .ok (.ireturn, 1) := by decide +kernel
theorem dX12_declares_0 : decode cX12_declares 0 = .ok (.aload_n 0, 1) := by decide +kernel
theorem dX12_declares_1 : decode cX12_declares 1 = .ok (.iload_n 1, 1) := by decide +kernel
theorem dX12_declares_2 : decode cX12_declares 2 = .ok (.invokevirtual 174, 3) := by decide +kernel
theorem dX12_declares_5 : decode cX12_declares 5 = .ok (.ifCond .eq 17, 3) := by decide +kernel
theorem dX12_declares_8 : decode cX12_declares 8 = .ok (.iload_n 2, 1) := by decide +kernel
theorem dX12_declares_9 : decode cX12_declares 9 = .ok (.iconst 0, 1) := by decide +kernel
theorem dX12_declares_10 : decode cX12_declares 10 = .ok (.bipush 14, 2) := by decide +kernel
theorem dX12_declares_12 : decode cX12_declares 12 = .ok (.invokestatic 129, 3) := by decide +kernel
theorem dX12_declares_15 : decode cX12_declares 15 = .ok (.ifCond .eq 7, 3) := by decide +kernel
theorem dX12_declares_18 : decode cX12_declares 18 = .ok (.iconst 1, 1) := by decide +kernel
theorem dX12_declares_19 : decode cX12_declares 19 = .ok (.goto 4, 3) := by decide +kernel
theorem dX12_declares_22 : decode cX12_declares 22 = .ok (.iconst 0, 1) := by decide +kernel
theorem dX12_declares_23 : decode cX12_declares 23 = .ok (.istore 7, 2) := by decide +kernel
theorem dX12_declares_25 : decode cX12_declares 25 = .ok (.iload_n 2, 1) := by decide +kernel
theorem dX12_declares_26 : decode cX12_declares 26 = .ok (.bipush 14, 2) := by decide +kernel
theorem dX12_declares_28 : decode cX12_declares 28 = .ok (.if_icmp .ne 7, 3) := by decide +kernel
theorem dX12_declares_31 : decode cX12_declares 31 = .ok (.iconst 3, 1) := by decide +kernel
theorem dX12_declares_32 : decode cX12_declares 32 = .ok (.goto 4, 3) := by decide +kernel
theorem dX12_declares_35 : decode cX12_declares 35 = .ok (.iload_n 2, 1) := by decide +kernel
theorem dX12_declares_36 : decode cX12_declares 36 = .ok (.istore 8, 2) := by decide +kernel
theorem dX12_declares_38 : decode cX12_declares 38 = .ok (.iload_n 2, 1) := by decide +kernel
theorem dX12_declares_39 : decode cX12_declares 39 = .ok (.bipush 14, 2) := by decide +kernel
theorem dX12_declares_41 : decode cX12_declares 41 = .ok (.if_icmp .ne 7, 3) := by decide +kernel
theorem dX12_declares_44 : decode cX12_declares 44 = .ok (.iconst 4, 1) := by decide +kernel
theorem dX12_declares_45 : decode cX12_declares 45 = .ok (.goto 4, 3) := by decide +kernel
theorem dX12_declares_48 : decode cX12_declares 48 = .ok (.iload_n 2, 1) := by decide +kernel
theorem dX12_declares_49 : decode cX12_declares 49 = .ok (.istore 9, 2) := by decide +kernel
theorem dX12_declares_51 : decode cX12_declares 51 = .ok (.iload 7, 2) := by decide +kernel
theorem dX12_declares_53 : decode cX12_declares 53 = .ok (.ifCond .eq 11, 3) := by decide +kernel
theorem dX12_declares_56 : decode cX12_declares 56 = .ok (.aload_n 0, 1) := by decide +kernel
theorem dX12_declares_57 : decode cX12_declares 57 = .ok (.iload_n 1, 1) := by decide +kernel
theorem dX12_declares_58 : decode cX12_declares 58 = .ok (.invokevirtual 181, 3) := by decide +kernel
theorem dX12_declares_61 : decode cX12_declares 61 = .ok (.goto 4, 3) := by decide +kernel
theorem dX12_declares_64 : decode cX12_declares 64 = .ok (.iconst 0, 1) := by decide +kernel
theorem dX12_declares_65 : decode cX12_declares 65 = .ok (.istore 10, 2) := by decide +kernel
theorem dX12_declares_67 : decode cX12_declares 67 = .ok (.iload 8, 2) := by decide +kernel
theorem dX12_declares_69 : decode cX12_declares 69 = .ok (.istore 11, 2) := by decide +kernel
theorem dX12_declares_71 : decode cX12_declares 71 = .ok (.iload 11, 2) := by decide +kernel
theorem dX12_declares_73 : decode cX12_declares 73 = .ok (.iload 9, 2) := by decide +kernel
theorem dX12_declares_75 : decode cX12_declares 75 = .ok (.if_icmp .gt 39, 3) := by decide +kernel
theorem dX12_declares_78 : decode cX12_declares 78 = .ok (.iload 7, 2) := by decide +kernel
theorem dX12_declares_80 : decode cX12_declares 80 = .ok (.ifCond .eq 34, 3) := by decide +kernel
theorem dX12_declares_83 : decode cX12_declares 83 = .ok (.iload 10, 2) := by decide +kernel
theorem dX12_declares_85 : decode cX12_declares 85 = .ok (.aload_n 0, 1) := by decide +kernel
theorem dX12_declares_86 : decode cX12_declares 86 = .ok (.getfield 66, 3) := by decide +kernel
theorem dX12_declares_89 : decode cX12_declares 89 = .ok (.bipush 14, 2) := by decide +kernel
theorem dX12_declares_91 : decode cX12_declares 91 = .ok (.iload_n 1, 1) := by decide +kernel
theorem dX12_declares_92 : decode cX12_declares 92 = .ok (.imul, 1) := by decide +kernel
theorem dX12_declares_93 : decode cX12_declares 93 = .ok (.iload 11, 2) := by decide +kernel
theorem dX12_declares_95 : decode cX12_declares 95 = .ok (.iadd, 1) := by decide +kernel
theorem dX12_declares_96 : decode cX12_declares 96 = .ok (.iaload, 1) := by decide +kernel
theorem dX12_declares_97 : decode cX12_declares 97 = .ok (.ifCond .ne 7, 3) := by decide +kernel
theorem dX12_declares_100 : decode cX12_declares 100 = .ok (.iconst 1, 1) := by decide +kernel
theorem dX12_declares_101 : decode cX12_declares 101 = .ok (.goto 4, 3) := by decide +kernel
theorem dX12_declares_104 : decode cX12_declares 104 = .ok (.iconst 0, 1) := by decide +kernel
theorem dX12_declares_105 : decode cX12_declares 105 = .ok (.iadd, 1) := by decide +kernel
theorem dX12_declares_106 : decode cX12_declares 106 = .ok (.istore 10, 2) := by decide +kernel
theorem dX12_declares_108 : decode cX12_declares 108 = .ok (.iinc 11 1, 3) := by decide +kernel
theorem dX12_declares_111 : decode cX12_declares 111 = .ok (.goto (-40), 3) := by decide +kernel
theorem dX12_declares_114 : decode cX12_declares 114 = .ok (.aload_n 0, 1) := by decide +kernel
theorem dX12_declares_115 : decode cX12_declares 115 = .ok (.iload 7, 2) := by decide +kernel
theorem dX12_declares_117 : decode cX12_declares 117 = .ok (.iload_n 3, 1) := by decide +kernel
theorem dX12_declares_118 : decode cX12_declares 118 = .ok (.iload 10, 2) := by decide +kernel
theorem dX12_declares_120 : decode cX12_declares 120 = .ok (.bipush 6, 2) := by decide +kernel
theorem dX12_declares_122 : decode cX12_declares 122 = .ok (.if_icmp .gt 7, 3) := by decide +kernel
theorem dX12_declares_125 : decode cX12_declares 125 = .ok (.iconst 1, 1) := by decide +kernel
theorem dX12_declares_126 : decode cX12_declares 126 = .ok (.goto 4, 3) := by decide +kernel
theorem dX12_declares_129 : decode cX12_declares 129 = .ok (.iconst 0, 1) := by decide +kernel
theorem dX12_declares_130 : decode cX12_declares 130 = .ok (.invokevirtual 143, 3) := by decide +kernel
theorem dX12_declares_133 : decode cX12_declares 133 = .ok (.ifCond .ne 5, 3) := by decide +kernel
theorem dX12_declares_136 : decode cX12_declares 136 = .ok (.iconst 0, 1) := by decide +kernel
theorem dX12_declares_137 : decode cX12_declares 137 = .ok (.ireturn, 1) := by decide +kernel
theorem dX12_declares_138 : decode cX12_declares 138 = .ok (.aload_n 0, 1) := by decide +kernel
theorem dX12_declares_139 : decode cX12_declares 139 = .ok (.invokevirtual 147, 3) := by decide +kernel
theorem dX12_declares_142 : decode cX12_declares 142 = .ok (.iload 8, 2) := by decide +kernel
theorem dX12_declares_144 : decode cX12_declares 144 = .ok (.istore 11, 2) := by decide +kernel
theorem dX12_declares_146 : decode cX12_declares 146 = .ok (.iload 11, 2) := by decide +kernel
theorem dX12_declares_148 : decode cX12_declares 148 = .ok (.iload 9, 2) := by decide +kernel
theorem dX12_declares_150 : decode cX12_declares 150 = .ok (.if_icmp .gt 51, 3) := by decide +kernel
theorem dX12_declares_153 : decode cX12_declares 153 = .ok (.aload_n 0, 1) := by decide +kernel
theorem dX12_declares_154 : decode cX12_declares 154 = .ok (.getfield 66, 3) := by decide +kernel
theorem dX12_declares_157 : decode cX12_declares 157 = .ok (.bipush 14, 2) := by decide +kernel
theorem dX12_declares_159 : decode cX12_declares 159 = .ok (.iload_n 1, 1) := by decide +kernel
theorem dX12_declares_160 : decode cX12_declares 160 = .ok (.imul, 1) := by decide +kernel
theorem dX12_declares_161 : decode cX12_declares 161 = .ok (.iload 11, 2) := by decide +kernel
theorem dX12_declares_163 : decode cX12_declares 163 = .ok (.iadd, 1) := by decide +kernel
theorem dX12_declares_164 : decode cX12_declares 164 = .ok (.iload 4, 2) := by decide +kernel
theorem dX12_declares_166 : decode cX12_declares 166 = .ok (.iastore, 1) := by decide +kernel
theorem dX12_declares_167 : decode cX12_declares 167 = .ok (.aload_n 0, 1) := by decide +kernel
theorem dX12_declares_168 : decode cX12_declares 168 = .ok (.getfield 69, 3) := by decide +kernel
theorem dX12_declares_171 : decode cX12_declares 171 = .ok (.bipush 14, 2) := by decide +kernel
theorem dX12_declares_173 : decode cX12_declares 173 = .ok (.iload_n 1, 1) := by decide +kernel
theorem dX12_declares_174 : decode cX12_declares 174 = .ok (.imul, 1) := by decide +kernel
theorem dX12_declares_175 : decode cX12_declares 175 = .ok (.iload 11, 2) := by decide +kernel
theorem dX12_declares_177 : decode cX12_declares 177 = .ok (.iadd, 1) := by decide +kernel
theorem dX12_declares_178 : decode cX12_declares 178 = .ok (.iload 5, 2) := by decide +kernel
theorem dX12_declares_180 : decode cX12_declares 180 = .ok (.iastore, 1) := by decide +kernel
theorem dX12_declares_181 : decode cX12_declares 181 = .ok (.aload_n 0, 1) := by decide +kernel
theorem dX12_declares_182 : decode cX12_declares 182 = .ok (.getfield 72, 3) := by decide +kernel
theorem dX12_declares_185 : decode cX12_declares 185 = .ok (.bipush 14, 2) := by decide +kernel
theorem dX12_declares_187 : decode cX12_declares 187 = .ok (.iload_n 1, 1) := by decide +kernel
theorem dX12_declares_188 : decode cX12_declares 188 = .ok (.imul, 1) := by decide +kernel
theorem dX12_declares_189 : decode cX12_declares 189 = .ok (.iload 11, 2) := by decide +kernel
theorem dX12_declares_191 : decode cX12_declares 191 = .ok (.iadd, 1) := by decide +kernel
theorem dX12_declares_192 : decode cX12_declares 192 = .ok (.iload 6, 2) := by decide +kernel
theorem dX12_declares_194 : decode cX12_declares 194 = .ok (.iastore, 1) := by decide +kernel
theorem dX12_declares_195 : decode cX12_declares 195 = .ok (.iinc 11 1, 3) := by decide +kernel
theorem dX12_declares_198 : decode cX12_declares 198 = .ok (.goto (-52), 3) := by decide +kernel
theorem dX12_declares_201 : decode cX12_declares 201 = .ok (.aload_n 0, 1) := by decide +kernel
theorem dX12_declares_202 : decode cX12_declares 202 = .ok (.iconst 0, 1) := by decide +kernel
theorem dX12_declares_203 : decode cX12_declares 203 = .ok (.putfield 136, 3) := by decide +kernel
theorem dX12_declares_206 : decode cX12_declares 206 = .ok (.aload_n 0, 1) := by decide +kernel
theorem dX12_declares_207 : decode cX12_declares 207 = .ok (.invokevirtual 150, 3) := by decide +kernel
theorem dX12_declares_210 : decode cX12_declares 210 = .ok (.iload 10, 2) := by decide +kernel
theorem dX12_declares_212 : decode cX12_declares 212 = .ok (.ireturn, 1) := by decide +kernel
theorem dX12_declare_0 : decode cX12_declare 0 = .ok (.aload_n 0, 1) := by decide +kernel
theorem dX12_declare_1 : decode cX12_declare 1 = .ok (.iload_n 1, 1) := by decide +kernel
theorem dX12_declare_2 : decode cX12_declare 2 = .ok (.iload_n 2, 1) := by decide +kernel
theorem dX12_declare_3 : decode cX12_declare 3 = .ok (.iload_n 2, 1) := by decide +kernel
theorem dX12_declare_4 : decode cX12_declare 4 = .ok (.iload_n 3, 1) := by decide +kernel
theorem dX12_declare_5 : decode cX12_declare 5 = .ok (.invokestatic 184, 3) := by decide +kernel
theorem dX12_declare_8 : decode cX12_declare 8 = .ok (.ifCond .ne 14, 3) := by decide +kernel
theorem dX12_declare_11 : decode cX12_declare 11 = .ok (.iload_n 2, 1) := by decide +kernel
theorem dX12_declare_12 : decode cX12_declare 12 = .ok (.iconst 2, 1) := by decide +kernel
theorem dX12_declare_13 : decode cX12_declare 13 = .ok (.if_icmp .gt 13, 3) := by decide +kernel
theorem dX12_declare_16 : decode cX12_declare 16 = .ok (.iload_n 3, 1) := by decide +kernel
theorem dX12_declare_17 : decode cX12_declare 17 = .ok (.bipush (-2), 2) := by decide +kernel
theorem dX12_declare_19 : decode cX12_declare 19 = .ok (.if_icmp .ne 7, 3) := by decide +kernel
theorem dX12_declare_22 : decode cX12_declare 22 = .ok (.iconst 1, 1) := by decide +kernel
theorem dX12_declare_23 : decode cX12_declare 23 = .ok (.goto 4, 3) := by decide +kernel
theorem dX12_declare_26 : decode cX12_declare 26 = .ok (.iconst 0, 1) := by decide +kernel
theorem dX12_declare_27 : decode cX12_declare 27 = .ok (.iconst 1, 1) := by decide +kernel
theorem dX12_declare_28 : decode cX12_declare 28 = .ok (.iload_n 3, 1) := by decide +kernel
theorem dX12_declare_29 : decode cX12_declare 29 = .ok (.iconst (-1), 1) := by decide +kernel
theorem dX12_declare_30 : decode cX12_declare 30 = .ok (.invokevirtual 187, 3) := by decide +kernel
theorem dX12_declare_33 : decode cX12_declare 33 = .ok (.ireturn, 1) := by decide +kernel
theorem dX12_say_0 : decode cX12_say 0 = .ok (.aload_n 0, 1) := by decide +kernel
theorem dX12_say_1 : decode cX12_say 1 = .ok (.iload_n 1, 1) := by decide +kernel
theorem dX12_say_2 : decode cX12_say 2 = .ok (.iload_n 2, 1) := by decide +kernel
theorem dX12_say_3 : decode cX12_say 3 = .ok (.iload_n 3, 1) := by decide +kernel
theorem dX12_say_4 : decode cX12_say 4 = .ok (.iconst 0, 1) := by decide +kernel
theorem dX12_say_5 : decode cX12_say 5 = .ok (.iconst 3, 1) := by decide +kernel
theorem dX12_say_6 : decode cX12_say 6 = .ok (.invokestatic 129, 3) := by decide +kernel
theorem dX12_say_9 : decode cX12_say 9 = .ok (.iconst 2, 1) := by decide +kernel
theorem dX12_say_10 : decode cX12_say 10 = .ok (.iload_n 3, 1) := by decide +kernel
theorem dX12_say_11 : decode cX12_say 11 = .ok (.iconst (-1), 1) := by decide +kernel
theorem dX12_say_12 : decode cX12_say 12 = .ok (.invokevirtual 187, 3) := by decide +kernel
theorem dX12_say_15 : decode cX12_say 15 = .ok (.ireturn, 1) := by decide +kernel
theorem dX12_refer_0 : decode cX12_refer 0 = .ok (.aload_n 0, 1) := by decide +kernel
theorem dX12_refer_1 : decode cX12_refer 1 = .ok (.iload_n 1, 1) := by decide +kernel
theorem dX12_refer_2 : decode cX12_refer 2 = .ok (.iload_n 2, 1) := by decide +kernel
theorem dX12_refer_3 : decode cX12_refer 3 = .ok (.iload_n 3, 1) := by decide +kernel
theorem dX12_refer_4 : decode cX12_refer 4 = .ok (.iconst 0, 1) := by decide +kernel
theorem dX12_refer_5 : decode cX12_refer 5 = .ok (.iconst 3, 1) := by decide +kernel
theorem dX12_refer_6 : decode cX12_refer 6 = .ok (.invokestatic 129, 3) := by decide +kernel
theorem dX12_refer_9 : decode cX12_refer 9 = .ok (.ifCond .eq 22, 3) := by decide +kernel
theorem dX12_refer_12 : decode cX12_refer 12 = .ok (.iload 4, 2) := by decide +kernel
theorem dX12_refer_14 : decode cX12_refer 14 = .ok (.iconst (-1), 1) := by decide +kernel
theorem dX12_refer_15 : decode cX12_refer 15 = .ok (.if_icmp .eq 12, 3) := by decide +kernel
theorem dX12_refer_18 : decode cX12_refer 18 = .ok (.iload_n 2, 1) := by decide +kernel
theorem dX12_refer_19 : decode cX12_refer 19 = .ok (.iload 4, 2) := by decide +kernel
theorem dX12_refer_21 : decode cX12_refer 21 = .ok (.invokestatic 184, 3) := by decide +kernel
theorem dX12_refer_24 : decode cX12_refer 24 = .ok (.ifCond .eq 7, 3) := by decide +kernel
theorem dX12_refer_27 : decode cX12_refer 27 = .ok (.iconst 1, 1) := by decide +kernel
theorem dX12_refer_28 : decode cX12_refer 28 = .ok (.goto 4, 3) := by decide +kernel
theorem dX12_refer_31 : decode cX12_refer 31 = .ok (.iconst 0, 1) := by decide +kernel
theorem dX12_refer_32 : decode cX12_refer 32 = .ok (.iconst 3, 1) := by decide +kernel
theorem dX12_refer_33 : decode cX12_refer 33 = .ok (.iload_n 3, 1) := by decide +kernel
theorem dX12_refer_34 : decode cX12_refer 34 = .ok (.iload 4, 2) := by decide +kernel
theorem dX12_refer_36 : decode cX12_refer 36 = .ok (.invokevirtual 187, 3) := by decide +kernel
theorem dX12_refer_39 : decode cX12_refer 39 = .ok (.ireturn, 1) := by decide +kernel
theorem dX12_empty_0 : decode cX12_empty 0 = .ok (.aload_n 0, 1) := by decide +kernel
theorem dX12_empty_1 : decode cX12_empty 1 = .ok (.aload_n 0, 1) := by decide +kernel
theorem dX12_empty_2 : decode cX12_empty 2 = .ok (.iload_n 1, 1) := by decide +kernel
theorem dX12_empty_3 : decode cX12_empty 3 = .ok (.invokevirtual 174, 3) := by decide +kernel
theorem dX12_empty_6 : decode cX12_empty 6 = .ok (.invokevirtual 161, 3) := by decide +kernel
theorem dX12_empty_9 : decode cX12_empty 9 = .ok (.ifCond .ne 5, 3) := by decide +kernel
theorem dX12_empty_12 : decode cX12_empty 12 = .ok (.iconst 0, 1) := by decide +kernel
theorem dX12_empty_13 : decode cX12_empty 13 = .ok (.ireturn, 1) := by decide +kernel
theorem dX12_empty_14 : decode cX12_empty 14 = .ok (.aload_n 0, 1) := by decide +kernel
theorem dX12_empty_15 : decode cX12_empty 15 = .ok (.invokevirtual 147, 3) := by decide +kernel
theorem dX12_empty_18 : decode cX12_empty 18 = .ok (.aload_n 0, 1) := by decide +kernel
theorem dX12_empty_19 : decode cX12_empty 19 = .ok (.iload_n 1, 1) := by decide +kernel
theorem dX12_empty_20 : decode cX12_empty 20 = .ok (.invokevirtual 181, 3) := by decide +kernel
theorem dX12_empty_23 : decode cX12_empty 23 = .ok (.istore_n 2, 1) := by decide +kernel
theorem dX12_empty_24 : decode cX12_empty 24 = .ok (.iconst 0, 1) := by decide +kernel
theorem dX12_empty_25 : decode cX12_empty 25 = .ok (.istore_n 3, 1) := by decide +kernel
theorem dX12_empty_26 : decode cX12_empty 26 = .ok (.iload_n 3, 1) := by decide +kernel
theorem dX12_empty_27 : decode cX12_empty 27 = .ok (.bipush 14, 2) := by decide +kernel
theorem dX12_empty_29 : decode cX12_empty 29 = .ok (.if_icmp .ge 21, 3) := by decide +kernel
theorem dX12_empty_32 : decode cX12_empty 32 = .ok (.aload_n 0, 1) := by decide +kernel
theorem dX12_empty_33 : decode cX12_empty 33 = .ok (.getfield 66, 3) := by decide +kernel
theorem dX12_empty_36 : decode cX12_empty 36 = .ok (.bipush 14, 2) := by decide +kernel
theorem dX12_empty_38 : decode cX12_empty 38 = .ok (.iload_n 1, 1) := by decide +kernel
theorem dX12_empty_39 : decode cX12_empty 39 = .ok (.imul, 1) := by decide +kernel
theorem dX12_empty_40 : decode cX12_empty 40 = .ok (.iload_n 3, 1) := by decide +kernel
theorem dX12_empty_41 : decode cX12_empty 41 = .ok (.iadd, 1) := by decide +kernel
theorem dX12_empty_42 : decode cX12_empty 42 = .ok (.iconst 0, 1) := by decide +kernel
theorem dX12_empty_43 : decode cX12_empty 43 = .ok (.iastore, 1) := by decide +kernel
theorem dX12_empty_44 : decode cX12_empty 44 = .ok (.iinc 3 1, 3) := by decide +kernel
theorem dX12_empty_47 : decode cX12_empty 47 = .ok (.goto (-21), 3) := by decide +kernel
theorem dX12_empty_50 : decode cX12_empty 50 = .ok (.aload_n 0, 1) := by decide +kernel
theorem dX12_empty_51 : decode cX12_empty 51 = .ok (.iconst 0, 1) := by decide +kernel
theorem dX12_empty_52 : decode cX12_empty 52 = .ok (.putfield 136, 3) := by decide +kernel
theorem dX12_empty_55 : decode cX12_empty 55 = .ok (.aload_n 0, 1) := by decide +kernel
theorem dX12_empty_56 : decode cX12_empty 56 = .ok (.invokevirtual 150, 3) := by decide +kernel
theorem dX12_empty_59 : decode cX12_empty 59 = .ok (.iload_n 2, 1) := by decide +kernel
theorem dX12_empty_60 : decode cX12_empty 60 = .ok (.ireturn, 1) := by decide +kernel
theorem dX12_isPartOf_0 : decode cX12_isPartOf 0 = .ok (.aload_n 0, 1) := by decide +kernel
theorem dX12_isPartOf_1 : decode cX12_isPartOf 1 = .ok (.getfield 45, 3) := by decide +kernel
theorem dX12_isPartOf_4 : decode cX12_isPartOf 4 = .ok (.iload_n 1, 1) := by decide +kernel
theorem dX12_isPartOf_5 : decode cX12_isPartOf 5 = .ok (.iaload, 1) := by decide +kernel
theorem dX12_isPartOf_6 : decode cX12_isPartOf 6 = .ok (.iconst (-1), 1) := by decide +kernel
theorem dX12_isPartOf_7 : decode cX12_isPartOf 7 = .ok (.if_icmp .eq 18, 3) := by decide +kernel
theorem dX12_isPartOf_10 : decode cX12_isPartOf 10 = .ok (.aload_n 0, 1) := by decide +kernel
theorem dX12_isPartOf_11 : decode cX12_isPartOf 11 = .ok (.getfield 45, 3) := by decide +kernel
theorem dX12_isPartOf_14 : decode cX12_isPartOf 14 = .ok (.iload_n 1, 1) := by decide +kernel
theorem dX12_isPartOf_15 : decode cX12_isPartOf 15 = .ok (.iaload, 1) := by decide +kernel
theorem dX12_isPartOf_16 : decode cX12_isPartOf 16 = .ok (.aload_n 0, 1) := by decide +kernel
theorem dX12_isPartOf_17 : decode cX12_isPartOf 17 = .ok (.getfield 26, 3) := by decide +kernel
theorem dX12_isPartOf_20 : decode cX12_isPartOf 20 = .ok (.iload_n 2, 1) := by decide +kernel
theorem dX12_isPartOf_21 : decode cX12_isPartOf 21 = .ok (.iaload, 1) := by decide +kernel
theorem dX12_isPartOf_22 : decode cX12_isPartOf 22 = .ok (.if_icmp .ne 45, 3) := by decide +kernel
theorem dX12_isPartOf_25 : decode cX12_isPartOf 25 = .ok (.aload_n 0, 1) := by decide +kernel
theorem dX12_isPartOf_26 : decode cX12_isPartOf 26 = .ok (.getfield 29, 3) := by decide +kernel
theorem dX12_isPartOf_29 : decode cX12_isPartOf 29 = .ok (.iload_n 2, 1) := by decide +kernel
theorem dX12_isPartOf_30 : decode cX12_isPartOf 30 = .ok (.iaload, 1) := by decide +kernel
theorem dX12_isPartOf_31 : decode cX12_isPartOf 31 = .ok (.aload_n 0, 1) := by decide +kernel
theorem dX12_isPartOf_32 : decode cX12_isPartOf 32 = .ok (.getfield 48, 3) := by decide +kernel
theorem dX12_isPartOf_35 : decode cX12_isPartOf 35 = .ok (.iload_n 1, 1) := by decide +kernel
theorem dX12_isPartOf_36 : decode cX12_isPartOf 36 = .ok (.iaload, 1) := by decide +kernel
theorem dX12_isPartOf_37 : decode cX12_isPartOf 37 = .ok (.iand, 1) := by decide +kernel
theorem dX12_isPartOf_38 : decode cX12_isPartOf 38 = .ok (.aload_n 0, 1) := by decide +kernel
theorem dX12_isPartOf_39 : decode cX12_isPartOf 39 = .ok (.getfield 48, 3) := by decide +kernel
theorem dX12_isPartOf_42 : decode cX12_isPartOf 42 = .ok (.iload_n 1, 1) := by decide +kernel
theorem dX12_isPartOf_43 : decode cX12_isPartOf 43 = .ok (.iaload, 1) := by decide +kernel
theorem dX12_isPartOf_44 : decode cX12_isPartOf 44 = .ok (.if_icmp .ne 23, 3) := by decide +kernel
theorem dX12_isPartOf_47 : decode cX12_isPartOf 47 = .ok (.aload_n 0, 1) := by decide +kernel
theorem dX12_isPartOf_48 : decode cX12_isPartOf 48 = .ok (.getfield 29, 3) := by decide +kernel
theorem dX12_isPartOf_51 : decode cX12_isPartOf 51 = .ok (.iload_n 2, 1) := by decide +kernel
theorem dX12_isPartOf_52 : decode cX12_isPartOf 52 = .ok (.iaload, 1) := by decide +kernel
theorem dX12_isPartOf_53 : decode cX12_isPartOf 53 = .ok (.aload_n 0, 1) := by decide +kernel
theorem dX12_isPartOf_54 : decode cX12_isPartOf 54 = .ok (.getfield 51, 3) := by decide +kernel
theorem dX12_isPartOf_57 : decode cX12_isPartOf 57 = .ok (.iload_n 1, 1) := by decide +kernel
theorem dX12_isPartOf_58 : decode cX12_isPartOf 58 = .ok (.iaload, 1) := by decide +kernel
theorem dX12_isPartOf_59 : decode cX12_isPartOf 59 = .ok (.iand, 1) := by decide +kernel
theorem dX12_isPartOf_60 : decode cX12_isPartOf 60 = .ok (.ifCond .ne 7, 3) := by decide +kernel
theorem dX12_isPartOf_63 : decode cX12_isPartOf 63 = .ok (.iconst 1, 1) := by decide +kernel
theorem dX12_isPartOf_64 : decode cX12_isPartOf 64 = .ok (.goto 4, 3) := by decide +kernel
theorem dX12_isPartOf_67 : decode cX12_isPartOf 67 = .ok (.iconst 0, 1) := by decide +kernel
theorem dX12_isPartOf_68 : decode cX12_isPartOf 68 = .ok (.ireturn, 1) := by decide +kernel
theorem dX12_leads_0 : decode cX12_leads 0 = .ok (.iload_n 1, 1) := by decide +kernel
theorem dX12_leads_1 : decode cX12_leads 1 = .ok (.ifCond .ne 19, 3) := by decide +kernel
theorem dX12_leads_4 : decode cX12_leads 4 = .ok (.aload_n 0, 1) := by decide +kernel
theorem dX12_leads_5 : decode cX12_leads 5 = .ok (.getfield 23, 3) := by decide +kernel
theorem dX12_leads_8 : decode cX12_leads 8 = .ok (.iload_n 2, 1) := by decide +kernel
theorem dX12_leads_9 : decode cX12_leads 9 = .ok (.iaload, 1) := by decide +kernel
theorem dX12_leads_10 : decode cX12_leads 10 = .ok (.iload_n 3, 1) := by decide +kernel
theorem dX12_leads_11 : decode cX12_leads 11 = .ok (.if_icmp .ne 7, 3) := by decide +kernel
theorem dX12_leads_14 : decode cX12_leads 14 = .ok (.iconst 1, 1) := by decide +kernel
theorem dX12_leads_15 : decode cX12_leads 15 = .ok (.goto 4, 3) := by decide +kernel
theorem dX12_leads_18 : decode cX12_leads 18 = .ok (.iconst 0, 1) := by decide +kernel
theorem dX12_leads_19 : decode cX12_leads 19 = .ok (.ireturn, 1) := by decide +kernel
theorem dX12_leads_20 : decode cX12_leads 20 = .ok (.iload_n 1, 1) := by decide +kernel
theorem dX12_leads_21 : decode cX12_leads 21 = .ok (.iconst 1, 1) := by decide +kernel
theorem dX12_leads_22 : decode cX12_leads 22 = .ok (.if_icmp .ne 23, 3) := by decide +kernel
theorem dX12_leads_25 : decode cX12_leads 25 = .ok (.iload_n 2, 1) := by decide +kernel
theorem dX12_leads_26 : decode cX12_leads 26 = .ok (.iload_n 3, 1) := by decide +kernel
theorem dX12_leads_27 : decode cX12_leads 27 = .ok (.if_icmp .eq 16, 3) := by decide +kernel
theorem dX12_leads_30 : decode cX12_leads 30 = .ok (.aload_n 0, 1) := by decide +kernel
theorem dX12_leads_31 : decode cX12_leads 31 = .ok (.iload_n 2, 1) := by decide +kernel
theorem dX12_leads_32 : decode cX12_leads 32 = .ok (.iload_n 3, 1) := by decide +kernel
theorem dX12_leads_33 : decode cX12_leads 33 = .ok (.invokevirtual 156, 3) := by decide +kernel
theorem dX12_leads_36 : decode cX12_leads 36 = .ok (.ifCond .eq 7, 3) := by decide +kernel
theorem dX12_leads_39 : decode cX12_leads 39 = .ok (.iconst 1, 1) := by decide +kernel
theorem dX12_leads_40 : decode cX12_leads 40 = .ok (.goto 4, 3) := by decide +kernel
theorem dX12_leads_43 : decode cX12_leads 43 = .ok (.iconst 0, 1) := by decide +kernel
theorem dX12_leads_44 : decode cX12_leads 44 = .ok (.ireturn, 1) := by decide +kernel
theorem dX12_leads_45 : decode cX12_leads 45 = .ok (.iconst (-1), 1) := by decide +kernel
theorem dX12_leads_46 : decode cX12_leads 46 = .ok (.istore 4, 2) := by decide +kernel
theorem dX12_leads_48 : decode cX12_leads 48 = .ok (.iconst 0, 1) := by decide +kernel
theorem dX12_leads_49 : decode cX12_leads 49 = .ok (.istore 5, 2) := by decide +kernel
theorem dX12_leads_51 : decode cX12_leads 51 = .ok (.iload 5, 2) := by decide +kernel
theorem dX12_leads_53 : decode cX12_leads 53 = .ok (.iload_n 2, 1) := by decide +kernel
theorem dX12_leads_54 : decode cX12_leads 54 = .ok (.if_icmp .ge 34, 3) := by decide +kernel
theorem dX12_leads_57 : decode cX12_leads 57 = .ok (.aload_n 0, 1) := by decide +kernel
theorem dX12_leads_58 : decode cX12_leads 58 = .ok (.getfield 23, 3) := by decide +kernel
theorem dX12_leads_61 : decode cX12_leads 61 = .ok (.iload 5, 2) := by decide +kernel
theorem dX12_leads_63 : decode cX12_leads 63 = .ok (.iaload, 1) := by decide +kernel
theorem dX12_leads_64 : decode cX12_leads 64 = .ok (.aload_n 0, 1) := by decide +kernel
theorem dX12_leads_65 : decode cX12_leads 65 = .ok (.getfield 23, 3) := by decide +kernel
theorem dX12_leads_68 : decode cX12_leads 68 = .ok (.iload_n 2, 1) := by decide +kernel
theorem dX12_leads_69 : decode cX12_leads 69 = .ok (.iaload, 1) := by decide +kernel
theorem dX12_leads_70 : decode cX12_leads 70 = .ok (.if_icmp .ne 8, 3) := by decide +kernel
theorem dX12_leads_73 : decode cX12_leads 73 = .ok (.iload 5, 2) := by decide +kernel
theorem dX12_leads_75 : decode cX12_leads 75 = .ok (.goto 5, 3) := by decide +kernel
theorem dX12_leads_78 : decode cX12_leads 78 = .ok (.iload 4, 2) := by decide +kernel
theorem dX12_leads_80 : decode cX12_leads 80 = .ok (.istore 4, 2) := by decide +kernel
theorem dX12_leads_82 : decode cX12_leads 82 = .ok (.iinc 5 1, 3) := by decide +kernel
theorem dX12_leads_85 : decode cX12_leads 85 = .ok (.goto (-34), 3) := by decide +kernel
theorem dX12_leads_88 : decode cX12_leads 88 = .ok (.iload 4, 2) := by decide +kernel
theorem dX12_leads_90 : decode cX12_leads 90 = .ok (.iconst (-1), 1) := by decide +kernel
theorem dX12_leads_91 : decode cX12_leads 91 = .ok (.if_icmp .eq 13, 3) := by decide +kernel
theorem dX12_leads_94 : decode cX12_leads 94 = .ok (.iload 4, 2) := by decide +kernel
theorem dX12_leads_96 : decode cX12_leads 96 = .ok (.iload_n 3, 1) := by decide +kernel
theorem dX12_leads_97 : decode cX12_leads 97 = .ok (.if_icmp .ne 7, 3) := by decide +kernel
theorem dX12_leads_100 : decode cX12_leads 100 = .ok (.iconst 1, 1) := by decide +kernel
theorem dX12_leads_101 : decode cX12_leads 101 = .ok (.goto 4, 3) := by decide +kernel
theorem dX12_leads_104 : decode cX12_leads 104 = .ok (.iconst 0, 1) := by decide +kernel
theorem dX12_leads_105 : decode cX12_leads 105 = .ok (.ireturn, 1) := by decide +kernel
theorem dX12_isFit_0 : decode cX12_isFit 0 = .ok (.iconst 3, 1) := by decide +kernel
theorem dX12_isFit_1 : decode cX12_isFit 1 = .ok (.iload_n 1, 1) := by decide +kernel
theorem dX12_isFit_2 : decode cX12_isFit 2 = .ok (.imul, 1) := by decide +kernel
theorem dX12_isFit_3 : decode cX12_isFit 3 = .ok (.istore_n 3, 1) := by decide +kernel
theorem dX12_isFit_4 : decode cX12_isFit 4 = .ok (.aload_n 0, 1) := by decide +kernel
theorem dX12_isFit_5 : decode cX12_isFit 5 = .ok (.iload_n 3, 1) := by decide +kernel
theorem dX12_isFit_6 : decode cX12_isFit 6 = .ok (.iload_n 2, 1) := by decide +kernel
theorem dX12_isFit_7 : decode cX12_isFit 7 = .ok (.invokevirtual 191, 3) := by decide +kernel
theorem dX12_isFit_10 : decode cX12_isFit 10 = .ok (.ifCond .ne 5, 3) := by decide +kernel
theorem dX12_isFit_13 : decode cX12_isFit 13 = .ok (.iconst 0, 1) := by decide +kernel
theorem dX12_isFit_14 : decode cX12_isFit 14 = .ok (.ireturn, 1) := by decide +kernel
theorem dX12_isFit_15 : decode cX12_isFit 15 = .ok (.aload_n 0, 1) := by decide +kernel
theorem dX12_isFit_16 : decode cX12_isFit 16 = .ok (.getfield 39, 3) := by decide +kernel
theorem dX12_isFit_19 : decode cX12_isFit 19 = .ok (.iload_n 1, 1) := by decide +kernel
theorem dX12_isFit_20 : decode cX12_isFit 20 = .ok (.iaload, 1) := by decide +kernel
theorem dX12_isFit_21 : decode cX12_isFit 21 = .ok (.iconst 1, 1) := by decide +kernel
theorem dX12_isFit_22 : decode cX12_isFit 22 = .ok (.if_icmp .ne 7, 3) := by decide +kernel
theorem dX12_isFit_25 : decode cX12_isFit 25 = .ok (.iconst 1, 1) := by decide +kernel
theorem dX12_isFit_26 : decode cX12_isFit 26 = .ok (.goto 4, 3) := by decide +kernel
theorem dX12_isFit_29 : decode cX12_isFit 29 = .ok (.iconst 0, 1) := by decide +kernel
theorem dX12_isFit_30 : decode cX12_isFit 30 = .ok (.istore 4, 2) := by decide +kernel
theorem dX12_isFit_32 : decode cX12_isFit 32 = .ok (.iconst 0, 1) := by decide +kernel
theorem dX12_isFit_33 : decode cX12_isFit 33 = .ok (.istore 5, 2) := by decide +kernel
theorem dX12_isFit_35 : decode cX12_isFit 35 = .ok (.iload 5, 2) := by decide +kernel
theorem dX12_isFit_37 : decode cX12_isFit 37 = .ok (.aload_n 0, 1) := by decide +kernel
theorem dX12_isFit_38 : decode cX12_isFit 38 = .ok (.getfield 16, 3) := by decide +kernel
theorem dX12_isFit_41 : decode cX12_isFit 41 = .ok (.if_icmp .ge 122, 3) := by decide +kernel
theorem dX12_isFit_44 : decode cX12_isFit 44 = .ok (.iload 4, 2) := by decide +kernel
theorem dX12_isFit_46 : decode cX12_isFit 46 = .ok (.ifCond .ne 117, 3) := by decide +kernel
theorem dX12_isFit_49 : decode cX12_isFit 49 = .ok (.aload_n 0, 1) := by decide +kernel
theorem dX12_isFit_50 : decode cX12_isFit 50 = .ok (.aload_n 0, 1) := by decide +kernel
theorem dX12_isFit_51 : decode cX12_isFit 51 = .ok (.getfield 42, 3) := by decide +kernel
theorem dX12_isFit_54 : decode cX12_isFit 54 = .ok (.iload_n 3, 1) := by decide +kernel
theorem dX12_isFit_55 : decode cX12_isFit 55 = .ok (.iconst 1, 1) := by decide +kernel
theorem dX12_isFit_56 : decode cX12_isFit 56 = .ok (.iadd, 1) := by decide +kernel
theorem dX12_isFit_57 : decode cX12_isFit 57 = .ok (.iaload, 1) := by decide +kernel
theorem dX12_isFit_58 : decode cX12_isFit 58 = .ok (.iload_n 2, 1) := by decide +kernel
theorem dX12_isFit_59 : decode cX12_isFit 59 = .ok (.iload 5, 2) := by decide +kernel
theorem dX12_isFit_61 : decode cX12_isFit 61 = .ok (.invokevirtual 194, 3) := by decide +kernel
theorem dX12_isFit_64 : decode cX12_isFit 64 = .ok (.ifCond .eq 93, 3) := by decide +kernel
theorem dX12_isFit_67 : decode cX12_isFit 67 = .ok (.aload_n 0, 1) := by decide +kernel
theorem dX12_isFit_68 : decode cX12_isFit 68 = .ok (.iload_n 3, 1) := by decide +kernel
theorem dX12_isFit_69 : decode cX12_isFit 69 = .ok (.iconst 1, 1) := by decide +kernel
theorem dX12_isFit_70 : decode cX12_isFit 70 = .ok (.iadd, 1) := by decide +kernel
theorem dX12_isFit_71 : decode cX12_isFit 71 = .ok (.iload 5, 2) := by decide +kernel
theorem dX12_isFit_73 : decode cX12_isFit 73 = .ok (.invokevirtual 191, 3) := by decide +kernel
theorem dX12_isFit_76 : decode cX12_isFit 76 = .ok (.ifCond .eq 81, 3) := by decide +kernel
theorem dX12_isFit_79 : decode cX12_isFit 79 = .ok (.aload_n 0, 1) := by decide +kernel
theorem dX12_isFit_80 : decode cX12_isFit 80 = .ok (.getfield 39, 3) := by decide +kernel
theorem dX12_isFit_83 : decode cX12_isFit 83 = .ok (.iload_n 1, 1) := by decide +kernel
theorem dX12_isFit_84 : decode cX12_isFit 84 = .ok (.iaload, 1) := by decide +kernel
theorem dX12_isFit_85 : decode cX12_isFit 85 = .ok (.iconst 2, 1) := by decide +kernel
theorem dX12_isFit_86 : decode cX12_isFit 86 = .ok (.if_icmp .ne 7, 3) := by decide +kernel
theorem dX12_isFit_89 : decode cX12_isFit 89 = .ok (.iconst 1, 1) := by decide +kernel
theorem dX12_isFit_90 : decode cX12_isFit 90 = .ok (.goto 4, 3) := by decide +kernel
theorem dX12_isFit_93 : decode cX12_isFit 93 = .ok (.iconst 0, 1) := by decide +kernel
theorem dX12_isFit_94 : decode cX12_isFit 94 = .ok (.istore 4, 2) := by decide +kernel
theorem dX12_isFit_96 : decode cX12_isFit 96 = .ok (.iconst 0, 1) := by decide +kernel
theorem dX12_isFit_97 : decode cX12_isFit 97 = .ok (.istore 6, 2) := by decide +kernel
theorem dX12_isFit_99 : decode cX12_isFit 99 = .ok (.iload 6, 2) := by decide +kernel
theorem dX12_isFit_101 : decode cX12_isFit 101 = .ok (.aload_n 0, 1) := by decide +kernel
theorem dX12_isFit_102 : decode cX12_isFit 102 = .ok (.getfield 16, 3) := by decide +kernel
theorem dX12_isFit_105 : decode cX12_isFit 105 = .ok (.if_icmp .ge 52, 3) := by decide +kernel
theorem dX12_isFit_108 : decode cX12_isFit 108 = .ok (.iload 4, 2) := by decide +kernel
theorem dX12_isFit_110 : decode cX12_isFit 110 = .ok (.ifCond .ne 47, 3) := by decide +kernel
theorem dX12_isFit_113 : decode cX12_isFit 113 = .ok (.aload_n 0, 1) := by decide +kernel
theorem dX12_isFit_114 : decode cX12_isFit 114 = .ok (.aload_n 0, 1) := by decide +kernel
theorem dX12_isFit_115 : decode cX12_isFit 115 = .ok (.getfield 42, 3) := by decide +kernel
theorem dX12_isFit_118 : decode cX12_isFit 118 = .ok (.iload_n 3, 1) := by decide +kernel
theorem dX12_isFit_119 : decode cX12_isFit 119 = .ok (.iconst 2, 1) := by decide +kernel
theorem dX12_isFit_120 : decode cX12_isFit 120 = .ok (.iadd, 1) := by decide +kernel
theorem dX12_isFit_121 : decode cX12_isFit 121 = .ok (.iaload, 1) := by decide +kernel
theorem dX12_isFit_122 : decode cX12_isFit 122 = .ok (.iload 5, 2) := by decide +kernel
theorem dX12_isFit_124 : decode cX12_isFit 124 = .ok (.iload 6, 2) := by decide +kernel
theorem dX12_isFit_126 : decode cX12_isFit 126 = .ok (.invokevirtual 194, 3) := by decide +kernel
theorem dX12_isFit_129 : decode cX12_isFit 129 = .ok (.ifCond .eq 19, 3) := by decide +kernel
theorem dX12_isFit_132 : decode cX12_isFit 132 = .ok (.aload_n 0, 1) := by decide +kernel
theorem dX12_isFit_133 : decode cX12_isFit 133 = .ok (.iload_n 3, 1) := by decide +kernel
theorem dX12_isFit_134 : decode cX12_isFit 134 = .ok (.iconst 2, 1) := by decide +kernel
theorem dX12_isFit_135 : decode cX12_isFit 135 = .ok (.iadd, 1) := by decide +kernel
theorem dX12_isFit_136 : decode cX12_isFit 136 = .ok (.iload 6, 2) := by decide +kernel
theorem dX12_isFit_138 : decode cX12_isFit 138 = .ok (.invokevirtual 191, 3) := by decide +kernel
theorem dX12_isFit_141 : decode cX12_isFit 141 = .ok (.ifCond .eq 7, 3) := by decide +kernel
theorem dX12_isFit_144 : decode cX12_isFit 144 = .ok (.iconst 1, 1) := by decide +kernel
theorem dX12_isFit_145 : decode cX12_isFit 145 = .ok (.goto 4, 3) := by decide +kernel
theorem dX12_isFit_148 : decode cX12_isFit 148 = .ok (.iconst 0, 1) := by decide +kernel
theorem dX12_isFit_149 : decode cX12_isFit 149 = .ok (.istore 4, 2) := by decide +kernel
theorem dX12_isFit_151 : decode cX12_isFit 151 = .ok (.iinc 6 1, 3) := by decide +kernel
theorem dX12_isFit_154 : decode cX12_isFit 154 = .ok (.goto (-55), 3) := by decide +kernel
theorem dX12_isFit_157 : decode cX12_isFit 157 = .ok (.iinc 5 1, 3) := by decide +kernel
theorem dX12_isFit_160 : decode cX12_isFit 160 = .ok (.goto (-125), 3) := by decide +kernel
theorem dX12_isFit_163 : decode cX12_isFit 163 = .ok (.iload 4, 2) := by decide +kernel
theorem dX12_isFit_165 : decode cX12_isFit 165 = .ok (.ireturn, 1) := by decide +kernel
theorem dX12_fits_0 : decode cX12_fits 0 = .ok (.aload_n 0, 1) := by decide +kernel
theorem dX12_fits_1 : decode cX12_fits 1 = .ok (.iload_n 2, 1) := by decide +kernel
theorem dX12_fits_2 : decode cX12_fits 2 = .ok (.invokevirtual 139, 3) := by decide +kernel
theorem dX12_fits_5 : decode cX12_fits 5 = .ok (.istore_n 3, 1) := by decide +kernel
theorem dX12_fits_6 : decode cX12_fits 6 = .ok (.aload_n 0, 1) := by decide +kernel
theorem dX12_fits_7 : decode cX12_fits 7 = .ok (.aload_n 0, 1) := by decide +kernel
theorem dX12_fits_8 : decode cX12_fits 8 = .ok (.iload_n 1, 1) := by decide +kernel
theorem dX12_fits_9 : decode cX12_fits 9 = .ok (.invokevirtual 174, 3) := by decide +kernel
theorem dX12_fits_12 : decode cX12_fits 12 = .ok (.ifCond .eq 12, 3) := by decide +kernel
theorem dX12_fits_15 : decode cX12_fits 15 = .ok (.iload_n 3, 1) := by decide +kernel
theorem dX12_fits_16 : decode cX12_fits 16 = .ok (.iconst (-1), 1) := by decide +kernel
theorem dX12_fits_17 : decode cX12_fits 17 = .ok (.if_icmp .eq 7, 3) := by decide +kernel
theorem dX12_fits_20 : decode cX12_fits 20 = .ok (.iconst 1, 1) := by decide +kernel
theorem dX12_fits_21 : decode cX12_fits 21 = .ok (.goto 4, 3) := by decide +kernel
theorem dX12_fits_24 : decode cX12_fits 24 = .ok (.iconst 0, 1) := by decide +kernel
theorem dX12_fits_25 : decode cX12_fits 25 = .ok (.invokevirtual 161, 3) := by decide +kernel
theorem dX12_fits_28 : decode cX12_fits 28 = .ok (.ifCond .eq 16, 3) := by decide +kernel
theorem dX12_fits_31 : decode cX12_fits 31 = .ok (.aload_n 0, 1) := by decide +kernel
theorem dX12_fits_32 : decode cX12_fits 32 = .ok (.iload_n 1, 1) := by decide +kernel
theorem dX12_fits_33 : decode cX12_fits 33 = .ok (.iload_n 3, 1) := by decide +kernel
theorem dX12_fits_34 : decode cX12_fits 34 = .ok (.invokevirtual 197, 3) := by decide +kernel
theorem dX12_fits_37 : decode cX12_fits 37 = .ok (.ifCond .eq 7, 3) := by decide +kernel
theorem dX12_fits_40 : decode cX12_fits 40 = .ok (.iconst 1, 1) := by decide +kernel
theorem dX12_fits_41 : decode cX12_fits 41 = .ok (.goto 4, 3) := by decide +kernel
theorem dX12_fits_44 : decode cX12_fits 44 = .ok (.iconst 0, 1) := by decide +kernel
theorem dX12_fits_45 : decode cX12_fits 45 = .ok (.ireturn, 1) := by decide +kernel
theorem dX12_weight_0 : decode cX12_weight 0 = .ok (.aload_n 0, 1) := by decide +kernel
theorem dX12_weight_1 : decode cX12_weight 1 = .ok (.aload_n 0, 1) := by decide +kernel
theorem dX12_weight_2 : decode cX12_weight 2 = .ok (.iload_n 1, 1) := by decide +kernel
theorem dX12_weight_3 : decode cX12_weight 3 = .ok (.invokevirtual 174, 3) := by decide +kernel
theorem dX12_weight_6 : decode cX12_weight 6 = .ok (.invokevirtual 161, 3) := by decide +kernel
theorem dX12_weight_9 : decode cX12_weight 9 = .ok (.ifCond .eq 11, 3) := by decide +kernel
theorem dX12_weight_12 : decode cX12_weight 12 = .ok (.aload_n 0, 1) := by decide +kernel
theorem dX12_weight_13 : decode cX12_weight 13 = .ok (.iload_n 1, 1) := by decide +kernel
theorem dX12_weight_14 : decode cX12_weight 14 = .ok (.invokevirtual 178, 3) := by decide +kernel
theorem dX12_weight_17 : decode cX12_weight 17 = .ok (.goto 4, 3) := by decide +kernel
theorem dX12_weight_20 : decode cX12_weight 20 = .ok (.iconst 0, 1) := by decide +kernel
theorem dX12_weight_21 : decode cX12_weight 21 = .ok (.ireturn, 1) := by decide +kernel
theorem dX12_isThere_0 : decode cX12_isThere 0 = .ok (.aload_n 0, 1) := by decide +kernel
theorem dX12_isThere_1 : decode cX12_isThere 1 = .ok (.iload_n 1, 1) := by decide +kernel
theorem dX12_isThere_2 : decode cX12_isThere 2 = .ok (.iload_n 2, 1) := by decide +kernel
theorem dX12_isThere_3 : decode cX12_isThere 3 = .ok (.invokevirtual 197, 3) := by decide +kernel
theorem dX12_isThere_6 : decode cX12_isThere 6 = .ok (.ifCond .ne 5, 3) := by decide +kernel
theorem dX12_isThere_9 : decode cX12_isThere 9 = .ok (.iconst 0, 1) := by decide +kernel
theorem dX12_isThere_10 : decode cX12_isThere 10 = .ok (.ireturn, 1) := by decide +kernel
theorem dX12_isThere_11 : decode cX12_isThere 11 = .ok (.aload_n 0, 1) := by decide +kernel
theorem dX12_isThere_12 : decode cX12_isThere 12 = .ok (.getfield 63, 3) := by decide +kernel
theorem dX12_isThere_15 : decode cX12_isThere 15 = .ok (.iload_n 1, 1) := by decide +kernel
theorem dX12_isThere_16 : decode cX12_isThere 16 = .ok (.iaload, 1) := by decide +kernel
theorem dX12_isThere_17 : decode cX12_isThere 17 = .ok (.iconst (-1), 1) := by decide +kernel
theorem dX12_isThere_18 : decode cX12_isThere 18 = .ok (.if_icmp .ne 5, 3) := by decide +kernel
theorem dX12_isThere_21 : decode cX12_isThere 21 = .ok (.iconst 1, 1) := by decide +kernel
theorem dX12_isThere_22 : decode cX12_isThere 22 = .ok (.ireturn, 1) := by decide +kernel
theorem dX12_isThere_23 : decode cX12_isThere 23 = .ok (.aload_n 0, 1) := by decide +kernel
theorem dX12_isThere_24 : decode cX12_isThere 24 = .ok (.getfield 23, 3) := by decide +kernel
theorem dX12_isThere_27 : decode cX12_isThere 27 = .ok (.iload_n 2, 1) := by decide +kernel
theorem dX12_isThere_28 : decode cX12_isThere 28 = .ok (.iaload, 1) := by decide +kernel
theorem dX12_isThere_29 : decode cX12_isThere 29 = .ok (.istore_n 3, 1) := by decide +kernel
theorem dX12_isThere_30 : decode cX12_isThere 30 = .ok (.iload_n 3, 1) := by decide +kernel
theorem dX12_isThere_31 : decode cX12_isThere 31 = .ok (.iconst (-1), 1) := by decide +kernel
theorem dX12_isThere_32 : decode cX12_isThere 32 = .ok (.if_icmp .eq 22, 3) := by decide +kernel
theorem dX12_isThere_35 : decode cX12_isThere 35 = .ok (.aload_n 0, 1) := by decide +kernel
theorem dX12_isThere_36 : decode cX12_isThere 36 = .ok (.getfield 35, 3) := by decide +kernel
theorem dX12_isThere_39 : decode cX12_isThere 39 = .ok (.iload_n 3, 1) := by decide +kernel
theorem dX12_isThere_40 : decode cX12_isThere 40 = .ok (.baload, 1) := by decide +kernel
theorem dX12_isThere_41 : decode cX12_isThere 41 = .ok (.ifCond .ne 13, 3) := by decide +kernel
theorem dX12_isThere_44 : decode cX12_isThere 44 = .ok (.aload_n 0, 1) := by decide +kernel
theorem dX12_isThere_45 : decode cX12_isThere 45 = .ok (.getfield 23, 3) := by decide +kernel
theorem dX12_isThere_48 : decode cX12_isThere 48 = .ok (.iload_n 3, 1) := by decide +kernel
theorem dX12_isThere_49 : decode cX12_isThere 49 = .ok (.iaload, 1) := by decide +kernel
theorem dX12_isThere_50 : decode cX12_isThere 50 = .ok (.istore_n 3, 1) := by decide +kernel
theorem dX12_isThere_51 : decode cX12_isThere 51 = .ok (.goto (-21), 3) := by decide +kernel
theorem dX12_isThere_54 : decode cX12_isThere 54 = .ok (.iload_n 3, 1) := by decide +kernel
theorem dX12_isThere_55 : decode cX12_isThere 55 = .ok (.iconst (-1), 1) := by decide +kernel
theorem dX12_isThere_56 : decode cX12_isThere 56 = .ok (.if_icmp .eq 39, 3) := by decide +kernel
theorem dX12_isThere_59 : decode cX12_isThere 59 = .ok (.aload_n 0, 1) := by decide +kernel
theorem dX12_isThere_60 : decode cX12_isThere 60 = .ok (.getfield 90, 3) := by decide +kernel
theorem dX12_isThere_63 : decode cX12_isThere 63 = .ok (.iload_n 3, 1) := by decide +kernel
theorem dX12_isThere_64 : decode cX12_isThere 64 = .ok (.baload, 1) := by decide +kernel
theorem dX12_isThere_65 : decode cX12_isThere 65 = .ok (.ifCond .eq 16, 3) := by decide +kernel
theorem dX12_isThere_68 : decode cX12_isThere 68 = .ok (.aload_n 0, 1) := by decide +kernel
theorem dX12_isThere_69 : decode cX12_isThere 69 = .ok (.getfield 81, 3) := by decide +kernel
theorem dX12_isThere_72 : decode cX12_isThere 72 = .ok (.iconst 4, 1) := by decide +kernel
theorem dX12_isThere_73 : decode cX12_isThere 73 = .ok (.iload_n 3, 1) := by decide +kernel
theorem dX12_isThere_74 : decode cX12_isThere 74 = .ok (.imul, 1) := by decide +kernel
theorem dX12_isThere_75 : decode cX12_isThere 75 = .ok (.iconst 2, 1) := by decide +kernel
theorem dX12_isThere_76 : decode cX12_isThere 76 = .ok (.iadd, 1) := by decide +kernel
theorem dX12_isThere_77 : decode cX12_isThere 77 = .ok (.iaload, 1) := by decide +kernel
theorem dX12_isThere_78 : decode cX12_isThere 78 = .ok (.goto 4, 3) := by decide +kernel
theorem dX12_isThere_81 : decode cX12_isThere 81 = .ok (.iconst 0, 1) := by decide +kernel
theorem dX12_isThere_82 : decode cX12_isThere 82 = .ok (.aload_n 0, 1) := by decide +kernel
theorem dX12_isThere_83 : decode cX12_isThere 83 = .ok (.getfield 63, 3) := by decide +kernel
theorem dX12_isThere_86 : decode cX12_isThere 86 = .ok (.iload_n 1, 1) := by decide +kernel
theorem dX12_isThere_87 : decode cX12_isThere 87 = .ok (.iaload, 1) := by decide +kernel
theorem dX12_isThere_88 : decode cX12_isThere 88 = .ok (.if_icmp .lt 7, 3) := by decide +kernel
theorem dX12_isThere_91 : decode cX12_isThere 91 = .ok (.iconst 1, 1) := by decide +kernel
theorem dX12_isThere_92 : decode cX12_isThere 92 = .ok (.goto 4, 3) := by decide +kernel
theorem dX12_isThere_95 : decode cX12_isThere 95 = .ok (.iconst 0, 1) := by decide +kernel
theorem dX12_isThere_96 : decode cX12_isThere 96 = .ok (.ireturn, 1) := by decide +kernel
theorem dX12_isStronger_0 : decode cX12_isStronger 0 = .ok (.aload_n 0, 1) := by decide +kernel
theorem dX12_isStronger_1 : decode cX12_isStronger 1 = .ok (.getfield 60, 3) := by decide +kernel
theorem dX12_isStronger_4 : decode cX12_isStronger 4 = .ok (.iload_n 1, 1) := by decide +kernel
theorem dX12_isStronger_5 : decode cX12_isStronger 5 = .ok (.baload, 1) := by decide +kernel
theorem dX12_isStronger_6 : decode cX12_isStronger 6 = .ok (.aload_n 0, 1) := by decide +kernel
theorem dX12_isStronger_7 : decode cX12_isStronger 7 = .ok (.getfield 60, 3) := by decide +kernel
theorem dX12_isStronger_10 : decode cX12_isStronger 10 = .ok (.iload_n 2, 1) := by decide +kernel
theorem dX12_isStronger_11 : decode cX12_isStronger 11 = .ok (.baload, 1) := by decide +kernel
theorem dX12_isStronger_12 : decode cX12_isStronger 12 = .ok (.if_icmp .eq 10, 3) := by decide +kernel
theorem dX12_isStronger_15 : decode cX12_isStronger 15 = .ok (.aload_n 0, 1) := by decide +kernel
theorem dX12_isStronger_16 : decode cX12_isStronger 16 = .ok (.getfield 60, 3) := by decide +kernel
theorem dX12_isStronger_19 : decode cX12_isStronger 19 = .ok (.iload_n 1, 1) := by decide +kernel
theorem dX12_isStronger_20 : decode cX12_isStronger 20 = .ok (.baload, 1) := by decide +kernel
theorem dX12_isStronger_21 : decode cX12_isStronger 21 = .ok (.ireturn, 1) := by decide +kernel
theorem dX12_isStronger_22 : decode cX12_isStronger 22 = .ok (.aload_n 0, 1) := by decide +kernel
theorem dX12_isStronger_23 : decode cX12_isStronger 23 = .ok (.getfield 54, 3) := by decide +kernel
theorem dX12_isStronger_26 : decode cX12_isStronger 26 = .ok (.iload_n 1, 1) := by decide +kernel
theorem dX12_isStronger_27 : decode cX12_isStronger 27 = .ok (.iaload, 1) := by decide +kernel
theorem dX12_isStronger_28 : decode cX12_isStronger 28 = .ok (.aload_n 0, 1) := by decide +kernel
theorem dX12_isStronger_29 : decode cX12_isStronger 29 = .ok (.getfield 54, 3) := by decide +kernel
theorem dX12_isStronger_32 : decode cX12_isStronger 32 = .ok (.iload_n 2, 1) := by decide +kernel
theorem dX12_isStronger_33 : decode cX12_isStronger 33 = .ok (.iaload, 1) := by decide +kernel
theorem dX12_isStronger_34 : decode cX12_isStronger 34 = .ok (.if_icmp .eq 32, 3) := by decide +kernel
theorem dX12_isStronger_37 : decode cX12_isStronger 37 = .ok (.aload_n 0, 1) := by decide +kernel
theorem dX12_isStronger_38 : decode cX12_isStronger 38 = .ok (.getfield 54, 3) := by decide +kernel
theorem dX12_isStronger_41 : decode cX12_isStronger 41 = .ok (.iload_n 1, 1) := by decide +kernel
theorem dX12_isStronger_42 : decode cX12_isStronger 42 = .ok (.iaload, 1) := by decide +kernel
theorem dX12_isStronger_43 : decode cX12_isStronger 43 = .ok (.aload_n 0, 1) := by decide +kernel
theorem dX12_isStronger_44 : decode cX12_isStronger 44 = .ok (.getfield 60, 3) := by decide +kernel
theorem dX12_isStronger_47 : decode cX12_isStronger 47 = .ok (.iload_n 1, 1) := by decide +kernel
theorem dX12_isStronger_48 : decode cX12_isStronger 48 = .ok (.baload, 1) := by decide +kernel
theorem dX12_isStronger_49 : decode cX12_isStronger 49 = .ok (.ifCond .eq 7, 3) := by decide +kernel
theorem dX12_isStronger_52 : decode cX12_isStronger 52 = .ok (.iconst 0, 1) := by decide +kernel
theorem dX12_isStronger_53 : decode cX12_isStronger 53 = .ok (.goto 4, 3) := by decide +kernel
theorem dX12_isStronger_56 : decode cX12_isStronger 56 = .ok (.iconst 1, 1) := by decide +kernel
theorem dX12_isStronger_57 : decode cX12_isStronger 57 = .ok (.if_icmp .ne 7, 3) := by decide +kernel
theorem dX12_isStronger_60 : decode cX12_isStronger 60 = .ok (.iconst 1, 1) := by decide +kernel
theorem dX12_isStronger_61 : decode cX12_isStronger 61 = .ok (.goto 4, 3) := by decide +kernel
theorem dX12_isStronger_64 : decode cX12_isStronger 64 = .ok (.iconst 0, 1) := by decide +kernel
theorem dX12_isStronger_65 : decode cX12_isStronger 65 = .ok (.ireturn, 1) := by decide +kernel
theorem dX12_isStronger_66 : decode cX12_isStronger 66 = .ok (.aload_n 0, 1) := by decide +kernel
theorem dX12_isStronger_67 : decode cX12_isStronger 67 = .ok (.getfield 57, 3) := by decide +kernel
theorem dX12_isStronger_70 : decode cX12_isStronger 70 = .ok (.iload_n 1, 1) := by decide +kernel
theorem dX12_isStronger_71 : decode cX12_isStronger 71 = .ok (.iaload, 1) := by decide +kernel
theorem dX12_isStronger_72 : decode cX12_isStronger 72 = .ok (.aload_n 0, 1) := by decide +kernel
theorem dX12_isStronger_73 : decode cX12_isStronger 73 = .ok (.getfield 57, 3) := by decide +kernel
theorem dX12_isStronger_76 : decode cX12_isStronger 76 = .ok (.iload_n 2, 1) := by decide +kernel
theorem dX12_isStronger_77 : decode cX12_isStronger 77 = .ok (.iaload, 1) := by decide +kernel
theorem dX12_isStronger_78 : decode cX12_isStronger 78 = .ok (.if_icmp .eq 38, 3) := by decide +kernel
theorem dX12_isStronger_81 : decode cX12_isStronger 81 = .ok (.aload_n 0, 1) := by decide +kernel
theorem dX12_isStronger_82 : decode cX12_isStronger 82 = .ok (.getfield 57, 3) := by decide +kernel
theorem dX12_isStronger_85 : decode cX12_isStronger 85 = .ok (.iload_n 1, 1) := by decide +kernel
theorem dX12_isStronger_86 : decode cX12_isStronger 86 = .ok (.iaload, 1) := by decide +kernel
theorem dX12_isStronger_87 : decode cX12_isStronger 87 = .ok (.aload_n 0, 1) := by decide +kernel
theorem dX12_isStronger_88 : decode cX12_isStronger 88 = .ok (.getfield 57, 3) := by decide +kernel
theorem dX12_isStronger_91 : decode cX12_isStronger 91 = .ok (.iload_n 2, 1) := by decide +kernel
theorem dX12_isStronger_92 : decode cX12_isStronger 92 = .ok (.iaload, 1) := by decide +kernel
theorem dX12_isStronger_93 : decode cX12_isStronger 93 = .ok (.if_icmp .le 7, 3) := by decide +kernel
theorem dX12_isStronger_96 : decode cX12_isStronger 96 = .ok (.iconst 1, 1) := by decide +kernel
theorem dX12_isStronger_97 : decode cX12_isStronger 97 = .ok (.goto 4, 3) := by decide +kernel
theorem dX12_isStronger_100 : decode cX12_isStronger 100 = .ok (.iconst 0, 1) := by decide +kernel
theorem dX12_isStronger_101 : decode cX12_isStronger 101 = .ok (.aload_n 0, 1) := by decide +kernel
theorem dX12_isStronger_102 : decode cX12_isStronger 102 = .ok (.getfield 60, 3) := by decide +kernel
theorem dX12_isStronger_105 : decode cX12_isStronger 105 = .ok (.iload_n 1, 1) := by decide +kernel
theorem dX12_isStronger_106 : decode cX12_isStronger 106 = .ok (.baload, 1) := by decide +kernel
theorem dX12_isStronger_107 : decode cX12_isStronger 107 = .ok (.if_icmp .eq 7, 3) := by decide +kernel
theorem dX12_isStronger_110 : decode cX12_isStronger 110 = .ok (.iconst 1, 1) := by decide +kernel
theorem dX12_isStronger_111 : decode cX12_isStronger 111 = .ok (.goto 4, 3) := by decide +kernel
theorem dX12_isStronger_114 : decode cX12_isStronger 114 = .ok (.iconst 0, 1) := by decide +kernel
theorem dX12_isStronger_115 : decode cX12_isStronger 115 = .ok (.ireturn, 1) := by decide +kernel
theorem dX12_isStronger_116 : decode cX12_isStronger 116 = .ok (.aload_n 0, 1) := by decide +kernel
theorem dX12_isStronger_117 : decode cX12_isStronger 117 = .ok (.iload_n 1, 1) := by decide +kernel
theorem dX12_isStronger_118 : decode cX12_isStronger 118 = .ok (.invokevirtual 178, 3) := by decide +kernel
theorem dX12_isStronger_121 : decode cX12_isStronger 121 = .ok (.aload_n 0, 1) := by decide +kernel
theorem dX12_isStronger_122 : decode cX12_isStronger 122 = .ok (.iload_n 2, 1) := by decide +kernel
theorem dX12_isStronger_123 : decode cX12_isStronger 123 = .ok (.invokevirtual 178, 3) := by decide +kernel
theorem dX12_isStronger_126 : decode cX12_isStronger 126 = .ok (.isub, 1) := by decide +kernel
theorem dX12_isStronger_127 : decode cX12_isStronger 127 = .ok (.istore_n 3, 1) := by decide +kernel
theorem dX12_isStronger_128 : decode cX12_isStronger 128 = .ok (.iload_n 3, 1) := by decide +kernel
theorem dX12_isStronger_129 : decode cX12_isStronger 129 = .ok (.ifCond .gt 12, 3) := by decide +kernel
theorem dX12_isStronger_132 : decode cX12_isStronger 132 = .ok (.iload_n 3, 1) := by decide +kernel
theorem dX12_isStronger_133 : decode cX12_isStronger 133 = .ok (.ifCond .ne 12, 3) := by decide +kernel
theorem dX12_isStronger_136 : decode cX12_isStronger 136 = .ok (.iload_n 1, 1) := by decide +kernel
theorem dX12_isStronger_137 : decode cX12_isStronger 137 = .ok (.iload_n 2, 1) := by decide +kernel
theorem dX12_isStronger_138 : decode cX12_isStronger 138 = .ok (.if_icmp .le 7, 3) := by decide +kernel
theorem dX12_isStronger_141 : decode cX12_isStronger 141 = .ok (.iconst 1, 1) := by decide +kernel
theorem dX12_isStronger_142 : decode cX12_isStronger 142 = .ok (.goto 4, 3) := by decide +kernel
theorem dX12_isStronger_145 : decode cX12_isStronger 145 = .ok (.iconst 0, 1) := by decide +kernel
theorem dX12_isStronger_146 : decode cX12_isStronger 146 = .ok (.ireturn, 1) := by decide +kernel
theorem dX12_initial_0 : decode cX12_initial 0 = .ok (.iload_n 0, 1) := by decide +kernel
theorem dX12_initial_1 : decode cX12_initial 1 = .ok (.iconst 2, 1) := by decide +kernel
theorem dX12_initial_2 : decode cX12_initial 2 = .ok (.if_icmp .gt 8, 3) := by decide +kernel
theorem dX12_initial_5 : decode cX12_initial 5 = .ok (.bipush (-2), 2) := by decide +kernel
theorem dX12_initial_7 : decode cX12_initial 7 = .ok (.goto 30, 3) := by decide +kernel
theorem dX12_initial_10 : decode cX12_initial 10 = .ok (.iload_n 0, 1) := by decide +kernel
theorem dX12_initial_11 : decode cX12_initial 11 = .ok (.bipush 7, 2) := by decide +kernel
theorem dX12_initial_13 : decode cX12_initial 13 = .ok (.if_icmp .eq 9, 3) := by decide +kernel
theorem dX12_initial_16 : decode cX12_initial 16 = .ok (.iload_n 0, 1) := by decide +kernel
theorem dX12_initial_17 : decode cX12_initial 17 = .ok (.bipush 9, 2) := by decide +kernel
theorem dX12_initial_19 : decode cX12_initial 19 = .ok (.if_icmp .ne 7, 3) := by decide +kernel
theorem dX12_initial_22 : decode cX12_initial 22 = .ok (.iconst 1, 1) := by decide +kernel
theorem dX12_initial_23 : decode cX12_initial 23 = .ok (.goto 14, 3) := by decide +kernel
theorem dX12_initial_26 : decode cX12_initial 26 = .ok (.iload_n 0, 1) := by decide +kernel
theorem dX12_initial_27 : decode cX12_initial 27 = .ok (.bipush 10, 2) := by decide +kernel
theorem dX12_initial_29 : decode cX12_initial 29 = .ok (.if_icmp .lt 7, 3) := by decide +kernel
theorem dX12_initial_32 : decode cX12_initial 32 = .ok (.iconst (-1), 1) := by decide +kernel
theorem dX12_initial_33 : decode cX12_initial 33 = .ok (.goto 4, 3) := by decide +kernel
theorem dX12_initial_36 : decode cX12_initial 36 = .ok (.iconst 0, 1) := by decide +kernel
theorem dX12_initial_37 : decode cX12_initial 37 = .ok (.ireturn, 1) := by decide +kernel
theorem dX12_tells_0 : decode cX12_tells 0 = .ok (.iconst (-1), 1) := by decide +kernel
theorem dX12_tells_1 : decode cX12_tells 1 = .ok (.istore_n 3, 1) := by decide +kernel
theorem dX12_tells_2 : decode cX12_tells 2 = .ok (.iconst 1, 1) := by decide +kernel
theorem dX12_tells_3 : decode cX12_tells 3 = .ok (.istore 4, 2) := by decide +kernel
theorem dX12_tells_5 : decode cX12_tells 5 = .ok (.iload 4, 2) := by decide +kernel
theorem dX12_tells_7 : decode cX12_tells 7 = .ok (.ifCond .eq 222, 3) := by decide +kernel
theorem dX12_tells_10 : decode cX12_tells 10 = .ok (.iconst (-1), 1) := by decide +kernel
theorem dX12_tells_11 : decode cX12_tells 11 = .ok (.istore 5, 2) := by decide +kernel
theorem dX12_tells_13 : decode cX12_tells 13 = .ok (.iconst 0, 1) := by decide +kernel
theorem dX12_tells_14 : decode cX12_tells 14 = .ok (.istore 6, 2) := by decide +kernel
theorem dX12_tells_16 : decode cX12_tells 16 = .ok (.iload 6, 2) := by decide +kernel
theorem dX12_tells_18 : decode cX12_tells 18 = .ok (.aload_n 0, 1) := by decide +kernel
theorem dX12_tells_19 : decode cX12_tells 19 = .ok (.getfield 126, 3) := by decide +kernel
theorem dX12_tells_22 : decode cX12_tells 22 = .ok (.if_icmp .ge 147, 3) := by decide +kernel
theorem dX12_tells_25 : decode cX12_tells 25 = .ok (.aload_n 0, 1) := by decide +kernel
theorem dX12_tells_26 : decode cX12_tells 26 = .ok (.getfield 66, 3) := by decide +kernel
theorem dX12_tells_29 : decode cX12_tells 29 = .ok (.bipush 14, 2) := by decide +kernel
theorem dX12_tells_31 : decode cX12_tells 31 = .ok (.iload 6, 2) := by decide +kernel
theorem dX12_tells_33 : decode cX12_tells 33 = .ok (.imul, 1) := by decide +kernel
theorem dX12_tells_34 : decode cX12_tells 34 = .ok (.iload_n 2, 1) := by decide +kernel
theorem dX12_tells_35 : decode cX12_tells 35 = .ok (.iadd, 1) := by decide +kernel
theorem dX12_tells_36 : decode cX12_tells 36 = .ok (.iaload, 1) := by decide +kernel
theorem dX12_tells_37 : decode cX12_tells 37 = .ok (.ifCond .eq 17, 3) := by decide +kernel
theorem dX12_tells_40 : decode cX12_tells 40 = .ok (.aload_n 0, 1) := by decide +kernel
theorem dX12_tells_41 : decode cX12_tells 41 = .ok (.getfield 108, 3) := by decide +kernel
theorem dX12_tells_44 : decode cX12_tells 44 = .ok (.iload 6, 2) := by decide +kernel
theorem dX12_tells_46 : decode cX12_tells 46 = .ok (.baload, 1) := by decide +kernel
theorem dX12_tells_47 : decode cX12_tells 47 = .ok (.ifCond .eq 7, 3) := by decide +kernel
theorem dX12_tells_50 : decode cX12_tells 50 = .ok (.iconst 1, 1) := by decide +kernel
theorem dX12_tells_51 : decode cX12_tells 51 = .ok (.goto 4, 3) := by decide +kernel
theorem dX12_tells_54 : decode cX12_tells 54 = .ok (.iconst 0, 1) := by decide +kernel
theorem dX12_tells_55 : decode cX12_tells 55 = .ok (.istore 7, 2) := by decide +kernel
theorem dX12_tells_57 : decode cX12_tells 57 = .ok (.iload_n 3, 1) := by decide +kernel
theorem dX12_tells_58 : decode cX12_tells 58 = .ok (.iconst (-1), 1) := by decide +kernel
theorem dX12_tells_59 : decode cX12_tells 59 = .ok (.if_icmp .eq 61, 3) := by decide +kernel
theorem dX12_tells_62 : decode cX12_tells 62 = .ok (.aload_n 0, 1) := by decide +kernel
theorem dX12_tells_63 : decode cX12_tells 63 = .ok (.iload_n 3, 1) := by decide +kernel
theorem dX12_tells_64 : decode cX12_tells 64 = .ok (.iload 6, 2) := by decide +kernel
theorem dX12_tells_66 : decode cX12_tells 66 = .ok (.invokevirtual 200, 3) := by decide +kernel
theorem dX12_tells_69 : decode cX12_tells 69 = .ok (.ifCond .eq 55, 3) := by decide +kernel
theorem dX12_tells_72 : decode cX12_tells 72 = .ok (.aload_n 0, 1) := by decide +kernel
theorem dX12_tells_73 : decode cX12_tells 73 = .ok (.getfield 54, 3) := by decide +kernel
theorem dX12_tells_76 : decode cX12_tells 76 = .ok (.iload_n 3, 1) := by decide +kernel
theorem dX12_tells_77 : decode cX12_tells 77 = .ok (.iaload, 1) := by decide +kernel
theorem dX12_tells_78 : decode cX12_tells 78 = .ok (.aload_n 0, 1) := by decide +kernel
theorem dX12_tells_79 : decode cX12_tells 79 = .ok (.getfield 54, 3) := by decide +kernel
theorem dX12_tells_82 : decode cX12_tells 82 = .ok (.iload 6, 2) := by decide +kernel
theorem dX12_tells_84 : decode cX12_tells 84 = .ok (.iaload, 1) := by decide +kernel
theorem dX12_tells_85 : decode cX12_tells 85 = .ok (.if_icmp .ne 35, 3) := by decide +kernel
theorem dX12_tells_88 : decode cX12_tells 88 = .ok (.aload_n 0, 1) := by decide +kernel
theorem dX12_tells_89 : decode cX12_tells 89 = .ok (.getfield 57, 3) := by decide +kernel
theorem dX12_tells_92 : decode cX12_tells 92 = .ok (.iload_n 3, 1) := by decide +kernel
theorem dX12_tells_93 : decode cX12_tells 93 = .ok (.iaload, 1) := by decide +kernel
theorem dX12_tells_94 : decode cX12_tells 94 = .ok (.aload_n 0, 1) := by decide +kernel
theorem dX12_tells_95 : decode cX12_tells 95 = .ok (.getfield 57, 3) := by decide +kernel
theorem dX12_tells_98 : decode cX12_tells 98 = .ok (.iload 6, 2) := by decide +kernel
theorem dX12_tells_100 : decode cX12_tells 100 = .ok (.iaload, 1) := by decide +kernel
theorem dX12_tells_101 : decode cX12_tells 101 = .ok (.if_icmp .ne 19, 3) := by decide +kernel
theorem dX12_tells_104 : decode cX12_tells 104 = .ok (.aload_n 0, 1) := by decide +kernel
theorem dX12_tells_105 : decode cX12_tells 105 = .ok (.getfield 60, 3) := by decide +kernel
theorem dX12_tells_108 : decode cX12_tells 108 = .ok (.iload_n 3, 1) := by decide +kernel
theorem dX12_tells_109 : decode cX12_tells 109 = .ok (.baload, 1) := by decide +kernel
theorem dX12_tells_110 : decode cX12_tells 110 = .ok (.aload_n 0, 1) := by decide +kernel
theorem dX12_tells_111 : decode cX12_tells 111 = .ok (.getfield 60, 3) := by decide +kernel
theorem dX12_tells_114 : decode cX12_tells 114 = .ok (.iload 6, 2) := by decide +kernel
theorem dX12_tells_116 : decode cX12_tells 116 = .ok (.baload, 1) := by decide +kernel
theorem dX12_tells_117 : decode cX12_tells 117 = .ok (.if_icmp .eq 7, 3) := by decide +kernel
theorem dX12_tells_120 : decode cX12_tells 120 = .ok (.iconst 1, 1) := by decide +kernel
theorem dX12_tells_121 : decode cX12_tells 121 = .ok (.goto 4, 3) := by decide +kernel
theorem dX12_tells_124 : decode cX12_tells 124 = .ok (.iconst 0, 1) := by decide +kernel
theorem dX12_tells_125 : decode cX12_tells 125 = .ok (.istore 8, 2) := by decide +kernel
theorem dX12_tells_127 : decode cX12_tells 127 = .ok (.iload 7, 2) := by decide +kernel
theorem dX12_tells_129 : decode cX12_tells 129 = .ok (.ifCond .eq 30, 3) := by decide +kernel
theorem dX12_tells_132 : decode cX12_tells 132 = .ok (.iload 8, 2) := by decide +kernel
theorem dX12_tells_134 : decode cX12_tells 134 = .ok (.ifCond .eq 25, 3) := by decide +kernel
theorem dX12_tells_137 : decode cX12_tells 137 = .ok (.iload 5, 2) := by decide +kernel
theorem dX12_tells_139 : decode cX12_tells 139 = .ok (.iconst (-1), 1) := by decide +kernel
theorem dX12_tells_140 : decode cX12_tells 140 = .ok (.if_icmp .eq 14, 3) := by decide +kernel
theorem dX12_tells_143 : decode cX12_tells 143 = .ok (.aload_n 0, 1) := by decide +kernel
theorem dX12_tells_144 : decode cX12_tells 144 = .ok (.iload 6, 2) := by decide +kernel
theorem dX12_tells_146 : decode cX12_tells 146 = .ok (.iload 5, 2) := by decide +kernel
theorem dX12_tells_148 : decode cX12_tells 148 = .ok (.invokevirtual 200, 3) := by decide +kernel
theorem dX12_tells_151 : decode cX12_tells 151 = .ok (.ifCond .eq 8, 3) := by decide +kernel
theorem dX12_tells_154 : decode cX12_tells 154 = .ok (.iload 6, 2) := by decide +kernel
theorem dX12_tells_156 : decode cX12_tells 156 = .ok (.goto 5, 3) := by decide +kernel
theorem dX12_tells_159 : decode cX12_tells 159 = .ok (.iload 5, 2) := by decide +kernel
theorem dX12_tells_161 : decode cX12_tells 161 = .ok (.istore 5, 2) := by decide +kernel
theorem dX12_tells_163 : decode cX12_tells 163 = .ok (.iinc 6 1, 3) := by decide +kernel
theorem dX12_tells_166 : decode cX12_tells 166 = .ok (.goto (-150), 3) := by decide +kernel
theorem dX12_tells_169 : decode cX12_tells 169 = .ok (.iload 5, 2) := by decide +kernel
theorem dX12_tells_171 : decode cX12_tells 171 = .ok (.istore_n 3, 1) := by decide +kernel
theorem dX12_tells_172 : decode cX12_tells 172 = .ok (.bipush 14, 2) := by decide +kernel
theorem dX12_tells_174 : decode cX12_tells 174 = .ok (.iload 5, 2) := by decide +kernel
theorem dX12_tells_176 : decode cX12_tells 176 = .ok (.iconst (-1), 1) := by decide +kernel
theorem dX12_tells_177 : decode cX12_tells 177 = .ok (.if_icmp .ne 7, 3) := by decide +kernel
theorem dX12_tells_180 : decode cX12_tells 180 = .ok (.iconst 0, 1) := by decide +kernel
theorem dX12_tells_181 : decode cX12_tells 181 = .ok (.goto 5, 3) := by decide +kernel
theorem dX12_tells_184 : decode cX12_tells 184 = .ok (.iload 5, 2) := by decide +kernel
theorem dX12_tells_186 : decode cX12_tells 186 = .ok (.imul, 1) := by decide +kernel
theorem dX12_tells_187 : decode cX12_tells 187 = .ok (.iload_n 2, 1) := by decide +kernel
theorem dX12_tells_188 : decode cX12_tells 188 = .ok (.iadd, 1) := by decide +kernel
theorem dX12_tells_189 : decode cX12_tells 189 = .ok (.istore 6, 2) := by decide +kernel
theorem dX12_tells_191 : decode cX12_tells 191 = .ok (.iload 5, 2) := by decide +kernel
theorem dX12_tells_193 : decode cX12_tells 193 = .ok (.iconst (-1), 1) := by decide +kernel
theorem dX12_tells_194 : decode cX12_tells 194 = .ok (.if_icmp .eq 29, 3) := by decide +kernel
theorem dX12_tells_197 : decode cX12_tells 197 = .ok (.aload_n 0, 1) := by decide +kernel
theorem dX12_tells_198 : decode cX12_tells 198 = .ok (.getfield 66, 3) := by decide +kernel
theorem dX12_tells_201 : decode cX12_tells 201 = .ok (.iload 6, 2) := by decide +kernel
theorem dX12_tells_203 : decode cX12_tells 203 = .ok (.iaload, 1) := by decide +kernel
theorem dX12_tells_204 : decode cX12_tells 204 = .ok (.iconst 2, 1) := by decide +kernel
theorem dX12_tells_205 : decode cX12_tells 205 = .ok (.if_icmp .ne 18, 3) := by decide +kernel
theorem dX12_tells_208 : decode cX12_tells 208 = .ok (.aload_n 0, 1) := by decide +kernel
theorem dX12_tells_209 : decode cX12_tells 209 = .ok (.getfield 69, 3) := by decide +kernel
theorem dX12_tells_212 : decode cX12_tells 212 = .ok (.iload 6, 2) := by decide +kernel
theorem dX12_tells_214 : decode cX12_tells 214 = .ok (.iaload, 1) := by decide +kernel
theorem dX12_tells_215 : decode cX12_tells 215 = .ok (.iconst 3, 1) := by decide +kernel
theorem dX12_tells_216 : decode cX12_tells 216 = .ok (.if_icmp .ne 7, 3) := by decide +kernel
theorem dX12_tells_219 : decode cX12_tells 219 = .ok (.iconst 1, 1) := by decide +kernel
theorem dX12_tells_220 : decode cX12_tells 220 = .ok (.goto 4, 3) := by decide +kernel
theorem dX12_tells_223 : decode cX12_tells 223 = .ok (.iconst 0, 1) := by decide +kernel
theorem dX12_tells_224 : decode cX12_tells 224 = .ok (.istore 4, 2) := by decide +kernel
theorem dX12_tells_226 : decode cX12_tells 226 = .ok (.goto (-221), 3) := by decide +kernel
theorem dX12_tells_229 : decode cX12_tells 229 = .ok (.iload_n 3, 1) := by decide +kernel
theorem dX12_tells_230 : decode cX12_tells 230 = .ok (.ireturn, 1) := by decide +kernel
theorem dX12_unset_0 : decode cX12_unset 0 = .ok (.bipush 14, 2) := by decide +kernel
theorem dX12_unset_2 : decode cX12_unset 2 = .ok (.iload_n 1, 1) := by decide +kernel
theorem dX12_unset_3 : decode cX12_unset 3 = .ok (.imul, 1) := by decide +kernel
theorem dX12_unset_4 : decode cX12_unset 4 = .ok (.iload_n 2, 1) := by decide +kernel
theorem dX12_unset_5 : decode cX12_unset 5 = .ok (.iadd, 1) := by decide +kernel
theorem dX12_unset_6 : decode cX12_unset 6 = .ok (.istore 4, 2) := by decide +kernel
theorem dX12_unset_8 : decode cX12_unset 8 = .ok (.iload_n 3, 1) := by decide +kernel
theorem dX12_unset_9 : decode cX12_unset 9 = .ok (.ifCond .eq 14, 3) := by decide +kernel
theorem dX12_unset_12 : decode cX12_unset 12 = .ok (.iload_n 3, 1) := by decide +kernel
theorem dX12_unset_13 : decode cX12_unset 13 = .ok (.iconst 2, 1) := by decide +kernel
theorem dX12_unset_14 : decode cX12_unset 14 = .ok (.if_icmp .ne 13, 3) := by decide +kernel
theorem dX12_unset_17 : decode cX12_unset 17 = .ok (.iload_n 2, 1) := by decide +kernel
theorem dX12_unset_18 : decode cX12_unset 18 = .ok (.bipush 8, 2) := by decide +kernel
theorem dX12_unset_20 : decode cX12_unset 20 = .ok (.if_icmp .lt 7, 3) := by decide +kernel
theorem dX12_unset_23 : decode cX12_unset 23 = .ok (.iconst 1, 1) := by decide +kernel
theorem dX12_unset_24 : decode cX12_unset 24 = .ok (.goto 4, 3) := by decide +kernel
theorem dX12_unset_27 : decode cX12_unset 27 = .ok (.iconst 0, 1) := by decide +kernel
theorem dX12_unset_28 : decode cX12_unset 28 = .ok (.istore 5, 2) := by decide +kernel
theorem dX12_unset_30 : decode cX12_unset 30 = .ok (.iload 5, 2) := by decide +kernel
theorem dX12_unset_32 : decode cX12_unset 32 = .ok (.ifCond .eq 17, 3) := by decide +kernel
theorem dX12_unset_35 : decode cX12_unset 35 = .ok (.aload_n 0, 1) := by decide +kernel
theorem dX12_unset_36 : decode cX12_unset 36 = .ok (.getfield 23, 3) := by decide +kernel
theorem dX12_unset_39 : decode cX12_unset 39 = .ok (.iload_n 1, 1) := by decide +kernel
theorem dX12_unset_40 : decode cX12_unset 40 = .ok (.iaload, 1) := by decide +kernel
theorem dX12_unset_41 : decode cX12_unset 41 = .ok (.iconst (-1), 1) := by decide +kernel
theorem dX12_unset_42 : decode cX12_unset 42 = .ok (.if_icmp .eq 7, 3) := by decide +kernel
theorem dX12_unset_45 : decode cX12_unset 45 = .ok (.iconst 1, 1) := by decide +kernel
theorem dX12_unset_46 : decode cX12_unset 46 = .ok (.goto 4, 3) := by decide +kernel
theorem dX12_unset_49 : decode cX12_unset 49 = .ok (.iconst 0, 1) := by decide +kernel
theorem dX12_unset_50 : decode cX12_unset 50 = .ok (.istore 6, 2) := by decide +kernel
theorem dX12_unset_52 : decode cX12_unset 52 = .ok (.aload_n 0, 1) := by decide +kernel
theorem dX12_unset_53 : decode cX12_unset 53 = .ok (.getfield 75, 3) := by decide +kernel
theorem dX12_unset_56 : decode cX12_unset 56 = .ok (.iload 4, 2) := by decide +kernel
theorem dX12_unset_58 : decode cX12_unset 58 = .ok (.iload 6, 2) := by decide +kernel
theorem dX12_unset_60 : decode cX12_unset 60 = .ok (.ifCond .eq 22, 3) := by decide +kernel
theorem dX12_unset_63 : decode cX12_unset 63 = .ok (.aload_n 0, 1) := by decide +kernel
theorem dX12_unset_64 : decode cX12_unset 64 = .ok (.getfield 75, 3) := by decide +kernel
theorem dX12_unset_67 : decode cX12_unset 67 = .ok (.bipush 14, 2) := by decide +kernel
theorem dX12_unset_69 : decode cX12_unset 69 = .ok (.aload_n 0, 1) := by decide +kernel
theorem dX12_unset_70 : decode cX12_unset 70 = .ok (.getfield 23, 3) := by decide +kernel
theorem dX12_unset_73 : decode cX12_unset 73 = .ok (.iload_n 1, 1) := by decide +kernel
theorem dX12_unset_74 : decode cX12_unset 74 = .ok (.iaload, 1) := by decide +kernel
theorem dX12_unset_75 : decode cX12_unset 75 = .ok (.imul, 1) := by decide +kernel
theorem dX12_unset_76 : decode cX12_unset 76 = .ok (.iload_n 2, 1) := by decide +kernel
theorem dX12_unset_77 : decode cX12_unset 77 = .ok (.iadd, 1) := by decide +kernel
theorem dX12_unset_78 : decode cX12_unset 78 = .ok (.iaload, 1) := by decide +kernel
theorem dX12_unset_79 : decode cX12_unset 79 = .ok (.goto 7, 3) := by decide +kernel
theorem dX12_unset_82 : decode cX12_unset 82 = .ok (.iload_n 2, 1) := by decide +kernel
theorem dX12_unset_83 : decode cX12_unset 83 = .ok (.invokestatic 203, 3) := by decide +kernel
theorem dX12_unset_86 : decode cX12_unset 86 = .ok (.iastore, 1) := by decide +kernel
theorem dX12_unset_87 : decode cX12_unset 87 = .ok (.aload_n 0, 1) := by decide +kernel
theorem dX12_unset_88 : decode cX12_unset 88 = .ok (.getfield 78, 3) := by decide +kernel
theorem dX12_unset_91 : decode cX12_unset 91 = .ok (.iload 4, 2) := by decide +kernel
theorem dX12_unset_93 : decode cX12_unset 93 = .ok (.iload 6, 2) := by decide +kernel
theorem dX12_unset_95 : decode cX12_unset 95 = .ok (.ifCond .eq 22, 3) := by decide +kernel
theorem dX12_unset_98 : decode cX12_unset 98 = .ok (.aload_n 0, 1) := by decide +kernel
theorem dX12_unset_99 : decode cX12_unset 99 = .ok (.getfield 78, 3) := by decide +kernel
theorem dX12_unset_102 : decode cX12_unset 102 = .ok (.bipush 14, 2) := by decide +kernel
theorem dX12_unset_104 : decode cX12_unset 104 = .ok (.aload_n 0, 1) := by decide +kernel
theorem dX12_unset_105 : decode cX12_unset 105 = .ok (.getfield 23, 3) := by decide +kernel
theorem dX12_unset_108 : decode cX12_unset 108 = .ok (.iload_n 1, 1) := by decide +kernel
theorem dX12_unset_109 : decode cX12_unset 109 = .ok (.iaload, 1) := by decide +kernel
theorem dX12_unset_110 : decode cX12_unset 110 = .ok (.imul, 1) := by decide +kernel
theorem dX12_unset_111 : decode cX12_unset 111 = .ok (.iload_n 2, 1) := by decide +kernel
theorem dX12_unset_112 : decode cX12_unset 112 = .ok (.iadd, 1) := by decide +kernel
theorem dX12_unset_113 : decode cX12_unset 113 = .ok (.iaload, 1) := by decide +kernel
theorem dX12_unset_114 : decode cX12_unset 114 = .ok (.goto 4, 3) := by decide +kernel
theorem dX12_unset_117 : decode cX12_unset 117 = .ok (.iconst (-1), 1) := by decide +kernel
theorem dX12_unset_118 : decode cX12_unset 118 = .ok (.iastore, 1) := by decide +kernel
theorem dX12_unset_119 : decode cX12_unset 119 = .ok (.return_, 1) := by decide +kernel
theorem dX12_takesValue_0 : decode cX12_takesValue 0 = .ok (.bipush 14, 2) := by decide +kernel
theorem dX12_takesValue_2 : decode cX12_takesValue 2 = .ok (.iload_n 1, 1) := by decide +kernel
theorem dX12_takesValue_3 : decode cX12_takesValue 3 = .ok (.imul, 1) := by decide +kernel
theorem dX12_takesValue_4 : decode cX12_takesValue 4 = .ok (.iload_n 2, 1) := by decide +kernel
theorem dX12_takesValue_5 : decode cX12_takesValue 5 = .ok (.iadd, 1) := by decide +kernel
theorem dX12_takesValue_6 : decode cX12_takesValue 6 = .ok (.istore 4, 2) := by decide +kernel
theorem dX12_takesValue_8 : decode cX12_takesValue 8 = .ok (.bipush 14, 2) := by decide +kernel
theorem dX12_takesValue_10 : decode cX12_takesValue 10 = .ok (.iload_n 3, 1) := by decide +kernel
theorem dX12_takesValue_11 : decode cX12_takesValue 11 = .ok (.iconst (-1), 1) := by decide +kernel
theorem dX12_takesValue_12 : decode cX12_takesValue 12 = .ok (.if_icmp .ne 7, 3) := by decide +kernel
theorem dX12_takesValue_15 : decode cX12_takesValue 15 = .ok (.iconst 0, 1) := by decide +kernel
theorem dX12_takesValue_16 : decode cX12_takesValue 16 = .ok (.goto 4, 3) := by decide +kernel
theorem dX12_takesValue_19 : decode cX12_takesValue 19 = .ok (.iload_n 3, 1) := by decide +kernel
theorem dX12_takesValue_20 : decode cX12_takesValue 20 = .ok (.imul, 1) := by decide +kernel
theorem dX12_takesValue_21 : decode cX12_takesValue 21 = .ok (.iload_n 2, 1) := by decide +kernel
theorem dX12_takesValue_22 : decode cX12_takesValue 22 = .ok (.iadd, 1) := by decide +kernel
theorem dX12_takesValue_23 : decode cX12_takesValue 23 = .ok (.istore 5, 2) := by decide +kernel
theorem dX12_takesValue_25 : decode cX12_takesValue 25 = .ok (.iload_n 3, 1) := by decide +kernel
theorem dX12_takesValue_26 : decode cX12_takesValue 26 = .ok (.iconst (-1), 1) := by decide +kernel
theorem dX12_takesValue_27 : decode cX12_takesValue 27 = .ok (.if_icmp .ne 13, 3) := by decide +kernel
theorem dX12_takesValue_30 : decode cX12_takesValue 30 = .ok (.aload_n 0, 1) := by decide +kernel
theorem dX12_takesValue_31 : decode cX12_takesValue 31 = .ok (.iload_n 1, 1) := by decide +kernel
theorem dX12_takesValue_32 : decode cX12_takesValue 32 = .ok (.iload_n 2, 1) := by decide +kernel
theorem dX12_takesValue_33 : decode cX12_takesValue 33 = .ok (.iconst 2, 1) := by decide +kernel
theorem dX12_takesValue_34 : decode cX12_takesValue 34 = .ok (.invokevirtual 206, 3) := by decide +kernel
theorem dX12_takesValue_37 : decode cX12_takesValue 37 = .ok (.goto 165, 3) := by decide +kernel
theorem dX12_takesValue_40 : decode cX12_takesValue 40 = .ok (.aload_n 0, 1) := by decide +kernel
theorem dX12_takesValue_41 : decode cX12_takesValue 41 = .ok (.getfield 66, 3) := by decide +kernel
theorem dX12_takesValue_44 : decode cX12_takesValue 44 = .ok (.iload 5, 2) := by decide +kernel
theorem dX12_takesValue_46 : decode cX12_takesValue 46 = .ok (.iaload, 1) := by decide +kernel
theorem dX12_takesValue_47 : decode cX12_takesValue 47 = .ok (.iconst 1, 1) := by decide +kernel
theorem dX12_takesValue_48 : decode cX12_takesValue 48 = .ok (.if_icmp .ne 28, 3) := by decide +kernel
theorem dX12_takesValue_51 : decode cX12_takesValue 51 = .ok (.aload_n 0, 1) := by decide +kernel
theorem dX12_takesValue_52 : decode cX12_takesValue 52 = .ok (.getfield 75, 3) := by decide +kernel
theorem dX12_takesValue_55 : decode cX12_takesValue 55 = .ok (.iload 4, 2) := by decide +kernel
theorem dX12_takesValue_57 : decode cX12_takesValue 57 = .ok (.aload_n 0, 1) := by decide +kernel
theorem dX12_takesValue_58 : decode cX12_takesValue 58 = .ok (.getfield 69, 3) := by decide +kernel
theorem dX12_takesValue_61 : decode cX12_takesValue 61 = .ok (.iload 5, 2) := by decide +kernel
theorem dX12_takesValue_63 : decode cX12_takesValue 63 = .ok (.iaload, 1) := by decide +kernel
theorem dX12_takesValue_64 : decode cX12_takesValue 64 = .ok (.iastore, 1) := by decide +kernel
theorem dX12_takesValue_65 : decode cX12_takesValue 65 = .ok (.aload_n 0, 1) := by decide +kernel
theorem dX12_takesValue_66 : decode cX12_takesValue 66 = .ok (.getfield 78, 3) := by decide +kernel
theorem dX12_takesValue_69 : decode cX12_takesValue 69 = .ok (.iload 4, 2) := by decide +kernel
theorem dX12_takesValue_71 : decode cX12_takesValue 71 = .ok (.iload_n 3, 1) := by decide +kernel
theorem dX12_takesValue_72 : decode cX12_takesValue 72 = .ok (.iastore, 1) := by decide +kernel
theorem dX12_takesValue_73 : decode cX12_takesValue 73 = .ok (.goto 129, 3) := by decide +kernel
theorem dX12_takesValue_76 : decode cX12_takesValue 76 = .ok (.aload_n 0, 1) := by decide +kernel
theorem dX12_takesValue_77 : decode cX12_takesValue 77 = .ok (.getfield 66, 3) := by decide +kernel
theorem dX12_takesValue_80 : decode cX12_takesValue 80 = .ok (.iload 5, 2) := by decide +kernel
theorem dX12_takesValue_82 : decode cX12_takesValue 82 = .ok (.iaload, 1) := by decide +kernel
theorem dX12_takesValue_83 : decode cX12_takesValue 83 = .ok (.iconst 2, 1) := by decide +kernel
theorem dX12_takesValue_84 : decode cX12_takesValue 84 = .ok (.if_icmp .ne 19, 3) := by decide +kernel
theorem dX12_takesValue_87 : decode cX12_takesValue 87 = .ok (.aload_n 0, 1) := by decide +kernel
theorem dX12_takesValue_88 : decode cX12_takesValue 88 = .ok (.iload_n 1, 1) := by decide +kernel
theorem dX12_takesValue_89 : decode cX12_takesValue 89 = .ok (.iload_n 2, 1) := by decide +kernel
theorem dX12_takesValue_90 : decode cX12_takesValue 90 = .ok (.aload_n 0, 1) := by decide +kernel
theorem dX12_takesValue_91 : decode cX12_takesValue 91 = .ok (.getfield 69, 3) := by decide +kernel
theorem dX12_takesValue_94 : decode cX12_takesValue 94 = .ok (.iload 5, 2) := by decide +kernel
theorem dX12_takesValue_96 : decode cX12_takesValue 96 = .ok (.iaload, 1) := by decide +kernel
theorem dX12_takesValue_97 : decode cX12_takesValue 97 = .ok (.invokevirtual 206, 3) := by decide +kernel
theorem dX12_takesValue_100 : decode cX12_takesValue 100 = .ok (.goto 102, 3) := by decide +kernel
theorem dX12_takesValue_103 : decode cX12_takesValue 103 = .ok (.aload_n 0, 1) := by decide +kernel
theorem dX12_takesValue_104 : decode cX12_takesValue 104 = .ok (.getfield 75, 3) := by decide +kernel
theorem dX12_takesValue_107 : decode cX12_takesValue 107 = .ok (.bipush 14, 2) := by decide +kernel
theorem dX12_takesValue_109 : decode cX12_takesValue 109 = .ok (.iload_n 1, 1) := by decide +kernel
theorem dX12_takesValue_110 : decode cX12_takesValue 110 = .ok (.imul, 1) := by decide +kernel
theorem dX12_takesValue_111 : decode cX12_takesValue 111 = .ok (.bipush 10, 2) := by decide +kernel
theorem dX12_takesValue_113 : decode cX12_takesValue 113 = .ok (.iadd, 1) := by decide +kernel
theorem dX12_takesValue_114 : decode cX12_takesValue 114 = .ok (.aload_n 0, 1) := by decide +kernel
theorem dX12_takesValue_115 : decode cX12_takesValue 115 = .ok (.getfield 69, 3) := by decide +kernel
theorem dX12_takesValue_118 : decode cX12_takesValue 118 = .ok (.iload 5, 2) := by decide +kernel
theorem dX12_takesValue_120 : decode cX12_takesValue 120 = .ok (.iaload, 1) := by decide +kernel
theorem dX12_takesValue_121 : decode cX12_takesValue 121 = .ok (.iadd, 1) := by decide +kernel
theorem dX12_takesValue_122 : decode cX12_takesValue 122 = .ok (.iaload, 1) := by decide +kernel
theorem dX12_takesValue_123 : decode cX12_takesValue 123 = .ok (.istore 6, 2) := by decide +kernel
theorem dX12_takesValue_125 : decode cX12_takesValue 125 = .ok (.iload 6, 2) := by decide +kernel
theorem dX12_takesValue_127 : decode cX12_takesValue 127 = .ok (.iconst (-1), 1) := by decide +kernel
theorem dX12_takesValue_128 : decode cX12_takesValue 128 = .ok (.if_icmp .eq 16, 3) := by decide +kernel
theorem dX12_takesValue_131 : decode cX12_takesValue 131 = .ok (.iload_n 2, 1) := by decide +kernel
theorem dX12_takesValue_132 : decode cX12_takesValue 132 = .ok (.iload 6, 2) := by decide +kernel
theorem dX12_takesValue_134 : decode cX12_takesValue 134 = .ok (.invokestatic 184, 3) := by decide +kernel
theorem dX12_takesValue_137 : decode cX12_takesValue 137 = .ok (.ifCond .eq 7, 3) := by decide +kernel
theorem dX12_takesValue_140 : decode cX12_takesValue 140 = .ok (.iconst 1, 1) := by decide +kernel
theorem dX12_takesValue_141 : decode cX12_takesValue 141 = .ok (.goto 4, 3) := by decide +kernel
theorem dX12_takesValue_144 : decode cX12_takesValue 144 = .ok (.iconst 0, 1) := by decide +kernel
theorem dX12_takesValue_145 : decode cX12_takesValue 145 = .ok (.istore 7, 2) := by decide +kernel
theorem dX12_takesValue_147 : decode cX12_takesValue 147 = .ok (.aload_n 0, 1) := by decide +kernel
theorem dX12_takesValue_148 : decode cX12_takesValue 148 = .ok (.getfield 75, 3) := by decide +kernel
theorem dX12_takesValue_151 : decode cX12_takesValue 151 = .ok (.iload 4, 2) := by decide +kernel
theorem dX12_takesValue_153 : decode cX12_takesValue 153 = .ok (.iload 7, 2) := by decide +kernel
theorem dX12_takesValue_155 : decode cX12_takesValue 155 = .ok (.ifCond .eq 8, 3) := by decide +kernel
theorem dX12_takesValue_158 : decode cX12_takesValue 158 = .ok (.iload 6, 2) := by decide +kernel
theorem dX12_takesValue_160 : decode cX12_takesValue 160 = .ok (.goto 10, 3) := by decide +kernel
theorem dX12_takesValue_163 : decode cX12_takesValue 163 = .ok (.aload_n 0, 1) := by decide +kernel
theorem dX12_takesValue_164 : decode cX12_takesValue 164 = .ok (.getfield 72, 3) := by decide +kernel
theorem dX12_takesValue_167 : decode cX12_takesValue 167 = .ok (.iload 5, 2) := by decide +kernel
theorem dX12_takesValue_169 : decode cX12_takesValue 169 = .ok (.iaload, 1) := by decide +kernel
theorem dX12_takesValue_170 : decode cX12_takesValue 170 = .ok (.iastore, 1) := by decide +kernel
theorem dX12_takesValue_171 : decode cX12_takesValue 171 = .ok (.aload_n 0, 1) := by decide +kernel
theorem dX12_takesValue_172 : decode cX12_takesValue 172 = .ok (.getfield 78, 3) := by decide +kernel
theorem dX12_takesValue_175 : decode cX12_takesValue 175 = .ok (.iload 4, 2) := by decide +kernel
theorem dX12_takesValue_177 : decode cX12_takesValue 177 = .ok (.iload_n 3, 1) := by decide +kernel
theorem dX12_takesValue_178 : decode cX12_takesValue 178 = .ok (.iastore, 1) := by decide +kernel
theorem dX12_takesValue_179 : decode cX12_takesValue 179 = .ok (.iload 7, 2) := by decide +kernel
theorem dX12_takesValue_181 : decode cX12_takesValue 181 = .ok (.ifCond .ne 21, 3) := by decide +kernel
theorem dX12_takesValue_184 : decode cX12_takesValue 184 = .ok (.aload_n 0, 1) := by decide +kernel
theorem dX12_takesValue_185 : decode cX12_takesValue 185 = .ok (.getfield 72, 3) := by decide +kernel
theorem dX12_takesValue_188 : decode cX12_takesValue 188 = .ok (.iload 5, 2) := by decide +kernel
theorem dX12_takesValue_190 : decode cX12_takesValue 190 = .ok (.iaload, 1) := by decide +kernel
theorem dX12_takesValue_191 : decode cX12_takesValue 191 = .ok (.iconst (-1), 1) := by decide +kernel
theorem dX12_takesValue_192 : decode cX12_takesValue 192 = .ok (.if_icmp .ne 10, 3) := by decide +kernel
theorem dX12_takesValue_195 : decode cX12_takesValue 195 = .ok (.aload_n 0, 1) := by decide +kernel
theorem dX12_takesValue_196 : decode cX12_takesValue 196 = .ok (.iload_n 1, 1) := by decide +kernel
theorem dX12_takesValue_197 : decode cX12_takesValue 197 = .ok (.iload_n 2, 1) := by decide +kernel
theorem dX12_takesValue_198 : decode cX12_takesValue 198 = .ok (.iconst 2, 1) := by decide +kernel
theorem dX12_takesValue_199 : decode cX12_takesValue 199 = .ok (.invokevirtual 206, 3) := by decide +kernel
theorem dX12_takesValue_202 : decode cX12_takesValue 202 = .ok (.return_, 1) := by decide +kernel
theorem dX12_needs_0 : decode cX12_needs 0 = .ok (.aload_n 0, 1) := by decide +kernel
theorem dX12_needs_1 : decode cX12_needs 1 = .ok (.getfield 111, 3) := by decide +kernel
theorem dX12_needs_4 : decode cX12_needs 4 = .ok (.iload_n 1, 1) := by decide +kernel
theorem dX12_needs_5 : decode cX12_needs 5 = .ok (.iaload, 1) := by decide +kernel
theorem dX12_needs_6 : decode cX12_needs 6 = .ok (.istore_n 2, 1) := by decide +kernel
theorem dX12_needs_7 : decode cX12_needs 7 = .ok (.bipush 14, 2) := by decide +kernel
theorem dX12_needs_9 : decode cX12_needs 9 = .ok (.iload_n 2, 1) := by decide +kernel
theorem dX12_needs_10 : decode cX12_needs 10 = .ok (.iconst (-1), 1) := by decide +kernel
theorem dX12_needs_11 : decode cX12_needs 11 = .ok (.if_icmp .ne 7, 3) := by decide +kernel
theorem dX12_needs_14 : decode cX12_needs 14 = .ok (.iconst 0, 1) := by decide +kernel
theorem dX12_needs_15 : decode cX12_needs 15 = .ok (.goto 4, 3) := by decide +kernel
theorem dX12_needs_18 : decode cX12_needs 18 = .ok (.iload_n 2, 1) := by decide +kernel
theorem dX12_needs_19 : decode cX12_needs 19 = .ok (.imul, 1) := by decide +kernel
theorem dX12_needs_20 : decode cX12_needs 20 = .ok (.bipush 10, 2) := by decide +kernel
theorem dX12_needs_22 : decode cX12_needs 22 = .ok (.iadd, 1) := by decide +kernel
theorem dX12_needs_23 : decode cX12_needs 23 = .ok (.iload_n 1, 1) := by decide +kernel
theorem dX12_needs_24 : decode cX12_needs 24 = .ok (.iadd, 1) := by decide +kernel
theorem dX12_needs_25 : decode cX12_needs 25 = .ok (.istore_n 3, 1) := by decide +kernel
theorem dX12_needs_26 : decode cX12_needs 26 = .ok (.iload_n 2, 1) := by decide +kernel
theorem dX12_needs_27 : decode cX12_needs 27 = .ok (.iconst (-1), 1) := by decide +kernel
theorem dX12_needs_28 : decode cX12_needs 28 = .ok (.if_icmp .eq 22, 3) := by decide +kernel
theorem dX12_needs_31 : decode cX12_needs 31 = .ok (.aload_n 0, 1) := by decide +kernel
theorem dX12_needs_32 : decode cX12_needs 32 = .ok (.getfield 66, 3) := by decide +kernel
theorem dX12_needs_35 : decode cX12_needs 35 = .ok (.iload_n 3, 1) := by decide +kernel
theorem dX12_needs_36 : decode cX12_needs 36 = .ok (.iaload, 1) := by decide +kernel
theorem dX12_needs_37 : decode cX12_needs 37 = .ok (.iconst 3, 1) := by decide +kernel
theorem dX12_needs_38 : decode cX12_needs 38 = .ok (.if_icmp .ne 12, 3) := by decide +kernel
theorem dX12_needs_41 : decode cX12_needs 41 = .ok (.aload_n 0, 1) := by decide +kernel
theorem dX12_needs_42 : decode cX12_needs 42 = .ok (.getfield 69, 3) := by decide +kernel
theorem dX12_needs_45 : decode cX12_needs 45 = .ok (.iload_n 3, 1) := by decide +kernel
theorem dX12_needs_46 : decode cX12_needs 46 = .ok (.iaload, 1) := by decide +kernel
theorem dX12_needs_47 : decode cX12_needs 47 = .ok (.goto 4, 3) := by decide +kernel
theorem dX12_needs_50 : decode cX12_needs 50 = .ok (.iconst (-1), 1) := by decide +kernel
theorem dX12_needs_51 : decode cX12_needs 51 = .ok (.ireturn, 1) := by decide +kernel
theorem dX12_findsValues_0 : decode cX12_findsValues 0 = .ok (.iconst 0, 1) := by decide +kernel
theorem dX12_findsValues_1 : decode cX12_findsValues 1 = .ok (.istore_n 2, 1) := by decide +kernel
theorem dX12_findsValues_2 : decode cX12_findsValues 2 = .ok (.iload_n 2, 1) := by decide +kernel
theorem dX12_findsValues_3 : decode cX12_findsValues 3 = .ok (.aload_n 0, 1) := by decide +kernel
theorem dX12_findsValues_4 : decode cX12_findsValues 4 = .ok (.getfield 126, 3) := by decide +kernel
theorem dX12_findsValues_7 : decode cX12_findsValues 7 = .ok (.if_icmp .ge 21, 3) := by decide +kernel
theorem dX12_findsValues_10 : decode cX12_findsValues 10 = .ok (.aload_n 0, 1) := by decide +kernel
theorem dX12_findsValues_11 : decode cX12_findsValues 11 = .ok (.getfield 108, 3) := by decide +kernel
theorem dX12_findsValues_14 : decode cX12_findsValues 14 = .ok (.iload_n 2, 1) := by decide +kernel
theorem dX12_findsValues_15 : decode cX12_findsValues 15 = .ok (.aload_n 0, 1) := by decide +kernel
theorem dX12_findsValues_16 : decode cX12_findsValues 16 = .ok (.iload_n 2, 1) := by decide +kernel
theorem dX12_findsValues_17 : decode cX12_findsValues 17 = .ok (.iload_n 1, 1) := by decide +kernel
theorem dX12_findsValues_18 : decode cX12_findsValues 18 = .ok (.invokevirtual 210, 3) := by decide +kernel
theorem dX12_findsValues_21 : decode cX12_findsValues 21 = .ok (.bastore, 1) := by decide +kernel
theorem dX12_findsValues_22 : decode cX12_findsValues 22 = .ok (.iinc 2 1, 3) := by decide +kernel
theorem dX12_findsValues_25 : decode cX12_findsValues 25 = .ok (.goto (-23), 3) := by decide +kernel
theorem dX12_findsValues_28 : decode cX12_findsValues 28 = .ok (.iconst 0, 1) := by decide +kernel
theorem dX12_findsValues_29 : decode cX12_findsValues 29 = .ok (.istore_n 2, 1) := by decide +kernel
theorem dX12_findsValues_30 : decode cX12_findsValues 30 = .ok (.iload_n 2, 1) := by decide +kernel
theorem dX12_findsValues_31 : decode cX12_findsValues 31 = .ok (.iconst 4, 1) := by decide +kernel
theorem dX12_findsValues_32 : decode cX12_findsValues 32 = .ok (.if_icmp .ge 24, 3) := by decide +kernel
theorem dX12_findsValues_35 : decode cX12_findsValues 35 = .ok (.aload_n 0, 1) := by decide +kernel
theorem dX12_findsValues_36 : decode cX12_findsValues 36 = .ok (.getfield 111, 3) := by decide +kernel
theorem dX12_findsValues_39 : decode cX12_findsValues 39 = .ok (.iload_n 2, 1) := by decide +kernel
theorem dX12_findsValues_40 : decode cX12_findsValues 40 = .ok (.aload_n 0, 1) := by decide +kernel
theorem dX12_findsValues_41 : decode cX12_findsValues 41 = .ok (.iload_n 1, 1) := by decide +kernel
theorem dX12_findsValues_42 : decode cX12_findsValues 42 = .ok (.bipush 10, 2) := by decide +kernel
theorem dX12_findsValues_44 : decode cX12_findsValues 44 = .ok (.iload_n 2, 1) := by decide +kernel
theorem dX12_findsValues_45 : decode cX12_findsValues 45 = .ok (.iadd, 1) := by decide +kernel
theorem dX12_findsValues_46 : decode cX12_findsValues 46 = .ok (.invokevirtual 213, 3) := by decide +kernel
theorem dX12_findsValues_49 : decode cX12_findsValues 49 = .ok (.iastore, 1) := by decide +kernel
theorem dX12_findsValues_50 : decode cX12_findsValues 50 = .ok (.iinc 2 1, 3) := by decide +kernel
theorem dX12_findsValues_53 : decode cX12_findsValues 53 = .ok (.goto (-23), 3) := by decide +kernel
theorem dX12_findsValues_56 : decode cX12_findsValues 56 = .ok (.iconst 0, 1) := by decide +kernel
theorem dX12_findsValues_57 : decode cX12_findsValues 57 = .ok (.istore_n 2, 1) := by decide +kernel
theorem dX12_findsValues_58 : decode cX12_findsValues 58 = .ok (.iconst 0, 1) := by decide +kernel
theorem dX12_findsValues_59 : decode cX12_findsValues 59 = .ok (.istore_n 3, 1) := by decide +kernel
theorem dX12_findsValues_60 : decode cX12_findsValues 60 = .ok (.iload_n 3, 1) := by decide +kernel
theorem dX12_findsValues_61 : decode cX12_findsValues 61 = .ok (.iconst 4, 1) := by decide +kernel
theorem dX12_findsValues_62 : decode cX12_findsValues 62 = .ok (.if_icmp .ge 93, 3) := by decide +kernel
theorem dX12_findsValues_65 : decode cX12_findsValues 65 = .ok (.aload_n 0, 1) := by decide +kernel
theorem dX12_findsValues_66 : decode cX12_findsValues 66 = .ok (.iload_n 3, 1) := by decide +kernel
theorem dX12_findsValues_67 : decode cX12_findsValues 67 = .ok (.invokevirtual 217, 3) := by decide +kernel
theorem dX12_findsValues_70 : decode cX12_findsValues 70 = .ok (.istore 4, 2) := by decide +kernel
theorem dX12_findsValues_72 : decode cX12_findsValues 72 = .ok (.iconst 0, 1) := by decide +kernel
theorem dX12_findsValues_73 : decode cX12_findsValues 73 = .ok (.istore 5, 2) := by decide +kernel
theorem dX12_findsValues_75 : decode cX12_findsValues 75 = .ok (.iload 5, 2) := by decide +kernel
theorem dX12_findsValues_77 : decode cX12_findsValues 77 = .ok (.iconst 4, 1) := by decide +kernel
theorem dX12_findsValues_78 : decode cX12_findsValues 78 = .ok (.if_icmp .ge 29, 3) := by decide +kernel
theorem dX12_findsValues_81 : decode cX12_findsValues 81 = .ok (.iload 4, 2) := by decide +kernel
theorem dX12_findsValues_83 : decode cX12_findsValues 83 = .ok (.iconst (-1), 1) := by decide +kernel
theorem dX12_findsValues_84 : decode cX12_findsValues 84 = .ok (.if_icmp .eq 23, 3) := by decide +kernel
theorem dX12_findsValues_87 : decode cX12_findsValues 87 = .ok (.iload 4, 2) := by decide +kernel
theorem dX12_findsValues_89 : decode cX12_findsValues 89 = .ok (.iload_n 3, 1) := by decide +kernel
theorem dX12_findsValues_90 : decode cX12_findsValues 90 = .ok (.if_icmp .eq 17, 3) := by decide +kernel
theorem dX12_findsValues_93 : decode cX12_findsValues 93 = .ok (.aload_n 0, 1) := by decide +kernel
theorem dX12_findsValues_94 : decode cX12_findsValues 94 = .ok (.iload 4, 2) := by decide +kernel
theorem dX12_findsValues_96 : decode cX12_findsValues 96 = .ok (.invokevirtual 217, 3) := by decide +kernel
theorem dX12_findsValues_99 : decode cX12_findsValues 99 = .ok (.istore 4, 2) := by decide +kernel
theorem dX12_findsValues_101 : decode cX12_findsValues 101 = .ok (.iinc 5 1, 3) := by decide +kernel
theorem dX12_findsValues_104 : decode cX12_findsValues 104 = .ok (.goto (-29), 3) := by decide +kernel
theorem dX12_findsValues_107 : decode cX12_findsValues 107 = .ok (.iload 4, 2) := by decide +kernel
theorem dX12_findsValues_109 : decode cX12_findsValues 109 = .ok (.iload_n 3, 1) := by decide +kernel
theorem dX12_findsValues_110 : decode cX12_findsValues 110 = .ok (.if_icmp .ne 39, 3) := by decide +kernel
theorem dX12_findsValues_113 : decode cX12_findsValues 113 = .ok (.aload_n 0, 1) := by decide +kernel
theorem dX12_findsValues_114 : decode cX12_findsValues 114 = .ok (.getfield 75, 3) := by decide +kernel
theorem dX12_findsValues_117 : decode cX12_findsValues 117 = .ok (.bipush 14, 2) := by decide +kernel
theorem dX12_findsValues_119 : decode cX12_findsValues 119 = .ok (.iload_n 1, 1) := by decide +kernel
theorem dX12_findsValues_120 : decode cX12_findsValues 120 = .ok (.imul, 1) := by decide +kernel
theorem dX12_findsValues_121 : decode cX12_findsValues 121 = .ok (.bipush 10, 2) := by decide +kernel
theorem dX12_findsValues_123 : decode cX12_findsValues 123 = .ok (.iadd, 1) := by decide +kernel
theorem dX12_findsValues_124 : decode cX12_findsValues 124 = .ok (.iload_n 3, 1) := by decide +kernel
theorem dX12_findsValues_125 : decode cX12_findsValues 125 = .ok (.iadd, 1) := by decide +kernel
theorem dX12_findsValues_126 : decode cX12_findsValues 126 = .ok (.iconst (-1), 1) := by decide +kernel
theorem dX12_findsValues_127 : decode cX12_findsValues 127 = .ok (.iastore, 1) := by decide +kernel
theorem dX12_findsValues_128 : decode cX12_findsValues 128 = .ok (.aload_n 0, 1) := by decide +kernel
theorem dX12_findsValues_129 : decode cX12_findsValues 129 = .ok (.getfield 78, 3) := by decide +kernel
theorem dX12_findsValues_132 : decode cX12_findsValues 132 = .ok (.bipush 14, 2) := by decide +kernel
theorem dX12_findsValues_134 : decode cX12_findsValues 134 = .ok (.iload_n 1, 1) := by decide +kernel
theorem dX12_findsValues_135 : decode cX12_findsValues 135 = .ok (.imul, 1) := by decide +kernel
theorem dX12_findsValues_136 : decode cX12_findsValues 136 = .ok (.bipush 10, 2) := by decide +kernel
theorem dX12_findsValues_138 : decode cX12_findsValues 138 = .ok (.iadd, 1) := by decide +kernel
theorem dX12_findsValues_139 : decode cX12_findsValues 139 = .ok (.iload_n 3, 1) := by decide +kernel
theorem dX12_findsValues_140 : decode cX12_findsValues 140 = .ok (.iadd, 1) := by decide +kernel
theorem dX12_findsValues_141 : decode cX12_findsValues 141 = .ok (.iconst (-1), 1) := by decide +kernel
theorem dX12_findsValues_142 : decode cX12_findsValues 142 = .ok (.iastore, 1) := by decide +kernel
theorem dX12_findsValues_143 : decode cX12_findsValues 143 = .ok (.iload_n 2, 1) := by decide +kernel
theorem dX12_findsValues_144 : decode cX12_findsValues 144 = .ok (.iconst 1, 1) := by decide +kernel
theorem dX12_findsValues_145 : decode cX12_findsValues 145 = .ok (.iload_n 3, 1) := by decide +kernel
theorem dX12_findsValues_146 : decode cX12_findsValues 146 = .ok (.ishl, 1) := by decide +kernel
theorem dX12_findsValues_147 : decode cX12_findsValues 147 = .ok (.ior, 1) := by decide +kernel
theorem dX12_findsValues_148 : decode cX12_findsValues 148 = .ok (.istore_n 2, 1) := by decide +kernel
theorem dX12_findsValues_149 : decode cX12_findsValues 149 = .ok (.iinc 3 1, 3) := by decide +kernel
theorem dX12_findsValues_152 : decode cX12_findsValues 152 = .ok (.goto (-92), 3) := by decide +kernel
theorem dX12_findsValues_155 : decode cX12_findsValues 155 = .ok (.iconst 0, 1) := by decide +kernel
theorem dX12_findsValues_156 : decode cX12_findsValues 156 = .ok (.istore_n 3, 1) := by decide +kernel
theorem dX12_findsValues_157 : decode cX12_findsValues 157 = .ok (.iload_n 3, 1) := by decide +kernel
theorem dX12_findsValues_158 : decode cX12_findsValues 158 = .ok (.iconst 4, 1) := by decide +kernel
theorem dX12_findsValues_159 : decode cX12_findsValues 159 = .ok (.if_icmp .ge 134, 3) := by decide +kernel
theorem dX12_findsValues_162 : decode cX12_findsValues 162 = .ok (.iconst 0, 1) := by decide +kernel
theorem dX12_findsValues_163 : decode cX12_findsValues 163 = .ok (.istore 4, 2) := by decide +kernel
theorem dX12_findsValues_165 : decode cX12_findsValues 165 = .ok (.iload 4, 2) := by decide +kernel
theorem dX12_findsValues_167 : decode cX12_findsValues 167 = .ok (.iconst 4, 1) := by decide +kernel
theorem dX12_findsValues_168 : decode cX12_findsValues 168 = .ok (.if_icmp .ge 119, 3) := by decide +kernel
theorem dX12_findsValues_171 : decode cX12_findsValues 171 = .ok (.aload_n 0, 1) := by decide +kernel
theorem dX12_findsValues_172 : decode cX12_findsValues 172 = .ok (.iload 4, 2) := by decide +kernel
theorem dX12_findsValues_174 : decode cX12_findsValues 174 = .ok (.invokevirtual 217, 3) := by decide +kernel
theorem dX12_findsValues_177 : decode cX12_findsValues 177 = .ok (.istore 5, 2) := by decide +kernel
theorem dX12_findsValues_179 : decode cX12_findsValues 179 = .ok (.iload_n 2, 1) := by decide +kernel
theorem dX12_findsValues_180 : decode cX12_findsValues 180 = .ok (.iload 4, 2) := by decide +kernel
theorem dX12_findsValues_182 : decode cX12_findsValues 182 = .ok (.ishr, 1) := by decide +kernel
theorem dX12_findsValues_183 : decode cX12_findsValues 183 = .ok (.iconst 1, 1) := by decide +kernel
theorem dX12_findsValues_184 : decode cX12_findsValues 184 = .ok (.iand, 1) := by decide +kernel
theorem dX12_findsValues_185 : decode cX12_findsValues 185 = .ok (.ifCond .ne 96, 3) := by decide +kernel
theorem dX12_findsValues_188 : decode cX12_findsValues 188 = .ok (.iload 5, 2) := by decide +kernel
theorem dX12_findsValues_190 : decode cX12_findsValues 190 = .ok (.iconst (-1), 1) := by decide +kernel
theorem dX12_findsValues_191 : decode cX12_findsValues 191 = .ok (.if_icmp .eq 13, 3) := by decide +kernel
theorem dX12_findsValues_194 : decode cX12_findsValues 194 = .ok (.iload_n 2, 1) := by decide +kernel
theorem dX12_findsValues_195 : decode cX12_findsValues 195 = .ok (.iload 5, 2) := by decide +kernel
theorem dX12_findsValues_197 : decode cX12_findsValues 197 = .ok (.ishr, 1) := by decide +kernel
theorem dX12_findsValues_198 : decode cX12_findsValues 198 = .ok (.iconst 1, 1) := by decide +kernel
theorem dX12_findsValues_199 : decode cX12_findsValues 199 = .ok (.iand, 1) := by decide +kernel
theorem dX12_findsValues_200 : decode cX12_findsValues 200 = .ok (.iconst 1, 1) := by decide +kernel
theorem dX12_findsValues_201 : decode cX12_findsValues 201 = .ok (.if_icmp .ne 80, 3) := by decide +kernel
theorem dX12_findsValues_204 : decode cX12_findsValues 204 = .ok (.aload_n 0, 1) := by decide +kernel
theorem dX12_findsValues_205 : decode cX12_findsValues 205 = .ok (.iload_n 1, 1) := by decide +kernel
theorem dX12_findsValues_206 : decode cX12_findsValues 206 = .ok (.bipush 10, 2) := by decide +kernel
theorem dX12_findsValues_208 : decode cX12_findsValues 208 = .ok (.iload 4, 2) := by decide +kernel
theorem dX12_findsValues_210 : decode cX12_findsValues 210 = .ok (.iadd, 1) := by decide +kernel
theorem dX12_findsValues_211 : decode cX12_findsValues 211 = .ok (.aload_n 0, 1) := by decide +kernel
theorem dX12_findsValues_212 : decode cX12_findsValues 212 = .ok (.getfield 111, 3) := by decide +kernel
theorem dX12_findsValues_215 : decode cX12_findsValues 215 = .ok (.iload 4, 2) := by decide +kernel
theorem dX12_findsValues_217 : decode cX12_findsValues 217 = .ok (.iaload, 1) := by decide +kernel
theorem dX12_findsValues_218 : decode cX12_findsValues 218 = .ok (.invokevirtual 220, 3) := by decide +kernel
theorem dX12_findsValues_221 : decode cX12_findsValues 221 = .ok (.aload_n 0, 1) := by decide +kernel
theorem dX12_findsValues_222 : decode cX12_findsValues 222 = .ok (.getfield 78, 3) := by decide +kernel
theorem dX12_findsValues_225 : decode cX12_findsValues 225 = .ok (.bipush 14, 2) := by decide +kernel
theorem dX12_findsValues_227 : decode cX12_findsValues 227 = .ok (.iload_n 1, 1) := by decide +kernel
theorem dX12_findsValues_228 : decode cX12_findsValues 228 = .ok (.imul, 1) := by decide +kernel
theorem dX12_findsValues_229 : decode cX12_findsValues 229 = .ok (.bipush 10, 2) := by decide +kernel
theorem dX12_findsValues_231 : decode cX12_findsValues 231 = .ok (.iadd, 1) := by decide +kernel
theorem dX12_findsValues_232 : decode cX12_findsValues 232 = .ok (.iload 4, 2) := by decide +kernel
theorem dX12_findsValues_234 : decode cX12_findsValues 234 = .ok (.iadd, 1) := by decide +kernel
theorem dX12_findsValues_235 : decode cX12_findsValues 235 = .ok (.aload_n 0, 1) := by decide +kernel
theorem dX12_findsValues_236 : decode cX12_findsValues 236 = .ok (.getfield 75, 3) := by decide +kernel
theorem dX12_findsValues_239 : decode cX12_findsValues 239 = .ok (.bipush 14, 2) := by decide +kernel
theorem dX12_findsValues_241 : decode cX12_findsValues 241 = .ok (.iload_n 1, 1) := by decide +kernel
theorem dX12_findsValues_242 : decode cX12_findsValues 242 = .ok (.imul, 1) := by decide +kernel
theorem dX12_findsValues_243 : decode cX12_findsValues 243 = .ok (.bipush 10, 2) := by decide +kernel
theorem dX12_findsValues_245 : decode cX12_findsValues 245 = .ok (.iadd, 1) := by decide +kernel
theorem dX12_findsValues_246 : decode cX12_findsValues 246 = .ok (.iload 4, 2) := by decide +kernel
theorem dX12_findsValues_248 : decode cX12_findsValues 248 = .ok (.iadd, 1) := by decide +kernel
theorem dX12_findsValues_249 : decode cX12_findsValues 249 = .ok (.iaload, 1) := by decide +kernel
theorem dX12_findsValues_250 : decode cX12_findsValues 250 = .ok (.iconst (-1), 1) := by decide +kernel
theorem dX12_findsValues_251 : decode cX12_findsValues 251 = .ok (.if_icmp .ne 7, 3) := by decide +kernel
theorem dX12_findsValues_254 : decode cX12_findsValues 254 = .ok (.iconst (-1), 1) := by decide +kernel
theorem dX12_findsValues_255 : decode cX12_findsValues 255 = .ok (.goto 18, 3) := by decide +kernel
theorem dX12_findsValues_258 : decode cX12_findsValues 258 = .ok (.aload_n 0, 1) := by decide +kernel
theorem dX12_findsValues_259 : decode cX12_findsValues 259 = .ok (.getfield 78, 3) := by decide +kernel
theorem dX12_findsValues_262 : decode cX12_findsValues 262 = .ok (.bipush 14, 2) := by decide +kernel
theorem dX12_findsValues_264 : decode cX12_findsValues 264 = .ok (.iload_n 1, 1) := by decide +kernel
theorem dX12_findsValues_265 : decode cX12_findsValues 265 = .ok (.imul, 1) := by decide +kernel
theorem dX12_findsValues_266 : decode cX12_findsValues 266 = .ok (.bipush 10, 2) := by decide +kernel
theorem dX12_findsValues_268 : decode cX12_findsValues 268 = .ok (.iadd, 1) := by decide +kernel
theorem dX12_findsValues_269 : decode cX12_findsValues 269 = .ok (.iload 4, 2) := by decide +kernel
theorem dX12_findsValues_271 : decode cX12_findsValues 271 = .ok (.iadd, 1) := by decide +kernel
theorem dX12_findsValues_272 : decode cX12_findsValues 272 = .ok (.iaload, 1) := by decide +kernel
theorem dX12_findsValues_273 : decode cX12_findsValues 273 = .ok (.iastore, 1) := by decide +kernel
theorem dX12_findsValues_274 : decode cX12_findsValues 274 = .ok (.iload_n 2, 1) := by decide +kernel
theorem dX12_findsValues_275 : decode cX12_findsValues 275 = .ok (.iconst 1, 1) := by decide +kernel
theorem dX12_findsValues_276 : decode cX12_findsValues 276 = .ok (.iload 4, 2) := by decide +kernel
theorem dX12_findsValues_278 : decode cX12_findsValues 278 = .ok (.ishl, 1) := by decide +kernel
theorem dX12_findsValues_279 : decode cX12_findsValues 279 = .ok (.ior, 1) := by decide +kernel
theorem dX12_findsValues_280 : decode cX12_findsValues 280 = .ok (.istore_n 2, 1) := by decide +kernel
theorem dX12_findsValues_281 : decode cX12_findsValues 281 = .ok (.iinc 4 1, 3) := by decide +kernel
theorem dX12_findsValues_284 : decode cX12_findsValues 284 = .ok (.goto (-119), 3) := by decide +kernel
theorem dX12_findsValues_287 : decode cX12_findsValues 287 = .ok (.iinc 3 1, 3) := by decide +kernel
theorem dX12_findsValues_290 : decode cX12_findsValues 290 = .ok (.goto (-133), 3) := by decide +kernel
theorem dX12_findsValues_293 : decode cX12_findsValues 293 = .ok (.iconst 0, 1) := by decide +kernel
theorem dX12_findsValues_294 : decode cX12_findsValues 294 = .ok (.istore_n 3, 1) := by decide +kernel
theorem dX12_findsValues_295 : decode cX12_findsValues 295 = .ok (.iload_n 3, 1) := by decide +kernel
theorem dX12_findsValues_296 : decode cX12_findsValues 296 = .ok (.bipush 10, 2) := by decide +kernel
theorem dX12_findsValues_298 : decode cX12_findsValues 298 = .ok (.if_icmp .ge 21, 3) := by decide +kernel
theorem dX12_findsValues_301 : decode cX12_findsValues 301 = .ok (.aload_n 0, 1) := by decide +kernel
theorem dX12_findsValues_302 : decode cX12_findsValues 302 = .ok (.iload_n 1, 1) := by decide +kernel
theorem dX12_findsValues_303 : decode cX12_findsValues 303 = .ok (.iload_n 3, 1) := by decide +kernel
theorem dX12_findsValues_304 : decode cX12_findsValues 304 = .ok (.aload_n 0, 1) := by decide +kernel
theorem dX12_findsValues_305 : decode cX12_findsValues 305 = .ok (.iload_n 1, 1) := by decide +kernel
theorem dX12_findsValues_306 : decode cX12_findsValues 306 = .ok (.iload_n 3, 1) := by decide +kernel
theorem dX12_findsValues_307 : decode cX12_findsValues 307 = .ok (.invokevirtual 213, 3) := by decide +kernel
theorem dX12_findsValues_310 : decode cX12_findsValues 310 = .ok (.invokevirtual 220, 3) := by decide +kernel
theorem dX12_findsValues_313 : decode cX12_findsValues 313 = .ok (.iinc 3 1, 3) := by decide +kernel
theorem dX12_findsValues_316 : decode cX12_findsValues 316 = .ok (.goto (-21), 3) := by decide +kernel
theorem dX12_findsValues_319 : decode cX12_findsValues 319 = .ok (.return_, 1) := by decide +kernel
theorem dX12_of_0 : decode cX12_of 0 = .ok (.aload_n 0, 1) := by decide +kernel
theorem dX12_of_1 : decode cX12_of 1 = .ok (.getfield 75, 3) := by decide +kernel
theorem dX12_of_4 : decode cX12_of 4 = .ok (.bipush 14, 2) := by decide +kernel
theorem dX12_of_6 : decode cX12_of 6 = .ok (.iload_n 1, 1) := by decide +kernel
theorem dX12_of_7 : decode cX12_of 7 = .ok (.imul, 1) := by decide +kernel
theorem dX12_of_8 : decode cX12_of 8 = .ok (.iload_n 2, 1) := by decide +kernel
theorem dX12_of_9 : decode cX12_of 9 = .ok (.iadd, 1) := by decide +kernel
theorem dX12_of_10 : decode cX12_of 10 = .ok (.iaload, 1) := by decide +kernel
theorem dX12_of_11 : decode cX12_of 11 = .ok (.ireturn, 1) := by decide +kernel
theorem dX12_capped_0 : decode cX12_capped 0 = .ok (.aload_n 0, 1) := by decide +kernel
theorem dX12_capped_1 : decode cX12_capped 1 = .ok (.iload_n 1, 1) := by decide +kernel
theorem dX12_capped_2 : decode cX12_capped 2 = .ok (.iconst 2, 1) := by decide +kernel
theorem dX12_capped_3 : decode cX12_capped 3 = .ok (.invokevirtual 223, 3) := by decide +kernel
theorem dX12_capped_6 : decode cX12_capped 6 = .ok (.bipush (-2), 2) := by decide +kernel
theorem dX12_capped_8 : decode cX12_capped 8 = .ok (.if_icmp .eq 22, 3) := by decide +kernel
theorem dX12_capped_11 : decode cX12_capped 11 = .ok (.aload_n 0, 1) := by decide +kernel
theorem dX12_capped_12 : decode cX12_capped 12 = .ok (.iload_n 1, 1) := by decide +kernel
theorem dX12_capped_13 : decode cX12_capped 13 = .ok (.iconst 2, 1) := by decide +kernel
theorem dX12_capped_14 : decode cX12_capped 14 = .ok (.invokevirtual 223, 3) := by decide +kernel
theorem dX12_capped_17 : decode cX12_capped 17 = .ok (.iload_n 2, 1) := by decide +kernel
theorem dX12_capped_18 : decode cX12_capped 18 = .ok (.if_icmp .ge 12, 3) := by decide +kernel
theorem dX12_capped_21 : decode cX12_capped 21 = .ok (.aload_n 0, 1) := by decide +kernel
theorem dX12_capped_22 : decode cX12_capped 22 = .ok (.iload_n 1, 1) := by decide +kernel
theorem dX12_capped_23 : decode cX12_capped 23 = .ok (.iconst 2, 1) := by decide +kernel
theorem dX12_capped_24 : decode cX12_capped 24 = .ok (.invokevirtual 223, 3) := by decide +kernel
theorem dX12_capped_27 : decode cX12_capped 27 = .ok (.goto 4, 3) := by decide +kernel
theorem dX12_capped_30 : decode cX12_capped 30 = .ok (.iload_n 2, 1) := by decide +kernel
theorem dX12_capped_31 : decode cX12_capped 31 = .ok (.ireturn, 1) := by decide +kernel
theorem dX12_widest_0 : decode cX12_widest 0 = .ok (.iconst 0, 1) := by decide +kernel
theorem dX12_widest_1 : decode cX12_widest 1 = .ok (.istore_n 2, 1) := by decide +kernel
theorem dX12_widest_2 : decode cX12_widest 2 = .ok (.aload_n 0, 1) := by decide +kernel
theorem dX12_widest_3 : decode cX12_widest 3 = .ok (.getfield 32, 3) := by decide +kernel
theorem dX12_widest_6 : decode cX12_widest 6 = .ok (.iload_n 1, 1) := by decide +kernel
theorem dX12_widest_7 : decode cX12_widest 7 = .ok (.iaload, 1) := by decide +kernel
theorem dX12_widest_8 : decode cX12_widest 8 = .ok (.istore_n 3, 1) := by decide +kernel
theorem dX12_widest_9 : decode cX12_widest 9 = .ok (.iload_n 3, 1) := by decide +kernel
theorem dX12_widest_10 : decode cX12_widest 10 = .ok (.ifCond .le 28, 3) := by decide +kernel
theorem dX12_widest_13 : decode cX12_widest 13 = .ok (.iload_n 3, 1) := by decide +kernel
theorem dX12_widest_14 : decode cX12_widest 14 = .ok (.bipush 10, 2) := by decide +kernel
theorem dX12_widest_16 : decode cX12_widest 16 = .ok (.irem, 1) := by decide +kernel
theorem dX12_widest_17 : decode cX12_widest 17 = .ok (.iload_n 2, 1) := by decide +kernel
theorem dX12_widest_18 : decode cX12_widest 18 = .ok (.if_icmp .le 10, 3) := by decide +kernel
theorem dX12_widest_21 : decode cX12_widest 21 = .ok (.iload_n 3, 1) := by decide +kernel
theorem dX12_widest_22 : decode cX12_widest 22 = .ok (.bipush 10, 2) := by decide +kernel
theorem dX12_widest_24 : decode cX12_widest 24 = .ok (.irem, 1) := by decide +kernel
theorem dX12_widest_25 : decode cX12_widest 25 = .ok (.goto 4, 3) := by decide +kernel
theorem dX12_widest_28 : decode cX12_widest 28 = .ok (.iload_n 2, 1) := by decide +kernel
theorem dX12_widest_29 : decode cX12_widest 29 = .ok (.istore_n 2, 1) := by decide +kernel
theorem dX12_widest_30 : decode cX12_widest 30 = .ok (.iload_n 3, 1) := by decide +kernel
theorem dX12_widest_31 : decode cX12_widest 31 = .ok (.bipush 10, 2) := by decide +kernel
theorem dX12_widest_33 : decode cX12_widest 33 = .ok (.idiv, 1) := by decide +kernel
theorem dX12_widest_34 : decode cX12_widest 34 = .ok (.istore_n 3, 1) := by decide +kernel
theorem dX12_widest_35 : decode cX12_widest 35 = .ok (.goto (-26), 3) := by decide +kernel
theorem dX12_widest_38 : decode cX12_widest 38 = .ok (.iload_n 2, 1) := by decide +kernel
theorem dX12_widest_39 : decode cX12_widest 39 = .ok (.aload_n 0, 1) := by decide +kernel
theorem dX12_widest_40 : decode cX12_widest 40 = .ok (.iload_n 1, 1) := by decide +kernel
theorem dX12_widest_41 : decode cX12_widest 41 = .ok (.bipush 9, 2) := by decide +kernel
theorem dX12_widest_43 : decode cX12_widest 43 = .ok (.invokevirtual 223, 3) := by decide +kernel
theorem dX12_widest_46 : decode cX12_widest 46 = .ok (.imul, 1) := by decide +kernel
theorem dX12_widest_47 : decode cX12_widest 47 = .ok (.ireturn, 1) := by decide +kernel
theorem dX12_findsWidths_0 : decode cX12_findsWidths 0 = .ok (.aload_n 0, 1) := by decide +kernel
theorem dX12_findsWidths_1 : decode cX12_findsWidths 1 = .ok (.getfield 81, 3) := by decide +kernel
theorem dX12_findsWidths_4 : decode cX12_findsWidths 4 = .ok (.iconst 4, 1) := by decide +kernel
theorem dX12_findsWidths_5 : decode cX12_findsWidths 5 = .ok (.iload_n 1, 1) := by decide +kernel
theorem dX12_findsWidths_6 : decode cX12_findsWidths 6 = .ok (.imul, 1) := by decide +kernel
theorem dX12_findsWidths_7 : decode cX12_findsWidths 7 = .ok (.iconst 2, 1) := by decide +kernel
theorem dX12_findsWidths_8 : decode cX12_findsWidths 8 = .ok (.iadd, 1) := by decide +kernel
theorem dX12_findsWidths_9 : decode cX12_findsWidths 9 = .ok (.iaload, 1) := by decide +kernel
theorem dX12_findsWidths_10 : decode cX12_findsWidths 10 = .ok (.istore_n 2, 1) := by decide +kernel
theorem dX12_findsWidths_11 : decode cX12_findsWidths 11 = .ok (.aload_n 0, 1) := by decide +kernel
theorem dX12_findsWidths_12 : decode cX12_findsWidths 12 = .ok (.iload_n 1, 1) := by decide +kernel
theorem dX12_findsWidths_13 : decode cX12_findsWidths 13 = .ok (.iconst 5, 1) := by decide +kernel
theorem dX12_findsWidths_14 : decode cX12_findsWidths 14 = .ok (.invokevirtual 223, 3) := by decide +kernel
theorem dX12_findsWidths_17 : decode cX12_findsWidths 17 = .ok (.istore_n 3, 1) := by decide +kernel
theorem dX12_findsWidths_18 : decode cX12_findsWidths 18 = .ok (.iconst 0, 1) := by decide +kernel
theorem dX12_findsWidths_19 : decode cX12_findsWidths 19 = .ok (.istore 4, 2) := by decide +kernel
theorem dX12_findsWidths_21 : decode cX12_findsWidths 21 = .ok (.iconst 0, 1) := by decide +kernel
theorem dX12_findsWidths_22 : decode cX12_findsWidths 22 = .ok (.istore 5, 2) := by decide +kernel
theorem dX12_findsWidths_24 : decode cX12_findsWidths 24 = .ok (.iload 5, 2) := by decide +kernel
theorem dX12_findsWidths_26 : decode cX12_findsWidths 26 = .ok (.aload_n 0, 1) := by decide +kernel
theorem dX12_findsWidths_27 : decode cX12_findsWidths 27 = .ok (.getfield 16, 3) := by decide +kernel
theorem dX12_findsWidths_30 : decode cX12_findsWidths 30 = .ok (.if_icmp .ge 74, 3) := by decide +kernel
theorem dX12_findsWidths_33 : decode cX12_findsWidths 33 = .ok (.aload_n 0, 1) := by decide +kernel
theorem dX12_findsWidths_34 : decode cX12_findsWidths 34 = .ok (.getfield 23, 3) := by decide +kernel
theorem dX12_findsWidths_37 : decode cX12_findsWidths 37 = .ok (.iload 5, 2) := by decide +kernel
theorem dX12_findsWidths_39 : decode cX12_findsWidths 39 = .ok (.iaload, 1) := by decide +kernel
theorem dX12_findsWidths_40 : decode cX12_findsWidths 40 = .ok (.iload_n 1, 1) := by decide +kernel
theorem dX12_findsWidths_41 : decode cX12_findsWidths 41 = .ok (.if_icmp .ne 57, 3) := by decide +kernel
theorem dX12_findsWidths_44 : decode cX12_findsWidths 44 = .ok (.aload_n 0, 1) := by decide +kernel
theorem dX12_findsWidths_45 : decode cX12_findsWidths 45 = .ok (.getfield 90, 3) := by decide +kernel
theorem dX12_findsWidths_48 : decode cX12_findsWidths 48 = .ok (.iload 5, 2) := by decide +kernel
theorem dX12_findsWidths_50 : decode cX12_findsWidths 50 = .ok (.aload_n 0, 1) := by decide +kernel
theorem dX12_findsWidths_51 : decode cX12_findsWidths 51 = .ok (.getfield 90, 3) := by decide +kernel
theorem dX12_findsWidths_54 : decode cX12_findsWidths 54 = .ok (.iload_n 1, 1) := by decide +kernel
theorem dX12_findsWidths_55 : decode cX12_findsWidths 55 = .ok (.baload, 1) := by decide +kernel
theorem dX12_findsWidths_56 : decode cX12_findsWidths 56 = .ok (.ifCond .eq 18, 3) := by decide +kernel
theorem dX12_findsWidths_59 : decode cX12_findsWidths 59 = .ok (.aload_n 0, 1) := by decide +kernel
theorem dX12_findsWidths_60 : decode cX12_findsWidths 60 = .ok (.iload 5, 2) := by decide +kernel
theorem dX12_findsWidths_62 : decode cX12_findsWidths 62 = .ok (.iconst 5, 1) := by decide +kernel
theorem dX12_findsWidths_63 : decode cX12_findsWidths 63 = .ok (.invokevirtual 223, 3) := by decide +kernel
theorem dX12_findsWidths_66 : decode cX12_findsWidths 66 = .ok (.iconst 3, 1) := by decide +kernel
theorem dX12_findsWidths_67 : decode cX12_findsWidths 67 = .ok (.if_icmp .eq 7, 3) := by decide +kernel
theorem dX12_findsWidths_70 : decode cX12_findsWidths 70 = .ok (.iconst 1, 1) := by decide +kernel
theorem dX12_findsWidths_71 : decode cX12_findsWidths 71 = .ok (.goto 4, 3) := by decide +kernel
theorem dX12_findsWidths_74 : decode cX12_findsWidths 74 = .ok (.iconst 0, 1) := by decide +kernel
theorem dX12_findsWidths_75 : decode cX12_findsWidths 75 = .ok (.bastore, 1) := by decide +kernel
theorem dX12_findsWidths_76 : decode cX12_findsWidths 76 = .ok (.aload_n 0, 1) := by decide +kernel
theorem dX12_findsWidths_77 : decode cX12_findsWidths 77 = .ok (.getfield 90, 3) := by decide +kernel
theorem dX12_findsWidths_80 : decode cX12_findsWidths 80 = .ok (.iload 5, 2) := by decide +kernel
theorem dX12_findsWidths_82 : decode cX12_findsWidths 82 = .ok (.baload, 1) := by decide +kernel
theorem dX12_findsWidths_83 : decode cX12_findsWidths 83 = .ok (.ifCond .eq 15, 3) := by decide +kernel
theorem dX12_findsWidths_86 : decode cX12_findsWidths 86 = .ok (.aload_n 0, 1) := by decide +kernel
theorem dX12_findsWidths_87 : decode cX12_findsWidths 87 = .ok (.getfield 102, 3) := by decide +kernel
theorem dX12_findsWidths_90 : decode cX12_findsWidths 90 = .ok (.iload 4, 2) := by decide +kernel
theorem dX12_findsWidths_92 : decode cX12_findsWidths 92 = .ok (.iload 5, 2) := by decide +kernel
theorem dX12_findsWidths_94 : decode cX12_findsWidths 94 = .ok (.iastore, 1) := by decide +kernel
theorem dX12_findsWidths_95 : decode cX12_findsWidths 95 = .ok (.iinc 4 1, 3) := by decide +kernel
theorem dX12_findsWidths_98 : decode cX12_findsWidths 98 = .ok (.iinc 5 1, 3) := by decide +kernel
theorem dX12_findsWidths_101 : decode cX12_findsWidths 101 = .ok (.goto (-77), 3) := by decide +kernel
theorem dX12_findsWidths_104 : decode cX12_findsWidths 104 = .ok (.iconst 0, 1) := by decide +kernel
theorem dX12_findsWidths_105 : decode cX12_findsWidths 105 = .ok (.istore 5, 2) := by decide +kernel
theorem dX12_findsWidths_107 : decode cX12_findsWidths 107 = .ok (.iload 5, 2) := by decide +kernel
theorem dX12_findsWidths_109 : decode cX12_findsWidths 109 = .ok (.iload 4, 2) := by decide +kernel
theorem dX12_findsWidths_111 : decode cX12_findsWidths 111 = .ok (.if_icmp .ge 140, 3) := by decide +kernel
theorem dX12_findsWidths_114 : decode cX12_findsWidths 114 = .ok (.aload_n 0, 1) := by decide +kernel
theorem dX12_findsWidths_115 : decode cX12_findsWidths 115 = .ok (.getfield 102, 3) := by decide +kernel
theorem dX12_findsWidths_118 : decode cX12_findsWidths 118 = .ok (.iload 5, 2) := by decide +kernel
theorem dX12_findsWidths_120 : decode cX12_findsWidths 120 = .ok (.iaload, 1) := by decide +kernel
theorem dX12_findsWidths_121 : decode cX12_findsWidths 121 = .ok (.istore 6, 2) := by decide +kernel
theorem dX12_findsWidths_123 : decode cX12_findsWidths 123 = .ok (.aload_n 0, 1) := by decide +kernel
theorem dX12_findsWidths_124 : decode cX12_findsWidths 124 = .ok (.iload 6, 2) := by decide +kernel
theorem dX12_findsWidths_126 : decode cX12_findsWidths 126 = .ok (.iconst 0, 1) := by decide +kernel
theorem dX12_findsWidths_127 : decode cX12_findsWidths 127 = .ok (.invokevirtual 223, 3) := by decide +kernel
theorem dX12_findsWidths_130 : decode cX12_findsWidths 130 = .ok (.istore 7, 2) := by decide +kernel
theorem dX12_findsWidths_132 : decode cX12_findsWidths 132 = .ok (.aload_n 0, 1) := by decide +kernel
theorem dX12_findsWidths_133 : decode cX12_findsWidths 133 = .ok (.iload_n 1, 1) := by decide +kernel
theorem dX12_findsWidths_134 : decode cX12_findsWidths 134 = .ok (.bipush 7, 2) := by decide +kernel
theorem dX12_findsWidths_136 : decode cX12_findsWidths 136 = .ok (.invokevirtual 223, 3) := by decide +kernel
theorem dX12_findsWidths_139 : decode cX12_findsWidths 139 = .ok (.istore 8, 2) := by decide +kernel
theorem dX12_findsWidths_141 : decode cX12_findsWidths 141 = .ok (.iload_n 2, 1) := by decide +kernel
theorem dX12_findsWidths_142 : decode cX12_findsWidths 142 = .ok (.iload 8, 2) := by decide +kernel
theorem dX12_findsWidths_144 : decode cX12_findsWidths 144 = .ok (.idiv, 1) := by decide +kernel
theorem dX12_findsWidths_145 : decode cX12_findsWidths 145 = .ok (.iload 5, 2) := by decide +kernel
theorem dX12_findsWidths_147 : decode cX12_findsWidths 147 = .ok (.iload 8, 2) := by decide +kernel
theorem dX12_findsWidths_149 : decode cX12_findsWidths 149 = .ok (.irem, 1) := by decide +kernel
theorem dX12_findsWidths_150 : decode cX12_findsWidths 150 = .ok (.iload_n 2, 1) := by decide +kernel
theorem dX12_findsWidths_151 : decode cX12_findsWidths 151 = .ok (.iload 8, 2) := by decide +kernel
theorem dX12_findsWidths_153 : decode cX12_findsWidths 153 = .ok (.irem, 1) := by decide +kernel
theorem dX12_findsWidths_154 : decode cX12_findsWidths 154 = .ok (.if_icmp .ge 7, 3) := by decide +kernel
theorem dX12_findsWidths_157 : decode cX12_findsWidths 157 = .ok (.iconst 1, 1) := by decide +kernel
theorem dX12_findsWidths_158 : decode cX12_findsWidths 158 = .ok (.goto 4, 3) := by decide +kernel
theorem dX12_findsWidths_161 : decode cX12_findsWidths 161 = .ok (.iconst 0, 1) := by decide +kernel
theorem dX12_findsWidths_162 : decode cX12_findsWidths 162 = .ok (.iadd, 1) := by decide +kernel
theorem dX12_findsWidths_163 : decode cX12_findsWidths 163 = .ok (.istore 9, 2) := by decide +kernel
theorem dX12_findsWidths_165 : decode cX12_findsWidths 165 = .ok (.iload_n 3, 1) := by decide +kernel
theorem dX12_findsWidths_166 : decode cX12_findsWidths 166 = .ok (.iconst 1, 1) := by decide +kernel
theorem dX12_findsWidths_167 : decode cX12_findsWidths 167 = .ok (.if_icmp .ne 26, 3) := by decide +kernel
theorem dX12_findsWidths_170 : decode cX12_findsWidths 170 = .ok (.aload_n 0, 1) := by decide +kernel
theorem dX12_findsWidths_171 : decode cX12_findsWidths 171 = .ok (.getfield 35, 3) := by decide +kernel
theorem dX12_findsWidths_174 : decode cX12_findsWidths 174 = .ok (.iload 6, 2) := by decide +kernel
theorem dX12_findsWidths_176 : decode cX12_findsWidths 176 = .ok (.baload, 1) := by decide +kernel
theorem dX12_findsWidths_177 : decode cX12_findsWidths 177 = .ok (.ifCond .eq 7, 3) := by decide +kernel
theorem dX12_findsWidths_180 : decode cX12_findsWidths 180 = .ok (.iconst 0, 1) := by decide +kernel
theorem dX12_findsWidths_181 : decode cX12_findsWidths 181 = .ok (.goto 13, 3) := by decide +kernel
theorem dX12_findsWidths_184 : decode cX12_findsWidths 184 = .ok (.aload_n 0, 1) := by decide +kernel
theorem dX12_findsWidths_185 : decode cX12_findsWidths 185 = .ok (.iload 6, 2) := by decide +kernel
theorem dX12_findsWidths_187 : decode cX12_findsWidths 187 = .ok (.invokevirtual 226, 3) := by decide +kernel
theorem dX12_findsWidths_190 : decode cX12_findsWidths 190 = .ok (.goto 4, 3) := by decide +kernel
theorem dX12_findsWidths_193 : decode cX12_findsWidths 193 = .ok (.iload_n 2, 1) := by decide +kernel
theorem dX12_findsWidths_194 : decode cX12_findsWidths 194 = .ok (.istore 10, 2) := by decide +kernel
theorem dX12_findsWidths_196 : decode cX12_findsWidths 196 = .ok (.aload_n 0, 1) := by decide +kernel
theorem dX12_findsWidths_197 : decode cX12_findsWidths 197 = .ok (.getfield 81, 3) := by decide +kernel
theorem dX12_findsWidths_200 : decode cX12_findsWidths 200 = .ok (.iconst 4, 1) := by decide +kernel
theorem dX12_findsWidths_201 : decode cX12_findsWidths 201 = .ok (.iload 6, 2) := by decide +kernel
theorem dX12_findsWidths_203 : decode cX12_findsWidths 203 = .ok (.imul, 1) := by decide +kernel
theorem dX12_findsWidths_204 : decode cX12_findsWidths 204 = .ok (.iconst 2, 1) := by decide +kernel
theorem dX12_findsWidths_205 : decode cX12_findsWidths 205 = .ok (.iadd, 1) := by decide +kernel
theorem dX12_findsWidths_206 : decode cX12_findsWidths 206 = .ok (.iload_n 3, 1) := by decide +kernel
theorem dX12_findsWidths_207 : decode cX12_findsWidths 207 = .ok (.iconst 2, 1) := by decide +kernel
theorem dX12_findsWidths_208 : decode cX12_findsWidths 208 = .ok (.if_icmp .ne 8, 3) := by decide +kernel
theorem dX12_findsWidths_211 : decode cX12_findsWidths 211 = .ok (.iload 9, 2) := by decide +kernel
theorem dX12_findsWidths_213 : decode cX12_findsWidths 213 = .ok (.goto 23, 3) := by decide +kernel
theorem dX12_findsWidths_216 : decode cX12_findsWidths 216 = .ok (.aload_n 0, 1) := by decide +kernel
theorem dX12_findsWidths_217 : decode cX12_findsWidths 217 = .ok (.iload 6, 2) := by decide +kernel
theorem dX12_findsWidths_219 : decode cX12_findsWidths 219 = .ok (.iload 7, 2) := by decide +kernel
theorem dX12_findsWidths_221 : decode cX12_findsWidths 221 = .ok (.bipush (-2), 2) := by decide +kernel
theorem dX12_findsWidths_223 : decode cX12_findsWidths 223 = .ok (.if_icmp .ne 8, 3) := by decide +kernel
theorem dX12_findsWidths_226 : decode cX12_findsWidths 226 = .ok (.iload 10, 2) := by decide +kernel
theorem dX12_findsWidths_228 : decode cX12_findsWidths 228 = .ok (.goto 5, 3) := by decide +kernel
theorem dX12_findsWidths_231 : decode cX12_findsWidths 231 = .ok (.iload 7, 2) := by decide +kernel
theorem dX12_findsWidths_233 : decode cX12_findsWidths 233 = .ok (.invokevirtual 229, 3) := by decide +kernel
theorem dX12_findsWidths_236 : decode cX12_findsWidths 236 = .ok (.iastore, 1) := by decide +kernel
theorem dX12_findsWidths_237 : decode cX12_findsWidths 237 = .ok (.aload_n 0, 1) := by decide +kernel
theorem dX12_findsWidths_238 : decode cX12_findsWidths 238 = .ok (.getfield 105, 3) := by decide +kernel
theorem dX12_findsWidths_241 : decode cX12_findsWidths 241 = .ok (.iload 5, 2) := by decide +kernel
theorem dX12_findsWidths_243 : decode cX12_findsWidths 243 = .ok (.iconst 0, 1) := by decide +kernel
theorem dX12_findsWidths_244 : decode cX12_findsWidths 244 = .ok (.bastore, 1) := by decide +kernel
theorem dX12_findsWidths_245 : decode cX12_findsWidths 245 = .ok (.iinc 5 1, 3) := by decide +kernel
theorem dX12_findsWidths_248 : decode cX12_findsWidths 248 = .ok (.goto (-141), 3) := by decide +kernel
theorem dX12_findsWidths_251 : decode cX12_findsWidths 251 = .ok (.iload_n 3, 1) := by decide +kernel
theorem dX12_findsWidths_252 : decode cX12_findsWidths 252 = .ok (.iconst 1, 1) := by decide +kernel
theorem dX12_findsWidths_253 : decode cX12_findsWidths 253 = .ok (.if_icmp .ne 10, 3) := by decide +kernel
theorem dX12_findsWidths_256 : decode cX12_findsWidths 256 = .ok (.aload_n 0, 1) := by decide +kernel
theorem dX12_findsWidths_257 : decode cX12_findsWidths 257 = .ok (.iload 4, 2) := by decide +kernel
theorem dX12_findsWidths_259 : decode cX12_findsWidths 259 = .ok (.iload_n 2, 1) := by decide +kernel
theorem dX12_findsWidths_260 : decode cX12_findsWidths 260 = .ok (.invokevirtual 232, 3) := by decide +kernel
theorem dX12_findsWidths_263 : decode cX12_findsWidths 263 = .ok (.return_, 1) := by decide +kernel
theorem dX12_shares_0 : decode cX12_shares 0 = .ok (.iconst 1, 1) := by decide +kernel
theorem dX12_shares_1 : decode cX12_shares 1 = .ok (.istore_n 3, 1) := by decide +kernel
theorem dX12_shares_2 : decode cX12_shares 2 = .ok (.iload_n 3, 1) := by decide +kernel
theorem dX12_shares_3 : decode cX12_shares 3 = .ok (.ifCond .eq 423, 3) := by decide +kernel
theorem dX12_shares_6 : decode cX12_shares 6 = .ok (.iload_n 2, 1) := by decide +kernel
theorem dX12_shares_7 : decode cX12_shares 7 = .ok (.istore 4, 2) := by decide +kernel
theorem dX12_shares_9 : decode cX12_shares 9 = .ok (.iconst 0, 1) := by decide +kernel
theorem dX12_shares_10 : decode cX12_shares 10 = .ok (.istore 5, 2) := by decide +kernel
theorem dX12_shares_12 : decode cX12_shares 12 = .ok (.iconst 0, 1) := by decide +kernel
theorem dX12_shares_13 : decode cX12_shares 13 = .ok (.istore 6, 2) := by decide +kernel
theorem dX12_shares_15 : decode cX12_shares 15 = .ok (.iload 6, 2) := by decide +kernel
theorem dX12_shares_17 : decode cX12_shares 17 = .ok (.iload_n 1, 1) := by decide +kernel
theorem dX12_shares_18 : decode cX12_shares 18 = .ok (.if_icmp .ge 62, 3) := by decide +kernel
theorem dX12_shares_21 : decode cX12_shares 21 = .ok (.iload 4, 2) := by decide +kernel
theorem dX12_shares_23 : decode cX12_shares 23 = .ok (.aload_n 0, 1) := by decide +kernel
theorem dX12_shares_24 : decode cX12_shares 24 = .ok (.getfield 81, 3) := by decide +kernel
theorem dX12_shares_27 : decode cX12_shares 27 = .ok (.iconst 4, 1) := by decide +kernel
theorem dX12_shares_28 : decode cX12_shares 28 = .ok (.aload_n 0, 1) := by decide +kernel
theorem dX12_shares_29 : decode cX12_shares 29 = .ok (.getfield 102, 3) := by decide +kernel
theorem dX12_shares_32 : decode cX12_shares 32 = .ok (.iload 6, 2) := by decide +kernel
theorem dX12_shares_34 : decode cX12_shares 34 = .ok (.iaload, 1) := by decide +kernel
theorem dX12_shares_35 : decode cX12_shares 35 = .ok (.imul, 1) := by decide +kernel
theorem dX12_shares_36 : decode cX12_shares 36 = .ok (.iconst 2, 1) := by decide +kernel
theorem dX12_shares_37 : decode cX12_shares 37 = .ok (.iadd, 1) := by decide +kernel
theorem dX12_shares_38 : decode cX12_shares 38 = .ok (.iaload, 1) := by decide +kernel
theorem dX12_shares_39 : decode cX12_shares 39 = .ok (.isub, 1) := by decide +kernel
theorem dX12_shares_40 : decode cX12_shares 40 = .ok (.istore 4, 2) := by decide +kernel
theorem dX12_shares_42 : decode cX12_shares 42 = .ok (.iload 5, 2) := by decide +kernel
theorem dX12_shares_44 : decode cX12_shares 44 = .ok (.aload_n 0, 1) := by decide +kernel
theorem dX12_shares_45 : decode cX12_shares 45 = .ok (.getfield 105, 3) := by decide +kernel
theorem dX12_shares_48 : decode cX12_shares 48 = .ok (.iload 6, 2) := by decide +kernel
theorem dX12_shares_50 : decode cX12_shares 50 = .ok (.baload, 1) := by decide +kernel
theorem dX12_shares_51 : decode cX12_shares 51 = .ok (.ifCond .eq 7, 3) := by decide +kernel
theorem dX12_shares_54 : decode cX12_shares 54 = .ok (.iconst 0, 1) := by decide +kernel
theorem dX12_shares_55 : decode cX12_shares 55 = .ok (.goto 16, 3) := by decide +kernel
theorem dX12_shares_58 : decode cX12_shares 58 = .ok (.aload_n 0, 1) := by decide +kernel
theorem dX12_shares_59 : decode cX12_shares 59 = .ok (.aload_n 0, 1) := by decide +kernel
theorem dX12_shares_60 : decode cX12_shares 60 = .ok (.getfield 102, 3) := by decide +kernel
theorem dX12_shares_63 : decode cX12_shares 63 = .ok (.iload 6, 2) := by decide +kernel
theorem dX12_shares_65 : decode cX12_shares 65 = .ok (.iaload, 1) := by decide +kernel
theorem dX12_shares_66 : decode cX12_shares 66 = .ok (.bipush 6, 2) := by decide +kernel
theorem dX12_shares_68 : decode cX12_shares 68 = .ok (.invokevirtual 223, 3) := by decide +kernel
theorem dX12_shares_71 : decode cX12_shares 71 = .ok (.iadd, 1) := by decide +kernel
theorem dX12_shares_72 : decode cX12_shares 72 = .ok (.istore 5, 2) := by decide +kernel
theorem dX12_shares_74 : decode cX12_shares 74 = .ok (.iinc 6 1, 3) := by decide +kernel
theorem dX12_shares_77 : decode cX12_shares 77 = .ok (.goto (-62), 3) := by decide +kernel
theorem dX12_shares_80 : decode cX12_shares 80 = .ok (.iconst 0, 1) := by decide +kernel
theorem dX12_shares_81 : decode cX12_shares 81 = .ok (.istore_n 3, 1) := by decide +kernel
theorem dX12_shares_82 : decode cX12_shares 82 = .ok (.iload 4, 2) := by decide +kernel
theorem dX12_shares_84 : decode cX12_shares 84 = .ok (.ifCond .le 339, 3) := by decide +kernel
theorem dX12_shares_87 : decode cX12_shares 87 = .ok (.iload 5, 2) := by decide +kernel
theorem dX12_shares_89 : decode cX12_shares 89 = .ok (.ifCond .le 334, 3) := by decide +kernel
theorem dX12_shares_92 : decode cX12_shares 92 = .ok (.iload 4, 2) := by decide +kernel
theorem dX12_shares_94 : decode cX12_shares 94 = .ok (.istore 6, 2) := by decide +kernel
theorem dX12_shares_96 : decode cX12_shares 96 = .ok (.iconst 0, 1) := by decide +kernel
theorem dX12_shares_97 : decode cX12_shares 97 = .ok (.istore 7, 2) := by decide +kernel
theorem dX12_shares_99 : decode cX12_shares 99 = .ok (.iload 7, 2) := by decide +kernel
theorem dX12_shares_101 : decode cX12_shares 101 = .ok (.iload_n 1, 1) := by decide +kernel
theorem dX12_shares_102 : decode cX12_shares 102 = .ok (.if_icmp .ge 47, 3) := by decide +kernel
theorem dX12_shares_105 : decode cX12_shares 105 = .ok (.iload 6, 2) := by decide +kernel
theorem dX12_shares_107 : decode cX12_shares 107 = .ok (.aload_n 0, 1) := by decide +kernel
theorem dX12_shares_108 : decode cX12_shares 108 = .ok (.getfield 105, 3) := by decide +kernel
theorem dX12_shares_111 : decode cX12_shares 111 = .ok (.iload 7, 2) := by decide +kernel
theorem dX12_shares_113 : decode cX12_shares 113 = .ok (.baload, 1) := by decide +kernel
theorem dX12_shares_114 : decode cX12_shares 114 = .ok (.ifCond .eq 7, 3) := by decide +kernel
theorem dX12_shares_117 : decode cX12_shares 117 = .ok (.iconst 0, 1) := by decide +kernel
theorem dX12_shares_118 : decode cX12_shares 118 = .ok (.goto 22, 3) := by decide +kernel
theorem dX12_shares_121 : decode cX12_shares 121 = .ok (.iload 4, 2) := by decide +kernel
theorem dX12_shares_123 : decode cX12_shares 123 = .ok (.aload_n 0, 1) := by decide +kernel
theorem dX12_shares_124 : decode cX12_shares 124 = .ok (.aload_n 0, 1) := by decide +kernel
theorem dX12_shares_125 : decode cX12_shares 125 = .ok (.getfield 102, 3) := by decide +kernel
theorem dX12_shares_128 : decode cX12_shares 128 = .ok (.iload 7, 2) := by decide +kernel
theorem dX12_shares_130 : decode cX12_shares 130 = .ok (.iaload, 1) := by decide +kernel
theorem dX12_shares_131 : decode cX12_shares 131 = .ok (.bipush 6, 2) := by decide +kernel
theorem dX12_shares_133 : decode cX12_shares 133 = .ok (.invokevirtual 223, 3) := by decide +kernel
theorem dX12_shares_136 : decode cX12_shares 136 = .ok (.imul, 1) := by decide +kernel
theorem dX12_shares_137 : decode cX12_shares 137 = .ok (.iload 5, 2) := by decide +kernel
theorem dX12_shares_139 : decode cX12_shares 139 = .ok (.idiv, 1) := by decide +kernel
theorem dX12_shares_140 : decode cX12_shares 140 = .ok (.isub, 1) := by decide +kernel
theorem dX12_shares_141 : decode cX12_shares 141 = .ok (.istore 6, 2) := by decide +kernel
theorem dX12_shares_143 : decode cX12_shares 143 = .ok (.iinc 7 1, 3) := by decide +kernel
theorem dX12_shares_146 : decode cX12_shares 146 = .ok (.goto (-47), 3) := by decide +kernel
theorem dX12_shares_149 : decode cX12_shares 149 = .ok (.iconst 0, 1) := by decide +kernel
theorem dX12_shares_150 : decode cX12_shares 150 = .ok (.istore 7, 2) := by decide +kernel
theorem dX12_shares_152 : decode cX12_shares 152 = .ok (.iload 7, 2) := by decide +kernel
theorem dX12_shares_154 : decode cX12_shares 154 = .ok (.iload_n 1, 1) := by decide +kernel
theorem dX12_shares_155 : decode cX12_shares 155 = .ok (.if_icmp .ge 174, 3) := by decide +kernel
theorem dX12_shares_158 : decode cX12_shares 158 = .ok (.aload_n 0, 1) := by decide +kernel
theorem dX12_shares_159 : decode cX12_shares 159 = .ok (.getfield 105, 3) := by decide +kernel
theorem dX12_shares_162 : decode cX12_shares 162 = .ok (.iload 7, 2) := by decide +kernel
theorem dX12_shares_164 : decode cX12_shares 164 = .ok (.baload, 1) := by decide +kernel
theorem dX12_shares_165 : decode cX12_shares 165 = .ok (.ifCond .ne 23, 3) := by decide +kernel
theorem dX12_shares_168 : decode cX12_shares 168 = .ok (.aload_n 0, 1) := by decide +kernel
theorem dX12_shares_169 : decode cX12_shares 169 = .ok (.aload_n 0, 1) := by decide +kernel
theorem dX12_shares_170 : decode cX12_shares 170 = .ok (.getfield 102, 3) := by decide +kernel
theorem dX12_shares_173 : decode cX12_shares 173 = .ok (.iload 7, 2) := by decide +kernel
theorem dX12_shares_175 : decode cX12_shares 175 = .ok (.iaload, 1) := by decide +kernel
theorem dX12_shares_176 : decode cX12_shares 176 = .ok (.bipush 6, 2) := by decide +kernel
theorem dX12_shares_178 : decode cX12_shares 178 = .ok (.invokevirtual 223, 3) := by decide +kernel
theorem dX12_shares_181 : decode cX12_shares 181 = .ok (.ifCond .le 7, 3) := by decide +kernel
theorem dX12_shares_184 : decode cX12_shares 184 = .ok (.iconst 1, 1) := by decide +kernel
theorem dX12_shares_185 : decode cX12_shares 185 = .ok (.goto 4, 3) := by decide +kernel
theorem dX12_shares_188 : decode cX12_shares 188 = .ok (.iconst 0, 1) := by decide +kernel
theorem dX12_shares_189 : decode cX12_shares 189 = .ok (.istore 8, 2) := by decide +kernel
theorem dX12_shares_191 : decode cX12_shares 191 = .ok (.aload_n 0, 1) := by decide +kernel
theorem dX12_shares_192 : decode cX12_shares 192 = .ok (.getfield 114, 3) := by decide +kernel
theorem dX12_shares_195 : decode cX12_shares 195 = .ok (.iload 7, 2) := by decide +kernel
theorem dX12_shares_197 : decode cX12_shares 197 = .ok (.iload 8, 2) := by decide +kernel
theorem dX12_shares_199 : decode cX12_shares 199 = .ok (.ifCond .eq 36, 3) := by decide +kernel
theorem dX12_shares_202 : decode cX12_shares 202 = .ok (.iload 4, 2) := by decide +kernel
theorem dX12_shares_204 : decode cX12_shares 204 = .ok (.aload_n 0, 1) := by decide +kernel
theorem dX12_shares_205 : decode cX12_shares 205 = .ok (.aload_n 0, 1) := by decide +kernel
theorem dX12_shares_206 : decode cX12_shares 206 = .ok (.getfield 102, 3) := by decide +kernel
theorem dX12_shares_209 : decode cX12_shares 209 = .ok (.iload 7, 2) := by decide +kernel
theorem dX12_shares_211 : decode cX12_shares 211 = .ok (.iaload, 1) := by decide +kernel
theorem dX12_shares_212 : decode cX12_shares 212 = .ok (.bipush 6, 2) := by decide +kernel
theorem dX12_shares_214 : decode cX12_shares 214 = .ok (.invokevirtual 223, 3) := by decide +kernel
theorem dX12_shares_217 : decode cX12_shares 217 = .ok (.imul, 1) := by decide +kernel
theorem dX12_shares_218 : decode cX12_shares 218 = .ok (.iload 5, 2) := by decide +kernel
theorem dX12_shares_220 : decode cX12_shares 220 = .ok (.idiv, 1) := by decide +kernel
theorem dX12_shares_221 : decode cX12_shares 221 = .ok (.iload 6, 2) := by decide +kernel
theorem dX12_shares_223 : decode cX12_shares 223 = .ok (.ifCond .le 7, 3) := by decide +kernel
theorem dX12_shares_226 : decode cX12_shares 226 = .ok (.iconst 1, 1) := by decide +kernel
theorem dX12_shares_227 : decode cX12_shares 227 = .ok (.goto 4, 3) := by decide +kernel
theorem dX12_shares_230 : decode cX12_shares 230 = .ok (.iconst 0, 1) := by decide +kernel
theorem dX12_shares_231 : decode cX12_shares 231 = .ok (.iadd, 1) := by decide +kernel
theorem dX12_shares_232 : decode cX12_shares 232 = .ok (.goto 4, 3) := by decide +kernel
theorem dX12_shares_235 : decode cX12_shares 235 = .ok (.iconst 0, 1) := by decide +kernel
theorem dX12_shares_236 : decode cX12_shares 236 = .ok (.iastore, 1) := by decide +kernel
theorem dX12_shares_237 : decode cX12_shares 237 = .ok (.iload 6, 2) := by decide +kernel
theorem dX12_shares_239 : decode cX12_shares 239 = .ok (.iload 8, 2) := by decide +kernel
theorem dX12_shares_241 : decode cX12_shares 241 = .ok (.ifCond .eq 12, 3) := by decide +kernel
theorem dX12_shares_244 : decode cX12_shares 244 = .ok (.iload 6, 2) := by decide +kernel
theorem dX12_shares_246 : decode cX12_shares 246 = .ok (.ifCond .le 7, 3) := by decide +kernel
theorem dX12_shares_249 : decode cX12_shares 249 = .ok (.iconst 1, 1) := by decide +kernel
theorem dX12_shares_250 : decode cX12_shares 250 = .ok (.goto 4, 3) := by decide +kernel
theorem dX12_shares_253 : decode cX12_shares 253 = .ok (.iconst 0, 1) := by decide +kernel
theorem dX12_shares_254 : decode cX12_shares 254 = .ok (.isub, 1) := by decide +kernel
theorem dX12_shares_255 : decode cX12_shares 255 = .ok (.istore 6, 2) := by decide +kernel
theorem dX12_shares_257 : decode cX12_shares 257 = .ok (.aload_n 0, 1) := by decide +kernel
theorem dX12_shares_258 : decode cX12_shares 258 = .ok (.getfield 81, 3) := by decide +kernel
theorem dX12_shares_261 : decode cX12_shares 261 = .ok (.iconst 4, 1) := by decide +kernel
theorem dX12_shares_262 : decode cX12_shares 262 = .ok (.aload_n 0, 1) := by decide +kernel
theorem dX12_shares_263 : decode cX12_shares 263 = .ok (.getfield 102, 3) := by decide +kernel
theorem dX12_shares_266 : decode cX12_shares 266 = .ok (.iload 7, 2) := by decide +kernel
theorem dX12_shares_268 : decode cX12_shares 268 = .ok (.iaload, 1) := by decide +kernel
theorem dX12_shares_269 : decode cX12_shares 269 = .ok (.imul, 1) := by decide +kernel
theorem dX12_shares_270 : decode cX12_shares 270 = .ok (.iconst 2, 1) := by decide +kernel
theorem dX12_shares_271 : decode cX12_shares 271 = .ok (.iadd, 1) := by decide +kernel
theorem dX12_shares_272 : decode cX12_shares 272 = .ok (.iaload, 1) := by decide +kernel
theorem dX12_shares_273 : decode cX12_shares 273 = .ok (.aload_n 0, 1) := by decide +kernel
theorem dX12_shares_274 : decode cX12_shares 274 = .ok (.getfield 114, 3) := by decide +kernel
theorem dX12_shares_277 : decode cX12_shares 277 = .ok (.iload 7, 2) := by decide +kernel
theorem dX12_shares_279 : decode cX12_shares 279 = .ok (.iaload, 1) := by decide +kernel
theorem dX12_shares_280 : decode cX12_shares 280 = .ok (.iadd, 1) := by decide +kernel
theorem dX12_shares_281 : decode cX12_shares 281 = .ok (.istore 9, 2) := by decide +kernel
theorem dX12_shares_283 : decode cX12_shares 283 = .ok (.aload_n 0, 1) := by decide +kernel
theorem dX12_shares_284 : decode cX12_shares 284 = .ok (.getfield 117, 3) := by decide +kernel
theorem dX12_shares_287 : decode cX12_shares 287 = .ok (.iload 7, 2) := by decide +kernel
theorem dX12_shares_289 : decode cX12_shares 289 = .ok (.aload_n 0, 1) := by decide +kernel
theorem dX12_shares_290 : decode cX12_shares 290 = .ok (.aload_n 0, 1) := by decide +kernel
theorem dX12_shares_291 : decode cX12_shares 291 = .ok (.getfield 102, 3) := by decide +kernel
theorem dX12_shares_294 : decode cX12_shares 294 = .ok (.iload 7, 2) := by decide +kernel
theorem dX12_shares_296 : decode cX12_shares 296 = .ok (.iaload, 1) := by decide +kernel
theorem dX12_shares_297 : decode cX12_shares 297 = .ok (.iload 9, 2) := by decide +kernel
theorem dX12_shares_299 : decode cX12_shares 299 = .ok (.invokevirtual 229, 3) := by decide +kernel
theorem dX12_shares_302 : decode cX12_shares 302 = .ok (.iload 9, 2) := by decide +kernel
theorem dX12_shares_304 : decode cX12_shares 304 = .ok (.if_icmp .ge 7, 3) := by decide +kernel
theorem dX12_shares_307 : decode cX12_shares 307 = .ok (.iconst 1, 1) := by decide +kernel
theorem dX12_shares_308 : decode cX12_shares 308 = .ok (.goto 4, 3) := by decide +kernel
theorem dX12_shares_311 : decode cX12_shares 311 = .ok (.iconst 0, 1) := by decide +kernel
theorem dX12_shares_312 : decode cX12_shares 312 = .ok (.bastore, 1) := by decide +kernel
theorem dX12_shares_313 : decode cX12_shares 313 = .ok (.iload_n 3, 1) := by decide +kernel
theorem dX12_shares_314 : decode cX12_shares 314 = .ok (.aload_n 0, 1) := by decide +kernel
theorem dX12_shares_315 : decode cX12_shares 315 = .ok (.getfield 117, 3) := by decide +kernel
theorem dX12_shares_318 : decode cX12_shares 318 = .ok (.iload 7, 2) := by decide +kernel
theorem dX12_shares_320 : decode cX12_shares 320 = .ok (.baload, 1) := by decide +kernel
theorem dX12_shares_321 : decode cX12_shares 321 = .ok (.ior, 1) := by decide +kernel
theorem dX12_shares_322 : decode cX12_shares 322 = .ok (.istore_n 3, 1) := by decide +kernel
theorem dX12_shares_323 : decode cX12_shares 323 = .ok (.iinc 7 1, 3) := by decide +kernel
theorem dX12_shares_326 : decode cX12_shares 326 = .ok (.goto (-174), 3) := by decide +kernel
theorem dX12_shares_329 : decode cX12_shares 329 = .ok (.iconst 0, 1) := by decide +kernel
theorem dX12_shares_330 : decode cX12_shares 330 = .ok (.istore 7, 2) := by decide +kernel
theorem dX12_shares_332 : decode cX12_shares 332 = .ok (.iload 7, 2) := by decide +kernel
theorem dX12_shares_334 : decode cX12_shares 334 = .ok (.iload_n 1, 1) := by decide +kernel
theorem dX12_shares_335 : decode cX12_shares 335 = .ok (.if_icmp .ge 88, 3) := by decide +kernel
theorem dX12_shares_338 : decode cX12_shares 338 = .ok (.aload_n 0, 1) := by decide +kernel
theorem dX12_shares_339 : decode cX12_shares 339 = .ok (.getfield 117, 3) := by decide +kernel
theorem dX12_shares_342 : decode cX12_shares 342 = .ok (.iload 7, 2) := by decide +kernel
theorem dX12_shares_344 : decode cX12_shares 344 = .ok (.baload, 1) := by decide +kernel
theorem dX12_shares_345 : decode cX12_shares 345 = .ok (.ifCond .eq 42, 3) := by decide +kernel
theorem dX12_shares_348 : decode cX12_shares 348 = .ok (.aload_n 0, 1) := by decide +kernel
theorem dX12_shares_349 : decode cX12_shares 349 = .ok (.getfield 81, 3) := by decide +kernel
theorem dX12_shares_352 : decode cX12_shares 352 = .ok (.iconst 4, 1) := by decide +kernel
theorem dX12_shares_353 : decode cX12_shares 353 = .ok (.aload_n 0, 1) := by decide +kernel
theorem dX12_shares_354 : decode cX12_shares 354 = .ok (.getfield 102, 3) := by decide +kernel
theorem dX12_shares_357 : decode cX12_shares 357 = .ok (.iload 7, 2) := by decide +kernel
theorem dX12_shares_359 : decode cX12_shares 359 = .ok (.iaload, 1) := by decide +kernel
theorem dX12_shares_360 : decode cX12_shares 360 = .ok (.imul, 1) := by decide +kernel
theorem dX12_shares_361 : decode cX12_shares 361 = .ok (.iconst 2, 1) := by decide +kernel
theorem dX12_shares_362 : decode cX12_shares 362 = .ok (.iadd, 1) := by decide +kernel
theorem dX12_shares_363 : decode cX12_shares 363 = .ok (.aload_n 0, 1) := by decide +kernel
theorem dX12_shares_364 : decode cX12_shares 364 = .ok (.aload_n 0, 1) := by decide +kernel
theorem dX12_shares_365 : decode cX12_shares 365 = .ok (.getfield 102, 3) := by decide +kernel
theorem dX12_shares_368 : decode cX12_shares 368 = .ok (.iload 7, 2) := by decide +kernel
theorem dX12_shares_370 : decode cX12_shares 370 = .ok (.iaload, 1) := by decide +kernel
theorem dX12_shares_371 : decode cX12_shares 371 = .ok (.iconst 2, 1) := by decide +kernel
theorem dX12_shares_372 : decode cX12_shares 372 = .ok (.invokevirtual 223, 3) := by decide +kernel
theorem dX12_shares_375 : decode cX12_shares 375 = .ok (.iastore, 1) := by decide +kernel
theorem dX12_shares_376 : decode cX12_shares 376 = .ok (.aload_n 0, 1) := by decide +kernel
theorem dX12_shares_377 : decode cX12_shares 377 = .ok (.getfield 105, 3) := by decide +kernel
theorem dX12_shares_380 : decode cX12_shares 380 = .ok (.iload 7, 2) := by decide +kernel
theorem dX12_shares_382 : decode cX12_shares 382 = .ok (.iconst 1, 1) := by decide +kernel
theorem dX12_shares_383 : decode cX12_shares 383 = .ok (.bastore, 1) := by decide +kernel
theorem dX12_shares_384 : decode cX12_shares 384 = .ok (.goto 33, 3) := by decide +kernel
theorem dX12_shares_387 : decode cX12_shares 387 = .ok (.iload_n 3, 1) := by decide +kernel
theorem dX12_shares_388 : decode cX12_shares 388 = .ok (.ifCond .ne 29, 3) := by decide +kernel
theorem dX12_shares_391 : decode cX12_shares 391 = .ok (.aload_n 0, 1) := by decide +kernel
theorem dX12_shares_392 : decode cX12_shares 392 = .ok (.getfield 81, 3) := by decide +kernel
theorem dX12_shares_395 : decode cX12_shares 395 = .ok (.iconst 4, 1) := by decide +kernel
theorem dX12_shares_396 : decode cX12_shares 396 = .ok (.aload_n 0, 1) := by decide +kernel
theorem dX12_shares_397 : decode cX12_shares 397 = .ok (.getfield 102, 3) := by decide +kernel
theorem dX12_shares_400 : decode cX12_shares 400 = .ok (.iload 7, 2) := by decide +kernel
theorem dX12_shares_402 : decode cX12_shares 402 = .ok (.iaload, 1) := by decide +kernel
theorem dX12_shares_403 : decode cX12_shares 403 = .ok (.imul, 1) := by decide +kernel
theorem dX12_shares_404 : decode cX12_shares 404 = .ok (.iconst 2, 1) := by decide +kernel
theorem dX12_shares_405 : decode cX12_shares 405 = .ok (.iadd, 1) := by decide +kernel
theorem dX12_shares_406 : decode cX12_shares 406 = .ok (.dup2, 1) := by decide +kernel
theorem dX12_shares_407 : decode cX12_shares 407 = .ok (.iaload, 1) := by decide +kernel
theorem dX12_shares_408 : decode cX12_shares 408 = .ok (.aload_n 0, 1) := by decide +kernel
theorem dX12_shares_409 : decode cX12_shares 409 = .ok (.getfield 114, 3) := by decide +kernel
theorem dX12_shares_412 : decode cX12_shares 412 = .ok (.iload 7, 2) := by decide +kernel
theorem dX12_shares_414 : decode cX12_shares 414 = .ok (.iaload, 1) := by decide +kernel
theorem dX12_shares_415 : decode cX12_shares 415 = .ok (.iadd, 1) := by decide +kernel
theorem dX12_shares_416 : decode cX12_shares 416 = .ok (.iastore, 1) := by decide +kernel
theorem dX12_shares_417 : decode cX12_shares 417 = .ok (.iinc 7 1, 3) := by decide +kernel
theorem dX12_shares_420 : decode cX12_shares 420 = .ok (.goto (-88), 3) := by decide +kernel
theorem dX12_shares_423 : decode cX12_shares 423 = .ok (.goto (-421), 3) := by decide +kernel
theorem dX12_shares_426 : decode cX12_shares 426 = .ok (.return_, 1) := by decide +kernel
theorem dX12_findsLines_0 : decode cX12_findsLines 0 = .ok (.aload_n 0, 1) := by decide +kernel
theorem dX12_findsLines_1 : decode cX12_findsLines 1 = .ok (.getfield 84, 3) := by decide +kernel
theorem dX12_findsLines_4 : decode cX12_findsLines 4 = .ok (.iload_n 1, 1) := by decide +kernel
theorem dX12_findsLines_5 : decode cX12_findsLines 5 = .ok (.iconst 0, 1) := by decide +kernel
theorem dX12_findsLines_6 : decode cX12_findsLines 6 = .ok (.iastore, 1) := by decide +kernel
theorem dX12_findsLines_7 : decode cX12_findsLines 7 = .ok (.iconst 0, 1) := by decide +kernel
theorem dX12_findsLines_8 : decode cX12_findsLines 8 = .ok (.istore_n 2, 1) := by decide +kernel
theorem dX12_findsLines_9 : decode cX12_findsLines 9 = .ok (.aload_n 0, 1) := by decide +kernel
theorem dX12_findsLines_10 : decode cX12_findsLines 10 = .ok (.getfield 32, 3) := by decide +kernel
theorem dX12_findsLines_13 : decode cX12_findsLines 13 = .ok (.iload_n 1, 1) := by decide +kernel
theorem dX12_findsLines_14 : decode cX12_findsLines 14 = .ok (.iaload, 1) := by decide +kernel
theorem dX12_findsLines_15 : decode cX12_findsLines 15 = .ok (.istore_n 3, 1) := by decide +kernel
theorem dX12_findsLines_16 : decode cX12_findsLines 16 = .ok (.iload_n 3, 1) := by decide +kernel
theorem dX12_findsLines_17 : decode cX12_findsLines 17 = .ok (.ifCond .le 108, 3) := by decide +kernel
theorem dX12_findsLines_20 : decode cX12_findsLines 20 = .ok (.iload_n 3, 1) := by decide +kernel
theorem dX12_findsLines_21 : decode cX12_findsLines 21 = .ok (.bipush 10, 2) := by decide +kernel
theorem dX12_findsLines_23 : decode cX12_findsLines 23 = .ok (.irem, 1) := by decide +kernel
theorem dX12_findsLines_24 : decode cX12_findsLines 24 = .ok (.aload_n 0, 1) := by decide +kernel
theorem dX12_findsLines_25 : decode cX12_findsLines 25 = .ok (.iload_n 1, 1) := by decide +kernel
theorem dX12_findsLines_26 : decode cX12_findsLines 26 = .ok (.bipush 9, 2) := by decide +kernel
theorem dX12_findsLines_28 : decode cX12_findsLines 28 = .ok (.invokevirtual 223, 3) := by decide +kernel
theorem dX12_findsLines_31 : decode cX12_findsLines 31 = .ok (.imul, 1) := by decide +kernel
theorem dX12_findsLines_32 : decode cX12_findsLines 32 = .ok (.istore 4, 2) := by decide +kernel
theorem dX12_findsLines_34 : decode cX12_findsLines 34 = .ok (.aload_n 0, 1) := by decide +kernel
theorem dX12_findsLines_35 : decode cX12_findsLines 35 = .ok (.getfield 84, 3) := by decide +kernel
theorem dX12_findsLines_38 : decode cX12_findsLines 38 = .ok (.iload_n 1, 1) := by decide +kernel
theorem dX12_findsLines_39 : decode cX12_findsLines 39 = .ok (.iaload, 1) := by decide +kernel
theorem dX12_findsLines_40 : decode cX12_findsLines 40 = .ok (.ifCond .le 32, 3) := by decide +kernel
theorem dX12_findsLines_43 : decode cX12_findsLines 43 = .ok (.iload_n 2, 1) := by decide +kernel
theorem dX12_findsLines_44 : decode cX12_findsLines 44 = .ok (.aload_n 0, 1) := by decide +kernel
theorem dX12_findsLines_45 : decode cX12_findsLines 45 = .ok (.iload_n 1, 1) := by decide +kernel
theorem dX12_findsLines_46 : decode cX12_findsLines 46 = .ok (.bipush 9, 2) := by decide +kernel
theorem dX12_findsLines_48 : decode cX12_findsLines 48 = .ok (.invokevirtual 223, 3) := by decide +kernel
theorem dX12_findsLines_51 : decode cX12_findsLines 51 = .ok (.iadd, 1) := by decide +kernel
theorem dX12_findsLines_52 : decode cX12_findsLines 52 = .ok (.iload 4, 2) := by decide +kernel
theorem dX12_findsLines_54 : decode cX12_findsLines 54 = .ok (.iadd, 1) := by decide +kernel
theorem dX12_findsLines_55 : decode cX12_findsLines 55 = .ok (.aload_n 0, 1) := by decide +kernel
theorem dX12_findsLines_56 : decode cX12_findsLines 56 = .ok (.getfield 81, 3) := by decide +kernel
theorem dX12_findsLines_59 : decode cX12_findsLines 59 = .ok (.iconst 4, 1) := by decide +kernel
theorem dX12_findsLines_60 : decode cX12_findsLines 60 = .ok (.iload_n 1, 1) := by decide +kernel
theorem dX12_findsLines_61 : decode cX12_findsLines 61 = .ok (.imul, 1) := by decide +kernel
theorem dX12_findsLines_62 : decode cX12_findsLines 62 = .ok (.iconst 2, 1) := by decide +kernel
theorem dX12_findsLines_63 : decode cX12_findsLines 63 = .ok (.iadd, 1) := by decide +kernel
theorem dX12_findsLines_64 : decode cX12_findsLines 64 = .ok (.iaload, 1) := by decide +kernel
theorem dX12_findsLines_65 : decode cX12_findsLines 65 = .ok (.if_icmp .gt 7, 3) := by decide +kernel
theorem dX12_findsLines_68 : decode cX12_findsLines 68 = .ok (.iconst 1, 1) := by decide +kernel
theorem dX12_findsLines_69 : decode cX12_findsLines 69 = .ok (.goto 4, 3) := by decide +kernel
theorem dX12_findsLines_72 : decode cX12_findsLines 72 = .ok (.iconst 0, 1) := by decide +kernel
theorem dX12_findsLines_73 : decode cX12_findsLines 73 = .ok (.istore 5, 2) := by decide +kernel
theorem dX12_findsLines_75 : decode cX12_findsLines 75 = .ok (.iload 5, 2) := by decide +kernel
theorem dX12_findsLines_77 : decode cX12_findsLines 77 = .ok (.ifCond .eq 18, 3) := by decide +kernel
theorem dX12_findsLines_80 : decode cX12_findsLines 80 = .ok (.iload_n 2, 1) := by decide +kernel
theorem dX12_findsLines_81 : decode cX12_findsLines 81 = .ok (.aload_n 0, 1) := by decide +kernel
theorem dX12_findsLines_82 : decode cX12_findsLines 82 = .ok (.iload_n 1, 1) := by decide +kernel
theorem dX12_findsLines_83 : decode cX12_findsLines 83 = .ok (.bipush 9, 2) := by decide +kernel
theorem dX12_findsLines_85 : decode cX12_findsLines 85 = .ok (.invokevirtual 223, 3) := by decide +kernel
theorem dX12_findsLines_88 : decode cX12_findsLines 88 = .ok (.iadd, 1) := by decide +kernel
theorem dX12_findsLines_89 : decode cX12_findsLines 89 = .ok (.iload 4, 2) := by decide +kernel
theorem dX12_findsLines_91 : decode cX12_findsLines 91 = .ok (.iadd, 1) := by decide +kernel
theorem dX12_findsLines_92 : decode cX12_findsLines 92 = .ok (.goto 5, 3) := by decide +kernel
theorem dX12_findsLines_95 : decode cX12_findsLines 95 = .ok (.iload 4, 2) := by decide +kernel
theorem dX12_findsLines_97 : decode cX12_findsLines 97 = .ok (.istore_n 2, 1) := by decide +kernel
theorem dX12_findsLines_98 : decode cX12_findsLines 98 = .ok (.aload_n 0, 1) := by decide +kernel
theorem dX12_findsLines_99 : decode cX12_findsLines 99 = .ok (.getfield 84, 3) := by decide +kernel
theorem dX12_findsLines_102 : decode cX12_findsLines 102 = .ok (.iload_n 1, 1) := by decide +kernel
theorem dX12_findsLines_103 : decode cX12_findsLines 103 = .ok (.dup2, 1) := by decide +kernel
theorem dX12_findsLines_104 : decode cX12_findsLines 104 = .ok (.iaload, 1) := by decide +kernel
theorem dX12_findsLines_105 : decode cX12_findsLines 105 = .ok (.iload 5, 2) := by decide +kernel
theorem dX12_findsLines_107 : decode cX12_findsLines 107 = .ok (.ifCond .eq 7, 3) := by decide +kernel
theorem dX12_findsLines_110 : decode cX12_findsLines 110 = .ok (.iconst 0, 1) := by decide +kernel
theorem dX12_findsLines_111 : decode cX12_findsLines 111 = .ok (.goto 4, 3) := by decide +kernel
theorem dX12_findsLines_114 : decode cX12_findsLines 114 = .ok (.iconst 1, 1) := by decide +kernel
theorem dX12_findsLines_115 : decode cX12_findsLines 115 = .ok (.iadd, 1) := by decide +kernel
theorem dX12_findsLines_116 : decode cX12_findsLines 116 = .ok (.iastore, 1) := by decide +kernel
theorem dX12_findsLines_117 : decode cX12_findsLines 117 = .ok (.iload_n 3, 1) := by decide +kernel
theorem dX12_findsLines_118 : decode cX12_findsLines 118 = .ok (.bipush 10, 2) := by decide +kernel
theorem dX12_findsLines_120 : decode cX12_findsLines 120 = .ok (.idiv, 1) := by decide +kernel
theorem dX12_findsLines_121 : decode cX12_findsLines 121 = .ok (.istore_n 3, 1) := by decide +kernel
theorem dX12_findsLines_122 : decode cX12_findsLines 122 = .ok (.goto (-106), 3) := by decide +kernel
theorem dX12_findsLines_125 : decode cX12_findsLines 125 = .ok (.return_, 1) := by decide +kernel
theorem dX12_findsHeight_0 : decode cX12_findsHeight 0 = .ok (.aload_n 0, 1) := by decide +kernel
theorem dX12_findsHeight_1 : decode cX12_findsHeight 1 = .ok (.iload_n 1, 1) := by decide +kernel
theorem dX12_findsHeight_2 : decode cX12_findsHeight 2 = .ok (.invokevirtual 236, 3) := by decide +kernel
theorem dX12_findsHeight_5 : decode cX12_findsHeight 5 = .ok (.aload_n 0, 1) := by decide +kernel
theorem dX12_findsHeight_6 : decode cX12_findsHeight 6 = .ok (.iload_n 1, 1) := by decide +kernel
theorem dX12_findsHeight_7 : decode cX12_findsHeight 7 = .ok (.iconst 5, 1) := by decide +kernel
theorem dX12_findsHeight_8 : decode cX12_findsHeight 8 = .ok (.invokevirtual 223, 3) := by decide +kernel
theorem dX12_findsHeight_11 : decode cX12_findsHeight 11 = .ok (.istore_n 2, 1) := by decide +kernel
theorem dX12_findsHeight_12 : decode cX12_findsHeight 12 = .ok (.aload_n 0, 1) := by decide +kernel
theorem dX12_findsHeight_13 : decode cX12_findsHeight 13 = .ok (.iload_n 1, 1) := by decide +kernel
theorem dX12_findsHeight_14 : decode cX12_findsHeight 14 = .ok (.bipush 7, 2) := by decide +kernel
theorem dX12_findsHeight_16 : decode cX12_findsHeight 16 = .ok (.invokevirtual 223, 3) := by decide +kernel
theorem dX12_findsHeight_19 : decode cX12_findsHeight 19 = .ok (.istore_n 3, 1) := by decide +kernel
theorem dX12_findsHeight_20 : decode cX12_findsHeight 20 = .ok (.aload_n 0, 1) := by decide +kernel
theorem dX12_findsHeight_21 : decode cX12_findsHeight 21 = .ok (.getfield 81, 3) := by decide +kernel
theorem dX12_findsHeight_24 : decode cX12_findsHeight 24 = .ok (.iconst 4, 1) := by decide +kernel
theorem dX12_findsHeight_25 : decode cX12_findsHeight 25 = .ok (.iload_n 1, 1) := by decide +kernel
theorem dX12_findsHeight_26 : decode cX12_findsHeight 26 = .ok (.imul, 1) := by decide +kernel
theorem dX12_findsHeight_27 : decode cX12_findsHeight 27 = .ok (.iconst 2, 1) := by decide +kernel
theorem dX12_findsHeight_28 : decode cX12_findsHeight 28 = .ok (.iadd, 1) := by decide +kernel
theorem dX12_findsHeight_29 : decode cX12_findsHeight 29 = .ok (.iaload, 1) := by decide +kernel
theorem dX12_findsHeight_30 : decode cX12_findsHeight 30 = .ok (.istore 4, 2) := by decide +kernel
theorem dX12_findsHeight_32 : decode cX12_findsHeight 32 = .ok (.aload_n 0, 1) := by decide +kernel
theorem dX12_findsHeight_33 : decode cX12_findsHeight 33 = .ok (.getfield 84, 3) := by decide +kernel
theorem dX12_findsHeight_36 : decode cX12_findsHeight 36 = .ok (.iload_n 1, 1) := by decide +kernel
theorem dX12_findsHeight_37 : decode cX12_findsHeight 37 = .ok (.iaload, 1) := by decide +kernel
theorem dX12_findsHeight_38 : decode cX12_findsHeight 38 = .ok (.aload_n 0, 1) := by decide +kernel
theorem dX12_findsHeight_39 : decode cX12_findsHeight 39 = .ok (.iload_n 1, 1) := by decide +kernel
theorem dX12_findsHeight_40 : decode cX12_findsHeight 40 = .ok (.bipush 9, 2) := by decide +kernel
theorem dX12_findsHeight_42 : decode cX12_findsHeight 42 = .ok (.invokevirtual 223, 3) := by decide +kernel
theorem dX12_findsHeight_45 : decode cX12_findsHeight 45 = .ok (.imul, 1) := by decide +kernel
theorem dX12_findsHeight_46 : decode cX12_findsHeight 46 = .ok (.istore 5, 2) := by decide +kernel
theorem dX12_findsHeight_48 : decode cX12_findsHeight 48 = .ok (.iconst 0, 1) := by decide +kernel
theorem dX12_findsHeight_49 : decode cX12_findsHeight 49 = .ok (.istore 6, 2) := by decide +kernel
theorem dX12_findsHeight_51 : decode cX12_findsHeight 51 = .ok (.iconst 0, 1) := by decide +kernel
theorem dX12_findsHeight_52 : decode cX12_findsHeight 52 = .ok (.istore 7, 2) := by decide +kernel
theorem dX12_findsHeight_54 : decode cX12_findsHeight 54 = .ok (.iconst 0, 1) := by decide +kernel
theorem dX12_findsHeight_55 : decode cX12_findsHeight 55 = .ok (.istore 8, 2) := by decide +kernel
theorem dX12_findsHeight_57 : decode cX12_findsHeight 57 = .ok (.iconst 0, 1) := by decide +kernel
theorem dX12_findsHeight_58 : decode cX12_findsHeight 58 = .ok (.istore 9, 2) := by decide +kernel
theorem dX12_findsHeight_60 : decode cX12_findsHeight 60 = .ok (.iconst 0, 1) := by decide +kernel
theorem dX12_findsHeight_61 : decode cX12_findsHeight 61 = .ok (.istore 10, 2) := by decide +kernel
theorem dX12_findsHeight_63 : decode cX12_findsHeight 63 = .ok (.iload 10, 2) := by decide +kernel
theorem dX12_findsHeight_65 : decode cX12_findsHeight 65 = .ok (.aload_n 0, 1) := by decide +kernel
theorem dX12_findsHeight_66 : decode cX12_findsHeight 66 = .ok (.getfield 16, 3) := by decide +kernel
theorem dX12_findsHeight_69 : decode cX12_findsHeight 69 = .ok (.if_icmp .ge 253, 3) := by decide +kernel
theorem dX12_findsHeight_72 : decode cX12_findsHeight 72 = .ok (.aload_n 0, 1) := by decide +kernel
theorem dX12_findsHeight_73 : decode cX12_findsHeight 73 = .ok (.getfield 23, 3) := by decide +kernel
theorem dX12_findsHeight_76 : decode cX12_findsHeight 76 = .ok (.iload 10, 2) := by decide +kernel
theorem dX12_findsHeight_78 : decode cX12_findsHeight 78 = .ok (.iaload, 1) := by decide +kernel
theorem dX12_findsHeight_79 : decode cX12_findsHeight 79 = .ok (.iload_n 1, 1) := by decide +kernel
theorem dX12_findsHeight_80 : decode cX12_findsHeight 80 = .ok (.if_icmp .ne 236, 3) := by decide +kernel
theorem dX12_findsHeight_83 : decode cX12_findsHeight 83 = .ok (.aload_n 0, 1) := by decide +kernel
theorem dX12_findsHeight_84 : decode cX12_findsHeight 84 = .ok (.getfield 90, 3) := by decide +kernel
theorem dX12_findsHeight_87 : decode cX12_findsHeight 87 = .ok (.iload 10, 2) := by decide +kernel
theorem dX12_findsHeight_89 : decode cX12_findsHeight 89 = .ok (.baload, 1) := by decide +kernel
theorem dX12_findsHeight_90 : decode cX12_findsHeight 90 = .ok (.ifCond .eq 226, 3) := by decide +kernel
theorem dX12_findsHeight_93 : decode cX12_findsHeight 93 = .ok (.aload_n 0, 1) := by decide +kernel
theorem dX12_findsHeight_94 : decode cX12_findsHeight 94 = .ok (.iload 10, 2) := by decide +kernel
theorem dX12_findsHeight_96 : decode cX12_findsHeight 96 = .ok (.iconst 3, 1) := by decide +kernel
theorem dX12_findsHeight_97 : decode cX12_findsHeight 97 = .ok (.invokevirtual 223, 3) := by decide +kernel
theorem dX12_findsHeight_100 : decode cX12_findsHeight 100 = .ok (.istore 11, 2) := by decide +kernel
theorem dX12_findsHeight_102 : decode cX12_findsHeight 102 = .ok (.aload_n 0, 1) := by decide +kernel
theorem dX12_findsHeight_103 : decode cX12_findsHeight 103 = .ok (.getfield 81, 3) := by decide +kernel
theorem dX12_findsHeight_106 : decode cX12_findsHeight 106 = .ok (.iconst 4, 1) := by decide +kernel
theorem dX12_findsHeight_107 : decode cX12_findsHeight 107 = .ok (.iload 10, 2) := by decide +kernel
theorem dX12_findsHeight_109 : decode cX12_findsHeight 109 = .ok (.imul, 1) := by decide +kernel
theorem dX12_findsHeight_110 : decode cX12_findsHeight 110 = .ok (.iconst 3, 1) := by decide +kernel
theorem dX12_findsHeight_111 : decode cX12_findsHeight 111 = .ok (.iadd, 1) := by decide +kernel
theorem dX12_findsHeight_112 : decode cX12_findsHeight 112 = .ok (.iaload, 1) := by decide +kernel
theorem dX12_findsHeight_113 : decode cX12_findsHeight 113 = .ok (.istore 12, 2) := by decide +kernel
theorem dX12_findsHeight_115 : decode cX12_findsHeight 115 = .ok (.iload_n 2, 1) := by decide +kernel
theorem dX12_findsHeight_116 : decode cX12_findsHeight 116 = .ok (.ifCond .ne 69, 3) := by decide +kernel
theorem dX12_findsHeight_119 : decode cX12_findsHeight 119 = .ok (.iload 5, 2) := by decide +kernel
theorem dX12_findsHeight_121 : decode cX12_findsHeight 121 = .ok (.iload 9, 2) := by decide +kernel
theorem dX12_findsHeight_123 : decode cX12_findsHeight 123 = .ok (.ifCond .eq 10, 3) := by decide +kernel
theorem dX12_findsHeight_126 : decode cX12_findsHeight 126 = .ok (.iload 11, 2) := by decide +kernel
theorem dX12_findsHeight_128 : decode cX12_findsHeight 128 = .ok (.iload 8, 2) := by decide +kernel
theorem dX12_findsHeight_130 : decode cX12_findsHeight 130 = .ok (.if_icmp .le 8, 3) := by decide +kernel
theorem dX12_findsHeight_133 : decode cX12_findsHeight 133 = .ok (.iload 11, 2) := by decide +kernel
theorem dX12_findsHeight_135 : decode cX12_findsHeight 135 = .ok (.goto 5, 3) := by decide +kernel
theorem dX12_findsHeight_138 : decode cX12_findsHeight 138 = .ok (.iload 8, 2) := by decide +kernel
theorem dX12_findsHeight_140 : decode cX12_findsHeight 140 = .ok (.iadd, 1) := by decide +kernel
theorem dX12_findsHeight_141 : decode cX12_findsHeight 141 = .ok (.istore 5, 2) := by decide +kernel
theorem dX12_findsHeight_143 : decode cX12_findsHeight 143 = .ok (.aload_n 0, 1) := by decide +kernel
theorem dX12_findsHeight_144 : decode cX12_findsHeight 144 = .ok (.getfield 81, 3) := by decide +kernel
theorem dX12_findsHeight_147 : decode cX12_findsHeight 147 = .ok (.iconst 4, 1) := by decide +kernel
theorem dX12_findsHeight_148 : decode cX12_findsHeight 148 = .ok (.iload 10, 2) := by decide +kernel
theorem dX12_findsHeight_150 : decode cX12_findsHeight 150 = .ok (.imul, 1) := by decide +kernel
theorem dX12_findsHeight_151 : decode cX12_findsHeight 151 = .ok (.iconst 0, 1) := by decide +kernel
theorem dX12_findsHeight_152 : decode cX12_findsHeight 152 = .ok (.iastore, 1) := by decide +kernel
theorem dX12_findsHeight_153 : decode cX12_findsHeight 153 = .ok (.aload_n 0, 1) := by decide +kernel
theorem dX12_findsHeight_154 : decode cX12_findsHeight 154 = .ok (.getfield 81, 3) := by decide +kernel
theorem dX12_findsHeight_157 : decode cX12_findsHeight 157 = .ok (.iconst 4, 1) := by decide +kernel
theorem dX12_findsHeight_158 : decode cX12_findsHeight 158 = .ok (.iload 10, 2) := by decide +kernel
theorem dX12_findsHeight_160 : decode cX12_findsHeight 160 = .ok (.imul, 1) := by decide +kernel
theorem dX12_findsHeight_161 : decode cX12_findsHeight 161 = .ok (.iconst 1, 1) := by decide +kernel
theorem dX12_findsHeight_162 : decode cX12_findsHeight 162 = .ok (.iadd, 1) := by decide +kernel
theorem dX12_findsHeight_163 : decode cX12_findsHeight 163 = .ok (.iload 5, 2) := by decide +kernel
theorem dX12_findsHeight_165 : decode cX12_findsHeight 165 = .ok (.iastore, 1) := by decide +kernel
theorem dX12_findsHeight_166 : decode cX12_findsHeight 166 = .ok (.iload 5, 2) := by decide +kernel
theorem dX12_findsHeight_168 : decode cX12_findsHeight 168 = .ok (.iload 12, 2) := by decide +kernel
theorem dX12_findsHeight_170 : decode cX12_findsHeight 170 = .ok (.iadd, 1) := by decide +kernel
theorem dX12_findsHeight_171 : decode cX12_findsHeight 171 = .ok (.istore 5, 2) := by decide +kernel
theorem dX12_findsHeight_173 : decode cX12_findsHeight 173 = .ok (.aload_n 0, 1) := by decide +kernel
theorem dX12_findsHeight_174 : decode cX12_findsHeight 174 = .ok (.iload 10, 2) := by decide +kernel
theorem dX12_findsHeight_176 : decode cX12_findsHeight 176 = .ok (.iconst 4, 1) := by decide +kernel
theorem dX12_findsHeight_177 : decode cX12_findsHeight 177 = .ok (.invokevirtual 223, 3) := by decide +kernel
theorem dX12_findsHeight_180 : decode cX12_findsHeight 180 = .ok (.istore 8, 2) := by decide +kernel
theorem dX12_findsHeight_182 : decode cX12_findsHeight 182 = .ok (.goto 131, 3) := by decide +kernel
theorem dX12_findsHeight_185 : decode cX12_findsHeight 185 = .ok (.iload_n 2, 1) := by decide +kernel
theorem dX12_findsHeight_186 : decode cX12_findsHeight 186 = .ok (.iconst 2, 1) := by decide +kernel
theorem dX12_findsHeight_187 : decode cX12_findsHeight 187 = .ok (.if_icmp .ne 23, 3) := by decide +kernel
theorem dX12_findsHeight_190 : decode cX12_findsHeight 190 = .ok (.iload 9, 2) := by decide +kernel
theorem dX12_findsHeight_192 : decode cX12_findsHeight 192 = .ok (.iload_n 3, 1) := by decide +kernel
theorem dX12_findsHeight_193 : decode cX12_findsHeight 193 = .ok (.irem, 1) := by decide +kernel
theorem dX12_findsHeight_194 : decode cX12_findsHeight 194 = .ok (.ifCond .ne 16, 3) := by decide +kernel
theorem dX12_findsHeight_197 : decode cX12_findsHeight 197 = .ok (.iload 5, 2) := by decide +kernel
theorem dX12_findsHeight_199 : decode cX12_findsHeight 199 = .ok (.iload 7, 2) := by decide +kernel
theorem dX12_findsHeight_201 : decode cX12_findsHeight 201 = .ok (.iadd, 1) := by decide +kernel
theorem dX12_findsHeight_202 : decode cX12_findsHeight 202 = .ok (.istore 5, 2) := by decide +kernel
theorem dX12_findsHeight_204 : decode cX12_findsHeight 204 = .ok (.iconst 0, 1) := by decide +kernel
theorem dX12_findsHeight_205 : decode cX12_findsHeight 205 = .ok (.istore 7, 2) := by decide +kernel
theorem dX12_findsHeight_207 : decode cX12_findsHeight 207 = .ok (.iconst 0, 1) := by decide +kernel
theorem dX12_findsHeight_208 : decode cX12_findsHeight 208 = .ok (.istore 6, 2) := by decide +kernel
theorem dX12_findsHeight_210 : decode cX12_findsHeight 210 = .ok (.aload_n 0, 1) := by decide +kernel
theorem dX12_findsHeight_211 : decode cX12_findsHeight 211 = .ok (.getfield 81, 3) := by decide +kernel
theorem dX12_findsHeight_214 : decode cX12_findsHeight 214 = .ok (.iconst 4, 1) := by decide +kernel
theorem dX12_findsHeight_215 : decode cX12_findsHeight 215 = .ok (.iload 10, 2) := by decide +kernel
theorem dX12_findsHeight_217 : decode cX12_findsHeight 217 = .ok (.imul, 1) := by decide +kernel
theorem dX12_findsHeight_218 : decode cX12_findsHeight 218 = .ok (.iload 6, 2) := by decide +kernel
theorem dX12_findsHeight_220 : decode cX12_findsHeight 220 = .ok (.iastore, 1) := by decide +kernel
theorem dX12_findsHeight_221 : decode cX12_findsHeight 221 = .ok (.aload_n 0, 1) := by decide +kernel
theorem dX12_findsHeight_222 : decode cX12_findsHeight 222 = .ok (.getfield 81, 3) := by decide +kernel
theorem dX12_findsHeight_225 : decode cX12_findsHeight 225 = .ok (.iconst 4, 1) := by decide +kernel
theorem dX12_findsHeight_226 : decode cX12_findsHeight 226 = .ok (.iload 10, 2) := by decide +kernel
theorem dX12_findsHeight_228 : decode cX12_findsHeight 228 = .ok (.imul, 1) := by decide +kernel
theorem dX12_findsHeight_229 : decode cX12_findsHeight 229 = .ok (.iconst 1, 1) := by decide +kernel
theorem dX12_findsHeight_230 : decode cX12_findsHeight 230 = .ok (.iadd, 1) := by decide +kernel
theorem dX12_findsHeight_231 : decode cX12_findsHeight 231 = .ok (.iload 5, 2) := by decide +kernel
theorem dX12_findsHeight_233 : decode cX12_findsHeight 233 = .ok (.iload 11, 2) := by decide +kernel
theorem dX12_findsHeight_235 : decode cX12_findsHeight 235 = .ok (.iadd, 1) := by decide +kernel
theorem dX12_findsHeight_236 : decode cX12_findsHeight 236 = .ok (.iastore, 1) := by decide +kernel
theorem dX12_findsHeight_237 : decode cX12_findsHeight 237 = .ok (.iload 6, 2) := by decide +kernel
theorem dX12_findsHeight_239 : decode cX12_findsHeight 239 = .ok (.iload_n 2, 1) := by decide +kernel
theorem dX12_findsHeight_240 : decode cX12_findsHeight 240 = .ok (.iconst 1, 1) := by decide +kernel
theorem dX12_findsHeight_241 : decode cX12_findsHeight 241 = .ok (.if_icmp .ne 17, 3) := by decide +kernel
theorem dX12_findsHeight_244 : decode cX12_findsHeight 244 = .ok (.aload_n 0, 1) := by decide +kernel
theorem dX12_findsHeight_245 : decode cX12_findsHeight 245 = .ok (.getfield 81, 3) := by decide +kernel
theorem dX12_findsHeight_248 : decode cX12_findsHeight 248 = .ok (.iconst 4, 1) := by decide +kernel
theorem dX12_findsHeight_249 : decode cX12_findsHeight 249 = .ok (.iload 10, 2) := by decide +kernel
theorem dX12_findsHeight_251 : decode cX12_findsHeight 251 = .ok (.imul, 1) := by decide +kernel
theorem dX12_findsHeight_252 : decode cX12_findsHeight 252 = .ok (.iconst 2, 1) := by decide +kernel
theorem dX12_findsHeight_253 : decode cX12_findsHeight 253 = .ok (.iadd, 1) := by decide +kernel
theorem dX12_findsHeight_254 : decode cX12_findsHeight 254 = .ok (.iaload, 1) := by decide +kernel
theorem dX12_findsHeight_255 : decode cX12_findsHeight 255 = .ok (.goto 24, 3) := by decide +kernel
theorem dX12_findsHeight_258 : decode cX12_findsHeight 258 = .ok (.iload 4, 2) := by decide +kernel
theorem dX12_findsHeight_260 : decode cX12_findsHeight 260 = .ok (.iload_n 3, 1) := by decide +kernel
theorem dX12_findsHeight_261 : decode cX12_findsHeight 261 = .ok (.idiv, 1) := by decide +kernel
theorem dX12_findsHeight_262 : decode cX12_findsHeight 262 = .ok (.iload 9, 2) := by decide +kernel
theorem dX12_findsHeight_264 : decode cX12_findsHeight 264 = .ok (.iload_n 3, 1) := by decide +kernel
theorem dX12_findsHeight_265 : decode cX12_findsHeight 265 = .ok (.irem, 1) := by decide +kernel
theorem dX12_findsHeight_266 : decode cX12_findsHeight 266 = .ok (.iload 4, 2) := by decide +kernel
theorem dX12_findsHeight_268 : decode cX12_findsHeight 268 = .ok (.iload_n 3, 1) := by decide +kernel
theorem dX12_findsHeight_269 : decode cX12_findsHeight 269 = .ok (.irem, 1) := by decide +kernel
theorem dX12_findsHeight_270 : decode cX12_findsHeight 270 = .ok (.if_icmp .ge 7, 3) := by decide +kernel
theorem dX12_findsHeight_273 : decode cX12_findsHeight 273 = .ok (.iconst 1, 1) := by decide +kernel
theorem dX12_findsHeight_274 : decode cX12_findsHeight 274 = .ok (.goto 4, 3) := by decide +kernel
theorem dX12_findsHeight_277 : decode cX12_findsHeight 277 = .ok (.iconst 0, 1) := by decide +kernel
theorem dX12_findsHeight_278 : decode cX12_findsHeight 278 = .ok (.iadd, 1) := by decide +kernel
theorem dX12_findsHeight_279 : decode cX12_findsHeight 279 = .ok (.iadd, 1) := by decide +kernel
theorem dX12_findsHeight_280 : decode cX12_findsHeight 280 = .ok (.istore 6, 2) := by decide +kernel
theorem dX12_findsHeight_282 : decode cX12_findsHeight 282 = .ok (.iload 11, 2) := by decide +kernel
theorem dX12_findsHeight_284 : decode cX12_findsHeight 284 = .ok (.iload 12, 2) := by decide +kernel
theorem dX12_findsHeight_286 : decode cX12_findsHeight 286 = .ok (.iadd, 1) := by decide +kernel
theorem dX12_findsHeight_287 : decode cX12_findsHeight 287 = .ok (.aload_n 0, 1) := by decide +kernel
theorem dX12_findsHeight_288 : decode cX12_findsHeight 288 = .ok (.iload 10, 2) := by decide +kernel
theorem dX12_findsHeight_290 : decode cX12_findsHeight 290 = .ok (.iconst 4, 1) := by decide +kernel
theorem dX12_findsHeight_291 : decode cX12_findsHeight 291 = .ok (.invokevirtual 223, 3) := by decide +kernel
theorem dX12_findsHeight_294 : decode cX12_findsHeight 294 = .ok (.iadd, 1) := by decide +kernel
theorem dX12_findsHeight_295 : decode cX12_findsHeight 295 = .ok (.istore 13, 2) := by decide +kernel
theorem dX12_findsHeight_297 : decode cX12_findsHeight 297 = .ok (.iload 13, 2) := by decide +kernel
theorem dX12_findsHeight_299 : decode cX12_findsHeight 299 = .ok (.iload 7, 2) := by decide +kernel
theorem dX12_findsHeight_301 : decode cX12_findsHeight 301 = .ok (.if_icmp .le 8, 3) := by decide +kernel
theorem dX12_findsHeight_304 : decode cX12_findsHeight 304 = .ok (.iload 13, 2) := by decide +kernel
theorem dX12_findsHeight_306 : decode cX12_findsHeight 306 = .ok (.goto 5, 3) := by decide +kernel
theorem dX12_findsHeight_309 : decode cX12_findsHeight 309 = .ok (.iload 7, 2) := by decide +kernel
theorem dX12_findsHeight_311 : decode cX12_findsHeight 311 = .ok (.istore 7, 2) := by decide +kernel
theorem dX12_findsHeight_313 : decode cX12_findsHeight 313 = .ok (.iinc 9 1, 3) := by decide +kernel
theorem dX12_findsHeight_316 : decode cX12_findsHeight 316 = .ok (.iinc 10 1, 3) := by decide +kernel
theorem dX12_findsHeight_319 : decode cX12_findsHeight 319 = .ok (.goto (-256), 3) := by decide +kernel
theorem dX12_findsHeight_322 : decode cX12_findsHeight 322 = .ok (.aload_n 0, 1) := by decide +kernel
theorem dX12_findsHeight_323 : decode cX12_findsHeight 323 = .ok (.getfield 81, 3) := by decide +kernel
theorem dX12_findsHeight_326 : decode cX12_findsHeight 326 = .ok (.iconst 4, 1) := by decide +kernel
theorem dX12_findsHeight_327 : decode cX12_findsHeight 327 = .ok (.iload_n 1, 1) := by decide +kernel
theorem dX12_findsHeight_328 : decode cX12_findsHeight 328 = .ok (.imul, 1) := by decide +kernel
theorem dX12_findsHeight_329 : decode cX12_findsHeight 329 = .ok (.iconst 3, 1) := by decide +kernel
theorem dX12_findsHeight_330 : decode cX12_findsHeight 330 = .ok (.iadd, 1) := by decide +kernel
theorem dX12_findsHeight_331 : decode cX12_findsHeight 331 = .ok (.aload_n 0, 1) := by decide +kernel
theorem dX12_findsHeight_332 : decode cX12_findsHeight 332 = .ok (.iload_n 1, 1) := by decide +kernel
theorem dX12_findsHeight_333 : decode cX12_findsHeight 333 = .ok (.iconst 1, 1) := by decide +kernel
theorem dX12_findsHeight_334 : decode cX12_findsHeight 334 = .ok (.invokevirtual 223, 3) := by decide +kernel
theorem dX12_findsHeight_337 : decode cX12_findsHeight 337 = .ok (.bipush (-2), 2) := by decide +kernel
theorem dX12_findsHeight_339 : decode cX12_findsHeight 339 = .ok (.if_icmp .eq 12, 3) := by decide +kernel
theorem dX12_findsHeight_342 : decode cX12_findsHeight 342 = .ok (.aload_n 0, 1) := by decide +kernel
theorem dX12_findsHeight_343 : decode cX12_findsHeight 343 = .ok (.iload_n 1, 1) := by decide +kernel
theorem dX12_findsHeight_344 : decode cX12_findsHeight 344 = .ok (.iconst 1, 1) := by decide +kernel
theorem dX12_findsHeight_345 : decode cX12_findsHeight 345 = .ok (.invokevirtual 223, 3) := by decide +kernel
theorem dX12_findsHeight_348 : decode cX12_findsHeight 348 = .ok (.goto 11, 3) := by decide +kernel
theorem dX12_findsHeight_351 : decode cX12_findsHeight 351 = .ok (.iload 5, 2) := by decide +kernel
theorem dX12_findsHeight_353 : decode cX12_findsHeight 353 = .ok (.iload 7, 2) := by decide +kernel
theorem dX12_findsHeight_355 : decode cX12_findsHeight 355 = .ok (.iadd, 1) := by decide +kernel
theorem dX12_findsHeight_356 : decode cX12_findsHeight 356 = .ok (.iload 8, 2) := by decide +kernel
theorem dX12_findsHeight_358 : decode cX12_findsHeight 358 = .ok (.iadd, 1) := by decide +kernel
theorem dX12_findsHeight_359 : decode cX12_findsHeight 359 = .ok (.iastore, 1) := by decide +kernel
theorem dX12_findsHeight_360 : decode cX12_findsHeight 360 = .ok (.return_, 1) := by decide +kernel
theorem dX12_finds_0 : decode cX12_finds 0 = .ok (.iconst 0, 1) := by decide +kernel
theorem dX12_finds_1 : decode cX12_finds 1 = .ok (.istore_n 1, 1) := by decide +kernel
theorem dX12_finds_2 : decode cX12_finds 2 = .ok (.iconst 0, 1) := by decide +kernel
theorem dX12_finds_3 : decode cX12_finds 3 = .ok (.istore_n 2, 1) := by decide +kernel
theorem dX12_finds_4 : decode cX12_finds 4 = .ok (.iload_n 2, 1) := by decide +kernel
theorem dX12_finds_5 : decode cX12_finds 5 = .ok (.aload_n 0, 1) := by decide +kernel
theorem dX12_finds_6 : decode cX12_finds 6 = .ok (.getfield 16, 3) := by decide +kernel
theorem dX12_finds_9 : decode cX12_finds 9 = .ok (.if_icmp .ge 63, 3) := by decide +kernel
theorem dX12_finds_12 : decode cX12_finds 12 = .ok (.aload_n 0, 1) := by decide +kernel
theorem dX12_finds_13 : decode cX12_finds 13 = .ok (.getfield 87, 3) := by decide +kernel
theorem dX12_finds_16 : decode cX12_finds 16 = .ok (.iload_n 2, 1) := by decide +kernel
theorem dX12_finds_17 : decode cX12_finds 17 = .ok (.aload_n 0, 1) := by decide +kernel
theorem dX12_finds_18 : decode cX12_finds 18 = .ok (.getfield 23, 3) := by decide +kernel
theorem dX12_finds_21 : decode cX12_finds 21 = .ok (.iload_n 2, 1) := by decide +kernel
theorem dX12_finds_22 : decode cX12_finds 22 = .ok (.iaload, 1) := by decide +kernel
theorem dX12_finds_23 : decode cX12_finds 23 = .ok (.iconst (-1), 1) := by decide +kernel
theorem dX12_finds_24 : decode cX12_finds 24 = .ok (.if_icmp .ne 7, 3) := by decide +kernel
theorem dX12_finds_27 : decode cX12_finds 27 = .ok (.iconst 0, 1) := by decide +kernel
theorem dX12_finds_28 : decode cX12_finds 28 = .ok (.goto 16, 3) := by decide +kernel
theorem dX12_finds_31 : decode cX12_finds 31 = .ok (.aload_n 0, 1) := by decide +kernel
theorem dX12_finds_32 : decode cX12_finds 32 = .ok (.getfield 87, 3) := by decide +kernel
theorem dX12_finds_35 : decode cX12_finds 35 = .ok (.aload_n 0, 1) := by decide +kernel
theorem dX12_finds_36 : decode cX12_finds 36 = .ok (.getfield 23, 3) := by decide +kernel
theorem dX12_finds_39 : decode cX12_finds 39 = .ok (.iload_n 2, 1) := by decide +kernel
theorem dX12_finds_40 : decode cX12_finds 40 = .ok (.iaload, 1) := by decide +kernel
theorem dX12_finds_41 : decode cX12_finds 41 = .ok (.iaload, 1) := by decide +kernel
theorem dX12_finds_42 : decode cX12_finds 42 = .ok (.iconst 1, 1) := by decide +kernel
theorem dX12_finds_43 : decode cX12_finds 43 = .ok (.iadd, 1) := by decide +kernel
theorem dX12_finds_44 : decode cX12_finds 44 = .ok (.iastore, 1) := by decide +kernel
theorem dX12_finds_45 : decode cX12_finds 45 = .ok (.aload_n 0, 1) := by decide +kernel
theorem dX12_finds_46 : decode cX12_finds 46 = .ok (.getfield 87, 3) := by decide +kernel
theorem dX12_finds_49 : decode cX12_finds 49 = .ok (.iload_n 2, 1) := by decide +kernel
theorem dX12_finds_50 : decode cX12_finds 50 = .ok (.iaload, 1) := by decide +kernel
theorem dX12_finds_51 : decode cX12_finds 51 = .ok (.iload_n 1, 1) := by decide +kernel
theorem dX12_finds_52 : decode cX12_finds 52 = .ok (.if_icmp .le 12, 3) := by decide +kernel
theorem dX12_finds_55 : decode cX12_finds 55 = .ok (.aload_n 0, 1) := by decide +kernel
theorem dX12_finds_56 : decode cX12_finds 56 = .ok (.getfield 87, 3) := by decide +kernel
theorem dX12_finds_59 : decode cX12_finds 59 = .ok (.iload_n 2, 1) := by decide +kernel
theorem dX12_finds_60 : decode cX12_finds 60 = .ok (.iaload, 1) := by decide +kernel
theorem dX12_finds_61 : decode cX12_finds 61 = .ok (.goto 4, 3) := by decide +kernel
theorem dX12_finds_64 : decode cX12_finds 64 = .ok (.iload_n 1, 1) := by decide +kernel
theorem dX12_finds_65 : decode cX12_finds 65 = .ok (.istore_n 1, 1) := by decide +kernel
theorem dX12_finds_66 : decode cX12_finds 66 = .ok (.iinc 2 1, 3) := by decide +kernel
theorem dX12_finds_69 : decode cX12_finds 69 = .ok (.goto (-65), 3) := by decide +kernel
theorem dX12_finds_72 : decode cX12_finds 72 = .ok (.iconst 0, 1) := by decide +kernel
theorem dX12_finds_73 : decode cX12_finds 73 = .ok (.istore_n 2, 1) := by decide +kernel
theorem dX12_finds_74 : decode cX12_finds 74 = .ok (.iload_n 2, 1) := by decide +kernel
theorem dX12_finds_75 : decode cX12_finds 75 = .ok (.iload_n 1, 1) := by decide +kernel
theorem dX12_finds_76 : decode cX12_finds 76 = .ok (.if_icmp .gt 137, 3) := by decide +kernel
theorem dX12_finds_79 : decode cX12_finds 79 = .ok (.iconst 0, 1) := by decide +kernel
theorem dX12_finds_80 : decode cX12_finds 80 = .ok (.istore_n 3, 1) := by decide +kernel
theorem dX12_finds_81 : decode cX12_finds 81 = .ok (.iload_n 3, 1) := by decide +kernel
theorem dX12_finds_82 : decode cX12_finds 82 = .ok (.aload_n 0, 1) := by decide +kernel
theorem dX12_finds_83 : decode cX12_finds 83 = .ok (.getfield 16, 3) := by decide +kernel
theorem dX12_finds_86 : decode cX12_finds 86 = .ok (.if_icmp .ge 24, 3) := by decide +kernel
theorem dX12_finds_89 : decode cX12_finds 89 = .ok (.aload_n 0, 1) := by decide +kernel
theorem dX12_finds_90 : decode cX12_finds 90 = .ok (.getfield 87, 3) := by decide +kernel
theorem dX12_finds_93 : decode cX12_finds 93 = .ok (.iload_n 3, 1) := by decide +kernel
theorem dX12_finds_94 : decode cX12_finds 94 = .ok (.iaload, 1) := by decide +kernel
theorem dX12_finds_95 : decode cX12_finds 95 = .ok (.iload_n 2, 1) := by decide +kernel
theorem dX12_finds_96 : decode cX12_finds 96 = .ok (.if_icmp .ne 8, 3) := by decide +kernel
theorem dX12_finds_99 : decode cX12_finds 99 = .ok (.aload_n 0, 1) := by decide +kernel
theorem dX12_finds_100 : decode cX12_finds 100 = .ok (.iload_n 3, 1) := by decide +kernel
theorem dX12_finds_101 : decode cX12_finds 101 = .ok (.invokevirtual 240, 3) := by decide +kernel
theorem dX12_finds_104 : decode cX12_finds 104 = .ok (.iinc 3 1, 3) := by decide +kernel
theorem dX12_finds_107 : decode cX12_finds 107 = .ok (.goto (-26), 3) := by decide +kernel
theorem dX12_finds_110 : decode cX12_finds 110 = .ok (.iload_n 2, 1) := by decide +kernel
theorem dX12_finds_111 : decode cX12_finds 111 = .ok (.ifCond .ne 59, 3) := by decide +kernel
theorem dX12_finds_114 : decode cX12_finds 114 = .ok (.aload_n 0, 1) := by decide +kernel
theorem dX12_finds_115 : decode cX12_finds 115 = .ok (.getfield 90, 3) := by decide +kernel
theorem dX12_finds_118 : decode cX12_finds 118 = .ok (.iconst 0, 1) := by decide +kernel
theorem dX12_finds_119 : decode cX12_finds 119 = .ok (.aload_n 0, 1) := by decide +kernel
theorem dX12_finds_120 : decode cX12_finds 120 = .ok (.iconst 0, 1) := by decide +kernel
theorem dX12_finds_121 : decode cX12_finds 121 = .ok (.iconst 5, 1) := by decide +kernel
theorem dX12_finds_122 : decode cX12_finds 122 = .ok (.invokevirtual 223, 3) := by decide +kernel
theorem dX12_finds_125 : decode cX12_finds 125 = .ok (.iconst 3, 1) := by decide +kernel
theorem dX12_finds_126 : decode cX12_finds 126 = .ok (.if_icmp .eq 7, 3) := by decide +kernel
theorem dX12_finds_129 : decode cX12_finds 129 = .ok (.iconst 1, 1) := by decide +kernel
theorem dX12_finds_130 : decode cX12_finds 130 = .ok (.goto 4, 3) := by decide +kernel
theorem dX12_finds_133 : decode cX12_finds 133 = .ok (.iconst 0, 1) := by decide +kernel
theorem dX12_finds_134 : decode cX12_finds 134 = .ok (.bastore, 1) := by decide +kernel
theorem dX12_finds_135 : decode cX12_finds 135 = .ok (.aload_n 0, 1) := by decide +kernel
theorem dX12_finds_136 : decode cX12_finds 136 = .ok (.getfield 81, 3) := by decide +kernel
theorem dX12_finds_139 : decode cX12_finds 139 = .ok (.iconst 2, 1) := by decide +kernel
theorem dX12_finds_140 : decode cX12_finds 140 = .ok (.aload_n 0, 1) := by decide +kernel
theorem dX12_finds_141 : decode cX12_finds 141 = .ok (.iconst 0, 1) := by decide +kernel
theorem dX12_finds_142 : decode cX12_finds 142 = .ok (.aload_n 0, 1) := by decide +kernel
theorem dX12_finds_143 : decode cX12_finds 143 = .ok (.iconst 0, 1) := by decide +kernel
theorem dX12_finds_144 : decode cX12_finds 144 = .ok (.iconst 0, 1) := by decide +kernel
theorem dX12_finds_145 : decode cX12_finds 145 = .ok (.invokevirtual 223, 3) := by decide +kernel
theorem dX12_finds_148 : decode cX12_finds 148 = .ok (.bipush (-2), 2) := by decide +kernel
theorem dX12_finds_150 : decode cX12_finds 150 = .ok (.if_icmp .ne 10, 3) := by decide +kernel
theorem dX12_finds_153 : decode cX12_finds 153 = .ok (.aload_n 0, 1) := by decide +kernel
theorem dX12_finds_154 : decode cX12_finds 154 = .ok (.getfield 7, 3) := by decide +kernel
theorem dX12_finds_157 : decode cX12_finds 157 = .ok (.goto 9, 3) := by decide +kernel
theorem dX12_finds_160 : decode cX12_finds 160 = .ok (.aload_n 0, 1) := by decide +kernel
theorem dX12_finds_161 : decode cX12_finds 161 = .ok (.iconst 0, 1) := by decide +kernel
theorem dX12_finds_162 : decode cX12_finds 162 = .ok (.iconst 0, 1) := by decide +kernel
theorem dX12_finds_163 : decode cX12_finds 163 = .ok (.invokevirtual 223, 3) := by decide +kernel
theorem dX12_finds_166 : decode cX12_finds 166 = .ok (.invokevirtual 229, 3) := by decide +kernel
theorem dX12_finds_169 : decode cX12_finds 169 = .ok (.iastore, 1) := by decide +kernel
theorem dX12_finds_170 : decode cX12_finds 170 = .ok (.iconst 0, 1) := by decide +kernel
theorem dX12_finds_171 : decode cX12_finds 171 = .ok (.istore_n 3, 1) := by decide +kernel
theorem dX12_finds_172 : decode cX12_finds 172 = .ok (.iload_n 3, 1) := by decide +kernel
theorem dX12_finds_173 : decode cX12_finds 173 = .ok (.aload_n 0, 1) := by decide +kernel
theorem dX12_finds_174 : decode cX12_finds 174 = .ok (.getfield 16, 3) := by decide +kernel
theorem dX12_finds_177 : decode cX12_finds 177 = .ok (.if_icmp .ge 30, 3) := by decide +kernel
theorem dX12_finds_180 : decode cX12_finds 180 = .ok (.iload_n 2, 1) := by decide +kernel
theorem dX12_finds_181 : decode cX12_finds 181 = .ok (.ifCond .le 26, 3) := by decide +kernel
theorem dX12_finds_184 : decode cX12_finds 184 = .ok (.aload_n 0, 1) := by decide +kernel
theorem dX12_finds_185 : decode cX12_finds 185 = .ok (.getfield 87, 3) := by decide +kernel
theorem dX12_finds_188 : decode cX12_finds 188 = .ok (.iload_n 3, 1) := by decide +kernel
theorem dX12_finds_189 : decode cX12_finds 189 = .ok (.iaload, 1) := by decide +kernel
theorem dX12_finds_190 : decode cX12_finds 190 = .ok (.iload_n 2, 1) := by decide +kernel
theorem dX12_finds_191 : decode cX12_finds 191 = .ok (.iconst 1, 1) := by decide +kernel
theorem dX12_finds_192 : decode cX12_finds 192 = .ok (.isub, 1) := by decide +kernel
theorem dX12_finds_193 : decode cX12_finds 193 = .ok (.if_icmp .ne 8, 3) := by decide +kernel
theorem dX12_finds_196 : decode cX12_finds 196 = .ok (.aload_n 0, 1) := by decide +kernel
theorem dX12_finds_197 : decode cX12_finds 197 = .ok (.iload_n 3, 1) := by decide +kernel
theorem dX12_finds_198 : decode cX12_finds 198 = .ok (.invokevirtual 243, 3) := by decide +kernel
theorem dX12_finds_201 : decode cX12_finds 201 = .ok (.iinc 3 1, 3) := by decide +kernel
theorem dX12_finds_204 : decode cX12_finds 204 = .ok (.goto (-32), 3) := by decide +kernel
theorem dX12_finds_207 : decode cX12_finds 207 = .ok (.iinc 2 1, 3) := by decide +kernel
theorem dX12_finds_210 : decode cX12_finds 210 = .ok (.goto (-136), 3) := by decide +kernel
theorem dX12_finds_213 : decode cX12_finds 213 = .ok (.iload_n 1, 1) := by decide +kernel
theorem dX12_finds_214 : decode cX12_finds 214 = .ok (.istore_n 2, 1) := by decide +kernel
theorem dX12_finds_215 : decode cX12_finds 215 = .ok (.iload_n 2, 1) := by decide +kernel
theorem dX12_finds_216 : decode cX12_finds 216 = .ok (.ifCond .lt 49, 3) := by decide +kernel
theorem dX12_finds_219 : decode cX12_finds 219 = .ok (.iconst 0, 1) := by decide +kernel
theorem dX12_finds_220 : decode cX12_finds 220 = .ok (.istore_n 3, 1) := by decide +kernel
theorem dX12_finds_221 : decode cX12_finds 221 = .ok (.iload_n 3, 1) := by decide +kernel
theorem dX12_finds_222 : decode cX12_finds 222 = .ok (.aload_n 0, 1) := by decide +kernel
theorem dX12_finds_223 : decode cX12_finds 223 = .ok (.getfield 16, 3) := by decide +kernel
theorem dX12_finds_226 : decode cX12_finds 226 = .ok (.if_icmp .ge 33, 3) := by decide +kernel
theorem dX12_finds_229 : decode cX12_finds 229 = .ok (.aload_n 0, 1) := by decide +kernel
theorem dX12_finds_230 : decode cX12_finds 230 = .ok (.getfield 87, 3) := by decide +kernel
theorem dX12_finds_233 : decode cX12_finds 233 = .ok (.iload_n 3, 1) := by decide +kernel
theorem dX12_finds_234 : decode cX12_finds 234 = .ok (.iaload, 1) := by decide +kernel
theorem dX12_finds_235 : decode cX12_finds 235 = .ok (.iload_n 2, 1) := by decide +kernel
theorem dX12_finds_236 : decode cX12_finds 236 = .ok (.if_icmp .ne 17, 3) := by decide +kernel
theorem dX12_finds_239 : decode cX12_finds 239 = .ok (.aload_n 0, 1) := by decide +kernel
theorem dX12_finds_240 : decode cX12_finds 240 = .ok (.getfield 90, 3) := by decide +kernel
theorem dX12_finds_243 : decode cX12_finds 243 = .ok (.iload_n 3, 1) := by decide +kernel
theorem dX12_finds_244 : decode cX12_finds 244 = .ok (.baload, 1) := by decide +kernel
theorem dX12_finds_245 : decode cX12_finds 245 = .ok (.ifCond .eq 8, 3) := by decide +kernel
theorem dX12_finds_248 : decode cX12_finds 248 = .ok (.aload_n 0, 1) := by decide +kernel
theorem dX12_finds_249 : decode cX12_finds 249 = .ok (.iload_n 3, 1) := by decide +kernel
theorem dX12_finds_250 : decode cX12_finds 250 = .ok (.invokevirtual 246, 3) := by decide +kernel
theorem dX12_finds_253 : decode cX12_finds 253 = .ok (.iinc 3 1, 3) := by decide +kernel
theorem dX12_finds_256 : decode cX12_finds 256 = .ok (.goto (-35), 3) := by decide +kernel
theorem dX12_finds_259 : decode cX12_finds 259 = .ok (.iinc 2 (-1), 3) := by decide +kernel
theorem dX12_finds_262 : decode cX12_finds 262 = .ok (.goto (-47), 3) := by decide +kernel
theorem dX12_finds_265 : decode cX12_finds 265 = .ok (.aload_n 0, 1) := by decide +kernel
theorem dX12_finds_266 : decode cX12_finds 266 = .ok (.getfield 81, 3) := by decide +kernel
theorem dX12_finds_269 : decode cX12_finds 269 = .ok (.iconst 0, 1) := by decide +kernel
theorem dX12_finds_270 : decode cX12_finds 270 = .ok (.iconst 0, 1) := by decide +kernel
theorem dX12_finds_271 : decode cX12_finds 271 = .ok (.iastore, 1) := by decide +kernel
theorem dX12_finds_272 : decode cX12_finds 272 = .ok (.aload_n 0, 1) := by decide +kernel
theorem dX12_finds_273 : decode cX12_finds 273 = .ok (.getfield 81, 3) := by decide +kernel
theorem dX12_finds_276 : decode cX12_finds 276 = .ok (.iconst 1, 1) := by decide +kernel
theorem dX12_finds_277 : decode cX12_finds 277 = .ok (.iconst 0, 1) := by decide +kernel
theorem dX12_finds_278 : decode cX12_finds 278 = .ok (.iastore, 1) := by decide +kernel
theorem dX12_finds_279 : decode cX12_finds 279 = .ok (.iconst 0, 1) := by decide +kernel
theorem dX12_finds_280 : decode cX12_finds 280 = .ok (.istore_n 2, 1) := by decide +kernel
theorem dX12_finds_281 : decode cX12_finds 281 = .ok (.iload_n 2, 1) := by decide +kernel
theorem dX12_finds_282 : decode cX12_finds 282 = .ok (.aload_n 0, 1) := by decide +kernel
theorem dX12_finds_283 : decode cX12_finds 283 = .ok (.getfield 16, 3) := by decide +kernel
theorem dX12_finds_286 : decode cX12_finds 286 = .ok (.if_icmp .ge 120, 3) := by decide +kernel
theorem dX12_finds_289 : decode cX12_finds 289 = .ok (.aload_n 0, 1) := by decide +kernel
theorem dX12_finds_290 : decode cX12_finds 290 = .ok (.getfield 90, 3) := by decide +kernel
theorem dX12_finds_293 : decode cX12_finds 293 = .ok (.iload_n 2, 1) := by decide +kernel
theorem dX12_finds_294 : decode cX12_finds 294 = .ok (.baload, 1) := by decide +kernel
theorem dX12_finds_295 : decode cX12_finds 295 = .ok (.ifCond .eq 65, 3) := by decide +kernel
theorem dX12_finds_298 : decode cX12_finds 298 = .ok (.aload_n 0, 1) := by decide +kernel
theorem dX12_finds_299 : decode cX12_finds 299 = .ok (.getfield 23, 3) := by decide +kernel
theorem dX12_finds_302 : decode cX12_finds 302 = .ok (.iload_n 2, 1) := by decide +kernel
theorem dX12_finds_303 : decode cX12_finds 303 = .ok (.iaload, 1) := by decide +kernel
theorem dX12_finds_304 : decode cX12_finds 304 = .ok (.iconst (-1), 1) := by decide +kernel
theorem dX12_finds_305 : decode cX12_finds 305 = .ok (.if_icmp .eq 55, 3) := by decide +kernel
theorem dX12_finds_308 : decode cX12_finds 308 = .ok (.aload_n 0, 1) := by decide +kernel
theorem dX12_finds_309 : decode cX12_finds 309 = .ok (.getfield 81, 3) := by decide +kernel
theorem dX12_finds_312 : decode cX12_finds 312 = .ok (.iconst 4, 1) := by decide +kernel
theorem dX12_finds_313 : decode cX12_finds 313 = .ok (.iload_n 2, 1) := by decide +kernel
theorem dX12_finds_314 : decode cX12_finds 314 = .ok (.imul, 1) := by decide +kernel
theorem dX12_finds_315 : decode cX12_finds 315 = .ok (.dup2, 1) := by decide +kernel
theorem dX12_finds_316 : decode cX12_finds 316 = .ok (.iaload, 1) := by decide +kernel
theorem dX12_finds_317 : decode cX12_finds 317 = .ok (.aload_n 0, 1) := by decide +kernel
theorem dX12_finds_318 : decode cX12_finds 318 = .ok (.getfield 81, 3) := by decide +kernel
theorem dX12_finds_321 : decode cX12_finds 321 = .ok (.iconst 4, 1) := by decide +kernel
theorem dX12_finds_322 : decode cX12_finds 322 = .ok (.aload_n 0, 1) := by decide +kernel
theorem dX12_finds_323 : decode cX12_finds 323 = .ok (.getfield 23, 3) := by decide +kernel
theorem dX12_finds_326 : decode cX12_finds 326 = .ok (.iload_n 2, 1) := by decide +kernel
theorem dX12_finds_327 : decode cX12_finds 327 = .ok (.iaload, 1) := by decide +kernel
theorem dX12_finds_328 : decode cX12_finds 328 = .ok (.imul, 1) := by decide +kernel
theorem dX12_finds_329 : decode cX12_finds 329 = .ok (.iaload, 1) := by decide +kernel
theorem dX12_finds_330 : decode cX12_finds 330 = .ok (.iadd, 1) := by decide +kernel
theorem dX12_finds_331 : decode cX12_finds 331 = .ok (.iastore, 1) := by decide +kernel
theorem dX12_finds_332 : decode cX12_finds 332 = .ok (.aload_n 0, 1) := by decide +kernel
theorem dX12_finds_333 : decode cX12_finds 333 = .ok (.getfield 81, 3) := by decide +kernel
theorem dX12_finds_336 : decode cX12_finds 336 = .ok (.iconst 4, 1) := by decide +kernel
theorem dX12_finds_337 : decode cX12_finds 337 = .ok (.iload_n 2, 1) := by decide +kernel
theorem dX12_finds_338 : decode cX12_finds 338 = .ok (.imul, 1) := by decide +kernel
theorem dX12_finds_339 : decode cX12_finds 339 = .ok (.iconst 1, 1) := by decide +kernel
theorem dX12_finds_340 : decode cX12_finds 340 = .ok (.iadd, 1) := by decide +kernel
theorem dX12_finds_341 : decode cX12_finds 341 = .ok (.dup2, 1) := by decide +kernel
theorem dX12_finds_342 : decode cX12_finds 342 = .ok (.iaload, 1) := by decide +kernel
theorem dX12_finds_343 : decode cX12_finds 343 = .ok (.aload_n 0, 1) := by decide +kernel
theorem dX12_finds_344 : decode cX12_finds 344 = .ok (.getfield 81, 3) := by decide +kernel
theorem dX12_finds_347 : decode cX12_finds 347 = .ok (.iconst 4, 1) := by decide +kernel
theorem dX12_finds_348 : decode cX12_finds 348 = .ok (.aload_n 0, 1) := by decide +kernel
theorem dX12_finds_349 : decode cX12_finds 349 = .ok (.getfield 23, 3) := by decide +kernel
theorem dX12_finds_352 : decode cX12_finds 352 = .ok (.iload_n 2, 1) := by decide +kernel
theorem dX12_finds_353 : decode cX12_finds 353 = .ok (.iaload, 1) := by decide +kernel
theorem dX12_finds_354 : decode cX12_finds 354 = .ok (.imul, 1) := by decide +kernel
theorem dX12_finds_355 : decode cX12_finds 355 = .ok (.iconst 1, 1) := by decide +kernel
theorem dX12_finds_356 : decode cX12_finds 356 = .ok (.iadd, 1) := by decide +kernel
theorem dX12_finds_357 : decode cX12_finds 357 = .ok (.iaload, 1) := by decide +kernel
theorem dX12_finds_358 : decode cX12_finds 358 = .ok (.iadd, 1) := by decide +kernel
theorem dX12_finds_359 : decode cX12_finds 359 = .ok (.iastore, 1) := by decide +kernel
theorem dX12_finds_360 : decode cX12_finds 360 = .ok (.iconst 0, 1) := by decide +kernel
theorem dX12_finds_361 : decode cX12_finds 361 = .ok (.istore_n 3, 1) := by decide +kernel
theorem dX12_finds_362 : decode cX12_finds 362 = .ok (.iload_n 3, 1) := by decide +kernel
theorem dX12_finds_363 : decode cX12_finds 363 = .ok (.iconst 4, 1) := by decide +kernel
theorem dX12_finds_364 : decode cX12_finds 364 = .ok (.if_icmp .ge 36, 3) := by decide +kernel
theorem dX12_finds_367 : decode cX12_finds 367 = .ok (.aload_n 0, 1) := by decide +kernel
theorem dX12_finds_368 : decode cX12_finds 368 = .ok (.getfield 90, 3) := by decide +kernel
theorem dX12_finds_371 : decode cX12_finds 371 = .ok (.iload_n 2, 1) := by decide +kernel
theorem dX12_finds_372 : decode cX12_finds 372 = .ok (.baload, 1) := by decide +kernel
theorem dX12_finds_373 : decode cX12_finds 373 = .ok (.ifCond .ne 27, 3) := by decide +kernel
theorem dX12_finds_376 : decode cX12_finds 376 = .ok (.aload_n 0, 1) := by decide +kernel
theorem dX12_finds_377 : decode cX12_finds 377 = .ok (.getfield 81, 3) := by decide +kernel
theorem dX12_finds_380 : decode cX12_finds 380 = .ok (.iconst 4, 1) := by decide +kernel
theorem dX12_finds_381 : decode cX12_finds 381 = .ok (.iload_n 2, 1) := by decide +kernel
theorem dX12_finds_382 : decode cX12_finds 382 = .ok (.imul, 1) := by decide +kernel
theorem dX12_finds_383 : decode cX12_finds 383 = .ok (.iload_n 3, 1) := by decide +kernel
theorem dX12_finds_384 : decode cX12_finds 384 = .ok (.iadd, 1) := by decide +kernel
theorem dX12_finds_385 : decode cX12_finds 385 = .ok (.iconst (-1), 1) := by decide +kernel
theorem dX12_finds_386 : decode cX12_finds 386 = .ok (.iastore, 1) := by decide +kernel
theorem dX12_finds_387 : decode cX12_finds 387 = .ok (.aload_n 0, 1) := by decide +kernel
theorem dX12_finds_388 : decode cX12_finds 388 = .ok (.getfield 84, 3) := by decide +kernel
theorem dX12_finds_391 : decode cX12_finds 391 = .ok (.iload_n 2, 1) := by decide +kernel
theorem dX12_finds_392 : decode cX12_finds 392 = .ok (.iconst 0, 1) := by decide +kernel
theorem dX12_finds_393 : decode cX12_finds 393 = .ok (.iastore, 1) := by decide +kernel
theorem dX12_finds_394 : decode cX12_finds 394 = .ok (.iinc 3 1, 3) := by decide +kernel
theorem dX12_finds_397 : decode cX12_finds 397 = .ok (.goto (-35), 3) := by decide +kernel
theorem dX12_finds_400 : decode cX12_finds 400 = .ok (.iinc 2 1, 3) := by decide +kernel
theorem dX12_finds_403 : decode cX12_finds 403 = .ok (.goto (-122), 3) := by decide +kernel
theorem dX12_finds_406 : decode cX12_finds 406 = .ok (.return_, 1) := by decide +kernel
theorem dX12_valueOf_0 : decode cX12_valueOf 0 = .ok (.aload_n 0, 1) := by decide +kernel
theorem dX12_valueOf_1 : decode cX12_valueOf 1 = .ok (.iload_n 1, 1) := by decide +kernel
theorem dX12_valueOf_2 : decode cX12_valueOf 2 = .ok (.invokevirtual 139, 3) := by decide +kernel
theorem dX12_valueOf_5 : decode cX12_valueOf 5 = .ok (.istore_n 3, 1) := by decide +kernel
theorem dX12_valueOf_6 : decode cX12_valueOf 6 = .ok (.aload_n 0, 1) := by decide +kernel
theorem dX12_valueOf_7 : decode cX12_valueOf 7 = .ok (.iload_n 3, 1) := by decide +kernel
theorem dX12_valueOf_8 : decode cX12_valueOf 8 = .ok (.iconst (-1), 1) := by decide +kernel
theorem dX12_valueOf_9 : decode cX12_valueOf 9 = .ok (.if_icmp .eq 17, 3) := by decide +kernel
theorem dX12_valueOf_12 : decode cX12_valueOf 12 = .ok (.iload_n 2, 1) := by decide +kernel
theorem dX12_valueOf_13 : decode cX12_valueOf 13 = .ok (.iconst 0, 1) := by decide +kernel
theorem dX12_valueOf_14 : decode cX12_valueOf 14 = .ok (.bipush 13, 2) := by decide +kernel
theorem dX12_valueOf_16 : decode cX12_valueOf 16 = .ok (.invokestatic 129, 3) := by decide +kernel
theorem dX12_valueOf_19 : decode cX12_valueOf 19 = .ok (.ifCond .eq 7, 3) := by decide +kernel
theorem dX12_valueOf_22 : decode cX12_valueOf 22 = .ok (.iconst 1, 1) := by decide +kernel
theorem dX12_valueOf_23 : decode cX12_valueOf 23 = .ok (.goto 4, 3) := by decide +kernel
theorem dX12_valueOf_26 : decode cX12_valueOf 26 = .ok (.iconst 0, 1) := by decide +kernel
theorem dX12_valueOf_27 : decode cX12_valueOf 27 = .ok (.invokevirtual 161, 3) := by decide +kernel
theorem dX12_valueOf_30 : decode cX12_valueOf 30 = .ok (.ifCond .eq 12, 3) := by decide +kernel
theorem dX12_valueOf_33 : decode cX12_valueOf 33 = .ok (.aload_n 0, 1) := by decide +kernel
theorem dX12_valueOf_34 : decode cX12_valueOf 34 = .ok (.iload_n 3, 1) := by decide +kernel
theorem dX12_valueOf_35 : decode cX12_valueOf 35 = .ok (.iload_n 2, 1) := by decide +kernel
theorem dX12_valueOf_36 : decode cX12_valueOf 36 = .ok (.invokevirtual 223, 3) := by decide +kernel
theorem dX12_valueOf_39 : decode cX12_valueOf 39 = .ok (.goto 4, 3) := by decide +kernel
theorem dX12_valueOf_42 : decode cX12_valueOf 42 = .ok (.iconst 0, 1) := by decide +kernel
theorem dX12_valueOf_43 : decode cX12_valueOf 43 = .ok (.ireturn, 1) := by decide +kernel
theorem dX12_value_0 : decode cX12_value 0 = .ok (.aload_n 0, 1) := by decide +kernel
theorem dX12_value_1 : decode cX12_value 1 = .ok (.iload_n 1, 1) := by decide +kernel
theorem dX12_value_2 : decode cX12_value 2 = .ok (.iload_n 2, 1) := by decide +kernel
theorem dX12_value_3 : decode cX12_value 3 = .ok (.invokevirtual 249, 3) := by decide +kernel
theorem dX12_value_6 : decode cX12_value 6 = .ok (.ireturn, 1) := by decide +kernel
theorem dX12_valueAnew_0 : decode cX12_valueAnew 0 = .ok (.aload_n 0, 1) := by decide +kernel
theorem dX12_valueAnew_1 : decode cX12_valueAnew 1 = .ok (.iload_n 1, 1) := by decide +kernel
theorem dX12_valueAnew_2 : decode cX12_valueAnew 2 = .ok (.iload_n 2, 1) := by decide +kernel
theorem dX12_valueAnew_3 : decode cX12_valueAnew 3 = .ok (.invokevirtual 249, 3) := by decide +kernel
theorem dX12_valueAnew_6 : decode cX12_valueAnew 6 = .ok (.ireturn, 1) := by decide +kernel
theorem dX12_from_0 : decode cX12_from 0 = .ok (.aload_n 0, 1) := by decide +kernel
theorem dX12_from_1 : decode cX12_from 1 = .ok (.iload_n 1, 1) := by decide +kernel
theorem dX12_from_2 : decode cX12_from 2 = .ok (.invokevirtual 139, 3) := by decide +kernel
theorem dX12_from_5 : decode cX12_from 5 = .ok (.istore_n 3, 1) := by decide +kernel
theorem dX12_from_6 : decode cX12_from 6 = .ok (.aload_n 0, 1) := by decide +kernel
theorem dX12_from_7 : decode cX12_from 7 = .ok (.iload_n 3, 1) := by decide +kernel
theorem dX12_from_8 : decode cX12_from 8 = .ok (.iconst (-1), 1) := by decide +kernel
theorem dX12_from_9 : decode cX12_from 9 = .ok (.if_icmp .eq 17, 3) := by decide +kernel
theorem dX12_from_12 : decode cX12_from 12 = .ok (.iload_n 2, 1) := by decide +kernel
theorem dX12_from_13 : decode cX12_from 13 = .ok (.iconst 0, 1) := by decide +kernel
theorem dX12_from_14 : decode cX12_from 14 = .ok (.bipush 13, 2) := by decide +kernel
theorem dX12_from_16 : decode cX12_from 16 = .ok (.invokestatic 129, 3) := by decide +kernel
theorem dX12_from_19 : decode cX12_from 19 = .ok (.ifCond .eq 7, 3) := by decide +kernel
theorem dX12_from_22 : decode cX12_from 22 = .ok (.iconst 1, 1) := by decide +kernel
theorem dX12_from_23 : decode cX12_from 23 = .ok (.goto 4, 3) := by decide +kernel
theorem dX12_from_26 : decode cX12_from 26 = .ok (.iconst 0, 1) := by decide +kernel
theorem dX12_from_27 : decode cX12_from 27 = .ok (.invokevirtual 161, 3) := by decide +kernel
theorem dX12_from_30 : decode cX12_from 30 = .ok (.ifCond .eq 17, 3) := by decide +kernel
theorem dX12_from_33 : decode cX12_from 33 = .ok (.aload_n 0, 1) := by decide +kernel
theorem dX12_from_34 : decode cX12_from 34 = .ok (.getfield 78, 3) := by decide +kernel
theorem dX12_from_37 : decode cX12_from 37 = .ok (.bipush 14, 2) := by decide +kernel
theorem dX12_from_39 : decode cX12_from 39 = .ok (.iload_n 3, 1) := by decide +kernel
theorem dX12_from_40 : decode cX12_from 40 = .ok (.imul, 1) := by decide +kernel
theorem dX12_from_41 : decode cX12_from 41 = .ok (.iload_n 2, 1) := by decide +kernel
theorem dX12_from_42 : decode cX12_from 42 = .ok (.iadd, 1) := by decide +kernel
theorem dX12_from_43 : decode cX12_from 43 = .ok (.iaload, 1) := by decide +kernel
theorem dX12_from_44 : decode cX12_from 44 = .ok (.goto 4, 3) := by decide +kernel
theorem dX12_from_47 : decode cX12_from 47 = .ok (.iconst 0, 1) := by decide +kernel
theorem dX12_from_48 : decode cX12_from 48 = .ok (.ireturn, 1) := by decide +kernel
theorem dX12_boxOf_0 : decode cX12_boxOf 0 = .ok (.aload_n 0, 1) := by decide +kernel
theorem dX12_boxOf_1 : decode cX12_boxOf 1 = .ok (.iload_n 1, 1) := by decide +kernel
theorem dX12_boxOf_2 : decode cX12_boxOf 2 = .ok (.invokevirtual 139, 3) := by decide +kernel
theorem dX12_boxOf_5 : decode cX12_boxOf 5 = .ok (.istore_n 3, 1) := by decide +kernel
theorem dX12_boxOf_6 : decode cX12_boxOf 6 = .ok (.aload_n 0, 1) := by decide +kernel
theorem dX12_boxOf_7 : decode cX12_boxOf 7 = .ok (.iload_n 3, 1) := by decide +kernel
theorem dX12_boxOf_8 : decode cX12_boxOf 8 = .ok (.iconst (-1), 1) := by decide +kernel
theorem dX12_boxOf_9 : decode cX12_boxOf 9 = .ok (.if_icmp .eq 7, 3) := by decide +kernel
theorem dX12_boxOf_12 : decode cX12_boxOf 12 = .ok (.iconst 1, 1) := by decide +kernel
theorem dX12_boxOf_13 : decode cX12_boxOf 13 = .ok (.goto 4, 3) := by decide +kernel
theorem dX12_boxOf_16 : decode cX12_boxOf 16 = .ok (.iconst 0, 1) := by decide +kernel
theorem dX12_boxOf_17 : decode cX12_boxOf 17 = .ok (.iload_n 2, 1) := by decide +kernel
theorem dX12_boxOf_18 : decode cX12_boxOf 18 = .ok (.iconst 0, 1) := by decide +kernel
theorem dX12_boxOf_19 : decode cX12_boxOf 19 = .ok (.iconst 3, 1) := by decide +kernel
theorem dX12_boxOf_20 : decode cX12_boxOf 20 = .ok (.invokestatic 129, 3) := by decide +kernel
theorem dX12_boxOf_23 : decode cX12_boxOf 23 = .ok (.invokevirtual 153, 3) := by decide +kernel
theorem dX12_boxOf_26 : decode cX12_boxOf 26 = .ok (.ifCond .eq 16, 3) := by decide +kernel
theorem dX12_boxOf_29 : decode cX12_boxOf 29 = .ok (.aload_n 0, 1) := by decide +kernel
theorem dX12_boxOf_30 : decode cX12_boxOf 30 = .ok (.getfield 81, 3) := by decide +kernel
theorem dX12_boxOf_33 : decode cX12_boxOf 33 = .ok (.iconst 4, 1) := by decide +kernel
theorem dX12_boxOf_34 : decode cX12_boxOf 34 = .ok (.iload_n 3, 1) := by decide +kernel
theorem dX12_boxOf_35 : decode cX12_boxOf 35 = .ok (.imul, 1) := by decide +kernel
theorem dX12_boxOf_36 : decode cX12_boxOf 36 = .ok (.iload_n 2, 1) := by decide +kernel
theorem dX12_boxOf_37 : decode cX12_boxOf 37 = .ok (.iadd, 1) := by decide +kernel
theorem dX12_boxOf_38 : decode cX12_boxOf 38 = .ok (.iaload, 1) := by decide +kernel
theorem dX12_boxOf_39 : decode cX12_boxOf 39 = .ok (.goto 4, 3) := by decide +kernel
theorem dX12_boxOf_42 : decode cX12_boxOf 42 = .ok (.iconst 0, 1) := by decide +kernel
theorem dX12_boxOf_43 : decode cX12_boxOf 43 = .ok (.ireturn, 1) := by decide +kernel
theorem dX12_box_0 : decode cX12_box 0 = .ok (.aload_n 0, 1) := by decide +kernel
theorem dX12_box_1 : decode cX12_box 1 = .ok (.iload_n 1, 1) := by decide +kernel
theorem dX12_box_2 : decode cX12_box 2 = .ok (.iload_n 2, 1) := by decide +kernel
theorem dX12_box_3 : decode cX12_box 3 = .ok (.invokevirtual 252, 3) := by decide +kernel
theorem dX12_box_6 : decode cX12_box 6 = .ok (.ireturn, 1) := by decide +kernel
theorem dX12_boxAnew_0 : decode cX12_boxAnew 0 = .ok (.aload_n 0, 1) := by decide +kernel
theorem dX12_boxAnew_1 : decode cX12_boxAnew 1 = .ok (.iload_n 1, 1) := by decide +kernel
theorem dX12_boxAnew_2 : decode cX12_boxAnew 2 = .ok (.iload_n 2, 1) := by decide +kernel
theorem dX12_boxAnew_3 : decode cX12_boxAnew 3 = .ok (.invokevirtual 252, 3) := by decide +kernel
theorem dX12_boxAnew_6 : decode cX12_boxAnew 6 = .ok (.ireturn, 1) := by decide +kernel
theorem dX12_lines_0 : decode cX12_lines 0 = .ok (.aload_n 0, 1) := by decide +kernel
theorem dX12_lines_1 : decode cX12_lines 1 = .ok (.iload_n 1, 1) := by decide +kernel
theorem dX12_lines_2 : decode cX12_lines 2 = .ok (.invokevirtual 139, 3) := by decide +kernel
theorem dX12_lines_5 : decode cX12_lines 5 = .ok (.istore_n 2, 1) := by decide +kernel
theorem dX12_lines_6 : decode cX12_lines 6 = .ok (.aload_n 0, 1) := by decide +kernel
theorem dX12_lines_7 : decode cX12_lines 7 = .ok (.iload_n 2, 1) := by decide +kernel
theorem dX12_lines_8 : decode cX12_lines 8 = .ok (.iconst (-1), 1) := by decide +kernel
theorem dX12_lines_9 : decode cX12_lines 9 = .ok (.if_icmp .eq 7, 3) := by decide +kernel
theorem dX12_lines_12 : decode cX12_lines 12 = .ok (.iconst 1, 1) := by decide +kernel
theorem dX12_lines_13 : decode cX12_lines 13 = .ok (.goto 4, 3) := by decide +kernel
theorem dX12_lines_16 : decode cX12_lines 16 = .ok (.iconst 0, 1) := by decide +kernel
theorem dX12_lines_17 : decode cX12_lines 17 = .ok (.invokevirtual 161, 3) := by decide +kernel
theorem dX12_lines_20 : decode cX12_lines 20 = .ok (.ifCond .eq 12, 3) := by decide +kernel
theorem dX12_lines_23 : decode cX12_lines 23 = .ok (.aload_n 0, 1) := by decide +kernel
theorem dX12_lines_24 : decode cX12_lines 24 = .ok (.getfield 84, 3) := by decide +kernel
theorem dX12_lines_27 : decode cX12_lines 27 = .ok (.iload_n 2, 1) := by decide +kernel
theorem dX12_lines_28 : decode cX12_lines 28 = .ok (.iaload, 1) := by decide +kernel
theorem dX12_lines_29 : decode cX12_lines 29 = .ok (.goto 4, 3) := by decide +kernel
theorem dX12_lines_32 : decode cX12_lines 32 = .ok (.iconst 0, 1) := by decide +kernel
theorem dX12_lines_33 : decode cX12_lines 33 = .ok (.ireturn, 1) := by decide +kernel
theorem dX12_elements_0 : decode cX12_elements 0 = .ok (.aload_n 0, 1) := by decide +kernel
theorem dX12_elements_1 : decode cX12_elements 1 = .ok (.iconst 0, 1) := by decide +kernel
theorem dX12_elements_2 : decode cX12_elements 2 = .ok (.putfield 123, 3) := by decide +kernel
theorem dX12_elements_5 : decode cX12_elements 5 = .ok (.aload_n 0, 1) := by decide +kernel
theorem dX12_elements_6 : decode cX12_elements 6 = .ok (.getfield 16, 3) := by decide +kernel
theorem dX12_elements_9 : decode cX12_elements 9 = .ok (.ireturn, 1) := by decide +kernel
theorem dX12_reached_0 : decode cX12_reached 0 = .ok (.aload_n 0, 1) := by decide +kernel
theorem dX12_reached_1 : decode cX12_reached 1 = .ok (.iconst 0, 1) := by decide +kernel
theorem dX12_reached_2 : decode cX12_reached 2 = .ok (.putfield 123, 3) := by decide +kernel
theorem dX12_reached_5 : decode cX12_reached 5 = .ok (.aload_n 0, 1) := by decide +kernel
theorem dX12_reached_6 : decode cX12_reached 6 = .ok (.getfield 136, 3) := by decide +kernel
theorem dX12_reached_9 : decode cX12_reached 9 = .ok (.ireturn, 1) := by decide +kernel
