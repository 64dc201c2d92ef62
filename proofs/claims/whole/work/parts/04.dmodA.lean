theorem dX12_init_0 : decode cX12_init 0 = .ok (.aload_n 0, 1) := by decide +kernel
theorem dX12_init_1 : decode cX12_init 1 = .ok (.invokespecial 1, 3) := by decide +kernel
theorem dX12_init_4 : decode cX12_init 4 = .ok (.aload_n 0, 1) := by decide +kernel
theorem dX12_init_5 : decode cX12_init 5 = .ok (.bipush 80, 2) := by decide +kernel
theorem dX12_init_7 : decode cX12_init 7 = .ok (.newarray .int, 2) := by decide +kernel
theorem dX12_init_9 : decode cX12_init 9 = .ok (.putfield 7, 3) := by decide +kernel
theorem dX12_init_12 : decode cX12_init 12 = .ok (.aload_n 0, 1) := by decide +kernel
theorem dX12_init_13 : decode cX12_init 13 = .ok (.iconst 2, 1) := by decide +kernel
theorem dX12_init_14 : decode cX12_init 14 = .ok (.putfield 13, 3) := by decide +kernel
theorem dX12_init_17 : decode cX12_init 17 = .ok (.aload_n 0, 1) := by decide +kernel
theorem dX12_init_18 : decode cX12_init 18 = .ok (.bipush 36, 2) := by decide +kernel
theorem dX12_init_20 : decode cX12_init 20 = .ok (.newarray .int, 2) := by decide +kernel
theorem dX12_init_22 : decode cX12_init 22 = .ok (.putfield 17, 3) := by decide +kernel
theorem dX12_init_25 : decode cX12_init 25 = .ok (.aload_n 0, 1) := by decide +kernel
theorem dX12_init_26 : decode cX12_init 26 = .ok (.bipush 6, 2) := by decide +kernel
theorem dX12_init_28 : decode cX12_init 28 = .ok (.newarray .int, 2) := by decide +kernel
theorem dX12_init_30 : decode cX12_init 30 = .ok (.putfield 20, 3) := by decide +kernel
theorem dX12_init_33 : decode cX12_init 33 = .ok (.aload_n 0, 1) := by decide +kernel
theorem dX12_init_34 : decode cX12_init 34 = .ok (.bipush 6, 2) := by decide +kernel
theorem dX12_init_36 : decode cX12_init 36 = .ok (.newarray .int, 2) := by decide +kernel
theorem dX12_init_38 : decode cX12_init 38 = .ok (.putfield 23, 3) := by decide +kernel
theorem dX12_init_41 : decode cX12_init 41 = .ok (.aload_n 0, 1) := by decide +kernel
theorem dX12_init_42 : decode cX12_init 42 = .ok (.bipush 6, 2) := by decide +kernel
theorem dX12_init_44 : decode cX12_init 44 = .ok (.newarray .int, 2) := by decide +kernel
theorem dX12_init_46 : decode cX12_init 46 = .ok (.putfield 26, 3) := by decide +kernel
theorem dX12_init_49 : decode cX12_init 49 = .ok (.aload_n 0, 1) := by decide +kernel
theorem dX12_init_50 : decode cX12_init 50 = .ok (.bipush 36, 2) := by decide +kernel
theorem dX12_init_52 : decode cX12_init 52 = .ok (.newarray .int, 2) := by decide +kernel
theorem dX12_init_54 : decode cX12_init 54 = .ok (.putfield 29, 3) := by decide +kernel
theorem dX12_init_57 : decode cX12_init 57 = .ok (.aload_n 0, 1) := by decide +kernel
theorem dX12_init_58 : decode cX12_init 58 = .ok (.bipush 6, 2) := by decide +kernel
theorem dX12_init_60 : decode cX12_init 60 = .ok (.newarray .int, 2) := by decide +kernel
theorem dX12_init_62 : decode cX12_init 62 = .ok (.putfield 32, 3) := by decide +kernel
theorem dX12_init_65 : decode cX12_init 65 = .ok (.aload_n 0, 1) := by decide +kernel
theorem dX12_init_66 : decode cX12_init 66 = .ok (.bipush 6, 2) := by decide +kernel
theorem dX12_init_68 : decode cX12_init 68 = .ok (.newarray .int, 2) := by decide +kernel
theorem dX12_init_70 : decode cX12_init 70 = .ok (.putfield 35, 3) := by decide +kernel
theorem dX12_init_73 : decode cX12_init 73 = .ok (.aload_n 0, 1) := by decide +kernel
theorem dX12_init_74 : decode cX12_init 74 = .ok (.bipush 6, 2) := by decide +kernel
theorem dX12_init_76 : decode cX12_init 76 = .ok (.newarray .int, 2) := by decide +kernel
theorem dX12_init_78 : decode cX12_init 78 = .ok (.putfield 38, 3) := by decide +kernel
theorem dX12_init_81 : decode cX12_init 81 = .ok (.aload_n 0, 1) := by decide +kernel
theorem dX12_init_82 : decode cX12_init 82 = .ok (.iconst 2, 1) := by decide +kernel
theorem dX12_init_83 : decode cX12_init 83 = .ok (.newarray .int, 2) := by decide +kernel
theorem dX12_init_85 : decode cX12_init 85 = .ok (.putfield 41, 3) := by decide +kernel
theorem dX12_init_88 : decode cX12_init 88 = .ok (.aload_n 0, 1) := by decide +kernel
theorem dX12_init_89 : decode cX12_init 89 = .ok (.bipush 8, 2) := by decide +kernel
theorem dX12_init_91 : decode cX12_init 91 = .ok (.newarray .int, 2) := by decide +kernel
theorem dX12_init_93 : decode cX12_init 93 = .ok (.putfield 44, 3) := by decide +kernel
theorem dX12_init_96 : decode cX12_init 96 = .ok (.aload_n 0, 1) := by decide +kernel
theorem dX12_init_97 : decode cX12_init 97 = .ok (.sipush 448, 3) := by decide +kernel
theorem dX12_init_100 : decode cX12_init 100 = .ok (.newarray .int, 2) := by decide +kernel
theorem dX12_init_102 : decode cX12_init 102 = .ok (.putfield 47, 3) := by decide +kernel
theorem dX12_init_105 : decode cX12_init 105 = .ok (.aload_n 0, 1) := by decide +kernel
theorem dX12_init_106 : decode cX12_init 106 = .ok (.bipush 56, 2) := by decide +kernel
theorem dX12_init_108 : decode cX12_init 108 = .ok (.newarray .int, 2) := by decide +kernel
theorem dX12_init_110 : decode cX12_init 110 = .ok (.putfield 50, 3) := by decide +kernel
theorem dX12_init_113 : decode cX12_init 113 = .ok (.aload_n 0, 1) := by decide +kernel
theorem dX12_init_114 : decode cX12_init 114 = .ok (.iconst 2, 1) := by decide +kernel
theorem dX12_init_115 : decode cX12_init 115 = .ok (.newarray .boolean, 2) := by decide +kernel
theorem dX12_init_117 : decode cX12_init 117 = .ok (.putfield 53, 3) := by decide +kernel
theorem dX12_init_120 : decode cX12_init 120 = .ok (.aload_n 0, 1) := by decide +kernel
theorem dX12_init_121 : decode cX12_init 121 = .ok (.sipush 128, 3) := by decide +kernel
theorem dX12_init_124 : decode cX12_init 124 = .ok (.newarray .int, 2) := by decide +kernel
theorem dX12_init_126 : decode cX12_init 126 = .ok (.putfield 57, 3) := by decide +kernel
theorem dX12_init_129 : decode cX12_init 129 = .ok (.aload_n 0, 1) := by decide +kernel
theorem dX12_init_130 : decode cX12_init 130 = .ok (.sipush 384, 3) := by decide +kernel
theorem dX12_init_133 : decode cX12_init 133 = .ok (.newarray .int, 2) := by decide +kernel
theorem dX12_init_135 : decode cX12_init 135 = .ok (.putfield 60, 3) := by decide +kernel
theorem dX12_init_138 : decode cX12_init 138 = .ok (.aload_n 0, 1) := by decide +kernel
theorem dX12_init_139 : decode cX12_init 139 = .ok (.bipush 9, 2) := by decide +kernel
theorem dX12_init_141 : decode cX12_init 141 = .ok (.newarray .int, 2) := by decide +kernel
theorem dX12_init_143 : decode cX12_init 143 = .ok (.putfield 63, 3) := by decide +kernel
theorem dX12_init_146 : decode cX12_init 146 = .ok (.aload_n 0, 1) := by decide +kernel
theorem dX12_init_147 : decode cX12_init 147 = .ok (.bipush 9, 2) := by decide +kernel
theorem dX12_init_149 : decode cX12_init 149 = .ok (.newarray .int, 2) := by decide +kernel
theorem dX12_init_151 : decode cX12_init 151 = .ok (.putfield 66, 3) := by decide +kernel
theorem dX12_init_154 : decode cX12_init 154 = .ok (.aload_n 0, 1) := by decide +kernel
theorem dX12_init_155 : decode cX12_init 155 = .ok (.bipush 9, 2) := by decide +kernel
theorem dX12_init_157 : decode cX12_init 157 = .ok (.newarray .int, 2) := by decide +kernel
theorem dX12_init_159 : decode cX12_init 159 = .ok (.putfield 69, 3) := by decide +kernel
theorem dX12_init_162 : decode cX12_init 162 = .ok (.aload_n 0, 1) := by decide +kernel
theorem dX12_init_163 : decode cX12_init 163 = .ok (.bipush 9, 2) := by decide +kernel
theorem dX12_init_165 : decode cX12_init 165 = .ok (.newarray .int, 2) := by decide +kernel
theorem dX12_init_167 : decode cX12_init 167 = .ok (.putfield 72, 3) := by decide +kernel
theorem dX12_init_170 : decode cX12_init 170 = .ok (.aload_n 0, 1) := by decide +kernel
theorem dX12_init_171 : decode cX12_init 171 = .ok (.bipush 9, 2) := by decide +kernel
theorem dX12_init_173 : decode cX12_init 173 = .ok (.newarray .int, 2) := by decide +kernel
theorem dX12_init_175 : decode cX12_init 175 = .ok (.putfield 75, 3) := by decide +kernel
theorem dX12_init_178 : decode cX12_init 178 = .ok (.aload_n 0, 1) := by decide +kernel
theorem dX12_init_179 : decode cX12_init 179 = .ok (.bipush 9, 2) := by decide +kernel
theorem dX12_init_181 : decode cX12_init 181 = .ok (.newarray .int, 2) := by decide +kernel
theorem dX12_init_183 : decode cX12_init 183 = .ok (.putfield 78, 3) := by decide +kernel
theorem dX12_init_186 : decode cX12_init 186 = .ok (.aload_n 0, 1) := by decide +kernel
theorem dX12_init_187 : decode cX12_init 187 = .ok (.bipush 9, 2) := by decide +kernel
theorem dX12_init_189 : decode cX12_init 189 = .ok (.newarray .int, 2) := by decide +kernel
theorem dX12_init_191 : decode cX12_init 191 = .ok (.putfield 81, 3) := by decide +kernel
theorem dX12_init_194 : decode cX12_init 194 = .ok (.aload_n 0, 1) := by decide +kernel
theorem dX12_init_195 : decode cX12_init 195 = .ok (.bipush 9, 2) := by decide +kernel
theorem dX12_init_197 : decode cX12_init 197 = .ok (.newarray .int, 2) := by decide +kernel
theorem dX12_init_199 : decode cX12_init 199 = .ok (.putfield 84, 3) := by decide +kernel
theorem dX12_init_202 : decode cX12_init 202 = .ok (.aload_n 0, 1) := by decide +kernel
theorem dX12_init_203 : decode cX12_init 203 = .ok (.bipush 9, 2) := by decide +kernel
theorem dX12_init_205 : decode cX12_init 205 = .ok (.newarray .int, 2) := by decide +kernel
theorem dX12_init_207 : decode cX12_init 207 = .ok (.putfield 87, 3) := by decide +kernel
theorem dX12_init_210 : decode cX12_init 210 = .ok (.aload_n 0, 1) := by decide +kernel
theorem dX12_init_211 : decode cX12_init 211 = .ok (.bipush 9, 2) := by decide +kernel
theorem dX12_init_213 : decode cX12_init 213 = .ok (.newarray .int, 2) := by decide +kernel
theorem dX12_init_215 : decode cX12_init 215 = .ok (.putfield 90, 3) := by decide +kernel
theorem dX12_init_218 : decode cX12_init 218 = .ok (.aload_n 0, 1) := by decide +kernel
theorem dX12_init_219 : decode cX12_init 219 = .ok (.bipush 9, 2) := by decide +kernel
theorem dX12_init_221 : decode cX12_init 221 = .ok (.newarray .int, 2) := by decide +kernel
theorem dX12_init_223 : decode cX12_init 223 = .ok (.putfield 93, 3) := by decide +kernel
theorem dX12_init_226 : decode cX12_init 226 = .ok (.aload_n 0, 1) := by decide +kernel
theorem dX12_init_227 : decode cX12_init 227 = .ok (.sipush 6000, 3) := by decide +kernel
theorem dX12_init_230 : decode cX12_init 230 = .ok (.newarray .long, 2) := by decide +kernel
theorem dX12_init_232 : decode cX12_init 232 = .ok (.putfield 96, 3) := by decide +kernel
theorem dX12_init_235 : decode cX12_init 235 = .ok (.aload_n 0, 1) := by decide +kernel
theorem dX12_init_236 : decode cX12_init 236 = .ok (.sipush 6000, 3) := by decide +kernel
theorem dX12_init_239 : decode cX12_init 239 = .ok (.newarray .long, 2) := by decide +kernel
theorem dX12_init_241 : decode cX12_init 241 = .ok (.putfield 100, 3) := by decide +kernel
theorem dX12_init_244 : decode cX12_init 244 = .ok (.iconst 0, 1) := by decide +kernel
theorem dX12_init_245 : decode cX12_init 245 = .ok (.istore_n 1, 1) := by decide +kernel
theorem dX12_init_246 : decode cX12_init 246 = .ok (.iload_n 1, 1) := by decide +kernel
theorem dX12_init_247 : decode cX12_init 247 = .ok (.bipush 36, 2) := by decide +kernel
theorem dX12_init_249 : decode cX12_init 249 = .ok (.if_icmp .ge 32, 3) := by decide +kernel
theorem dX12_init_252 : decode cX12_init 252 = .ok (.aload_n 0, 1) := by decide +kernel
theorem dX12_init_253 : decode cX12_init 253 = .ok (.getfield 17, 3) := by decide +kernel
theorem dX12_init_256 : decode cX12_init 256 = .ok (.iload_n 1, 1) := by decide +kernel
theorem dX12_init_257 : decode cX12_init 257 = .ok (.iload_n 1, 1) := by decide +kernel
theorem dX12_init_258 : decode cX12_init 258 = .ok (.bipush 6, 2) := by decide +kernel
theorem dX12_init_260 : decode cX12_init 260 = .ok (.idiv, 1) := by decide +kernel
theorem dX12_init_261 : decode cX12_init 261 = .ok (.iload_n 1, 1) := by decide +kernel
theorem dX12_init_262 : decode cX12_init 262 = .ok (.bipush 6, 2) := by decide +kernel
theorem dX12_init_264 : decode cX12_init 264 = .ok (.irem, 1) := by decide +kernel
theorem dX12_init_265 : decode cX12_init 265 = .ok (.if_icmp .ne 7, 3) := by decide +kernel
theorem dX12_init_268 : decode cX12_init 268 = .ok (.iconst 0, 1) := by decide +kernel
theorem dX12_init_269 : decode cX12_init 269 = .ok (.goto 5, 3) := by decide +kernel
theorem dX12_init_272 : decode cX12_init 272 = .ok (.ldc 103, 2) := by decide +kernel
theorem dX12_init_274 : decode cX12_init 274 = .ok (.iastore, 1) := by decide +kernel
theorem dX12_init_275 : decode cX12_init 275 = .ok (.iinc 1 1, 3) := by decide +kernel
theorem dX12_init_278 : decode cX12_init 278 = .ok (.goto (-32), 3) := by decide +kernel
theorem dX12_init_281 : decode cX12_init 281 = .ok (.return_, 1) := by decide +kernel
theorem dX12_in_0 : decode cX12_in 0 = .ok (.lload_n 0, 1) := by decide +kernel
theorem dX12_in_1 : decode cX12_in 1 = .ok (.lload_n 2, 1) := by decide +kernel
theorem dX12_in_2 : decode cX12_in 2 = .ok (.lcmp, 1) := by decide +kernel
theorem dX12_in_3 : decode cX12_in 3 = .ok (.ifCond .lt 14, 3) := by decide +kernel
theorem dX12_in_6 : decode cX12_in 6 = .ok (.lload_n 0, 1) := by decide +kernel
theorem dX12_in_7 : decode cX12_in 7 = .ok (.lload 4, 2) := by decide +kernel
theorem dX12_in_9 : decode cX12_in 9 = .ok (.lcmp, 1) := by decide +kernel
theorem dX12_in_10 : decode cX12_in 10 = .ok (.ifCond .gt 7, 3) := by decide +kernel
theorem dX12_in_13 : decode cX12_in 13 = .ok (.iconst 1, 1) := by decide +kernel
theorem dX12_in_14 : decode cX12_in 14 = .ok (.goto 4, 3) := by decide +kernel
theorem dX12_in_17 : decode cX12_in 17 = .ok (.iconst 0, 1) := by decide +kernel
theorem dX12_in_18 : decode cX12_in 18 = .ok (.ireturn, 1) := by decide +kernel
theorem dX12_has_0 : decode cX12_has 0 = .ok (.iload_n 0, 1) := by decide +kernel
theorem dX12_has_1 : decode cX12_has 1 = .ok (.iload_n 1, 1) := by decide +kernel
theorem dX12_has_2 : decode cX12_has 2 = .ok (.ishr, 1) := by decide +kernel
theorem dX12_has_3 : decode cX12_has 3 = .ok (.iconst 1, 1) := by decide +kernel
theorem dX12_has_4 : decode cX12_has 4 = .ok (.iand, 1) := by decide +kernel
theorem dX12_has_5 : decode cX12_has 5 = .ok (.iconst 1, 1) := by decide +kernel
theorem dX12_has_6 : decode cX12_has 6 = .ok (.if_icmp .ne 7, 3) := by decide +kernel
theorem dX12_has_9 : decode cX12_has 9 = .ok (.iconst 1, 1) := by decide +kernel
theorem dX12_has_10 : decode cX12_has 10 = .ok (.goto 4, 3) := by decide +kernel
theorem dX12_has_13 : decode cX12_has 13 = .ok (.iconst 0, 1) := by decide +kernel
theorem dX12_has_14 : decode cX12_has 14 = .ok (.ireturn, 1) := by decide +kernel
theorem dX12_noPlace_0 : decode cX12_noPlace 0 = .ok (.iload_n 1, 1) := by decide +kernel
theorem dX12_noPlace_1 : decode cX12_noPlace 1 = .ok (.i2l, 1) := by decide +kernel
theorem dX12_noPlace_2 : decode cX12_noPlace 2 = .ok (.lconst 0, 1) := by decide +kernel
theorem dX12_noPlace_3 : decode cX12_noPlace 3 = .ok (.aload_n 0, 1) := by decide +kernel
theorem dX12_noPlace_4 : decode cX12_noPlace 4 = .ok (.getfield 13, 3) := by decide +kernel
theorem dX12_noPlace_7 : decode cX12_noPlace 7 = .ok (.iconst 1, 1) := by decide +kernel
theorem dX12_noPlace_8 : decode cX12_noPlace 8 = .ok (.isub, 1) := by decide +kernel
theorem dX12_noPlace_9 : decode cX12_noPlace 9 = .ok (.i2l, 1) := by decide +kernel
theorem dX12_noPlace_10 : decode cX12_noPlace 10 = .ok (.invokestatic 107, 3) := by decide +kernel
theorem dX12_noPlace_13 : decode cX12_noPlace 13 = .ok (.ifCond .ne 7, 3) := by decide +kernel
theorem dX12_noPlace_16 : decode cX12_noPlace 16 = .ok (.iconst 1, 1) := by decide +kernel
theorem dX12_noPlace_17 : decode cX12_noPlace 17 = .ok (.goto 4, 3) := by decide +kernel
theorem dX12_noPlace_20 : decode cX12_noPlace 20 = .ok (.iconst 0, 1) := by decide +kernel
theorem dX12_noPlace_21 : decode cX12_noPlace 21 = .ok (.ireturn, 1) := by decide +kernel
theorem dX12_noErrand_0 : decode cX12_noErrand 0 = .ok (.iload_n 1, 1) := by decide +kernel
theorem dX12_noErrand_1 : decode cX12_noErrand 1 = .ok (.i2l, 1) := by decide +kernel
theorem dX12_noErrand_2 : decode cX12_noErrand 2 = .ok (.lconst 0, 1) := by decide +kernel
theorem dX12_noErrand_3 : decode cX12_noErrand 3 = .ok (.aload_n 0, 1) := by decide +kernel
theorem dX12_noErrand_4 : decode cX12_noErrand 4 = .ok (.getfield 111, 3) := by decide +kernel
theorem dX12_noErrand_7 : decode cX12_noErrand 7 = .ok (.iconst 1, 1) := by decide +kernel
theorem dX12_noErrand_8 : decode cX12_noErrand 8 = .ok (.isub, 1) := by decide +kernel
theorem dX12_noErrand_9 : decode cX12_noErrand 9 = .ok (.i2l, 1) := by decide +kernel
theorem dX12_noErrand_10 : decode cX12_noErrand 10 = .ok (.invokestatic 107, 3) := by decide +kernel
theorem dX12_noErrand_13 : decode cX12_noErrand 13 = .ok (.ifCond .ne 7, 3) := by decide +kernel
theorem dX12_noErrand_16 : decode cX12_noErrand 16 = .ok (.iconst 1, 1) := by decide +kernel
theorem dX12_noErrand_17 : decode cX12_noErrand 17 = .ok (.goto 4, 3) := by decide +kernel
theorem dX12_noErrand_20 : decode cX12_noErrand 20 = .ok (.iconst 0, 1) := by decide +kernel
theorem dX12_noErrand_21 : decode cX12_noErrand 21 = .ok (.ireturn, 1) := by decide +kernel
theorem dX12_noWalker_0 : decode cX12_noWalker 0 = .ok (.iload_n 0, 1) := by decide +kernel
theorem dX12_noWalker_1 : decode cX12_noWalker 1 = .ok (.i2l, 1) := by decide +kernel
theorem dX12_noWalker_2 : decode cX12_noWalker 2 = .ok (.lconst 0, 1) := by decide +kernel
theorem dX12_noWalker_3 : decode cX12_noWalker 3 = .ok (.lconst 1, 1) := by decide +kernel
theorem dX12_noWalker_4 : decode cX12_noWalker 4 = .ok (.invokestatic 107, 3) := by decide +kernel
theorem dX12_noWalker_7 : decode cX12_noWalker 7 = .ok (.ifCond .ne 7, 3) := by decide +kernel
theorem dX12_noWalker_10 : decode cX12_noWalker 10 = .ok (.iconst 1, 1) := by decide +kernel
theorem dX12_noWalker_11 : decode cX12_noWalker 11 = .ok (.goto 4, 3) := by decide +kernel
theorem dX12_noWalker_14 : decode cX12_noWalker 14 = .ok (.iconst 0, 1) := by decide +kernel
theorem dX12_noWalker_15 : decode cX12_noWalker 15 = .ok (.ireturn, 1) := by decide +kernel
theorem dX12_write_0 : decode cX12_write 0 = .ok (.aload_n 0, 1) := by decide +kernel
theorem dX12_write_1 : decode cX12_write 1 = .ok (.iconst 0, 1) := by decide +kernel
theorem dX12_write_2 : decode cX12_write 2 = .ok (.putfield 104, 3) := by decide +kernel
theorem dX12_write_5 : decode cX12_write 5 = .ok (.iload_n 1, 1) := by decide +kernel
theorem dX12_write_6 : decode cX12_write 6 = .ok (.i2l, 1) := by decide +kernel
theorem dX12_write_7 : decode cX12_write 7 = .ok (.lconst 1, 1) := by decide +kernel
theorem dX12_write_8 : decode cX12_write 8 = .ok (.ldc2_w 114, 3) := by decide +kernel
theorem dX12_write_11 : decode cX12_write 11 = .ok (.invokestatic 107, 3) := by decide +kernel
theorem dX12_write_14 : decode cX12_write 14 = .ok (.ifCond .ne 6, 3) := by decide +kernel
theorem dX12_write_17 : decode cX12_write 17 = .ok (.bipush (-2), 2) := by decide +kernel
theorem dX12_write_19 : decode cX12_write 19 = .ok (.ireturn, 1) := by decide +kernel
theorem dX12_write_20 : decode cX12_write 20 = .ok (.aload_n 0, 1) := by decide +kernel
theorem dX12_write_21 : decode cX12_write 21 = .ok (.getfield 116, 3) := by decide +kernel
theorem dX12_write_24 : decode cX12_write 24 = .ok (.iload_n 1, 1) := by decide +kernel
theorem dX12_write_25 : decode cX12_write 25 = .ok (.iadd, 1) := by decide +kernel
theorem dX12_write_26 : decode cX12_write 26 = .ok (.bipush 80, 2) := by decide +kernel
theorem dX12_write_28 : decode cX12_write 28 = .ok (.if_icmp .le 6, 3) := by decide +kernel
theorem dX12_write_31 : decode cX12_write 31 = .ok (.bipush (-4), 2) := by decide +kernel
theorem dX12_write_33 : decode cX12_write 33 = .ok (.ireturn, 1) := by decide +kernel
theorem dX12_write_34 : decode cX12_write 34 = .ok (.iload_n 1, 1) := by decide +kernel
theorem dX12_write_35 : decode cX12_write 35 = .ok (.iconst 1, 1) := by decide +kernel
theorem dX12_write_36 : decode cX12_write 36 = .ok (.isub, 1) := by decide +kernel
theorem dX12_write_37 : decode cX12_write 37 = .ok (.istore 4, 2) := by decide +kernel
theorem dX12_write_39 : decode cX12_write 39 = .ok (.iload 4, 2) := by decide +kernel
theorem dX12_write_41 : decode cX12_write 41 = .ok (.ifCond .lt 40, 3) := by decide +kernel
theorem dX12_write_44 : decode cX12_write 44 = .ok (.aload_n 0, 1) := by decide +kernel
theorem dX12_write_45 : decode cX12_write 45 = .ok (.getfield 7, 3) := by decide +kernel
theorem dX12_write_48 : decode cX12_write 48 = .ok (.aload_n 0, 1) := by decide +kernel
theorem dX12_write_49 : decode cX12_write 49 = .ok (.getfield 116, 3) := by decide +kernel
theorem dX12_write_52 : decode cX12_write 52 = .ok (.lload_n 2, 1) := by decide +kernel
theorem dX12_write_53 : decode cX12_write 53 = .ok (.bipush 8, 2) := by decide +kernel
theorem dX12_write_55 : decode cX12_write 55 = .ok (.iload 4, 2) := by decide +kernel
theorem dX12_write_57 : decode cX12_write 57 = .ok (.imul, 1) := by decide +kernel
theorem dX12_write_58 : decode cX12_write 58 = .ok (.lshr, 1) := by decide +kernel
theorem dX12_write_59 : decode cX12_write 59 = .ok (.l2i, 1) := by decide +kernel
theorem dX12_write_60 : decode cX12_write 60 = .ok (.sipush 255, 3) := by decide +kernel
theorem dX12_write_63 : decode cX12_write 63 = .ok (.iand, 1) := by decide +kernel
theorem dX12_write_64 : decode cX12_write 64 = .ok (.iastore, 1) := by decide +kernel
theorem dX12_write_65 : decode cX12_write 65 = .ok (.aload_n 0, 1) := by decide +kernel
theorem dX12_write_66 : decode cX12_write 66 = .ok (.dup, 1) := by decide +kernel
theorem dX12_write_67 : decode cX12_write 67 = .ok (.getfield 116, 3) := by decide +kernel
theorem dX12_write_70 : decode cX12_write 70 = .ok (.iconst 1, 1) := by decide +kernel
theorem dX12_write_71 : decode cX12_write 71 = .ok (.iadd, 1) := by decide +kernel
theorem dX12_write_72 : decode cX12_write 72 = .ok (.putfield 116, 3) := by decide +kernel
theorem dX12_write_75 : decode cX12_write 75 = .ok (.iinc 4 (-1), 3) := by decide +kernel
theorem dX12_write_78 : decode cX12_write 78 = .ok (.goto (-39), 3) := by decide +kernel
theorem dX12_write_81 : decode cX12_write 81 = .ok (.aload_n 0, 1) := by decide +kernel
theorem dX12_write_82 : decode cX12_write 82 = .ok (.getfield 116, 3) := by decide +kernel
theorem dX12_write_85 : decode cX12_write 85 = .ok (.ireturn, 1) := by decide +kernel
theorem dX12_wipe_0 : decode cX12_wipe 0 = .ok (.aload_n 0, 1) := by decide +kernel
theorem dX12_wipe_1 : decode cX12_wipe 1 = .ok (.iconst 0, 1) := by decide +kernel
theorem dX12_wipe_2 : decode cX12_wipe 2 = .ok (.putfield 104, 3) := by decide +kernel
theorem dX12_wipe_5 : decode cX12_wipe 5 = .ok (.aload_n 0, 1) := by decide +kernel
theorem dX12_wipe_6 : decode cX12_wipe 6 = .ok (.getfield 116, 3) := by decide +kernel
theorem dX12_wipe_9 : decode cX12_wipe 9 = .ok (.istore_n 1, 1) := by decide +kernel
theorem dX12_wipe_10 : decode cX12_wipe 10 = .ok (.aload_n 0, 1) := by decide +kernel
theorem dX12_wipe_11 : decode cX12_wipe 11 = .ok (.iconst 0, 1) := by decide +kernel
theorem dX12_wipe_12 : decode cX12_wipe 12 = .ok (.putfield 116, 3) := by decide +kernel
theorem dX12_wipe_15 : decode cX12_wipe 15 = .ok (.iload_n 1, 1) := by decide +kernel
theorem dX12_wipe_16 : decode cX12_wipe 16 = .ok (.ireturn, 1) := by decide +kernel
theorem dX12_figure_0 : decode cX12_figure 0 = .ok (.aload_n 0, 1) := by decide +kernel
theorem dX12_figure_1 : decode cX12_figure 1 = .ok (.getfield 119, 3) := by decide +kernel
theorem dX12_figure_4 : decode cX12_figure 4 = .ok (.aload_n 0, 1) := by decide +kernel
theorem dX12_figure_5 : decode cX12_figure 5 = .ok (.getfield 116, 3) := by decide +kernel
theorem dX12_figure_8 : decode cX12_figure 8 = .ok (.if_icmp .eq 26, 3) := by decide +kernel
theorem dX12_figure_11 : decode cX12_figure 11 = .ok (.aload_n 0, 1) := by decide +kernel
theorem dX12_figure_12 : decode cX12_figure 12 = .ok (.getfield 7, 3) := by decide +kernel
theorem dX12_figure_15 : decode cX12_figure 15 = .ok (.aload_n 0, 1) := by decide +kernel
theorem dX12_figure_16 : decode cX12_figure 16 = .ok (.getfield 119, 3) := by decide +kernel
theorem dX12_figure_19 : decode cX12_figure 19 = .ok (.iaload, 1) := by decide +kernel
theorem dX12_figure_20 : decode cX12_figure 20 = .ok (.bipush 48, 2) := by decide +kernel
theorem dX12_figure_22 : decode cX12_figure 22 = .ok (.isub, 1) := by decide +kernel
theorem dX12_figure_23 : decode cX12_figure 23 = .ok (.i2l, 1) := by decide +kernel
theorem dX12_figure_24 : decode cX12_figure 24 = .ok (.iload_n 1, 1) := by decide +kernel
theorem dX12_figure_25 : decode cX12_figure 25 = .ok (.i2l, 1) := by decide +kernel
theorem dX12_figure_26 : decode cX12_figure 26 = .ok (.iload_n 2, 1) := by decide +kernel
theorem dX12_figure_27 : decode cX12_figure 27 = .ok (.i2l, 1) := by decide +kernel
theorem dX12_figure_28 : decode cX12_figure 28 = .ok (.invokestatic 107, 3) := by decide +kernel
theorem dX12_figure_31 : decode cX12_figure 31 = .ok (.ifCond .ne 6, 3) := by decide +kernel
theorem dX12_figure_34 : decode cX12_figure 34 = .ok (.bipush (-9), 2) := by decide +kernel
theorem dX12_figure_36 : decode cX12_figure 36 = .ok (.ireturn, 1) := by decide +kernel
theorem dX12_figure_37 : decode cX12_figure 37 = .ok (.aload_n 0, 1) := by decide +kernel
theorem dX12_figure_38 : decode cX12_figure 38 = .ok (.dup, 1) := by decide +kernel
theorem dX12_figure_39 : decode cX12_figure 39 = .ok (.getfield 119, 3) := by decide +kernel
theorem dX12_figure_42 : decode cX12_figure 42 = .ok (.iconst 1, 1) := by decide +kernel
theorem dX12_figure_43 : decode cX12_figure 43 = .ok (.iadd, 1) := by decide +kernel
theorem dX12_figure_44 : decode cX12_figure 44 = .ok (.putfield 119, 3) := by decide +kernel
theorem dX12_figure_47 : decode cX12_figure 47 = .ok (.aload_n 0, 1) := by decide +kernel
theorem dX12_figure_48 : decode cX12_figure 48 = .ok (.getfield 7, 3) := by decide +kernel
theorem dX12_figure_51 : decode cX12_figure 51 = .ok (.aload_n 0, 1) := by decide +kernel
theorem dX12_figure_52 : decode cX12_figure 52 = .ok (.getfield 119, 3) := by decide +kernel
theorem dX12_figure_55 : decode cX12_figure 55 = .ok (.iconst 1, 1) := by decide +kernel
theorem dX12_figure_56 : decode cX12_figure 56 = .ok (.isub, 1) := by decide +kernel
theorem dX12_figure_57 : decode cX12_figure 57 = .ok (.iaload, 1) := by decide +kernel
theorem dX12_figure_58 : decode cX12_figure 58 = .ok (.bipush 48, 2) := by decide +kernel
theorem dX12_figure_60 : decode cX12_figure 60 = .ok (.isub, 1) := by decide +kernel
theorem dX12_figure_61 : decode cX12_figure 61 = .ok (.ireturn, 1) := by decide +kernel
theorem dX12_hasPartner_0 : decode cX12_hasPartner 0 = .ok (.iconst 0, 1) := by decide +kernel
theorem dX12_hasPartner_1 : decode cX12_hasPartner 1 = .ok (.istore_n 2, 1) := by decide +kernel
theorem dX12_hasPartner_2 : decode cX12_hasPartner 2 = .ok (.iconst 0, 1) := by decide +kernel
theorem dX12_hasPartner_3 : decode cX12_hasPartner 3 = .ok (.istore_n 3, 1) := by decide +kernel
theorem dX12_hasPartner_4 : decode cX12_hasPartner 4 = .ok (.iload_n 3, 1) := by decide +kernel
theorem dX12_hasPartner_5 : decode cX12_hasPartner 5 = .ok (.aload_n 0, 1) := by decide +kernel
theorem dX12_hasPartner_6 : decode cX12_hasPartner 6 = .ok (.getfield 122, 3) := by decide +kernel
theorem dX12_hasPartner_9 : decode cX12_hasPartner 9 = .ok (.if_icmp .ge 40, 3) := by decide +kernel
theorem dX12_hasPartner_12 : decode cX12_hasPartner 12 = .ok (.iload_n 2, 1) := by decide +kernel
theorem dX12_hasPartner_13 : decode cX12_hasPartner 13 = .ok (.ifCond .ne 24, 3) := by decide +kernel
theorem dX12_hasPartner_16 : decode cX12_hasPartner 16 = .ok (.iload_n 1, 1) := by decide +kernel
theorem dX12_hasPartner_17 : decode cX12_hasPartner 17 = .ok (.iload_n 3, 1) := by decide +kernel
theorem dX12_hasPartner_18 : decode cX12_hasPartner 18 = .ok (.if_icmp .eq 23, 3) := by decide +kernel
theorem dX12_hasPartner_21 : decode cX12_hasPartner 21 = .ok (.aload_n 0, 1) := by decide +kernel
theorem dX12_hasPartner_22 : decode cX12_hasPartner 22 = .ok (.getfield 29, 3) := by decide +kernel
theorem dX12_hasPartner_25 : decode cX12_hasPartner 25 = .ok (.bipush 6, 2) := by decide +kernel
theorem dX12_hasPartner_27 : decode cX12_hasPartner 27 = .ok (.iload_n 1, 1) := by decide +kernel
theorem dX12_hasPartner_28 : decode cX12_hasPartner 28 = .ok (.imul, 1) := by decide +kernel
theorem dX12_hasPartner_29 : decode cX12_hasPartner 29 = .ok (.iload_n 3, 1) := by decide +kernel
theorem dX12_hasPartner_30 : decode cX12_hasPartner 30 = .ok (.iadd, 1) := by decide +kernel
theorem dX12_hasPartner_31 : decode cX12_hasPartner 31 = .ok (.iaload, 1) := by decide +kernel
theorem dX12_hasPartner_32 : decode cX12_hasPartner 32 = .ok (.ldc 103, 2) := by decide +kernel
theorem dX12_hasPartner_34 : decode cX12_hasPartner 34 = .ok (.if_icmp .ne 7, 3) := by decide +kernel
theorem dX12_hasPartner_37 : decode cX12_hasPartner 37 = .ok (.iconst 1, 1) := by decide +kernel
theorem dX12_hasPartner_38 : decode cX12_hasPartner 38 = .ok (.goto 4, 3) := by decide +kernel
theorem dX12_hasPartner_41 : decode cX12_hasPartner 41 = .ok (.iconst 0, 1) := by decide +kernel
theorem dX12_hasPartner_42 : decode cX12_hasPartner 42 = .ok (.istore_n 2, 1) := by decide +kernel
theorem dX12_hasPartner_43 : decode cX12_hasPartner 43 = .ok (.iinc 3 1, 3) := by decide +kernel
theorem dX12_hasPartner_46 : decode cX12_hasPartner 46 = .ok (.goto (-42), 3) := by decide +kernel
theorem dX12_hasPartner_49 : decode cX12_hasPartner 49 = .ok (.iload_n 2, 1) := by decide +kernel
theorem dX12_hasPartner_50 : decode cX12_hasPartner 50 = .ok (.ireturn, 1) := by decide +kernel
theorem dX12_hasPair_0 : decode cX12_hasPair 0 = .ok (.iconst 0, 1) := by decide +kernel
theorem dX12_hasPair_1 : decode cX12_hasPair 1 = .ok (.istore_n 1, 1) := by decide +kernel
theorem dX12_hasPair_2 : decode cX12_hasPair 2 = .ok (.iconst 0, 1) := by decide +kernel
theorem dX12_hasPair_3 : decode cX12_hasPair 3 = .ok (.istore_n 2, 1) := by decide +kernel
theorem dX12_hasPair_4 : decode cX12_hasPair 4 = .ok (.iload_n 2, 1) := by decide +kernel
theorem dX12_hasPair_5 : decode cX12_hasPair 5 = .ok (.aload_n 0, 1) := by decide +kernel
theorem dX12_hasPair_6 : decode cX12_hasPair 6 = .ok (.getfield 122, 3) := by decide +kernel
theorem dX12_hasPair_9 : decode cX12_hasPair 9 = .ok (.if_icmp .ge 27, 3) := by decide +kernel
theorem dX12_hasPair_12 : decode cX12_hasPair 12 = .ok (.iload_n 1, 1) := by decide +kernel
theorem dX12_hasPair_13 : decode cX12_hasPair 13 = .ok (.ifCond .ne 11, 3) := by decide +kernel
theorem dX12_hasPair_16 : decode cX12_hasPair 16 = .ok (.aload_n 0, 1) := by decide +kernel
theorem dX12_hasPair_17 : decode cX12_hasPair 17 = .ok (.iload_n 2, 1) := by decide +kernel
theorem dX12_hasPair_18 : decode cX12_hasPair 18 = .ok (.invokevirtual 125, 3) := by decide +kernel
theorem dX12_hasPair_21 : decode cX12_hasPair 21 = .ok (.ifCond .eq 7, 3) := by decide +kernel
theorem dX12_hasPair_24 : decode cX12_hasPair 24 = .ok (.iconst 1, 1) := by decide +kernel
theorem dX12_hasPair_25 : decode cX12_hasPair 25 = .ok (.goto 4, 3) := by decide +kernel
theorem dX12_hasPair_28 : decode cX12_hasPair 28 = .ok (.iconst 0, 1) := by decide +kernel
theorem dX12_hasPair_29 : decode cX12_hasPair 29 = .ok (.istore_n 1, 1) := by decide +kernel
theorem dX12_hasPair_30 : decode cX12_hasPair 30 = .ok (.iinc 2 1, 3) := by decide +kernel
theorem dX12_hasPair_33 : decode cX12_hasPair 33 = .ok (.goto (-29), 3) := by decide +kernel
theorem dX12_hasPair_36 : decode cX12_hasPair 36 = .ok (.iload_n 1, 1) := by decide +kernel
theorem dX12_hasPair_37 : decode cX12_hasPair 37 = .ok (.ireturn, 1) := by decide +kernel
theorem dX12_readRoad_0 : decode cX12_readRoad 0 = .ok (.aload_n 0, 1) := by decide +kernel
theorem dX12_readRoad_1 : decode cX12_readRoad 1 = .ok (.getfield 119, 3) := by decide +kernel
theorem dX12_readRoad_4 : decode cX12_readRoad 4 = .ok (.aload_n 0, 1) := by decide +kernel
theorem dX12_readRoad_5 : decode cX12_readRoad 5 = .ok (.getfield 116, 3) := by decide +kernel
theorem dX12_readRoad_8 : decode cX12_readRoad 8 = .ok (.if_icmp .ge 18, 3) := by decide +kernel
theorem dX12_readRoad_11 : decode cX12_readRoad 11 = .ok (.aload_n 0, 1) := by decide +kernel
theorem dX12_readRoad_12 : decode cX12_readRoad 12 = .ok (.getfield 7, 3) := by decide +kernel
theorem dX12_readRoad_15 : decode cX12_readRoad 15 = .ok (.aload_n 0, 1) := by decide +kernel
theorem dX12_readRoad_16 : decode cX12_readRoad 16 = .ok (.getfield 119, 3) := by decide +kernel
theorem dX12_readRoad_19 : decode cX12_readRoad 19 = .ok (.iaload, 1) := by decide +kernel
theorem dX12_readRoad_20 : decode cX12_readRoad 20 = .ok (.bipush 48, 2) := by decide +kernel
theorem dX12_readRoad_22 : decode cX12_readRoad 22 = .ok (.isub, 1) := by decide +kernel
theorem dX12_readRoad_23 : decode cX12_readRoad 23 = .ok (.goto 5, 3) := by decide +kernel
theorem dX12_readRoad_26 : decode cX12_readRoad 26 = .ok (.bipush (-9), 2) := by decide +kernel
theorem dX12_readRoad_28 : decode cX12_readRoad 28 = .ok (.istore_n 1, 1) := by decide +kernel
theorem dX12_readRoad_29 : decode cX12_readRoad 29 = .ok (.iload_n 1, 1) := by decide +kernel
theorem dX12_readRoad_30 : decode cX12_readRoad 30 = .ok (.i2l, 1) := by decide +kernel
theorem dX12_readRoad_31 : decode cX12_readRoad 31 = .ok (.lconst 0, 1) := by decide +kernel
theorem dX12_readRoad_32 : decode cX12_readRoad 32 = .ok (.aload_n 0, 1) := by decide +kernel
theorem dX12_readRoad_33 : decode cX12_readRoad 33 = .ok (.getfield 122, 3) := by decide +kernel
theorem dX12_readRoad_36 : decode cX12_readRoad 36 = .ok (.iconst 1, 1) := by decide +kernel
theorem dX12_readRoad_37 : decode cX12_readRoad 37 = .ok (.isub, 1) := by decide +kernel
theorem dX12_readRoad_38 : decode cX12_readRoad 38 = .ok (.i2l, 1) := by decide +kernel
theorem dX12_readRoad_39 : decode cX12_readRoad 39 = .ok (.invokestatic 107, 3) := by decide +kernel
theorem dX12_readRoad_42 : decode cX12_readRoad 42 = .ok (.ifCond .eq 11, 3) := by decide +kernel
theorem dX12_readRoad_45 : decode cX12_readRoad 45 = .ok (.aload_n 0, 1) := by decide +kernel
theorem dX12_readRoad_46 : decode cX12_readRoad 46 = .ok (.iload_n 1, 1) := by decide +kernel
theorem dX12_readRoad_47 : decode cX12_readRoad 47 = .ok (.invokevirtual 125, 3) := by decide +kernel
theorem dX12_readRoad_50 : decode cX12_readRoad 50 = .ok (.ifCond .ne 5, 3) := by decide +kernel
theorem dX12_readRoad_53 : decode cX12_readRoad 53 = .ok (.iconst 0, 1) := by decide +kernel
theorem dX12_readRoad_54 : decode cX12_readRoad 54 = .ok (.ireturn, 1) := by decide +kernel
theorem dX12_readRoad_55 : decode cX12_readRoad 55 = .ok (.aload_n 0, 1) := by decide +kernel
theorem dX12_readRoad_56 : decode cX12_readRoad 56 = .ok (.dup, 1) := by decide +kernel
theorem dX12_readRoad_57 : decode cX12_readRoad 57 = .ok (.getfield 119, 3) := by decide +kernel
theorem dX12_readRoad_60 : decode cX12_readRoad 60 = .ok (.iconst 1, 1) := by decide +kernel
theorem dX12_readRoad_61 : decode cX12_readRoad 61 = .ok (.iadd, 1) := by decide +kernel
theorem dX12_readRoad_62 : decode cX12_readRoad 62 = .ok (.putfield 119, 3) := by decide +kernel
theorem dX12_readRoad_65 : decode cX12_readRoad 65 = .ok (.aload_n 0, 1) := by decide +kernel
theorem dX12_readRoad_66 : decode cX12_readRoad 66 = .ok (.getfield 119, 3) := by decide +kernel
theorem dX12_readRoad_69 : decode cX12_readRoad 69 = .ok (.aload_n 0, 1) := by decide +kernel
theorem dX12_readRoad_70 : decode cX12_readRoad 70 = .ok (.getfield 116, 3) := by decide +kernel
theorem dX12_readRoad_73 : decode cX12_readRoad 73 = .ok (.if_icmp .ge 18, 3) := by decide +kernel
theorem dX12_readRoad_76 : decode cX12_readRoad 76 = .ok (.aload_n 0, 1) := by decide +kernel
theorem dX12_readRoad_77 : decode cX12_readRoad 77 = .ok (.getfield 7, 3) := by decide +kernel
theorem dX12_readRoad_80 : decode cX12_readRoad 80 = .ok (.aload_n 0, 1) := by decide +kernel
theorem dX12_readRoad_81 : decode cX12_readRoad 81 = .ok (.getfield 119, 3) := by decide +kernel
theorem dX12_readRoad_84 : decode cX12_readRoad 84 = .ok (.iaload, 1) := by decide +kernel
theorem dX12_readRoad_85 : decode cX12_readRoad 85 = .ok (.bipush 48, 2) := by decide +kernel
theorem dX12_readRoad_87 : decode cX12_readRoad 87 = .ok (.isub, 1) := by decide +kernel
theorem dX12_readRoad_88 : decode cX12_readRoad 88 = .ok (.goto 5, 3) := by decide +kernel
theorem dX12_readRoad_91 : decode cX12_readRoad 91 = .ok (.bipush (-9), 2) := by decide +kernel
theorem dX12_readRoad_93 : decode cX12_readRoad 93 = .ok (.istore_n 2, 1) := by decide +kernel
theorem dX12_readRoad_94 : decode cX12_readRoad 94 = .ok (.iload_n 2, 1) := by decide +kernel
theorem dX12_readRoad_95 : decode cX12_readRoad 95 = .ok (.i2l, 1) := by decide +kernel
theorem dX12_readRoad_96 : decode cX12_readRoad 96 = .ok (.lconst 0, 1) := by decide +kernel
theorem dX12_readRoad_97 : decode cX12_readRoad 97 = .ok (.aload_n 0, 1) := by decide +kernel
theorem dX12_readRoad_98 : decode cX12_readRoad 98 = .ok (.getfield 122, 3) := by decide +kernel
theorem dX12_readRoad_101 : decode cX12_readRoad 101 = .ok (.iconst 1, 1) := by decide +kernel
theorem dX12_readRoad_102 : decode cX12_readRoad 102 = .ok (.isub, 1) := by decide +kernel
theorem dX12_readRoad_103 : decode cX12_readRoad 103 = .ok (.i2l, 1) := by decide +kernel
theorem dX12_readRoad_104 : decode cX12_readRoad 104 = .ok (.invokestatic 107, 3) := by decide +kernel
theorem dX12_readRoad_107 : decode cX12_readRoad 107 = .ok (.ifCond .eq 24, 3) := by decide +kernel
theorem dX12_readRoad_110 : decode cX12_readRoad 110 = .ok (.iload_n 1, 1) := by decide +kernel
theorem dX12_readRoad_111 : decode cX12_readRoad 111 = .ok (.iload_n 2, 1) := by decide +kernel
theorem dX12_readRoad_112 : decode cX12_readRoad 112 = .ok (.if_icmp .eq 19, 3) := by decide +kernel
theorem dX12_readRoad_115 : decode cX12_readRoad 115 = .ok (.aload_n 0, 1) := by decide +kernel
theorem dX12_readRoad_116 : decode cX12_readRoad 116 = .ok (.getfield 29, 3) := by decide +kernel
theorem dX12_readRoad_119 : decode cX12_readRoad 119 = .ok (.bipush 6, 2) := by decide +kernel
theorem dX12_readRoad_121 : decode cX12_readRoad 121 = .ok (.iload_n 1, 1) := by decide +kernel
theorem dX12_readRoad_122 : decode cX12_readRoad 122 = .ok (.imul, 1) := by decide +kernel
theorem dX12_readRoad_123 : decode cX12_readRoad 123 = .ok (.iload_n 2, 1) := by decide +kernel
theorem dX12_readRoad_124 : decode cX12_readRoad 124 = .ok (.iadd, 1) := by decide +kernel
theorem dX12_readRoad_125 : decode cX12_readRoad 125 = .ok (.iaload, 1) := by decide +kernel
theorem dX12_readRoad_126 : decode cX12_readRoad 126 = .ok (.ldc 103, 2) := by decide +kernel
theorem dX12_readRoad_128 : decode cX12_readRoad 128 = .ok (.if_icmp .eq 5, 3) := by decide +kernel
theorem dX12_readRoad_131 : decode cX12_readRoad 131 = .ok (.iconst 0, 1) := by decide +kernel
theorem dX12_readRoad_132 : decode cX12_readRoad 132 = .ok (.ireturn, 1) := by decide +kernel
theorem dX12_readRoad_133 : decode cX12_readRoad 133 = .ok (.aload_n 0, 1) := by decide +kernel
theorem dX12_readRoad_134 : decode cX12_readRoad 134 = .ok (.dup, 1) := by decide +kernel
theorem dX12_readRoad_135 : decode cX12_readRoad 135 = .ok (.getfield 119, 3) := by decide +kernel
theorem dX12_readRoad_138 : decode cX12_readRoad 138 = .ok (.iconst 1, 1) := by decide +kernel
theorem dX12_readRoad_139 : decode cX12_readRoad 139 = .ok (.iadd, 1) := by decide +kernel
theorem dX12_readRoad_140 : decode cX12_readRoad 140 = .ok (.putfield 119, 3) := by decide +kernel
theorem dX12_readRoad_143 : decode cX12_readRoad 143 = .ok (.aload_n 0, 1) := by decide +kernel
theorem dX12_readRoad_144 : decode cX12_readRoad 144 = .ok (.iconst 0, 1) := by decide +kernel
theorem dX12_readRoad_145 : decode cX12_readRoad 145 = .ok (.bipush 9, 2) := by decide +kernel
theorem dX12_readRoad_147 : decode cX12_readRoad 147 = .ok (.invokevirtual 129, 3) := by decide +kernel
theorem dX12_readRoad_150 : decode cX12_readRoad 150 = .ok (.istore_n 3, 1) := by decide +kernel
theorem dX12_readRoad_151 : decode cX12_readRoad 151 = .ok (.iload_n 3, 1) := by decide +kernel
theorem dX12_readRoad_152 : decode cX12_readRoad 152 = .ok (.bipush (-9), 2) := by decide +kernel
theorem dX12_readRoad_154 : decode cX12_readRoad 154 = .ok (.if_icmp .ne 8, 3) := by decide +kernel
theorem dX12_readRoad_157 : decode cX12_readRoad 157 = .ok (.bipush (-9), 2) := by decide +kernel
theorem dX12_readRoad_159 : decode cX12_readRoad 159 = .ok (.goto 18, 3) := by decide +kernel
theorem dX12_readRoad_162 : decode cX12_readRoad 162 = .ok (.aload_n 0, 1) := by decide +kernel
theorem dX12_readRoad_163 : decode cX12_readRoad 163 = .ok (.iload_n 3, 1) := by decide +kernel
theorem dX12_readRoad_164 : decode cX12_readRoad 164 = .ok (.ifCond .ne 7, 3) := by decide +kernel
theorem dX12_readRoad_167 : decode cX12_readRoad 167 = .ok (.iconst 1, 1) := by decide +kernel
theorem dX12_readRoad_168 : decode cX12_readRoad 168 = .ok (.goto 4, 3) := by decide +kernel
theorem dX12_readRoad_171 : decode cX12_readRoad 171 = .ok (.iconst 0, 1) := by decide +kernel
theorem dX12_readRoad_172 : decode cX12_readRoad 172 = .ok (.bipush 9, 2) := by decide +kernel
theorem dX12_readRoad_174 : decode cX12_readRoad 174 = .ok (.invokevirtual 129, 3) := by decide +kernel
theorem dX12_readRoad_177 : decode cX12_readRoad 177 = .ok (.istore 4, 2) := by decide +kernel
theorem dX12_readRoad_179 : decode cX12_readRoad 179 = .ok (.iload 4, 2) := by decide +kernel
theorem dX12_readRoad_181 : decode cX12_readRoad 181 = .ok (.bipush (-9), 2) := by decide +kernel
theorem dX12_readRoad_183 : decode cX12_readRoad 183 = .ok (.if_icmp .ne 5, 3) := by decide +kernel
theorem dX12_readRoad_186 : decode cX12_readRoad 186 = .ok (.iconst 0, 1) := by decide +kernel
theorem dX12_readRoad_187 : decode cX12_readRoad 187 = .ok (.ireturn, 1) := by decide +kernel
theorem dX12_readRoad_188 : decode cX12_readRoad 188 = .ok (.aload_n 0, 1) := by decide +kernel
theorem dX12_readRoad_189 : decode cX12_readRoad 189 = .ok (.getfield 29, 3) := by decide +kernel
theorem dX12_readRoad_192 : decode cX12_readRoad 192 = .ok (.bipush 6, 2) := by decide +kernel
theorem dX12_readRoad_194 : decode cX12_readRoad 194 = .ok (.iload_n 1, 1) := by decide +kernel
theorem dX12_readRoad_195 : decode cX12_readRoad 195 = .ok (.imul, 1) := by decide +kernel
theorem dX12_readRoad_196 : decode cX12_readRoad 196 = .ok (.iload_n 2, 1) := by decide +kernel
theorem dX12_readRoad_197 : decode cX12_readRoad 197 = .ok (.iadd, 1) := by decide +kernel
theorem dX12_readRoad_198 : decode cX12_readRoad 198 = .ok (.bipush 10, 2) := by decide +kernel
theorem dX12_readRoad_200 : decode cX12_readRoad 200 = .ok (.iload_n 3, 1) := by decide +kernel
theorem dX12_readRoad_201 : decode cX12_readRoad 201 = .ok (.imul, 1) := by decide +kernel
theorem dX12_readRoad_202 : decode cX12_readRoad 202 = .ok (.iload 4, 2) := by decide +kernel
theorem dX12_readRoad_204 : decode cX12_readRoad 204 = .ok (.iadd, 1) := by decide +kernel
theorem dX12_readRoad_205 : decode cX12_readRoad 205 = .ok (.iastore, 1) := by decide +kernel
theorem dX12_readRoad_206 : decode cX12_readRoad 206 = .ok (.aload_n 0, 1) := by decide +kernel
theorem dX12_readRoad_207 : decode cX12_readRoad 207 = .ok (.getfield 29, 3) := by decide +kernel
theorem dX12_readRoad_210 : decode cX12_readRoad 210 = .ok (.bipush 6, 2) := by decide +kernel
theorem dX12_readRoad_212 : decode cX12_readRoad 212 = .ok (.iload_n 2, 1) := by decide +kernel
theorem dX12_readRoad_213 : decode cX12_readRoad 213 = .ok (.imul, 1) := by decide +kernel
theorem dX12_readRoad_214 : decode cX12_readRoad 214 = .ok (.iload_n 1, 1) := by decide +kernel
theorem dX12_readRoad_215 : decode cX12_readRoad 215 = .ok (.iadd, 1) := by decide +kernel
theorem dX12_readRoad_216 : decode cX12_readRoad 216 = .ok (.bipush 10, 2) := by decide +kernel
theorem dX12_readRoad_218 : decode cX12_readRoad 218 = .ok (.iload_n 3, 1) := by decide +kernel
theorem dX12_readRoad_219 : decode cX12_readRoad 219 = .ok (.imul, 1) := by decide +kernel
theorem dX12_readRoad_220 : decode cX12_readRoad 220 = .ok (.iload 4, 2) := by decide +kernel
theorem dX12_readRoad_222 : decode cX12_readRoad 222 = .ok (.iadd, 1) := by decide +kernel
theorem dX12_readRoad_223 : decode cX12_readRoad 223 = .ok (.iastore, 1) := by decide +kernel
theorem dX12_readRoad_224 : decode cX12_readRoad 224 = .ok (.aload_n 0, 1) := by decide +kernel
theorem dX12_readRoad_225 : decode cX12_readRoad 225 = .ok (.dup, 1) := by decide +kernel
theorem dX12_readRoad_226 : decode cX12_readRoad 226 = .ok (.getfield 133, 3) := by decide +kernel
theorem dX12_readRoad_229 : decode cX12_readRoad 229 = .ok (.iconst 1, 1) := by decide +kernel
theorem dX12_readRoad_230 : decode cX12_readRoad 230 = .ok (.iadd, 1) := by decide +kernel
theorem dX12_readRoad_231 : decode cX12_readRoad 231 = .ok (.putfield 133, 3) := by decide +kernel
theorem dX12_readRoad_234 : decode cX12_readRoad 234 = .ok (.iconst 1, 1) := by decide +kernel
theorem dX12_readRoad_235 : decode cX12_readRoad 235 = .ok (.ireturn, 1) := by decide +kernel
theorem dX12_readErrand_0 : decode cX12_readErrand 0 = .ok (.aload_n 0, 1) := by decide +kernel
theorem dX12_readErrand_1 : decode cX12_readErrand 1 = .ok (.iconst 0, 1) := by decide +kernel
theorem dX12_readErrand_2 : decode cX12_readErrand 2 = .ok (.aload_n 0, 1) := by decide +kernel
theorem dX12_readErrand_3 : decode cX12_readErrand 3 = .ok (.getfield 122, 3) := by decide +kernel
theorem dX12_readErrand_6 : decode cX12_readErrand 6 = .ok (.iconst 1, 1) := by decide +kernel
theorem dX12_readErrand_7 : decode cX12_readErrand 7 = .ok (.isub, 1) := by decide +kernel
theorem dX12_readErrand_8 : decode cX12_readErrand 8 = .ok (.invokevirtual 129, 3) := by decide +kernel
theorem dX12_readErrand_11 : decode cX12_readErrand 11 = .ok (.istore_n 1, 1) := by decide +kernel
theorem dX12_readErrand_12 : decode cX12_readErrand 12 = .ok (.iload_n 1, 1) := by decide +kernel
theorem dX12_readErrand_13 : decode cX12_readErrand 13 = .ok (.bipush (-9), 2) := by decide +kernel
theorem dX12_readErrand_15 : decode cX12_readErrand 15 = .ok (.if_icmp .ne 8, 3) := by decide +kernel
theorem dX12_readErrand_18 : decode cX12_readErrand 18 = .ok (.bipush (-9), 2) := by decide +kernel
theorem dX12_readErrand_20 : decode cX12_readErrand 20 = .ok (.goto 10, 3) := by decide +kernel
theorem dX12_readErrand_23 : decode cX12_readErrand 23 = .ok (.aload_n 0, 1) := by decide +kernel
theorem dX12_readErrand_24 : decode cX12_readErrand 24 = .ok (.iconst 0, 1) := by decide +kernel
theorem dX12_readErrand_25 : decode cX12_readErrand 25 = .ok (.bipush 9, 2) := by decide +kernel
theorem dX12_readErrand_27 : decode cX12_readErrand 27 = .ok (.invokevirtual 129, 3) := by decide +kernel
theorem dX12_readErrand_30 : decode cX12_readErrand 30 = .ok (.istore_n 2, 1) := by decide +kernel
theorem dX12_readErrand_31 : decode cX12_readErrand 31 = .ok (.iload_n 2, 1) := by decide +kernel
theorem dX12_readErrand_32 : decode cX12_readErrand 32 = .ok (.bipush (-9), 2) := by decide +kernel
theorem dX12_readErrand_34 : decode cX12_readErrand 34 = .ok (.if_icmp .ne 8, 3) := by decide +kernel
theorem dX12_readErrand_37 : decode cX12_readErrand 37 = .ok (.bipush (-9), 2) := by decide +kernel
theorem dX12_readErrand_39 : decode cX12_readErrand 39 = .ok (.goto 9, 3) := by decide +kernel
theorem dX12_readErrand_42 : decode cX12_readErrand 42 = .ok (.aload_n 0, 1) := by decide +kernel
theorem dX12_readErrand_43 : decode cX12_readErrand 43 = .ok (.iconst 0, 1) := by decide +kernel
theorem dX12_readErrand_44 : decode cX12_readErrand 44 = .ok (.iconst 2, 1) := by decide +kernel
theorem dX12_readErrand_45 : decode cX12_readErrand 45 = .ok (.invokevirtual 129, 3) := by decide +kernel
theorem dX12_readErrand_48 : decode cX12_readErrand 48 = .ok (.istore_n 3, 1) := by decide +kernel
theorem dX12_readErrand_49 : decode cX12_readErrand 49 = .ok (.iload_n 3, 1) := by decide +kernel
theorem dX12_readErrand_50 : decode cX12_readErrand 50 = .ok (.bipush (-9), 2) := by decide +kernel
theorem dX12_readErrand_52 : decode cX12_readErrand 52 = .ok (.if_icmp .ne 5, 3) := by decide +kernel
theorem dX12_readErrand_55 : decode cX12_readErrand 55 = .ok (.iconst 0, 1) := by decide +kernel
theorem dX12_readErrand_56 : decode cX12_readErrand 56 = .ok (.ireturn, 1) := by decide +kernel
theorem dX12_readErrand_57 : decode cX12_readErrand 57 = .ok (.aload_n 0, 1) := by decide +kernel
theorem dX12_readErrand_58 : decode cX12_readErrand 58 = .ok (.getfield 32, 3) := by decide +kernel
theorem dX12_readErrand_61 : decode cX12_readErrand 61 = .ok (.aload_n 0, 1) := by decide +kernel
theorem dX12_readErrand_62 : decode cX12_readErrand 62 = .ok (.getfield 136, 3) := by decide +kernel
theorem dX12_readErrand_65 : decode cX12_readErrand 65 = .ok (.iload_n 1, 1) := by decide +kernel
theorem dX12_readErrand_66 : decode cX12_readErrand 66 = .ok (.iastore, 1) := by decide +kernel
theorem dX12_readErrand_67 : decode cX12_readErrand 67 = .ok (.aload_n 0, 1) := by decide +kernel
theorem dX12_readErrand_68 : decode cX12_readErrand 68 = .ok (.getfield 35, 3) := by decide +kernel
theorem dX12_readErrand_71 : decode cX12_readErrand 71 = .ok (.aload_n 0, 1) := by decide +kernel
theorem dX12_readErrand_72 : decode cX12_readErrand 72 = .ok (.getfield 136, 3) := by decide +kernel
theorem dX12_readErrand_75 : decode cX12_readErrand 75 = .ok (.iload_n 2, 1) := by decide +kernel
theorem dX12_readErrand_76 : decode cX12_readErrand 76 = .ok (.iastore, 1) := by decide +kernel
theorem dX12_readErrand_77 : decode cX12_readErrand 77 = .ok (.aload_n 0, 1) := by decide +kernel
theorem dX12_readErrand_78 : decode cX12_readErrand 78 = .ok (.getfield 38, 3) := by decide +kernel
theorem dX12_readErrand_81 : decode cX12_readErrand 81 = .ok (.aload_n 0, 1) := by decide +kernel
theorem dX12_readErrand_82 : decode cX12_readErrand 82 = .ok (.getfield 136, 3) := by decide +kernel
theorem dX12_readErrand_85 : decode cX12_readErrand 85 = .ok (.iload_n 3, 1) := by decide +kernel
theorem dX12_readErrand_86 : decode cX12_readErrand 86 = .ok (.iastore, 1) := by decide +kernel
theorem dX12_readErrand_87 : decode cX12_readErrand 87 = .ok (.aload_n 0, 1) := by decide +kernel
theorem dX12_readErrand_88 : decode cX12_readErrand 88 = .ok (.dup, 1) := by decide +kernel
theorem dX12_readErrand_89 : decode cX12_readErrand 89 = .ok (.getfield 136, 3) := by decide +kernel
theorem dX12_readErrand_92 : decode cX12_readErrand 92 = .ok (.iconst 1, 1) := by decide +kernel
theorem dX12_readErrand_93 : decode cX12_readErrand 93 = .ok (.iadd, 1) := by decide +kernel
theorem dX12_readErrand_94 : decode cX12_readErrand 94 = .ok (.putfield 136, 3) := by decide +kernel
theorem dX12_readErrand_97 : decode cX12_readErrand 97 = .ok (.iconst 1, 1) := by decide +kernel
theorem dX12_readErrand_98 : decode cX12_readErrand 98 = .ok (.ireturn, 1) := by decide +kernel
theorem dX12_readPart_0 : decode cX12_readPart 0 = .ok (.aload_n 0, 1) := by decide +kernel
theorem dX12_readPart_1 : decode cX12_readPart 1 = .ok (.getfield 7, 3) := by decide +kernel
theorem dX12_readPart_4 : decode cX12_readPart 4 = .ok (.aload_n 0, 1) := by decide +kernel
theorem dX12_readPart_5 : decode cX12_readPart 5 = .ok (.getfield 119, 3) := by decide +kernel
theorem dX12_readPart_8 : decode cX12_readPart 8 = .ok (.iaload, 1) := by decide +kernel
theorem dX12_readPart_9 : decode cX12_readPart 9 = .ok (.istore_n 1, 1) := by decide +kernel
theorem dX12_readPart_10 : decode cX12_readPart 10 = .ok (.iload_n 1, 1) := by decide +kernel
theorem dX12_readPart_11 : decode cX12_readPart 11 = .ok (.bipush 82, 2) := by decide +kernel
theorem dX12_readPart_13 : decode cX12_readPart 13 = .ok (.if_icmp .ne 34, 3) := by decide +kernel
theorem dX12_readPart_16 : decode cX12_readPart 16 = .ok (.aload_n 0, 1) := by decide +kernel
theorem dX12_readPart_17 : decode cX12_readPart 17 = .ok (.getfield 133, 3) := by decide +kernel
theorem dX12_readPart_20 : decode cX12_readPart 20 = .ok (.bipush 10, 2) := by decide +kernel
theorem dX12_readPart_22 : decode cX12_readPart 22 = .ok (.if_icmp .ge 25, 3) := by decide +kernel
theorem dX12_readPart_25 : decode cX12_readPart 25 = .ok (.aload_n 0, 1) := by decide +kernel
theorem dX12_readPart_26 : decode cX12_readPart 26 = .ok (.invokevirtual 139, 3) := by decide +kernel
theorem dX12_readPart_29 : decode cX12_readPart 29 = .ok (.ifCond .eq 18, 3) := by decide +kernel
theorem dX12_readPart_32 : decode cX12_readPart 32 = .ok (.aload_n 0, 1) := by decide +kernel
theorem dX12_readPart_33 : decode cX12_readPart 33 = .ok (.dup, 1) := by decide +kernel
theorem dX12_readPart_34 : decode cX12_readPart 34 = .ok (.getfield 119, 3) := by decide +kernel
theorem dX12_readPart_37 : decode cX12_readPart 37 = .ok (.iconst 1, 1) := by decide +kernel
theorem dX12_readPart_38 : decode cX12_readPart 38 = .ok (.iadd, 1) := by decide +kernel
theorem dX12_readPart_39 : decode cX12_readPart 39 = .ok (.putfield 119, 3) := by decide +kernel
theorem dX12_readPart_42 : decode cX12_readPart 42 = .ok (.aload_n 0, 1) := by decide +kernel
theorem dX12_readPart_43 : decode cX12_readPart 43 = .ok (.invokevirtual 143, 3) := by decide +kernel
theorem dX12_readPart_46 : decode cX12_readPart 46 = .ok (.ireturn, 1) := by decide +kernel
theorem dX12_readPart_47 : decode cX12_readPart 47 = .ok (.iload_n 1, 1) := by decide +kernel
theorem dX12_readPart_48 : decode cX12_readPart 48 = .ok (.bipush 69, 2) := by decide +kernel
theorem dX12_readPart_50 : decode cX12_readPart 50 = .ok (.if_icmp .ne 27, 3) := by decide +kernel
theorem dX12_readPart_53 : decode cX12_readPart 53 = .ok (.aload_n 0, 1) := by decide +kernel
theorem dX12_readPart_54 : decode cX12_readPart 54 = .ok (.getfield 136, 3) := by decide +kernel
theorem dX12_readPart_57 : decode cX12_readPart 57 = .ok (.bipush 6, 2) := by decide +kernel
theorem dX12_readPart_59 : decode cX12_readPart 59 = .ok (.if_icmp .ge 18, 3) := by decide +kernel
theorem dX12_readPart_62 : decode cX12_readPart 62 = .ok (.aload_n 0, 1) := by decide +kernel
theorem dX12_readPart_63 : decode cX12_readPart 63 = .ok (.dup, 1) := by decide +kernel
theorem dX12_readPart_64 : decode cX12_readPart 64 = .ok (.getfield 119, 3) := by decide +kernel
theorem dX12_readPart_67 : decode cX12_readPart 67 = .ok (.iconst 1, 1) := by decide +kernel
theorem dX12_readPart_68 : decode cX12_readPart 68 = .ok (.iadd, 1) := by decide +kernel
theorem dX12_readPart_69 : decode cX12_readPart 69 = .ok (.putfield 119, 3) := by decide +kernel
theorem dX12_readPart_72 : decode cX12_readPart 72 = .ok (.aload_n 0, 1) := by decide +kernel
theorem dX12_readPart_73 : decode cX12_readPart 73 = .ok (.invokevirtual 146, 3) := by decide +kernel
theorem dX12_readPart_76 : decode cX12_readPart 76 = .ok (.ireturn, 1) := by decide +kernel
theorem dX12_readPart_77 : decode cX12_readPart 77 = .ok (.iconst 0, 1) := by decide +kernel
theorem dX12_readPart_78 : decode cX12_readPart 78 = .ok (.ireturn, 1) := by decide +kernel
theorem dX12_readDay_0 : decode cX12_readDay 0 = .ok (.aload_n 0, 1) := by decide +kernel
theorem dX12_readDay_1 : decode cX12_readDay 1 = .ok (.iconst 0, 1) := by decide +kernel
theorem dX12_readDay_2 : decode cX12_readDay 2 = .ok (.putfield 119, 3) := by decide +kernel
theorem dX12_readDay_5 : decode cX12_readDay 5 = .ok (.aload_n 0, 1) := by decide +kernel
theorem dX12_readDay_6 : decode cX12_readDay 6 = .ok (.iconst 0, 1) := by decide +kernel
theorem dX12_readDay_7 : decode cX12_readDay 7 = .ok (.putfield 133, 3) := by decide +kernel
theorem dX12_readDay_10 : decode cX12_readDay 10 = .ok (.aload_n 0, 1) := by decide +kernel
theorem dX12_readDay_11 : decode cX12_readDay 11 = .ok (.iconst 0, 1) := by decide +kernel
theorem dX12_readDay_12 : decode cX12_readDay 12 = .ok (.putfield 136, 3) := by decide +kernel
theorem dX12_readDay_15 : decode cX12_readDay 15 = .ok (.aload_n 0, 1) := by decide +kernel
theorem dX12_readDay_16 : decode cX12_readDay 16 = .ok (.iconst 0, 1) := by decide +kernel
theorem dX12_readDay_17 : decode cX12_readDay 17 = .ok (.putfield 149, 3) := by decide +kernel
theorem dX12_readDay_20 : decode cX12_readDay 20 = .ok (.iconst 0, 1) := by decide +kernel
theorem dX12_readDay_21 : decode cX12_readDay 21 = .ok (.istore_n 1, 1) := by decide +kernel
theorem dX12_readDay_22 : decode cX12_readDay 22 = .ok (.iload_n 1, 1) := by decide +kernel
theorem dX12_readDay_23 : decode cX12_readDay 23 = .ok (.bipush 36, 2) := by decide +kernel
theorem dX12_readDay_25 : decode cX12_readDay 25 = .ok (.if_icmp .ge 32, 3) := by decide +kernel
theorem dX12_readDay_28 : decode cX12_readDay 28 = .ok (.aload_n 0, 1) := by decide +kernel
theorem dX12_readDay_29 : decode cX12_readDay 29 = .ok (.getfield 29, 3) := by decide +kernel
theorem dX12_readDay_32 : decode cX12_readDay 32 = .ok (.iload_n 1, 1) := by decide +kernel
theorem dX12_readDay_33 : decode cX12_readDay 33 = .ok (.iload_n 1, 1) := by decide +kernel
theorem dX12_readDay_34 : decode cX12_readDay 34 = .ok (.bipush 6, 2) := by decide +kernel
theorem dX12_readDay_36 : decode cX12_readDay 36 = .ok (.idiv, 1) := by decide +kernel
theorem dX12_readDay_37 : decode cX12_readDay 37 = .ok (.iload_n 1, 1) := by decide +kernel
theorem dX12_readDay_38 : decode cX12_readDay 38 = .ok (.bipush 6, 2) := by decide +kernel
theorem dX12_readDay_40 : decode cX12_readDay 40 = .ok (.irem, 1) := by decide +kernel
theorem dX12_readDay_41 : decode cX12_readDay 41 = .ok (.if_icmp .ne 7, 3) := by decide +kernel
theorem dX12_readDay_44 : decode cX12_readDay 44 = .ok (.iconst 0, 1) := by decide +kernel
theorem dX12_readDay_45 : decode cX12_readDay 45 = .ok (.goto 5, 3) := by decide +kernel
theorem dX12_readDay_48 : decode cX12_readDay 48 = .ok (.ldc 103, 2) := by decide +kernel
theorem dX12_readDay_50 : decode cX12_readDay 50 = .ok (.iastore, 1) := by decide +kernel
theorem dX12_readDay_51 : decode cX12_readDay 51 = .ok (.iinc 1 1, 3) := by decide +kernel
theorem dX12_readDay_54 : decode cX12_readDay 54 = .ok (.goto (-32), 3) := by decide +kernel
theorem dX12_readDay_57 : decode cX12_readDay 57 = .ok (.aload_n 0, 1) := by decide +kernel
theorem dX12_readDay_58 : decode cX12_readDay 58 = .ok (.getfield 116, 3) := by decide +kernel
theorem dX12_readDay_61 : decode cX12_readDay 61 = .ok (.ifCond .eq 14, 3) := by decide +kernel
theorem dX12_readDay_64 : decode cX12_readDay 64 = .ok (.aload_n 0, 1) := by decide +kernel
theorem dX12_readDay_65 : decode cX12_readDay 65 = .ok (.getfield 7, 3) := by decide +kernel
theorem dX12_readDay_68 : decode cX12_readDay 68 = .ok (.iconst 0, 1) := by decide +kernel
theorem dX12_readDay_69 : decode cX12_readDay 69 = .ok (.iaload, 1) := by decide +kernel
theorem dX12_readDay_70 : decode cX12_readDay 70 = .ok (.bipush 86, 2) := by decide +kernel
theorem dX12_readDay_72 : decode cX12_readDay 72 = .ok (.if_icmp .eq 5, 3) := by decide +kernel
theorem dX12_readDay_75 : decode cX12_readDay 75 = .ok (.iconst 0, 1) := by decide +kernel
theorem dX12_readDay_76 : decode cX12_readDay 76 = .ok (.ireturn, 1) := by decide +kernel
theorem dX12_readDay_77 : decode cX12_readDay 77 = .ok (.aload_n 0, 1) := by decide +kernel
theorem dX12_readDay_78 : decode cX12_readDay 78 = .ok (.iconst 1, 1) := by decide +kernel
theorem dX12_readDay_79 : decode cX12_readDay 79 = .ok (.putfield 119, 3) := by decide +kernel
theorem dX12_readDay_82 : decode cX12_readDay 82 = .ok (.iconst 0, 1) := by decide +kernel
theorem dX12_readDay_83 : decode cX12_readDay 83 = .ok (.istore_n 1, 1) := by decide +kernel
theorem dX12_readDay_84 : decode cX12_readDay 84 = .ok (.iload_n 1, 1) := by decide +kernel
theorem dX12_readDay_85 : decode cX12_readDay 85 = .ok (.iconst 3, 1) := by decide +kernel
theorem dX12_readDay_86 : decode cX12_readDay 86 = .ok (.if_icmp .ge 41, 3) := by decide +kernel
theorem dX12_readDay_89 : decode cX12_readDay 89 = .ok (.aload_n 0, 1) := by decide +kernel
theorem dX12_readDay_90 : decode cX12_readDay 90 = .ok (.iconst 0, 1) := by decide +kernel
theorem dX12_readDay_91 : decode cX12_readDay 91 = .ok (.bipush 9, 2) := by decide +kernel
theorem dX12_readDay_93 : decode cX12_readDay 93 = .ok (.invokevirtual 129, 3) := by decide +kernel
theorem dX12_readDay_96 : decode cX12_readDay 96 = .ok (.istore_n 2, 1) := by decide +kernel
theorem dX12_readDay_97 : decode cX12_readDay 97 = .ok (.iload_n 2, 1) := by decide +kernel
theorem dX12_readDay_98 : decode cX12_readDay 98 = .ok (.bipush (-9), 2) := by decide +kernel
theorem dX12_readDay_100 : decode cX12_readDay 100 = .ok (.if_icmp .ne 8, 3) := by decide +kernel
theorem dX12_readDay_103 : decode cX12_readDay 103 = .ok (.aload_n 0, 1) := by decide +kernel
theorem dX12_readDay_104 : decode cX12_readDay 104 = .ok (.getfield 119, 3) := by decide +kernel
theorem dX12_readDay_107 : decode cX12_readDay 107 = .ok (.ireturn, 1) := by decide +kernel
theorem dX12_readDay_108 : decode cX12_readDay 108 = .ok (.aload_n 0, 1) := by decide +kernel
theorem dX12_readDay_109 : decode cX12_readDay 109 = .ok (.bipush 10, 2) := by decide +kernel
theorem dX12_readDay_111 : decode cX12_readDay 111 = .ok (.aload_n 0, 1) := by decide +kernel
theorem dX12_readDay_112 : decode cX12_readDay 112 = .ok (.getfield 149, 3) := by decide +kernel
theorem dX12_readDay_115 : decode cX12_readDay 115 = .ok (.imul, 1) := by decide +kernel
theorem dX12_readDay_116 : decode cX12_readDay 116 = .ok (.iload_n 2, 1) := by decide +kernel
theorem dX12_readDay_117 : decode cX12_readDay 117 = .ok (.iadd, 1) := by decide +kernel
theorem dX12_readDay_118 : decode cX12_readDay 118 = .ok (.putfield 149, 3) := by decide +kernel
theorem dX12_readDay_121 : decode cX12_readDay 121 = .ok (.iinc 1 1, 3) := by decide +kernel
theorem dX12_readDay_124 : decode cX12_readDay 124 = .ok (.goto (-40), 3) := by decide +kernel
theorem dX12_readDay_127 : decode cX12_readDay 127 = .ok (.aload_n 0, 1) := by decide +kernel
theorem dX12_readDay_128 : decode cX12_readDay 128 = .ok (.aload_n 0, 1) := by decide +kernel
theorem dX12_readDay_129 : decode cX12_readDay 129 = .ok (.iconst 2, 1) := by decide +kernel
theorem dX12_readDay_130 : decode cX12_readDay 130 = .ok (.bipush 6, 2) := by decide +kernel
theorem dX12_readDay_132 : decode cX12_readDay 132 = .ok (.invokevirtual 129, 3) := by decide +kernel
theorem dX12_readDay_135 : decode cX12_readDay 135 = .ok (.putfield 122, 3) := by decide +kernel
theorem dX12_readDay_138 : decode cX12_readDay 138 = .ok (.aload_n 0, 1) := by decide +kernel
theorem dX12_readDay_139 : decode cX12_readDay 139 = .ok (.getfield 122, 3) := by decide +kernel
theorem dX12_readDay_142 : decode cX12_readDay 142 = .ok (.bipush (-9), 2) := by decide +kernel
theorem dX12_readDay_144 : decode cX12_readDay 144 = .ok (.if_icmp .ne 8, 3) := by decide +kernel
theorem dX12_readDay_147 : decode cX12_readDay 147 = .ok (.aload_n 0, 1) := by decide +kernel
theorem dX12_readDay_148 : decode cX12_readDay 148 = .ok (.getfield 119, 3) := by decide +kernel
theorem dX12_readDay_151 : decode cX12_readDay 151 = .ok (.ireturn, 1) := by decide +kernel
theorem dX12_readDay_152 : decode cX12_readDay 152 = .ok (.aload_n 0, 1) := by decide +kernel
theorem dX12_readDay_153 : decode cX12_readDay 153 = .ok (.getfield 119, 3) := by decide +kernel
theorem dX12_readDay_156 : decode cX12_readDay 156 = .ok (.aload_n 0, 1) := by decide +kernel
theorem dX12_readDay_157 : decode cX12_readDay 157 = .ok (.getfield 116, 3) := by decide +kernel
theorem dX12_readDay_160 : decode cX12_readDay 160 = .ok (.if_icmp .ge 15, 3) := by decide +kernel
theorem dX12_readDay_163 : decode cX12_readDay 163 = .ok (.aload_n 0, 1) := by decide +kernel
theorem dX12_readDay_164 : decode cX12_readDay 164 = .ok (.invokevirtual 152, 3) := by decide +kernel
theorem dX12_readDay_167 : decode cX12_readDay 167 = .ok (.ifCond .ne (-15), 3) := by decide +kernel
theorem dX12_readDay_170 : decode cX12_readDay 170 = .ok (.aload_n 0, 1) := by decide +kernel
theorem dX12_readDay_171 : decode cX12_readDay 171 = .ok (.getfield 119, 3) := by decide +kernel
theorem dX12_readDay_174 : decode cX12_readDay 174 = .ok (.ireturn, 1) := by decide +kernel
theorem dX12_readDay_175 : decode cX12_readDay 175 = .ok (.bipush (-9), 2) := by decide +kernel
theorem dX12_readDay_177 : decode cX12_readDay 177 = .ok (.ireturn, 1) := by decide +kernel
theorem dX12_fault_0 : decode cX12_fault 0 = .ok (.aload_n 0, 1) := by decide +kernel
theorem dX12_fault_1 : decode cX12_fault 1 = .ok (.iconst 0, 1) := by decide +kernel
theorem dX12_fault_2 : decode cX12_fault 2 = .ok (.putfield 104, 3) := by decide +kernel
theorem dX12_fault_5 : decode cX12_fault 5 = .ok (.aload_n 0, 1) := by decide +kernel
theorem dX12_fault_6 : decode cX12_fault 6 = .ok (.invokevirtual 155, 3) := by decide +kernel
theorem dX12_fault_9 : decode cX12_fault 9 = .ok (.ireturn, 1) := by decide +kernel
theorem dX12_day_0 : decode cX12_day 0 = .ok (.aload_n 0, 1) := by decide +kernel
theorem dX12_day_1 : decode cX12_day 1 = .ok (.iconst 0, 1) := by decide +kernel
theorem dX12_day_2 : decode cX12_day 2 = .ok (.putfield 104, 3) := by decide +kernel
theorem dX12_day_5 : decode cX12_day 5 = .ok (.aload_n 0, 1) := by decide +kernel
theorem dX12_day_6 : decode cX12_day 6 = .ok (.invokevirtual 155, 3) := by decide +kernel
theorem dX12_day_9 : decode cX12_day 9 = .ok (.bipush (-9), 2) := by decide +kernel
theorem dX12_day_11 : decode cX12_day 11 = .ok (.if_icmp .eq 6, 3) := by decide +kernel
theorem dX12_day_14 : decode cX12_day 14 = .ok (.bipush (-3), 2) := by decide +kernel
theorem dX12_day_16 : decode cX12_day 16 = .ok (.ireturn, 1) := by decide +kernel
theorem dX12_day_17 : decode cX12_day 17 = .ok (.aload_n 0, 1) := by decide +kernel
theorem dX12_day_18 : decode cX12_day 18 = .ok (.aload_n 0, 1) := by decide +kernel
theorem dX12_day_19 : decode cX12_day 19 = .ok (.getfield 122, 3) := by decide +kernel
theorem dX12_day_22 : decode cX12_day 22 = .ok (.putfield 13, 3) := by decide +kernel
theorem dX12_day_25 : decode cX12_day 25 = .ok (.aload_n 0, 1) := by decide +kernel
theorem dX12_day_26 : decode cX12_day 26 = .ok (.aload_n 0, 1) := by decide +kernel
theorem dX12_day_27 : decode cX12_day 27 = .ok (.getfield 149, 3) := by decide +kernel
theorem dX12_day_30 : decode cX12_day 30 = .ok (.putfield 159, 3) := by decide +kernel
theorem dX12_day_33 : decode cX12_day 33 = .ok (.aload_n 0, 1) := by decide +kernel
theorem dX12_day_34 : decode cX12_day 34 = .ok (.aload_n 0, 1) := by decide +kernel
theorem dX12_day_35 : decode cX12_day 35 = .ok (.getfield 133, 3) := by decide +kernel
theorem dX12_day_38 : decode cX12_day 38 = .ok (.putfield 162, 3) := by decide +kernel
theorem dX12_day_41 : decode cX12_day 41 = .ok (.aload_n 0, 1) := by decide +kernel
theorem dX12_day_42 : decode cX12_day 42 = .ok (.aload_n 0, 1) := by decide +kernel
theorem dX12_day_43 : decode cX12_day 43 = .ok (.getfield 136, 3) := by decide +kernel
theorem dX12_day_46 : decode cX12_day 46 = .ok (.putfield 111, 3) := by decide +kernel
theorem dX12_day_49 : decode cX12_day 49 = .ok (.iconst 0, 1) := by decide +kernel
theorem dX12_day_50 : decode cX12_day 50 = .ok (.istore_n 1, 1) := by decide +kernel
theorem dX12_day_51 : decode cX12_day 51 = .ok (.iload_n 1, 1) := by decide +kernel
theorem dX12_day_52 : decode cX12_day 52 = .ok (.bipush 36, 2) := by decide +kernel
theorem dX12_day_54 : decode cX12_day 54 = .ok (.if_icmp .ge 21, 3) := by decide +kernel
theorem dX12_day_57 : decode cX12_day 57 = .ok (.aload_n 0, 1) := by decide +kernel
theorem dX12_day_58 : decode cX12_day 58 = .ok (.getfield 17, 3) := by decide +kernel
theorem dX12_day_61 : decode cX12_day 61 = .ok (.iload_n 1, 1) := by decide +kernel
theorem dX12_day_62 : decode cX12_day 62 = .ok (.aload_n 0, 1) := by decide +kernel
theorem dX12_day_63 : decode cX12_day 63 = .ok (.getfield 29, 3) := by decide +kernel
theorem dX12_day_66 : decode cX12_day 66 = .ok (.iload_n 1, 1) := by decide +kernel
theorem dX12_day_67 : decode cX12_day 67 = .ok (.iaload, 1) := by decide +kernel
theorem dX12_day_68 : decode cX12_day 68 = .ok (.iastore, 1) := by decide +kernel
theorem dX12_day_69 : decode cX12_day 69 = .ok (.iinc 1 1, 3) := by decide +kernel
theorem dX12_day_72 : decode cX12_day 72 = .ok (.goto (-21), 3) := by decide +kernel
theorem dX12_day_75 : decode cX12_day 75 = .ok (.iconst 0, 1) := by decide +kernel
theorem dX12_day_76 : decode cX12_day 76 = .ok (.istore_n 1, 1) := by decide +kernel
theorem dX12_day_77 : decode cX12_day 77 = .ok (.iload_n 1, 1) := by decide +kernel
theorem dX12_day_78 : decode cX12_day 78 = .ok (.bipush 6, 2) := by decide +kernel
theorem dX12_day_80 : decode cX12_day 80 = .ok (.if_icmp .ge 79, 3) := by decide +kernel
theorem dX12_day_83 : decode cX12_day 83 = .ok (.iconst 0, 1) := by decide +kernel
theorem dX12_day_84 : decode cX12_day 84 = .ok (.istore_n 2, 1) := by decide +kernel
theorem dX12_day_85 : decode cX12_day 85 = .ok (.iload_n 2, 1) := by decide +kernel
theorem dX12_day_86 : decode cX12_day 86 = .ok (.bipush 36, 2) := by decide +kernel
theorem dX12_day_88 : decode cX12_day 88 = .ok (.if_icmp .ge 65, 3) := by decide +kernel
theorem dX12_day_91 : decode cX12_day 91 = .ok (.aload_n 0, 1) := by decide +kernel
theorem dX12_day_92 : decode cX12_day 92 = .ok (.getfield 17, 3) := by decide +kernel
theorem dX12_day_95 : decode cX12_day 95 = .ok (.iload_n 2, 1) := by decide +kernel
theorem dX12_day_96 : decode cX12_day 96 = .ok (.bipush 6, 2) := by decide +kernel
theorem dX12_day_98 : decode cX12_day 98 = .ok (.idiv, 1) := by decide +kernel
theorem dX12_day_99 : decode cX12_day 99 = .ok (.bipush 6, 2) := by decide +kernel
theorem dX12_day_101 : decode cX12_day 101 = .ok (.imul, 1) := by decide +kernel
theorem dX12_day_102 : decode cX12_day 102 = .ok (.iload_n 1, 1) := by decide +kernel
theorem dX12_day_103 : decode cX12_day 103 = .ok (.iadd, 1) := by decide +kernel
theorem dX12_day_104 : decode cX12_day 104 = .ok (.iaload, 1) := by decide +kernel
theorem dX12_day_105 : decode cX12_day 105 = .ok (.aload_n 0, 1) := by decide +kernel
theorem dX12_day_106 : decode cX12_day 106 = .ok (.getfield 17, 3) := by decide +kernel
theorem dX12_day_109 : decode cX12_day 109 = .ok (.bipush 6, 2) := by decide +kernel
theorem dX12_day_111 : decode cX12_day 111 = .ok (.iload_n 1, 1) := by decide +kernel
theorem dX12_day_112 : decode cX12_day 112 = .ok (.imul, 1) := by decide +kernel
theorem dX12_day_113 : decode cX12_day 113 = .ok (.iload_n 2, 1) := by decide +kernel
theorem dX12_day_114 : decode cX12_day 114 = .ok (.bipush 6, 2) := by decide +kernel
theorem dX12_day_116 : decode cX12_day 116 = .ok (.irem, 1) := by decide +kernel
theorem dX12_day_117 : decode cX12_day 117 = .ok (.iadd, 1) := by decide +kernel
theorem dX12_day_118 : decode cX12_day 118 = .ok (.iaload, 1) := by decide +kernel
theorem dX12_day_119 : decode cX12_day 119 = .ok (.iadd, 1) := by decide +kernel
theorem dX12_day_120 : decode cX12_day 120 = .ok (.istore_n 3, 1) := by decide +kernel
theorem dX12_day_121 : decode cX12_day 121 = .ok (.aload_n 0, 1) := by decide +kernel
theorem dX12_day_122 : decode cX12_day 122 = .ok (.getfield 17, 3) := by decide +kernel
theorem dX12_day_125 : decode cX12_day 125 = .ok (.iload_n 2, 1) := by decide +kernel
theorem dX12_day_126 : decode cX12_day 126 = .ok (.iload_n 3, 1) := by decide +kernel
theorem dX12_day_127 : decode cX12_day 127 = .ok (.aload_n 0, 1) := by decide +kernel
theorem dX12_day_128 : decode cX12_day 128 = .ok (.getfield 17, 3) := by decide +kernel
theorem dX12_day_131 : decode cX12_day 131 = .ok (.iload_n 2, 1) := by decide +kernel
theorem dX12_day_132 : decode cX12_day 132 = .ok (.iaload, 1) := by decide +kernel
theorem dX12_day_133 : decode cX12_day 133 = .ok (.if_icmp .ge 7, 3) := by decide +kernel
theorem dX12_day_136 : decode cX12_day 136 = .ok (.iload_n 3, 1) := by decide +kernel
theorem dX12_day_137 : decode cX12_day 137 = .ok (.goto 9, 3) := by decide +kernel
theorem dX12_day_140 : decode cX12_day 140 = .ok (.aload_n 0, 1) := by decide +kernel
theorem dX12_day_141 : decode cX12_day 141 = .ok (.getfield 17, 3) := by decide +kernel
theorem dX12_day_144 : decode cX12_day 144 = .ok (.iload_n 2, 1) := by decide +kernel
theorem dX12_day_145 : decode cX12_day 145 = .ok (.iaload, 1) := by decide +kernel
theorem dX12_day_146 : decode cX12_day 146 = .ok (.iastore, 1) := by decide +kernel
theorem dX12_day_147 : decode cX12_day 147 = .ok (.iinc 2 1, 3) := by decide +kernel
theorem dX12_day_150 : decode cX12_day 150 = .ok (.goto (-65), 3) := by decide +kernel
theorem dX12_day_153 : decode cX12_day 153 = .ok (.iinc 1 1, 3) := by decide +kernel
theorem dX12_day_156 : decode cX12_day 156 = .ok (.goto (-79), 3) := by decide +kernel
theorem dX12_day_159 : decode cX12_day 159 = .ok (.iconst 0, 1) := by decide +kernel
theorem dX12_day_160 : decode cX12_day 160 = .ok (.istore_n 1, 1) := by decide +kernel
theorem dX12_day_161 : decode cX12_day 161 = .ok (.iload_n 1, 1) := by decide +kernel
theorem dX12_day_162 : decode cX12_day 162 = .ok (.aload_n 0, 1) := by decide +kernel
theorem dX12_day_163 : decode cX12_day 163 = .ok (.getfield 111, 3) := by decide +kernel
theorem dX12_day_166 : decode cX12_day 166 = .ok (.if_icmp .ge 45, 3) := by decide +kernel
theorem dX12_day_169 : decode cX12_day 169 = .ok (.aload_n 0, 1) := by decide +kernel
theorem dX12_day_170 : decode cX12_day 170 = .ok (.getfield 20, 3) := by decide +kernel
theorem dX12_day_173 : decode cX12_day 173 = .ok (.iload_n 1, 1) := by decide +kernel
theorem dX12_day_174 : decode cX12_day 174 = .ok (.aload_n 0, 1) := by decide +kernel
theorem dX12_day_175 : decode cX12_day 175 = .ok (.getfield 32, 3) := by decide +kernel
theorem dX12_day_178 : decode cX12_day 178 = .ok (.iload_n 1, 1) := by decide +kernel
theorem dX12_day_179 : decode cX12_day 179 = .ok (.iaload, 1) := by decide +kernel
theorem dX12_day_180 : decode cX12_day 180 = .ok (.iastore, 1) := by decide +kernel
theorem dX12_day_181 : decode cX12_day 181 = .ok (.aload_n 0, 1) := by decide +kernel
theorem dX12_day_182 : decode cX12_day 182 = .ok (.getfield 23, 3) := by decide +kernel
theorem dX12_day_185 : decode cX12_day 185 = .ok (.iload_n 1, 1) := by decide +kernel
theorem dX12_day_186 : decode cX12_day 186 = .ok (.aload_n 0, 1) := by decide +kernel
theorem dX12_day_187 : decode cX12_day 187 = .ok (.getfield 35, 3) := by decide +kernel
theorem dX12_day_190 : decode cX12_day 190 = .ok (.iload_n 1, 1) := by decide +kernel
theorem dX12_day_191 : decode cX12_day 191 = .ok (.iaload, 1) := by decide +kernel
theorem dX12_day_192 : decode cX12_day 192 = .ok (.iastore, 1) := by decide +kernel
theorem dX12_day_193 : decode cX12_day 193 = .ok (.aload_n 0, 1) := by decide +kernel
theorem dX12_day_194 : decode cX12_day 194 = .ok (.getfield 26, 3) := by decide +kernel
theorem dX12_day_197 : decode cX12_day 197 = .ok (.iload_n 1, 1) := by decide +kernel
theorem dX12_day_198 : decode cX12_day 198 = .ok (.aload_n 0, 1) := by decide +kernel
theorem dX12_day_199 : decode cX12_day 199 = .ok (.getfield 38, 3) := by decide +kernel
theorem dX12_day_202 : decode cX12_day 202 = .ok (.iload_n 1, 1) := by decide +kernel
theorem dX12_day_203 : decode cX12_day 203 = .ok (.iaload, 1) := by decide +kernel
theorem dX12_day_204 : decode cX12_day 204 = .ok (.iastore, 1) := by decide +kernel
theorem dX12_day_205 : decode cX12_day 205 = .ok (.iinc 1 1, 3) := by decide +kernel
theorem dX12_day_208 : decode cX12_day 208 = .ok (.goto (-47), 3) := by decide +kernel
theorem dX12_day_211 : decode cX12_day 211 = .ok (.aload_n 0, 1) := by decide +kernel
theorem dX12_day_212 : decode cX12_day 212 = .ok (.getfield 41, 3) := by decide +kernel
theorem dX12_day_215 : decode cX12_day 215 = .ok (.iconst 0, 1) := by decide +kernel
theorem dX12_day_216 : decode cX12_day 216 = .ok (.iconst 0, 1) := by decide +kernel
theorem dX12_day_217 : decode cX12_day 217 = .ok (.iastore, 1) := by decide +kernel
theorem dX12_day_218 : decode cX12_day 218 = .ok (.aload_n 0, 1) := by decide +kernel
theorem dX12_day_219 : decode cX12_day 219 = .ok (.getfield 41, 3) := by decide +kernel
theorem dX12_day_222 : decode cX12_day 222 = .ok (.iconst 1, 1) := by decide +kernel
theorem dX12_day_223 : decode cX12_day 223 = .ok (.iconst 0, 1) := by decide +kernel
theorem dX12_day_224 : decode cX12_day 224 = .ok (.iastore, 1) := by decide +kernel
theorem dX12_day_225 : decode cX12_day 225 = .ok (.aload_n 0, 1) := by decide +kernel
theorem dX12_day_226 : decode cX12_day 226 = .ok (.aload_n 0, 1) := by decide +kernel
theorem dX12_day_227 : decode cX12_day 227 = .ok (.getfield 159, 3) := by decide +kernel
theorem dX12_day_230 : decode cX12_day 230 = .ok (.putfield 165, 3) := by decide +kernel
theorem dX12_day_233 : decode cX12_day 233 = .ok (.aload_n 0, 1) := by decide +kernel
theorem dX12_day_234 : decode cX12_day 234 = .ok (.iconst 0, 1) := by decide +kernel
theorem dX12_day_235 : decode cX12_day 235 = .ok (.putfield 168, 3) := by decide +kernel
theorem dX12_day_238 : decode cX12_day 238 = .ok (.aload_n 0, 1) := by decide +kernel
theorem dX12_day_239 : decode cX12_day 239 = .ok (.iconst 0, 1) := by decide +kernel
theorem dX12_day_240 : decode cX12_day 240 = .ok (.putfield 171, 3) := by decide +kernel
theorem dX12_day_243 : decode cX12_day 243 = .ok (.aload_n 0, 1) := by decide +kernel
theorem dX12_day_244 : decode cX12_day 244 = .ok (.iconst 0, 1) := by decide +kernel
theorem dX12_day_245 : decode cX12_day 245 = .ok (.putfield 174, 3) := by decide +kernel
theorem dX12_day_248 : decode cX12_day 248 = .ok (.aload_n 0, 1) := by decide +kernel
theorem dX12_day_249 : decode cX12_day 249 = .ok (.iconst 0, 1) := by decide +kernel
theorem dX12_day_250 : decode cX12_day 250 = .ok (.putfield 177, 3) := by decide +kernel
theorem dX12_day_253 : decode cX12_day 253 = .ok (.aload_n 0, 1) := by decide +kernel
theorem dX12_day_254 : decode cX12_day 254 = .ok (.getfield 53, 3) := by decide +kernel
theorem dX12_day_257 : decode cX12_day 257 = .ok (.iconst 0, 1) := by decide +kernel
theorem dX12_day_258 : decode cX12_day 258 = .ok (.iconst 0, 1) := by decide +kernel
theorem dX12_day_259 : decode cX12_day 259 = .ok (.bastore, 1) := by decide +kernel
theorem dX12_day_260 : decode cX12_day 260 = .ok (.aload_n 0, 1) := by decide +kernel
theorem dX12_day_261 : decode cX12_day 261 = .ok (.getfield 53, 3) := by decide +kernel
theorem dX12_day_264 : decode cX12_day 264 = .ok (.iconst 1, 1) := by decide +kernel
theorem dX12_day_265 : decode cX12_day 265 = .ok (.iconst 0, 1) := by decide +kernel
theorem dX12_day_266 : decode cX12_day 266 = .ok (.bastore, 1) := by decide +kernel
theorem dX12_day_267 : decode cX12_day 267 = .ok (.aload_n 0, 1) := by decide +kernel
theorem dX12_day_268 : decode cX12_day 268 = .ok (.getfield 13, 3) := by decide +kernel
theorem dX12_day_271 : decode cX12_day 271 = .ok (.ireturn, 1) := by decide +kernel
theorem dX12_owed_0 : decode cX12_owed 0 = .ok (.iload_n 0, 1) := by decide +kernel
theorem dX12_owed_1 : decode cX12_owed 1 = .ok (.ifCond .ge 8, 3) := by decide +kernel
theorem dX12_owed_4 : decode cX12_owed 4 = .ok (.iload_n 0, 1) := by decide +kernel
theorem dX12_owed_5 : decode cX12_owed 5 = .ok (.ineg, 1) := by decide +kernel
theorem dX12_owed_6 : decode cX12_owed 6 = .ok (.goto 4, 3) := by decide +kernel
theorem dX12_owed_9 : decode cX12_owed 9 = .ok (.iload_n 0, 1) := by decide +kernel
theorem dX12_owed_10 : decode cX12_owed 10 = .ok (.istore_n 1, 1) := by decide +kernel
theorem dX12_owed_11 : decode cX12_owed 11 = .ok (.iload_n 1, 1) := by decide +kernel
theorem dX12_owed_12 : decode cX12_owed 12 = .ok (.iload_n 1, 1) := by decide +kernel
theorem dX12_owed_13 : decode cX12_owed 13 = .ok (.bipush 9, 2) := by decide +kernel
theorem dX12_owed_15 : decode cX12_owed 15 = .ok (.iadd, 1) := by decide +kernel
theorem dX12_owed_16 : decode cX12_owed 16 = .ok (.bipush 10, 2) := by decide +kernel
theorem dX12_owed_18 : decode cX12_owed 18 = .ok (.idiv, 1) := by decide +kernel
theorem dX12_owed_19 : decode cX12_owed 19 = .ok (.iadd, 1) := by decide +kernel
theorem dX12_owed_20 : decode cX12_owed 20 = .ok (.ireturn, 1) := by decide +kernel
theorem dX12_worthOf_0 : decode cX12_worthOf 0 = .ok (.iconst 0, 1) := by decide +kernel
theorem dX12_worthOf_1 : decode cX12_worthOf 1 = .ok (.istore_n 2, 1) := by decide +kernel
theorem dX12_worthOf_2 : decode cX12_worthOf 2 = .ok (.iconst 0, 1) := by decide +kernel
theorem dX12_worthOf_3 : decode cX12_worthOf 3 = .ok (.istore_n 3, 1) := by decide +kernel
theorem dX12_worthOf_4 : decode cX12_worthOf 4 = .ok (.iload_n 3, 1) := by decide +kernel
theorem dX12_worthOf_5 : decode cX12_worthOf 5 = .ok (.aload_n 0, 1) := by decide +kernel
theorem dX12_worthOf_6 : decode cX12_worthOf 6 = .ok (.getfield 111, 3) := by decide +kernel
theorem dX12_worthOf_9 : decode cX12_worthOf 9 = .ok (.if_icmp .ge 30, 3) := by decide +kernel
theorem dX12_worthOf_12 : decode cX12_worthOf 12 = .ok (.iload_n 2, 1) := by decide +kernel
theorem dX12_worthOf_13 : decode cX12_worthOf 13 = .ok (.iload_n 1, 1) := by decide +kernel
theorem dX12_worthOf_14 : decode cX12_worthOf 14 = .ok (.iload_n 3, 1) := by decide +kernel
theorem dX12_worthOf_15 : decode cX12_worthOf 15 = .ok (.invokestatic 180, 3) := by decide +kernel
theorem dX12_worthOf_18 : decode cX12_worthOf 18 = .ok (.ifCond .eq 12, 3) := by decide +kernel
theorem dX12_worthOf_21 : decode cX12_worthOf 21 = .ok (.aload_n 0, 1) := by decide +kernel
theorem dX12_worthOf_22 : decode cX12_worthOf 22 = .ok (.getfield 23, 3) := by decide +kernel
theorem dX12_worthOf_25 : decode cX12_worthOf 25 = .ok (.iload_n 3, 1) := by decide +kernel
theorem dX12_worthOf_26 : decode cX12_worthOf 26 = .ok (.iaload, 1) := by decide +kernel
theorem dX12_worthOf_27 : decode cX12_worthOf 27 = .ok (.goto 4, 3) := by decide +kernel
theorem dX12_worthOf_30 : decode cX12_worthOf 30 = .ok (.iconst 0, 1) := by decide +kernel
theorem dX12_worthOf_31 : decode cX12_worthOf 31 = .ok (.iadd, 1) := by decide +kernel
theorem dX12_worthOf_32 : decode cX12_worthOf 32 = .ok (.istore_n 2, 1) := by decide +kernel
theorem dX12_worthOf_33 : decode cX12_worthOf 33 = .ok (.iinc 3 1, 3) := by decide +kernel
theorem dX12_worthOf_36 : decode cX12_worthOf 36 = .ok (.goto (-32), 3) := by decide +kernel
theorem dX12_worthOf_39 : decode cX12_worthOf 39 = .ok (.iload_n 2, 1) := by decide +kernel
theorem dX12_worthOf_40 : decode cX12_worthOf 40 = .ok (.ireturn, 1) := by decide +kernel
theorem dX12_about_0 : decode cX12_about 0 = .ok (.aload_n 0, 1) := by decide +kernel
theorem dX12_about_1 : decode cX12_about 1 = .ok (.iconst 0, 1) := by decide +kernel
theorem dX12_about_2 : decode cX12_about 2 = .ok (.putfield 104, 3) := by decide +kernel
theorem dX12_about_5 : decode cX12_about 5 = .ok (.sipush 10000, 3) := by decide +kernel
theorem dX12_about_8 : decode cX12_about 8 = .ok (.istore_n 2, 1) := by decide +kernel
theorem dX12_about_9 : decode cX12_about 9 = .ok (.iconst 0, 1) := by decide +kernel
theorem dX12_about_10 : decode cX12_about 10 = .ok (.istore_n 3, 1) := by decide +kernel
theorem dX12_about_11 : decode cX12_about 11 = .ok (.iload_n 3, 1) := by decide +kernel
theorem dX12_about_12 : decode cX12_about 12 = .ok (.aload_n 0, 1) := by decide +kernel
theorem dX12_about_13 : decode cX12_about 13 = .ok (.getfield 174, 3) := by decide +kernel
theorem dX12_about_16 : decode cX12_about 16 = .ok (.if_icmp .ge 43, 3) := by decide +kernel
theorem dX12_about_19 : decode cX12_about 19 = .ok (.iload_n 2, 1) := by decide +kernel
theorem dX12_about_20 : decode cX12_about 20 = .ok (.aload_n 0, 1) := by decide +kernel
theorem dX12_about_21 : decode cX12_about 21 = .ok (.getfield 44, 3) := by decide +kernel
theorem dX12_about_24 : decode cX12_about 24 = .ok (.iload_n 3, 1) := by decide +kernel
theorem dX12_about_25 : decode cX12_about 25 = .ok (.iaload, 1) := by decide +kernel
theorem dX12_about_26 : decode cX12_about 26 = .ok (.ifCond .le 15, 3) := by decide +kernel
theorem dX12_about_29 : decode cX12_about 29 = .ok (.aload_n 0, 1) := by decide +kernel
theorem dX12_about_30 : decode cX12_about 30 = .ok (.getfield 44, 3) := by decide +kernel
theorem dX12_about_33 : decode cX12_about 33 = .ok (.iload_n 3, 1) := by decide +kernel
theorem dX12_about_34 : decode cX12_about 34 = .ok (.iaload, 1) := by decide +kernel
theorem dX12_about_35 : decode cX12_about 35 = .ok (.invokestatic 184, 3) := by decide +kernel
theorem dX12_about_38 : decode cX12_about 38 = .ok (.goto 13, 3) := by decide +kernel
theorem dX12_about_41 : decode cX12_about 41 = .ok (.aload_n 0, 1) := by decide +kernel
theorem dX12_about_42 : decode cX12_about 42 = .ok (.getfield 44, 3) := by decide +kernel
theorem dX12_about_45 : decode cX12_about 45 = .ok (.iload_n 3, 1) := by decide +kernel
theorem dX12_about_46 : decode cX12_about 46 = .ok (.iaload, 1) := by decide +kernel
theorem dX12_about_47 : decode cX12_about 47 = .ok (.invokestatic 184, 3) := by decide +kernel
theorem dX12_about_50 : decode cX12_about 50 = .ok (.ineg, 1) := by decide +kernel
theorem dX12_about_51 : decode cX12_about 51 = .ok (.iadd, 1) := by decide +kernel
theorem dX12_about_52 : decode cX12_about 52 = .ok (.istore_n 2, 1) := by decide +kernel
theorem dX12_about_53 : decode cX12_about 53 = .ok (.iinc 3 1, 3) := by decide +kernel
theorem dX12_about_56 : decode cX12_about 56 = .ok (.goto (-45), 3) := by decide +kernel
theorem dX12_about_59 : decode cX12_about 59 = .ok (.iload_n 1, 1) := by decide +kernel
theorem dX12_about_60 : decode cX12_about 60 = .ok (.tableswitch 107 0 9 #[56, 61, 66, 71, 76, 81, 90, 95, 100, 102], 56) := by decide +kernel
theorem dX12_about_116 : decode cX12_about 116 = .ok (.aload_n 0, 1) := by decide +kernel
theorem dX12_about_117 : decode cX12_about 117 = .ok (.getfield 13, 3) := by decide +kernel
theorem dX12_about_120 : decode cX12_about 120 = .ok (.ireturn, 1) := by decide +kernel
theorem dX12_about_121 : decode cX12_about 121 = .ok (.aload_n 0, 1) := by decide +kernel
theorem dX12_about_122 : decode cX12_about 122 = .ok (.getfield 111, 3) := by decide +kernel
theorem dX12_about_125 : decode cX12_about 125 = .ok (.ireturn, 1) := by decide +kernel
theorem dX12_about_126 : decode cX12_about 126 = .ok (.aload_n 0, 1) := by decide +kernel
theorem dX12_about_127 : decode cX12_about 127 = .ok (.getfield 162, 3) := by decide +kernel
theorem dX12_about_130 : decode cX12_about 130 = .ok (.ireturn, 1) := by decide +kernel
theorem dX12_about_131 : decode cX12_about 131 = .ok (.aload_n 0, 1) := by decide +kernel
theorem dX12_about_132 : decode cX12_about 132 = .ok (.getfield 165, 3) := by decide +kernel
theorem dX12_about_135 : decode cX12_about 135 = .ok (.ireturn, 1) := by decide +kernel
theorem dX12_about_136 : decode cX12_about 136 = .ok (.aload_n 0, 1) := by decide +kernel
theorem dX12_about_137 : decode cX12_about 137 = .ok (.getfield 168, 3) := by decide +kernel
theorem dX12_about_140 : decode cX12_about 140 = .ok (.ireturn, 1) := by decide +kernel
theorem dX12_about_141 : decode cX12_about 141 = .ok (.aload_n 0, 1) := by decide +kernel
theorem dX12_about_142 : decode cX12_about 142 = .ok (.aload_n 0, 1) := by decide +kernel
theorem dX12_about_143 : decode cX12_about 143 = .ok (.getfield 168, 3) := by decide +kernel
theorem dX12_about_146 : decode cX12_about 146 = .ok (.invokevirtual 188, 3) := by decide +kernel
theorem dX12_about_149 : decode cX12_about 149 = .ok (.ireturn, 1) := by decide +kernel
theorem dX12_about_150 : decode cX12_about 150 = .ok (.aload_n 0, 1) := by decide +kernel
theorem dX12_about_151 : decode cX12_about 151 = .ok (.getfield 177, 3) := by decide +kernel
theorem dX12_about_154 : decode cX12_about 154 = .ok (.ireturn, 1) := by decide +kernel
theorem dX12_about_155 : decode cX12_about 155 = .ok (.aload_n 0, 1) := by decide +kernel
theorem dX12_about_156 : decode cX12_about 156 = .ok (.getfield 174, 3) := by decide +kernel
theorem dX12_about_159 : decode cX12_about 159 = .ok (.ireturn, 1) := by decide +kernel
theorem dX12_about_160 : decode cX12_about 160 = .ok (.iload_n 2, 1) := by decide +kernel
theorem dX12_about_161 : decode cX12_about 161 = .ok (.ireturn, 1) := by decide +kernel
theorem dX12_about_162 : decode cX12_about 162 = .ok (.aload_n 0, 1) := by decide +kernel
theorem dX12_about_163 : decode cX12_about 163 = .ok (.getfield 116, 3) := by decide +kernel
theorem dX12_about_166 : decode cX12_about 166 = .ok (.ireturn, 1) := by decide +kernel
theorem dX12_about_167 : decode cX12_about 167 = .ok (.bipush (-2), 2) := by decide +kernel
theorem dX12_about_169 : decode cX12_about 169 = .ok (.ireturn, 1) := by decide +kernel
theorem dX12_at_0 : decode cX12_at 0 = .ok (.aload_n 0, 1) := by decide +kernel
theorem dX12_at_1 : decode cX12_at 1 = .ok (.iconst 0, 1) := by decide +kernel
theorem dX12_at_2 : decode cX12_at 2 = .ok (.putfield 104, 3) := by decide +kernel
theorem dX12_at_5 : decode cX12_at 5 = .ok (.iload_n 1, 1) := by decide +kernel
theorem dX12_at_6 : decode cX12_at 6 = .ok (.invokestatic 191, 3) := by decide +kernel
theorem dX12_at_9 : decode cX12_at 9 = .ok (.ifCond .eq 7, 3) := by decide +kernel
theorem dX12_at_12 : decode cX12_at 12 = .ok (.iconst (-1), 1) := by decide +kernel
theorem dX12_at_13 : decode cX12_at 13 = .ok (.goto 9, 3) := by decide +kernel
theorem dX12_at_16 : decode cX12_at 16 = .ok (.aload_n 0, 1) := by decide +kernel
theorem dX12_at_17 : decode cX12_at 17 = .ok (.getfield 41, 3) := by decide +kernel
theorem dX12_at_20 : decode cX12_at 20 = .ok (.iload_n 1, 1) := by decide +kernel
theorem dX12_at_21 : decode cX12_at 21 = .ok (.iaload, 1) := by decide +kernel
theorem dX12_at_22 : decode cX12_at 22 = .ok (.ireturn, 1) := by decide +kernel
theorem dX12_far_0 : decode cX12_far 0 = .ok (.aload_n 0, 1) := by decide +kernel
theorem dX12_far_1 : decode cX12_far 1 = .ok (.iconst 0, 1) := by decide +kernel
theorem dX12_far_2 : decode cX12_far 2 = .ok (.putfield 104, 3) := by decide +kernel
theorem dX12_far_5 : decode cX12_far 5 = .ok (.aload_n 0, 1) := by decide +kernel
theorem dX12_far_6 : decode cX12_far 6 = .ok (.iload_n 1, 1) := by decide +kernel
theorem dX12_far_7 : decode cX12_far 7 = .ok (.invokevirtual 194, 3) := by decide +kernel
theorem dX12_far_10 : decode cX12_far 10 = .ok (.ifCond .ne 11, 3) := by decide +kernel
theorem dX12_far_13 : decode cX12_far 13 = .ok (.aload_n 0, 1) := by decide +kernel
theorem dX12_far_14 : decode cX12_far 14 = .ok (.iload_n 2, 1) := by decide +kernel
theorem dX12_far_15 : decode cX12_far 15 = .ok (.invokevirtual 194, 3) := by decide +kernel
theorem dX12_far_18 : decode cX12_far 18 = .ok (.ifCond .eq 5, 3) := by decide +kernel
theorem dX12_far_21 : decode cX12_far 21 = .ok (.iconst (-1), 1) := by decide +kernel
theorem dX12_far_22 : decode cX12_far 22 = .ok (.ireturn, 1) := by decide +kernel
theorem dX12_far_23 : decode cX12_far 23 = .ok (.aload_n 0, 1) := by decide +kernel
theorem dX12_far_24 : decode cX12_far 24 = .ok (.getfield 17, 3) := by decide +kernel
theorem dX12_far_27 : decode cX12_far 27 = .ok (.bipush 6, 2) := by decide +kernel
theorem dX12_far_29 : decode cX12_far 29 = .ok (.iload_n 1, 1) := by decide +kernel
theorem dX12_far_30 : decode cX12_far 30 = .ok (.imul, 1) := by decide +kernel
theorem dX12_far_31 : decode cX12_far 31 = .ok (.iload_n 2, 1) := by decide +kernel
theorem dX12_far_32 : decode cX12_far 32 = .ok (.iadd, 1) := by decide +kernel
theorem dX12_far_33 : decode cX12_far 33 = .ok (.iaload, 1) := by decide +kernel
theorem dX12_far_34 : decode cX12_far 34 = .ok (.ldc 103, 2) := by decide +kernel
theorem dX12_far_36 : decode cX12_far 36 = .ok (.if_icmp .lt 8, 3) := by decide +kernel
theorem dX12_far_39 : decode cX12_far 39 = .ok (.bipush (-9), 2) := by decide +kernel
theorem dX12_far_41 : decode cX12_far 41 = .ok (.goto 14, 3) := by decide +kernel
theorem dX12_far_44 : decode cX12_far 44 = .ok (.aload_n 0, 1) := by decide +kernel
theorem dX12_far_45 : decode cX12_far 45 = .ok (.getfield 17, 3) := by decide +kernel
theorem dX12_far_48 : decode cX12_far 48 = .ok (.bipush 6, 2) := by decide +kernel
theorem dX12_far_50 : decode cX12_far 50 = .ok (.iload_n 1, 1) := by decide +kernel
theorem dX12_far_51 : decode cX12_far 51 = .ok (.imul, 1) := by decide +kernel
theorem dX12_far_52 : decode cX12_far 52 = .ok (.iload_n 2, 1) := by decide +kernel
theorem dX12_far_53 : decode cX12_far 53 = .ok (.iadd, 1) := by decide +kernel
theorem dX12_far_54 : decode cX12_far 54 = .ok (.iaload, 1) := by decide +kernel
theorem dX12_far_55 : decode cX12_far 55 = .ok (.ireturn, 1) := by decide +kernel
theorem dX12_errand_0 : decode cX12_errand 0 = .ok (.aload_n 0, 1) := by decide +kernel
theorem dX12_errand_1 : decode cX12_errand 1 = .ok (.iconst 0, 1) := by decide +kernel
theorem dX12_errand_2 : decode cX12_errand 2 = .ok (.putfield 104, 3) := by decide +kernel
theorem dX12_errand_5 : decode cX12_errand 5 = .ok (.aload_n 0, 1) := by decide +kernel
theorem dX12_errand_6 : decode cX12_errand 6 = .ok (.iload_n 1, 1) := by decide +kernel
theorem dX12_errand_7 : decode cX12_errand 7 = .ok (.invokevirtual 197, 3) := by decide +kernel
theorem dX12_errand_10 : decode cX12_errand 10 = .ok (.ifCond .eq 5, 3) := by decide +kernel
theorem dX12_errand_13 : decode cX12_errand 13 = .ok (.iconst (-1), 1) := by decide +kernel
theorem dX12_errand_14 : decode cX12_errand 14 = .ok (.ireturn, 1) := by decide +kernel
theorem dX12_errand_15 : decode cX12_errand 15 = .ok (.iload_n 2, 1) := by decide +kernel
theorem dX12_errand_16 : decode cX12_errand 16 = .ok (.tableswitch 107 0 4 #[36, 43, 50, 57, 74], 36) := by decide +kernel
theorem dX12_errand_52 : decode cX12_errand 52 = .ok (.aload_n 0, 1) := by decide +kernel
theorem dX12_errand_53 : decode cX12_errand 53 = .ok (.getfield 20, 3) := by decide +kernel
theorem dX12_errand_56 : decode cX12_errand 56 = .ok (.iload_n 1, 1) := by decide +kernel
theorem dX12_errand_57 : decode cX12_errand 57 = .ok (.iaload, 1) := by decide +kernel
theorem dX12_errand_58 : decode cX12_errand 58 = .ok (.ireturn, 1) := by decide +kernel
theorem dX12_errand_59 : decode cX12_errand 59 = .ok (.aload_n 0, 1) := by decide +kernel
theorem dX12_errand_60 : decode cX12_errand 60 = .ok (.getfield 23, 3) := by decide +kernel
theorem dX12_errand_63 : decode cX12_errand 63 = .ok (.iload_n 1, 1) := by decide +kernel
theorem dX12_errand_64 : decode cX12_errand 64 = .ok (.iaload, 1) := by decide +kernel
theorem dX12_errand_65 : decode cX12_errand 65 = .ok (.ireturn, 1) := by decide +kernel
theorem dX12_errand_66 : decode cX12_errand 66 = .ok (.aload_n 0, 1) := by decide +kernel
theorem dX12_errand_67 : decode cX12_errand 67 = .ok (.getfield 26, 3) := by decide +kernel
theorem dX12_errand_70 : decode cX12_errand 70 = .ok (.iload_n 1, 1) := by decide +kernel
theorem dX12_errand_71 : decode cX12_errand 71 = .ok (.iaload, 1) := by decide +kernel
theorem dX12_errand_72 : decode cX12_errand 72 = .ok (.ireturn, 1) := by decide +kernel
theorem dX12_errand_73 : decode cX12_errand 73 = .ok (.aload_n 0, 1) := by decide +kernel
theorem dX12_errand_74 : decode cX12_errand 74 = .ok (.getfield 168, 3) := by decide +kernel
theorem dX12_errand_77 : decode cX12_errand 77 = .ok (.iload_n 1, 1) := by decide +kernel
theorem dX12_errand_78 : decode cX12_errand 78 = .ok (.invokestatic 180, 3) := by decide +kernel
theorem dX12_errand_81 : decode cX12_errand 81 = .ok (.ifCond .eq 7, 3) := by decide +kernel
theorem dX12_errand_84 : decode cX12_errand 84 = .ok (.iconst 1, 1) := by decide +kernel
theorem dX12_errand_85 : decode cX12_errand 85 = .ok (.goto 4, 3) := by decide +kernel
theorem dX12_errand_88 : decode cX12_errand 88 = .ok (.iconst 0, 1) := by decide +kernel
theorem dX12_errand_89 : decode cX12_errand 89 = .ok (.ireturn, 1) := by decide +kernel
theorem dX12_errand_90 : decode cX12_errand 90 = .ok (.aload_n 0, 1) := by decide +kernel
theorem dX12_errand_91 : decode cX12_errand 91 = .ok (.getfield 168, 3) := by decide +kernel
theorem dX12_errand_94 : decode cX12_errand 94 = .ok (.iload_n 1, 1) := by decide +kernel
theorem dX12_errand_95 : decode cX12_errand 95 = .ok (.invokestatic 180, 3) := by decide +kernel
theorem dX12_errand_98 : decode cX12_errand 98 = .ok (.ifCond .ne 8, 3) := by decide +kernel
theorem dX12_errand_101 : decode cX12_errand 101 = .ok (.bipush (-9), 2) := by decide +kernel
theorem dX12_errand_103 : decode cX12_errand 103 = .ok (.goto 19, 3) := by decide +kernel
theorem dX12_errand_106 : decode cX12_errand 106 = .ok (.aload_n 0, 1) := by decide +kernel
theorem dX12_errand_107 : decode cX12_errand 107 = .ok (.getfield 171, 3) := by decide +kernel
theorem dX12_errand_110 : decode cX12_errand 110 = .ok (.iload_n 1, 1) := by decide +kernel
theorem dX12_errand_111 : decode cX12_errand 111 = .ok (.invokestatic 180, 3) := by decide +kernel
theorem dX12_errand_114 : decode cX12_errand 114 = .ok (.ifCond .eq 7, 3) := by decide +kernel
theorem dX12_errand_117 : decode cX12_errand 117 = .ok (.iconst 1, 1) := by decide +kernel
theorem dX12_errand_118 : decode cX12_errand 118 = .ok (.goto 4, 3) := by decide +kernel
theorem dX12_errand_121 : decode cX12_errand 121 = .ok (.iconst 0, 1) := by decide +kernel
theorem dX12_errand_122 : decode cX12_errand 122 = .ok (.ireturn, 1) := by decide +kernel
theorem dX12_errand_123 : decode cX12_errand 123 = .ok (.bipush (-2), 2) := by decide +kernel
theorem dX12_errand_125 : decode cX12_errand 125 = .ok (.ireturn, 1) := by decide +kernel
theorem dX12_layPage_0 : decode cX12_layPage 0 = .ok (.aload_n 1, 1) := by decide +kernel
theorem dX12_layPage_1 : decode cX12_layPage 1 = .ok (.iload_n 2, 1) := by decide +kernel
theorem dX12_layPage_2 : decode cX12_layPage 2 = .ok (.aload_n 0, 1) := by decide +kernel
theorem dX12_layPage_3 : decode cX12_layPage 3 = .ok (.getfield 41, 3) := by decide +kernel
theorem dX12_layPage_6 : decode cX12_layPage 6 = .ok (.iconst 0, 1) := by decide +kernel
theorem dX12_layPage_7 : decode cX12_layPage 7 = .ok (.iaload, 1) := by decide +kernel
theorem dX12_layPage_8 : decode cX12_layPage 8 = .ok (.iastore, 1) := by decide +kernel
theorem dX12_layPage_9 : decode cX12_layPage 9 = .ok (.aload_n 1, 1) := by decide +kernel
theorem dX12_layPage_10 : decode cX12_layPage 10 = .ok (.iload_n 2, 1) := by decide +kernel
theorem dX12_layPage_11 : decode cX12_layPage 11 = .ok (.iconst 1, 1) := by decide +kernel
theorem dX12_layPage_12 : decode cX12_layPage 12 = .ok (.iadd, 1) := by decide +kernel
theorem dX12_layPage_13 : decode cX12_layPage 13 = .ok (.aload_n 0, 1) := by decide +kernel
theorem dX12_layPage_14 : decode cX12_layPage 14 = .ok (.getfield 41, 3) := by decide +kernel
theorem dX12_layPage_17 : decode cX12_layPage 17 = .ok (.iconst 1, 1) := by decide +kernel
theorem dX12_layPage_18 : decode cX12_layPage 18 = .ok (.iaload, 1) := by decide +kernel
theorem dX12_layPage_19 : decode cX12_layPage 19 = .ok (.iastore, 1) := by decide +kernel
theorem dX12_layPage_20 : decode cX12_layPage 20 = .ok (.aload_n 1, 1) := by decide +kernel
theorem dX12_layPage_21 : decode cX12_layPage 21 = .ok (.iload_n 2, 1) := by decide +kernel
theorem dX12_layPage_22 : decode cX12_layPage 22 = .ok (.iconst 2, 1) := by decide +kernel
theorem dX12_layPage_23 : decode cX12_layPage 23 = .ok (.iadd, 1) := by decide +kernel
theorem dX12_layPage_24 : decode cX12_layPage 24 = .ok (.aload_n 0, 1) := by decide +kernel
theorem dX12_layPage_25 : decode cX12_layPage 25 = .ok (.getfield 165, 3) := by decide +kernel
theorem dX12_layPage_28 : decode cX12_layPage 28 = .ok (.iastore, 1) := by decide +kernel
theorem dX12_layPage_29 : decode cX12_layPage 29 = .ok (.aload_n 1, 1) := by decide +kernel
theorem dX12_layPage_30 : decode cX12_layPage 30 = .ok (.iload_n 2, 1) := by decide +kernel
theorem dX12_layPage_31 : decode cX12_layPage 31 = .ok (.iconst 3, 1) := by decide +kernel
theorem dX12_layPage_32 : decode cX12_layPage 32 = .ok (.iadd, 1) := by decide +kernel
theorem dX12_layPage_33 : decode cX12_layPage 33 = .ok (.aload_n 0, 1) := by decide +kernel
theorem dX12_layPage_34 : decode cX12_layPage 34 = .ok (.getfield 168, 3) := by decide +kernel
theorem dX12_layPage_37 : decode cX12_layPage 37 = .ok (.iastore, 1) := by decide +kernel
theorem dX12_layPage_38 : decode cX12_layPage 38 = .ok (.aload_n 1, 1) := by decide +kernel
theorem dX12_layPage_39 : decode cX12_layPage 39 = .ok (.iload_n 2, 1) := by decide +kernel
theorem dX12_layPage_40 : decode cX12_layPage 40 = .ok (.iconst 4, 1) := by decide +kernel
theorem dX12_layPage_41 : decode cX12_layPage 41 = .ok (.iadd, 1) := by decide +kernel
theorem dX12_layPage_42 : decode cX12_layPage 42 = .ok (.aload_n 0, 1) := by decide +kernel
theorem dX12_layPage_43 : decode cX12_layPage 43 = .ok (.getfield 171, 3) := by decide +kernel
theorem dX12_layPage_46 : decode cX12_layPage 46 = .ok (.iastore, 1) := by decide +kernel
theorem dX12_layPage_47 : decode cX12_layPage 47 = .ok (.aload_n 1, 1) := by decide +kernel
theorem dX12_layPage_48 : decode cX12_layPage 48 = .ok (.iload_n 2, 1) := by decide +kernel
theorem dX12_layPage_49 : decode cX12_layPage 49 = .ok (.iconst 5, 1) := by decide +kernel
theorem dX12_layPage_50 : decode cX12_layPage 50 = .ok (.iadd, 1) := by decide +kernel
theorem dX12_layPage_51 : decode cX12_layPage 51 = .ok (.aload_n 0, 1) := by decide +kernel
theorem dX12_layPage_52 : decode cX12_layPage 52 = .ok (.getfield 174, 3) := by decide +kernel
theorem dX12_layPage_55 : decode cX12_layPage 55 = .ok (.iastore, 1) := by decide +kernel
theorem dX12_layPage_56 : decode cX12_layPage 56 = .ok (.iconst 0, 1) := by decide +kernel
theorem dX12_layPage_57 : decode cX12_layPage 57 = .ok (.istore_n 3, 1) := by decide +kernel
theorem dX12_layPage_58 : decode cX12_layPage 58 = .ok (.iload_n 3, 1) := by decide +kernel
theorem dX12_layPage_59 : decode cX12_layPage 59 = .ok (.bipush 8, 2) := by decide +kernel
theorem dX12_layPage_61 : decode cX12_layPage 61 = .ok (.if_icmp .ge 23, 3) := by decide +kernel
theorem dX12_layPage_64 : decode cX12_layPage 64 = .ok (.aload_n 1, 1) := by decide +kernel
theorem dX12_layPage_65 : decode cX12_layPage 65 = .ok (.iload_n 2, 1) := by decide +kernel
theorem dX12_layPage_66 : decode cX12_layPage 66 = .ok (.bipush 6, 2) := by decide +kernel
theorem dX12_layPage_68 : decode cX12_layPage 68 = .ok (.iadd, 1) := by decide +kernel
theorem dX12_layPage_69 : decode cX12_layPage 69 = .ok (.iload_n 3, 1) := by decide +kernel
theorem dX12_layPage_70 : decode cX12_layPage 70 = .ok (.iadd, 1) := by decide +kernel
theorem dX12_layPage_71 : decode cX12_layPage 71 = .ok (.aload_n 0, 1) := by decide +kernel
theorem dX12_layPage_72 : decode cX12_layPage 72 = .ok (.getfield 44, 3) := by decide +kernel
theorem dX12_layPage_75 : decode cX12_layPage 75 = .ok (.iload_n 3, 1) := by decide +kernel
theorem dX12_layPage_76 : decode cX12_layPage 76 = .ok (.iaload, 1) := by decide +kernel
theorem dX12_layPage_77 : decode cX12_layPage 77 = .ok (.iastore, 1) := by decide +kernel
theorem dX12_layPage_78 : decode cX12_layPage 78 = .ok (.iinc 3 1, 3) := by decide +kernel
theorem dX12_layPage_81 : decode cX12_layPage 81 = .ok (.goto (-23), 3) := by decide +kernel
theorem dX12_layPage_84 : decode cX12_layPage 84 = .ok (.return_, 1) := by decide +kernel
theorem dX12_takePage_0 : decode cX12_takePage 0 = .ok (.aload_n 0, 1) := by decide +kernel
theorem dX12_takePage_1 : decode cX12_takePage 1 = .ok (.getfield 41, 3) := by decide +kernel
theorem dX12_takePage_4 : decode cX12_takePage 4 = .ok (.iconst 0, 1) := by decide +kernel
theorem dX12_takePage_5 : decode cX12_takePage 5 = .ok (.aload_n 1, 1) := by decide +kernel
theorem dX12_takePage_6 : decode cX12_takePage 6 = .ok (.iload_n 2, 1) := by decide +kernel
theorem dX12_takePage_7 : decode cX12_takePage 7 = .ok (.iaload, 1) := by decide +kernel
theorem dX12_takePage_8 : decode cX12_takePage 8 = .ok (.iastore, 1) := by decide +kernel
theorem dX12_takePage_9 : decode cX12_takePage 9 = .ok (.aload_n 0, 1) := by decide +kernel
theorem dX12_takePage_10 : decode cX12_takePage 10 = .ok (.getfield 41, 3) := by decide +kernel
theorem dX12_takePage_13 : decode cX12_takePage 13 = .ok (.iconst 1, 1) := by decide +kernel
theorem dX12_takePage_14 : decode cX12_takePage 14 = .ok (.aload_n 1, 1) := by decide +kernel
theorem dX12_takePage_15 : decode cX12_takePage 15 = .ok (.iload_n 2, 1) := by decide +kernel
theorem dX12_takePage_16 : decode cX12_takePage 16 = .ok (.iconst 1, 1) := by decide +kernel
theorem dX12_takePage_17 : decode cX12_takePage 17 = .ok (.iadd, 1) := by decide +kernel
theorem dX12_takePage_18 : decode cX12_takePage 18 = .ok (.iaload, 1) := by decide +kernel
theorem dX12_takePage_19 : decode cX12_takePage 19 = .ok (.iastore, 1) := by decide +kernel
theorem dX12_takePage_20 : decode cX12_takePage 20 = .ok (.aload_n 0, 1) := by decide +kernel
theorem dX12_takePage_21 : decode cX12_takePage 21 = .ok (.aload_n 1, 1) := by decide +kernel
theorem dX12_takePage_22 : decode cX12_takePage 22 = .ok (.iload_n 2, 1) := by decide +kernel
theorem dX12_takePage_23 : decode cX12_takePage 23 = .ok (.iconst 2, 1) := by decide +kernel
theorem dX12_takePage_24 : decode cX12_takePage 24 = .ok (.iadd, 1) := by decide +kernel
theorem dX12_takePage_25 : decode cX12_takePage 25 = .ok (.iaload, 1) := by decide +kernel
theorem dX12_takePage_26 : decode cX12_takePage 26 = .ok (.putfield 165, 3) := by decide +kernel
theorem dX12_takePage_29 : decode cX12_takePage 29 = .ok (.aload_n 0, 1) := by decide +kernel
theorem dX12_takePage_30 : decode cX12_takePage 30 = .ok (.aload_n 1, 1) := by decide +kernel
theorem dX12_takePage_31 : decode cX12_takePage 31 = .ok (.iload_n 2, 1) := by decide +kernel
theorem dX12_takePage_32 : decode cX12_takePage 32 = .ok (.iconst 3, 1) := by decide +kernel
theorem dX12_takePage_33 : decode cX12_takePage 33 = .ok (.iadd, 1) := by decide +kernel
theorem dX12_takePage_34 : decode cX12_takePage 34 = .ok (.iaload, 1) := by decide +kernel
theorem dX12_takePage_35 : decode cX12_takePage 35 = .ok (.putfield 168, 3) := by decide +kernel
theorem dX12_takePage_38 : decode cX12_takePage 38 = .ok (.aload_n 0, 1) := by decide +kernel
theorem dX12_takePage_39 : decode cX12_takePage 39 = .ok (.aload_n 1, 1) := by decide +kernel
theorem dX12_takePage_40 : decode cX12_takePage 40 = .ok (.iload_n 2, 1) := by decide +kernel
theorem dX12_takePage_41 : decode cX12_takePage 41 = .ok (.iconst 4, 1) := by decide +kernel
theorem dX12_takePage_42 : decode cX12_takePage 42 = .ok (.iadd, 1) := by decide +kernel
theorem dX12_takePage_43 : decode cX12_takePage 43 = .ok (.iaload, 1) := by decide +kernel
theorem dX12_takePage_44 : decode cX12_takePage 44 = .ok (.putfield 171, 3) := by decide +kernel
theorem dX12_takePage_47 : decode cX12_takePage 47 = .ok (.aload_n 0, 1) := by decide +kernel
theorem dX12_takePage_48 : decode cX12_takePage 48 = .ok (.aload_n 1, 1) := by decide +kernel
theorem dX12_takePage_49 : decode cX12_takePage 49 = .ok (.iload_n 2, 1) := by decide +kernel
theorem dX12_takePage_50 : decode cX12_takePage 50 = .ok (.iconst 5, 1) := by decide +kernel
theorem dX12_takePage_51 : decode cX12_takePage 51 = .ok (.iadd, 1) := by decide +kernel
theorem dX12_takePage_52 : decode cX12_takePage 52 = .ok (.iaload, 1) := by decide +kernel
theorem dX12_takePage_53 : decode cX12_takePage 53 = .ok (.putfield 174, 3) := by decide +kernel
theorem dX12_takePage_56 : decode cX12_takePage 56 = .ok (.iconst 0, 1) := by decide +kernel
theorem dX12_takePage_57 : decode cX12_takePage 57 = .ok (.istore_n 3, 1) := by decide +kernel
theorem dX12_takePage_58 : decode cX12_takePage 58 = .ok (.iload_n 3, 1) := by decide +kernel
theorem dX12_takePage_59 : decode cX12_takePage 59 = .ok (.bipush 8, 2) := by decide +kernel
theorem dX12_takePage_61 : decode cX12_takePage 61 = .ok (.if_icmp .ge 23, 3) := by decide +kernel
theorem dX12_takePage_64 : decode cX12_takePage 64 = .ok (.aload_n 0, 1) := by decide +kernel
theorem dX12_takePage_65 : decode cX12_takePage 65 = .ok (.getfield 44, 3) := by decide +kernel
theorem dX12_takePage_68 : decode cX12_takePage 68 = .ok (.iload_n 3, 1) := by decide +kernel
theorem dX12_takePage_69 : decode cX12_takePage 69 = .ok (.aload_n 1, 1) := by decide +kernel
theorem dX12_takePage_70 : decode cX12_takePage 70 = .ok (.iload_n 2, 1) := by decide +kernel
theorem dX12_takePage_71 : decode cX12_takePage 71 = .ok (.bipush 6, 2) := by decide +kernel
theorem dX12_takePage_73 : decode cX12_takePage 73 = .ok (.iadd, 1) := by decide +kernel
theorem dX12_takePage_74 : decode cX12_takePage 74 = .ok (.iload_n 3, 1) := by decide +kernel
theorem dX12_takePage_75 : decode cX12_takePage 75 = .ok (.iadd, 1) := by decide +kernel
theorem dX12_takePage_76 : decode cX12_takePage 76 = .ok (.iaload, 1) := by decide +kernel
theorem dX12_takePage_77 : decode cX12_takePage 77 = .ok (.iastore, 1) := by decide +kernel
theorem dX12_takePage_78 : decode cX12_takePage 78 = .ok (.iinc 3 1, 3) := by decide +kernel
theorem dX12_takePage_81 : decode cX12_takePage 81 = .ok (.goto (-23), 3) := by decide +kernel
theorem dX12_takePage_84 : decode cX12_takePage 84 = .ok (.return_, 1) := by decide +kernel
theorem dX12_note_0 : decode cX12_note 0 = .ok (.aload_n 0, 1) := by decide +kernel
theorem dX12_note_1 : decode cX12_note 1 = .ok (.getfield 177, 3) := by decide +kernel
theorem dX12_note_4 : decode cX12_note 4 = .ok (.bipush 16, 2) := by decide +kernel
theorem dX12_note_6 : decode cX12_note 6 = .ok (.if_icmp .ne 43, 3) := by decide +kernel
theorem dX12_note_9 : decode cX12_note 9 = .ok (.iconst 0, 1) := by decide +kernel
theorem dX12_note_10 : decode cX12_note 10 = .ok (.istore_n 1, 1) := by decide +kernel
theorem dX12_note_11 : decode cX12_note 11 = .ok (.iload_n 1, 1) := by decide +kernel
theorem dX12_note_12 : decode cX12_note 12 = .ok (.sipush 420, 3) := by decide +kernel
theorem dX12_note_15 : decode cX12_note 15 = .ok (.if_icmp .ge 24, 3) := by decide +kernel
theorem dX12_note_18 : decode cX12_note 18 = .ok (.aload_n 0, 1) := by decide +kernel
theorem dX12_note_19 : decode cX12_note 19 = .ok (.getfield 47, 3) := by decide +kernel
theorem dX12_note_22 : decode cX12_note 22 = .ok (.iload_n 1, 1) := by decide +kernel
theorem dX12_note_23 : decode cX12_note 23 = .ok (.aload_n 0, 1) := by decide +kernel
theorem dX12_note_24 : decode cX12_note 24 = .ok (.getfield 47, 3) := by decide +kernel
theorem dX12_note_27 : decode cX12_note 27 = .ok (.iload_n 1, 1) := by decide +kernel
theorem dX12_note_28 : decode cX12_note 28 = .ok (.bipush 28, 2) := by decide +kernel
theorem dX12_note_30 : decode cX12_note 30 = .ok (.iadd, 1) := by decide +kernel
theorem dX12_note_31 : decode cX12_note 31 = .ok (.iaload, 1) := by decide +kernel
theorem dX12_note_32 : decode cX12_note 32 = .ok (.iastore, 1) := by decide +kernel
theorem dX12_note_33 : decode cX12_note 33 = .ok (.iinc 1 1, 3) := by decide +kernel
theorem dX12_note_36 : decode cX12_note 36 = .ok (.goto (-25), 3) := by decide +kernel
theorem dX12_note_39 : decode cX12_note 39 = .ok (.aload_n 0, 1) := by decide +kernel
theorem dX12_note_40 : decode cX12_note 40 = .ok (.dup, 1) := by decide +kernel
theorem dX12_note_41 : decode cX12_note 41 = .ok (.getfield 177, 3) := by decide +kernel
theorem dX12_note_44 : decode cX12_note 44 = .ok (.iconst 1, 1) := by decide +kernel
theorem dX12_note_45 : decode cX12_note 45 = .ok (.isub, 1) := by decide +kernel
theorem dX12_note_46 : decode cX12_note 46 = .ok (.putfield 177, 3) := by decide +kernel
theorem dX12_note_49 : decode cX12_note 49 = .ok (.aload_n 0, 1) := by decide +kernel
theorem dX12_note_50 : decode cX12_note 50 = .ok (.aload_n 0, 1) := by decide +kernel
theorem dX12_note_51 : decode cX12_note 51 = .ok (.getfield 47, 3) := by decide +kernel
theorem dX12_note_54 : decode cX12_note 54 = .ok (.bipush 28, 2) := by decide +kernel
theorem dX12_note_56 : decode cX12_note 56 = .ok (.aload_n 0, 1) := by decide +kernel
theorem dX12_note_57 : decode cX12_note 57 = .ok (.getfield 177, 3) := by decide +kernel
theorem dX12_note_60 : decode cX12_note 60 = .ok (.imul, 1) := by decide +kernel
theorem dX12_note_61 : decode cX12_note 61 = .ok (.invokevirtual 200, 3) := by decide +kernel
theorem dX12_note_64 : decode cX12_note 64 = .ok (.aload_n 0, 1) := by decide +kernel
theorem dX12_note_65 : decode cX12_note 65 = .ok (.dup, 1) := by decide +kernel
theorem dX12_note_66 : decode cX12_note 66 = .ok (.getfield 177, 3) := by decide +kernel
theorem dX12_note_69 : decode cX12_note 69 = .ok (.iconst 1, 1) := by decide +kernel
