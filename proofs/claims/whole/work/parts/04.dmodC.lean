theorem dX12_byTurns_88 : decode cX12_byTurns 88 = .ok (.aload_n 0, 1) := by decide +kernel
theorem dX12_byTurns_89 : decode cX12_byTurns 89 = .ok (.getfield 165, 3) := by decide +kernel
theorem dX12_byTurns_92 : decode cX12_byTurns 92 = .ok (.iastore, 1) := by decide +kernel
theorem dX12_byTurns_93 : decode cX12_byTurns 93 = .ok (.aload_n 0, 1) := by decide +kernel
theorem dX12_byTurns_94 : decode cX12_byTurns 94 = .ok (.getfield 72, 3) := by decide +kernel
theorem dX12_byTurns_97 : decode cX12_byTurns 97 = .ok (.iconst 0, 1) := by decide +kernel
theorem dX12_byTurns_98 : decode cX12_byTurns 98 = .ok (.aload_n 0, 1) := by decide +kernel
theorem dX12_byTurns_99 : decode cX12_byTurns 99 = .ok (.getfield 168, 3) := by decide +kernel
theorem dX12_byTurns_102 : decode cX12_byTurns 102 = .ok (.iastore, 1) := by decide +kernel
theorem dX12_byTurns_103 : decode cX12_byTurns 103 = .ok (.aload_n 0, 1) := by decide +kernel
theorem dX12_byTurns_104 : decode cX12_byTurns 104 = .ok (.getfield 75, 3) := by decide +kernel
theorem dX12_byTurns_107 : decode cX12_byTurns 107 = .ok (.iconst 0, 1) := by decide +kernel
theorem dX12_byTurns_108 : decode cX12_byTurns 108 = .ok (.iconst 0, 1) := by decide +kernel
theorem dX12_byTurns_109 : decode cX12_byTurns 109 = .ok (.iastore, 1) := by decide +kernel
theorem dX12_byTurns_110 : decode cX12_byTurns 110 = .ok (.aload_n 0, 1) := by decide +kernel
theorem dX12_byTurns_111 : decode cX12_byTurns 111 = .ok (.getfield 78, 3) := by decide +kernel
theorem dX12_byTurns_114 : decode cX12_byTurns 114 = .ok (.iconst 0, 1) := by decide +kernel
theorem dX12_byTurns_115 : decode cX12_byTurns 115 = .ok (.iconst 0, 1) := by decide +kernel
theorem dX12_byTurns_116 : decode cX12_byTurns 116 = .ok (.iastore, 1) := by decide +kernel
theorem dX12_byTurns_117 : decode cX12_byTurns 117 = .ok (.aload_n 0, 1) := by decide +kernel
theorem dX12_byTurns_118 : decode cX12_byTurns 118 = .ok (.getfield 81, 3) := by decide +kernel
theorem dX12_byTurns_121 : decode cX12_byTurns 121 = .ok (.iconst 0, 1) := by decide +kernel
theorem dX12_byTurns_122 : decode cX12_byTurns 122 = .ok (.iconst 0, 1) := by decide +kernel
theorem dX12_byTurns_123 : decode cX12_byTurns 123 = .ok (.iastore, 1) := by decide +kernel
theorem dX12_byTurns_124 : decode cX12_byTurns 124 = .ok (.aload_n 0, 1) := by decide +kernel
theorem dX12_byTurns_125 : decode cX12_byTurns 125 = .ok (.getfield 84, 3) := by decide +kernel
theorem dX12_byTurns_128 : decode cX12_byTurns 128 = .ok (.iconst 0, 1) := by decide +kernel
theorem dX12_byTurns_129 : decode cX12_byTurns 129 = .ok (.iconst 0, 1) := by decide +kernel
theorem dX12_byTurns_130 : decode cX12_byTurns 130 = .ok (.iastore, 1) := by decide +kernel
theorem dX12_byTurns_131 : decode cX12_byTurns 131 = .ok (.aload_n 0, 1) := by decide +kernel
theorem dX12_byTurns_132 : decode cX12_byTurns 132 = .ok (.getfield 87, 3) := by decide +kernel
theorem dX12_byTurns_135 : decode cX12_byTurns 135 = .ok (.iconst 0, 1) := by decide +kernel
theorem dX12_byTurns_136 : decode cX12_byTurns 136 = .ok (.iconst 0, 1) := by decide +kernel
theorem dX12_byTurns_137 : decode cX12_byTurns 137 = .ok (.iastore, 1) := by decide +kernel
theorem dX12_byTurns_138 : decode cX12_byTurns 138 = .ok (.aload_n 0, 1) := by decide +kernel
theorem dX12_byTurns_139 : decode cX12_byTurns 139 = .ok (.getfield 90, 3) := by decide +kernel
theorem dX12_byTurns_142 : decode cX12_byTurns 142 = .ok (.iconst 0, 1) := by decide +kernel
theorem dX12_byTurns_143 : decode cX12_byTurns 143 = .ok (.bipush (-9), 2) := by decide +kernel
theorem dX12_byTurns_145 : decode cX12_byTurns 145 = .ok (.iastore, 1) := by decide +kernel
theorem dX12_byTurns_146 : decode cX12_byTurns 146 = .ok (.aload_n 0, 1) := by decide +kernel
theorem dX12_byTurns_147 : decode cX12_byTurns 147 = .ok (.getfield 93, 3) := by decide +kernel
theorem dX12_byTurns_150 : decode cX12_byTurns 150 = .ok (.iconst 0, 1) := by decide +kernel
theorem dX12_byTurns_151 : decode cX12_byTurns 151 = .ok (.bipush (-9), 2) := by decide +kernel
theorem dX12_byTurns_153 : decode cX12_byTurns 153 = .ok (.iastore, 1) := by decide +kernel
theorem dX12_byTurns_154 : decode cX12_byTurns 154 = .ok (.aload_n 0, 1) := by decide +kernel
theorem dX12_byTurns_155 : decode cX12_byTurns 155 = .ok (.iconst 0, 1) := by decide +kernel
theorem dX12_byTurns_156 : decode cX12_byTurns 156 = .ok (.invokevirtual 241, 3) := by decide +kernel
theorem dX12_byTurns_159 : decode cX12_byTurns 159 = .ok (.ifCond .ne 6, 3) := by decide +kernel
theorem dX12_byTurns_162 : decode cX12_byTurns 162 = .ok (.bipush (-9), 2) := by decide +kernel
theorem dX12_byTurns_164 : decode cX12_byTurns 164 = .ok (.ireturn, 1) := by decide +kernel
theorem dX12_byTurns_165 : decode cX12_byTurns 165 = .ok (.iconst 0, 1) := by decide +kernel
theorem dX12_byTurns_166 : decode cX12_byTurns 166 = .ok (.istore_n 3, 1) := by decide +kernel
theorem dX12_byTurns_167 : decode cX12_byTurns 167 = .ok (.iload_n 3, 1) := by decide +kernel
theorem dX12_byTurns_168 : decode cX12_byTurns 168 = .ok (.ifCond .lt 134, 3) := by decide +kernel
theorem dX12_byTurns_171 : decode cX12_byTurns 171 = .ok (.aload_n 0, 1) := by decide +kernel
theorem dX12_byTurns_172 : decode cX12_byTurns 172 = .ok (.getfield 81, 3) := by decide +kernel
theorem dX12_byTurns_175 : decode cX12_byTurns 175 = .ok (.iload_n 3, 1) := by decide +kernel
theorem dX12_byTurns_176 : decode cX12_byTurns 176 = .ok (.iaload, 1) := by decide +kernel
theorem dX12_byTurns_177 : decode cX12_byTurns 177 = .ok (.istore 4, 2) := by decide +kernel
theorem dX12_byTurns_179 : decode cX12_byTurns 179 = .ok (.aload_n 0, 1) := by decide +kernel
theorem dX12_byTurns_180 : decode cX12_byTurns 180 = .ok (.getfield 75, 3) := by decide +kernel
theorem dX12_byTurns_183 : decode cX12_byTurns 183 = .ok (.iload_n 3, 1) := by decide +kernel
theorem dX12_byTurns_184 : decode cX12_byTurns 184 = .ok (.iaload, 1) := by decide +kernel
theorem dX12_byTurns_185 : decode cX12_byTurns 185 = .ok (.iconst 3, 1) := by decide +kernel
theorem dX12_byTurns_186 : decode cX12_byTurns 186 = .ok (.if_icmp .eq 12, 3) := by decide +kernel
theorem dX12_byTurns_189 : decode cX12_byTurns 189 = .ok (.iload 4, 2) := by decide +kernel
theorem dX12_byTurns_191 : decode cX12_byTurns 191 = .ok (.aload_n 0, 1) := by decide +kernel
theorem dX12_byTurns_192 : decode cX12_byTurns 192 = .ok (.getfield 111, 3) := by decide +kernel
theorem dX12_byTurns_195 : decode cX12_byTurns 195 = .ok (.if_icmp .le 76, 3) := by decide +kernel
theorem dX12_byTurns_198 : decode cX12_byTurns 198 = .ok (.aload_n 0, 1) := by decide +kernel
theorem dX12_byTurns_199 : decode cX12_byTurns 199 = .ok (.getfield 75, 3) := by decide +kernel
theorem dX12_byTurns_202 : decode cX12_byTurns 202 = .ok (.iload_n 3, 1) := by decide +kernel
theorem dX12_byTurns_203 : decode cX12_byTurns 203 = .ok (.iaload, 1) := by decide +kernel
theorem dX12_byTurns_204 : decode cX12_byTurns 204 = .ok (.iconst 3, 1) := by decide +kernel
theorem dX12_byTurns_205 : decode cX12_byTurns 205 = .ok (.if_icmp .ne 12, 3) := by decide +kernel
theorem dX12_byTurns_208 : decode cX12_byTurns 208 = .ok (.aload_n 0, 1) := by decide +kernel
theorem dX12_byTurns_209 : decode cX12_byTurns 209 = .ok (.getfield 84, 3) := by decide +kernel
theorem dX12_byTurns_212 : decode cX12_byTurns 212 = .ok (.iload_n 3, 1) := by decide +kernel
theorem dX12_byTurns_213 : decode cX12_byTurns 213 = .ok (.iaload, 1) := by decide +kernel
theorem dX12_byTurns_214 : decode cX12_byTurns 214 = .ok (.goto 9, 3) := by decide +kernel
theorem dX12_byTurns_217 : decode cX12_byTurns 217 = .ok (.aload_n 0, 1) := by decide +kernel
theorem dX12_byTurns_218 : decode cX12_byTurns 218 = .ok (.getfield 90, 3) := by decide +kernel
theorem dX12_byTurns_221 : decode cX12_byTurns 221 = .ok (.iload_n 3, 1) := by decide +kernel
theorem dX12_byTurns_222 : decode cX12_byTurns 222 = .ok (.iaload, 1) := by decide +kernel
theorem dX12_byTurns_223 : decode cX12_byTurns 223 = .ok (.istore 5, 2) := by decide +kernel
theorem dX12_byTurns_225 : decode cX12_byTurns 225 = .ok (.aload_n 0, 1) := by decide +kernel
theorem dX12_byTurns_226 : decode cX12_byTurns 226 = .ok (.getfield 75, 3) := by decide +kernel
theorem dX12_byTurns_229 : decode cX12_byTurns 229 = .ok (.iload_n 3, 1) := by decide +kernel
theorem dX12_byTurns_230 : decode cX12_byTurns 230 = .ok (.iaload, 1) := by decide +kernel
theorem dX12_byTurns_231 : decode cX12_byTurns 231 = .ok (.iconst 3, 1) := by decide +kernel
theorem dX12_byTurns_232 : decode cX12_byTurns 232 = .ok (.if_icmp .ne 12, 3) := by decide +kernel
theorem dX12_byTurns_235 : decode cX12_byTurns 235 = .ok (.aload_n 0, 1) := by decide +kernel
theorem dX12_byTurns_236 : decode cX12_byTurns 236 = .ok (.getfield 87, 3) := by decide +kernel
theorem dX12_byTurns_239 : decode cX12_byTurns 239 = .ok (.iload_n 3, 1) := by decide +kernel
theorem dX12_byTurns_240 : decode cX12_byTurns 240 = .ok (.iaload, 1) := by decide +kernel
theorem dX12_byTurns_241 : decode cX12_byTurns 241 = .ok (.goto 9, 3) := by decide +kernel
theorem dX12_byTurns_244 : decode cX12_byTurns 244 = .ok (.aload_n 0, 1) := by decide +kernel
theorem dX12_byTurns_245 : decode cX12_byTurns 245 = .ok (.getfield 93, 3) := by decide +kernel
theorem dX12_byTurns_248 : decode cX12_byTurns 248 = .ok (.iload_n 3, 1) := by decide +kernel
theorem dX12_byTurns_249 : decode cX12_byTurns 249 = .ok (.iaload, 1) := by decide +kernel
theorem dX12_byTurns_250 : decode cX12_byTurns 250 = .ok (.istore 6, 2) := by decide +kernel
theorem dX12_byTurns_252 : decode cX12_byTurns 252 = .ok (.iinc 3 (-1), 3) := by decide +kernel
theorem dX12_byTurns_255 : decode cX12_byTurns 255 = .ok (.iload_n 3, 1) := by decide +kernel
theorem dX12_byTurns_256 : decode cX12_byTurns 256 = .ok (.ifCond .lt 12, 3) := by decide +kernel
theorem dX12_byTurns_259 : decode cX12_byTurns 259 = .ok (.aload_n 0, 1) := by decide +kernel
theorem dX12_byTurns_260 : decode cX12_byTurns 260 = .ok (.iload_n 3, 1) := by decide +kernel
theorem dX12_byTurns_261 : decode cX12_byTurns 261 = .ok (.iload 5, 2) := by decide +kernel
theorem dX12_byTurns_263 : decode cX12_byTurns 263 = .ok (.iload 6, 2) := by decide +kernel
theorem dX12_byTurns_265 : decode cX12_byTurns 265 = .ok (.invokevirtual 244, 3) := by decide +kernel
theorem dX12_byTurns_268 : decode cX12_byTurns 268 = .ok (.goto 31, 3) := by decide +kernel
theorem dX12_byTurns_271 : decode cX12_byTurns 271 = .ok (.aload_n 0, 1) := by decide +kernel
theorem dX12_byTurns_272 : decode cX12_byTurns 272 = .ok (.getfield 81, 3) := by decide +kernel
theorem dX12_byTurns_275 : decode cX12_byTurns 275 = .ok (.iload_n 3, 1) := by decide +kernel
theorem dX12_byTurns_276 : decode cX12_byTurns 276 = .ok (.dup2, 1) := by decide +kernel
theorem dX12_byTurns_277 : decode cX12_byTurns 277 = .ok (.iaload, 1) := by decide +kernel
theorem dX12_byTurns_278 : decode cX12_byTurns 278 = .ok (.iconst 1, 1) := by decide +kernel
theorem dX12_byTurns_279 : decode cX12_byTurns 279 = .ok (.iadd, 1) := by decide +kernel
theorem dX12_byTurns_280 : decode cX12_byTurns 280 = .ok (.iastore, 1) := by decide +kernel
theorem dX12_byTurns_281 : decode cX12_byTurns 281 = .ok (.iload_n 3, 1) := by decide +kernel
theorem dX12_byTurns_282 : decode cX12_byTurns 282 = .ok (.aload_n 0, 1) := by decide +kernel
theorem dX12_byTurns_283 : decode cX12_byTurns 283 = .ok (.iload_n 3, 1) := by decide +kernel
theorem dX12_byTurns_284 : decode cX12_byTurns 284 = .ok (.iload 4, 2) := by decide +kernel
theorem dX12_byTurns_286 : decode cX12_byTurns 286 = .ok (.invokevirtual 247, 3) := by decide +kernel
theorem dX12_byTurns_289 : decode cX12_byTurns 289 = .ok (.ifCond .eq 7, 3) := by decide +kernel
theorem dX12_byTurns_292 : decode cX12_byTurns 292 = .ok (.iconst 1, 1) := by decide +kernel
theorem dX12_byTurns_293 : decode cX12_byTurns 293 = .ok (.goto 4, 3) := by decide +kernel
theorem dX12_byTurns_296 : decode cX12_byTurns 296 = .ok (.iconst 0, 1) := by decide +kernel
theorem dX12_byTurns_297 : decode cX12_byTurns 297 = .ok (.iadd, 1) := by decide +kernel
theorem dX12_byTurns_298 : decode cX12_byTurns 298 = .ok (.istore_n 3, 1) := by decide +kernel
theorem dX12_byTurns_299 : decode cX12_byTurns 299 = .ok (.goto (-132), 3) := by decide +kernel
theorem dX12_byTurns_302 : decode cX12_byTurns 302 = .ok (.iload_n 1, 1) := by decide +kernel
theorem dX12_byTurns_303 : decode cX12_byTurns 303 = .ok (.ifCond .ne 12, 3) := by decide +kernel
theorem dX12_byTurns_306 : decode cX12_byTurns 306 = .ok (.aload_n 0, 1) := by decide +kernel
theorem dX12_byTurns_307 : decode cX12_byTurns 307 = .ok (.getfield 90, 3) := by decide +kernel
theorem dX12_byTurns_310 : decode cX12_byTurns 310 = .ok (.iconst 0, 1) := by decide +kernel
theorem dX12_byTurns_311 : decode cX12_byTurns 311 = .ok (.iaload, 1) := by decide +kernel
theorem dX12_byTurns_312 : decode cX12_byTurns 312 = .ok (.goto 9, 3) := by decide +kernel
theorem dX12_byTurns_315 : decode cX12_byTurns 315 = .ok (.aload_n 0, 1) := by decide +kernel
theorem dX12_byTurns_316 : decode cX12_byTurns 316 = .ok (.getfield 93, 3) := by decide +kernel
theorem dX12_byTurns_319 : decode cX12_byTurns 319 = .ok (.iconst 0, 1) := by decide +kernel
theorem dX12_byTurns_320 : decode cX12_byTurns 320 = .ok (.iaload, 1) := by decide +kernel
theorem dX12_byTurns_321 : decode cX12_byTurns 321 = .ok (.ireturn, 1) := by decide +kernel
theorem dX12_layWays_0 : decode cX12_layWays 0 = .ok (.iconst 0, 1) := by decide +kernel
theorem dX12_layWays_1 : decode cX12_layWays 1 = .ok (.istore 4, 2) := by decide +kernel
theorem dX12_layWays_3 : decode cX12_layWays 3 = .ok (.iload 4, 2) := by decide +kernel
theorem dX12_layWays_5 : decode cX12_layWays 5 = .ok (.sipush 6000, 3) := by decide +kernel
theorem dX12_layWays_8 : decode cX12_layWays 8 = .ok (.if_icmp .ge 31, 3) := by decide +kernel
theorem dX12_layWays_11 : decode cX12_layWays 11 = .ok (.aload_n 0, 1) := by decide +kernel
theorem dX12_layWays_12 : decode cX12_layWays 12 = .ok (.getfield 96, 3) := by decide +kernel
theorem dX12_layWays_15 : decode cX12_layWays 15 = .ok (.iload 4, 2) := by decide +kernel
theorem dX12_layWays_17 : decode cX12_layWays 17 = .ok (.iload 4, 2) := by decide +kernel
theorem dX12_layWays_19 : decode cX12_layWays 19 = .ok (.sipush 1000, 3) := by decide +kernel
theorem dX12_layWays_22 : decode cX12_layWays 22 = .ok (.iload_n 1, 1) := by decide +kernel
theorem dX12_layWays_23 : decode cX12_layWays 23 = .ok (.imul, 1) := by decide +kernel
theorem dX12_layWays_24 : decode cX12_layWays 24 = .ok (.if_icmp .ne 7, 3) := by decide +kernel
theorem dX12_layWays_27 : decode cX12_layWays 27 = .ok (.lconst 1, 1) := by decide +kernel
theorem dX12_layWays_28 : decode cX12_layWays 28 = .ok (.goto 4, 3) := by decide +kernel
theorem dX12_layWays_31 : decode cX12_layWays 31 = .ok (.lconst 0, 1) := by decide +kernel
theorem dX12_layWays_32 : decode cX12_layWays 32 = .ok (.lastore, 1) := by decide +kernel
theorem dX12_layWays_33 : decode cX12_layWays 33 = .ok (.iinc 4 1, 3) := by decide +kernel
theorem dX12_layWays_36 : decode cX12_layWays 36 = .ok (.goto (-33), 3) := by decide +kernel
theorem dX12_layWays_39 : decode cX12_layWays 39 = .ok (.iconst 0, 1) := by decide +kernel
theorem dX12_layWays_40 : decode cX12_layWays 40 = .ok (.istore 4, 2) := by decide +kernel
theorem dX12_layWays_42 : decode cX12_layWays 42 = .ok (.iload 4, 2) := by decide +kernel
theorem dX12_layWays_44 : decode cX12_layWays 44 = .ok (.iload_n 2, 1) := by decide +kernel
theorem dX12_layWays_45 : decode cX12_layWays 45 = .ok (.if_icmp .ge 179, 3) := by decide +kernel
theorem dX12_layWays_48 : decode cX12_layWays 48 = .ok (.iconst 0, 1) := by decide +kernel
theorem dX12_layWays_49 : decode cX12_layWays 49 = .ok (.istore 5, 2) := by decide +kernel
theorem dX12_layWays_51 : decode cX12_layWays 51 = .ok (.iload 5, 2) := by decide +kernel
theorem dX12_layWays_53 : decode cX12_layWays 53 = .ok (.sipush 6000, 3) := by decide +kernel
theorem dX12_layWays_56 : decode cX12_layWays 56 = .ok (.if_icmp .ge 17, 3) := by decide +kernel
theorem dX12_layWays_59 : decode cX12_layWays 59 = .ok (.aload_n 0, 1) := by decide +kernel
theorem dX12_layWays_60 : decode cX12_layWays 60 = .ok (.getfield 100, 3) := by decide +kernel
theorem dX12_layWays_63 : decode cX12_layWays 63 = .ok (.iload 5, 2) := by decide +kernel
theorem dX12_layWays_65 : decode cX12_layWays 65 = .ok (.lconst 0, 1) := by decide +kernel
theorem dX12_layWays_66 : decode cX12_layWays 66 = .ok (.lastore, 1) := by decide +kernel
theorem dX12_layWays_67 : decode cX12_layWays 67 = .ok (.iinc 5 1, 3) := by decide +kernel
theorem dX12_layWays_70 : decode cX12_layWays 70 = .ok (.goto (-19), 3) := by decide +kernel
theorem dX12_layWays_73 : decode cX12_layWays 73 = .ok (.iconst 0, 1) := by decide +kernel
theorem dX12_layWays_74 : decode cX12_layWays 74 = .ok (.istore 5, 2) := by decide +kernel
theorem dX12_layWays_76 : decode cX12_layWays 76 = .ok (.iload 5, 2) := by decide +kernel
theorem dX12_layWays_78 : decode cX12_layWays 78 = .ok (.sipush 6000, 3) := by decide +kernel
theorem dX12_layWays_81 : decode cX12_layWays 81 = .ok (.if_icmp .ge 106, 3) := by decide +kernel
theorem dX12_layWays_84 : decode cX12_layWays 84 = .ok (.iconst 0, 1) := by decide +kernel
theorem dX12_layWays_85 : decode cX12_layWays 85 = .ok (.istore 6, 2) := by decide +kernel
theorem dX12_layWays_87 : decode cX12_layWays 87 = .ok (.iload 6, 2) := by decide +kernel
theorem dX12_layWays_89 : decode cX12_layWays 89 = .ok (.aload_n 0, 1) := by decide +kernel
theorem dX12_layWays_90 : decode cX12_layWays 90 = .ok (.getfield 13, 3) := by decide +kernel
theorem dX12_layWays_93 : decode cX12_layWays 93 = .ok (.if_icmp .ge 88, 3) := by decide +kernel
theorem dX12_layWays_96 : decode cX12_layWays 96 = .ok (.aload_n 0, 1) := by decide +kernel
theorem dX12_layWays_97 : decode cX12_layWays 97 = .ok (.getfield 96, 3) := by decide +kernel
theorem dX12_layWays_100 : decode cX12_layWays 100 = .ok (.iload 5, 2) := by decide +kernel
theorem dX12_layWays_102 : decode cX12_layWays 102 = .ok (.laload, 1) := by decide +kernel
theorem dX12_layWays_103 : decode cX12_layWays 103 = .ok (.lconst 0, 1) := by decide +kernel
theorem dX12_layWays_104 : decode cX12_layWays 104 = .ok (.lcmp, 1) := by decide +kernel
theorem dX12_layWays_105 : decode cX12_layWays 105 = .ok (.ifCond .le 76, 3) := by decide +kernel
theorem dX12_layWays_108 : decode cX12_layWays 108 = .ok (.iload 5, 2) := by decide +kernel
theorem dX12_layWays_110 : decode cX12_layWays 110 = .ok (.sipush 1000, 3) := by decide +kernel
theorem dX12_layWays_113 : decode cX12_layWays 113 = .ok (.irem, 1) := by decide +kernel
theorem dX12_layWays_114 : decode cX12_layWays 114 = .ok (.aload_n 0, 1) := by decide +kernel
theorem dX12_layWays_115 : decode cX12_layWays 115 = .ok (.getfield 17, 3) := by decide +kernel
theorem dX12_layWays_118 : decode cX12_layWays 118 = .ok (.bipush 6, 2) := by decide +kernel
theorem dX12_layWays_120 : decode cX12_layWays 120 = .ok (.iload 5, 2) := by decide +kernel
theorem dX12_layWays_122 : decode cX12_layWays 122 = .ok (.sipush 1000, 3) := by decide +kernel
theorem dX12_layWays_125 : decode cX12_layWays 125 = .ok (.idiv, 1) := by decide +kernel
theorem dX12_layWays_126 : decode cX12_layWays 126 = .ok (.imul, 1) := by decide +kernel
theorem dX12_layWays_127 : decode cX12_layWays 127 = .ok (.iload 6, 2) := by decide +kernel
theorem dX12_layWays_129 : decode cX12_layWays 129 = .ok (.iadd, 1) := by decide +kernel
theorem dX12_layWays_130 : decode cX12_layWays 130 = .ok (.iaload, 1) := by decide +kernel
theorem dX12_layWays_131 : decode cX12_layWays 131 = .ok (.iadd, 1) := by decide +kernel
theorem dX12_layWays_132 : decode cX12_layWays 132 = .ok (.istore 7, 2) := by decide +kernel
theorem dX12_layWays_134 : decode cX12_layWays 134 = .ok (.iload 6, 2) := by decide +kernel
theorem dX12_layWays_136 : decode cX12_layWays 136 = .ok (.iload 5, 2) := by decide +kernel
theorem dX12_layWays_138 : decode cX12_layWays 138 = .ok (.sipush 1000, 3) := by decide +kernel
theorem dX12_layWays_141 : decode cX12_layWays 141 = .ok (.idiv, 1) := by decide +kernel
theorem dX12_layWays_142 : decode cX12_layWays 142 = .ok (.if_icmp .eq 33, 3) := by decide +kernel
theorem dX12_layWays_145 : decode cX12_layWays 145 = .ok (.iload 7, 2) := by decide +kernel
theorem dX12_layWays_147 : decode cX12_layWays 147 = .ok (.iload_n 3, 1) := by decide +kernel
theorem dX12_layWays_148 : decode cX12_layWays 148 = .ok (.if_icmp .gt 27, 3) := by decide +kernel
theorem dX12_layWays_151 : decode cX12_layWays 151 = .ok (.aload_n 0, 1) := by decide +kernel
theorem dX12_layWays_152 : decode cX12_layWays 152 = .ok (.getfield 100, 3) := by decide +kernel
theorem dX12_layWays_155 : decode cX12_layWays 155 = .ok (.sipush 1000, 3) := by decide +kernel
theorem dX12_layWays_158 : decode cX12_layWays 158 = .ok (.iload 6, 2) := by decide +kernel
theorem dX12_layWays_160 : decode cX12_layWays 160 = .ok (.imul, 1) := by decide +kernel
theorem dX12_layWays_161 : decode cX12_layWays 161 = .ok (.iload 7, 2) := by decide +kernel
theorem dX12_layWays_163 : decode cX12_layWays 163 = .ok (.iadd, 1) := by decide +kernel
theorem dX12_layWays_164 : decode cX12_layWays 164 = .ok (.dup2, 1) := by decide +kernel
theorem dX12_layWays_165 : decode cX12_layWays 165 = .ok (.laload, 1) := by decide +kernel
theorem dX12_layWays_166 : decode cX12_layWays 166 = .ok (.aload_n 0, 1) := by decide +kernel
theorem dX12_layWays_167 : decode cX12_layWays 167 = .ok (.getfield 96, 3) := by decide +kernel
theorem dX12_layWays_170 : decode cX12_layWays 170 = .ok (.iload 5, 2) := by decide +kernel
theorem dX12_layWays_172 : decode cX12_layWays 172 = .ok (.laload, 1) := by decide +kernel
theorem dX12_layWays_173 : decode cX12_layWays 173 = .ok (.ladd, 1) := by decide +kernel
theorem dX12_layWays_174 : decode cX12_layWays 174 = .ok (.lastore, 1) := by decide +kernel
theorem dX12_layWays_175 : decode cX12_layWays 175 = .ok (.iinc 6 1, 3) := by decide +kernel
theorem dX12_layWays_178 : decode cX12_layWays 178 = .ok (.goto (-91), 3) := by decide +kernel
theorem dX12_layWays_181 : decode cX12_layWays 181 = .ok (.iinc 5 1, 3) := by decide +kernel
theorem dX12_layWays_184 : decode cX12_layWays 184 = .ok (.goto (-108), 3) := by decide +kernel
theorem dX12_layWays_187 : decode cX12_layWays 187 = .ok (.iconst 0, 1) := by decide +kernel
theorem dX12_layWays_188 : decode cX12_layWays 188 = .ok (.istore 5, 2) := by decide +kernel
theorem dX12_layWays_190 : decode cX12_layWays 190 = .ok (.iload 5, 2) := by decide +kernel
theorem dX12_layWays_192 : decode cX12_layWays 192 = .ok (.sipush 6000, 3) := by decide +kernel
theorem dX12_layWays_195 : decode cX12_layWays 195 = .ok (.if_icmp .ge 23, 3) := by decide +kernel
theorem dX12_layWays_198 : decode cX12_layWays 198 = .ok (.aload_n 0, 1) := by decide +kernel
theorem dX12_layWays_199 : decode cX12_layWays 199 = .ok (.getfield 96, 3) := by decide +kernel
theorem dX12_layWays_202 : decode cX12_layWays 202 = .ok (.iload 5, 2) := by decide +kernel
theorem dX12_layWays_204 : decode cX12_layWays 204 = .ok (.aload_n 0, 1) := by decide +kernel
theorem dX12_layWays_205 : decode cX12_layWays 205 = .ok (.getfield 100, 3) := by decide +kernel
theorem dX12_layWays_208 : decode cX12_layWays 208 = .ok (.iload 5, 2) := by decide +kernel
theorem dX12_layWays_210 : decode cX12_layWays 210 = .ok (.laload, 1) := by decide +kernel
theorem dX12_layWays_211 : decode cX12_layWays 211 = .ok (.lastore, 1) := by decide +kernel
theorem dX12_layWays_212 : decode cX12_layWays 212 = .ok (.iinc 5 1, 3) := by decide +kernel
theorem dX12_layWays_215 : decode cX12_layWays 215 = .ok (.goto (-25), 3) := by decide +kernel
theorem dX12_layWays_218 : decode cX12_layWays 218 = .ok (.iinc 4 1, 3) := by decide +kernel
theorem dX12_layWays_221 : decode cX12_layWays 221 = .ok (.goto (-179), 3) := by decide +kernel
theorem dX12_layWays_224 : decode cX12_layWays 224 = .ok (.return_, 1) := by decide +kernel
theorem dX12_ledger_0 : decode cX12_ledger 0 = .ok (.aload_n 0, 1) := by decide +kernel
theorem dX12_ledger_1 : decode cX12_ledger 1 = .ok (.iconst 0, 1) := by decide +kernel
theorem dX12_ledger_2 : decode cX12_ledger 2 = .ok (.putfield 104, 3) := by decide +kernel
theorem dX12_ledger_5 : decode cX12_ledger 5 = .ok (.aload_n 0, 1) := by decide +kernel
theorem dX12_ledger_6 : decode cX12_ledger 6 = .ok (.iload_n 1, 1) := by decide +kernel
theorem dX12_ledger_7 : decode cX12_ledger 7 = .ok (.invokevirtual 194, 3) := by decide +kernel
theorem dX12_ledger_10 : decode cX12_ledger 10 = .ok (.ifCond .eq 7, 3) := by decide +kernel
theorem dX12_ledger_13 : decode cX12_ledger 13 = .ok (.ldc2_w 250, 3) := by decide +kernel
theorem dX12_ledger_16 : decode cX12_ledger 16 = .ok (.lreturn, 1) := by decide +kernel
theorem dX12_ledger_17 : decode cX12_ledger 17 = .ok (.iload_n 2, 1) := by decide +kernel
theorem dX12_ledger_18 : decode cX12_ledger 18 = .ok (.i2l, 1) := by decide +kernel
theorem dX12_ledger_19 : decode cX12_ledger 19 = .ok (.lconst 0, 1) := by decide +kernel
theorem dX12_ledger_20 : decode cX12_ledger 20 = .ok (.ldc2_w 114, 3) := by decide +kernel
theorem dX12_ledger_23 : decode cX12_ledger 23 = .ok (.invokestatic 107, 3) := by decide +kernel
theorem dX12_ledger_26 : decode cX12_ledger 26 = .ok (.ifCond .eq 15, 3) := by decide +kernel
theorem dX12_ledger_29 : decode cX12_ledger 29 = .ok (.iload_n 3, 1) := by decide +kernel
theorem dX12_ledger_30 : decode cX12_ledger 30 = .ok (.i2l, 1) := by decide +kernel
theorem dX12_ledger_31 : decode cX12_ledger 31 = .ok (.lconst 0, 1) := by decide +kernel
theorem dX12_ledger_32 : decode cX12_ledger 32 = .ok (.ldc2_w 252, 3) := by decide +kernel
theorem dX12_ledger_35 : decode cX12_ledger 35 = .ok (.invokestatic 107, 3) := by decide +kernel
theorem dX12_ledger_38 : decode cX12_ledger 38 = .ok (.ifCond .ne 7, 3) := by decide +kernel
theorem dX12_ledger_41 : decode cX12_ledger 41 = .ok (.ldc2_w 254, 3) := by decide +kernel
theorem dX12_ledger_44 : decode cX12_ledger 44 = .ok (.lreturn, 1) := by decide +kernel
theorem dX12_ledger_45 : decode cX12_ledger 45 = .ok (.aload_n 0, 1) := by decide +kernel
theorem dX12_ledger_46 : decode cX12_ledger 46 = .ok (.iload_n 1, 1) := by decide +kernel
theorem dX12_ledger_47 : decode cX12_ledger 47 = .ok (.iload_n 2, 1) := by decide +kernel
theorem dX12_ledger_48 : decode cX12_ledger 48 = .ok (.iload_n 3, 1) := by decide +kernel
theorem dX12_ledger_49 : decode cX12_ledger 49 = .ok (.invokevirtual 256, 3) := by decide +kernel
theorem dX12_ledger_52 : decode cX12_ledger 52 = .ok (.lconst 0, 1) := by decide +kernel
theorem dX12_ledger_53 : decode cX12_ledger 53 = .ok (.lstore 4, 2) := by decide +kernel
theorem dX12_ledger_55 : decode cX12_ledger 55 = .ok (.iconst 0, 1) := by decide +kernel
theorem dX12_ledger_56 : decode cX12_ledger 56 = .ok (.istore 6, 2) := by decide +kernel
theorem dX12_ledger_58 : decode cX12_ledger 58 = .ok (.iload 6, 2) := by decide +kernel
theorem dX12_ledger_60 : decode cX12_ledger 60 = .ok (.aload_n 0, 1) := by decide +kernel
theorem dX12_ledger_61 : decode cX12_ledger 61 = .ok (.getfield 13, 3) := by decide +kernel
theorem dX12_ledger_64 : decode cX12_ledger 64 = .ok (.if_icmp .ge 27, 3) := by decide +kernel
theorem dX12_ledger_67 : decode cX12_ledger 67 = .ok (.lload 4, 2) := by decide +kernel
theorem dX12_ledger_69 : decode cX12_ledger 69 = .ok (.aload_n 0, 1) := by decide +kernel
theorem dX12_ledger_70 : decode cX12_ledger 70 = .ok (.getfield 96, 3) := by decide +kernel
theorem dX12_ledger_73 : decode cX12_ledger 73 = .ok (.sipush 1000, 3) := by decide +kernel
theorem dX12_ledger_76 : decode cX12_ledger 76 = .ok (.iload 6, 2) := by decide +kernel
theorem dX12_ledger_78 : decode cX12_ledger 78 = .ok (.imul, 1) := by decide +kernel
theorem dX12_ledger_79 : decode cX12_ledger 79 = .ok (.iload_n 3, 1) := by decide +kernel
theorem dX12_ledger_80 : decode cX12_ledger 80 = .ok (.iadd, 1) := by decide +kernel
theorem dX12_ledger_81 : decode cX12_ledger 81 = .ok (.laload, 1) := by decide +kernel
theorem dX12_ledger_82 : decode cX12_ledger 82 = .ok (.ladd, 1) := by decide +kernel
theorem dX12_ledger_83 : decode cX12_ledger 83 = .ok (.lstore 4, 2) := by decide +kernel
theorem dX12_ledger_85 : decode cX12_ledger 85 = .ok (.iinc 6 1, 3) := by decide +kernel
theorem dX12_ledger_88 : decode cX12_ledger 88 = .ok (.goto (-30), 3) := by decide +kernel
theorem dX12_ledger_91 : decode cX12_ledger 91 = .ok (.lload 4, 2) := by decide +kernel
theorem dX12_ledger_93 : decode cX12_ledger 93 = .ok (.lreturn, 1) := by decide +kernel
theorem dX12_ends_0 : decode cX12_ends 0 = .ok (.aload_n 0, 1) := by decide +kernel
theorem dX12_ends_1 : decode cX12_ends 1 = .ok (.iconst 0, 1) := by decide +kernel
theorem dX12_ends_2 : decode cX12_ends 2 = .ok (.putfield 104, 3) := by decide +kernel
theorem dX12_ends_5 : decode cX12_ends 5 = .ok (.aload_n 0, 1) := by decide +kernel
theorem dX12_ends_6 : decode cX12_ends 6 = .ok (.iload_n 1, 1) := by decide +kernel
theorem dX12_ends_7 : decode cX12_ends 7 = .ok (.invokevirtual 194, 3) := by decide +kernel
theorem dX12_ends_10 : decode cX12_ends 10 = .ok (.ifCond .eq 5, 3) := by decide +kernel
theorem dX12_ends_13 : decode cX12_ends 13 = .ok (.iconst (-1), 1) := by decide +kernel
theorem dX12_ends_14 : decode cX12_ends 14 = .ok (.ireturn, 1) := by decide +kernel
theorem dX12_ends_15 : decode cX12_ends 15 = .ok (.iload_n 2, 1) := by decide +kernel
theorem dX12_ends_16 : decode cX12_ends 16 = .ok (.i2l, 1) := by decide +kernel
theorem dX12_ends_17 : decode cX12_ends 17 = .ok (.lconst 0, 1) := by decide +kernel
theorem dX12_ends_18 : decode cX12_ends 18 = .ok (.ldc2_w 114, 3) := by decide +kernel
theorem dX12_ends_21 : decode cX12_ends 21 = .ok (.invokestatic 107, 3) := by decide +kernel
theorem dX12_ends_24 : decode cX12_ends 24 = .ok (.ifCond .eq 15, 3) := by decide +kernel
theorem dX12_ends_27 : decode cX12_ends 27 = .ok (.iload_n 3, 1) := by decide +kernel
theorem dX12_ends_28 : decode cX12_ends 28 = .ok (.i2l, 1) := by decide +kernel
theorem dX12_ends_29 : decode cX12_ends 29 = .ok (.lconst 0, 1) := by decide +kernel
theorem dX12_ends_30 : decode cX12_ends 30 = .ok (.ldc2_w 252, 3) := by decide +kernel
theorem dX12_ends_33 : decode cX12_ends 33 = .ok (.invokestatic 107, 3) := by decide +kernel
theorem dX12_ends_36 : decode cX12_ends 36 = .ok (.ifCond .ne 6, 3) := by decide +kernel
theorem dX12_ends_39 : decode cX12_ends 39 = .ok (.bipush (-2), 2) := by decide +kernel
theorem dX12_ends_41 : decode cX12_ends 41 = .ok (.ireturn, 1) := by decide +kernel
theorem dX12_ends_42 : decode cX12_ends 42 = .ok (.aload_n 0, 1) := by decide +kernel
theorem dX12_ends_43 : decode cX12_ends 43 = .ok (.iload_n 1, 1) := by decide +kernel
theorem dX12_ends_44 : decode cX12_ends 44 = .ok (.iload_n 2, 1) := by decide +kernel
theorem dX12_ends_45 : decode cX12_ends 45 = .ok (.iload_n 3, 1) := by decide +kernel
theorem dX12_ends_46 : decode cX12_ends 46 = .ok (.invokevirtual 256, 3) := by decide +kernel
theorem dX12_ends_49 : decode cX12_ends 49 = .ok (.iconst 0, 1) := by decide +kernel
theorem dX12_ends_50 : decode cX12_ends 50 = .ok (.istore 4, 2) := by decide +kernel
theorem dX12_ends_52 : decode cX12_ends 52 = .ok (.iconst 0, 1) := by decide +kernel
theorem dX12_ends_53 : decode cX12_ends 53 = .ok (.istore 5, 2) := by decide +kernel
theorem dX12_ends_55 : decode cX12_ends 55 = .ok (.iload 5, 2) := by decide +kernel
theorem dX12_ends_57 : decode cX12_ends 57 = .ok (.aload_n 0, 1) := by decide +kernel
theorem dX12_ends_58 : decode cX12_ends 58 = .ok (.getfield 13, 3) := by decide +kernel
theorem dX12_ends_61 : decode cX12_ends 61 = .ok (.if_icmp .ge 40, 3) := by decide +kernel
theorem dX12_ends_64 : decode cX12_ends 64 = .ok (.iload 4, 2) := by decide +kernel
theorem dX12_ends_66 : decode cX12_ends 66 = .ok (.aload_n 0, 1) := by decide +kernel
theorem dX12_ends_67 : decode cX12_ends 67 = .ok (.getfield 96, 3) := by decide +kernel
theorem dX12_ends_70 : decode cX12_ends 70 = .ok (.sipush 1000, 3) := by decide +kernel
theorem dX12_ends_73 : decode cX12_ends 73 = .ok (.iload 5, 2) := by decide +kernel
theorem dX12_ends_75 : decode cX12_ends 75 = .ok (.imul, 1) := by decide +kernel
theorem dX12_ends_76 : decode cX12_ends 76 = .ok (.iload_n 3, 1) := by decide +kernel
theorem dX12_ends_77 : decode cX12_ends 77 = .ok (.iadd, 1) := by decide +kernel
theorem dX12_ends_78 : decode cX12_ends 78 = .ok (.laload, 1) := by decide +kernel
theorem dX12_ends_79 : decode cX12_ends 79 = .ok (.lconst 0, 1) := by decide +kernel
theorem dX12_ends_80 : decode cX12_ends 80 = .ok (.lcmp, 1) := by decide +kernel
theorem dX12_ends_81 : decode cX12_ends 81 = .ok (.ifCond .le 10, 3) := by decide +kernel
theorem dX12_ends_84 : decode cX12_ends 84 = .ok (.iconst 1, 1) := by decide +kernel
theorem dX12_ends_85 : decode cX12_ends 85 = .ok (.iload 5, 2) := by decide +kernel
theorem dX12_ends_87 : decode cX12_ends 87 = .ok (.ishl, 1) := by decide +kernel
theorem dX12_ends_88 : decode cX12_ends 88 = .ok (.goto 4, 3) := by decide +kernel
theorem dX12_ends_91 : decode cX12_ends 91 = .ok (.iconst 0, 1) := by decide +kernel
theorem dX12_ends_92 : decode cX12_ends 92 = .ok (.ior, 1) := by decide +kernel
theorem dX12_ends_93 : decode cX12_ends 93 = .ok (.istore 4, 2) := by decide +kernel
theorem dX12_ends_95 : decode cX12_ends 95 = .ok (.iinc 5 1, 3) := by decide +kernel
theorem dX12_ends_98 : decode cX12_ends 98 = .ok (.goto (-43), 3) := by decide +kernel
theorem dX12_ends_101 : decode cX12_ends 101 = .ok (.iload 4, 2) := by decide +kernel
theorem dX12_ends_103 : decode cX12_ends 103 = .ok (.ireturn, 1) := by decide +kernel
theorem dX12_layAll_0 : decode cX12_layAll 0 = .ok (.iconst 0, 1) := by decide +kernel
theorem dX12_layAll_1 : decode cX12_layAll 1 = .ok (.istore_n 1, 1) := by decide +kernel
theorem dX12_layAll_2 : decode cX12_layAll 2 = .ok (.iload_n 1, 1) := by decide +kernel
theorem dX12_layAll_3 : decode cX12_layAll 3 = .ok (.aload_n 0, 1) := by decide +kernel
theorem dX12_layAll_4 : decode cX12_layAll 4 = .ok (.getfield 111, 3) := by decide +kernel
theorem dX12_layAll_7 : decode cX12_layAll 7 = .ok (.if_icmp .ge 28, 3) := by decide +kernel
theorem dX12_layAll_10 : decode cX12_layAll 10 = .ok (.aload_n 0, 1) := by decide +kernel
theorem dX12_layAll_11 : decode cX12_layAll 11 = .ok (.getfield 38, 3) := by decide +kernel
theorem dX12_layAll_14 : decode cX12_layAll 14 = .ok (.iload_n 1, 1) := by decide +kernel
theorem dX12_layAll_15 : decode cX12_layAll 15 = .ok (.aload_n 0, 1) := by decide +kernel
theorem dX12_layAll_16 : decode cX12_layAll 16 = .ok (.getfield 26, 3) := by decide +kernel
theorem dX12_layAll_19 : decode cX12_layAll 19 = .ok (.iload_n 1, 1) := by decide +kernel
theorem dX12_layAll_20 : decode cX12_layAll 20 = .ok (.iaload, 1) := by decide +kernel
theorem dX12_layAll_21 : decode cX12_layAll 21 = .ok (.iastore, 1) := by decide +kernel
theorem dX12_layAll_22 : decode cX12_layAll 22 = .ok (.aload_n 0, 1) := by decide +kernel
theorem dX12_layAll_23 : decode cX12_layAll 23 = .ok (.getfield 26, 3) := by decide +kernel
theorem dX12_layAll_26 : decode cX12_layAll 26 = .ok (.iload_n 1, 1) := by decide +kernel
theorem dX12_layAll_27 : decode cX12_layAll 27 = .ok (.iconst 2, 1) := by decide +kernel
theorem dX12_layAll_28 : decode cX12_layAll 28 = .ok (.iastore, 1) := by decide +kernel
theorem dX12_layAll_29 : decode cX12_layAll 29 = .ok (.iinc 1 1, 3) := by decide +kernel
theorem dX12_layAll_32 : decode cX12_layAll 32 = .ok (.goto (-30), 3) := by decide +kernel
theorem dX12_layAll_35 : decode cX12_layAll 35 = .ok (.aload_n 0, 1) := by decide +kernel
theorem dX12_layAll_36 : decode cX12_layAll 36 = .ok (.iconst 0, 1) := by decide +kernel
theorem dX12_layAll_37 : decode cX12_layAll 37 = .ok (.iconst 0, 1) := by decide +kernel
theorem dX12_layAll_38 : decode cX12_layAll 38 = .ok (.iconst 0, 1) := by decide +kernel
theorem dX12_layAll_39 : decode cX12_layAll 39 = .ok (.invokevirtual 219, 3) := by decide +kernel
theorem dX12_layAll_42 : decode cX12_layAll 42 = .ok (.iconst 0, 1) := by decide +kernel
theorem dX12_layAll_43 : decode cX12_layAll 43 = .ok (.istore_n 1, 1) := by decide +kernel
theorem dX12_layAll_44 : decode cX12_layAll 44 = .ok (.iload_n 1, 1) := by decide +kernel
theorem dX12_layAll_45 : decode cX12_layAll 45 = .ok (.aload_n 0, 1) := by decide +kernel
theorem dX12_layAll_46 : decode cX12_layAll 46 = .ok (.getfield 111, 3) := by decide +kernel
theorem dX12_layAll_49 : decode cX12_layAll 49 = .ok (.if_icmp .ge 21, 3) := by decide +kernel
theorem dX12_layAll_52 : decode cX12_layAll 52 = .ok (.aload_n 0, 1) := by decide +kernel
theorem dX12_layAll_53 : decode cX12_layAll 53 = .ok (.getfield 26, 3) := by decide +kernel
theorem dX12_layAll_56 : decode cX12_layAll 56 = .ok (.iload_n 1, 1) := by decide +kernel
theorem dX12_layAll_57 : decode cX12_layAll 57 = .ok (.aload_n 0, 1) := by decide +kernel
theorem dX12_layAll_58 : decode cX12_layAll 58 = .ok (.getfield 38, 3) := by decide +kernel
theorem dX12_layAll_61 : decode cX12_layAll 61 = .ok (.iload_n 1, 1) := by decide +kernel
theorem dX12_layAll_62 : decode cX12_layAll 62 = .ok (.iaload, 1) := by decide +kernel
theorem dX12_layAll_63 : decode cX12_layAll 63 = .ok (.iastore, 1) := by decide +kernel
theorem dX12_layAll_64 : decode cX12_layAll 64 = .ok (.iinc 1 1, 3) := by decide +kernel
theorem dX12_layAll_67 : decode cX12_layAll 67 = .ok (.goto (-23), 3) := by decide +kernel
theorem dX12_layAll_70 : decode cX12_layAll 70 = .ok (.return_, 1) := by decide +kernel
theorem dX12_within_0 : decode cX12_within 0 = .ok (.lconst 0, 1) := by decide +kernel
theorem dX12_within_1 : decode cX12_within 1 = .ok (.lstore_n 3, 1) := by decide +kernel
theorem dX12_within_2 : decode cX12_within 2 = .ok (.iconst 0, 1) := by decide +kernel
theorem dX12_within_3 : decode cX12_within 3 = .ok (.istore 5, 2) := by decide +kernel
theorem dX12_within_5 : decode cX12_within 5 = .ok (.iload 5, 2) := by decide +kernel
theorem dX12_within_7 : decode cX12_within 7 = .ok (.iconst 1, 1) := by decide +kernel
theorem dX12_within_8 : decode cX12_within 8 = .ok (.aload_n 0, 1) := by decide +kernel
theorem dX12_within_9 : decode cX12_within 9 = .ok (.getfield 111, 3) := by decide +kernel
theorem dX12_within_12 : decode cX12_within 12 = .ok (.ishl, 1) := by decide +kernel
theorem dX12_within_13 : decode cX12_within 13 = .ok (.if_icmp .ge 75, 3) := by decide +kernel
theorem dX12_within_16 : decode cX12_within 16 = .ok (.aload_n 0, 1) := by decide +kernel
theorem dX12_within_17 : decode cX12_within 17 = .ok (.getfield 57, 3) := by decide +kernel
theorem dX12_within_20 : decode cX12_within 20 = .ok (.iload 5, 2) := by decide +kernel
theorem dX12_within_22 : decode cX12_within 22 = .ok (.iaload, 1) := by decide +kernel
theorem dX12_within_23 : decode cX12_within 23 = .ok (.iload_n 2, 1) := by decide +kernel
theorem dX12_within_24 : decode cX12_within 24 = .ok (.if_icmp .gt 7, 3) := by decide +kernel
theorem dX12_within_27 : decode cX12_within 27 = .ok (.lconst 1, 1) := by decide +kernel
theorem dX12_within_28 : decode cX12_within 28 = .ok (.goto 4, 3) := by decide +kernel
theorem dX12_within_31 : decode cX12_within 31 = .ok (.lconst 0, 1) := by decide +kernel
theorem dX12_within_32 : decode cX12_within 32 = .ok (.lstore 6, 2) := by decide +kernel
theorem dX12_within_34 : decode cX12_within 34 = .ok (.iconst 0, 1) := by decide +kernel
theorem dX12_within_35 : decode cX12_within 35 = .ok (.istore 8, 2) := by decide +kernel
theorem dX12_within_37 : decode cX12_within 37 = .ok (.iload 8, 2) := by decide +kernel
theorem dX12_within_39 : decode cX12_within 39 = .ok (.aload_n 0, 1) := by decide +kernel
theorem dX12_within_40 : decode cX12_within 40 = .ok (.getfield 111, 3) := by decide +kernel
theorem dX12_within_43 : decode cX12_within 43 = .ok (.if_icmp .ge 34, 3) := by decide +kernel
theorem dX12_within_46 : decode cX12_within 46 = .ok (.lload 6, 2) := by decide +kernel
theorem dX12_within_48 : decode cX12_within 48 = .ok (.iload 5, 2) := by decide +kernel
theorem dX12_within_50 : decode cX12_within 50 = .ok (.iload 8, 2) := by decide +kernel
theorem dX12_within_52 : decode cX12_within 52 = .ok (.invokestatic 180, 3) := by decide +kernel
theorem dX12_within_55 : decode cX12_within 55 = .ok (.ifCond .eq 8, 3) := by decide +kernel
theorem dX12_within_58 : decode cX12_within 58 = .ok (.iload_n 1, 1) := by decide +kernel
theorem dX12_within_59 : decode cX12_within 59 = .ok (.i2l, 1) := by decide +kernel
theorem dX12_within_60 : decode cX12_within 60 = .ok (.goto 8, 3) := by decide +kernel
theorem dX12_within_63 : decode cX12_within 63 = .ok (.bipush 10, 2) := by decide +kernel
theorem dX12_within_65 : decode cX12_within 65 = .ok (.iload_n 1, 1) := by decide +kernel
theorem dX12_within_66 : decode cX12_within 66 = .ok (.isub, 1) := by decide +kernel
theorem dX12_within_67 : decode cX12_within 67 = .ok (.i2l, 1) := by decide +kernel
theorem dX12_within_68 : decode cX12_within 68 = .ok (.lmul, 1) := by decide +kernel
theorem dX12_within_69 : decode cX12_within 69 = .ok (.lstore 6, 2) := by decide +kernel
theorem dX12_within_71 : decode cX12_within 71 = .ok (.iinc 8 1, 3) := by decide +kernel
theorem dX12_within_74 : decode cX12_within 74 = .ok (.goto (-37), 3) := by decide +kernel
theorem dX12_within_77 : decode cX12_within 77 = .ok (.lload_n 3, 1) := by decide +kernel
theorem dX12_within_78 : decode cX12_within 78 = .ok (.lload 6, 2) := by decide +kernel
theorem dX12_within_80 : decode cX12_within 80 = .ok (.ladd, 1) := by decide +kernel
theorem dX12_within_81 : decode cX12_within 81 = .ok (.lstore_n 3, 1) := by decide +kernel
theorem dX12_within_82 : decode cX12_within 82 = .ok (.iinc 5 1, 3) := by decide +kernel
theorem dX12_within_85 : decode cX12_within 85 = .ok (.goto (-80), 3) := by decide +kernel
theorem dX12_within_88 : decode cX12_within 88 = .ok (.lload_n 3, 1) := by decide +kernel
theorem dX12_within_89 : decode cX12_within 89 = .ok (.lreturn, 1) := by decide +kernel
theorem dX12_divisor_0 : decode cX12_divisor 0 = .ok (.lload_n 0, 1) := by decide +kernel
theorem dX12_divisor_1 : decode cX12_divisor 1 = .ok (.lstore 4, 2) := by decide +kernel
theorem dX12_divisor_3 : decode cX12_divisor 3 = .ok (.lload_n 2, 1) := by decide +kernel
theorem dX12_divisor_4 : decode cX12_divisor 4 = .ok (.lstore 6, 2) := by decide +kernel
theorem dX12_divisor_6 : decode cX12_divisor 6 = .ok (.lload 6, 2) := by decide +kernel
theorem dX12_divisor_8 : decode cX12_divisor 8 = .ok (.lconst 0, 1) := by decide +kernel
theorem dX12_divisor_9 : decode cX12_divisor 9 = .ok (.lcmp, 1) := by decide +kernel
theorem dX12_divisor_10 : decode cX12_divisor 10 = .ok (.ifCond .eq 21, 3) := by decide +kernel
theorem dX12_divisor_13 : decode cX12_divisor 13 = .ok (.lload 4, 2) := by decide +kernel
theorem dX12_divisor_15 : decode cX12_divisor 15 = .ok (.lload 6, 2) := by decide +kernel
theorem dX12_divisor_17 : decode cX12_divisor 17 = .ok (.lrem, 1) := by decide +kernel
theorem dX12_divisor_18 : decode cX12_divisor 18 = .ok (.lstore 8, 2) := by decide +kernel
theorem dX12_divisor_20 : decode cX12_divisor 20 = .ok (.lload 6, 2) := by decide +kernel
theorem dX12_divisor_22 : decode cX12_divisor 22 = .ok (.lstore 4, 2) := by decide +kernel
theorem dX12_divisor_24 : decode cX12_divisor 24 = .ok (.lload 8, 2) := by decide +kernel
theorem dX12_divisor_26 : decode cX12_divisor 26 = .ok (.lstore 6, 2) := by decide +kernel
theorem dX12_divisor_28 : decode cX12_divisor 28 = .ok (.goto (-22), 3) := by decide +kernel
theorem dX12_divisor_31 : decode cX12_divisor 31 = .ok (.lload 4, 2) := by decide +kernel
theorem dX12_divisor_33 : decode cX12_divisor 33 = .ok (.lreturn, 1) := by decide +kernel
theorem dX12_whole_0 : decode cX12_whole 0 = .ok (.lconst 1, 1) := by decide +kernel
theorem dX12_whole_1 : decode cX12_whole 1 = .ok (.lstore_n 1, 1) := by decide +kernel
theorem dX12_whole_2 : decode cX12_whole 2 = .ok (.iconst 0, 1) := by decide +kernel
theorem dX12_whole_3 : decode cX12_whole 3 = .ok (.istore_n 3, 1) := by decide +kernel
theorem dX12_whole_4 : decode cX12_whole 4 = .ok (.iload_n 3, 1) := by decide +kernel
theorem dX12_whole_5 : decode cX12_whole 5 = .ok (.aload_n 0, 1) := by decide +kernel
theorem dX12_whole_6 : decode cX12_whole 6 = .ok (.getfield 111, 3) := by decide +kernel
theorem dX12_whole_9 : decode cX12_whole 9 = .ok (.if_icmp .ge 15, 3) := by decide +kernel
theorem dX12_whole_12 : decode cX12_whole 12 = .ok (.lload_n 1, 1) := by decide +kernel
theorem dX12_whole_13 : decode cX12_whole 13 = .ok (.ldc2_w 259, 3) := by decide +kernel
theorem dX12_whole_16 : decode cX12_whole 16 = .ok (.lmul, 1) := by decide +kernel
theorem dX12_whole_17 : decode cX12_whole 17 = .ok (.lstore_n 1, 1) := by decide +kernel
theorem dX12_whole_18 : decode cX12_whole 18 = .ok (.iinc 3 1, 3) := by decide +kernel
theorem dX12_whole_21 : decode cX12_whole 21 = .ok (.goto (-17), 3) := by decide +kernel
theorem dX12_whole_24 : decode cX12_whole 24 = .ok (.lload_n 1, 1) := by decide +kernel
theorem dX12_whole_25 : decode cX12_whole 25 = .ok (.lreturn, 1) := by decide +kernel
theorem dX12_chance_0 : decode cX12_chance 0 = .ok (.aload_n 0, 1) := by decide +kernel
theorem dX12_chance_1 : decode cX12_chance 1 = .ok (.iconst 0, 1) := by decide +kernel
theorem dX12_chance_2 : decode cX12_chance 2 = .ok (.putfield 104, 3) := by decide +kernel
theorem dX12_chance_5 : decode cX12_chance 5 = .ok (.iload_n 1, 1) := by decide +kernel
theorem dX12_chance_6 : decode cX12_chance 6 = .ok (.i2l, 1) := by decide +kernel
theorem dX12_chance_7 : decode cX12_chance 7 = .ok (.lconst 0, 1) := by decide +kernel
theorem dX12_chance_8 : decode cX12_chance 8 = .ok (.ldc2_w 259, 3) := by decide +kernel
theorem dX12_chance_11 : decode cX12_chance 11 = .ok (.invokestatic 107, 3) := by decide +kernel
theorem dX12_chance_14 : decode cX12_chance 14 = .ok (.ifCond .eq 15, 3) := by decide +kernel
theorem dX12_chance_17 : decode cX12_chance 17 = .ok (.iload_n 2, 1) := by decide +kernel
theorem dX12_chance_18 : decode cX12_chance 18 = .ok (.i2l, 1) := by decide +kernel
theorem dX12_chance_19 : decode cX12_chance 19 = .ok (.lconst 0, 1) := by decide +kernel
theorem dX12_chance_20 : decode cX12_chance 20 = .ok (.ldc2_w 252, 3) := by decide +kernel
theorem dX12_chance_23 : decode cX12_chance 23 = .ok (.invokestatic 107, 3) := by decide +kernel
theorem dX12_chance_26 : decode cX12_chance 26 = .ok (.ifCond .ne 7, 3) := by decide +kernel
theorem dX12_chance_29 : decode cX12_chance 29 = .ok (.ldc2_w 254, 3) := by decide +kernel
theorem dX12_chance_32 : decode cX12_chance 32 = .ok (.lreturn, 1) := by decide +kernel
theorem dX12_chance_33 : decode cX12_chance 33 = .ok (.aload_n 0, 1) := by decide +kernel
theorem dX12_chance_34 : decode cX12_chance 34 = .ok (.invokevirtual 261, 3) := by decide +kernel
theorem dX12_chance_37 : decode cX12_chance 37 = .ok (.aload_n 0, 1) := by decide +kernel
theorem dX12_chance_38 : decode cX12_chance 38 = .ok (.iload_n 1, 1) := by decide +kernel
theorem dX12_chance_39 : decode cX12_chance 39 = .ok (.iload_n 2, 1) := by decide +kernel
theorem dX12_chance_40 : decode cX12_chance 40 = .ok (.invokevirtual 264, 3) := by decide +kernel
theorem dX12_chance_43 : decode cX12_chance 43 = .ok (.lstore 4, 2) := by decide +kernel
theorem dX12_chance_45 : decode cX12_chance 45 = .ok (.lload 4, 2) := by decide +kernel
theorem dX12_chance_47 : decode cX12_chance 47 = .ok (.aload_n 0, 1) := by decide +kernel
theorem dX12_chance_48 : decode cX12_chance 48 = .ok (.invokevirtual 268, 3) := by decide +kernel
theorem dX12_chance_51 : decode cX12_chance 51 = .ok (.invokestatic 272, 3) := by decide +kernel
theorem dX12_chance_54 : decode cX12_chance 54 = .ok (.lstore 6, 2) := by decide +kernel
theorem dX12_chance_56 : decode cX12_chance 56 = .ok (.iload_n 3, 1) := by decide +kernel
theorem dX12_chance_57 : decode cX12_chance 57 = .ok (.ifCond .eq 11, 3) := by decide +kernel
theorem dX12_chance_60 : decode cX12_chance 60 = .ok (.lload 4, 2) := by decide +kernel
theorem dX12_chance_62 : decode cX12_chance 62 = .ok (.lload 6, 2) := by decide +kernel
theorem dX12_chance_64 : decode cX12_chance 64 = .ok (.ldiv, 1) := by decide +kernel
theorem dX12_chance_65 : decode cX12_chance 65 = .ok (.goto 10, 3) := by decide +kernel
theorem dX12_chance_68 : decode cX12_chance 68 = .ok (.aload_n 0, 1) := by decide +kernel
theorem dX12_chance_69 : decode cX12_chance 69 = .ok (.invokevirtual 268, 3) := by decide +kernel
theorem dX12_chance_72 : decode cX12_chance 72 = .ok (.lload 6, 2) := by decide +kernel
theorem dX12_chance_74 : decode cX12_chance 74 = .ok (.ldiv, 1) := by decide +kernel
theorem dX12_chance_75 : decode cX12_chance 75 = .ok (.lreturn, 1) := by decide +kernel
theorem dX12_spare_0 : decode cX12_spare 0 = .ok (.aload_n 0, 1) := by decide +kernel
theorem dX12_spare_1 : decode cX12_spare 1 = .ok (.iconst 0, 1) := by decide +kernel
theorem dX12_spare_2 : decode cX12_spare 2 = .ok (.putfield 104, 3) := by decide +kernel
theorem dX12_spare_5 : decode cX12_spare 5 = .ok (.iload_n 1, 1) := by decide +kernel
theorem dX12_spare_6 : decode cX12_spare 6 = .ok (.i2l, 1) := by decide +kernel
theorem dX12_spare_7 : decode cX12_spare 7 = .ok (.lconst 0, 1) := by decide +kernel
theorem dX12_spare_8 : decode cX12_spare 8 = .ok (.ldc2_w 259, 3) := by decide +kernel
theorem dX12_spare_11 : decode cX12_spare 11 = .ok (.invokestatic 107, 3) := by decide +kernel
theorem dX12_spare_14 : decode cX12_spare 14 = .ok (.ifCond .eq 15, 3) := by decide +kernel
theorem dX12_spare_17 : decode cX12_spare 17 = .ok (.iload_n 2, 1) := by decide +kernel
theorem dX12_spare_18 : decode cX12_spare 18 = .ok (.i2l, 1) := by decide +kernel
theorem dX12_spare_19 : decode cX12_spare 19 = .ok (.lconst 0, 1) := by decide +kernel
theorem dX12_spare_20 : decode cX12_spare 20 = .ok (.ldc2_w 276, 3) := by decide +kernel
theorem dX12_spare_23 : decode cX12_spare 23 = .ok (.invokestatic 107, 3) := by decide +kernel
theorem dX12_spare_26 : decode cX12_spare 26 = .ok (.ifCond .ne 6, 3) := by decide +kernel
theorem dX12_spare_29 : decode cX12_spare 29 = .ok (.bipush (-2), 2) := by decide +kernel
theorem dX12_spare_31 : decode cX12_spare 31 = .ok (.ireturn, 1) := by decide +kernel
theorem dX12_spare_32 : decode cX12_spare 32 = .ok (.aload_n 0, 1) := by decide +kernel
theorem dX12_spare_33 : decode cX12_spare 33 = .ok (.invokevirtual 261, 3) := by decide +kernel
theorem dX12_spare_36 : decode cX12_spare 36 = .ok (.iconst 0, 1) := by decide +kernel
theorem dX12_spare_37 : decode cX12_spare 37 = .ok (.istore_n 3, 1) := by decide +kernel
theorem dX12_spare_38 : decode cX12_spare 38 = .ok (.iload_n 3, 1) := by decide +kernel
theorem dX12_spare_39 : decode cX12_spare 39 = .ok (.sipush 1000, 3) := by decide +kernel
theorem dX12_spare_42 : decode cX12_spare 42 = .ok (.if_icmp .ge 32, 3) := by decide +kernel
theorem dX12_spare_45 : decode cX12_spare 45 = .ok (.ldc2_w 276, 3) := by decide +kernel
theorem dX12_spare_48 : decode cX12_spare 48 = .ok (.aload_n 0, 1) := by decide +kernel
theorem dX12_spare_49 : decode cX12_spare 49 = .ok (.iload_n 1, 1) := by decide +kernel
theorem dX12_spare_50 : decode cX12_spare 50 = .ok (.iload_n 3, 1) := by decide +kernel
theorem dX12_spare_51 : decode cX12_spare 51 = .ok (.invokevirtual 264, 3) := by decide +kernel
theorem dX12_spare_54 : decode cX12_spare 54 = .ok (.lmul, 1) := by decide +kernel
theorem dX12_spare_55 : decode cX12_spare 55 = .ok (.iload_n 2, 1) := by decide +kernel
theorem dX12_spare_56 : decode cX12_spare 56 = .ok (.i2l, 1) := by decide +kernel
theorem dX12_spare_57 : decode cX12_spare 57 = .ok (.aload_n 0, 1) := by decide +kernel
theorem dX12_spare_58 : decode cX12_spare 58 = .ok (.invokevirtual 268, 3) := by decide +kernel
theorem dX12_spare_61 : decode cX12_spare 61 = .ok (.lmul, 1) := by decide +kernel
theorem dX12_spare_62 : decode cX12_spare 62 = .ok (.lcmp, 1) := by decide +kernel
theorem dX12_spare_63 : decode cX12_spare 63 = .ok (.ifCond .lt 5, 3) := by decide +kernel
theorem dX12_spare_66 : decode cX12_spare 66 = .ok (.iload_n 3, 1) := by decide +kernel
theorem dX12_spare_67 : decode cX12_spare 67 = .ok (.ireturn, 1) := by decide +kernel
theorem dX12_spare_68 : decode cX12_spare 68 = .ok (.iinc 3 1, 3) := by decide +kernel
theorem dX12_spare_71 : decode cX12_spare 71 = .ok (.goto (-33), 3) := by decide +kernel
theorem dX12_spare_74 : decode cX12_spare 74 = .ok (.bipush (-9), 2) := by decide +kernel
theorem dX12_spare_76 : decode cX12_spare 76 = .ok (.ireturn, 1) := by decide +kernel
theorem dX12_keep_0 : decode cX12_keep 0 = .ok (.aload_n 0, 1) := by decide +kernel
theorem dX12_keep_1 : decode cX12_keep 1 = .ok (.iconst 0, 1) := by decide +kernel
theorem dX12_keep_2 : decode cX12_keep 2 = .ok (.putfield 104, 3) := by decide +kernel
theorem dX12_keep_5 : decode cX12_keep 5 = .ok (.iload_n 1, 1) := by decide +kernel
theorem dX12_keep_6 : decode cX12_keep 6 = .ok (.i2l, 1) := by decide +kernel
theorem dX12_keep_7 : decode cX12_keep 7 = .ok (.lconst 0, 1) := by decide +kernel
theorem dX12_keep_8 : decode cX12_keep 8 = .ok (.lconst 1, 1) := by decide +kernel
theorem dX12_keep_9 : decode cX12_keep 9 = .ok (.invokestatic 107, 3) := by decide +kernel
theorem dX12_keep_12 : decode cX12_keep 12 = .ok (.ifCond .ne 5, 3) := by decide +kernel
theorem dX12_keep_15 : decode cX12_keep 15 = .ok (.iconst (-1), 1) := by decide +kernel
theorem dX12_keep_16 : decode cX12_keep 16 = .ok (.ireturn, 1) := by decide +kernel
theorem dX12_keep_17 : decode cX12_keep 17 = .ok (.aload_n 0, 1) := by decide +kernel
theorem dX12_keep_18 : decode cX12_keep 18 = .ok (.getfield 53, 3) := by decide +kernel
theorem dX12_keep_21 : decode cX12_keep 21 = .ok (.iload_n 1, 1) := by decide +kernel
theorem dX12_keep_22 : decode cX12_keep 22 = .ok (.iconst 1, 1) := by decide +kernel
theorem dX12_keep_23 : decode cX12_keep 23 = .ok (.bastore, 1) := by decide +kernel
theorem dX12_keep_24 : decode cX12_keep 24 = .ok (.aload_n 0, 1) := by decide +kernel
theorem dX12_keep_25 : decode cX12_keep 25 = .ok (.aload_n 0, 1) := by decide +kernel
theorem dX12_keep_26 : decode cX12_keep 26 = .ok (.getfield 50, 3) := by decide +kernel
theorem dX12_keep_29 : decode cX12_keep 29 = .ok (.bipush 28, 2) := by decide +kernel
theorem dX12_keep_31 : decode cX12_keep 31 = .ok (.iload_n 1, 1) := by decide +kernel
theorem dX12_keep_32 : decode cX12_keep 32 = .ok (.imul, 1) := by decide +kernel
theorem dX12_keep_33 : decode cX12_keep 33 = .ok (.invokevirtual 200, 3) := by decide +kernel
theorem dX12_keep_36 : decode cX12_keep 36 = .ok (.aload_n 0, 1) := by decide +kernel
theorem dX12_keep_37 : decode cX12_keep 37 = .ok (.getfield 165, 3) := by decide +kernel
theorem dX12_keep_40 : decode cX12_keep 40 = .ok (.ireturn, 1) := by decide +kernel
theorem dX12_again_0 : decode cX12_again 0 = .ok (.aload_n 0, 1) := by decide +kernel
theorem dX12_again_1 : decode cX12_again 1 = .ok (.iconst 0, 1) := by decide +kernel
theorem dX12_again_2 : decode cX12_again 2 = .ok (.putfield 104, 3) := by decide +kernel
theorem dX12_again_5 : decode cX12_again 5 = .ok (.iload_n 1, 1) := by decide +kernel
theorem dX12_again_6 : decode cX12_again 6 = .ok (.i2l, 1) := by decide +kernel
theorem dX12_again_7 : decode cX12_again 7 = .ok (.lconst 0, 1) := by decide +kernel
theorem dX12_again_8 : decode cX12_again 8 = .ok (.lconst 1, 1) := by decide +kernel
theorem dX12_again_9 : decode cX12_again 9 = .ok (.invokestatic 107, 3) := by decide +kernel
theorem dX12_again_12 : decode cX12_again 12 = .ok (.ifCond .ne 5, 3) := by decide +kernel
theorem dX12_again_15 : decode cX12_again 15 = .ok (.iconst (-1), 1) := by decide +kernel
theorem dX12_again_16 : decode cX12_again 16 = .ok (.ireturn, 1) := by decide +kernel
theorem dX12_again_17 : decode cX12_again 17 = .ok (.aload_n 0, 1) := by decide +kernel
theorem dX12_again_18 : decode cX12_again 18 = .ok (.getfield 53, 3) := by decide +kernel
theorem dX12_again_21 : decode cX12_again 21 = .ok (.iload_n 1, 1) := by decide +kernel
theorem dX12_again_22 : decode cX12_again 22 = .ok (.baload, 1) := by decide +kernel
theorem dX12_again_23 : decode cX12_again 23 = .ok (.ifCond .ne 6, 3) := by decide +kernel
theorem dX12_again_26 : decode cX12_again 26 = .ok (.bipush (-3), 2) := by decide +kernel
theorem dX12_again_28 : decode cX12_again 28 = .ok (.ireturn, 1) := by decide +kernel
theorem dX12_again_29 : decode cX12_again 29 = .ok (.aload_n 0, 1) := by decide +kernel
theorem dX12_again_30 : decode cX12_again 30 = .ok (.aload_n 0, 1) := by decide +kernel
theorem dX12_again_31 : decode cX12_again 31 = .ok (.getfield 50, 3) := by decide +kernel
theorem dX12_again_34 : decode cX12_again 34 = .ok (.bipush 28, 2) := by decide +kernel
theorem dX12_again_36 : decode cX12_again 36 = .ok (.iload_n 1, 1) := by decide +kernel
theorem dX12_again_37 : decode cX12_again 37 = .ok (.imul, 1) := by decide +kernel
theorem dX12_again_38 : decode cX12_again 38 = .ok (.invokevirtual 216, 3) := by decide +kernel
theorem dX12_again_41 : decode cX12_again 41 = .ok (.aload_n 0, 1) := by decide +kernel
theorem dX12_again_42 : decode cX12_again 42 = .ok (.iconst 0, 1) := by decide +kernel
theorem dX12_again_43 : decode cX12_again 43 = .ok (.putfield 177, 3) := by decide +kernel
theorem dX12_again_46 : decode cX12_again 46 = .ok (.aload_n 0, 1) := by decide +kernel
theorem dX12_again_47 : decode cX12_again 47 = .ok (.getfield 165, 3) := by decide +kernel
theorem dX12_again_50 : decode cX12_again 50 = .ok (.ireturn, 1) := by decide +kernel
theorem dL_law_0 : decode cL_law 0 = .ok (.new 7, 3) := by decide +kernel
theorem dL_law_3 : decode cL_law 3 = .ok (.dup, 1) := by decide +kernel
theorem dL_law_4 : decode cL_law 4 = .ok (.invokespecial 9, 3) := by decide +kernel
theorem dL_law_7 : decode cL_law 7 = .ok (.astore_n 1, 1) := by decide +kernel
theorem dL_law_8 : decode cL_law 8 = .ok (.new 10, 3) := by decide +kernel
theorem dL_law_11 : decode cL_law 11 = .ok (.dup, 1) := by decide +kernel
theorem dL_law_12 : decode cL_law 12 = .ok (.invokespecial 12, 3) := by decide +kernel
theorem dL_law_15 : decode cL_law 15 = .ok (.astore_n 2, 1) := by decide +kernel
theorem dL_law_16 : decode cL_law 16 = .ok (.iconst 0, 1) := by decide +kernel
theorem dL_law_17 : decode cL_law 17 = .ok (.istore_n 3, 1) := by decide +kernel
theorem dL_law_18 : decode cL_law 18 = .ok (.iload_n 3, 1) := by decide +kernel
theorem dL_law_19 : decode cL_law 19 = .ok (.aload_n 0, 1) := by decide +kernel
theorem dL_law_20 : decode cL_law 20 = .ok (.arraylength, 1) := by decide +kernel
theorem dL_law_21 : decode cL_law 21 = .ok (.iconst 4, 1) := by decide +kernel
theorem dL_law_22 : decode cL_law 22 = .ok (.isub, 1) := by decide +kernel
theorem dL_law_23 : decode cL_law 23 = .ok (.if_icmp .gt 880, 3) := by decide +kernel
theorem dL_law_26 : decode cL_law 26 = .ok (.aload_n 0, 1) := by decide +kernel
theorem dL_law_27 : decode cL_law 27 = .ok (.iload_n 3, 1) := by decide +kernel
theorem dL_law_28 : decode cL_law 28 = .ok (.iaload, 1) := by decide +kernel
theorem dL_law_29 : decode cL_law 29 = .ok (.bipush 31, 2) := by decide +kernel
theorem dL_law_31 : decode cL_law 31 = .ok (.iand, 1) := by decide +kernel
theorem dL_law_32 : decode cL_law 32 = .ok (.tableswitch 865 0 24 #[116, 179, 192, 205, 218, 241, 264, 297, 330, 363, 396, 429, 478, 491, 504, 547, 580, 603, 616, 639, 683, 726, 786, 819, 842], 116) := by decide +kernel
theorem dL_law_148 : decode cL_law 148 = .ok (.aload_n 1, 1) := by decide +kernel
theorem dL_law_149 : decode cL_law 149 = .ok (.aload_n 0, 1) := by decide +kernel
theorem dL_law_150 : decode cL_law 150 = .ok (.iload_n 3, 1) := by decide +kernel
theorem dL_law_151 : decode cL_law 151 = .ok (.iconst 1, 1) := by decide +kernel
theorem dL_law_152 : decode cL_law 152 = .ok (.iadd, 1) := by decide +kernel
theorem dL_law_153 : decode cL_law 153 = .ok (.iaload, 1) := by decide +kernel
theorem dL_law_154 : decode cL_law 154 = .ok (.aload_n 0, 1) := by decide +kernel
theorem dL_law_155 : decode cL_law 155 = .ok (.iload_n 3, 1) := by decide +kernel
theorem dL_law_156 : decode cL_law 156 = .ok (.iconst 2, 1) := by decide +kernel
theorem dL_law_157 : decode cL_law 157 = .ok (.iadd, 1) := by decide +kernel
theorem dL_law_158 : decode cL_law 158 = .ok (.iaload, 1) := by decide +kernel
theorem dL_law_159 : decode cL_law 159 = .ok (.i2l, 1) := by decide +kernel
theorem dL_law_160 : decode cL_law 160 = .ok (.bipush 32, 2) := by decide +kernel
theorem dL_law_162 : decode cL_law 162 = .ok (.lshl, 1) := by decide +kernel
theorem dL_law_163 : decode cL_law 163 = .ok (.aload_n 0, 1) := by decide +kernel
theorem dL_law_164 : decode cL_law 164 = .ok (.iload_n 3, 1) := by decide +kernel
theorem dL_law_165 : decode cL_law 165 = .ok (.iconst 3, 1) := by decide +kernel
theorem dL_law_166 : decode cL_law 166 = .ok (.iadd, 1) := by decide +kernel
theorem dL_law_167 : decode cL_law 167 = .ok (.iaload, 1) := by decide +kernel
theorem dL_law_168 : decode cL_law 168 = .ok (.i2l, 1) := by decide +kernel
theorem dL_law_169 : decode cL_law 169 = .ok (.ldc2_w 13, 3) := by decide +kernel
theorem dL_law_172 : decode cL_law 172 = .ok (.land, 1) := by decide +kernel
theorem dL_law_173 : decode cL_law 173 = .ok (.lor, 1) := by decide +kernel
theorem dL_law_174 : decode cL_law 174 = .ok (.invokevirtual 15, 3) := by decide +kernel
theorem dL_law_177 : decode cL_law 177 = .ok (.aload_n 2, 1) := by decide +kernel
theorem dL_law_178 : decode cL_law 178 = .ok (.aload_n 0, 1) := by decide +kernel
theorem dL_law_179 : decode cL_law 179 = .ok (.iload_n 3, 1) := by decide +kernel
theorem dL_law_180 : decode cL_law 180 = .ok (.iconst 1, 1) := by decide +kernel
theorem dL_law_181 : decode cL_law 181 = .ok (.iadd, 1) := by decide +kernel
theorem dL_law_182 : decode cL_law 182 = .ok (.iaload, 1) := by decide +kernel
theorem dL_law_183 : decode cL_law 183 = .ok (.aload_n 0, 1) := by decide +kernel
theorem dL_law_184 : decode cL_law 184 = .ok (.iload_n 3, 1) := by decide +kernel
theorem dL_law_185 : decode cL_law 185 = .ok (.iconst 2, 1) := by decide +kernel
theorem dL_law_186 : decode cL_law 186 = .ok (.iadd, 1) := by decide +kernel
theorem dL_law_187 : decode cL_law 187 = .ok (.iaload, 1) := by decide +kernel
theorem dL_law_188 : decode cL_law 188 = .ok (.i2l, 1) := by decide +kernel
theorem dL_law_189 : decode cL_law 189 = .ok (.bipush 32, 2) := by decide +kernel
theorem dL_law_191 : decode cL_law 191 = .ok (.lshl, 1) := by decide +kernel
theorem dL_law_192 : decode cL_law 192 = .ok (.aload_n 0, 1) := by decide +kernel
theorem dL_law_193 : decode cL_law 193 = .ok (.iload_n 3, 1) := by decide +kernel
theorem dL_law_194 : decode cL_law 194 = .ok (.iconst 3, 1) := by decide +kernel
theorem dL_law_195 : decode cL_law 195 = .ok (.iadd, 1) := by decide +kernel
theorem dL_law_196 : decode cL_law 196 = .ok (.iaload, 1) := by decide +kernel
theorem dL_law_197 : decode cL_law 197 = .ok (.i2l, 1) := by decide +kernel
theorem dL_law_198 : decode cL_law 198 = .ok (.ldc2_w 13, 3) := by decide +kernel
theorem dL_law_201 : decode cL_law 201 = .ok (.land, 1) := by decide +kernel
theorem dL_law_202 : decode cL_law 202 = .ok (.lor, 1) := by decide +kernel
theorem dL_law_203 : decode cL_law 203 = .ok (.invokevirtual 19, 3) := by decide +kernel
theorem dL_law_206 : decode cL_law 206 = .ok (.if_icmp .eq 691, 3) := by decide +kernel
theorem dL_law_209 : decode cL_law 209 = .ok (.iconst 0, 1) := by decide +kernel
theorem dL_law_210 : decode cL_law 210 = .ok (.ireturn, 1) := by decide +kernel
theorem dL_law_211 : decode cL_law 211 = .ok (.aload_n 1, 1) := by decide +kernel
theorem dL_law_212 : decode cL_law 212 = .ok (.invokevirtual 20, 3) := by decide +kernel
theorem dL_law_215 : decode cL_law 215 = .ok (.aload_n 2, 1) := by decide +kernel
theorem dL_law_216 : decode cL_law 216 = .ok (.invokevirtual 24, 3) := by decide +kernel
theorem dL_law_219 : decode cL_law 219 = .ok (.if_icmp .eq 678, 3) := by decide +kernel
theorem dL_law_222 : decode cL_law 222 = .ok (.iconst 0, 1) := by decide +kernel
theorem dL_law_223 : decode cL_law 223 = .ok (.ireturn, 1) := by decide +kernel
theorem dL_law_224 : decode cL_law 224 = .ok (.aload_n 1, 1) := by decide +kernel
theorem dL_law_225 : decode cL_law 225 = .ok (.invokevirtual 25, 3) := by decide +kernel
theorem dL_law_228 : decode cL_law 228 = .ok (.aload_n 2, 1) := by decide +kernel
theorem dL_law_229 : decode cL_law 229 = .ok (.invokevirtual 28, 3) := by decide +kernel
theorem dL_law_232 : decode cL_law 232 = .ok (.if_icmp .eq 665, 3) := by decide +kernel
theorem dL_law_235 : decode cL_law 235 = .ok (.iconst 0, 1) := by decide +kernel
theorem dL_law_236 : decode cL_law 236 = .ok (.ireturn, 1) := by decide +kernel
theorem dL_law_237 : decode cL_law 237 = .ok (.aload_n 1, 1) := by decide +kernel
theorem dL_law_238 : decode cL_law 238 = .ok (.invokevirtual 29, 3) := by decide +kernel
theorem dL_law_241 : decode cL_law 241 = .ok (.aload_n 2, 1) := by decide +kernel
theorem dL_law_242 : decode cL_law 242 = .ok (.invokevirtual 32, 3) := by decide +kernel
theorem dL_law_245 : decode cL_law 245 = .ok (.if_icmp .eq 652, 3) := by decide +kernel
theorem dL_law_248 : decode cL_law 248 = .ok (.iconst 0, 1) := by decide +kernel
theorem dL_law_249 : decode cL_law 249 = .ok (.ireturn, 1) := by decide +kernel
theorem dL_law_250 : decode cL_law 250 = .ok (.aload_n 1, 1) := by decide +kernel
theorem dL_law_251 : decode cL_law 251 = .ok (.aload_n 0, 1) := by decide +kernel
theorem dL_law_252 : decode cL_law 252 = .ok (.iload_n 3, 1) := by decide +kernel
theorem dL_law_253 : decode cL_law 253 = .ok (.iconst 1, 1) := by decide +kernel
theorem dL_law_254 : decode cL_law 254 = .ok (.iadd, 1) := by decide +kernel
theorem dL_law_255 : decode cL_law 255 = .ok (.iaload, 1) := by decide +kernel
theorem dL_law_256 : decode cL_law 256 = .ok (.invokevirtual 33, 3) := by decide +kernel
theorem dL_law_259 : decode cL_law 259 = .ok (.aload_n 2, 1) := by decide +kernel
theorem dL_law_260 : decode cL_law 260 = .ok (.aload_n 0, 1) := by decide +kernel
theorem dL_law_261 : decode cL_law 261 = .ok (.iload_n 3, 1) := by decide +kernel
theorem dL_law_262 : decode cL_law 262 = .ok (.iconst 1, 1) := by decide +kernel
theorem dL_law_263 : decode cL_law 263 = .ok (.iadd, 1) := by decide +kernel
theorem dL_law_264 : decode cL_law 264 = .ok (.iaload, 1) := by decide +kernel
theorem dL_law_265 : decode cL_law 265 = .ok (.invokevirtual 37, 3) := by decide +kernel
theorem dL_law_268 : decode cL_law 268 = .ok (.if_icmp .eq 629, 3) := by decide +kernel
theorem dL_law_271 : decode cL_law 271 = .ok (.iconst 0, 1) := by decide +kernel
theorem dL_law_272 : decode cL_law 272 = .ok (.ireturn, 1) := by decide +kernel
theorem dL_law_273 : decode cL_law 273 = .ok (.aload_n 1, 1) := by decide +kernel
theorem dL_law_274 : decode cL_law 274 = .ok (.aload_n 0, 1) := by decide +kernel
theorem dL_law_275 : decode cL_law 275 = .ok (.iload_n 3, 1) := by decide +kernel
theorem dL_law_276 : decode cL_law 276 = .ok (.iconst 1, 1) := by decide +kernel
theorem dL_law_277 : decode cL_law 277 = .ok (.iadd, 1) := by decide +kernel
theorem dL_law_278 : decode cL_law 278 = .ok (.iaload, 1) := by decide +kernel
theorem dL_law_279 : decode cL_law 279 = .ok (.invokevirtual 38, 3) := by decide +kernel
theorem dL_law_282 : decode cL_law 282 = .ok (.aload_n 2, 1) := by decide +kernel
theorem dL_law_283 : decode cL_law 283 = .ok (.aload_n 0, 1) := by decide +kernel
theorem dL_law_284 : decode cL_law 284 = .ok (.iload_n 3, 1) := by decide +kernel
theorem dL_law_285 : decode cL_law 285 = .ok (.iconst 1, 1) := by decide +kernel
theorem dL_law_286 : decode cL_law 286 = .ok (.iadd, 1) := by decide +kernel
theorem dL_law_287 : decode cL_law 287 = .ok (.iaload, 1) := by decide +kernel
theorem dL_law_288 : decode cL_law 288 = .ok (.invokevirtual 41, 3) := by decide +kernel
theorem dL_law_291 : decode cL_law 291 = .ok (.if_icmp .eq 606, 3) := by decide +kernel
theorem dL_law_294 : decode cL_law 294 = .ok (.iconst 0, 1) := by decide +kernel
theorem dL_law_295 : decode cL_law 295 = .ok (.ireturn, 1) := by decide +kernel
theorem dL_law_296 : decode cL_law 296 = .ok (.aload_n 1, 1) := by decide +kernel
theorem dL_law_297 : decode cL_law 297 = .ok (.aload_n 0, 1) := by decide +kernel
theorem dL_law_298 : decode cL_law 298 = .ok (.iload_n 3, 1) := by decide +kernel
theorem dL_law_299 : decode cL_law 299 = .ok (.iconst 1, 1) := by decide +kernel
theorem dL_law_300 : decode cL_law 300 = .ok (.iadd, 1) := by decide +kernel
theorem dL_law_301 : decode cL_law 301 = .ok (.iaload, 1) := by decide +kernel
theorem dL_law_302 : decode cL_law 302 = .ok (.aload_n 0, 1) := by decide +kernel
theorem dL_law_303 : decode cL_law 303 = .ok (.iload_n 3, 1) := by decide +kernel
theorem dL_law_304 : decode cL_law 304 = .ok (.iconst 2, 1) := by decide +kernel
theorem dL_law_305 : decode cL_law 305 = .ok (.iadd, 1) := by decide +kernel
theorem dL_law_306 : decode cL_law 306 = .ok (.iaload, 1) := by decide +kernel
theorem dL_law_307 : decode cL_law 307 = .ok (.invokevirtual 42, 3) := by decide +kernel
theorem dL_law_310 : decode cL_law 310 = .ok (.aload_n 2, 1) := by decide +kernel
theorem dL_law_311 : decode cL_law 311 = .ok (.aload_n 0, 1) := by decide +kernel
theorem dL_law_312 : decode cL_law 312 = .ok (.iload_n 3, 1) := by decide +kernel
theorem dL_law_313 : decode cL_law 313 = .ok (.iconst 1, 1) := by decide +kernel
theorem dL_law_314 : decode cL_law 314 = .ok (.iadd, 1) := by decide +kernel
theorem dL_law_315 : decode cL_law 315 = .ok (.iaload, 1) := by decide +kernel
theorem dL_law_316 : decode cL_law 316 = .ok (.aload_n 0, 1) := by decide +kernel
theorem dL_law_317 : decode cL_law 317 = .ok (.iload_n 3, 1) := by decide +kernel
theorem dL_law_318 : decode cL_law 318 = .ok (.iconst 2, 1) := by decide +kernel
theorem dL_law_319 : decode cL_law 319 = .ok (.iadd, 1) := by decide +kernel
theorem dL_law_320 : decode cL_law 320 = .ok (.iaload, 1) := by decide +kernel
theorem dL_law_321 : decode cL_law 321 = .ok (.invokevirtual 46, 3) := by decide +kernel
theorem dL_law_324 : decode cL_law 324 = .ok (.if_icmp .eq 573, 3) := by decide +kernel
theorem dL_law_327 : decode cL_law 327 = .ok (.iconst 0, 1) := by decide +kernel
theorem dL_law_328 : decode cL_law 328 = .ok (.ireturn, 1) := by decide +kernel
theorem dL_law_329 : decode cL_law 329 = .ok (.aload_n 1, 1) := by decide +kernel
theorem dL_law_330 : decode cL_law 330 = .ok (.aload_n 0, 1) := by decide +kernel
theorem dL_law_331 : decode cL_law 331 = .ok (.iload_n 3, 1) := by decide +kernel
theorem dL_law_332 : decode cL_law 332 = .ok (.iconst 1, 1) := by decide +kernel
theorem dL_law_333 : decode cL_law 333 = .ok (.iadd, 1) := by decide +kernel
theorem dL_law_334 : decode cL_law 334 = .ok (.iaload, 1) := by decide +kernel
theorem dL_law_335 : decode cL_law 335 = .ok (.aload_n 0, 1) := by decide +kernel
theorem dL_law_336 : decode cL_law 336 = .ok (.iload_n 3, 1) := by decide +kernel
theorem dL_law_337 : decode cL_law 337 = .ok (.iconst 2, 1) := by decide +kernel
theorem dL_law_338 : decode cL_law 338 = .ok (.iadd, 1) := by decide +kernel
theorem dL_law_339 : decode cL_law 339 = .ok (.iaload, 1) := by decide +kernel
theorem dL_law_340 : decode cL_law 340 = .ok (.invokevirtual 47, 3) := by decide +kernel
theorem dL_law_343 : decode cL_law 343 = .ok (.aload_n 2, 1) := by decide +kernel
theorem dL_law_344 : decode cL_law 344 = .ok (.aload_n 0, 1) := by decide +kernel
theorem dL_law_345 : decode cL_law 345 = .ok (.iload_n 3, 1) := by decide +kernel
theorem dL_law_346 : decode cL_law 346 = .ok (.iconst 1, 1) := by decide +kernel
theorem dL_law_347 : decode cL_law 347 = .ok (.iadd, 1) := by decide +kernel
theorem dL_law_348 : decode cL_law 348 = .ok (.iaload, 1) := by decide +kernel
theorem dL_law_349 : decode cL_law 349 = .ok (.aload_n 0, 1) := by decide +kernel
theorem dL_law_350 : decode cL_law 350 = .ok (.iload_n 3, 1) := by decide +kernel
theorem dL_law_351 : decode cL_law 351 = .ok (.iconst 2, 1) := by decide +kernel
theorem dL_law_352 : decode cL_law 352 = .ok (.iadd, 1) := by decide +kernel
theorem dL_law_353 : decode cL_law 353 = .ok (.iaload, 1) := by decide +kernel
theorem dL_law_354 : decode cL_law 354 = .ok (.invokevirtual 50, 3) := by decide +kernel
theorem dL_law_357 : decode cL_law 357 = .ok (.if_icmp .eq 540, 3) := by decide +kernel
theorem dL_law_360 : decode cL_law 360 = .ok (.iconst 0, 1) := by decide +kernel
theorem dL_law_361 : decode cL_law 361 = .ok (.ireturn, 1) := by decide +kernel
theorem dL_law_362 : decode cL_law 362 = .ok (.aload_n 1, 1) := by decide +kernel
theorem dL_law_363 : decode cL_law 363 = .ok (.aload_n 0, 1) := by decide +kernel
theorem dL_law_364 : decode cL_law 364 = .ok (.iload_n 3, 1) := by decide +kernel
theorem dL_law_365 : decode cL_law 365 = .ok (.iconst 1, 1) := by decide +kernel
theorem dL_law_366 : decode cL_law 366 = .ok (.iadd, 1) := by decide +kernel
theorem dL_law_367 : decode cL_law 367 = .ok (.iaload, 1) := by decide +kernel
theorem dL_law_368 : decode cL_law 368 = .ok (.aload_n 0, 1) := by decide +kernel
theorem dL_law_369 : decode cL_law 369 = .ok (.iload_n 3, 1) := by decide +kernel
theorem dL_law_370 : decode cL_law 370 = .ok (.iconst 2, 1) := by decide +kernel
theorem dL_law_371 : decode cL_law 371 = .ok (.iadd, 1) := by decide +kernel
theorem dL_law_372 : decode cL_law 372 = .ok (.iaload, 1) := by decide +kernel
theorem dL_law_373 : decode cL_law 373 = .ok (.invokevirtual 51, 3) := by decide +kernel
theorem dL_law_376 : decode cL_law 376 = .ok (.aload_n 2, 1) := by decide +kernel
theorem dL_law_377 : decode cL_law 377 = .ok (.aload_n 0, 1) := by decide +kernel
theorem dL_law_378 : decode cL_law 378 = .ok (.iload_n 3, 1) := by decide +kernel
theorem dL_law_379 : decode cL_law 379 = .ok (.iconst 1, 1) := by decide +kernel
theorem dL_law_380 : decode cL_law 380 = .ok (.iadd, 1) := by decide +kernel
theorem dL_law_381 : decode cL_law 381 = .ok (.iaload, 1) := by decide +kernel
theorem dL_law_382 : decode cL_law 382 = .ok (.aload_n 0, 1) := by decide +kernel
theorem dL_law_383 : decode cL_law 383 = .ok (.iload_n 3, 1) := by decide +kernel
theorem dL_law_384 : decode cL_law 384 = .ok (.iconst 2, 1) := by decide +kernel
theorem dL_law_385 : decode cL_law 385 = .ok (.iadd, 1) := by decide +kernel
theorem dL_law_386 : decode cL_law 386 = .ok (.iaload, 1) := by decide +kernel
theorem dL_law_387 : decode cL_law 387 = .ok (.invokevirtual 54, 3) := by decide +kernel
theorem dL_law_390 : decode cL_law 390 = .ok (.if_icmp .eq 507, 3) := by decide +kernel
theorem dL_law_393 : decode cL_law 393 = .ok (.iconst 0, 1) := by decide +kernel
theorem dL_law_394 : decode cL_law 394 = .ok (.ireturn, 1) := by decide +kernel
theorem dL_law_395 : decode cL_law 395 = .ok (.aload_n 1, 1) := by decide +kernel
theorem dL_law_396 : decode cL_law 396 = .ok (.aload_n 0, 1) := by decide +kernel
theorem dL_law_397 : decode cL_law 397 = .ok (.iload_n 3, 1) := by decide +kernel
theorem dL_law_398 : decode cL_law 398 = .ok (.iconst 1, 1) := by decide +kernel
theorem dL_law_399 : decode cL_law 399 = .ok (.iadd, 1) := by decide +kernel
theorem dL_law_400 : decode cL_law 400 = .ok (.iaload, 1) := by decide +kernel
theorem dL_law_401 : decode cL_law 401 = .ok (.aload_n 0, 1) := by decide +kernel
theorem dL_law_402 : decode cL_law 402 = .ok (.iload_n 3, 1) := by decide +kernel
theorem dL_law_403 : decode cL_law 403 = .ok (.iconst 2, 1) := by decide +kernel
theorem dL_law_404 : decode cL_law 404 = .ok (.iadd, 1) := by decide +kernel
theorem dL_law_405 : decode cL_law 405 = .ok (.iaload, 1) := by decide +kernel
theorem dL_law_406 : decode cL_law 406 = .ok (.invokevirtual 55, 3) := by decide +kernel
theorem dL_law_409 : decode cL_law 409 = .ok (.aload_n 2, 1) := by decide +kernel
theorem dL_law_410 : decode cL_law 410 = .ok (.aload_n 0, 1) := by decide +kernel
theorem dL_law_411 : decode cL_law 411 = .ok (.iload_n 3, 1) := by decide +kernel
theorem dL_law_412 : decode cL_law 412 = .ok (.iconst 1, 1) := by decide +kernel
theorem dL_law_413 : decode cL_law 413 = .ok (.iadd, 1) := by decide +kernel
theorem dL_law_414 : decode cL_law 414 = .ok (.iaload, 1) := by decide +kernel
theorem dL_law_415 : decode cL_law 415 = .ok (.aload_n 0, 1) := by decide +kernel
theorem dL_law_416 : decode cL_law 416 = .ok (.iload_n 3, 1) := by decide +kernel
theorem dL_law_417 : decode cL_law 417 = .ok (.iconst 2, 1) := by decide +kernel
theorem dL_law_418 : decode cL_law 418 = .ok (.iadd, 1) := by decide +kernel
theorem dL_law_419 : decode cL_law 419 = .ok (.iaload, 1) := by decide +kernel
theorem dL_law_420 : decode cL_law 420 = .ok (.invokevirtual 58, 3) := by decide +kernel
theorem dL_law_423 : decode cL_law 423 = .ok (.if_icmp .eq 474, 3) := by decide +kernel
theorem dL_law_426 : decode cL_law 426 = .ok (.iconst 0, 1) := by decide +kernel
theorem dL_law_427 : decode cL_law 427 = .ok (.ireturn, 1) := by decide +kernel
theorem dL_law_428 : decode cL_law 428 = .ok (.aload_n 1, 1) := by decide +kernel
theorem dL_law_429 : decode cL_law 429 = .ok (.aload_n 0, 1) := by decide +kernel
theorem dL_law_430 : decode cL_law 430 = .ok (.iload_n 3, 1) := by decide +kernel
theorem dL_law_431 : decode cL_law 431 = .ok (.iconst 1, 1) := by decide +kernel
theorem dL_law_432 : decode cL_law 432 = .ok (.iadd, 1) := by decide +kernel
theorem dL_law_433 : decode cL_law 433 = .ok (.iaload, 1) := by decide +kernel
theorem dL_law_434 : decode cL_law 434 = .ok (.aload_n 0, 1) := by decide +kernel
theorem dL_law_435 : decode cL_law 435 = .ok (.iload_n 3, 1) := by decide +kernel
theorem dL_law_436 : decode cL_law 436 = .ok (.iconst 2, 1) := by decide +kernel
theorem dL_law_437 : decode cL_law 437 = .ok (.iadd, 1) := by decide +kernel
theorem dL_law_438 : decode cL_law 438 = .ok (.iaload, 1) := by decide +kernel
theorem dL_law_439 : decode cL_law 439 = .ok (.invokevirtual 59, 3) := by decide +kernel
theorem dL_law_442 : decode cL_law 442 = .ok (.aload_n 2, 1) := by decide +kernel
theorem dL_law_443 : decode cL_law 443 = .ok (.aload_n 0, 1) := by decide +kernel
theorem dL_law_444 : decode cL_law 444 = .ok (.iload_n 3, 1) := by decide +kernel
theorem dL_law_445 : decode cL_law 445 = .ok (.iconst 1, 1) := by decide +kernel
theorem dL_law_446 : decode cL_law 446 = .ok (.iadd, 1) := by decide +kernel
theorem dL_law_447 : decode cL_law 447 = .ok (.iaload, 1) := by decide +kernel
theorem dL_law_448 : decode cL_law 448 = .ok (.aload_n 0, 1) := by decide +kernel
theorem dL_law_449 : decode cL_law 449 = .ok (.iload_n 3, 1) := by decide +kernel
theorem dL_law_450 : decode cL_law 450 = .ok (.iconst 2, 1) := by decide +kernel
theorem dL_law_451 : decode cL_law 451 = .ok (.iadd, 1) := by decide +kernel
theorem dL_law_452 : decode cL_law 452 = .ok (.iaload, 1) := by decide +kernel
theorem dL_law_453 : decode cL_law 453 = .ok (.invokevirtual 62, 3) := by decide +kernel
theorem dL_law_456 : decode cL_law 456 = .ok (.if_icmp .eq 441, 3) := by decide +kernel
theorem dL_law_459 : decode cL_law 459 = .ok (.iconst 0, 1) := by decide +kernel
theorem dL_law_460 : decode cL_law 460 = .ok (.ireturn, 1) := by decide +kernel
theorem dL_law_461 : decode cL_law 461 = .ok (.aload_n 1, 1) := by decide +kernel
theorem dL_law_462 : decode cL_law 462 = .ok (.aload_n 0, 1) := by decide +kernel
theorem dL_law_463 : decode cL_law 463 = .ok (.iload_n 3, 1) := by decide +kernel
theorem dL_law_464 : decode cL_law 464 = .ok (.iconst 1, 1) := by decide +kernel
theorem dL_law_465 : decode cL_law 465 = .ok (.iadd, 1) := by decide +kernel
theorem dL_law_466 : decode cL_law 466 = .ok (.iaload, 1) := by decide +kernel
theorem dL_law_467 : decode cL_law 467 = .ok (.aload_n 0, 1) := by decide +kernel
theorem dL_law_468 : decode cL_law 468 = .ok (.iload_n 3, 1) := by decide +kernel
theorem dL_law_469 : decode cL_law 469 = .ok (.iconst 2, 1) := by decide +kernel
theorem dL_law_470 : decode cL_law 470 = .ok (.iadd, 1) := by decide +kernel
theorem dL_law_471 : decode cL_law 471 = .ok (.iaload, 1) := by decide +kernel
theorem dL_law_472 : decode cL_law 472 = .ok (.ifCond .eq 7, 3) := by decide +kernel
theorem dL_law_475 : decode cL_law 475 = .ok (.iconst 1, 1) := by decide +kernel
theorem dL_law_476 : decode cL_law 476 = .ok (.goto 4, 3) := by decide +kernel
theorem dL_law_479 : decode cL_law 479 = .ok (.iconst 0, 1) := by decide +kernel
theorem dL_law_480 : decode cL_law 480 = .ok (.invokevirtual 63, 3) := by decide +kernel
theorem dL_law_483 : decode cL_law 483 = .ok (.aload_n 2, 1) := by decide +kernel
theorem dL_law_484 : decode cL_law 484 = .ok (.aload_n 0, 1) := by decide +kernel
theorem dL_law_485 : decode cL_law 485 = .ok (.iload_n 3, 1) := by decide +kernel
theorem dL_law_486 : decode cL_law 486 = .ok (.iconst 1, 1) := by decide +kernel
theorem dL_law_487 : decode cL_law 487 = .ok (.iadd, 1) := by decide +kernel
theorem dL_law_488 : decode cL_law 488 = .ok (.iaload, 1) := by decide +kernel
theorem dL_law_489 : decode cL_law 489 = .ok (.aload_n 0, 1) := by decide +kernel
theorem dL_law_490 : decode cL_law 490 = .ok (.iload_n 3, 1) := by decide +kernel
theorem dL_law_491 : decode cL_law 491 = .ok (.iconst 2, 1) := by decide +kernel
theorem dL_law_492 : decode cL_law 492 = .ok (.iadd, 1) := by decide +kernel
theorem dL_law_493 : decode cL_law 493 = .ok (.iaload, 1) := by decide +kernel
theorem dL_law_494 : decode cL_law 494 = .ok (.ifCond .eq 7, 3) := by decide +kernel
theorem dL_law_497 : decode cL_law 497 = .ok (.iconst 1, 1) := by decide +kernel
theorem dL_law_498 : decode cL_law 498 = .ok (.goto 4, 3) := by decide +kernel
theorem dL_law_501 : decode cL_law 501 = .ok (.iconst 0, 1) := by decide +kernel
theorem dL_law_502 : decode cL_law 502 = .ok (.invokevirtual 67, 3) := by decide +kernel
theorem dL_law_505 : decode cL_law 505 = .ok (.if_icmp .eq 392, 3) := by decide +kernel
theorem dL_law_508 : decode cL_law 508 = .ok (.iconst 0, 1) := by decide +kernel
theorem dL_law_509 : decode cL_law 509 = .ok (.ireturn, 1) := by decide +kernel
theorem dL_law_510 : decode cL_law 510 = .ok (.aload_n 1, 1) := by decide +kernel
theorem dL_law_511 : decode cL_law 511 = .ok (.invokevirtual 68, 3) := by decide +kernel
theorem dL_law_514 : decode cL_law 514 = .ok (.aload_n 2, 1) := by decide +kernel
theorem dL_law_515 : decode cL_law 515 = .ok (.invokevirtual 71, 3) := by decide +kernel
theorem dL_law_518 : decode cL_law 518 = .ok (.if_icmp .eq 379, 3) := by decide +kernel
theorem dL_law_521 : decode cL_law 521 = .ok (.iconst 0, 1) := by decide +kernel
theorem dL_law_522 : decode cL_law 522 = .ok (.ireturn, 1) := by decide +kernel
theorem dL_law_523 : decode cL_law 523 = .ok (.aload_n 1, 1) := by decide +kernel
theorem dL_law_524 : decode cL_law 524 = .ok (.invokevirtual 72, 3) := by decide +kernel
theorem dL_law_527 : decode cL_law 527 = .ok (.aload_n 2, 1) := by decide +kernel
theorem dL_law_528 : decode cL_law 528 = .ok (.invokevirtual 75, 3) := by decide +kernel
theorem dL_law_531 : decode cL_law 531 = .ok (.if_icmp .eq 366, 3) := by decide +kernel
theorem dL_law_534 : decode cL_law 534 = .ok (.iconst 0, 1) := by decide +kernel
theorem dL_law_535 : decode cL_law 535 = .ok (.ireturn, 1) := by decide +kernel
theorem dL_law_536 : decode cL_law 536 = .ok (.aload_n 1, 1) := by decide +kernel
theorem dL_law_537 : decode cL_law 537 = .ok (.aload_n 0, 1) := by decide +kernel
theorem dL_law_538 : decode cL_law 538 = .ok (.iload_n 3, 1) := by decide +kernel
theorem dL_law_539 : decode cL_law 539 = .ok (.iconst 1, 1) := by decide +kernel
theorem dL_law_540 : decode cL_law 540 = .ok (.iadd, 1) := by decide +kernel
theorem dL_law_541 : decode cL_law 541 = .ok (.iaload, 1) := by decide +kernel
theorem dL_law_542 : decode cL_law 542 = .ok (.aload_n 0, 1) := by decide +kernel
theorem dL_law_543 : decode cL_law 543 = .ok (.iload_n 3, 1) := by decide +kernel
theorem dL_law_544 : decode cL_law 544 = .ok (.iconst 2, 1) := by decide +kernel
theorem dL_law_545 : decode cL_law 545 = .ok (.iadd, 1) := by decide +kernel
theorem dL_law_546 : decode cL_law 546 = .ok (.iaload, 1) := by decide +kernel
theorem dL_law_547 : decode cL_law 547 = .ok (.aload_n 0, 1) := by decide +kernel
theorem dL_law_548 : decode cL_law 548 = .ok (.iload_n 3, 1) := by decide +kernel
theorem dL_law_549 : decode cL_law 549 = .ok (.iconst 3, 1) := by decide +kernel
theorem dL_law_550 : decode cL_law 550 = .ok (.iadd, 1) := by decide +kernel
theorem dL_law_551 : decode cL_law 551 = .ok (.iaload, 1) := by decide +kernel
theorem dL_law_552 : decode cL_law 552 = .ok (.invokevirtual 76, 3) := by decide +kernel
theorem dL_law_555 : decode cL_law 555 = .ok (.aload_n 2, 1) := by decide +kernel
theorem dL_law_556 : decode cL_law 556 = .ok (.aload_n 0, 1) := by decide +kernel
theorem dL_law_557 : decode cL_law 557 = .ok (.iload_n 3, 1) := by decide +kernel
theorem dL_law_558 : decode cL_law 558 = .ok (.iconst 1, 1) := by decide +kernel
theorem dL_law_559 : decode cL_law 559 = .ok (.iadd, 1) := by decide +kernel
theorem dL_law_560 : decode cL_law 560 = .ok (.iaload, 1) := by decide +kernel
theorem dL_law_561 : decode cL_law 561 = .ok (.aload_n 0, 1) := by decide +kernel
theorem dL_law_562 : decode cL_law 562 = .ok (.iload_n 3, 1) := by decide +kernel
theorem dL_law_563 : decode cL_law 563 = .ok (.iconst 2, 1) := by decide +kernel
theorem dL_law_564 : decode cL_law 564 = .ok (.iadd, 1) := by decide +kernel
theorem dL_law_565 : decode cL_law 565 = .ok (.iaload, 1) := by decide +kernel
theorem dL_law_566 : decode cL_law 566 = .ok (.aload_n 0, 1) := by decide +kernel
theorem dL_law_567 : decode cL_law 567 = .ok (.iload_n 3, 1) := by decide +kernel
theorem dL_law_568 : decode cL_law 568 = .ok (.iconst 3, 1) := by decide +kernel
theorem dL_law_569 : decode cL_law 569 = .ok (.iadd, 1) := by decide +kernel
theorem dL_law_570 : decode cL_law 570 = .ok (.iaload, 1) := by decide +kernel
theorem dL_law_571 : decode cL_law 571 = .ok (.invokevirtual 80, 3) := by decide +kernel
theorem dL_law_574 : decode cL_law 574 = .ok (.if_icmp .eq 323, 3) := by decide +kernel
theorem dL_law_577 : decode cL_law 577 = .ok (.iconst 0, 1) := by decide +kernel
theorem dL_law_578 : decode cL_law 578 = .ok (.ireturn, 1) := by decide +kernel
theorem dL_law_579 : decode cL_law 579 = .ok (.aload_n 1, 1) := by decide +kernel
theorem dL_law_580 : decode cL_law 580 = .ok (.aload_n 0, 1) := by decide +kernel
theorem dL_law_581 : decode cL_law 581 = .ok (.iload_n 3, 1) := by decide +kernel
theorem dL_law_582 : decode cL_law 582 = .ok (.iconst 1, 1) := by decide +kernel
theorem dL_law_583 : decode cL_law 583 = .ok (.iadd, 1) := by decide +kernel
theorem dL_law_584 : decode cL_law 584 = .ok (.iaload, 1) := by decide +kernel
theorem dL_law_585 : decode cL_law 585 = .ok (.aload_n 0, 1) := by decide +kernel
theorem dL_law_586 : decode cL_law 586 = .ok (.iload_n 3, 1) := by decide +kernel
theorem dL_law_587 : decode cL_law 587 = .ok (.iconst 2, 1) := by decide +kernel
theorem dL_law_588 : decode cL_law 588 = .ok (.iadd, 1) := by decide +kernel
theorem dL_law_589 : decode cL_law 589 = .ok (.iaload, 1) := by decide +kernel
theorem dL_law_590 : decode cL_law 590 = .ok (.invokevirtual 81, 3) := by decide +kernel
theorem dL_law_593 : decode cL_law 593 = .ok (.aload_n 2, 1) := by decide +kernel
theorem dL_law_594 : decode cL_law 594 = .ok (.aload_n 0, 1) := by decide +kernel
theorem dL_law_595 : decode cL_law 595 = .ok (.iload_n 3, 1) := by decide +kernel
theorem dL_law_596 : decode cL_law 596 = .ok (.iconst 1, 1) := by decide +kernel
theorem dL_law_597 : decode cL_law 597 = .ok (.iadd, 1) := by decide +kernel
theorem dL_law_598 : decode cL_law 598 = .ok (.iaload, 1) := by decide +kernel
theorem dL_law_599 : decode cL_law 599 = .ok (.aload_n 0, 1) := by decide +kernel
theorem dL_law_600 : decode cL_law 600 = .ok (.iload_n 3, 1) := by decide +kernel
theorem dL_law_601 : decode cL_law 601 = .ok (.iconst 2, 1) := by decide +kernel
theorem dL_law_602 : decode cL_law 602 = .ok (.iadd, 1) := by decide +kernel
theorem dL_law_603 : decode cL_law 603 = .ok (.iaload, 1) := by decide +kernel
theorem dL_law_604 : decode cL_law 604 = .ok (.invokevirtual 84, 3) := by decide +kernel
theorem dL_law_607 : decode cL_law 607 = .ok (.if_icmp .eq 290, 3) := by decide +kernel
theorem dL_law_610 : decode cL_law 610 = .ok (.iconst 0, 1) := by decide +kernel
theorem dL_law_611 : decode cL_law 611 = .ok (.ireturn, 1) := by decide +kernel
theorem dL_law_612 : decode cL_law 612 = .ok (.aload_n 1, 1) := by decide +kernel
theorem dL_law_613 : decode cL_law 613 = .ok (.aload_n 0, 1) := by decide +kernel
theorem dL_law_614 : decode cL_law 614 = .ok (.iload_n 3, 1) := by decide +kernel
theorem dL_law_615 : decode cL_law 615 = .ok (.iconst 1, 1) := by decide +kernel
theorem dL_law_616 : decode cL_law 616 = .ok (.iadd, 1) := by decide +kernel
theorem dL_law_617 : decode cL_law 617 = .ok (.iaload, 1) := by decide +kernel
theorem dL_law_618 : decode cL_law 618 = .ok (.invokevirtual 85, 3) := by decide +kernel
theorem dL_law_621 : decode cL_law 621 = .ok (.aload_n 2, 1) := by decide +kernel
theorem dL_law_622 : decode cL_law 622 = .ok (.aload_n 0, 1) := by decide +kernel
theorem dL_law_623 : decode cL_law 623 = .ok (.iload_n 3, 1) := by decide +kernel
theorem dL_law_624 : decode cL_law 624 = .ok (.iconst 1, 1) := by decide +kernel
theorem dL_law_625 : decode cL_law 625 = .ok (.iadd, 1) := by decide +kernel
theorem dL_law_626 : decode cL_law 626 = .ok (.iaload, 1) := by decide +kernel
theorem dL_law_627 : decode cL_law 627 = .ok (.invokevirtual 88, 3) := by decide +kernel
theorem dL_law_630 : decode cL_law 630 = .ok (.if_icmp .eq 267, 3) := by decide +kernel
theorem dL_law_633 : decode cL_law 633 = .ok (.iconst 0, 1) := by decide +kernel
theorem dL_law_634 : decode cL_law 634 = .ok (.ireturn, 1) := by decide +kernel
theorem dL_law_635 : decode cL_law 635 = .ok (.aload_n 1, 1) := by decide +kernel
theorem dL_law_636 : decode cL_law 636 = .ok (.invokevirtual 89, 3) := by decide +kernel
theorem dL_law_639 : decode cL_law 639 = .ok (.aload_n 2, 1) := by decide +kernel
theorem dL_law_640 : decode cL_law 640 = .ok (.invokevirtual 92, 3) := by decide +kernel
theorem dL_law_643 : decode cL_law 643 = .ok (.if_icmp .eq 254, 3) := by decide +kernel
theorem dL_law_646 : decode cL_law 646 = .ok (.iconst 0, 1) := by decide +kernel
theorem dL_law_647 : decode cL_law 647 = .ok (.ireturn, 1) := by decide +kernel
theorem dL_law_648 : decode cL_law 648 = .ok (.aload_n 1, 1) := by decide +kernel
theorem dL_law_649 : decode cL_law 649 = .ok (.aload_n 0, 1) := by decide +kernel
theorem dL_law_650 : decode cL_law 650 = .ok (.iload_n 3, 1) := by decide +kernel
theorem dL_law_651 : decode cL_law 651 = .ok (.iconst 1, 1) := by decide +kernel
theorem dL_law_652 : decode cL_law 652 = .ok (.iadd, 1) := by decide +kernel
theorem dL_law_653 : decode cL_law 653 = .ok (.iaload, 1) := by decide +kernel
theorem dL_law_654 : decode cL_law 654 = .ok (.invokevirtual 93, 3) := by decide +kernel
theorem dL_law_657 : decode cL_law 657 = .ok (.aload_n 2, 1) := by decide +kernel
theorem dL_law_658 : decode cL_law 658 = .ok (.aload_n 0, 1) := by decide +kernel
theorem dL_law_659 : decode cL_law 659 = .ok (.iload_n 3, 1) := by decide +kernel
theorem dL_law_660 : decode cL_law 660 = .ok (.iconst 1, 1) := by decide +kernel
theorem dL_law_661 : decode cL_law 661 = .ok (.iadd, 1) := by decide +kernel
theorem dL_law_662 : decode cL_law 662 = .ok (.iaload, 1) := by decide +kernel
theorem dL_law_663 : decode cL_law 663 = .ok (.invokevirtual 96, 3) := by decide +kernel
theorem dL_law_666 : decode cL_law 666 = .ok (.if_icmp .eq 231, 3) := by decide +kernel
theorem dL_law_669 : decode cL_law 669 = .ok (.iconst 0, 1) := by decide +kernel
theorem dL_law_670 : decode cL_law 670 = .ok (.ireturn, 1) := by decide +kernel
theorem dL_law_671 : decode cL_law 671 = .ok (.aload_n 1, 1) := by decide +kernel
theorem dL_law_672 : decode cL_law 672 = .ok (.aload_n 0, 1) := by decide +kernel
theorem dL_law_673 : decode cL_law 673 = .ok (.iload_n 3, 1) := by decide +kernel
theorem dL_law_674 : decode cL_law 674 = .ok (.iconst 1, 1) := by decide +kernel
theorem dL_law_675 : decode cL_law 675 = .ok (.iadd, 1) := by decide +kernel
theorem dL_law_676 : decode cL_law 676 = .ok (.iaload, 1) := by decide +kernel
theorem dL_law_677 : decode cL_law 677 = .ok (.aload_n 0, 1) := by decide +kernel
theorem dL_law_678 : decode cL_law 678 = .ok (.iload_n 3, 1) := by decide +kernel
theorem dL_law_679 : decode cL_law 679 = .ok (.iconst 2, 1) := by decide +kernel
theorem dL_law_680 : decode cL_law 680 = .ok (.iadd, 1) := by decide +kernel
theorem dL_law_681 : decode cL_law 681 = .ok (.iaload, 1) := by decide +kernel
theorem dL_law_682 : decode cL_law 682 = .ok (.aload_n 0, 1) := by decide +kernel
theorem dL_law_683 : decode cL_law 683 = .ok (.iload_n 3, 1) := by decide +kernel
theorem dL_law_684 : decode cL_law 684 = .ok (.iconst 3, 1) := by decide +kernel
theorem dL_law_685 : decode cL_law 685 = .ok (.iadd, 1) := by decide +kernel
theorem dL_law_686 : decode cL_law 686 = .ok (.iaload, 1) := by decide +kernel
theorem dL_law_687 : decode cL_law 687 = .ok (.invokevirtual 97, 3) := by decide +kernel
theorem dL_law_690 : decode cL_law 690 = .ok (.aload_n 2, 1) := by decide +kernel
theorem dL_law_691 : decode cL_law 691 = .ok (.aload_n 0, 1) := by decide +kernel
theorem dL_law_692 : decode cL_law 692 = .ok (.iload_n 3, 1) := by decide +kernel
theorem dL_law_693 : decode cL_law 693 = .ok (.iconst 1, 1) := by decide +kernel
theorem dL_law_694 : decode cL_law 694 = .ok (.iadd, 1) := by decide +kernel
theorem dL_law_695 : decode cL_law 695 = .ok (.iaload, 1) := by decide +kernel
theorem dL_law_696 : decode cL_law 696 = .ok (.aload_n 0, 1) := by decide +kernel
theorem dL_law_697 : decode cL_law 697 = .ok (.iload_n 3, 1) := by decide +kernel
theorem dL_law_698 : decode cL_law 698 = .ok (.iconst 2, 1) := by decide +kernel
theorem dL_law_699 : decode cL_law 699 = .ok (.iadd, 1) := by decide +kernel
theorem dL_law_700 : decode cL_law 700 = .ok (.iaload, 1) := by decide +kernel
theorem dL_law_701 : decode cL_law 701 = .ok (.aload_n 0, 1) := by decide +kernel
theorem dL_law_702 : decode cL_law 702 = .ok (.iload_n 3, 1) := by decide +kernel
theorem dL_law_703 : decode cL_law 703 = .ok (.iconst 3, 1) := by decide +kernel
theorem dL_law_704 : decode cL_law 704 = .ok (.iadd, 1) := by decide +kernel
theorem dL_law_705 : decode cL_law 705 = .ok (.iaload, 1) := by decide +kernel
theorem dL_law_706 : decode cL_law 706 = .ok (.invokevirtual 101, 3) := by decide +kernel
theorem dL_law_709 : decode cL_law 709 = .ok (.lcmp, 1) := by decide +kernel
theorem dL_law_710 : decode cL_law 710 = .ok (.ifCond .eq 187, 3) := by decide +kernel
theorem dL_law_713 : decode cL_law 713 = .ok (.iconst 0, 1) := by decide +kernel
theorem dL_law_714 : decode cL_law 714 = .ok (.ireturn, 1) := by decide +kernel
theorem dL_law_715 : decode cL_law 715 = .ok (.aload_n 1, 1) := by decide +kernel
theorem dL_law_716 : decode cL_law 716 = .ok (.aload_n 0, 1) := by decide +kernel
theorem dL_law_717 : decode cL_law 717 = .ok (.iload_n 3, 1) := by decide +kernel
theorem dL_law_718 : decode cL_law 718 = .ok (.iconst 1, 1) := by decide +kernel
theorem dL_law_719 : decode cL_law 719 = .ok (.iadd, 1) := by decide +kernel
theorem dL_law_720 : decode cL_law 720 = .ok (.iaload, 1) := by decide +kernel
theorem dL_law_721 : decode cL_law 721 = .ok (.aload_n 0, 1) := by decide +kernel
theorem dL_law_722 : decode cL_law 722 = .ok (.iload_n 3, 1) := by decide +kernel
theorem dL_law_723 : decode cL_law 723 = .ok (.iconst 2, 1) := by decide +kernel
theorem dL_law_724 : decode cL_law 724 = .ok (.iadd, 1) := by decide +kernel
theorem dL_law_725 : decode cL_law 725 = .ok (.iaload, 1) := by decide +kernel
theorem dL_law_726 : decode cL_law 726 = .ok (.aload_n 0, 1) := by decide +kernel
theorem dL_law_727 : decode cL_law 727 = .ok (.iload_n 3, 1) := by decide +kernel
theorem dL_law_728 : decode cL_law 728 = .ok (.iconst 3, 1) := by decide +kernel
theorem dL_law_729 : decode cL_law 729 = .ok (.iadd, 1) := by decide +kernel
theorem dL_law_730 : decode cL_law 730 = .ok (.iaload, 1) := by decide +kernel
theorem dL_law_731 : decode cL_law 731 = .ok (.invokevirtual 102, 3) := by decide +kernel
theorem dL_law_734 : decode cL_law 734 = .ok (.aload_n 2, 1) := by decide +kernel
theorem dL_law_735 : decode cL_law 735 = .ok (.aload_n 0, 1) := by decide +kernel
theorem dL_law_736 : decode cL_law 736 = .ok (.iload_n 3, 1) := by decide +kernel
theorem dL_law_737 : decode cL_law 737 = .ok (.iconst 1, 1) := by decide +kernel
theorem dL_law_738 : decode cL_law 738 = .ok (.iadd, 1) := by decide +kernel
theorem dL_law_739 : decode cL_law 739 = .ok (.iaload, 1) := by decide +kernel
theorem dL_law_740 : decode cL_law 740 = .ok (.aload_n 0, 1) := by decide +kernel
theorem dL_law_741 : decode cL_law 741 = .ok (.iload_n 3, 1) := by decide +kernel
theorem dL_law_742 : decode cL_law 742 = .ok (.iconst 2, 1) := by decide +kernel
theorem dL_law_743 : decode cL_law 743 = .ok (.iadd, 1) := by decide +kernel
theorem dL_law_744 : decode cL_law 744 = .ok (.iaload, 1) := by decide +kernel
theorem dL_law_745 : decode cL_law 745 = .ok (.aload_n 0, 1) := by decide +kernel
theorem dL_law_746 : decode cL_law 746 = .ok (.iload_n 3, 1) := by decide +kernel
theorem dL_law_747 : decode cL_law 747 = .ok (.iconst 3, 1) := by decide +kernel
theorem dL_law_748 : decode cL_law 748 = .ok (.iadd, 1) := by decide +kernel
theorem dL_law_749 : decode cL_law 749 = .ok (.iaload, 1) := by decide +kernel
theorem dL_law_750 : decode cL_law 750 = .ok (.invokevirtual 105, 3) := by decide +kernel
theorem dL_law_753 : decode cL_law 753 = .ok (.if_icmp .eq 144, 3) := by decide +kernel
theorem dL_law_756 : decode cL_law 756 = .ok (.iconst 0, 1) := by decide +kernel
theorem dL_law_757 : decode cL_law 757 = .ok (.ireturn, 1) := by decide +kernel
theorem dL_law_758 : decode cL_law 758 = .ok (.aload_n 1, 1) := by decide +kernel
theorem dL_law_759 : decode cL_law 759 = .ok (.aload_n 0, 1) := by decide +kernel
theorem dL_law_760 : decode cL_law 760 = .ok (.iload_n 3, 1) := by decide +kernel
theorem dL_law_761 : decode cL_law 761 = .ok (.iconst 1, 1) := by decide +kernel
theorem dL_law_762 : decode cL_law 762 = .ok (.iadd, 1) := by decide +kernel
theorem dL_law_763 : decode cL_law 763 = .ok (.iaload, 1) := by decide +kernel
theorem dL_law_764 : decode cL_law 764 = .ok (.aload_n 0, 1) := by decide +kernel
theorem dL_law_765 : decode cL_law 765 = .ok (.iload_n 3, 1) := by decide +kernel
theorem dL_law_766 : decode cL_law 766 = .ok (.iconst 2, 1) := by decide +kernel
theorem dL_law_767 : decode cL_law 767 = .ok (.iadd, 1) := by decide +kernel
theorem dL_law_768 : decode cL_law 768 = .ok (.iaload, 1) := by decide +kernel
theorem dL_law_769 : decode cL_law 769 = .ok (.aload_n 0, 1) := by decide +kernel
theorem dL_law_770 : decode cL_law 770 = .ok (.iload_n 3, 1) := by decide +kernel
theorem dL_law_771 : decode cL_law 771 = .ok (.iconst 3, 1) := by decide +kernel
theorem dL_law_772 : decode cL_law 772 = .ok (.iadd, 1) := by decide +kernel
theorem dL_law_773 : decode cL_law 773 = .ok (.iaload, 1) := by decide +kernel
theorem dL_law_774 : decode cL_law 774 = .ok (.ifCond .eq 7, 3) := by decide +kernel
theorem dL_law_777 : decode cL_law 777 = .ok (.iconst 1, 1) := by decide +kernel
theorem dL_law_778 : decode cL_law 778 = .ok (.goto 4, 3) := by decide +kernel
theorem dL_law_781 : decode cL_law 781 = .ok (.iconst 0, 1) := by decide +kernel
theorem dL_law_782 : decode cL_law 782 = .ok (.invokevirtual 106, 3) := by decide +kernel
theorem dL_law_785 : decode cL_law 785 = .ok (.aload_n 2, 1) := by decide +kernel
theorem dL_law_786 : decode cL_law 786 = .ok (.aload_n 0, 1) := by decide +kernel
theorem dL_law_787 : decode cL_law 787 = .ok (.iload_n 3, 1) := by decide +kernel
theorem dL_law_788 : decode cL_law 788 = .ok (.iconst 1, 1) := by decide +kernel
theorem dL_law_789 : decode cL_law 789 = .ok (.iadd, 1) := by decide +kernel
theorem dL_law_790 : decode cL_law 790 = .ok (.iaload, 1) := by decide +kernel
theorem dL_law_791 : decode cL_law 791 = .ok (.aload_n 0, 1) := by decide +kernel
theorem dL_law_792 : decode cL_law 792 = .ok (.iload_n 3, 1) := by decide +kernel
theorem dL_law_793 : decode cL_law 793 = .ok (.iconst 2, 1) := by decide +kernel
theorem dL_law_794 : decode cL_law 794 = .ok (.iadd, 1) := by decide +kernel
theorem dL_law_795 : decode cL_law 795 = .ok (.iaload, 1) := by decide +kernel
theorem dL_law_796 : decode cL_law 796 = .ok (.aload_n 0, 1) := by decide +kernel
theorem dL_law_797 : decode cL_law 797 = .ok (.iload_n 3, 1) := by decide +kernel
theorem dL_law_798 : decode cL_law 798 = .ok (.iconst 3, 1) := by decide +kernel
theorem dL_law_799 : decode cL_law 799 = .ok (.iadd, 1) := by decide +kernel
theorem dL_law_800 : decode cL_law 800 = .ok (.iaload, 1) := by decide +kernel
theorem dL_law_801 : decode cL_law 801 = .ok (.ifCond .eq 7, 3) := by decide +kernel
theorem dL_law_804 : decode cL_law 804 = .ok (.iconst 1, 1) := by decide +kernel
theorem dL_law_805 : decode cL_law 805 = .ok (.goto 4, 3) := by decide +kernel
theorem dL_law_808 : decode cL_law 808 = .ok (.iconst 0, 1) := by decide +kernel
theorem dL_law_809 : decode cL_law 809 = .ok (.invokevirtual 110, 3) := by decide +kernel
theorem dL_law_812 : decode cL_law 812 = .ok (.lcmp, 1) := by decide +kernel
theorem dL_law_813 : decode cL_law 813 = .ok (.ifCond .eq 84, 3) := by decide +kernel
theorem dL_law_816 : decode cL_law 816 = .ok (.iconst 0, 1) := by decide +kernel
theorem dL_law_817 : decode cL_law 817 = .ok (.ireturn, 1) := by decide +kernel
theorem dL_law_818 : decode cL_law 818 = .ok (.aload_n 1, 1) := by decide +kernel
theorem dL_law_819 : decode cL_law 819 = .ok (.aload_n 0, 1) := by decide +kernel
theorem dL_law_820 : decode cL_law 820 = .ok (.iload_n 3, 1) := by decide +kernel
theorem dL_law_821 : decode cL_law 821 = .ok (.iconst 1, 1) := by decide +kernel
theorem dL_law_822 : decode cL_law 822 = .ok (.iadd, 1) := by decide +kernel
theorem dL_law_823 : decode cL_law 823 = .ok (.iaload, 1) := by decide +kernel
theorem dL_law_824 : decode cL_law 824 = .ok (.aload_n 0, 1) := by decide +kernel
theorem dL_law_825 : decode cL_law 825 = .ok (.iload_n 3, 1) := by decide +kernel
theorem dL_law_826 : decode cL_law 826 = .ok (.iconst 2, 1) := by decide +kernel
theorem dL_law_827 : decode cL_law 827 = .ok (.iadd, 1) := by decide +kernel
theorem dL_law_828 : decode cL_law 828 = .ok (.iaload, 1) := by decide +kernel
theorem dL_law_829 : decode cL_law 829 = .ok (.invokevirtual 111, 3) := by decide +kernel
theorem dL_law_832 : decode cL_law 832 = .ok (.aload_n 2, 1) := by decide +kernel
theorem dL_law_833 : decode cL_law 833 = .ok (.aload_n 0, 1) := by decide +kernel
theorem dL_law_834 : decode cL_law 834 = .ok (.iload_n 3, 1) := by decide +kernel
theorem dL_law_835 : decode cL_law 835 = .ok (.iconst 1, 1) := by decide +kernel
theorem dL_law_836 : decode cL_law 836 = .ok (.iadd, 1) := by decide +kernel
theorem dL_law_837 : decode cL_law 837 = .ok (.iaload, 1) := by decide +kernel
theorem dL_law_838 : decode cL_law 838 = .ok (.aload_n 0, 1) := by decide +kernel
theorem dL_law_839 : decode cL_law 839 = .ok (.iload_n 3, 1) := by decide +kernel
theorem dL_law_840 : decode cL_law 840 = .ok (.iconst 2, 1) := by decide +kernel
theorem dL_law_841 : decode cL_law 841 = .ok (.iadd, 1) := by decide +kernel
theorem dL_law_842 : decode cL_law 842 = .ok (.iaload, 1) := by decide +kernel
theorem dL_law_843 : decode cL_law 843 = .ok (.invokevirtual 114, 3) := by decide +kernel
theorem dL_law_846 : decode cL_law 846 = .ok (.if_icmp .eq 51, 3) := by decide +kernel
theorem dL_law_849 : decode cL_law 849 = .ok (.iconst 0, 1) := by decide +kernel
theorem dL_law_850 : decode cL_law 850 = .ok (.ireturn, 1) := by decide +kernel
theorem dL_law_851 : decode cL_law 851 = .ok (.aload_n 1, 1) := by decide +kernel
theorem dL_law_852 : decode cL_law 852 = .ok (.aload_n 0, 1) := by decide +kernel
theorem dL_law_853 : decode cL_law 853 = .ok (.iload_n 3, 1) := by decide +kernel
theorem dL_law_854 : decode cL_law 854 = .ok (.iconst 1, 1) := by decide +kernel
theorem dL_law_855 : decode cL_law 855 = .ok (.iadd, 1) := by decide +kernel
theorem dL_law_856 : decode cL_law 856 = .ok (.iaload, 1) := by decide +kernel
theorem dL_law_857 : decode cL_law 857 = .ok (.invokevirtual 115, 3) := by decide +kernel
theorem dL_law_860 : decode cL_law 860 = .ok (.aload_n 2, 1) := by decide +kernel
theorem dL_law_861 : decode cL_law 861 = .ok (.aload_n 0, 1) := by decide +kernel
theorem dL_law_862 : decode cL_law 862 = .ok (.iload_n 3, 1) := by decide +kernel
theorem dL_law_863 : decode cL_law 863 = .ok (.iconst 1, 1) := by decide +kernel
theorem dL_law_864 : decode cL_law 864 = .ok (.iadd, 1) := by decide +kernel
theorem dL_law_865 : decode cL_law 865 = .ok (.iaload, 1) := by decide +kernel
theorem dL_law_866 : decode cL_law 866 = .ok (.invokevirtual 118, 3) := by decide +kernel
theorem dL_law_869 : decode cL_law 869 = .ok (.if_icmp .eq 28, 3) := by decide +kernel
theorem dL_law_872 : decode cL_law 872 = .ok (.iconst 0, 1) := by decide +kernel
theorem dL_law_873 : decode cL_law 873 = .ok (.ireturn, 1) := by decide +kernel
theorem dL_law_874 : decode cL_law 874 = .ok (.aload_n 1, 1) := by decide +kernel
theorem dL_law_875 : decode cL_law 875 = .ok (.aload_n 0, 1) := by decide +kernel
theorem dL_law_876 : decode cL_law 876 = .ok (.iload_n 3, 1) := by decide +kernel
theorem dL_law_877 : decode cL_law 877 = .ok (.iconst 1, 1) := by decide +kernel
theorem dL_law_878 : decode cL_law 878 = .ok (.iadd, 1) := by decide +kernel
theorem dL_law_879 : decode cL_law 879 = .ok (.iaload, 1) := by decide +kernel
theorem dL_law_880 : decode cL_law 880 = .ok (.invokevirtual 119, 3) := by decide +kernel
theorem dL_law_883 : decode cL_law 883 = .ok (.aload_n 2, 1) := by decide +kernel
theorem dL_law_884 : decode cL_law 884 = .ok (.aload_n 0, 1) := by decide +kernel
theorem dL_law_885 : decode cL_law 885 = .ok (.iload_n 3, 1) := by decide +kernel
theorem dL_law_886 : decode cL_law 886 = .ok (.iconst 1, 1) := by decide +kernel
theorem dL_law_887 : decode cL_law 887 = .ok (.iadd, 1) := by decide +kernel
theorem dL_law_888 : decode cL_law 888 = .ok (.iaload, 1) := by decide +kernel
theorem dL_law_889 : decode cL_law 889 = .ok (.invokevirtual 122, 3) := by decide +kernel
theorem dL_law_892 : decode cL_law 892 = .ok (.if_icmp .eq 5, 3) := by decide +kernel
theorem dL_law_895 : decode cL_law 895 = .ok (.iconst 0, 1) := by decide +kernel
theorem dL_law_896 : decode cL_law 896 = .ok (.ireturn, 1) := by decide +kernel
theorem dL_law_897 : decode cL_law 897 = .ok (.iinc 3 4, 3) := by decide +kernel
theorem dL_law_900 : decode cL_law 900 = .ok (.goto (-882), 3) := by decide +kernel
theorem dL_law_903 : decode cL_law 903 = .ok (.iconst 1, 1) := by decide +kernel
theorem dL_law_904 : decode cL_law 904 = .ok (.ireturn, 1) := by decide +kernel
