theorem dX12_with_211 : decode cX12_with 211 = .ok (.if_icmp .ne 18, 3) := by decide +kernel
theorem dX12_with_214 : decode cX12_with 214 = .ok (.aload_n 0, 1) := by decide +kernel
theorem dX12_with_215 : decode cX12_with 215 = .ok (.getfield 20, 3) := by decide +kernel
theorem dX12_with_218 : decode cX12_with 218 = .ok (.iload 9, 2) := by decide +kernel
theorem dX12_with_220 : decode cX12_with 220 = .ok (.aload_n 0, 1) := by decide +kernel
theorem dX12_with_221 : decode cX12_with 221 = .ok (.iload_n 3, 1) := by decide +kernel
theorem dX12_with_222 : decode cX12_with 222 = .ok (.invokevirtual 524, 3) := by decide +kernel
theorem dX12_with_225 : decode cX12_with 225 = .ok (.dastore, 1) := by decide +kernel
theorem dX12_with_226 : decode cX12_with 226 = .ok (.goto 39, 3) := by decide +kernel
theorem dX12_with_229 : decode cX12_with 229 = .ok (.aload_n 0, 1) := by decide +kernel
theorem dX12_with_230 : decode cX12_with 230 = .ok (.getfield 16, 3) := by decide +kernel
theorem dX12_with_233 : decode cX12_with 233 = .ok (.iload 9, 2) := by decide +kernel
theorem dX12_with_235 : decode cX12_with 235 = .ok (.iload 4, 2) := by decide +kernel
theorem dX12_with_237 : decode cX12_with 237 = .ok (.iconst 2, 1) := by decide +kernel
theorem dX12_with_238 : decode cX12_with 238 = .ok (.if_icmp .ne 17, 3) := by decide +kernel
theorem dX12_with_241 : decode cX12_with 241 = .ok (.aload_n 0, 1) := by decide +kernel
theorem dX12_with_242 : decode cX12_with 242 = .ok (.getfield 16, 3) := by decide +kernel
theorem dX12_with_245 : decode cX12_with 245 = .ok (.bipush 12, 2) := by decide +kernel
theorem dX12_with_247 : decode cX12_with 247 = .ok (.iload_n 3, 1) := by decide +kernel
theorem dX12_with_248 : decode cX12_with 248 = .ok (.imul, 1) := by decide +kernel
theorem dX12_with_249 : decode cX12_with 249 = .ok (.laload, 1) := by decide +kernel
theorem dX12_with_250 : decode cX12_with 250 = .ok (.l2i, 1) := by decide +kernel
theorem dX12_with_251 : decode cX12_with 251 = .ok (.i2l, 1) := by decide +kernel
theorem dX12_with_252 : decode cX12_with 252 = .ok (.goto 12, 3) := by decide +kernel
theorem dX12_with_255 : decode cX12_with 255 = .ok (.aload_n 0, 1) := by decide +kernel
theorem dX12_with_256 : decode cX12_with 256 = .ok (.getfield 16, 3) := by decide +kernel
theorem dX12_with_259 : decode cX12_with 259 = .ok (.bipush 12, 2) := by decide +kernel
theorem dX12_with_261 : decode cX12_with 261 = .ok (.iload_n 3, 1) := by decide +kernel
theorem dX12_with_262 : decode cX12_with 262 = .ok (.imul, 1) := by decide +kernel
theorem dX12_with_263 : decode cX12_with 263 = .ok (.laload, 1) := by decide +kernel
theorem dX12_with_264 : decode cX12_with 264 = .ok (.lastore, 1) := by decide +kernel
theorem dX12_with_265 : decode cX12_with 265 = .ok (.iload 8, 2) := by decide +kernel
theorem dX12_with_267 : decode cX12_with 267 = .ok (.ireturn, 1) := by decide +kernel
theorem dX12_best_0 : decode cX12_best 0 = .ok (.aload_n 0, 1) := by decide +kernel
theorem dX12_best_1 : decode cX12_best 1 = .ok (.getfield 7, 3) := by decide +kernel
theorem dX12_best_4 : decode cX12_best 4 = .ok (.iload_n 1, 1) := by decide +kernel
theorem dX12_best_5 : decode cX12_best 5 = .ok (.iaload, 1) := by decide +kernel
theorem dX12_best_6 : decode cX12_best 6 = .ok (.invokestatic 548, 3) := by decide +kernel
theorem dX12_best_9 : decode cX12_best 9 = .ok (.ifCond .eq 24, 3) := by decide +kernel
theorem dX12_best_12 : decode cX12_best 12 = .ok (.aload_n 0, 1) := by decide +kernel
theorem dX12_best_13 : decode cX12_best 13 = .ok (.getfield 7, 3) := by decide +kernel
theorem dX12_best_16 : decode cX12_best 16 = .ok (.iload_n 1, 1) := by decide +kernel
theorem dX12_best_17 : decode cX12_best 17 = .ok (.iaload, 1) := by decide +kernel
theorem dX12_best_18 : decode cX12_best 18 = .ok (.invokestatic 186, 3) := by decide +kernel
theorem dX12_best_21 : decode cX12_best 21 = .ok (.ifCond .ne 12, 3) := by decide +kernel
theorem dX12_best_24 : decode cX12_best 24 = .ok (.aload_n 0, 1) := by decide +kernel
theorem dX12_best_25 : decode cX12_best 25 = .ok (.getfield 7, 3) := by decide +kernel
theorem dX12_best_28 : decode cX12_best 28 = .ok (.iload_n 2, 1) := by decide +kernel
theorem dX12_best_29 : decode cX12_best 29 = .ok (.iaload, 1) := by decide +kernel
theorem dX12_best_30 : decode cX12_best 30 = .ok (.ifCond .eq 9, 3) := by decide +kernel
theorem dX12_best_33 : decode cX12_best 33 = .ok (.aload_n 0, 1) := by decide +kernel
theorem dX12_best_34 : decode cX12_best 34 = .ok (.iconst 2, 1) := by decide +kernel
theorem dX12_best_35 : decode cX12_best 35 = .ok (.invokevirtual 421, 3) := by decide +kernel
theorem dX12_best_38 : decode cX12_best 38 = .ok (.ireturn, 1) := by decide +kernel
theorem dX12_best_39 : decode cX12_best 39 = .ok (.aload_n 0, 1) := by decide +kernel
theorem dX12_best_40 : decode cX12_best 40 = .ok (.getfield 16, 3) := by decide +kernel
theorem dX12_best_43 : decode cX12_best 43 = .ok (.bipush 12, 2) := by decide +kernel
theorem dX12_best_45 : decode cX12_best 45 = .ok (.iload_n 2, 1) := by decide +kernel
theorem dX12_best_46 : decode cX12_best 46 = .ok (.imul, 1) := by decide +kernel
theorem dX12_best_47 : decode cX12_best 47 = .ok (.laload, 1) := by decide +kernel
theorem dX12_best_48 : decode cX12_best 48 = .ok (.lstore_n 3, 1) := by decide +kernel
theorem dX12_best_49 : decode cX12_best 49 = .ok (.lload_n 3, 1) := by decide +kernel
theorem dX12_best_50 : decode cX12_best 50 = .ok (.lconst 0, 1) := by decide +kernel
theorem dX12_best_51 : decode cX12_best 51 = .ok (.lcmp, 1) := by decide +kernel
theorem dX12_best_52 : decode cX12_best 52 = .ok (.ifCond .ge 9, 3) := by decide +kernel
theorem dX12_best_55 : decode cX12_best 55 = .ok (.aload_n 0, 1) := by decide +kernel
theorem dX12_best_56 : decode cX12_best 56 = .ok (.iconst 4, 1) := by decide +kernel
theorem dX12_best_57 : decode cX12_best 57 = .ok (.invokevirtual 421, 3) := by decide +kernel
theorem dX12_best_60 : decode cX12_best 60 = .ok (.ireturn, 1) := by decide +kernel
theorem dX12_best_61 : decode cX12_best 61 = .ok (.lload_n 3, 1) := by decide +kernel
theorem dX12_best_62 : decode cX12_best 62 = .ok (.aload_n 0, 1) := by decide +kernel
theorem dX12_best_63 : decode cX12_best 63 = .ok (.getfield 13, 3) := by decide +kernel
theorem dX12_best_66 : decode cX12_best 66 = .ok (.iload_n 1, 1) := by decide +kernel
theorem dX12_best_67 : decode cX12_best 67 = .ok (.iaload, 1) := by decide +kernel
theorem dX12_best_68 : decode cX12_best 68 = .ok (.i2l, 1) := by decide +kernel
theorem dX12_best_69 : decode cX12_best 69 = .ok (.lcmp, 1) := by decide +kernel
theorem dX12_best_70 : decode cX12_best 70 = .ok (.ifCond .le 9, 3) := by decide +kernel
theorem dX12_best_73 : decode cX12_best 73 = .ok (.aload_n 0, 1) := by decide +kernel
theorem dX12_best_74 : decode cX12_best 74 = .ok (.iconst 3, 1) := by decide +kernel
theorem dX12_best_75 : decode cX12_best 75 = .ok (.invokevirtual 421, 3) := by decide +kernel
theorem dX12_best_78 : decode cX12_best 78 = .ok (.ireturn, 1) := by decide +kernel
theorem dX12_best_79 : decode cX12_best 79 = .ok (.iconst 0, 1) := by decide +kernel
theorem dX12_best_80 : decode cX12_best 80 = .ok (.istore 5, 2) := by decide +kernel
theorem dX12_best_82 : decode cX12_best 82 = .ok (.iload 5, 2) := by decide +kernel
theorem dX12_best_84 : decode cX12_best 84 = .ok (.bipush 12, 2) := by decide +kernel
theorem dX12_best_86 : decode cX12_best 86 = .ok (.if_icmp .ge 17, 3) := by decide +kernel
theorem dX12_best_89 : decode cX12_best 89 = .ok (.aload_n 0, 1) := by decide +kernel
theorem dX12_best_90 : decode cX12_best 90 = .ok (.getfield 93, 3) := by decide +kernel
theorem dX12_best_93 : decode cX12_best 93 = .ok (.iload 5, 2) := by decide +kernel
theorem dX12_best_95 : decode cX12_best 95 = .ok (.iconst 0, 1) := by decide +kernel
theorem dX12_best_96 : decode cX12_best 96 = .ok (.bastore, 1) := by decide +kernel
theorem dX12_best_97 : decode cX12_best 97 = .ok (.iinc 5 1, 3) := by decide +kernel
theorem dX12_best_100 : decode cX12_best 100 = .ok (.goto (-18), 3) := by decide +kernel
theorem dX12_best_103 : decode cX12_best 103 = .ok (.lconst 0, 1) := by decide +kernel
theorem dX12_best_104 : decode cX12_best 104 = .ok (.lstore 5, 2) := by decide +kernel
theorem dX12_best_106 : decode cX12_best 106 = .ok (.dconst 0, 1) := by decide +kernel
theorem dX12_best_107 : decode cX12_best 107 = .ok (.dstore 7, 2) := by decide +kernel
theorem dX12_best_109 : decode cX12_best 109 = .ok (.iconst 0, 1) := by decide +kernel
theorem dX12_best_110 : decode cX12_best 110 = .ok (.istore 9, 2) := by decide +kernel
theorem dX12_best_112 : decode cX12_best 112 = .ok (.iload 9, 2) := by decide +kernel
theorem dX12_best_114 : decode cX12_best 114 = .ok (.i2l, 1) := by decide +kernel
theorem dX12_best_115 : decode cX12_best 115 = .ok (.lload_n 3, 1) := by decide +kernel
theorem dX12_best_116 : decode cX12_best 116 = .ok (.lcmp, 1) := by decide +kernel
theorem dX12_best_117 : decode cX12_best 117 = .ok (.ifCond .ge 222, 3) := by decide +kernel
theorem dX12_best_120 : decode cX12_best 120 = .ok (.iconst (-1), 1) := by decide +kernel
theorem dX12_best_121 : decode cX12_best 121 = .ok (.istore 10, 2) := by decide +kernel
theorem dX12_best_123 : decode cX12_best 123 = .ok (.iconst 0, 1) := by decide +kernel
theorem dX12_best_124 : decode cX12_best 124 = .ok (.istore 11, 2) := by decide +kernel
theorem dX12_best_126 : decode cX12_best 126 = .ok (.iload 11, 2) := by decide +kernel
theorem dX12_best_128 : decode cX12_best 128 = .ok (.aload_n 0, 1) := by decide +kernel
theorem dX12_best_129 : decode cX12_best 129 = .ok (.getfield 13, 3) := by decide +kernel
theorem dX12_best_132 : decode cX12_best 132 = .ok (.iload_n 1, 1) := by decide +kernel
theorem dX12_best_133 : decode cX12_best 133 = .ok (.iaload, 1) := by decide +kernel
theorem dX12_best_134 : decode cX12_best 134 = .ok (.if_icmp .ge 114, 3) := by decide +kernel
theorem dX12_best_137 : decode cX12_best 137 = .ok (.bipush 12, 2) := by decide +kernel
theorem dX12_best_139 : decode cX12_best 139 = .ok (.iload_n 1, 1) := by decide +kernel
theorem dX12_best_140 : decode cX12_best 140 = .ok (.imul, 1) := by decide +kernel
theorem dX12_best_141 : decode cX12_best 141 = .ok (.iload 11, 2) := by decide +kernel
theorem dX12_best_143 : decode cX12_best 143 = .ok (.iadd, 1) := by decide +kernel
theorem dX12_best_144 : decode cX12_best 144 = .ok (.istore 12, 2) := by decide +kernel
theorem dX12_best_146 : decode cX12_best 146 = .ok (.bipush 12, 2) := by decide +kernel
theorem dX12_best_148 : decode cX12_best 148 = .ok (.iload_n 1, 1) := by decide +kernel
theorem dX12_best_149 : decode cX12_best 149 = .ok (.imul, 1) := by decide +kernel
theorem dX12_best_150 : decode cX12_best 150 = .ok (.iload 10, 2) := by decide +kernel
theorem dX12_best_152 : decode cX12_best 152 = .ok (.iadd, 1) := by decide +kernel
theorem dX12_best_153 : decode cX12_best 153 = .ok (.istore 13, 2) := by decide +kernel
theorem dX12_best_155 : decode cX12_best 155 = .ok (.iload 10, 2) := by decide +kernel
theorem dX12_best_157 : decode cX12_best 157 = .ok (.ifCond .lt 54, 3) := by decide +kernel
theorem dX12_best_160 : decode cX12_best 160 = .ok (.aload_n 0, 1) := by decide +kernel
theorem dX12_best_161 : decode cX12_best 161 = .ok (.getfield 7, 3) := by decide +kernel
theorem dX12_best_164 : decode cX12_best 164 = .ok (.iload_n 1, 1) := by decide +kernel
theorem dX12_best_165 : decode cX12_best 165 = .ok (.iaload, 1) := by decide +kernel
theorem dX12_best_166 : decode cX12_best 166 = .ok (.iconst 4, 1) := by decide +kernel
theorem dX12_best_167 : decode cX12_best 167 = .ok (.if_icmp .ne 26, 3) := by decide +kernel
theorem dX12_best_170 : decode cX12_best 170 = .ok (.aload_n 0, 1) := by decide +kernel
theorem dX12_best_171 : decode cX12_best 171 = .ok (.getfield 20, 3) := by decide +kernel
theorem dX12_best_174 : decode cX12_best 174 = .ok (.iload 12, 2) := by decide +kernel
theorem dX12_best_176 : decode cX12_best 176 = .ok (.daload, 1) := by decide +kernel
theorem dX12_best_177 : decode cX12_best 177 = .ok (.aload_n 0, 1) := by decide +kernel
theorem dX12_best_178 : decode cX12_best 178 = .ok (.getfield 20, 3) := by decide +kernel
theorem dX12_best_181 : decode cX12_best 181 = .ok (.iload 13, 2) := by decide +kernel
theorem dX12_best_183 : decode cX12_best 183 = .ok (.daload, 1) := by decide +kernel
theorem dX12_best_184 : decode cX12_best 184 = .ok (.invokestatic 558, 3) := by decide +kernel
theorem dX12_best_187 : decode cX12_best 187 = .ok (.ifCond .eq 28, 3) := by decide +kernel
theorem dX12_best_190 : decode cX12_best 190 = .ok (.goto 21, 3) := by decide +kernel
theorem dX12_best_193 : decode cX12_best 193 = .ok (.aload_n 0, 1) := by decide +kernel
theorem dX12_best_194 : decode cX12_best 194 = .ok (.getfield 16, 3) := by decide +kernel
theorem dX12_best_197 : decode cX12_best 197 = .ok (.iload 12, 2) := by decide +kernel
theorem dX12_best_199 : decode cX12_best 199 = .ok (.laload, 1) := by decide +kernel
theorem dX12_best_200 : decode cX12_best 200 = .ok (.aload_n 0, 1) := by decide +kernel
theorem dX12_best_201 : decode cX12_best 201 = .ok (.getfield 16, 3) := by decide +kernel
theorem dX12_best_204 : decode cX12_best 204 = .ok (.iload 13, 2) := by decide +kernel
theorem dX12_best_206 : decode cX12_best 206 = .ok (.laload, 1) := by decide +kernel
theorem dX12_best_207 : decode cX12_best 207 = .ok (.lcmp, 1) := by decide +kernel
theorem dX12_best_208 : decode cX12_best 208 = .ok (.ifCond .le 7, 3) := by decide +kernel
theorem dX12_best_211 : decode cX12_best 211 = .ok (.iconst 1, 1) := by decide +kernel
theorem dX12_best_212 : decode cX12_best 212 = .ok (.goto 4, 3) := by decide +kernel
theorem dX12_best_215 : decode cX12_best 215 = .ok (.iconst 0, 1) := by decide +kernel
theorem dX12_best_216 : decode cX12_best 216 = .ok (.istore 14, 2) := by decide +kernel
theorem dX12_best_218 : decode cX12_best 218 = .ok (.aload_n 0, 1) := by decide +kernel
theorem dX12_best_219 : decode cX12_best 219 = .ok (.getfield 93, 3) := by decide +kernel
theorem dX12_best_222 : decode cX12_best 222 = .ok (.iload 11, 2) := by decide +kernel
theorem dX12_best_224 : decode cX12_best 224 = .ok (.baload, 1) := by decide +kernel
theorem dX12_best_225 : decode cX12_best 225 = .ok (.ifCond .ne 13, 3) := by decide +kernel
theorem dX12_best_228 : decode cX12_best 228 = .ok (.iload 14, 2) := by decide +kernel
theorem dX12_best_230 : decode cX12_best 230 = .ok (.ifCond .eq 8, 3) := by decide +kernel
theorem dX12_best_233 : decode cX12_best 233 = .ok (.iload 11, 2) := by decide +kernel
theorem dX12_best_235 : decode cX12_best 235 = .ok (.goto 5, 3) := by decide +kernel
theorem dX12_best_238 : decode cX12_best 238 = .ok (.iload 10, 2) := by decide +kernel
theorem dX12_best_240 : decode cX12_best 240 = .ok (.istore 10, 2) := by decide +kernel
theorem dX12_best_242 : decode cX12_best 242 = .ok (.iinc 11 1, 3) := by decide +kernel
theorem dX12_best_245 : decode cX12_best 245 = .ok (.goto (-119), 3) := by decide +kernel
theorem dX12_best_248 : decode cX12_best 248 = .ok (.aload_n 0, 1) := by decide +kernel
theorem dX12_best_249 : decode cX12_best 249 = .ok (.getfield 93, 3) := by decide +kernel
theorem dX12_best_252 : decode cX12_best 252 = .ok (.iload 10, 2) := by decide +kernel
theorem dX12_best_254 : decode cX12_best 254 = .ok (.iconst 1, 1) := by decide +kernel
theorem dX12_best_255 : decode cX12_best 255 = .ok (.bastore, 1) := by decide +kernel
theorem dX12_best_256 : decode cX12_best 256 = .ok (.aload_n 0, 1) := by decide +kernel
theorem dX12_best_257 : decode cX12_best 257 = .ok (.getfield 16, 3) := by decide +kernel
theorem dX12_best_260 : decode cX12_best 260 = .ok (.bipush 12, 2) := by decide +kernel
theorem dX12_best_262 : decode cX12_best 262 = .ok (.iload_n 1, 1) := by decide +kernel
theorem dX12_best_263 : decode cX12_best 263 = .ok (.imul, 1) := by decide +kernel
theorem dX12_best_264 : decode cX12_best 264 = .ok (.iload 10, 2) := by decide +kernel
theorem dX12_best_266 : decode cX12_best 266 = .ok (.iadd, 1) := by decide +kernel
theorem dX12_best_267 : decode cX12_best 267 = .ok (.laload, 1) := by decide +kernel
theorem dX12_best_268 : decode cX12_best 268 = .ok (.lstore 11, 2) := by decide +kernel
theorem dX12_best_270 : decode cX12_best 270 = .ok (.lload 5, 2) := by decide +kernel
theorem dX12_best_272 : decode cX12_best 272 = .ok (.lload 11, 2) := by decide +kernel
theorem dX12_best_274 : decode cX12_best 274 = .ok (.ladd, 1) := by decide +kernel
theorem dX12_best_275 : decode cX12_best 275 = .ok (.lstore 13, 2) := by decide +kernel
theorem dX12_best_277 : decode cX12_best 277 = .ok (.aload_n 0, 1) := by decide +kernel
theorem dX12_best_278 : decode cX12_best 278 = .ok (.getfield 7, 3) := by decide +kernel
theorem dX12_best_281 : decode cX12_best 281 = .ok (.iload_n 1, 1) := by decide +kernel
theorem dX12_best_282 : decode cX12_best 282 = .ok (.iaload, 1) := by decide +kernel
theorem dX12_best_283 : decode cX12_best 283 = .ok (.iconst 4, 1) := by decide +kernel
theorem dX12_best_284 : decode cX12_best 284 = .ok (.if_icmp .eq 26, 3) := by decide +kernel
theorem dX12_best_287 : decode cX12_best 287 = .ok (.lload 5, 2) := by decide +kernel
theorem dX12_best_289 : decode cX12_best 289 = .ok (.lload 13, 2) := by decide +kernel
theorem dX12_best_291 : decode cX12_best 291 = .ok (.lxor, 1) := by decide +kernel
theorem dX12_best_292 : decode cX12_best 292 = .ok (.lload 11, 2) := by decide +kernel
theorem dX12_best_294 : decode cX12_best 294 = .ok (.lload 13, 2) := by decide +kernel
theorem dX12_best_296 : decode cX12_best 296 = .ok (.lxor, 1) := by decide +kernel
theorem dX12_best_297 : decode cX12_best 297 = .ok (.land, 1) := by decide +kernel
theorem dX12_best_298 : decode cX12_best 298 = .ok (.lconst 0, 1) := by decide +kernel
theorem dX12_best_299 : decode cX12_best 299 = .ok (.lcmp, 1) := by decide +kernel
theorem dX12_best_300 : decode cX12_best 300 = .ok (.ifCond .ge 10, 3) := by decide +kernel
theorem dX12_best_303 : decode cX12_best 303 = .ok (.aload_n 0, 1) := by decide +kernel
theorem dX12_best_304 : decode cX12_best 304 = .ok (.bipush 6, 2) := by decide +kernel
theorem dX12_best_306 : decode cX12_best 306 = .ok (.invokevirtual 421, 3) := by decide +kernel
theorem dX12_best_309 : decode cX12_best 309 = .ok (.ireturn, 1) := by decide +kernel
theorem dX12_best_310 : decode cX12_best 310 = .ok (.lload 13, 2) := by decide +kernel
theorem dX12_best_312 : decode cX12_best 312 = .ok (.lstore 5, 2) := by decide +kernel
theorem dX12_best_314 : decode cX12_best 314 = .ok (.dload 7, 2) := by decide +kernel
theorem dX12_best_316 : decode cX12_best 316 = .ok (.aload_n 0, 1) := by decide +kernel
theorem dX12_best_317 : decode cX12_best 317 = .ok (.getfield 20, 3) := by decide +kernel
theorem dX12_best_320 : decode cX12_best 320 = .ok (.bipush 12, 2) := by decide +kernel
theorem dX12_best_322 : decode cX12_best 322 = .ok (.iload_n 1, 1) := by decide +kernel
theorem dX12_best_323 : decode cX12_best 323 = .ok (.imul, 1) := by decide +kernel
theorem dX12_best_324 : decode cX12_best 324 = .ok (.iload 10, 2) := by decide +kernel
theorem dX12_best_326 : decode cX12_best 326 = .ok (.iadd, 1) := by decide +kernel
theorem dX12_best_327 : decode cX12_best 327 = .ok (.daload, 1) := by decide +kernel
theorem dX12_best_328 : decode cX12_best 328 = .ok (.invokestatic 528, 3) := by decide +kernel
theorem dX12_best_331 : decode cX12_best 331 = .ok (.dstore 7, 2) := by decide +kernel
theorem dX12_best_333 : decode cX12_best 333 = .ok (.iinc 9 1, 3) := by decide +kernel
theorem dX12_best_336 : decode cX12_best 336 = .ok (.goto (-224), 3) := by decide +kernel
theorem dX12_best_339 : decode cX12_best 339 = .ok (.aload_n 0, 1) := by decide +kernel
theorem dX12_best_340 : decode cX12_best 340 = .ok (.getfield 7, 3) := by decide +kernel
theorem dX12_best_343 : decode cX12_best 343 = .ok (.iload_n 1, 1) := by decide +kernel
theorem dX12_best_344 : decode cX12_best 344 = .ok (.iaload, 1) := by decide +kernel
theorem dX12_best_345 : decode cX12_best 345 = .ok (.iconst 4, 1) := by decide +kernel
theorem dX12_best_346 : decode cX12_best 346 = .ok (.if_icmp .ne 12, 3) := by decide +kernel
theorem dX12_best_349 : decode cX12_best 349 = .ok (.aload_n 0, 1) := by decide +kernel
theorem dX12_best_350 : decode cX12_best 350 = .ok (.dload 7, 2) := by decide +kernel
theorem dX12_best_352 : decode cX12_best 352 = .ok (.invokevirtual 461, 3) := by decide +kernel
theorem dX12_best_355 : decode cX12_best 355 = .ok (.goto 9, 3) := by decide +kernel
theorem dX12_best_358 : decode cX12_best 358 = .ok (.aload_n 0, 1) := by decide +kernel
theorem dX12_best_359 : decode cX12_best 359 = .ok (.lload 5, 2) := by decide +kernel
theorem dX12_best_361 : decode cX12_best 361 = .ok (.invokevirtual 454, 3) := by decide +kernel
theorem dX12_best_364 : decode cX12_best 364 = .ok (.ireturn, 1) := by decide +kernel
theorem dX12_function_0 : decode cX12_function 0 = .ok (.aload_n 0, 1) := by decide +kernel
theorem dX12_function_1 : decode cX12_function 1 = .ok (.getfield 7, 3) := by decide +kernel
theorem dX12_function_4 : decode cX12_function 4 = .ok (.iload_n 2, 1) := by decide +kernel
theorem dX12_function_5 : decode cX12_function 5 = .ok (.iaload, 1) := by decide +kernel
theorem dX12_function_6 : decode cX12_function 6 = .ok (.istore_n 3, 1) := by decide +kernel
theorem dX12_function_7 : decode cX12_function 7 = .ok (.iload_n 1, 1) := by decide +kernel
theorem dX12_function_8 : decode cX12_function 8 = .ok (.iconst 2, 1) := by decide +kernel
theorem dX12_function_9 : decode cX12_function 9 = .ok (.if_icmp .ne 38, 3) := by decide +kernel
theorem dX12_function_12 : decode cX12_function 12 = .ok (.iload_n 3, 1) := by decide +kernel
theorem dX12_function_13 : decode cX12_function 13 = .ok (.bipush 8, 2) := by decide +kernel
theorem dX12_function_15 : decode cX12_function 15 = .ok (.if_icmp .ne 26, 3) := by decide +kernel
theorem dX12_function_18 : decode cX12_function 18 = .ok (.aload_n 0, 1) := by decide +kernel
theorem dX12_function_19 : decode cX12_function 19 = .ok (.aload_n 0, 1) := by decide +kernel
theorem dX12_function_20 : decode cX12_function 20 = .ok (.getfield 100, 3) := by decide +kernel
theorem dX12_function_23 : decode cX12_function 23 = .ok (.aload_n 0, 1) := by decide +kernel
theorem dX12_function_24 : decode cX12_function 24 = .ok (.getfield 16, 3) := by decide +kernel
theorem dX12_function_27 : decode cX12_function 27 = .ok (.bipush 12, 2) := by decide +kernel
theorem dX12_function_29 : decode cX12_function 29 = .ok (.iload_n 2, 1) := by decide +kernel
theorem dX12_function_30 : decode cX12_function 30 = .ok (.imul, 1) := by decide +kernel
theorem dX12_function_31 : decode cX12_function 31 = .ok (.laload, 1) := by decide +kernel
theorem dX12_function_32 : decode cX12_function 32 = .ok (.l2i, 1) := by decide +kernel
theorem dX12_function_33 : decode cX12_function 33 = .ok (.iaload, 1) := by decide +kernel
theorem dX12_function_34 : decode cX12_function 34 = .ok (.i2l, 1) := by decide +kernel
theorem dX12_function_35 : decode cX12_function 35 = .ok (.invokevirtual 454, 3) := by decide +kernel
theorem dX12_function_38 : decode cX12_function 38 = .ok (.goto 8, 3) := by decide +kernel
theorem dX12_function_41 : decode cX12_function 41 = .ok (.aload_n 0, 1) := by decide +kernel
theorem dX12_function_42 : decode cX12_function 42 = .ok (.iconst 2, 1) := by decide +kernel
theorem dX12_function_43 : decode cX12_function 43 = .ok (.invokevirtual 421, 3) := by decide +kernel
theorem dX12_function_46 : decode cX12_function 46 = .ok (.ireturn, 1) := by decide +kernel
theorem dX12_function_47 : decode cX12_function 47 = .ok (.iload_n 1, 1) := by decide +kernel
theorem dX12_function_48 : decode cX12_function 48 = .ok (.bipush 11, 2) := by decide +kernel
theorem dX12_function_50 : decode cX12_function 50 = .ok (.if_icmp .ne 30, 3) := by decide +kernel
theorem dX12_function_53 : decode cX12_function 53 = .ok (.iload_n 3, 1) := by decide +kernel
theorem dX12_function_54 : decode cX12_function 54 = .ok (.invokestatic 548, 3) := by decide +kernel
theorem dX12_function_57 : decode cX12_function 57 = .ok (.ifCond .eq 17, 3) := by decide +kernel
theorem dX12_function_60 : decode cX12_function 60 = .ok (.aload_n 0, 1) := by decide +kernel
theorem dX12_function_61 : decode cX12_function 61 = .ok (.aload_n 0, 1) := by decide +kernel
theorem dX12_function_62 : decode cX12_function 62 = .ok (.getfield 13, 3) := by decide +kernel
theorem dX12_function_65 : decode cX12_function 65 = .ok (.iload_n 2, 1) := by decide +kernel
theorem dX12_function_66 : decode cX12_function 66 = .ok (.iaload, 1) := by decide +kernel
theorem dX12_function_67 : decode cX12_function 67 = .ok (.i2l, 1) := by decide +kernel
theorem dX12_function_68 : decode cX12_function 68 = .ok (.invokevirtual 454, 3) := by decide +kernel
theorem dX12_function_71 : decode cX12_function 71 = .ok (.goto 8, 3) := by decide +kernel
theorem dX12_function_74 : decode cX12_function 74 = .ok (.aload_n 0, 1) := by decide +kernel
theorem dX12_function_75 : decode cX12_function 75 = .ok (.iconst 2, 1) := by decide +kernel
theorem dX12_function_76 : decode cX12_function 76 = .ok (.invokevirtual 421, 3) := by decide +kernel
theorem dX12_function_79 : decode cX12_function 79 = .ok (.ireturn, 1) := by decide +kernel
theorem dX12_function_80 : decode cX12_function 80 = .ok (.iload_n 1, 1) := by decide +kernel
theorem dX12_function_81 : decode cX12_function 81 = .ok (.bipush 25, 2) := by decide +kernel
theorem dX12_function_83 : decode cX12_function 83 = .ok (.if_icmp .ne 53, 3) := by decide +kernel
theorem dX12_function_86 : decode cX12_function 86 = .ok (.iload_n 3, 1) := by decide +kernel
theorem dX12_function_87 : decode cX12_function 87 = .ok (.ifCond .eq 9, 3) := by decide +kernel
theorem dX12_function_90 : decode cX12_function 90 = .ok (.aload_n 0, 1) := by decide +kernel
theorem dX12_function_91 : decode cX12_function 91 = .ok (.iconst 2, 1) := by decide +kernel
theorem dX12_function_92 : decode cX12_function 92 = .ok (.invokevirtual 421, 3) := by decide +kernel
theorem dX12_function_95 : decode cX12_function 95 = .ok (.ireturn, 1) := by decide +kernel
theorem dX12_function_96 : decode cX12_function 96 = .ok (.aload_n 0, 1) := by decide +kernel
theorem dX12_function_97 : decode cX12_function 97 = .ok (.getfield 16, 3) := by decide +kernel
theorem dX12_function_100 : decode cX12_function 100 = .ok (.bipush 12, 2) := by decide +kernel
theorem dX12_function_102 : decode cX12_function 102 = .ok (.iload_n 2, 1) := by decide +kernel
theorem dX12_function_103 : decode cX12_function 103 = .ok (.imul, 1) := by decide +kernel
theorem dX12_function_104 : decode cX12_function 104 = .ok (.laload, 1) := by decide +kernel
theorem dX12_function_105 : decode cX12_function 105 = .ok (.lstore 4, 2) := by decide +kernel
theorem dX12_function_107 : decode cX12_function 107 = .ok (.lload 4, 2) := by decide +kernel
theorem dX12_function_109 : decode cX12_function 109 = .ok (.lconst 0, 1) := by decide +kernel
theorem dX12_function_110 : decode cX12_function 110 = .ok (.ldc2_w 570, 3) := by decide +kernel
theorem dX12_function_113 : decode cX12_function 113 = .ok (.invokestatic 551, 3) := by decide +kernel
theorem dX12_function_116 : decode cX12_function 116 = .ok (.ifCond .eq 14, 3) := by decide +kernel
theorem dX12_function_119 : decode cX12_function 119 = .ok (.aload_n 0, 1) := by decide +kernel
theorem dX12_function_120 : decode cX12_function 120 = .ok (.iconst 2, 1) := by decide +kernel
theorem dX12_function_121 : decode cX12_function 121 = .ok (.lload 4, 2) := by decide +kernel
theorem dX12_function_123 : decode cX12_function 123 = .ok (.l2i, 1) := by decide +kernel
theorem dX12_function_124 : decode cX12_function 124 = .ok (.invokevirtual 192, 3) := by decide +kernel
theorem dX12_function_127 : decode cX12_function 127 = .ok (.goto 8, 3) := by decide +kernel
theorem dX12_function_130 : decode cX12_function 130 = .ok (.aload_n 0, 1) := by decide +kernel
theorem dX12_function_131 : decode cX12_function 131 = .ok (.iconst 4, 1) := by decide +kernel
theorem dX12_function_132 : decode cX12_function 132 = .ok (.invokevirtual 421, 3) := by decide +kernel
theorem dX12_function_135 : decode cX12_function 135 = .ok (.ireturn, 1) := by decide +kernel
theorem dX12_function_136 : decode cX12_function 136 = .ok (.iload_n 3, 1) := by decide +kernel
theorem dX12_function_137 : decode cX12_function 137 = .ok (.invokestatic 489, 3) := by decide +kernel
theorem dX12_function_140 : decode cX12_function 140 = .ok (.ifCond .ne 9, 3) := by decide +kernel
theorem dX12_function_143 : decode cX12_function 143 = .ok (.aload_n 0, 1) := by decide +kernel
theorem dX12_function_144 : decode cX12_function 144 = .ok (.iconst 2, 1) := by decide +kernel
theorem dX12_function_145 : decode cX12_function 145 = .ok (.invokevirtual 421, 3) := by decide +kernel
theorem dX12_function_148 : decode cX12_function 148 = .ok (.ireturn, 1) := by decide +kernel
theorem dX12_function_149 : decode cX12_function 149 = .ok (.iload_n 1, 1) := by decide +kernel
theorem dX12_function_150 : decode cX12_function 150 = .ok (.bipush 23, 2) := by decide +kernel
theorem dX12_function_152 : decode cX12_function 152 = .ok (.if_icmp .ne 26, 3) := by decide +kernel
theorem dX12_function_155 : decode cX12_function 155 = .ok (.iload_n 3, 1) := by decide +kernel
theorem dX12_function_156 : decode cX12_function 156 = .ok (.ifCond .ne 7, 3) := by decide +kernel
theorem dX12_function_159 : decode cX12_function 159 = .ok (.iload_n 2, 1) := by decide +kernel
theorem dX12_function_160 : decode cX12_function 160 = .ok (.goto 17, 3) := by decide +kernel
theorem dX12_function_163 : decode cX12_function 163 = .ok (.aload_n 0, 1) := by decide +kernel
theorem dX12_function_164 : decode cX12_function 164 = .ok (.aload_n 0, 1) := by decide +kernel
theorem dX12_function_165 : decode cX12_function 165 = .ok (.getfield 20, 3) := by decide +kernel
theorem dX12_function_168 : decode cX12_function 168 = .ok (.bipush 12, 2) := by decide +kernel
theorem dX12_function_170 : decode cX12_function 170 = .ok (.iload_n 2, 1) := by decide +kernel
theorem dX12_function_171 : decode cX12_function 171 = .ok (.imul, 1) := by decide +kernel
theorem dX12_function_172 : decode cX12_function 172 = .ok (.daload, 1) := by decide +kernel
theorem dX12_function_173 : decode cX12_function 173 = .ok (.d2l, 1) := by decide +kernel
theorem dX12_function_174 : decode cX12_function 174 = .ok (.invokevirtual 454, 3) := by decide +kernel
theorem dX12_function_177 : decode cX12_function 177 = .ok (.ireturn, 1) := by decide +kernel
theorem dX12_function_178 : decode cX12_function 178 = .ok (.aload_n 0, 1) := by decide +kernel
theorem dX12_function_179 : decode cX12_function 179 = .ok (.iload_n 2, 1) := by decide +kernel
theorem dX12_function_180 : decode cX12_function 180 = .ok (.invokevirtual 524, 3) := by decide +kernel
theorem dX12_function_183 : decode cX12_function 183 = .ok (.dstore 4, 2) := by decide +kernel
theorem dX12_function_185 : decode cX12_function 185 = .ok (.aload_n 0, 1) := by decide +kernel
theorem dX12_function_186 : decode cX12_function 186 = .ok (.iload_n 1, 1) := by decide +kernel
theorem dX12_function_187 : decode cX12_function 187 = .ok (.bipush 16, 2) := by decide +kernel
theorem dX12_function_189 : decode cX12_function 189 = .ok (.if_icmp .ne 8, 3) := by decide +kernel
theorem dX12_function_192 : decode cX12_function 192 = .ok (.dload 4, 2) := by decide +kernel
theorem dX12_function_194 : decode cX12_function 194 = .ok (.goto 69, 3) := by decide +kernel
theorem dX12_function_197 : decode cX12_function 197 = .ok (.iload_n 1, 1) := by decide +kernel
theorem dX12_function_198 : decode cX12_function 198 = .ok (.bipush 6, 2) := by decide +kernel
theorem dX12_function_200 : decode cX12_function 200 = .ok (.if_icmp .ne 11, 3) := by decide +kernel
theorem dX12_function_203 : decode cX12_function 203 = .ok (.dload 4, 2) := by decide +kernel
theorem dX12_function_205 : decode cX12_function 205 = .ok (.invokestatic 572, 3) := by decide +kernel
theorem dX12_function_208 : decode cX12_function 208 = .ok (.goto 55, 3) := by decide +kernel
theorem dX12_function_211 : decode cX12_function 211 = .ok (.iload_n 1, 1) := by decide +kernel
theorem dX12_function_212 : decode cX12_function 212 = .ok (.iconst 3, 1) := by decide +kernel
theorem dX12_function_213 : decode cX12_function 213 = .ok (.if_icmp .ne 21, 3) := by decide +kernel
theorem dX12_function_216 : decode cX12_function 216 = .ok (.dload 4, 2) := by decide +kernel
theorem dX12_function_218 : decode cX12_function 218 = .ok (.dload 4, 2) := by decide +kernel
theorem dX12_function_220 : decode cX12_function 220 = .ok (.dcmp .l, 1) := by decide +kernel
theorem dX12_function_221 : decode cX12_function 221 = .ok (.ifCond .ne 13, 3) := by decide +kernel
theorem dX12_function_224 : decode cX12_function 224 = .ok (.dload 4, 2) := by decide +kernel
theorem dX12_function_226 : decode cX12_function 226 = .ok (.dneg, 1) := by decide +kernel
theorem dX12_function_227 : decode cX12_function 227 = .ok (.invokestatic 572, 3) := by decide +kernel
theorem dX12_function_230 : decode cX12_function 230 = .ok (.dneg, 1) := by decide +kernel
theorem dX12_function_231 : decode cX12_function 231 = .ok (.goto 32, 3) := by decide +kernel
theorem dX12_function_234 : decode cX12_function 234 = .ok (.iload_n 1, 1) := by decide +kernel
theorem dX12_function_235 : decode cX12_function 235 = .ok (.iconst 3, 1) := by decide +kernel
theorem dX12_function_236 : decode cX12_function 236 = .ok (.if_icmp .ne 8, 3) := by decide +kernel
theorem dX12_function_239 : decode cX12_function 239 = .ok (.dload 4, 2) := by decide +kernel
theorem dX12_function_241 : decode cX12_function 241 = .ok (.goto 22, 3) := by decide +kernel
theorem dX12_function_244 : decode cX12_function 244 = .ok (.iload_n 1, 1) := by decide +kernel
theorem dX12_function_245 : decode cX12_function 245 = .ok (.bipush 14, 2) := by decide +kernel
theorem dX12_function_247 : decode cX12_function 247 = .ok (.if_icmp .ne 11, 3) := by decide +kernel
theorem dX12_function_250 : decode cX12_function 250 = .ok (.dload 4, 2) := by decide +kernel
theorem dX12_function_252 : decode cX12_function 252 = .ok (.invokestatic 576, 3) := by decide +kernel
theorem dX12_function_255 : decode cX12_function 255 = .ok (.goto 8, 3) := by decide +kernel
theorem dX12_function_258 : decode cX12_function 258 = .ok (.dload 4, 2) := by decide +kernel
theorem dX12_function_260 : decode cX12_function 260 = .ok (.invokestatic 579, 3) := by decide +kernel
theorem dX12_function_263 : decode cX12_function 263 = .ok (.invokevirtual 461, 3) := by decide +kernel
theorem dX12_function_266 : decode cX12_function 266 = .ok (.ireturn, 1) := by decide +kernel
theorem dX12_findKnown_0 : decode cX12_findKnown 0 = .ok (.aload_n 0, 1) := by decide +kernel
theorem dX12_findKnown_1 : decode cX12_findKnown 1 = .ok (.getfield 582, 3) := by decide +kernel
theorem dX12_findKnown_4 : decode cX12_findKnown 4 = .ok (.iconst 1, 1) := by decide +kernel
theorem dX12_findKnown_5 : decode cX12_findKnown 5 = .ok (.isub, 1) := by decide +kernel
theorem dX12_findKnown_6 : decode cX12_findKnown 6 = .ok (.istore 6, 2) := by decide +kernel
theorem dX12_findKnown_8 : decode cX12_findKnown 8 = .ok (.iload 6, 2) := by decide +kernel
theorem dX12_findKnown_10 : decode cX12_findKnown 10 = .ok (.ifCond .lt 106, 3) := by decide +kernel
theorem dX12_findKnown_13 : decode cX12_findKnown 13 = .ok (.aload_n 0, 1) := by decide +kernel
theorem dX12_findKnown_14 : decode cX12_findKnown 14 = .ok (.getfield 115, 3) := by decide +kernel
theorem dX12_findKnown_17 : decode cX12_findKnown 17 = .ok (.iload 6, 2) := by decide +kernel
theorem dX12_findKnown_19 : decode cX12_findKnown 19 = .ok (.iaload, 1) := by decide +kernel
theorem dX12_findKnown_20 : decode cX12_findKnown 20 = .ok (.iload 5, 2) := by decide +kernel
theorem dX12_findKnown_22 : decode cX12_findKnown 22 = .ok (.if_icmp .gt 29, 3) := by decide +kernel
theorem dX12_findKnown_25 : decode cX12_findKnown 25 = .ok (.aload_n 0, 1) := by decide +kernel
theorem dX12_findKnown_26 : decode cX12_findKnown 26 = .ok (.getfield 118, 3) := by decide +kernel
theorem dX12_findKnown_29 : decode cX12_findKnown 29 = .ok (.iload 6, 2) := by decide +kernel
theorem dX12_findKnown_31 : decode cX12_findKnown 31 = .ok (.iaload, 1) := by decide +kernel
theorem dX12_findKnown_32 : decode cX12_findKnown 32 = .ok (.ifCond .lt 15, 3) := by decide +kernel
theorem dX12_findKnown_35 : decode cX12_findKnown 35 = .ok (.aload_n 0, 1) := by decide +kernel
theorem dX12_findKnown_36 : decode cX12_findKnown 36 = .ok (.getfield 118, 3) := by decide +kernel
theorem dX12_findKnown_39 : decode cX12_findKnown 39 = .ok (.iload 6, 2) := by decide +kernel
theorem dX12_findKnown_41 : decode cX12_findKnown 41 = .ok (.iaload, 1) := by decide +kernel
theorem dX12_findKnown_42 : decode cX12_findKnown 42 = .ok (.iload 5, 2) := by decide +kernel
theorem dX12_findKnown_44 : decode cX12_findKnown 44 = .ok (.if_icmp .le 7, 3) := by decide +kernel
theorem dX12_findKnown_47 : decode cX12_findKnown 47 = .ok (.iconst 1, 1) := by decide +kernel
theorem dX12_findKnown_48 : decode cX12_findKnown 48 = .ok (.goto 4, 3) := by decide +kernel
theorem dX12_findKnown_51 : decode cX12_findKnown 51 = .ok (.iconst 0, 1) := by decide +kernel
theorem dX12_findKnown_52 : decode cX12_findKnown 52 = .ok (.istore 7, 2) := by decide +kernel
theorem dX12_findKnown_54 : decode cX12_findKnown 54 = .ok (.iload 7, 2) := by decide +kernel
theorem dX12_findKnown_56 : decode cX12_findKnown 56 = .ok (.ifCond .eq 54, 3) := by decide +kernel
theorem dX12_findKnown_59 : decode cX12_findKnown 59 = .ok (.aload_n 0, 1) := by decide +kernel
theorem dX12_findKnown_60 : decode cX12_findKnown 60 = .ok (.getfield 103, 3) := by decide +kernel
theorem dX12_findKnown_63 : decode cX12_findKnown 63 = .ok (.iload 6, 2) := by decide +kernel
theorem dX12_findKnown_65 : decode cX12_findKnown 65 = .ok (.iaload, 1) := by decide +kernel
theorem dX12_findKnown_66 : decode cX12_findKnown 66 = .ok (.iload_n 1, 1) := by decide +kernel
theorem dX12_findKnown_67 : decode cX12_findKnown 67 = .ok (.if_icmp .ne 43, 3) := by decide +kernel
theorem dX12_findKnown_70 : decode cX12_findKnown 70 = .ok (.aload_n 0, 1) := by decide +kernel
theorem dX12_findKnown_71 : decode cX12_findKnown 71 = .ok (.getfield 106, 3) := by decide +kernel
theorem dX12_findKnown_74 : decode cX12_findKnown 74 = .ok (.iload 6, 2) := by decide +kernel
theorem dX12_findKnown_76 : decode cX12_findKnown 76 = .ok (.laload, 1) := by decide +kernel
theorem dX12_findKnown_77 : decode cX12_findKnown 77 = .ok (.lload_n 2, 1) := by decide +kernel
theorem dX12_findKnown_78 : decode cX12_findKnown 78 = .ok (.lcmp, 1) := by decide +kernel
theorem dX12_findKnown_79 : decode cX12_findKnown 79 = .ok (.ifCond .ne 31, 3) := by decide +kernel
theorem dX12_findKnown_82 : decode cX12_findKnown 82 = .ok (.iload 4, 2) := by decide +kernel
theorem dX12_findKnown_84 : decode cX12_findKnown 84 = .ok (.i2l, 1) := by decide +kernel
theorem dX12_findKnown_85 : decode cX12_findKnown 85 = .ok (.aload_n 0, 1) := by decide +kernel
theorem dX12_findKnown_86 : decode cX12_findKnown 86 = .ok (.getfield 109, 3) := by decide +kernel
theorem dX12_findKnown_89 : decode cX12_findKnown 89 = .ok (.iload 6, 2) := by decide +kernel
theorem dX12_findKnown_91 : decode cX12_findKnown 91 = .ok (.iaload, 1) := by decide +kernel
theorem dX12_findKnown_92 : decode cX12_findKnown 92 = .ok (.i2l, 1) := by decide +kernel
theorem dX12_findKnown_93 : decode cX12_findKnown 93 = .ok (.aload_n 0, 1) := by decide +kernel
theorem dX12_findKnown_94 : decode cX12_findKnown 94 = .ok (.getfield 112, 3) := by decide +kernel
theorem dX12_findKnown_97 : decode cX12_findKnown 97 = .ok (.iload 6, 2) := by decide +kernel
theorem dX12_findKnown_99 : decode cX12_findKnown 99 = .ok (.iaload, 1) := by decide +kernel
theorem dX12_findKnown_100 : decode cX12_findKnown 100 = .ok (.i2l, 1) := by decide +kernel
theorem dX12_findKnown_101 : decode cX12_findKnown 101 = .ok (.invokestatic 551, 3) := by decide +kernel
theorem dX12_findKnown_104 : decode cX12_findKnown 104 = .ok (.ifCond .eq 6, 3) := by decide +kernel
theorem dX12_findKnown_107 : decode cX12_findKnown 107 = .ok (.iload 6, 2) := by decide +kernel
theorem dX12_findKnown_109 : decode cX12_findKnown 109 = .ok (.ireturn, 1) := by decide +kernel
theorem dX12_findKnown_110 : decode cX12_findKnown 110 = .ok (.iinc 6 (-1), 3) := by decide +kernel
theorem dX12_findKnown_113 : decode cX12_findKnown 113 = .ok (.goto (-105), 3) := by decide +kernel
theorem dX12_findKnown_116 : decode cX12_findKnown 116 = .ok (.iconst (-1), 1) := by decide +kernel
theorem dX12_findKnown_117 : decode cX12_findKnown 117 = .ok (.ireturn, 1) := by decide +kernel
theorem dX12_feed_0 : decode cX12_feed 0 = .ok (.iload_n 3, 1) := by decide +kernel
theorem dX12_feed_1 : decode cX12_feed 1 = .ok (.i2l, 1) := by decide +kernel
theorem dX12_feed_2 : decode cX12_feed 2 = .ok (.lconst 1, 1) := by decide +kernel
theorem dX12_feed_3 : decode cX12_feed 3 = .ok (.ldc2_w 585, 3) := by decide +kernel
theorem dX12_feed_6 : decode cX12_feed 6 = .ok (.invokestatic 551, 3) := by decide +kernel
theorem dX12_feed_9 : decode cX12_feed 9 = .ok (.ifCond .ne 6, 3) := by decide +kernel
theorem dX12_feed_12 : decode cX12_feed 12 = .ok (.bipush (-3), 2) := by decide +kernel
theorem dX12_feed_14 : decode cX12_feed 14 = .ok (.ireturn, 1) := by decide +kernel
theorem dX12_feed_15 : decode cX12_feed 15 = .ok (.aload_n 0, 1) := by decide +kernel
theorem dX12_feed_16 : decode cX12_feed 16 = .ok (.getfield 290, 3) := by decide +kernel
theorem dX12_feed_19 : decode cX12_feed 19 = .ok (.iload_n 3, 1) := by decide +kernel
theorem dX12_feed_20 : decode cX12_feed 20 = .ok (.iadd, 1) := by decide +kernel
theorem dX12_feed_21 : decode cX12_feed 21 = .ok (.sipush 1600, 3) := by decide +kernel
theorem dX12_feed_24 : decode cX12_feed 24 = .ok (.if_icmp .le 6, 3) := by decide +kernel
theorem dX12_feed_27 : decode cX12_feed 27 = .ok (.bipush (-5), 2) := by decide +kernel
theorem dX12_feed_29 : decode cX12_feed 29 = .ok (.ireturn, 1) := by decide +kernel
theorem dX12_feed_30 : decode cX12_feed 30 = .ok (.iload_n 3, 1) := by decide +kernel
theorem dX12_feed_31 : decode cX12_feed 31 = .ok (.iconst 1, 1) := by decide +kernel
theorem dX12_feed_32 : decode cX12_feed 32 = .ok (.isub, 1) := by decide +kernel
theorem dX12_feed_33 : decode cX12_feed 33 = .ok (.istore 4, 2) := by decide +kernel
theorem dX12_feed_35 : decode cX12_feed 35 = .ok (.iload 4, 2) := by decide +kernel
theorem dX12_feed_37 : decode cX12_feed 37 = .ok (.ifCond .lt 40, 3) := by decide +kernel
theorem dX12_feed_40 : decode cX12_feed 40 = .ok (.aload_n 0, 1) := by decide +kernel
theorem dX12_feed_41 : decode cX12_feed 41 = .ok (.getfield 24, 3) := by decide +kernel
theorem dX12_feed_44 : decode cX12_feed 44 = .ok (.aload_n 0, 1) := by decide +kernel
theorem dX12_feed_45 : decode cX12_feed 45 = .ok (.getfield 290, 3) := by decide +kernel
theorem dX12_feed_48 : decode cX12_feed 48 = .ok (.lload_n 1, 1) := by decide +kernel
theorem dX12_feed_49 : decode cX12_feed 49 = .ok (.bipush 8, 2) := by decide +kernel
theorem dX12_feed_51 : decode cX12_feed 51 = .ok (.iload 4, 2) := by decide +kernel
theorem dX12_feed_53 : decode cX12_feed 53 = .ok (.imul, 1) := by decide +kernel
theorem dX12_feed_54 : decode cX12_feed 54 = .ok (.lshr, 1) := by decide +kernel
theorem dX12_feed_55 : decode cX12_feed 55 = .ok (.l2i, 1) := by decide +kernel
theorem dX12_feed_56 : decode cX12_feed 56 = .ok (.sipush 255, 3) := by decide +kernel
theorem dX12_feed_59 : decode cX12_feed 59 = .ok (.iand, 1) := by decide +kernel
theorem dX12_feed_60 : decode cX12_feed 60 = .ok (.iastore, 1) := by decide +kernel
theorem dX12_feed_61 : decode cX12_feed 61 = .ok (.aload_n 0, 1) := by decide +kernel
theorem dX12_feed_62 : decode cX12_feed 62 = .ok (.dup, 1) := by decide +kernel
theorem dX12_feed_63 : decode cX12_feed 63 = .ok (.getfield 290, 3) := by decide +kernel
theorem dX12_feed_66 : decode cX12_feed 66 = .ok (.iconst 1, 1) := by decide +kernel
theorem dX12_feed_67 : decode cX12_feed 67 = .ok (.iadd, 1) := by decide +kernel
theorem dX12_feed_68 : decode cX12_feed 68 = .ok (.putfield 290, 3) := by decide +kernel
theorem dX12_feed_71 : decode cX12_feed 71 = .ok (.iinc 4 (-1), 3) := by decide +kernel
theorem dX12_feed_74 : decode cX12_feed 74 = .ok (.goto (-39), 3) := by decide +kernel
theorem dX12_feed_77 : decode cX12_feed 77 = .ok (.aload_n 0, 1) := by decide +kernel
theorem dX12_feed_78 : decode cX12_feed 78 = .ok (.getfield 290, 3) := by decide +kernel
theorem dX12_feed_81 : decode cX12_feed 81 = .ok (.ireturn, 1) := by decide +kernel
theorem dX12_cut_0 : decode cX12_cut 0 = .ok (.iload_n 1, 1) := by decide +kernel
theorem dX12_cut_1 : decode cX12_cut 1 = .ok (.i2l, 1) := by decide +kernel
theorem dX12_cut_2 : decode cX12_cut 2 = .ok (.lconst 0, 1) := by decide +kernel
theorem dX12_cut_3 : decode cX12_cut 3 = .ok (.aload_n 0, 1) := by decide +kernel
theorem dX12_cut_4 : decode cX12_cut 4 = .ok (.getfield 290, 3) := by decide +kernel
theorem dX12_cut_7 : decode cX12_cut 7 = .ok (.i2l, 1) := by decide +kernel
theorem dX12_cut_8 : decode cX12_cut 8 = .ok (.invokestatic 551, 3) := by decide +kernel
theorem dX12_cut_11 : decode cX12_cut 11 = .ok (.ifCond .ne 6, 3) := by decide +kernel
theorem dX12_cut_14 : decode cX12_cut 14 = .ok (.bipush (-3), 2) := by decide +kernel
theorem dX12_cut_16 : decode cX12_cut 16 = .ok (.ireturn, 1) := by decide +kernel
theorem dX12_cut_17 : decode cX12_cut 17 = .ok (.aload_n 0, 1) := by decide +kernel
theorem dX12_cut_18 : decode cX12_cut 18 = .ok (.getfield 290, 3) := by decide +kernel
theorem dX12_cut_21 : decode cX12_cut 21 = .ok (.iload_n 1, 1) := by decide +kernel
theorem dX12_cut_22 : decode cX12_cut 22 = .ok (.isub, 1) := by decide +kernel
theorem dX12_cut_23 : decode cX12_cut 23 = .ok (.istore_n 2, 1) := by decide +kernel
theorem dX12_cut_24 : decode cX12_cut 24 = .ok (.aload_n 0, 1) := by decide +kernel
theorem dX12_cut_25 : decode cX12_cut 25 = .ok (.iload_n 1, 1) := by decide +kernel
theorem dX12_cut_26 : decode cX12_cut 26 = .ok (.putfield 290, 3) := by decide +kernel
theorem dX12_cut_29 : decode cX12_cut 29 = .ok (.iload_n 2, 1) := by decide +kernel
theorem dX12_cut_30 : decode cX12_cut 30 = .ok (.ireturn, 1) := by decide +kernel
theorem dX12_clock_0 : decode cX12_clock 0 = .ok (.iload_n 1, 1) := by decide +kernel
theorem dX12_clock_1 : decode cX12_clock 1 = .ok (.i2l, 1) := by decide +kernel
theorem dX12_clock_2 : decode cX12_clock 2 = .ok (.aload_n 0, 1) := by decide +kernel
theorem dX12_clock_3 : decode cX12_clock 3 = .ok (.getfield 587, 3) := by decide +kernel
theorem dX12_clock_6 : decode cX12_clock 6 = .ok (.i2l, 1) := by decide +kernel
theorem dX12_clock_7 : decode cX12_clock 7 = .ok (.ldc2_w 590, 3) := by decide +kernel
theorem dX12_clock_10 : decode cX12_clock 10 = .ok (.invokestatic 551, 3) := by decide +kernel
theorem dX12_clock_13 : decode cX12_clock 13 = .ok (.ifCond .ne 6, 3) := by decide +kernel
theorem dX12_clock_16 : decode cX12_clock 16 = .ok (.bipush (-3), 2) := by decide +kernel
theorem dX12_clock_18 : decode cX12_clock 18 = .ok (.ireturn, 1) := by decide +kernel
theorem dX12_clock_19 : decode cX12_clock 19 = .ok (.aload_n 0, 1) := by decide +kernel
theorem dX12_clock_20 : decode cX12_clock 20 = .ok (.iload_n 1, 1) := by decide +kernel
theorem dX12_clock_21 : decode cX12_clock 21 = .ok (.putfield 587, 3) := by decide +kernel
theorem dX12_clock_24 : decode cX12_clock 24 = .ok (.iconst 1, 1) := by decide +kernel
theorem dX12_clock_25 : decode cX12_clock 25 = .ok (.ireturn, 1) := by decide +kernel
theorem dX12_person_0 : decode cX12_person 0 = .ok (.iload_n 2, 1) := by decide +kernel
theorem dX12_person_1 : decode cX12_person 1 = .ok (.i2l, 1) := by decide +kernel
theorem dX12_person_2 : decode cX12_person 2 = .ok (.ldc2_w 592, 3) := by decide +kernel
theorem dX12_person_5 : decode cX12_person 5 = .ok (.ldc2_w 590, 3) := by decide +kernel
theorem dX12_person_8 : decode cX12_person 8 = .ok (.invokestatic 551, 3) := by decide +kernel
theorem dX12_person_11 : decode cX12_person 11 = .ok (.ifCond .ne 6, 3) := by decide +kernel
theorem dX12_person_14 : decode cX12_person 14 = .ok (.bipush (-3), 2) := by decide +kernel
theorem dX12_person_16 : decode cX12_person 16 = .ok (.ireturn, 1) := by decide +kernel
theorem dX12_person_17 : decode cX12_person 17 = .ok (.aload_n 0, 1) := by decide +kernel
theorem dX12_person_18 : decode cX12_person 18 = .ok (.getfield 594, 3) := by decide +kernel
theorem dX12_person_21 : decode cX12_person 21 = .ok (.bipush 16, 2) := by decide +kernel
theorem dX12_person_23 : decode cX12_person 23 = .ok (.if_icmp .ne 6, 3) := by decide +kernel
theorem dX12_person_26 : decode cX12_person 26 = .ok (.bipush (-5), 2) := by decide +kernel
theorem dX12_person_28 : decode cX12_person 28 = .ok (.ireturn, 1) := by decide +kernel
theorem dX12_person_29 : decode cX12_person 29 = .ok (.aload_n 0, 1) := by decide +kernel
theorem dX12_person_30 : decode cX12_person 30 = .ok (.getfield 97, 3) := by decide +kernel
theorem dX12_person_33 : decode cX12_person 33 = .ok (.aload_n 0, 1) := by decide +kernel
theorem dX12_person_34 : decode cX12_person 34 = .ok (.getfield 594, 3) := by decide +kernel
theorem dX12_person_37 : decode cX12_person 37 = .ok (.iload_n 1, 1) := by decide +kernel
theorem dX12_person_38 : decode cX12_person 38 = .ok (.bastore, 1) := by decide +kernel
theorem dX12_person_39 : decode cX12_person 39 = .ok (.aload_n 0, 1) := by decide +kernel
theorem dX12_person_40 : decode cX12_person 40 = .ok (.getfield 100, 3) := by decide +kernel
theorem dX12_person_43 : decode cX12_person 43 = .ok (.aload_n 0, 1) := by decide +kernel
theorem dX12_person_44 : decode cX12_person 44 = .ok (.getfield 594, 3) := by decide +kernel
theorem dX12_person_47 : decode cX12_person 47 = .ok (.iload_n 2, 1) := by decide +kernel
theorem dX12_person_48 : decode cX12_person 48 = .ok (.iastore, 1) := by decide +kernel
theorem dX12_person_49 : decode cX12_person 49 = .ok (.aload_n 0, 1) := by decide +kernel
theorem dX12_person_50 : decode cX12_person 50 = .ok (.dup, 1) := by decide +kernel
theorem dX12_person_51 : decode cX12_person 51 = .ok (.getfield 594, 3) := by decide +kernel
theorem dX12_person_54 : decode cX12_person 54 = .ok (.iconst 1, 1) := by decide +kernel
theorem dX12_person_55 : decode cX12_person 55 = .ok (.iadd, 1) := by decide +kernel
theorem dX12_person_56 : decode cX12_person 56 = .ok (.putfield 594, 3) := by decide +kernel
theorem dX12_person_59 : decode cX12_person 59 = .ok (.aload_n 0, 1) := by decide +kernel
theorem dX12_person_60 : decode cX12_person 60 = .ok (.getfield 594, 3) := by decide +kernel
theorem dX12_person_63 : decode cX12_person 63 = .ok (.iconst 1, 1) := by decide +kernel
theorem dX12_person_64 : decode cX12_person 64 = .ok (.isub, 1) := by decide +kernel
theorem dX12_person_65 : decode cX12_person 65 = .ok (.ireturn, 1) := by decide +kernel
theorem dX12_desk_0 : decode cX12_desk 0 = .ok (.iload_n 1, 1) := by decide +kernel
theorem dX12_desk_1 : decode cX12_desk 1 = .ok (.i2l, 1) := by decide +kernel
theorem dX12_desk_2 : decode cX12_desk 2 = .ok (.lconst 0, 1) := by decide +kernel
theorem dX12_desk_3 : decode cX12_desk 3 = .ok (.ldc2_w 597, 3) := by decide +kernel
theorem dX12_desk_6 : decode cX12_desk 6 = .ok (.invokestatic 551, 3) := by decide +kernel
theorem dX12_desk_9 : decode cX12_desk 9 = .ok (.ifCond .eq 24, 3) := by decide +kernel
theorem dX12_desk_12 : decode cX12_desk 12 = .ok (.iload_n 2, 1) := by decide +kernel
theorem dX12_desk_13 : decode cX12_desk 13 = .ok (.i2l, 1) := by decide +kernel
theorem dX12_desk_14 : decode cX12_desk 14 = .ok (.lconst 0, 1) := by decide +kernel
theorem dX12_desk_15 : decode cX12_desk 15 = .ok (.iload_n 1, 1) := by decide +kernel
theorem dX12_desk_16 : decode cX12_desk 16 = .ok (.iconst 2, 1) := by decide +kernel
theorem dX12_desk_17 : decode cX12_desk 17 = .ok (.if_icmp .ge 7, 3) := by decide +kernel
theorem dX12_desk_20 : decode cX12_desk 20 = .ok (.lconst 0, 1) := by decide +kernel
theorem dX12_desk_21 : decode cX12_desk 21 = .ok (.goto 6, 3) := by decide +kernel
theorem dX12_desk_24 : decode cX12_desk 24 = .ok (.ldc2_w 570, 3) := by decide +kernel
theorem dX12_desk_27 : decode cX12_desk 27 = .ok (.invokestatic 551, 3) := by decide +kernel
theorem dX12_desk_30 : decode cX12_desk 30 = .ok (.ifCond .ne 6, 3) := by decide +kernel
theorem dX12_desk_33 : decode cX12_desk 33 = .ok (.bipush (-3), 2) := by decide +kernel
theorem dX12_desk_35 : decode cX12_desk 35 = .ok (.ireturn, 1) := by decide +kernel
theorem dX12_desk_36 : decode cX12_desk 36 = .ok (.aload_n 0, 1) := by decide +kernel
theorem dX12_desk_37 : decode cX12_desk 37 = .ok (.iconst 0, 1) := by decide +kernel
theorem dX12_desk_38 : decode cX12_desk 38 = .ok (.iload_n 1, 1) := by decide +kernel
theorem dX12_desk_39 : decode cX12_desk 39 = .ok (.iload_n 2, 1) := by decide +kernel
theorem dX12_desk_40 : decode cX12_desk 40 = .ok (.invokevirtual 182, 3) := by decide +kernel
theorem dX12_desk_43 : decode cX12_desk 43 = .ok (.iload_n 2, 1) := by decide +kernel
theorem dX12_desk_44 : decode cX12_desk 44 = .ok (.ireturn, 1) := by decide +kernel
theorem dX12_write_0 : decode cX12_write 0 = .ok (.aload_n 0, 1) := by decide +kernel
theorem dX12_write_1 : decode cX12_write 1 = .ok (.getfield 7, 3) := by decide +kernel
theorem dX12_write_4 : decode cX12_write 4 = .ok (.iconst 0, 1) := by decide +kernel
theorem dX12_write_5 : decode cX12_write 5 = .ok (.iaload, 1) := by decide +kernel
theorem dX12_write_6 : decode cX12_write 6 = .ok (.istore 4, 2) := by decide +kernel
theorem dX12_write_8 : decode cX12_write 8 = .ok (.iload_n 1, 1) := by decide +kernel
theorem dX12_write_9 : decode cX12_write 9 = .ok (.iconst (-1), 1) := by decide +kernel
theorem dX12_write_10 : decode cX12_write 10 = .ok (.if_icmp .ne 12, 3) := by decide +kernel
theorem dX12_write_13 : decode cX12_write 13 = .ok (.iload 4, 2) := by decide +kernel
theorem dX12_write_15 : decode cX12_write 15 = .ok (.iconst 1, 1) := by decide +kernel
theorem dX12_write_16 : decode cX12_write 16 = .ok (.if_icmp .le 24, 3) := by decide +kernel
theorem dX12_write_19 : decode cX12_write 19 = .ok (.goto 18, 3) := by decide +kernel
theorem dX12_write_22 : decode cX12_write 22 = .ok (.iload 4, 2) := by decide +kernel
theorem dX12_write_24 : decode cX12_write 24 = .ok (.i2l, 1) := by decide +kernel
theorem dX12_write_25 : decode cX12_write 25 = .ok (.ldc2_w 238, 3) := by decide +kernel
theorem dX12_write_28 : decode cX12_write 28 = .ok (.ldc2_w 599, 3) := by decide +kernel
theorem dX12_write_31 : decode cX12_write 31 = .ok (.invokestatic 551, 3) := by decide +kernel
theorem dX12_write_34 : decode cX12_write 34 = .ok (.ifCond .ne 6, 3) := by decide +kernel
theorem dX12_write_37 : decode cX12_write 37 = .ok (.bipush (-4), 2) := by decide +kernel
theorem dX12_write_39 : decode cX12_write 39 = .ok (.ireturn, 1) := by decide +kernel
theorem dX12_write_40 : decode cX12_write 40 = .ok (.iload_n 1, 1) := by decide +kernel
theorem dX12_write_41 : decode cX12_write 41 = .ok (.iconst (-1), 1) := by decide +kernel
theorem dX12_write_42 : decode cX12_write 42 = .ok (.if_icmp .eq 24, 3) := by decide +kernel
theorem dX12_write_45 : decode cX12_write 45 = .ok (.iload_n 1, 1) := by decide +kernel
theorem dX12_write_46 : decode cX12_write 46 = .ok (.i2l, 1) := by decide +kernel
theorem dX12_write_47 : decode cX12_write 47 = .ok (.lconst 0, 1) := by decide +kernel
theorem dX12_write_48 : decode cX12_write 48 = .ok (.aload_n 0, 1) := by decide +kernel
theorem dX12_write_49 : decode cX12_write 49 = .ok (.getfield 13, 3) := by decide +kernel
theorem dX12_write_52 : decode cX12_write 52 = .ok (.iconst 0, 1) := by decide +kernel
theorem dX12_write_53 : decode cX12_write 53 = .ok (.iaload, 1) := by decide +kernel
theorem dX12_write_54 : decode cX12_write 54 = .ok (.iconst 1, 1) := by decide +kernel
theorem dX12_write_55 : decode cX12_write 55 = .ok (.isub, 1) := by decide +kernel
theorem dX12_write_56 : decode cX12_write 56 = .ok (.i2l, 1) := by decide +kernel
theorem dX12_write_57 : decode cX12_write 57 = .ok (.invokestatic 551, 3) := by decide +kernel
theorem dX12_write_60 : decode cX12_write 60 = .ok (.ifCond .ne 6, 3) := by decide +kernel
theorem dX12_write_63 : decode cX12_write 63 = .ok (.bipush (-3), 2) := by decide +kernel
theorem dX12_write_65 : decode cX12_write 65 = .ok (.ireturn, 1) := by decide +kernel
theorem dX12_write_66 : decode cX12_write 66 = .ok (.iload_n 1, 1) := by decide +kernel
theorem dX12_write_67 : decode cX12_write 67 = .ok (.iconst (-1), 1) := by decide +kernel
theorem dX12_write_68 : decode cX12_write 68 = .ok (.if_icmp .ne 7, 3) := by decide +kernel
theorem dX12_write_71 : decode cX12_write 71 = .ok (.iconst 0, 1) := by decide +kernel
theorem dX12_write_72 : decode cX12_write 72 = .ok (.goto 4, 3) := by decide +kernel
theorem dX12_write_75 : decode cX12_write 75 = .ok (.iload_n 1, 1) := by decide +kernel
theorem dX12_write_76 : decode cX12_write 76 = .ok (.istore 5, 2) := by decide +kernel
theorem dX12_write_78 : decode cX12_write 78 = .ok (.iload 4, 2) := by decide +kernel
theorem dX12_write_80 : decode cX12_write 80 = .ok (.iconst 1, 1) := by decide +kernel
theorem dX12_write_81 : decode cX12_write 81 = .ok (.if_icmp .eq 9, 3) := by decide +kernel
theorem dX12_write_84 : decode cX12_write 84 = .ok (.iload 4, 2) := by decide +kernel
theorem dX12_write_86 : decode cX12_write 86 = .ok (.iconst 4, 1) := by decide +kernel
theorem dX12_write_87 : decode cX12_write 87 = .ok (.if_icmp .ne 17, 3) := by decide +kernel
theorem dX12_write_90 : decode cX12_write 90 = .ok (.aload_n 0, 1) := by decide +kernel
theorem dX12_write_91 : decode cX12_write 91 = .ok (.getfield 20, 3) := by decide +kernel
theorem dX12_write_94 : decode cX12_write 94 = .ok (.iload 5, 2) := by decide +kernel
theorem dX12_write_96 : decode cX12_write 96 = .ok (.lload_n 2, 1) := by decide +kernel
theorem dX12_write_97 : decode cX12_write 97 = .ok (.invokestatic 601, 3) := by decide +kernel
theorem dX12_write_100 : decode cX12_write 100 = .ok (.dastore, 1) := by decide +kernel
theorem dX12_write_101 : decode cX12_write 101 = .ok (.goto 23, 3) := by decide +kernel
theorem dX12_write_104 : decode cX12_write 104 = .ok (.aload_n 0, 1) := by decide +kernel
theorem dX12_write_105 : decode cX12_write 105 = .ok (.getfield 16, 3) := by decide +kernel
theorem dX12_write_108 : decode cX12_write 108 = .ok (.iload 5, 2) := by decide +kernel
theorem dX12_write_110 : decode cX12_write 110 = .ok (.iload 4, 2) := by decide +kernel
theorem dX12_write_112 : decode cX12_write 112 = .ok (.iconst 2, 1) := by decide +kernel
theorem dX12_write_113 : decode cX12_write 113 = .ok (.if_icmp .ne 9, 3) := by decide +kernel
theorem dX12_write_116 : decode cX12_write 116 = .ok (.lload_n 2, 1) := by decide +kernel
theorem dX12_write_117 : decode cX12_write 117 = .ok (.l2i, 1) := by decide +kernel
theorem dX12_write_118 : decode cX12_write 118 = .ok (.i2l, 1) := by decide +kernel
theorem dX12_write_119 : decode cX12_write 119 = .ok (.goto 4, 3) := by decide +kernel
theorem dX12_write_122 : decode cX12_write 122 = .ok (.lload_n 2, 1) := by decide +kernel
theorem dX12_write_123 : decode cX12_write 123 = .ok (.lastore, 1) := by decide +kernel
theorem dX12_write_124 : decode cX12_write 124 = .ok (.iconst 1, 1) := by decide +kernel
theorem dX12_write_125 : decode cX12_write 125 = .ok (.ireturn, 1) := by decide +kernel
theorem dX12_seat_0 : decode cX12_seat 0 = .ok (.iload_n 2, 1) := by decide +kernel
theorem dX12_seat_1 : decode cX12_seat 1 = .ok (.iconst (-1), 1) := by decide +kernel
theorem dX12_seat_2 : decode cX12_seat 2 = .ok (.if_icmp .eq 22, 3) := by decide +kernel
theorem dX12_seat_5 : decode cX12_seat 5 = .ok (.iload_n 2, 1) := by decide +kernel
theorem dX12_seat_6 : decode cX12_seat 6 = .ok (.i2l, 1) := by decide +kernel
theorem dX12_seat_7 : decode cX12_seat 7 = .ok (.lconst 0, 1) := by decide +kernel
theorem dX12_seat_8 : decode cX12_seat 8 = .ok (.aload_n 0, 1) := by decide +kernel
theorem dX12_seat_9 : decode cX12_seat 9 = .ok (.getfield 594, 3) := by decide +kernel
theorem dX12_seat_12 : decode cX12_seat 12 = .ok (.iconst 1, 1) := by decide +kernel
theorem dX12_seat_13 : decode cX12_seat 13 = .ok (.isub, 1) := by decide +kernel
theorem dX12_seat_14 : decode cX12_seat 14 = .ok (.i2l, 1) := by decide +kernel
theorem dX12_seat_15 : decode cX12_seat 15 = .ok (.invokestatic 551, 3) := by decide +kernel
theorem dX12_seat_18 : decode cX12_seat 18 = .ok (.ifCond .ne 6, 3) := by decide +kernel
theorem dX12_seat_21 : decode cX12_seat 21 = .ok (.bipush (-2), 2) := by decide +kernel
theorem dX12_seat_23 : decode cX12_seat 23 = .ok (.ireturn, 1) := by decide +kernel
theorem dX12_seat_24 : decode cX12_seat 24 = .ok (.aload_n 0, 1) := by decide +kernel
theorem dX12_seat_25 : decode cX12_seat 25 = .ok (.getfield 7, 3) := by decide +kernel
theorem dX12_seat_28 : decode cX12_seat 28 = .ok (.iconst 0, 1) := by decide +kernel
theorem dX12_seat_29 : decode cX12_seat 29 = .ok (.iaload, 1) := by decide +kernel
theorem dX12_seat_30 : decode cX12_seat 30 = .ok (.invokestatic 186, 3) := by decide +kernel
theorem dX12_seat_33 : decode cX12_seat 33 = .ok (.ifCond .ne 6, 3) := by decide +kernel
theorem dX12_seat_36 : decode cX12_seat 36 = .ok (.bipush (-4), 2) := by decide +kernel
theorem dX12_seat_38 : decode cX12_seat 38 = .ok (.ireturn, 1) := by decide +kernel
theorem dX12_seat_39 : decode cX12_seat 39 = .ok (.iload_n 1, 1) := by decide +kernel
theorem dX12_seat_40 : decode cX12_seat 40 = .ok (.i2l, 1) := by decide +kernel
theorem dX12_seat_41 : decode cX12_seat 41 = .ok (.lconst 0, 1) := by decide +kernel
theorem dX12_seat_42 : decode cX12_seat 42 = .ok (.aload_n 0, 1) := by decide +kernel
theorem dX12_seat_43 : decode cX12_seat 43 = .ok (.getfield 13, 3) := by decide +kernel
theorem dX12_seat_46 : decode cX12_seat 46 = .ok (.iconst 0, 1) := by decide +kernel
theorem dX12_seat_47 : decode cX12_seat 47 = .ok (.iaload, 1) := by decide +kernel
theorem dX12_seat_48 : decode cX12_seat 48 = .ok (.iconst 1, 1) := by decide +kernel
theorem dX12_seat_49 : decode cX12_seat 49 = .ok (.isub, 1) := by decide +kernel
theorem dX12_seat_50 : decode cX12_seat 50 = .ok (.i2l, 1) := by decide +kernel
theorem dX12_seat_51 : decode cX12_seat 51 = .ok (.invokestatic 551, 3) := by decide +kernel
theorem dX12_seat_54 : decode cX12_seat 54 = .ok (.ifCond .ne 6, 3) := by decide +kernel
theorem dX12_seat_57 : decode cX12_seat 57 = .ok (.bipush (-3), 2) := by decide +kernel
theorem dX12_seat_59 : decode cX12_seat 59 = .ok (.ireturn, 1) := by decide +kernel
theorem dX12_seat_60 : decode cX12_seat 60 = .ok (.aload_n 0, 1) := by decide +kernel
theorem dX12_seat_61 : decode cX12_seat 61 = .ok (.iload_n 2, 1) := by decide +kernel
theorem dX12_seat_62 : decode cX12_seat 62 = .ok (.i2l, 1) := by decide +kernel
theorem dX12_seat_63 : decode cX12_seat 63 = .ok (.aload_n 0, 1) := by decide +kernel
theorem dX12_seat_64 : decode cX12_seat 64 = .ok (.getfield 7, 3) := by decide +kernel
theorem dX12_seat_67 : decode cX12_seat 67 = .ok (.iconst 0, 1) := by decide +kernel
theorem dX12_seat_68 : decode cX12_seat 68 = .ok (.iaload, 1) := by decide +kernel
theorem dX12_seat_69 : decode cX12_seat 69 = .ok (.invokevirtual 566, 3) := by decide +kernel
theorem dX12_seat_72 : decode cX12_seat 72 = .ok (.ifCond .ne 6, 3) := by decide +kernel
theorem dX12_seat_75 : decode cX12_seat 75 = .ok (.bipush (-4), 2) := by decide +kernel
theorem dX12_seat_77 : decode cX12_seat 77 = .ok (.ireturn, 1) := by decide +kernel
theorem dX12_seat_78 : decode cX12_seat 78 = .ok (.aload_n 0, 1) := by decide +kernel
theorem dX12_seat_79 : decode cX12_seat 79 = .ok (.getfield 16, 3) := by decide +kernel
theorem dX12_seat_82 : decode cX12_seat 82 = .ok (.iload_n 1, 1) := by decide +kernel
theorem dX12_seat_83 : decode cX12_seat 83 = .ok (.iload_n 2, 1) := by decide +kernel
theorem dX12_seat_84 : decode cX12_seat 84 = .ok (.i2l, 1) := by decide +kernel
theorem dX12_seat_85 : decode cX12_seat 85 = .ok (.lastore, 1) := by decide +kernel
theorem dX12_seat_86 : decode cX12_seat 86 = .ok (.iconst 1, 1) := by decide +kernel
theorem dX12_seat_87 : decode cX12_seat 87 = .ok (.ireturn, 1) := by decide +kernel
theorem dX12_sort_0 : decode cX12_sort 0 = .ok (.aload_n 0, 1) := by decide +kernel
theorem dX12_sort_1 : decode cX12_sort 1 = .ok (.getfield 7, 3) := by decide +kernel
theorem dX12_sort_4 : decode cX12_sort 4 = .ok (.iconst 0, 1) := by decide +kernel
theorem dX12_sort_5 : decode cX12_sort 5 = .ok (.iaload, 1) := by decide +kernel
theorem dX12_sort_6 : decode cX12_sort 6 = .ok (.ireturn, 1) := by decide +kernel
theorem dX12_length_0 : decode cX12_length 0 = .ok (.aload_n 0, 1) := by decide +kernel
theorem dX12_length_1 : decode cX12_length 1 = .ok (.getfield 7, 3) := by decide +kernel
theorem dX12_length_4 : decode cX12_length 4 = .ok (.iconst 0, 1) := by decide +kernel
theorem dX12_length_5 : decode cX12_length 5 = .ok (.iaload, 1) := by decide +kernel
theorem dX12_length_6 : decode cX12_length 6 = .ok (.invokestatic 548, 3) := by decide +kernel
theorem dX12_length_9 : decode cX12_length 9 = .ok (.ifCond .eq 12, 3) := by decide +kernel
theorem dX12_length_12 : decode cX12_length 12 = .ok (.aload_n 0, 1) := by decide +kernel
theorem dX12_length_13 : decode cX12_length 13 = .ok (.getfield 13, 3) := by decide +kernel
theorem dX12_length_16 : decode cX12_length 16 = .ok (.iconst 0, 1) := by decide +kernel
theorem dX12_length_17 : decode cX12_length 17 = .ok (.iaload, 1) := by decide +kernel
theorem dX12_length_18 : decode cX12_length 18 = .ok (.goto 4, 3) := by decide +kernel
theorem dX12_length_21 : decode cX12_length 21 = .ok (.iconst 0, 1) := by decide +kernel
theorem dX12_length_22 : decode cX12_length 22 = .ok (.ireturn, 1) := by decide +kernel
theorem dX12_read_0 : decode cX12_read 0 = .ok (.aload_n 0, 1) := by decide +kernel
theorem dX12_read_1 : decode cX12_read 1 = .ok (.getfield 7, 3) := by decide +kernel
theorem dX12_read_4 : decode cX12_read 4 = .ok (.iconst 0, 1) := by decide +kernel
theorem dX12_read_5 : decode cX12_read 5 = .ok (.iaload, 1) := by decide +kernel
theorem dX12_read_6 : decode cX12_read 6 = .ok (.istore_n 2, 1) := by decide +kernel
theorem dX12_read_7 : decode cX12_read 7 = .ok (.iload_n 2, 1) := by decide +kernel
theorem dX12_read_8 : decode cX12_read 8 = .ok (.invokestatic 548, 3) := by decide +kernel
theorem dX12_read_11 : decode cX12_read 11 = .ok (.ifCond .eq 24, 3) := by decide +kernel
theorem dX12_read_14 : decode cX12_read 14 = .ok (.iload_n 1, 1) := by decide +kernel
theorem dX12_read_15 : decode cX12_read 15 = .ok (.i2l, 1) := by decide +kernel
theorem dX12_read_16 : decode cX12_read 16 = .ok (.lconst 0, 1) := by decide +kernel
theorem dX12_read_17 : decode cX12_read 17 = .ok (.aload_n 0, 1) := by decide +kernel
theorem dX12_read_18 : decode cX12_read 18 = .ok (.getfield 13, 3) := by decide +kernel
theorem dX12_read_21 : decode cX12_read 21 = .ok (.iconst 0, 1) := by decide +kernel
theorem dX12_read_22 : decode cX12_read 22 = .ok (.iaload, 1) := by decide +kernel
theorem dX12_read_23 : decode cX12_read 23 = .ok (.iconst 1, 1) := by decide +kernel
theorem dX12_read_24 : decode cX12_read 24 = .ok (.isub, 1) := by decide +kernel
theorem dX12_read_25 : decode cX12_read 25 = .ok (.i2l, 1) := by decide +kernel
theorem dX12_read_26 : decode cX12_read 26 = .ok (.invokestatic 551, 3) := by decide +kernel
theorem dX12_read_29 : decode cX12_read 29 = .ok (.ifCond .ne 13, 3) := by decide +kernel
theorem dX12_read_32 : decode cX12_read 32 = .ok (.goto 8, 3) := by decide +kernel
theorem dX12_read_35 : decode cX12_read 35 = .ok (.iload_n 1, 1) := by decide +kernel
theorem dX12_read_36 : decode cX12_read 36 = .ok (.iconst (-1), 1) := by decide +kernel
theorem dX12_read_37 : decode cX12_read 37 = .ok (.if_icmp .eq 5, 3) := by decide +kernel
theorem dX12_read_40 : decode cX12_read 40 = .ok (.lconst 0, 1) := by decide +kernel
theorem dX12_read_41 : decode cX12_read 41 = .ok (.lreturn, 1) := by decide +kernel
theorem dX12_read_42 : decode cX12_read 42 = .ok (.iload_n 2, 1) := by decide +kernel
theorem dX12_read_43 : decode cX12_read 43 = .ok (.invokestatic 548, 3) := by decide +kernel
theorem dX12_read_46 : decode cX12_read 46 = .ok (.ifCond .eq 7, 3) := by decide +kernel
theorem dX12_read_49 : decode cX12_read 49 = .ok (.iload_n 1, 1) := by decide +kernel
theorem dX12_read_50 : decode cX12_read 50 = .ok (.goto 4, 3) := by decide +kernel
theorem dX12_read_53 : decode cX12_read 53 = .ok (.iconst 0, 1) := by decide +kernel
theorem dX12_read_54 : decode cX12_read 54 = .ok (.istore_n 3, 1) := by decide +kernel
theorem dX12_read_55 : decode cX12_read 55 = .ok (.iload_n 2, 1) := by decide +kernel
theorem dX12_read_56 : decode cX12_read 56 = .ok (.iconst 1, 1) := by decide +kernel
theorem dX12_read_57 : decode cX12_read 57 = .ok (.if_icmp .eq 8, 3) := by decide +kernel
theorem dX12_read_60 : decode cX12_read 60 = .ok (.iload_n 2, 1) := by decide +kernel
theorem dX12_read_61 : decode cX12_read 61 = .ok (.iconst 4, 1) := by decide +kernel
theorem dX12_read_62 : decode cX12_read 62 = .ok (.if_icmp .ne 15, 3) := by decide +kernel
theorem dX12_read_65 : decode cX12_read 65 = .ok (.aload_n 0, 1) := by decide +kernel
theorem dX12_read_66 : decode cX12_read 66 = .ok (.getfield 20, 3) := by decide +kernel
theorem dX12_read_69 : decode cX12_read 69 = .ok (.iload_n 3, 1) := by decide +kernel
theorem dX12_read_70 : decode cX12_read 70 = .ok (.daload, 1) := by decide +kernel
theorem dX12_read_71 : decode cX12_read 71 = .ok (.invokestatic 230, 3) := by decide +kernel
theorem dX12_read_74 : decode cX12_read 74 = .ok (.goto 9, 3) := by decide +kernel
theorem dX12_read_77 : decode cX12_read 77 = .ok (.aload_n 0, 1) := by decide +kernel
theorem dX12_read_78 : decode cX12_read 78 = .ok (.getfield 16, 3) := by decide +kernel
theorem dX12_read_81 : decode cX12_read 81 = .ok (.iload_n 3, 1) := by decide +kernel
theorem dX12_read_82 : decode cX12_read 82 = .ok (.laload, 1) := by decide +kernel
theorem dX12_read_83 : decode cX12_read 83 = .ok (.lreturn, 1) := by decide +kernel
theorem dX12_isDay_0 : decode cX12_isDay 0 = .ok (.iload_n 0, 1) := by decide +kernel
theorem dX12_isDay_1 : decode cX12_isDay 1 = .ok (.i2l, 1) := by decide +kernel
theorem dX12_isDay_2 : decode cX12_isDay 2 = .ok (.lconst 0, 1) := by decide +kernel
theorem dX12_isDay_3 : decode cX12_isDay 3 = .ok (.ldc2_w 590, 3) := by decide +kernel
theorem dX12_isDay_6 : decode cX12_isDay 6 = .ok (.invokestatic 551, 3) := by decide +kernel
theorem dX12_isDay_9 : decode cX12_isDay 9 = .ok (.ireturn, 1) := by decide +kernel
theorem dX12_fact_0 : decode cX12_fact 0 = .ok (.aload_n 0, 1) := by decide +kernel
theorem dX12_fact_1 : decode cX12_fact 1 = .ok (.invokevirtual 605, 3) := by decide +kernel
theorem dX12_fact_4 : decode cX12_fact 4 = .ok (.lstore 4, 2) := by decide +kernel
theorem dX12_fact_6 : decode cX12_fact 6 = .ok (.iload_n 1, 1) := by decide +kernel
theorem dX12_fact_7 : decode cX12_fact 7 = .ok (.i2l, 1) := by decide +kernel
theorem dX12_fact_8 : decode cX12_fact 8 = .ok (.lconst 0, 1) := by decide +kernel
theorem dX12_fact_9 : decode cX12_fact 9 = .ok (.ldc2_w 609, 3) := by decide +kernel
theorem dX12_fact_12 : decode cX12_fact 12 = .ok (.invokestatic 551, 3) := by decide +kernel
theorem dX12_fact_15 : decode cX12_fact 15 = .ok (.ifCond .ne 6, 3) := by decide +kernel
theorem dX12_fact_18 : decode cX12_fact 18 = .ok (.bipush (-2), 2) := by decide +kernel
theorem dX12_fact_20 : decode cX12_fact 20 = .ok (.ireturn, 1) := by decide +kernel
theorem dX12_fact_21 : decode cX12_fact 21 = .ok (.iload_n 2, 1) := by decide +kernel
theorem dX12_fact_22 : decode cX12_fact 22 = .ok (.invokestatic 611, 3) := by decide +kernel
theorem dX12_fact_25 : decode cX12_fact 25 = .ok (.ifCond .eq 15, 3) := by decide +kernel
theorem dX12_fact_28 : decode cX12_fact 28 = .ok (.iload_n 3, 1) := by decide +kernel
theorem dX12_fact_29 : decode cX12_fact 29 = .ok (.invokestatic 611, 3) := by decide +kernel
theorem dX12_fact_32 : decode cX12_fact 32 = .ok (.ifCond .eq 8, 3) := by decide +kernel
theorem dX12_fact_35 : decode cX12_fact 35 = .ok (.iload_n 3, 1) := by decide +kernel
theorem dX12_fact_36 : decode cX12_fact 36 = .ok (.iload_n 2, 1) := by decide +kernel
theorem dX12_fact_37 : decode cX12_fact 37 = .ok (.if_icmp .ge 6, 3) := by decide +kernel
theorem dX12_fact_40 : decode cX12_fact 40 = .ok (.bipush (-3), 2) := by decide +kernel
theorem dX12_fact_42 : decode cX12_fact 42 = .ok (.ireturn, 1) := by decide +kernel
theorem dX12_fact_43 : decode cX12_fact 43 = .ok (.lload 4, 2) := by decide +kernel
theorem dX12_fact_45 : decode cX12_fact 45 = .ok (.lconst 0, 1) := by decide +kernel
theorem dX12_fact_46 : decode cX12_fact 46 = .ok (.lcmp, 1) := by decide +kernel
theorem dX12_fact_47 : decode cX12_fact 47 = .ok (.ifCond .eq 14, 3) := by decide +kernel
theorem dX12_fact_50 : decode cX12_fact 50 = .ok (.aload_n 0, 1) := by decide +kernel
theorem dX12_fact_51 : decode cX12_fact 51 = .ok (.getfield 7, 3) := by decide +kernel
theorem dX12_fact_54 : decode cX12_fact 54 = .ok (.iconst 0, 1) := by decide +kernel
theorem dX12_fact_55 : decode cX12_fact 55 = .ok (.iaload, 1) := by decide +kernel
theorem dX12_fact_56 : decode cX12_fact 56 = .ok (.bipush 8, 2) := by decide +kernel
theorem dX12_fact_58 : decode cX12_fact 58 = .ok (.if_icmp .ne 6, 3) := by decide +kernel
theorem dX12_fact_61 : decode cX12_fact 61 = .ok (.bipush (-4), 2) := by decide +kernel
theorem dX12_fact_63 : decode cX12_fact 63 = .ok (.ireturn, 1) := by decide +kernel
theorem dX12_fact_64 : decode cX12_fact 64 = .ok (.aload_n 0, 1) := by decide +kernel
theorem dX12_fact_65 : decode cX12_fact 65 = .ok (.getfield 582, 3) := by decide +kernel
theorem dX12_fact_68 : decode cX12_fact 68 = .ok (.sipush 200, 3) := by decide +kernel
theorem dX12_fact_71 : decode cX12_fact 71 = .ok (.if_icmp .ne 6, 3) := by decide +kernel
theorem dX12_fact_74 : decode cX12_fact 74 = .ok (.bipush (-5), 2) := by decide +kernel
theorem dX12_fact_76 : decode cX12_fact 76 = .ok (.ireturn, 1) := by decide +kernel
theorem dX12_fact_77 : decode cX12_fact 77 = .ok (.aload_n 0, 1) := by decide +kernel
theorem dX12_fact_78 : decode cX12_fact 78 = .ok (.getfield 103, 3) := by decide +kernel
theorem dX12_fact_81 : decode cX12_fact 81 = .ok (.aload_n 0, 1) := by decide +kernel
theorem dX12_fact_82 : decode cX12_fact 82 = .ok (.getfield 582, 3) := by decide +kernel
theorem dX12_fact_85 : decode cX12_fact 85 = .ok (.iload_n 1, 1) := by decide +kernel
theorem dX12_fact_86 : decode cX12_fact 86 = .ok (.iastore, 1) := by decide +kernel
theorem dX12_fact_87 : decode cX12_fact 87 = .ok (.aload_n 0, 1) := by decide +kernel
theorem dX12_fact_88 : decode cX12_fact 88 = .ok (.getfield 106, 3) := by decide +kernel
theorem dX12_fact_91 : decode cX12_fact 91 = .ok (.aload_n 0, 1) := by decide +kernel
theorem dX12_fact_92 : decode cX12_fact 92 = .ok (.getfield 582, 3) := by decide +kernel
theorem dX12_fact_95 : decode cX12_fact 95 = .ok (.lload 4, 2) := by decide +kernel
theorem dX12_fact_97 : decode cX12_fact 97 = .ok (.lastore, 1) := by decide +kernel
theorem dX12_fact_98 : decode cX12_fact 98 = .ok (.aload_n 0, 1) := by decide +kernel
theorem dX12_fact_99 : decode cX12_fact 99 = .ok (.getfield 109, 3) := by decide +kernel
theorem dX12_fact_102 : decode cX12_fact 102 = .ok (.aload_n 0, 1) := by decide +kernel
theorem dX12_fact_103 : decode cX12_fact 103 = .ok (.getfield 582, 3) := by decide +kernel
theorem dX12_fact_106 : decode cX12_fact 106 = .ok (.iload_n 2, 1) := by decide +kernel
theorem dX12_fact_107 : decode cX12_fact 107 = .ok (.iastore, 1) := by decide +kernel
theorem dX12_fact_108 : decode cX12_fact 108 = .ok (.aload_n 0, 1) := by decide +kernel
theorem dX12_fact_109 : decode cX12_fact 109 = .ok (.getfield 112, 3) := by decide +kernel
theorem dX12_fact_112 : decode cX12_fact 112 = .ok (.aload_n 0, 1) := by decide +kernel
theorem dX12_fact_113 : decode cX12_fact 113 = .ok (.getfield 582, 3) := by decide +kernel
theorem dX12_fact_116 : decode cX12_fact 116 = .ok (.iload_n 3, 1) := by decide +kernel
theorem dX12_fact_117 : decode cX12_fact 117 = .ok (.iastore, 1) := by decide +kernel
theorem dX12_fact_118 : decode cX12_fact 118 = .ok (.aload_n 0, 1) := by decide +kernel
theorem dX12_fact_119 : decode cX12_fact 119 = .ok (.getfield 115, 3) := by decide +kernel
theorem dX12_fact_122 : decode cX12_fact 122 = .ok (.aload_n 0, 1) := by decide +kernel
theorem dX12_fact_123 : decode cX12_fact 123 = .ok (.getfield 582, 3) := by decide +kernel
theorem dX12_fact_126 : decode cX12_fact 126 = .ok (.aload_n 0, 1) := by decide +kernel
theorem dX12_fact_127 : decode cX12_fact 127 = .ok (.getfield 587, 3) := by decide +kernel
theorem dX12_fact_130 : decode cX12_fact 130 = .ok (.iastore, 1) := by decide +kernel
theorem dX12_fact_131 : decode cX12_fact 131 = .ok (.aload_n 0, 1) := by decide +kernel
theorem dX12_fact_132 : decode cX12_fact 132 = .ok (.getfield 118, 3) := by decide +kernel
theorem dX12_fact_135 : decode cX12_fact 135 = .ok (.aload_n 0, 1) := by decide +kernel
theorem dX12_fact_136 : decode cX12_fact 136 = .ok (.getfield 582, 3) := by decide +kernel
theorem dX12_fact_139 : decode cX12_fact 139 = .ok (.iconst (-1), 1) := by decide +kernel
theorem dX12_fact_140 : decode cX12_fact 140 = .ok (.iastore, 1) := by decide +kernel
theorem dX12_fact_141 : decode cX12_fact 141 = .ok (.aload_n 0, 1) := by decide +kernel
theorem dX12_fact_142 : decode cX12_fact 142 = .ok (.iconst 1, 1) := by decide +kernel
theorem dX12_fact_143 : decode cX12_fact 143 = .ok (.aload_n 0, 1) := by decide +kernel
theorem dX12_fact_144 : decode cX12_fact 144 = .ok (.getfield 582, 3) := by decide +kernel
theorem dX12_fact_147 : decode cX12_fact 147 = .ok (.iadd, 1) := by decide +kernel
theorem dX12_fact_148 : decode cX12_fact 148 = .ok (.iconst 0, 1) := by decide +kernel
theorem dX12_fact_149 : decode cX12_fact 149 = .ok (.invokevirtual 614, 3) := by decide +kernel
theorem dX12_fact_152 : decode cX12_fact 152 = .ok (.aload_n 0, 1) := by decide +kernel
theorem dX12_fact_153 : decode cX12_fact 153 = .ok (.dup, 1) := by decide +kernel
theorem dX12_fact_154 : decode cX12_fact 154 = .ok (.getfield 582, 3) := by decide +kernel
theorem dX12_fact_157 : decode cX12_fact 157 = .ok (.iconst 1, 1) := by decide +kernel
theorem dX12_fact_158 : decode cX12_fact 158 = .ok (.iadd, 1) := by decide +kernel
theorem dX12_fact_159 : decode cX12_fact 159 = .ok (.putfield 582, 3) := by decide +kernel
theorem dX12_fact_162 : decode cX12_fact 162 = .ok (.aload_n 0, 1) := by decide +kernel
theorem dX12_fact_163 : decode cX12_fact 163 = .ok (.getfield 582, 3) := by decide +kernel
theorem dX12_fact_166 : decode cX12_fact 166 = .ok (.iconst 1, 1) := by decide +kernel
theorem dX12_fact_167 : decode cX12_fact 167 = .ok (.isub, 1) := by decide +kernel
theorem dX12_fact_168 : decode cX12_fact 168 = .ok (.ireturn, 1) := by decide +kernel
theorem dX12_annul_0 : decode cX12_annul 0 = .ok (.iload_n 1, 1) := by decide +kernel
theorem dX12_annul_1 : decode cX12_annul 1 = .ok (.i2l, 1) := by decide +kernel
theorem dX12_annul_2 : decode cX12_annul 2 = .ok (.lconst 0, 1) := by decide +kernel
theorem dX12_annul_3 : decode cX12_annul 3 = .ok (.aload_n 0, 1) := by decide +kernel
theorem dX12_annul_4 : decode cX12_annul 4 = .ok (.getfield 582, 3) := by decide +kernel
theorem dX12_annul_7 : decode cX12_annul 7 = .ok (.iconst 1, 1) := by decide +kernel
theorem dX12_annul_8 : decode cX12_annul 8 = .ok (.isub, 1) := by decide +kernel
theorem dX12_annul_9 : decode cX12_annul 9 = .ok (.i2l, 1) := by decide +kernel
theorem dX12_annul_10 : decode cX12_annul 10 = .ok (.invokestatic 551, 3) := by decide +kernel
theorem dX12_annul_13 : decode cX12_annul 13 = .ok (.ifCond .ne 6, 3) := by decide +kernel
theorem dX12_annul_16 : decode cX12_annul 16 = .ok (.bipush (-2), 2) := by decide +kernel
theorem dX12_annul_18 : decode cX12_annul 18 = .ok (.ireturn, 1) := by decide +kernel
theorem dX12_annul_19 : decode cX12_annul 19 = .ok (.aload_n 0, 1) := by decide +kernel
theorem dX12_annul_20 : decode cX12_annul 20 = .ok (.getfield 118, 3) := by decide +kernel
theorem dX12_annul_23 : decode cX12_annul 23 = .ok (.iload_n 1, 1) := by decide +kernel
theorem dX12_annul_24 : decode cX12_annul 24 = .ok (.iaload, 1) := by decide +kernel
theorem dX12_annul_25 : decode cX12_annul 25 = .ok (.ifCond .lt 6, 3) := by decide +kernel
theorem dX12_annul_28 : decode cX12_annul 28 = .ok (.bipush (-4), 2) := by decide +kernel
theorem dX12_annul_30 : decode cX12_annul 30 = .ok (.ireturn, 1) := by decide +kernel
theorem dX12_annul_31 : decode cX12_annul 31 = .ok (.aload_n 0, 1) := by decide +kernel
theorem dX12_annul_32 : decode cX12_annul 32 = .ok (.getfield 118, 3) := by decide +kernel
theorem dX12_annul_35 : decode cX12_annul 35 = .ok (.iload_n 1, 1) := by decide +kernel
theorem dX12_annul_36 : decode cX12_annul 36 = .ok (.aload_n 0, 1) := by decide +kernel
theorem dX12_annul_37 : decode cX12_annul 37 = .ok (.getfield 587, 3) := by decide +kernel
theorem dX12_annul_40 : decode cX12_annul 40 = .ok (.iastore, 1) := by decide +kernel
theorem dX12_annul_41 : decode cX12_annul 41 = .ok (.iconst 1, 1) := by decide +kernel
theorem dX12_annul_42 : decode cX12_annul 42 = .ok (.ireturn, 1) := by decide +kernel
theorem dX12_known_0 : decode cX12_known 0 = .ok (.aload_n 0, 1) := by decide +kernel
theorem dX12_known_1 : decode cX12_known 1 = .ok (.invokevirtual 605, 3) := by decide +kernel
theorem dX12_known_4 : decode cX12_known 4 = .ok (.lstore 4, 2) := by decide +kernel
theorem dX12_known_6 : decode cX12_known 6 = .ok (.iload_n 1, 1) := by decide +kernel
theorem dX12_known_7 : decode cX12_known 7 = .ok (.i2l, 1) := by decide +kernel
theorem dX12_known_8 : decode cX12_known 8 = .ok (.lconst 0, 1) := by decide +kernel
theorem dX12_known_9 : decode cX12_known 9 = .ok (.ldc2_w 609, 3) := by decide +kernel
theorem dX12_known_12 : decode cX12_known 12 = .ok (.invokestatic 551, 3) := by decide +kernel
theorem dX12_known_15 : decode cX12_known 15 = .ok (.ifCond .ne 6, 3) := by decide +kernel
theorem dX12_known_18 : decode cX12_known 18 = .ok (.bipush (-2), 2) := by decide +kernel
theorem dX12_known_20 : decode cX12_known 20 = .ok (.ireturn, 1) := by decide +kernel
theorem dX12_known_21 : decode cX12_known 21 = .ok (.iload_n 2, 1) := by decide +kernel
theorem dX12_known_22 : decode cX12_known 22 = .ok (.invokestatic 611, 3) := by decide +kernel
theorem dX12_known_25 : decode cX12_known 25 = .ok (.ifCond .eq 17, 3) := by decide +kernel
theorem dX12_known_28 : decode cX12_known 28 = .ok (.iload_n 3, 1) := by decide +kernel
theorem dX12_known_29 : decode cX12_known 29 = .ok (.i2l, 1) := by decide +kernel
theorem dX12_known_30 : decode cX12_known 30 = .ok (.lconst 0, 1) := by decide +kernel
theorem dX12_known_31 : decode cX12_known 31 = .ok (.aload_n 0, 1) := by decide +kernel
theorem dX12_known_32 : decode cX12_known 32 = .ok (.getfield 587, 3) := by decide +kernel
theorem dX12_known_35 : decode cX12_known 35 = .ok (.i2l, 1) := by decide +kernel
theorem dX12_known_36 : decode cX12_known 36 = .ok (.invokestatic 551, 3) := by decide +kernel
theorem dX12_known_39 : decode cX12_known 39 = .ok (.ifCond .ne 6, 3) := by decide +kernel
theorem dX12_known_42 : decode cX12_known 42 = .ok (.bipush (-3), 2) := by decide +kernel
theorem dX12_known_44 : decode cX12_known 44 = .ok (.ireturn, 1) := by decide +kernel
theorem dX12_known_45 : decode cX12_known 45 = .ok (.lload 4, 2) := by decide +kernel
theorem dX12_known_47 : decode cX12_known 47 = .ok (.lconst 0, 1) := by decide +kernel
theorem dX12_known_48 : decode cX12_known 48 = .ok (.lcmp, 1) := by decide +kernel
theorem dX12_known_49 : decode cX12_known 49 = .ok (.ifCond .ne 6, 3) := by decide +kernel
theorem dX12_known_52 : decode cX12_known 52 = .ok (.bipush (-4), 2) := by decide +kernel
theorem dX12_known_54 : decode cX12_known 54 = .ok (.ireturn, 1) := by decide +kernel
theorem dX12_known_55 : decode cX12_known 55 = .ok (.aload_n 0, 1) := by decide +kernel
theorem dX12_known_56 : decode cX12_known 56 = .ok (.iload_n 1, 1) := by decide +kernel
theorem dX12_known_57 : decode cX12_known 57 = .ok (.lload 4, 2) := by decide +kernel
theorem dX12_known_59 : decode cX12_known 59 = .ok (.iload_n 2, 1) := by decide +kernel
theorem dX12_known_60 : decode cX12_known 60 = .ok (.iload_n 3, 1) := by decide +kernel
theorem dX12_known_61 : decode cX12_known 61 = .ok (.invokevirtual 485, 3) := by decide +kernel
theorem dX12_known_64 : decode cX12_known 64 = .ok (.istore 6, 2) := by decide +kernel
theorem dX12_known_66 : decode cX12_known 66 = .ok (.iload 6, 2) := by decide +kernel
theorem dX12_known_68 : decode cX12_known 68 = .ok (.ifCond .lt 12, 3) := by decide +kernel
theorem dX12_known_71 : decode cX12_known 71 = .ok (.aload_n 0, 1) := by decide +kernel
theorem dX12_known_72 : decode cX12_known 72 = .ok (.iconst 0, 1) := by decide +kernel
theorem dX12_known_73 : decode cX12_known 73 = .ok (.iconst 1, 1) := by decide +kernel
theorem dX12_known_74 : decode cX12_known 74 = .ok (.iload 6, 2) := by decide +kernel
theorem dX12_known_76 : decode cX12_known 76 = .ok (.iadd, 1) := by decide +kernel
theorem dX12_known_77 : decode cX12_known 77 = .ok (.invokevirtual 614, 3) := by decide +kernel
theorem dX12_known_80 : decode cX12_known 80 = .ok (.iload 6, 2) := by decide +kernel
theorem dX12_known_82 : decode cX12_known 82 = .ok (.ireturn, 1) := by decide +kernel
theorem dX12_toldText_0 : decode cX12_toldText 0 = .ok (.aload_n 0, 1) := by decide +kernel
theorem dX12_toldText_1 : decode cX12_toldText 1 = .ok (.aload_n 0, 1) := by decide +kernel
theorem dX12_toldText_2 : decode cX12_toldText 2 = .ok (.getfield 299, 3) := by decide +kernel
theorem dX12_toldText_5 : decode cX12_toldText 5 = .ok (.putfield 617, 3) := by decide +kernel
theorem dX12_toldText_8 : decode cX12_toldText 8 = .ok (.bipush (-10), 2) := by decide +kernel
theorem dX12_toldText_10 : decode cX12_toldText 10 = .ok (.aload_n 0, 1) := by decide +kernel
theorem dX12_toldText_11 : decode cX12_toldText 11 = .ok (.getfield 302, 3) := by decide +kernel
theorem dX12_toldText_14 : decode cX12_toldText 14 = .ok (.isub, 1) := by decide +kernel
theorem dX12_toldText_15 : decode cX12_toldText 15 = .ok (.ireturn, 1) := by decide +kernel
theorem dX12_slotOf_0 : decode cX12_slotOf 0 = .ok (.iconst 0, 1) := by decide +kernel
theorem dX12_slotOf_1 : decode cX12_slotOf 1 = .ok (.istore_n 3, 1) := by decide +kernel
theorem dX12_slotOf_2 : decode cX12_slotOf 2 = .ok (.iload_n 3, 1) := by decide +kernel
theorem dX12_slotOf_3 : decode cX12_slotOf 3 = .ok (.aload_n 0, 1) := by decide +kernel
theorem dX12_slotOf_4 : decode cX12_slotOf 4 = .ok (.getfield 124, 3) := by decide +kernel
theorem dX12_slotOf_7 : decode cX12_slotOf 7 = .ok (.iload_n 1, 1) := by decide +kernel
theorem dX12_slotOf_8 : decode cX12_slotOf 8 = .ok (.iaload, 1) := by decide +kernel
theorem dX12_slotOf_9 : decode cX12_slotOf 9 = .ok (.if_icmp .ge 31, 3) := by decide +kernel
theorem dX12_slotOf_12 : decode cX12_slotOf 12 = .ok (.aload_n 0, 1) := by decide +kernel
theorem dX12_slotOf_13 : decode cX12_slotOf 13 = .ok (.getfield 121, 3) := by decide +kernel
theorem dX12_slotOf_16 : decode cX12_slotOf 16 = .ok (.bipush 8, 2) := by decide +kernel
theorem dX12_slotOf_18 : decode cX12_slotOf 18 = .ok (.iload_n 1, 1) := by decide +kernel
theorem dX12_slotOf_19 : decode cX12_slotOf 19 = .ok (.imul, 1) := by decide +kernel
theorem dX12_slotOf_20 : decode cX12_slotOf 20 = .ok (.iload_n 3, 1) := by decide +kernel
theorem dX12_slotOf_21 : decode cX12_slotOf 21 = .ok (.iadd, 1) := by decide +kernel
theorem dX12_slotOf_22 : decode cX12_slotOf 22 = .ok (.iaload, 1) := by decide +kernel
theorem dX12_slotOf_23 : decode cX12_slotOf 23 = .ok (.iload_n 2, 1) := by decide +kernel
theorem dX12_slotOf_24 : decode cX12_slotOf 24 = .ok (.if_icmp .ne 10, 3) := by decide +kernel
theorem dX12_slotOf_27 : decode cX12_slotOf 27 = .ok (.bipush 8, 2) := by decide +kernel
theorem dX12_slotOf_29 : decode cX12_slotOf 29 = .ok (.iload_n 1, 1) := by decide +kernel
theorem dX12_slotOf_30 : decode cX12_slotOf 30 = .ok (.imul, 1) := by decide +kernel
theorem dX12_slotOf_31 : decode cX12_slotOf 31 = .ok (.iload_n 3, 1) := by decide +kernel
theorem dX12_slotOf_32 : decode cX12_slotOf 32 = .ok (.iadd, 1) := by decide +kernel
theorem dX12_slotOf_33 : decode cX12_slotOf 33 = .ok (.ireturn, 1) := by decide +kernel
theorem dX12_slotOf_34 : decode cX12_slotOf 34 = .ok (.iinc 3 1, 3) := by decide +kernel
theorem dX12_slotOf_37 : decode cX12_slotOf 37 = .ok (.goto (-35), 3) := by decide +kernel
theorem dX12_slotOf_40 : decode cX12_slotOf 40 = .ok (.aload_n 0, 1) := by decide +kernel
theorem dX12_slotOf_41 : decode cX12_slotOf 41 = .ok (.getfield 124, 3) := by decide +kernel
theorem dX12_slotOf_44 : decode cX12_slotOf 44 = .ok (.iload_n 1, 1) := by decide +kernel
theorem dX12_slotOf_45 : decode cX12_slotOf 45 = .ok (.iaload, 1) := by decide +kernel
theorem dX12_slotOf_46 : decode cX12_slotOf 46 = .ok (.bipush 8, 2) := by decide +kernel
theorem dX12_slotOf_48 : decode cX12_slotOf 48 = .ok (.if_icmp .ne 7, 3) := by decide +kernel
theorem dX12_slotOf_51 : decode cX12_slotOf 51 = .ok (.iconst (-1), 1) := by decide +kernel
theorem dX12_slotOf_52 : decode cX12_slotOf 52 = .ok (.goto 14, 3) := by decide +kernel
theorem dX12_slotOf_55 : decode cX12_slotOf 55 = .ok (.bipush 8, 2) := by decide +kernel
theorem dX12_slotOf_57 : decode cX12_slotOf 57 = .ok (.iload_n 1, 1) := by decide +kernel
theorem dX12_slotOf_58 : decode cX12_slotOf 58 = .ok (.imul, 1) := by decide +kernel
theorem dX12_slotOf_59 : decode cX12_slotOf 59 = .ok (.aload_n 0, 1) := by decide +kernel
theorem dX12_slotOf_60 : decode cX12_slotOf 60 = .ok (.getfield 124, 3) := by decide +kernel
theorem dX12_slotOf_63 : decode cX12_slotOf 63 = .ok (.iload_n 1, 1) := by decide +kernel
theorem dX12_slotOf_64 : decode cX12_slotOf 64 = .ok (.iaload, 1) := by decide +kernel
theorem dX12_slotOf_65 : decode cX12_slotOf 65 = .ok (.iadd, 1) := by decide +kernel
theorem dX12_slotOf_66 : decode cX12_slotOf 66 = .ok (.ireturn, 1) := by decide +kernel
theorem dX12_edition_0 : decode cX12_edition 0 = .ok (.aload_n 0, 1) := by decide +kernel
theorem dX12_edition_1 : decode cX12_edition 1 = .ok (.invokevirtual 340, 3) := by decide +kernel
theorem dX12_edition_4 : decode cX12_edition 4 = .ok (.iload_n 1, 1) := by decide +kernel
theorem dX12_edition_5 : decode cX12_edition 5 = .ok (.i2l, 1) := by decide +kernel
theorem dX12_edition_6 : decode cX12_edition 6 = .ok (.lconst 0, 1) := by decide +kernel
theorem dX12_edition_7 : decode cX12_edition 7 = .ok (.ldc2_w 236, 3) := by decide +kernel
theorem dX12_edition_10 : decode cX12_edition 10 = .ok (.invokestatic 551, 3) := by decide +kernel
theorem dX12_edition_13 : decode cX12_edition 13 = .ok (.ifCond .ne 6, 3) := by decide +kernel
theorem dX12_edition_16 : decode cX12_edition 16 = .ok (.bipush (-2), 2) := by decide +kernel
theorem dX12_edition_18 : decode cX12_edition 18 = .ok (.ireturn, 1) := by decide +kernel
theorem dX12_edition_19 : decode cX12_edition 19 = .ok (.iload_n 2, 1) := by decide +kernel
theorem dX12_edition_20 : decode cX12_edition 20 = .ok (.invokestatic 611, 3) := by decide +kernel
theorem dX12_edition_23 : decode cX12_edition 23 = .ok (.ifCond .ne 6, 3) := by decide +kernel
theorem dX12_edition_26 : decode cX12_edition 26 = .ok (.bipush (-3), 2) := by decide +kernel
theorem dX12_edition_28 : decode cX12_edition 28 = .ok (.ireturn, 1) := by decide +kernel
theorem dX12_edition_29 : decode cX12_edition 29 = .ok (.aload_n 0, 1) := by decide +kernel
theorem dX12_edition_30 : decode cX12_edition 30 = .ok (.iload_n 1, 1) := by decide +kernel
theorem dX12_edition_31 : decode cX12_edition 31 = .ok (.iload_n 2, 1) := by decide +kernel
theorem dX12_edition_32 : decode cX12_edition 32 = .ok (.invokevirtual 620, 3) := by decide +kernel
theorem dX12_edition_35 : decode cX12_edition 35 = .ok (.istore_n 3, 1) := by decide +kernel
theorem dX12_edition_36 : decode cX12_edition 36 = .ok (.iload_n 3, 1) := by decide +kernel
theorem dX12_edition_37 : decode cX12_edition 37 = .ok (.ifCond .ge 6, 3) := by decide +kernel
theorem dX12_edition_40 : decode cX12_edition 40 = .ok (.bipush (-5), 2) := by decide +kernel
theorem dX12_edition_42 : decode cX12_edition 42 = .ok (.ireturn, 1) := by decide +kernel
theorem dX12_edition_43 : decode cX12_edition 43 = .ok (.aload_n 0, 1) := by decide +kernel
theorem dX12_edition_44 : decode cX12_edition 44 = .ok (.bipush 32, 2) := by decide +kernel
theorem dX12_edition_46 : decode cX12_edition 46 = .ok (.invokevirtual 623, 3) := by decide +kernel
theorem dX12_edition_49 : decode cX12_edition 49 = .ok (.aload_n 0, 1) := by decide +kernel
theorem dX12_edition_50 : decode cX12_edition 50 = .ok (.getfield 299, 3) := by decide +kernel
theorem dX12_edition_53 : decode cX12_edition 53 = .ok (.ifCond .le 8, 3) := by decide +kernel
theorem dX12_edition_56 : decode cX12_edition 56 = .ok (.aload_n 0, 1) := by decide +kernel
theorem dX12_edition_57 : decode cX12_edition 57 = .ok (.invokevirtual 626, 3) := by decide +kernel
theorem dX12_edition_60 : decode cX12_edition 60 = .ok (.ireturn, 1) := by decide +kernel
theorem dX12_edition_61 : decode cX12_edition 61 = .ok (.aload_n 0, 1) := by decide +kernel
theorem dX12_edition_62 : decode cX12_edition 62 = .ok (.iconst 0, 1) := by decide +kernel
theorem dX12_edition_63 : decode cX12_edition 63 = .ok (.putfield 617, 3) := by decide +kernel
theorem dX12_edition_66 : decode cX12_edition 66 = .ok (.aload_n 0, 1) := by decide +kernel
theorem dX12_edition_67 : decode cX12_edition 67 = .ok (.iconst 0, 1) := by decide +kernel
theorem dX12_edition_68 : decode cX12_edition 68 = .ok (.putfield 296, 3) := by decide +kernel
theorem dX12_edition_71 : decode cX12_edition 71 = .ok (.aload_n 0, 1) := by decide +kernel
theorem dX12_edition_72 : decode cX12_edition 72 = .ok (.iconst 0, 1) := by decide +kernel
theorem dX12_edition_73 : decode cX12_edition 73 = .ok (.putfield 299, 3) := by decide +kernel
theorem dX12_edition_76 : decode cX12_edition 76 = .ok (.aload_n 0, 1) := by decide +kernel
theorem dX12_edition_77 : decode cX12_edition 77 = .ok (.iload_n 3, 1) := by decide +kernel
theorem dX12_edition_78 : decode cX12_edition 78 = .ok (.invokevirtual 623, 3) := by decide +kernel
theorem dX12_edition_81 : decode cX12_edition 81 = .ok (.iload_n 3, 1) := by decide +kernel
theorem dX12_edition_82 : decode cX12_edition 82 = .ok (.bipush 8, 2) := by decide +kernel
theorem dX12_edition_84 : decode cX12_edition 84 = .ok (.iload_n 1, 1) := by decide +kernel
theorem dX12_edition_85 : decode cX12_edition 85 = .ok (.imul, 1) := by decide +kernel
theorem dX12_edition_86 : decode cX12_edition 86 = .ok (.aload_n 0, 1) := by decide +kernel
theorem dX12_edition_87 : decode cX12_edition 87 = .ok (.getfield 124, 3) := by decide +kernel
theorem dX12_edition_90 : decode cX12_edition 90 = .ok (.iload_n 1, 1) := by decide +kernel
theorem dX12_edition_91 : decode cX12_edition 91 = .ok (.iaload, 1) := by decide +kernel
theorem dX12_edition_92 : decode cX12_edition 92 = .ok (.iadd, 1) := by decide +kernel
theorem dX12_edition_93 : decode cX12_edition 93 = .ok (.if_icmp .ne 13, 3) := by decide +kernel
theorem dX12_edition_96 : decode cX12_edition 96 = .ok (.aload_n 0, 1) := by decide +kernel
theorem dX12_edition_97 : decode cX12_edition 97 = .ok (.getfield 124, 3) := by decide +kernel
theorem dX12_edition_100 : decode cX12_edition 100 = .ok (.iload_n 1, 1) := by decide +kernel
theorem dX12_edition_101 : decode cX12_edition 101 = .ok (.dup2, 1) := by decide +kernel
theorem dX12_edition_102 : decode cX12_edition 102 = .ok (.iaload, 1) := by decide +kernel
theorem dX12_edition_103 : decode cX12_edition 103 = .ok (.iconst 1, 1) := by decide +kernel
theorem dX12_edition_104 : decode cX12_edition 104 = .ok (.iadd, 1) := by decide +kernel
theorem dX12_edition_105 : decode cX12_edition 105 = .ok (.iastore, 1) := by decide +kernel
theorem dX12_edition_106 : decode cX12_edition 106 = .ok (.aload_n 0, 1) := by decide +kernel
theorem dX12_edition_107 : decode cX12_edition 107 = .ok (.getfield 121, 3) := by decide +kernel
theorem dX12_edition_110 : decode cX12_edition 110 = .ok (.iload_n 3, 1) := by decide +kernel
theorem dX12_edition_111 : decode cX12_edition 111 = .ok (.iload_n 2, 1) := by decide +kernel
theorem dX12_edition_112 : decode cX12_edition 112 = .ok (.iastore, 1) := by decide +kernel
theorem dX12_edition_113 : decode cX12_edition 113 = .ok (.aload_n 0, 1) := by decide +kernel
theorem dX12_edition_114 : decode cX12_edition 114 = .ok (.getfield 60, 3) := by decide +kernel
theorem dX12_edition_117 : decode cX12_edition 117 = .ok (.iload_n 3, 1) := by decide +kernel
theorem dX12_edition_118 : decode cX12_edition 118 = .ok (.iaload, 1) := by decide +kernel
theorem dX12_edition_119 : decode cX12_edition 119 = .ok (.ireturn, 1) := by decide +kernel
theorem dX12_fault_0 : decode cX12_fault 0 = .ok (.aload_n 0, 1) := by decide +kernel
theorem dX12_fault_1 : decode cX12_fault 1 = .ok (.getfield 617, 3) := by decide +kernel
theorem dX12_fault_4 : decode cX12_fault 4 = .ok (.ireturn, 1) := by decide +kernel
theorem dX12_inForceAt_0 : decode cX12_inForceAt 0 = .ok (.iconst (-1), 1) := by decide +kernel
theorem dX12_inForceAt_1 : decode cX12_inForceAt 1 = .ok (.istore_n 3, 1) := by decide +kernel
theorem dX12_inForceAt_2 : decode cX12_inForceAt 2 = .ok (.bipush 8, 2) := by decide +kernel
theorem dX12_inForceAt_4 : decode cX12_inForceAt 4 = .ok (.iload_n 1, 1) := by decide +kernel
theorem dX12_inForceAt_5 : decode cX12_inForceAt 5 = .ok (.imul, 1) := by decide +kernel
theorem dX12_inForceAt_6 : decode cX12_inForceAt 6 = .ok (.istore 4, 2) := by decide +kernel
theorem dX12_inForceAt_8 : decode cX12_inForceAt 8 = .ok (.iload 4, 2) := by decide +kernel
theorem dX12_inForceAt_10 : decode cX12_inForceAt 10 = .ok (.bipush 8, 2) := by decide +kernel
theorem dX12_inForceAt_12 : decode cX12_inForceAt 12 = .ok (.iload_n 1, 1) := by decide +kernel
theorem dX12_inForceAt_13 : decode cX12_inForceAt 13 = .ok (.imul, 1) := by decide +kernel
theorem dX12_inForceAt_14 : decode cX12_inForceAt 14 = .ok (.aload_n 0, 1) := by decide +kernel
theorem dX12_inForceAt_15 : decode cX12_inForceAt 15 = .ok (.getfield 124, 3) := by decide +kernel
theorem dX12_inForceAt_18 : decode cX12_inForceAt 18 = .ok (.iload_n 1, 1) := by decide +kernel
theorem dX12_inForceAt_19 : decode cX12_inForceAt 19 = .ok (.iaload, 1) := by decide +kernel
theorem dX12_inForceAt_20 : decode cX12_inForceAt 20 = .ok (.iadd, 1) := by decide +kernel
theorem dX12_inForceAt_21 : decode cX12_inForceAt 21 = .ok (.if_icmp .ge 47, 3) := by decide +kernel
theorem dX12_inForceAt_24 : decode cX12_inForceAt 24 = .ok (.aload_n 0, 1) := by decide +kernel
theorem dX12_inForceAt_25 : decode cX12_inForceAt 25 = .ok (.getfield 121, 3) := by decide +kernel
theorem dX12_inForceAt_28 : decode cX12_inForceAt 28 = .ok (.iload 4, 2) := by decide +kernel
theorem dX12_inForceAt_30 : decode cX12_inForceAt 30 = .ok (.iaload, 1) := by decide +kernel
theorem dX12_inForceAt_31 : decode cX12_inForceAt 31 = .ok (.iload_n 2, 1) := by decide +kernel
theorem dX12_inForceAt_32 : decode cX12_inForceAt 32 = .ok (.if_icmp .gt 28, 3) := by decide +kernel
theorem dX12_inForceAt_35 : decode cX12_inForceAt 35 = .ok (.iload_n 3, 1) := by decide +kernel
theorem dX12_inForceAt_36 : decode cX12_inForceAt 36 = .ok (.ifCond .lt 19, 3) := by decide +kernel
theorem dX12_inForceAt_39 : decode cX12_inForceAt 39 = .ok (.aload_n 0, 1) := by decide +kernel
theorem dX12_inForceAt_40 : decode cX12_inForceAt 40 = .ok (.getfield 121, 3) := by decide +kernel
theorem dX12_inForceAt_43 : decode cX12_inForceAt 43 = .ok (.iload 4, 2) := by decide +kernel
theorem dX12_inForceAt_45 : decode cX12_inForceAt 45 = .ok (.iaload, 1) := by decide +kernel
theorem dX12_inForceAt_46 : decode cX12_inForceAt 46 = .ok (.aload_n 0, 1) := by decide +kernel
theorem dX12_inForceAt_47 : decode cX12_inForceAt 47 = .ok (.getfield 121, 3) := by decide +kernel
theorem dX12_inForceAt_50 : decode cX12_inForceAt 50 = .ok (.iload_n 3, 1) := by decide +kernel
theorem dX12_inForceAt_51 : decode cX12_inForceAt 51 = .ok (.iaload, 1) := by decide +kernel
theorem dX12_inForceAt_52 : decode cX12_inForceAt 52 = .ok (.if_icmp .le 8, 3) := by decide +kernel
theorem dX12_inForceAt_55 : decode cX12_inForceAt 55 = .ok (.iload 4, 2) := by decide +kernel
theorem dX12_inForceAt_57 : decode cX12_inForceAt 57 = .ok (.goto 4, 3) := by decide +kernel
theorem dX12_inForceAt_60 : decode cX12_inForceAt 60 = .ok (.iload_n 3, 1) := by decide +kernel
theorem dX12_inForceAt_61 : decode cX12_inForceAt 61 = .ok (.istore_n 3, 1) := by decide +kernel
theorem dX12_inForceAt_62 : decode cX12_inForceAt 62 = .ok (.iinc 4 1, 3) := by decide +kernel
theorem dX12_inForceAt_65 : decode cX12_inForceAt 65 = .ok (.goto (-57), 3) := by decide +kernel
theorem dX12_inForceAt_68 : decode cX12_inForceAt 68 = .ok (.iload_n 3, 1) := by decide +kernel
theorem dX12_inForceAt_69 : decode cX12_inForceAt 69 = .ok (.ireturn, 1) := by decide +kernel
theorem dX12_inForce_0 : decode cX12_inForce 0 = .ok (.iload_n 1, 1) := by decide +kernel
theorem dX12_inForce_1 : decode cX12_inForce 1 = .ok (.i2l, 1) := by decide +kernel
theorem dX12_inForce_2 : decode cX12_inForce 2 = .ok (.lconst 0, 1) := by decide +kernel
theorem dX12_inForce_3 : decode cX12_inForce 3 = .ok (.ldc2_w 236, 3) := by decide +kernel
theorem dX12_inForce_6 : decode cX12_inForce 6 = .ok (.invokestatic 551, 3) := by decide +kernel
theorem dX12_inForce_9 : decode cX12_inForce 9 = .ok (.ifCond .ne 6, 3) := by decide +kernel
theorem dX12_inForce_12 : decode cX12_inForce 12 = .ok (.bipush (-2), 2) := by decide +kernel
theorem dX12_inForce_14 : decode cX12_inForce 14 = .ok (.ireturn, 1) := by decide +kernel
theorem dX12_inForce_15 : decode cX12_inForce 15 = .ok (.iload_n 2, 1) := by decide +kernel
theorem dX12_inForce_16 : decode cX12_inForce 16 = .ok (.invokestatic 611, 3) := by decide +kernel
theorem dX12_inForce_19 : decode cX12_inForce 19 = .ok (.ifCond .ne 6, 3) := by decide +kernel
theorem dX12_inForce_22 : decode cX12_inForce 22 = .ok (.bipush (-3), 2) := by decide +kernel
theorem dX12_inForce_24 : decode cX12_inForce 24 = .ok (.ireturn, 1) := by decide +kernel
theorem dX12_inForce_25 : decode cX12_inForce 25 = .ok (.aload_n 0, 1) := by decide +kernel
theorem dX12_inForce_26 : decode cX12_inForce 26 = .ok (.iload_n 1, 1) := by decide +kernel
theorem dX12_inForce_27 : decode cX12_inForce 27 = .ok (.iload_n 2, 1) := by decide +kernel
theorem dX12_inForce_28 : decode cX12_inForce 28 = .ok (.invokevirtual 629, 3) := by decide +kernel
theorem dX12_inForce_31 : decode cX12_inForce 31 = .ok (.istore_n 3, 1) := by decide +kernel
theorem dX12_inForce_32 : decode cX12_inForce 32 = .ok (.iload_n 3, 1) := by decide +kernel
theorem dX12_inForce_33 : decode cX12_inForce 33 = .ok (.ifCond .ge 7, 3) := by decide +kernel
theorem dX12_inForce_36 : decode cX12_inForce 36 = .ok (.iconst (-1), 1) := by decide +kernel
theorem dX12_inForce_37 : decode cX12_inForce 37 = .ok (.goto 9, 3) := by decide +kernel
theorem dX12_inForce_40 : decode cX12_inForce 40 = .ok (.aload_n 0, 1) := by decide +kernel
theorem dX12_inForce_41 : decode cX12_inForce 41 = .ok (.getfield 121, 3) := by decide +kernel
theorem dX12_inForce_44 : decode cX12_inForce 44 = .ok (.iload_n 3, 1) := by decide +kernel
theorem dX12_inForce_45 : decode cX12_inForce 45 = .ok (.iaload, 1) := by decide +kernel
theorem dX12_inForce_46 : decode cX12_inForce 46 = .ok (.ireturn, 1) := by decide +kernel
theorem dX12_figure_0 : decode cX12_figure 0 = .ok (.aload_n 0, 1) := by decide +kernel
theorem dX12_figure_1 : decode cX12_figure 1 = .ok (.invokevirtual 605, 3) := by decide +kernel
theorem dX12_figure_4 : decode cX12_figure 4 = .ok (.lstore 5, 2) := by decide +kernel
theorem dX12_figure_6 : decode cX12_figure 6 = .ok (.iload_n 1, 1) := by decide +kernel
theorem dX12_figure_7 : decode cX12_figure 7 = .ok (.i2l, 1) := by decide +kernel
theorem dX12_figure_8 : decode cX12_figure 8 = .ok (.lconst 0, 1) := by decide +kernel
theorem dX12_figure_9 : decode cX12_figure 9 = .ok (.ldc2_w 609, 3) := by decide +kernel
theorem dX12_figure_12 : decode cX12_figure 12 = .ok (.invokestatic 551, 3) := by decide +kernel
theorem dX12_figure_15 : decode cX12_figure 15 = .ok (.ifCond .eq 15, 3) := by decide +kernel
theorem dX12_figure_18 : decode cX12_figure 18 = .ok (.iload_n 2, 1) := by decide +kernel
theorem dX12_figure_19 : decode cX12_figure 19 = .ok (.i2l, 1) := by decide +kernel
theorem dX12_figure_20 : decode cX12_figure 20 = .ok (.lconst 0, 1) := by decide +kernel
theorem dX12_figure_21 : decode cX12_figure 21 = .ok (.ldc2_w 236, 3) := by decide +kernel
theorem dX12_figure_24 : decode cX12_figure 24 = .ok (.invokestatic 551, 3) := by decide +kernel
theorem dX12_figure_27 : decode cX12_figure 27 = .ok (.ifCond .ne 6, 3) := by decide +kernel
theorem dX12_figure_30 : decode cX12_figure 30 = .ok (.bipush (-2), 2) := by decide +kernel
theorem dX12_figure_32 : decode cX12_figure 32 = .ok (.ireturn, 1) := by decide +kernel
theorem dX12_figure_33 : decode cX12_figure 33 = .ok (.iload_n 3, 1) := by decide +kernel
theorem dX12_figure_34 : decode cX12_figure 34 = .ok (.invokestatic 611, 3) := by decide +kernel
theorem dX12_figure_37 : decode cX12_figure 37 = .ok (.ifCond .eq 18, 3) := by decide +kernel
theorem dX12_figure_40 : decode cX12_figure 40 = .ok (.iload 4, 2) := by decide +kernel
theorem dX12_figure_42 : decode cX12_figure 42 = .ok (.i2l, 1) := by decide +kernel
theorem dX12_figure_43 : decode cX12_figure 43 = .ok (.lconst 0, 1) := by decide +kernel
theorem dX12_figure_44 : decode cX12_figure 44 = .ok (.aload_n 0, 1) := by decide +kernel
theorem dX12_figure_45 : decode cX12_figure 45 = .ok (.getfield 587, 3) := by decide +kernel
theorem dX12_figure_48 : decode cX12_figure 48 = .ok (.i2l, 1) := by decide +kernel
theorem dX12_figure_49 : decode cX12_figure 49 = .ok (.invokestatic 551, 3) := by decide +kernel
theorem dX12_figure_52 : decode cX12_figure 52 = .ok (.ifCond .ne 6, 3) := by decide +kernel
theorem dX12_figure_55 : decode cX12_figure 55 = .ok (.bipush (-3), 2) := by decide +kernel
theorem dX12_figure_57 : decode cX12_figure 57 = .ok (.ireturn, 1) := by decide +kernel
theorem dX12_figure_58 : decode cX12_figure 58 = .ok (.aload_n 0, 1) := by decide +kernel
theorem dX12_figure_59 : decode cX12_figure 59 = .ok (.iload_n 2, 1) := by decide +kernel
theorem dX12_figure_60 : decode cX12_figure 60 = .ok (.iload_n 3, 1) := by decide +kernel
theorem dX12_figure_61 : decode cX12_figure 61 = .ok (.invokevirtual 629, 3) := by decide +kernel
theorem dX12_figure_64 : decode cX12_figure 64 = .ok (.istore 7, 2) := by decide +kernel
theorem dX12_figure_66 : decode cX12_figure 66 = .ok (.iload 7, 2) := by decide +kernel
theorem dX12_figure_68 : decode cX12_figure 68 = .ok (.ifCond .lt 10, 3) := by decide +kernel
theorem dX12_figure_71 : decode cX12_figure 71 = .ok (.lload 5, 2) := by decide +kernel
theorem dX12_figure_73 : decode cX12_figure 73 = .ok (.lconst 0, 1) := by decide +kernel
theorem dX12_figure_74 : decode cX12_figure 74 = .ok (.lcmp, 1) := by decide +kernel
theorem dX12_figure_75 : decode cX12_figure 75 = .ok (.ifCond .ne 7, 3) := by decide +kernel
theorem dX12_figure_78 : decode cX12_figure 78 = .ok (.iconst (-1), 1) := by decide +kernel
theorem dX12_figure_79 : decode cX12_figure 79 = .ok (.goto 11, 3) := by decide +kernel
theorem dX12_figure_82 : decode cX12_figure 82 = .ok (.aload_n 0, 1) := by decide +kernel
theorem dX12_figure_83 : decode cX12_figure 83 = .ok (.iload 7, 2) := by decide +kernel
theorem dX12_figure_85 : decode cX12_figure 85 = .ok (.lload 5, 2) := by decide +kernel
theorem dX12_figure_87 : decode cX12_figure 87 = .ok (.invokevirtual 359, 3) := by decide +kernel
theorem dX12_figure_90 : decode cX12_figure 90 = .ok (.istore 8, 2) := by decide +kernel
theorem dX12_figure_92 : decode cX12_figure 92 = .ok (.iload 8, 2) := by decide +kernel
theorem dX12_figure_94 : decode cX12_figure 94 = .ok (.ifCond .ge 6, 3) := by decide +kernel
theorem dX12_figure_97 : decode cX12_figure 97 = .ok (.bipush (-4), 2) := by decide +kernel
theorem dX12_figure_99 : decode cX12_figure 99 = .ok (.ireturn, 1) := by decide +kernel
theorem dX12_figure_100 : decode cX12_figure 100 = .ok (.aload_n 0, 1) := by decide +kernel
theorem dX12_figure_101 : decode cX12_figure 101 = .ok (.iload 7, 2) := by decide +kernel
theorem dX12_figure_103 : decode cX12_figure 103 = .ok (.iload 8, 2) := by decide +kernel
theorem dX12_figure_105 : decode cX12_figure 105 = .ok (.iload_n 1, 1) := by decide +kernel
theorem dX12_figure_106 : decode cX12_figure 106 = .ok (.iload_n 3, 1) := by decide +kernel
theorem dX12_figure_107 : decode cX12_figure 107 = .ok (.iload 4, 2) := by decide +kernel
theorem dX12_figure_109 : decode cX12_figure 109 = .ok (.invokevirtual 632, 3) := by decide +kernel
theorem dX12_figure_112 : decode cX12_figure 112 = .ok (.istore 9, 2) := by decide +kernel
theorem dX12_figure_114 : decode cX12_figure 114 = .ok (.aload_n 0, 1) := by decide +kernel
theorem dX12_figure_115 : decode cX12_figure 115 = .ok (.iload 9, 2) := by decide +kernel
theorem dX12_figure_117 : decode cX12_figure 117 = .ok (.ifCond .ge 10, 3) := by decide +kernel
theorem dX12_figure_120 : decode cX12_figure 120 = .ok (.aload_n 0, 1) := by decide +kernel
theorem dX12_figure_121 : decode cX12_figure 121 = .ok (.getfield 415, 3) := by decide +kernel
theorem dX12_figure_124 : decode cX12_figure 124 = .ok (.goto 4, 3) := by decide +kernel
theorem dX12_figure_127 : decode cX12_figure 127 = .ok (.iconst (-1), 1) := by decide +kernel
theorem dX12_figure_128 : decode cX12_figure 128 = .ok (.putfield 127, 3) := by decide +kernel
theorem dX12_figure_131 : decode cX12_figure 131 = .ok (.aload_n 0, 1) := by decide +kernel
theorem dX12_figure_132 : decode cX12_figure 132 = .ok (.aload_n 0, 1) := by decide +kernel
theorem dX12_figure_133 : decode cX12_figure 133 = .ok (.getfield 418, 3) := by decide +kernel
theorem dX12_figure_136 : decode cX12_figure 136 = .ok (.putfield 636, 3) := by decide +kernel
theorem dX12_figure_139 : decode cX12_figure 139 = .ok (.aload_n 0, 1) := by decide +kernel
theorem dX12_figure_140 : decode cX12_figure 140 = .ok (.aload_n 0, 1) := by decide +kernel
theorem dX12_figure_141 : decode cX12_figure 141 = .ok (.getfield 430, 3) := by decide +kernel
theorem dX12_figure_144 : decode cX12_figure 144 = .ok (.putfield 639, 3) := by decide +kernel
theorem dX12_figure_147 : decode cX12_figure 147 = .ok (.aload_n 0, 1) := by decide +kernel
theorem dX12_figure_148 : decode cX12_figure 148 = .ok (.aload_n 0, 1) := by decide +kernel
theorem dX12_figure_149 : decode cX12_figure 149 = .ok (.getfield 442, 3) := by decide +kernel
theorem dX12_figure_152 : decode cX12_figure 152 = .ok (.putfield 642, 3) := by decide +kernel
theorem dX12_figure_155 : decode cX12_figure 155 = .ok (.aload_n 0, 1) := by decide +kernel
theorem dX12_figure_156 : decode cX12_figure 156 = .ok (.aload_n 0, 1) := by decide +kernel
theorem dX12_figure_157 : decode cX12_figure 157 = .ok (.getfield 445, 3) := by decide +kernel
theorem dX12_figure_160 : decode cX12_figure 160 = .ok (.putfield 645, 3) := by decide +kernel
theorem dX12_figure_163 : decode cX12_figure 163 = .ok (.iconst 0, 1) := by decide +kernel
theorem dX12_figure_164 : decode cX12_figure 164 = .ok (.istore 10, 2) := by decide +kernel
theorem dX12_figure_166 : decode cX12_figure 166 = .ok (.iload 10, 2) := by decide +kernel
theorem dX12_figure_168 : decode cX12_figure 168 = .ok (.aload_n 0, 1) := by decide +kernel
theorem dX12_figure_169 : decode cX12_figure 169 = .ok (.getfield 430, 3) := by decide +kernel
theorem dX12_figure_172 : decode cX12_figure 172 = .ok (.if_icmp .ge 61, 3) := by decide +kernel
theorem dX12_figure_175 : decode cX12_figure 175 = .ok (.aload_n 0, 1) := by decide +kernel
theorem dX12_figure_176 : decode cX12_figure 176 = .ok (.getfield 131, 3) := by decide +kernel
theorem dX12_figure_179 : decode cX12_figure 179 = .ok (.iload 10, 2) := by decide +kernel
theorem dX12_figure_181 : decode cX12_figure 181 = .ok (.aload_n 0, 1) := by decide +kernel
theorem dX12_figure_182 : decode cX12_figure 182 = .ok (.getfield 87, 3) := by decide +kernel
theorem dX12_figure_185 : decode cX12_figure 185 = .ok (.iload 10, 2) := by decide +kernel
theorem dX12_figure_187 : decode cX12_figure 187 = .ok (.iaload, 1) := by decide +kernel
theorem dX12_figure_188 : decode cX12_figure 188 = .ok (.iastore, 1) := by decide +kernel
theorem dX12_figure_189 : decode cX12_figure 189 = .ok (.aload_n 0, 1) := by decide +kernel
theorem dX12_figure_190 : decode cX12_figure 190 = .ok (.getfield 87, 3) := by decide +kernel
theorem dX12_figure_193 : decode cX12_figure 193 = .ok (.iload 10, 2) := by decide +kernel
theorem dX12_figure_195 : decode cX12_figure 195 = .ok (.iaload, 1) := by decide +kernel
theorem dX12_figure_196 : decode cX12_figure 196 = .ok (.bipush 100, 2) := by decide +kernel
theorem dX12_figure_198 : decode cX12_figure 198 = .ok (.irem, 1) := by decide +kernel
theorem dX12_figure_199 : decode cX12_figure 199 = .ok (.ifCond .ne 28, 3) := by decide +kernel
theorem dX12_figure_202 : decode cX12_figure 202 = .ok (.aload_n 0, 1) := by decide +kernel
theorem dX12_figure_203 : decode cX12_figure 203 = .ok (.sipush 201, 3) := by decide +kernel
theorem dX12_figure_206 : decode cX12_figure 206 = .ok (.iload 10, 2) := by decide +kernel
theorem dX12_figure_208 : decode cX12_figure 208 = .ok (.iadd, 1) := by decide +kernel
theorem dX12_figure_209 : decode cX12_figure 209 = .ok (.aload_n 0, 1) := by decide +kernel
theorem dX12_figure_210 : decode cX12_figure 210 = .ok (.getfield 78, 3) := by decide +kernel
theorem dX12_figure_213 : decode cX12_figure 213 = .ok (.aload_n 0, 1) := by decide +kernel
theorem dX12_figure_214 : decode cX12_figure 214 = .ok (.getfield 87, 3) := by decide +kernel
theorem dX12_figure_217 : decode cX12_figure 217 = .ok (.iload 10, 2) := by decide +kernel
theorem dX12_figure_219 : decode cX12_figure 219 = .ok (.iaload, 1) := by decide +kernel
theorem dX12_figure_220 : decode cX12_figure 220 = .ok (.bipush 100, 2) := by decide +kernel
theorem dX12_figure_222 : decode cX12_figure 222 = .ok (.idiv, 1) := by decide +kernel
theorem dX12_figure_223 : decode cX12_figure 223 = .ok (.iaload, 1) := by decide +kernel
theorem dX12_figure_224 : decode cX12_figure 224 = .ok (.invokevirtual 614, 3) := by decide +kernel
theorem dX12_figure_227 : decode cX12_figure 227 = .ok (.iinc 10 1, 3) := by decide +kernel
theorem dX12_figure_230 : decode cX12_figure 230 = .ok (.goto (-64), 3) := by decide +kernel
theorem dX12_figure_233 : decode cX12_figure 233 = .ok (.iload 9, 2) := by decide +kernel
theorem dX12_figure_235 : decode cX12_figure 235 = .ok (.ifCond .ge 8, 3) := by decide +kernel
theorem dX12_figure_238 : decode cX12_figure 238 = .ok (.aload_n 0, 1) := by decide +kernel
theorem dX12_figure_239 : decode cX12_figure 239 = .ok (.getfield 409, 3) := by decide +kernel
theorem dX12_figure_242 : decode cX12_figure 242 = .ok (.ireturn, 1) := by decide +kernel
theorem dX12_figure_243 : decode cX12_figure 243 = .ok (.aload_n 0, 1) := by decide +kernel
theorem dX12_figure_244 : decode cX12_figure 244 = .ok (.iconst 0, 1) := by decide +kernel
theorem dX12_figure_245 : decode cX12_figure 245 = .ok (.iload 9, 2) := by decide +kernel
theorem dX12_figure_247 : decode cX12_figure 247 = .ok (.invokevirtual 614, 3) := by decide +kernel
theorem dX12_figure_250 : decode cX12_figure 250 = .ok (.iconst 0, 1) := by decide +kernel
theorem dX12_figure_251 : decode cX12_figure 251 = .ok (.ireturn, 1) := by decide +kernel
theorem dX12_told_0 : decode cX12_told 0 = .ok (.iload_n 1, 1) := by decide +kernel
theorem dX12_told_1 : decode cX12_told 1 = .ok (.tableswitch 60 0 4 #[35, 40, 45, 50, 55], 35) := by decide +kernel
theorem dX12_told_36 : decode cX12_told 36 = .ok (.aload_n 0, 1) := by decide +kernel
theorem dX12_told_37 : decode cX12_told 37 = .ok (.getfield 127, 3) := by decide +kernel
theorem dX12_told_40 : decode cX12_told 40 = .ok (.ireturn, 1) := by decide +kernel
theorem dX12_told_41 : decode cX12_told 41 = .ok (.aload_n 0, 1) := by decide +kernel
theorem dX12_told_42 : decode cX12_told 42 = .ok (.getfield 636, 3) := by decide +kernel
theorem dX12_told_45 : decode cX12_told 45 = .ok (.ireturn, 1) := by decide +kernel
theorem dX12_told_46 : decode cX12_told 46 = .ok (.aload_n 0, 1) := by decide +kernel
theorem dX12_told_47 : decode cX12_told 47 = .ok (.getfield 639, 3) := by decide +kernel
theorem dX12_told_50 : decode cX12_told 50 = .ok (.ireturn, 1) := by decide +kernel
theorem dX12_told_51 : decode cX12_told 51 = .ok (.aload_n 0, 1) := by decide +kernel
theorem dX12_told_52 : decode cX12_told 52 = .ok (.getfield 642, 3) := by decide +kernel
theorem dX12_told_55 : decode cX12_told 55 = .ok (.ireturn, 1) := by decide +kernel
theorem dX12_told_56 : decode cX12_told 56 = .ok (.aload_n 0, 1) := by decide +kernel
theorem dX12_told_57 : decode cX12_told 57 = .ok (.getfield 645, 3) := by decide +kernel
theorem dX12_told_60 : decode cX12_told 60 = .ok (.ireturn, 1) := by decide +kernel
theorem dX12_told_61 : decode cX12_told 61 = .ok (.bipush (-3), 2) := by decide +kernel
theorem dX12_told_63 : decode cX12_told 63 = .ok (.ireturn, 1) := by decide +kernel
theorem dX12_step_0 : decode cX12_step 0 = .ok (.iload_n 1, 1) := by decide +kernel
theorem dX12_step_1 : decode cX12_step 1 = .ok (.i2l, 1) := by decide +kernel
theorem dX12_step_2 : decode cX12_step 2 = .ok (.lconst 0, 1) := by decide +kernel
theorem dX12_step_3 : decode cX12_step 3 = .ok (.aload_n 0, 1) := by decide +kernel
theorem dX12_step_4 : decode cX12_step 4 = .ok (.getfield 639, 3) := by decide +kernel
theorem dX12_step_7 : decode cX12_step 7 = .ok (.iconst 1, 1) := by decide +kernel
theorem dX12_step_8 : decode cX12_step 8 = .ok (.isub, 1) := by decide +kernel
theorem dX12_step_9 : decode cX12_step 9 = .ok (.i2l, 1) := by decide +kernel
theorem dX12_step_10 : decode cX12_step 10 = .ok (.invokestatic 551, 3) := by decide +kernel
theorem dX12_step_13 : decode cX12_step 13 = .ok (.ifCond .ne 6, 3) := by decide +kernel
theorem dX12_step_16 : decode cX12_step 16 = .ok (.bipush (-2), 2) := by decide +kernel
theorem dX12_step_18 : decode cX12_step 18 = .ok (.ireturn, 1) := by decide +kernel
theorem dX12_step_19 : decode cX12_step 19 = .ok (.aload_n 0, 1) := by decide +kernel
theorem dX12_step_20 : decode cX12_step 20 = .ok (.getfield 131, 3) := by decide +kernel
theorem dX12_step_23 : decode cX12_step 23 = .ok (.iload_n 1, 1) := by decide +kernel
theorem dX12_step_24 : decode cX12_step 24 = .ok (.iaload, 1) := by decide +kernel
theorem dX12_step_25 : decode cX12_step 25 = .ok (.bipush 100, 2) := by decide +kernel
theorem dX12_step_27 : decode cX12_step 27 = .ok (.irem, 1) := by decide +kernel
theorem dX12_step_28 : decode cX12_step 28 = .ok (.ifCond .ne 13, 3) := by decide +kernel
theorem dX12_step_31 : decode cX12_step 31 = .ok (.aload_n 0, 1) := by decide +kernel
theorem dX12_step_32 : decode cX12_step 32 = .ok (.iconst 0, 1) := by decide +kernel
theorem dX12_step_33 : decode cX12_step 33 = .ok (.sipush 201, 3) := by decide +kernel
theorem dX12_step_36 : decode cX12_step 36 = .ok (.iload_n 1, 1) := by decide +kernel
theorem dX12_step_37 : decode cX12_step 37 = .ok (.iadd, 1) := by decide +kernel
theorem dX12_step_38 : decode cX12_step 38 = .ok (.invokevirtual 614, 3) := by decide +kernel
theorem dX12_step_41 : decode cX12_step 41 = .ok (.aload_n 0, 1) := by decide +kernel
theorem dX12_step_42 : decode cX12_step 42 = .ok (.getfield 131, 3) := by decide +kernel
theorem dX12_step_45 : decode cX12_step 45 = .ok (.iload_n 1, 1) := by decide +kernel
theorem dX12_step_46 : decode cX12_step 46 = .ok (.iaload, 1) := by decide +kernel
theorem dX12_step_47 : decode cX12_step 47 = .ok (.ireturn, 1) := by decide +kernel
theorem dX12_workDue_0 : decode cX12_workDue 0 = .ok (.iload_n 1, 1) := by decide +kernel
theorem dX12_workDue_1 : decode cX12_workDue 1 = .ok (.ifCond .ge 7, 3) := by decide +kernel
theorem dX12_workDue_4 : decode cX12_workDue 4 = .ok (.iconst (-1), 1) := by decide +kernel
theorem dX12_workDue_5 : decode cX12_workDue 5 = .ok (.goto 11, 3) := by decide +kernel
theorem dX12_workDue_8 : decode cX12_workDue 8 = .ok (.aload_n 0, 1) := by decide +kernel
theorem dX12_workDue_9 : decode cX12_workDue 9 = .ok (.iload_n 1, 1) := by decide +kernel
theorem dX12_workDue_10 : decode cX12_workDue 10 = .ok (.ldc2_w 648, 3) := by decide +kernel
theorem dX12_workDue_13 : decode cX12_workDue 13 = .ok (.invokevirtual 359, 3) := by decide +kernel
theorem dX12_workDue_16 : decode cX12_workDue 16 = .ok (.istore 5, 2) := by decide +kernel
theorem dX12_workDue_18 : decode cX12_workDue 18 = .ok (.iload 5, 2) := by decide +kernel
theorem dX12_workDue_20 : decode cX12_workDue 20 = .ok (.ifCond .ge 5, 3) := by decide +kernel
theorem dX12_workDue_23 : decode cX12_workDue 23 = .ok (.iconst 1, 1) := by decide +kernel
theorem dX12_workDue_24 : decode cX12_workDue 24 = .ok (.ireturn, 1) := by decide +kernel
theorem dX12_workDue_25 : decode cX12_workDue 25 = .ok (.aload_n 0, 1) := by decide +kernel
theorem dX12_workDue_26 : decode cX12_workDue 26 = .ok (.aload_n 0, 1) := by decide +kernel
theorem dX12_workDue_27 : decode cX12_workDue 27 = .ok (.iload_n 1, 1) := by decide +kernel
theorem dX12_workDue_28 : decode cX12_workDue 28 = .ok (.iload 5, 2) := by decide +kernel
theorem dX12_workDue_30 : decode cX12_workDue 30 = .ok (.iload_n 2, 1) := by decide +kernel
theorem dX12_workDue_31 : decode cX12_workDue 31 = .ok (.iload_n 3, 1) := by decide +kernel
theorem dX12_workDue_32 : decode cX12_workDue 32 = .ok (.iload 4, 2) := by decide +kernel
theorem dX12_workDue_34 : decode cX12_workDue 34 = .ok (.invokevirtual 632, 3) := by decide +kernel
theorem dX12_workDue_37 : decode cX12_workDue 37 = .ok (.putfield 650, 3) := by decide +kernel
theorem dX12_workDue_40 : decode cX12_workDue 40 = .ok (.aload_n 0, 1) := by decide +kernel
theorem dX12_workDue_41 : decode cX12_workDue 41 = .ok (.getfield 650, 3) := by decide +kernel
theorem dX12_workDue_44 : decode cX12_workDue 44 = .ok (.ifCond .ge 10, 3) := by decide +kernel
theorem dX12_workDue_47 : decode cX12_workDue 47 = .ok (.aload_n 0, 1) := by decide +kernel
theorem dX12_workDue_48 : decode cX12_workDue 48 = .ok (.getfield 409, 3) := by decide +kernel
theorem dX12_workDue_51 : decode cX12_workDue 51 = .ok (.goto 4, 3) := by decide +kernel
theorem dX12_workDue_54 : decode cX12_workDue 54 = .ok (.iconst 0, 1) := by decide +kernel
theorem dX12_workDue_55 : decode cX12_workDue 55 = .ok (.ireturn, 1) := by decide +kernel
theorem dX12_areAlike_0 : decode cX12_areAlike 0 = .ok (.aload_n 0, 1) := by decide +kernel
theorem dX12_areAlike_1 : decode cX12_areAlike 1 = .ok (.getfield 7, 3) := by decide +kernel
theorem dX12_areAlike_4 : decode cX12_areAlike 4 = .ok (.iload_n 1, 1) := by decide +kernel
theorem dX12_areAlike_5 : decode cX12_areAlike 5 = .ok (.iaload, 1) := by decide +kernel
theorem dX12_areAlike_6 : decode cX12_areAlike 6 = .ok (.aload_n 0, 1) := by decide +kernel
theorem dX12_areAlike_7 : decode cX12_areAlike 7 = .ok (.getfield 7, 3) := by decide +kernel
theorem dX12_areAlike_10 : decode cX12_areAlike 10 = .ok (.iload_n 2, 1) := by decide +kernel
theorem dX12_areAlike_11 : decode cX12_areAlike 11 = .ok (.iaload, 1) := by decide +kernel
theorem dX12_areAlike_12 : decode cX12_areAlike 12 = .ok (.if_icmp .ne 18, 3) := by decide +kernel
theorem dX12_areAlike_15 : decode cX12_areAlike 15 = .ok (.aload_n 0, 1) := by decide +kernel
theorem dX12_areAlike_16 : decode cX12_areAlike 16 = .ok (.getfield 13, 3) := by decide +kernel
theorem dX12_areAlike_19 : decode cX12_areAlike 19 = .ok (.iload_n 1, 1) := by decide +kernel
theorem dX12_areAlike_20 : decode cX12_areAlike 20 = .ok (.iaload, 1) := by decide +kernel
theorem dX12_areAlike_21 : decode cX12_areAlike 21 = .ok (.aload_n 0, 1) := by decide +kernel
theorem dX12_areAlike_22 : decode cX12_areAlike 22 = .ok (.getfield 13, 3) := by decide +kernel
theorem dX12_areAlike_25 : decode cX12_areAlike 25 = .ok (.iload_n 2, 1) := by decide +kernel
theorem dX12_areAlike_26 : decode cX12_areAlike 26 = .ok (.iaload, 1) := by decide +kernel
theorem dX12_areAlike_27 : decode cX12_areAlike 27 = .ok (.if_icmp .eq 5, 3) := by decide +kernel
theorem dX12_areAlike_30 : decode cX12_areAlike 30 = .ok (.iconst 0, 1) := by decide +kernel
theorem dX12_areAlike_31 : decode cX12_areAlike 31 = .ok (.ireturn, 1) := by decide +kernel
theorem dX12_areAlike_32 : decode cX12_areAlike 32 = .ok (.aload_n 0, 1) := by decide +kernel
theorem dX12_areAlike_33 : decode cX12_areAlike 33 = .ok (.getfield 7, 3) := by decide +kernel
theorem dX12_areAlike_36 : decode cX12_areAlike 36 = .ok (.iload_n 1, 1) := by decide +kernel
theorem dX12_areAlike_37 : decode cX12_areAlike 37 = .ok (.iaload, 1) := by decide +kernel
theorem dX12_areAlike_38 : decode cX12_areAlike 38 = .ok (.invokestatic 548, 3) := by decide +kernel
theorem dX12_areAlike_41 : decode cX12_areAlike 41 = .ok (.ifCond .eq 12, 3) := by decide +kernel
theorem dX12_areAlike_44 : decode cX12_areAlike 44 = .ok (.aload_n 0, 1) := by decide +kernel
theorem dX12_areAlike_45 : decode cX12_areAlike 45 = .ok (.getfield 13, 3) := by decide +kernel
theorem dX12_areAlike_48 : decode cX12_areAlike 48 = .ok (.iload_n 1, 1) := by decide +kernel
theorem dX12_areAlike_49 : decode cX12_areAlike 49 = .ok (.iaload, 1) := by decide +kernel
theorem dX12_areAlike_50 : decode cX12_areAlike 50 = .ok (.goto 4, 3) := by decide +kernel
theorem dX12_areAlike_53 : decode cX12_areAlike 53 = .ok (.iconst 1, 1) := by decide +kernel
theorem dX12_areAlike_54 : decode cX12_areAlike 54 = .ok (.istore_n 3, 1) := by decide +kernel
theorem dX12_areAlike_55 : decode cX12_areAlike 55 = .ok (.iconst 0, 1) := by decide +kernel
theorem dX12_areAlike_56 : decode cX12_areAlike 56 = .ok (.istore 4, 2) := by decide +kernel
theorem dX12_areAlike_58 : decode cX12_areAlike 58 = .ok (.iload 4, 2) := by decide +kernel
theorem dX12_areAlike_60 : decode cX12_areAlike 60 = .ok (.iload_n 3, 1) := by decide +kernel
theorem dX12_areAlike_61 : decode cX12_areAlike 61 = .ok (.if_icmp .ge 108, 3) := by decide +kernel
theorem dX12_areAlike_64 : decode cX12_areAlike 64 = .ok (.aload_n 0, 1) := by decide +kernel
theorem dX12_areAlike_65 : decode cX12_areAlike 65 = .ok (.getfield 7, 3) := by decide +kernel
theorem dX12_areAlike_68 : decode cX12_areAlike 68 = .ok (.iload_n 1, 1) := by decide +kernel
theorem dX12_areAlike_69 : decode cX12_areAlike 69 = .ok (.iaload, 1) := by decide +kernel
theorem dX12_areAlike_70 : decode cX12_areAlike 70 = .ok (.iconst 1, 1) := by decide +kernel
theorem dX12_areAlike_71 : decode cX12_areAlike 71 = .ok (.if_icmp .eq 13, 3) := by decide +kernel
theorem dX12_areAlike_74 : decode cX12_areAlike 74 = .ok (.aload_n 0, 1) := by decide +kernel
theorem dX12_areAlike_75 : decode cX12_areAlike 75 = .ok (.getfield 7, 3) := by decide +kernel
theorem dX12_areAlike_78 : decode cX12_areAlike 78 = .ok (.iload_n 1, 1) := by decide +kernel
theorem dX12_areAlike_79 : decode cX12_areAlike 79 = .ok (.iaload, 1) := by decide +kernel
theorem dX12_areAlike_80 : decode cX12_areAlike 80 = .ok (.iconst 4, 1) := by decide +kernel
theorem dX12_areAlike_81 : decode cX12_areAlike 81 = .ok (.if_icmp .ne 7, 3) := by decide +kernel
theorem dX12_areAlike_84 : decode cX12_areAlike 84 = .ok (.iconst 1, 1) := by decide +kernel
theorem dX12_areAlike_85 : decode cX12_areAlike 85 = .ok (.goto 4, 3) := by decide +kernel
theorem dX12_areAlike_88 : decode cX12_areAlike 88 = .ok (.iconst 0, 1) := by decide +kernel
theorem dX12_areAlike_89 : decode cX12_areAlike 89 = .ok (.istore 5, 2) := by decide +kernel
theorem dX12_areAlike_91 : decode cX12_areAlike 91 = .ok (.iload 5, 2) := by decide +kernel
theorem dX12_areAlike_93 : decode cX12_areAlike 93 = .ok (.ifCond .eq 40, 3) := by decide +kernel
theorem dX12_areAlike_96 : decode cX12_areAlike 96 = .ok (.aload_n 0, 1) := by decide +kernel
theorem dX12_areAlike_97 : decode cX12_areAlike 97 = .ok (.getfield 20, 3) := by decide +kernel
theorem dX12_areAlike_100 : decode cX12_areAlike 100 = .ok (.bipush 12, 2) := by decide +kernel
theorem dX12_areAlike_102 : decode cX12_areAlike 102 = .ok (.iload_n 1, 1) := by decide +kernel
theorem dX12_areAlike_103 : decode cX12_areAlike 103 = .ok (.imul, 1) := by decide +kernel
theorem dX12_areAlike_104 : decode cX12_areAlike 104 = .ok (.iload 4, 2) := by decide +kernel
theorem dX12_areAlike_106 : decode cX12_areAlike 106 = .ok (.iadd, 1) := by decide +kernel
theorem dX12_areAlike_107 : decode cX12_areAlike 107 = .ok (.daload, 1) := by decide +kernel
theorem dX12_areAlike_108 : decode cX12_areAlike 108 = .ok (.invokestatic 230, 3) := by decide +kernel
theorem dX12_areAlike_111 : decode cX12_areAlike 111 = .ok (.aload_n 0, 1) := by decide +kernel
theorem dX12_areAlike_112 : decode cX12_areAlike 112 = .ok (.getfield 20, 3) := by decide +kernel
theorem dX12_areAlike_115 : decode cX12_areAlike 115 = .ok (.bipush 12, 2) := by decide +kernel
theorem dX12_areAlike_117 : decode cX12_areAlike 117 = .ok (.iload_n 2, 1) := by decide +kernel
theorem dX12_areAlike_118 : decode cX12_areAlike 118 = .ok (.imul, 1) := by decide +kernel
theorem dX12_areAlike_119 : decode cX12_areAlike 119 = .ok (.iload 4, 2) := by decide +kernel
theorem dX12_areAlike_121 : decode cX12_areAlike 121 = .ok (.iadd, 1) := by decide +kernel
theorem dX12_areAlike_122 : decode cX12_areAlike 122 = .ok (.daload, 1) := by decide +kernel
theorem dX12_areAlike_123 : decode cX12_areAlike 123 = .ok (.invokestatic 230, 3) := by decide +kernel
theorem dX12_areAlike_126 : decode cX12_areAlike 126 = .ok (.lcmp, 1) := by decide +kernel
theorem dX12_areAlike_127 : decode cX12_areAlike 127 = .ok (.ifCond .eq 36, 3) := by decide +kernel
theorem dX12_areAlike_130 : decode cX12_areAlike 130 = .ok (.goto 31, 3) := by decide +kernel
theorem dX12_areAlike_133 : decode cX12_areAlike 133 = .ok (.aload_n 0, 1) := by decide +kernel
theorem dX12_areAlike_134 : decode cX12_areAlike 134 = .ok (.getfield 16, 3) := by decide +kernel
theorem dX12_areAlike_137 : decode cX12_areAlike 137 = .ok (.bipush 12, 2) := by decide +kernel
theorem dX12_areAlike_139 : decode cX12_areAlike 139 = .ok (.iload_n 1, 1) := by decide +kernel
theorem dX12_areAlike_140 : decode cX12_areAlike 140 = .ok (.imul, 1) := by decide +kernel
theorem dX12_areAlike_141 : decode cX12_areAlike 141 = .ok (.iload 4, 2) := by decide +kernel
theorem dX12_areAlike_143 : decode cX12_areAlike 143 = .ok (.iadd, 1) := by decide +kernel
theorem dX12_areAlike_144 : decode cX12_areAlike 144 = .ok (.laload, 1) := by decide +kernel
theorem dX12_areAlike_145 : decode cX12_areAlike 145 = .ok (.aload_n 0, 1) := by decide +kernel
theorem dX12_areAlike_146 : decode cX12_areAlike 146 = .ok (.getfield 16, 3) := by decide +kernel
theorem dX12_areAlike_149 : decode cX12_areAlike 149 = .ok (.bipush 12, 2) := by decide +kernel
theorem dX12_areAlike_151 : decode cX12_areAlike 151 = .ok (.iload_n 2, 1) := by decide +kernel
theorem dX12_areAlike_152 : decode cX12_areAlike 152 = .ok (.imul, 1) := by decide +kernel
theorem dX12_areAlike_153 : decode cX12_areAlike 153 = .ok (.iload 4, 2) := by decide +kernel
theorem dX12_areAlike_155 : decode cX12_areAlike 155 = .ok (.iadd, 1) := by decide +kernel
theorem dX12_areAlike_156 : decode cX12_areAlike 156 = .ok (.laload, 1) := by decide +kernel
theorem dX12_areAlike_157 : decode cX12_areAlike 157 = .ok (.lcmp, 1) := by decide +kernel
theorem dX12_areAlike_158 : decode cX12_areAlike 158 = .ok (.ifCond .eq 5, 3) := by decide +kernel
theorem dX12_areAlike_161 : decode cX12_areAlike 161 = .ok (.iconst 0, 1) := by decide +kernel
theorem dX12_areAlike_162 : decode cX12_areAlike 162 = .ok (.ireturn, 1) := by decide +kernel
theorem dX12_areAlike_163 : decode cX12_areAlike 163 = .ok (.iinc 4 1, 3) := by decide +kernel
theorem dX12_areAlike_166 : decode cX12_areAlike 166 = .ok (.goto (-108), 3) := by decide +kernel
theorem dX12_areAlike_169 : decode cX12_areAlike 169 = .ok (.iconst 1, 1) := by decide +kernel
theorem dX12_areAlike_170 : decode cX12_areAlike 170 = .ok (.ireturn, 1) := by decide +kernel
theorem dX12_trial_0 : decode cX12_trial 0 = .ok (.aload_n 0, 1) := by decide +kernel
theorem dX12_trial_1 : decode cX12_trial 1 = .ok (.invokevirtual 340, 3) := by decide +kernel
theorem dX12_trial_4 : decode cX12_trial 4 = .ok (.iload_n 1, 1) := by decide +kernel
theorem dX12_trial_5 : decode cX12_trial 5 = .ok (.i2l, 1) := by decide +kernel
theorem dX12_trial_6 : decode cX12_trial 6 = .ok (.lconst 0, 1) := by decide +kernel
theorem dX12_trial_7 : decode cX12_trial 7 = .ok (.ldc2_w 236, 3) := by decide +kernel
theorem dX12_trial_10 : decode cX12_trial 10 = .ok (.invokestatic 551, 3) := by decide +kernel
theorem dX12_trial_13 : decode cX12_trial 13 = .ok (.ifCond .ne 6, 3) := by decide +kernel
theorem dX12_trial_16 : decode cX12_trial 16 = .ok (.bipush (-2), 2) := by decide +kernel
theorem dX12_trial_18 : decode cX12_trial 18 = .ok (.ireturn, 1) := by decide +kernel
theorem dX12_trial_19 : decode cX12_trial 19 = .ok (.iload_n 2, 1) := by decide +kernel
theorem dX12_trial_20 : decode cX12_trial 20 = .ok (.invokestatic 611, 3) := by decide +kernel
theorem dX12_trial_23 : decode cX12_trial 23 = .ok (.ifCond .eq 17, 3) := by decide +kernel
theorem dX12_trial_26 : decode cX12_trial 26 = .ok (.iload_n 3, 1) := by decide +kernel
theorem dX12_trial_27 : decode cX12_trial 27 = .ok (.i2l, 1) := by decide +kernel
theorem dX12_trial_28 : decode cX12_trial 28 = .ok (.lconst 0, 1) := by decide +kernel
theorem dX12_trial_29 : decode cX12_trial 29 = .ok (.aload_n 0, 1) := by decide +kernel
theorem dX12_trial_30 : decode cX12_trial 30 = .ok (.getfield 587, 3) := by decide +kernel
theorem dX12_trial_33 : decode cX12_trial 33 = .ok (.i2l, 1) := by decide +kernel
theorem dX12_trial_34 : decode cX12_trial 34 = .ok (.invokestatic 551, 3) := by decide +kernel
theorem dX12_trial_37 : decode cX12_trial 37 = .ok (.ifCond .ne 6, 3) := by decide +kernel
theorem dX12_trial_40 : decode cX12_trial 40 = .ok (.bipush (-3), 2) := by decide +kernel
theorem dX12_trial_42 : decode cX12_trial 42 = .ok (.ireturn, 1) := by decide +kernel
theorem dX12_trial_43 : decode cX12_trial 43 = .ok (.aload_n 0, 1) := by decide +kernel
theorem dX12_trial_44 : decode cX12_trial 44 = .ok (.bipush 32, 2) := by decide +kernel
theorem dX12_trial_46 : decode cX12_trial 46 = .ok (.invokevirtual 623, 3) := by decide +kernel
theorem dX12_trial_49 : decode cX12_trial 49 = .ok (.aload_n 0, 1) := by decide +kernel
theorem dX12_trial_50 : decode cX12_trial 50 = .ok (.getfield 299, 3) := by decide +kernel
theorem dX12_trial_53 : decode cX12_trial 53 = .ok (.ifCond .le 8, 3) := by decide +kernel
theorem dX12_trial_56 : decode cX12_trial 56 = .ok (.aload_n 0, 1) := by decide +kernel
theorem dX12_trial_57 : decode cX12_trial 57 = .ok (.invokevirtual 626, 3) := by decide +kernel
theorem dX12_trial_60 : decode cX12_trial 60 = .ok (.ireturn, 1) := by decide +kernel
theorem dX12_trial_61 : decode cX12_trial 61 = .ok (.aload_n 0, 1) := by decide +kernel
theorem dX12_trial_62 : decode cX12_trial 62 = .ok (.iconst 0, 1) := by decide +kernel
theorem dX12_trial_63 : decode cX12_trial 63 = .ok (.putfield 617, 3) := by decide +kernel
theorem dX12_trial_66 : decode cX12_trial 66 = .ok (.aload_n 0, 1) := by decide +kernel
theorem dX12_trial_67 : decode cX12_trial 67 = .ok (.iload_n 1, 1) := by decide +kernel
theorem dX12_trial_68 : decode cX12_trial 68 = .ok (.iload_n 2, 1) := by decide +kernel
theorem dX12_trial_69 : decode cX12_trial 69 = .ok (.invokevirtual 629, 3) := by decide +kernel
theorem dX12_trial_72 : decode cX12_trial 72 = .ok (.istore 4, 2) := by decide +kernel
theorem dX12_trial_74 : decode cX12_trial 74 = .ok (.iconst 0, 1) := by decide +kernel
theorem dX12_trial_75 : decode cX12_trial 75 = .ok (.istore 5, 2) := by decide +kernel
theorem dX12_trial_77 : decode cX12_trial 77 = .ok (.iconst 0, 1) := by decide +kernel
theorem dX12_trial_78 : decode cX12_trial 78 = .ok (.istore 6, 2) := by decide +kernel
theorem dX12_trial_80 : decode cX12_trial 80 = .ok (.iload 6, 2) := by decide +kernel
theorem dX12_trial_82 : decode cX12_trial 82 = .ok (.bipush 10, 2) := by decide +kernel
theorem dX12_trial_84 : decode cX12_trial 84 = .ok (.if_icmp .ge 100, 3) := by decide +kernel
theorem dX12_trial_87 : decode cX12_trial 87 = .ok (.aload_n 0, 1) := by decide +kernel
theorem dX12_trial_88 : decode cX12_trial 88 = .ok (.bipush 32, 2) := by decide +kernel
theorem dX12_trial_90 : decode cX12_trial 90 = .ok (.iload 6, 2) := by decide +kernel
theorem dX12_trial_92 : decode cX12_trial 92 = .ok (.iload_n 2, 1) := by decide +kernel
theorem dX12_trial_93 : decode cX12_trial 93 = .ok (.iload_n 3, 1) := by decide +kernel
theorem dX12_trial_94 : decode cX12_trial 94 = .ok (.invokevirtual 653, 3) := by decide +kernel
theorem dX12_trial_97 : decode cX12_trial 97 = .ok (.istore 7, 2) := by decide +kernel
theorem dX12_trial_99 : decode cX12_trial 99 = .ok (.iload 7, 2) := by decide +kernel
theorem dX12_trial_101 : decode cX12_trial 101 = .ok (.ifCond .ne 14, 3) := by decide +kernel
theorem dX12_trial_104 : decode cX12_trial 104 = .ok (.aload_n 0, 1) := by decide +kernel
theorem dX12_trial_105 : decode cX12_trial 105 = .ok (.sipush 225, 3) := by decide +kernel
theorem dX12_trial_108 : decode cX12_trial 108 = .ok (.aload_n 0, 1) := by decide +kernel
theorem dX12_trial_109 : decode cX12_trial 109 = .ok (.getfield 650, 3) := by decide +kernel
theorem dX12_trial_112 : decode cX12_trial 112 = .ok (.invokevirtual 614, 3) := by decide +kernel
theorem dX12_trial_115 : decode cX12_trial 115 = .ok (.aload_n 0, 1) := by decide +kernel
theorem dX12_trial_116 : decode cX12_trial 116 = .ok (.iload 4, 2) := by decide +kernel
theorem dX12_trial_118 : decode cX12_trial 118 = .ok (.iload 6, 2) := by decide +kernel
theorem dX12_trial_120 : decode cX12_trial 120 = .ok (.iload_n 2, 1) := by decide +kernel
theorem dX12_trial_121 : decode cX12_trial 121 = .ok (.iload_n 3, 1) := by decide +kernel
theorem dX12_trial_122 : decode cX12_trial 122 = .ok (.invokevirtual 653, 3) := by decide +kernel
theorem dX12_trial_125 : decode cX12_trial 125 = .ok (.istore 8, 2) := by decide +kernel
theorem dX12_trial_127 : decode cX12_trial 127 = .ok (.iload 7, 2) := by decide +kernel
theorem dX12_trial_129 : decode cX12_trial 129 = .ok (.iload 8, 2) := by decide +kernel
theorem dX12_trial_131 : decode cX12_trial 131 = .ok (.if_icmp .ne 26, 3) := by decide +kernel
theorem dX12_trial_134 : decode cX12_trial 134 = .ok (.iload 7, 2) := by decide +kernel
theorem dX12_trial_136 : decode cX12_trial 136 = .ok (.ifCond .ne 17, 3) := by decide +kernel
theorem dX12_trial_139 : decode cX12_trial 139 = .ok (.aload_n 0, 1) := by decide +kernel
theorem dX12_trial_140 : decode cX12_trial 140 = .ok (.sipush 225, 3) := by decide +kernel
theorem dX12_trial_143 : decode cX12_trial 143 = .ok (.aload_n 0, 1) := by decide +kernel
theorem dX12_trial_144 : decode cX12_trial 144 = .ok (.getfield 650, 3) := by decide +kernel
theorem dX12_trial_147 : decode cX12_trial 147 = .ok (.invokevirtual 657, 3) := by decide +kernel
theorem dX12_trial_150 : decode cX12_trial 150 = .ok (.ifCond .eq 7, 3) := by decide +kernel
theorem dX12_trial_153 : decode cX12_trial 153 = .ok (.iconst 1, 1) := by decide +kernel
theorem dX12_trial_154 : decode cX12_trial 154 = .ok (.goto 4, 3) := by decide +kernel
theorem dX12_trial_157 : decode cX12_trial 157 = .ok (.iconst 0, 1) := by decide +kernel
theorem dX12_trial_158 : decode cX12_trial 158 = .ok (.istore 9, 2) := by decide +kernel
theorem dX12_trial_160 : decode cX12_trial 160 = .ok (.iload 5, 2) := by decide +kernel
theorem dX12_trial_162 : decode cX12_trial 162 = .ok (.iload 9, 2) := by decide +kernel
theorem dX12_trial_164 : decode cX12_trial 164 = .ok (.ifCond .eq 7, 3) := by decide +kernel
theorem dX12_trial_167 : decode cX12_trial 167 = .ok (.iconst 0, 1) := by decide +kernel
theorem dX12_trial_168 : decode cX12_trial 168 = .ok (.goto 7, 3) := by decide +kernel
theorem dX12_trial_171 : decode cX12_trial 171 = .ok (.iconst 1, 1) := by decide +kernel
theorem dX12_trial_172 : decode cX12_trial 172 = .ok (.iload 6, 2) := by decide +kernel
theorem dX12_trial_174 : decode cX12_trial 174 = .ok (.ishl, 1) := by decide +kernel
theorem dX12_trial_175 : decode cX12_trial 175 = .ok (.ior, 1) := by decide +kernel
theorem dX12_trial_176 : decode cX12_trial 176 = .ok (.istore 5, 2) := by decide +kernel
theorem dX12_trial_178 : decode cX12_trial 178 = .ok (.iinc 6 1, 3) := by decide +kernel
theorem dX12_trial_181 : decode cX12_trial 181 = .ok (.goto (-101), 3) := by decide +kernel
theorem dX12_trial_184 : decode cX12_trial 184 = .ok (.iload 5, 2) := by decide +kernel
theorem dX12_trial_186 : decode cX12_trial 186 = .ok (.ireturn, 1) := by decide +kernel
theorem dX12_dueOf_0 : decode cX12_dueOf 0 = .ok (.aload_n 0, 1) := by decide +kernel
theorem dX12_dueOf_1 : decode cX12_dueOf 1 = .ok (.aload_n 0, 1) := by decide +kernel
theorem dX12_dueOf_2 : decode cX12_dueOf 2 = .ok (.getfield 137, 3) := by decide +kernel
theorem dX12_dueOf_5 : decode cX12_dueOf 5 = .ok (.iload_n 1, 1) := by decide +kernel
theorem dX12_dueOf_6 : decode cX12_dueOf 6 = .ok (.iaload, 1) := by decide +kernel
theorem dX12_dueOf_7 : decode cX12_dueOf 7 = .ok (.bipush 30, 2) := by decide +kernel
theorem dX12_dueOf_9 : decode cX12_dueOf 9 = .ok (.iload_n 2, 1) := by decide +kernel
theorem dX12_dueOf_10 : decode cX12_dueOf 10 = .ok (.imul, 1) := by decide +kernel
theorem dX12_dueOf_11 : decode cX12_dueOf 11 = .ok (.invokevirtual 629, 3) := by decide +kernel
theorem dX12_dueOf_14 : decode cX12_dueOf 14 = .ok (.istore 4, 2) := by decide +kernel
theorem dX12_dueOf_16 : decode cX12_dueOf 16 = .ok (.aload_n 0, 1) := by decide +kernel
theorem dX12_dueOf_17 : decode cX12_dueOf 17 = .ok (.aload_n 0, 1) := by decide +kernel
theorem dX12_dueOf_18 : decode cX12_dueOf 18 = .ok (.iload 4, 2) := by decide +kernel
theorem dX12_dueOf_20 : decode cX12_dueOf 20 = .ok (.aload_n 0, 1) := by decide +kernel
theorem dX12_dueOf_21 : decode cX12_dueOf 21 = .ok (.getfield 134, 3) := by decide +kernel
theorem dX12_dueOf_24 : decode cX12_dueOf 24 = .ok (.iload_n 1, 1) := by decide +kernel
theorem dX12_dueOf_25 : decode cX12_dueOf 25 = .ok (.iaload, 1) := by decide +kernel
theorem dX12_dueOf_26 : decode cX12_dueOf 26 = .ok (.bipush 30, 2) := by decide +kernel
theorem dX12_dueOf_28 : decode cX12_dueOf 28 = .ok (.iload_n 2, 1) := by decide +kernel
theorem dX12_dueOf_29 : decode cX12_dueOf 29 = .ok (.imul, 1) := by decide +kernel
theorem dX12_dueOf_30 : decode cX12_dueOf 30 = .ok (.iload_n 3, 1) := by decide +kernel
theorem dX12_dueOf_31 : decode cX12_dueOf 31 = .ok (.invokevirtual 653, 3) := by decide +kernel
theorem dX12_dueOf_34 : decode cX12_dueOf 34 = .ok (.ifCond .ne 15, 3) := by decide +kernel
theorem dX12_dueOf_37 : decode cX12_dueOf 37 = .ok (.aload_n 0, 1) := by decide +kernel
theorem dX12_dueOf_38 : decode cX12_dueOf 38 = .ok (.getfield 7, 3) := by decide +kernel
theorem dX12_dueOf_41 : decode cX12_dueOf 41 = .ok (.aload_n 0, 1) := by decide +kernel
theorem dX12_dueOf_42 : decode cX12_dueOf 42 = .ok (.getfield 650, 3) := by decide +kernel
theorem dX12_dueOf_45 : decode cX12_dueOf 45 = .ok (.iaload, 1) := by decide +kernel
theorem dX12_dueOf_46 : decode cX12_dueOf 46 = .ok (.ifCond .eq 7, 3) := by decide +kernel
theorem dX12_dueOf_49 : decode cX12_dueOf 49 = .ok (.iconst 1, 1) := by decide +kernel
theorem dX12_dueOf_50 : decode cX12_dueOf 50 = .ok (.goto 4, 3) := by decide +kernel
theorem dX12_dueOf_53 : decode cX12_dueOf 53 = .ok (.iconst 0, 1) := by decide +kernel
theorem dX12_dueOf_54 : decode cX12_dueOf 54 = .ok (.putfield 661, 3) := by decide +kernel
theorem dX12_dueOf_57 : decode cX12_dueOf 57 = .ok (.aload_n 0, 1) := by decide +kernel
theorem dX12_dueOf_58 : decode cX12_dueOf 58 = .ok (.getfield 661, 3) := by decide +kernel
theorem dX12_dueOf_61 : decode cX12_dueOf 61 = .ok (.ifCond .eq 5, 3) := by decide +kernel
theorem dX12_dueOf_64 : decode cX12_dueOf 64 = .ok (.lconst 0, 1) := by decide +kernel
theorem dX12_dueOf_65 : decode cX12_dueOf 65 = .ok (.lreturn, 1) := by decide +kernel
theorem dX12_dueOf_66 : decode cX12_dueOf 66 = .ok (.aload_n 0, 1) := by decide +kernel
theorem dX12_dueOf_67 : decode cX12_dueOf 67 = .ok (.getfield 16, 3) := by decide +kernel
theorem dX12_dueOf_70 : decode cX12_dueOf 70 = .ok (.bipush 12, 2) := by decide +kernel
theorem dX12_dueOf_72 : decode cX12_dueOf 72 = .ok (.aload_n 0, 1) := by decide +kernel
theorem dX12_dueOf_73 : decode cX12_dueOf 73 = .ok (.getfield 650, 3) := by decide +kernel
theorem dX12_dueOf_76 : decode cX12_dueOf 76 = .ok (.imul, 1) := by decide +kernel
theorem dX12_dueOf_77 : decode cX12_dueOf 77 = .ok (.laload, 1) := by decide +kernel
theorem dX12_dueOf_78 : decode cX12_dueOf 78 = .ok (.lstore 5, 2) := by decide +kernel
theorem dX12_dueOf_80 : decode cX12_dueOf 80 = .ok (.lload 5, 2) := by decide +kernel
theorem dX12_dueOf_82 : decode cX12_dueOf 82 = .ok (.lconst 0, 1) := by decide +kernel
theorem dX12_dueOf_83 : decode cX12_dueOf 83 = .ok (.lcmp, 1) := by decide +kernel
theorem dX12_dueOf_84 : decode cX12_dueOf 84 = .ok (.ifCond .ge 7, 3) := by decide +kernel
theorem dX12_dueOf_87 : decode cX12_dueOf 87 = .ok (.lconst 0, 1) := by decide +kernel
theorem dX12_dueOf_88 : decode cX12_dueOf 88 = .ok (.goto 20, 3) := by decide +kernel
theorem dX12_dueOf_91 : decode cX12_dueOf 91 = .ok (.lload 5, 2) := by decide +kernel
theorem dX12_dueOf_93 : decode cX12_dueOf 93 = .ok (.ldc2_w 665, 3) := by decide +kernel
theorem dX12_dueOf_96 : decode cX12_dueOf 96 = .ok (.lcmp, 1) := by decide +kernel
theorem dX12_dueOf_97 : decode cX12_dueOf 97 = .ok (.ifCond .le 9, 3) := by decide +kernel
theorem dX12_dueOf_100 : decode cX12_dueOf 100 = .ok (.ldc2_w 665, 3) := by decide +kernel
theorem dX12_dueOf_103 : decode cX12_dueOf 103 = .ok (.goto 5, 3) := by decide +kernel
theorem dX12_dueOf_106 : decode cX12_dueOf 106 = .ok (.lload 5, 2) := by decide +kernel
theorem dX12_dueOf_108 : decode cX12_dueOf 108 = .ok (.lreturn, 1) := by decide +kernel
theorem dX12_award_0 : decode cX12_award 0 = .ok (.iload_n 1, 1) := by decide +kernel
theorem dX12_award_1 : decode cX12_award 1 = .ok (.i2l, 1) := by decide +kernel
theorem dX12_award_2 : decode cX12_award 2 = .ok (.lconst 0, 1) := by decide +kernel
theorem dX12_award_3 : decode cX12_award 3 = .ok (.ldc2_w 609, 3) := by decide +kernel
theorem dX12_award_6 : decode cX12_award 6 = .ok (.invokestatic 551, 3) := by decide +kernel
theorem dX12_award_9 : decode cX12_award 9 = .ok (.ifCond .eq 15, 3) := by decide +kernel
theorem dX12_award_12 : decode cX12_award 12 = .ok (.iload_n 2, 1) := by decide +kernel
theorem dX12_award_13 : decode cX12_award 13 = .ok (.i2l, 1) := by decide +kernel
theorem dX12_award_14 : decode cX12_award 14 = .ok (.lconst 0, 1) := by decide +kernel
theorem dX12_award_15 : decode cX12_award 15 = .ok (.ldc2_w 236, 3) := by decide +kernel
theorem dX12_award_18 : decode cX12_award 18 = .ok (.invokestatic 551, 3) := by decide +kernel
theorem dX12_award_21 : decode cX12_award 21 = .ok (.ifCond .ne 6, 3) := by decide +kernel
theorem dX12_award_24 : decode cX12_award 24 = .ok (.bipush (-2), 2) := by decide +kernel
theorem dX12_award_26 : decode cX12_award 26 = .ok (.ireturn, 1) := by decide +kernel
theorem dX12_award_27 : decode cX12_award 27 = .ok (.iload_n 3, 1) := by decide +kernel
theorem dX12_award_28 : decode cX12_award 28 = .ok (.i2l, 1) := by decide +kernel
theorem dX12_award_29 : decode cX12_award 29 = .ok (.lconst 0, 1) := by decide +kernel
theorem dX12_award_30 : decode cX12_award 30 = .ok (.ldc2_w 570, 3) := by decide +kernel
theorem dX12_award_33 : decode cX12_award 33 = .ok (.invokestatic 551, 3) := by decide +kernel
theorem dX12_award_36 : decode cX12_award 36 = .ok (.ifCond .ne 6, 3) := by decide +kernel
theorem dX12_award_39 : decode cX12_award 39 = .ok (.bipush (-3), 2) := by decide +kernel
theorem dX12_award_41 : decode cX12_award 41 = .ok (.ireturn, 1) := by decide +kernel
theorem dX12_award_42 : decode cX12_award 42 = .ok (.iconst 0, 1) := by decide +kernel
theorem dX12_award_43 : decode cX12_award 43 = .ok (.istore 4, 2) := by decide +kernel
theorem dX12_award_45 : decode cX12_award 45 = .ok (.iload 4, 2) := by decide +kernel
theorem dX12_award_47 : decode cX12_award 47 = .ok (.aload_n 0, 1) := by decide +kernel
theorem dX12_award_48 : decode cX12_award 48 = .ok (.getfield 667, 3) := by decide +kernel
theorem dX12_award_51 : decode cX12_award 51 = .ok (.if_icmp .ge 34, 3) := by decide +kernel
theorem dX12_award_54 : decode cX12_award 54 = .ok (.aload_n 0, 1) := by decide +kernel
theorem dX12_award_55 : decode cX12_award 55 = .ok (.getfield 134, 3) := by decide +kernel
theorem dX12_award_58 : decode cX12_award 58 = .ok (.iload 4, 2) := by decide +kernel
theorem dX12_award_60 : decode cX12_award 60 = .ok (.iaload, 1) := by decide +kernel
theorem dX12_award_61 : decode cX12_award 61 = .ok (.iload_n 1, 1) := by decide +kernel
theorem dX12_award_62 : decode cX12_award 62 = .ok (.if_icmp .ne 17, 3) := by decide +kernel
theorem dX12_award_65 : decode cX12_award 65 = .ok (.aload_n 0, 1) := by decide +kernel
theorem dX12_award_66 : decode cX12_award 66 = .ok (.getfield 137, 3) := by decide +kernel
theorem dX12_award_69 : decode cX12_award 69 = .ok (.iload 4, 2) := by decide +kernel
theorem dX12_award_71 : decode cX12_award 71 = .ok (.iaload, 1) := by decide +kernel
theorem dX12_award_72 : decode cX12_award 72 = .ok (.iload_n 2, 1) := by decide +kernel
theorem dX12_award_73 : decode cX12_award 73 = .ok (.if_icmp .ne 6, 3) := by decide +kernel
theorem dX12_award_76 : decode cX12_award 76 = .ok (.bipush (-4), 2) := by decide +kernel
theorem dX12_award_78 : decode cX12_award 78 = .ok (.ireturn, 1) := by decide +kernel
theorem dX12_award_79 : decode cX12_award 79 = .ok (.iinc 4 1, 3) := by decide +kernel
theorem dX12_award_82 : decode cX12_award 82 = .ok (.goto (-37), 3) := by decide +kernel
theorem dX12_award_85 : decode cX12_award 85 = .ok (.aload_n 0, 1) := by decide +kernel
theorem dX12_award_86 : decode cX12_award 86 = .ok (.getfield 667, 3) := by decide +kernel
theorem dX12_award_89 : decode cX12_award 89 = .ok (.bipush 6, 2) := by decide +kernel
theorem dX12_award_91 : decode cX12_award 91 = .ok (.if_icmp .ne 6, 3) := by decide +kernel
theorem dX12_award_94 : decode cX12_award 94 = .ok (.bipush (-5), 2) := by decide +kernel
theorem dX12_award_96 : decode cX12_award 96 = .ok (.ireturn, 1) := by decide +kernel
theorem dX12_award_97 : decode cX12_award 97 = .ok (.aload_n 0, 1) := by decide +kernel
theorem dX12_award_98 : decode cX12_award 98 = .ok (.getfield 134, 3) := by decide +kernel
theorem dX12_award_101 : decode cX12_award 101 = .ok (.aload_n 0, 1) := by decide +kernel
theorem dX12_award_102 : decode cX12_award 102 = .ok (.getfield 667, 3) := by decide +kernel
theorem dX12_award_105 : decode cX12_award 105 = .ok (.iload_n 1, 1) := by decide +kernel
theorem dX12_award_106 : decode cX12_award 106 = .ok (.iastore, 1) := by decide +kernel
theorem dX12_award_107 : decode cX12_award 107 = .ok (.aload_n 0, 1) := by decide +kernel
theorem dX12_award_108 : decode cX12_award 108 = .ok (.getfield 137, 3) := by decide +kernel
theorem dX12_award_111 : decode cX12_award 111 = .ok (.aload_n 0, 1) := by decide +kernel
theorem dX12_award_112 : decode cX12_award 112 = .ok (.getfield 667, 3) := by decide +kernel
theorem dX12_award_115 : decode cX12_award 115 = .ok (.iload_n 2, 1) := by decide +kernel
theorem dX12_award_116 : decode cX12_award 116 = .ok (.iastore, 1) := by decide +kernel
theorem dX12_award_117 : decode cX12_award 117 = .ok (.aload_n 0, 1) := by decide +kernel
theorem dX12_award_118 : decode cX12_award 118 = .ok (.getfield 140, 3) := by decide +kernel
theorem dX12_award_121 : decode cX12_award 121 = .ok (.aload_n 0, 1) := by decide +kernel
theorem dX12_award_122 : decode cX12_award 122 = .ok (.getfield 667, 3) := by decide +kernel
theorem dX12_award_125 : decode cX12_award 125 = .ok (.iload_n 3, 1) := by decide +kernel
theorem dX12_award_126 : decode cX12_award 126 = .ok (.iastore, 1) := by decide +kernel
theorem dX12_award_127 : decode cX12_award 127 = .ok (.aload_n 0, 1) := by decide +kernel
theorem dX12_award_128 : decode cX12_award 128 = .ok (.getfield 149, 3) := by decide +kernel
theorem dX12_award_131 : decode cX12_award 131 = .ok (.aload_n 0, 1) := by decide +kernel
theorem dX12_award_132 : decode cX12_award 132 = .ok (.getfield 667, 3) := by decide +kernel
theorem dX12_award_135 : decode cX12_award 135 = .ok (.iconst 0, 1) := by decide +kernel
theorem dX12_award_136 : decode cX12_award 136 = .ok (.iastore, 1) := by decide +kernel
theorem dX12_award_137 : decode cX12_award 137 = .ok (.aload_n 0, 1) := by decide +kernel
theorem dX12_award_138 : decode cX12_award 138 = .ok (.dup, 1) := by decide +kernel
theorem dX12_award_139 : decode cX12_award 139 = .ok (.getfield 667, 3) := by decide +kernel
theorem dX12_award_142 : decode cX12_award 142 = .ok (.iconst 1, 1) := by decide +kernel
theorem dX12_award_143 : decode cX12_award 143 = .ok (.iadd, 1) := by decide +kernel
theorem dX12_award_144 : decode cX12_award 144 = .ok (.putfield 667, 3) := by decide +kernel
theorem dX12_award_147 : decode cX12_award 147 = .ok (.aload_n 0, 1) := by decide +kernel
theorem dX12_award_148 : decode cX12_award 148 = .ok (.getfield 667, 3) := by decide +kernel
theorem dX12_award_151 : decode cX12_award 151 = .ok (.iconst 1, 1) := by decide +kernel
theorem dX12_award_152 : decode cX12_award 152 = .ok (.isub, 1) := by decide +kernel
theorem dX12_award_153 : decode cX12_award 153 = .ok (.ireturn, 1) := by decide +kernel
theorem dX12_due_0 : decode cX12_due 0 = .ok (.iload_n 1, 1) := by decide +kernel
theorem dX12_due_1 : decode cX12_due 1 = .ok (.i2l, 1) := by decide +kernel
theorem dX12_due_2 : decode cX12_due 2 = .ok (.lconst 0, 1) := by decide +kernel
theorem dX12_due_3 : decode cX12_due 3 = .ok (.aload_n 0, 1) := by decide +kernel
theorem dX12_due_4 : decode cX12_due 4 = .ok (.getfield 667, 3) := by decide +kernel
theorem dX12_due_7 : decode cX12_due 7 = .ok (.iconst 1, 1) := by decide +kernel
theorem dX12_due_8 : decode cX12_due 8 = .ok (.isub, 1) := by decide +kernel
theorem dX12_due_9 : decode cX12_due 9 = .ok (.i2l, 1) := by decide +kernel
theorem dX12_due_10 : decode cX12_due 10 = .ok (.invokestatic 551, 3) := by decide +kernel
theorem dX12_due_13 : decode cX12_due 13 = .ok (.ifCond .ne 6, 3) := by decide +kernel
theorem dX12_due_16 : decode cX12_due 16 = .ok (.bipush (-2), 2) := by decide +kernel
theorem dX12_due_18 : decode cX12_due 18 = .ok (.ireturn, 1) := by decide +kernel
theorem dX12_due_19 : decode cX12_due 19 = .ok (.iload_n 2, 1) := by decide +kernel
theorem dX12_due_20 : decode cX12_due 20 = .ok (.i2l, 1) := by decide +kernel
theorem dX12_due_21 : decode cX12_due 21 = .ok (.lconst 0, 1) := by decide +kernel
theorem dX12_due_22 : decode cX12_due 22 = .ok (.ldc2_w 570, 3) := by decide +kernel
theorem dX12_due_25 : decode cX12_due 25 = .ok (.invokestatic 551, 3) := by decide +kernel
theorem dX12_due_28 : decode cX12_due 28 = .ok (.ifCond .eq 17, 3) := by decide +kernel
theorem dX12_due_31 : decode cX12_due 31 = .ok (.iload_n 3, 1) := by decide +kernel
theorem dX12_due_32 : decode cX12_due 32 = .ok (.i2l, 1) := by decide +kernel
theorem dX12_due_33 : decode cX12_due 33 = .ok (.lconst 0, 1) := by decide +kernel
theorem dX12_due_34 : decode cX12_due 34 = .ok (.aload_n 0, 1) := by decide +kernel
theorem dX12_due_35 : decode cX12_due 35 = .ok (.getfield 587, 3) := by decide +kernel
theorem dX12_due_38 : decode cX12_due 38 = .ok (.i2l, 1) := by decide +kernel
theorem dX12_due_39 : decode cX12_due 39 = .ok (.invokestatic 551, 3) := by decide +kernel
theorem dX12_due_42 : decode cX12_due 42 = .ok (.ifCond .ne 6, 3) := by decide +kernel
theorem dX12_due_45 : decode cX12_due 45 = .ok (.bipush (-3), 2) := by decide +kernel
theorem dX12_due_47 : decode cX12_due 47 = .ok (.ireturn, 1) := by decide +kernel
theorem dX12_due_48 : decode cX12_due 48 = .ok (.aload_n 0, 1) := by decide +kernel
theorem dX12_due_49 : decode cX12_due 49 = .ok (.iload_n 1, 1) := by decide +kernel
theorem dX12_due_50 : decode cX12_due 50 = .ok (.iload_n 2, 1) := by decide +kernel
theorem dX12_due_51 : decode cX12_due 51 = .ok (.iload_n 3, 1) := by decide +kernel
theorem dX12_due_52 : decode cX12_due 52 = .ok (.invokevirtual 670, 3) := by decide +kernel
theorem dX12_due_55 : decode cX12_due 55 = .ok (.lstore 4, 2) := by decide +kernel
theorem dX12_due_57 : decode cX12_due 57 = .ok (.aload_n 0, 1) := by decide +kernel
theorem dX12_due_58 : decode cX12_due 58 = .ok (.getfield 661, 3) := by decide +kernel
theorem dX12_due_61 : decode cX12_due 61 = .ok (.ifCond .eq 7, 3) := by decide +kernel
theorem dX12_due_64 : decode cX12_due 64 = .ok (.iconst (-1), 1) := by decide +kernel
theorem dX12_due_65 : decode cX12_due 65 = .ok (.goto 6, 3) := by decide +kernel
theorem dX12_due_68 : decode cX12_due 68 = .ok (.lload 4, 2) := by decide +kernel
theorem dX12_due_70 : decode cX12_due 70 = .ok (.l2i, 1) := by decide +kernel
theorem dX12_due_71 : decode cX12_due 71 = .ok (.ireturn, 1) := by decide +kernel
theorem dX12_deduct_0 : decode cX12_deduct 0 = .ok (.iload_n 1, 1) := by decide +kernel
theorem dX12_deduct_1 : decode cX12_deduct 1 = .ok (.i2l, 1) := by decide +kernel
theorem dX12_deduct_2 : decode cX12_deduct 2 = .ok (.lconst 0, 1) := by decide +kernel
theorem dX12_deduct_3 : decode cX12_deduct 3 = .ok (.aload_n 0, 1) := by decide +kernel
theorem dX12_deduct_4 : decode cX12_deduct 4 = .ok (.getfield 667, 3) := by decide +kernel
theorem dX12_deduct_7 : decode cX12_deduct 7 = .ok (.iconst 1, 1) := by decide +kernel
theorem dX12_deduct_8 : decode cX12_deduct 8 = .ok (.isub, 1) := by decide +kernel
theorem dX12_deduct_9 : decode cX12_deduct 9 = .ok (.i2l, 1) := by decide +kernel
theorem dX12_deduct_10 : decode cX12_deduct 10 = .ok (.invokestatic 551, 3) := by decide +kernel
theorem dX12_deduct_13 : decode cX12_deduct 13 = .ok (.ifCond .ne 6, 3) := by decide +kernel
theorem dX12_deduct_16 : decode cX12_deduct 16 = .ok (.bipush (-2), 2) := by decide +kernel
theorem dX12_deduct_18 : decode cX12_deduct 18 = .ok (.ireturn, 1) := by decide +kernel
theorem dX12_deduct_19 : decode cX12_deduct 19 = .ok (.iload_n 2, 1) := by decide +kernel
theorem dX12_deduct_20 : decode cX12_deduct 20 = .ok (.i2l, 1) := by decide +kernel
theorem dX12_deduct_21 : decode cX12_deduct 21 = .ok (.lconst 1, 1) := by decide +kernel
theorem dX12_deduct_22 : decode cX12_deduct 22 = .ok (.ldc2_w 674, 3) := by decide +kernel
theorem dX12_deduct_25 : decode cX12_deduct 25 = .ok (.invokestatic 551, 3) := by decide +kernel
theorem dX12_deduct_28 : decode cX12_deduct 28 = .ok (.ifCond .eq 15, 3) := by decide +kernel
theorem dX12_deduct_31 : decode cX12_deduct 31 = .ok (.iload_n 3, 1) := by decide +kernel
theorem dX12_deduct_32 : decode cX12_deduct 32 = .ok (.i2l, 1) := by decide +kernel
theorem dX12_deduct_33 : decode cX12_deduct 33 = .ok (.lconst 0, 1) := by decide +kernel
theorem dX12_deduct_34 : decode cX12_deduct 34 = .ok (.ldc2_w 609, 3) := by decide +kernel
theorem dX12_deduct_37 : decode cX12_deduct 37 = .ok (.invokestatic 551, 3) := by decide +kernel
theorem dX12_deduct_40 : decode cX12_deduct 40 = .ok (.ifCond .ne 6, 3) := by decide +kernel
theorem dX12_deduct_43 : decode cX12_deduct 43 = .ok (.bipush (-3), 2) := by decide +kernel
theorem dX12_deduct_45 : decode cX12_deduct 45 = .ok (.ireturn, 1) := by decide +kernel
theorem dX12_deduct_46 : decode cX12_deduct 46 = .ok (.aload_n 0, 1) := by decide +kernel
theorem dX12_deduct_47 : decode cX12_deduct 47 = .ok (.getfield 149, 3) := by decide +kernel
theorem dX12_deduct_50 : decode cX12_deduct 50 = .ok (.iload_n 1, 1) := by decide +kernel
theorem dX12_deduct_51 : decode cX12_deduct 51 = .ok (.iaload, 1) := by decide +kernel
theorem dX12_deduct_52 : decode cX12_deduct 52 = .ok (.bipush 6, 2) := by decide +kernel
theorem dX12_deduct_54 : decode cX12_deduct 54 = .ok (.if_icmp .ne 6, 3) := by decide +kernel
theorem dX12_deduct_57 : decode cX12_deduct 57 = .ok (.bipush (-5), 2) := by decide +kernel
theorem dX12_deduct_59 : decode cX12_deduct 59 = .ok (.ireturn, 1) := by decide +kernel
theorem dX12_deduct_60 : decode cX12_deduct 60 = .ok (.aload_n 0, 1) := by decide +kernel
theorem dX12_deduct_61 : decode cX12_deduct 61 = .ok (.getfield 143, 3) := by decide +kernel
theorem dX12_deduct_64 : decode cX12_deduct 64 = .ok (.bipush 6, 2) := by decide +kernel
theorem dX12_deduct_66 : decode cX12_deduct 66 = .ok (.iload_n 1, 1) := by decide +kernel
theorem dX12_deduct_67 : decode cX12_deduct 67 = .ok (.imul, 1) := by decide +kernel
theorem dX12_deduct_68 : decode cX12_deduct 68 = .ok (.aload_n 0, 1) := by decide +kernel
theorem dX12_deduct_69 : decode cX12_deduct 69 = .ok (.getfield 149, 3) := by decide +kernel
theorem dX12_deduct_72 : decode cX12_deduct 72 = .ok (.iload_n 1, 1) := by decide +kernel
theorem dX12_deduct_73 : decode cX12_deduct 73 = .ok (.iaload, 1) := by decide +kernel
theorem dX12_deduct_74 : decode cX12_deduct 74 = .ok (.iadd, 1) := by decide +kernel
theorem dX12_deduct_75 : decode cX12_deduct 75 = .ok (.iload_n 2, 1) := by decide +kernel
theorem dX12_deduct_76 : decode cX12_deduct 76 = .ok (.iastore, 1) := by decide +kernel
theorem dX12_deduct_77 : decode cX12_deduct 77 = .ok (.aload_n 0, 1) := by decide +kernel
theorem dX12_deduct_78 : decode cX12_deduct 78 = .ok (.getfield 146, 3) := by decide +kernel
theorem dX12_deduct_81 : decode cX12_deduct 81 = .ok (.bipush 6, 2) := by decide +kernel
theorem dX12_deduct_83 : decode cX12_deduct 83 = .ok (.iload_n 1, 1) := by decide +kernel
theorem dX12_deduct_84 : decode cX12_deduct 84 = .ok (.imul, 1) := by decide +kernel
theorem dX12_deduct_85 : decode cX12_deduct 85 = .ok (.aload_n 0, 1) := by decide +kernel
theorem dX12_deduct_86 : decode cX12_deduct 86 = .ok (.getfield 149, 3) := by decide +kernel
theorem dX12_deduct_89 : decode cX12_deduct 89 = .ok (.iload_n 1, 1) := by decide +kernel
theorem dX12_deduct_90 : decode cX12_deduct 90 = .ok (.iaload, 1) := by decide +kernel
theorem dX12_deduct_91 : decode cX12_deduct 91 = .ok (.iadd, 1) := by decide +kernel
theorem dX12_deduct_92 : decode cX12_deduct 92 = .ok (.iload_n 3, 1) := by decide +kernel
theorem dX12_deduct_93 : decode cX12_deduct 93 = .ok (.iastore, 1) := by decide +kernel
theorem dX12_deduct_94 : decode cX12_deduct 94 = .ok (.aload_n 0, 1) := by decide +kernel
theorem dX12_deduct_95 : decode cX12_deduct 95 = .ok (.getfield 149, 3) := by decide +kernel
theorem dX12_deduct_98 : decode cX12_deduct 98 = .ok (.iload_n 1, 1) := by decide +kernel
theorem dX12_deduct_99 : decode cX12_deduct 99 = .ok (.dup2, 1) := by decide +kernel
theorem dX12_deduct_100 : decode cX12_deduct 100 = .ok (.iaload, 1) := by decide +kernel
theorem dX12_deduct_101 : decode cX12_deduct 101 = .ok (.iconst 1, 1) := by decide +kernel
theorem dX12_deduct_102 : decode cX12_deduct 102 = .ok (.iadd, 1) := by decide +kernel
theorem dX12_deduct_103 : decode cX12_deduct 103 = .ok (.iastore, 1) := by decide +kernel
theorem dX12_deduct_104 : decode cX12_deduct 104 = .ok (.aload_n 0, 1) := by decide +kernel
theorem dX12_deduct_105 : decode cX12_deduct 105 = .ok (.getfield 149, 3) := by decide +kernel
theorem dX12_deduct_108 : decode cX12_deduct 108 = .ok (.iload_n 1, 1) := by decide +kernel
theorem dX12_deduct_109 : decode cX12_deduct 109 = .ok (.iaload, 1) := by decide +kernel
theorem dX12_deduct_110 : decode cX12_deduct 110 = .ok (.ireturn, 1) := by decide +kernel
theorem dX12_share_0 : decode cX12_share 0 = .ok (.iload_n 1, 1) := by decide +kernel
theorem dX12_share_1 : decode cX12_share 1 = .ok (.i2l, 1) := by decide +kernel
theorem dX12_share_2 : decode cX12_share 2 = .ok (.lconst 0, 1) := by decide +kernel
theorem dX12_share_3 : decode cX12_share 3 = .ok (.ldc2_w 676, 3) := by decide +kernel
theorem dX12_share_6 : decode cX12_share 6 = .ok (.invokestatic 551, 3) := by decide +kernel
theorem dX12_share_9 : decode cX12_share 9 = .ok (.ifCond .ne 6, 3) := by decide +kernel
theorem dX12_share_12 : decode cX12_share 12 = .ok (.bipush (-3), 2) := by decide +kernel
theorem dX12_share_14 : decode cX12_share 14 = .ok (.ireturn, 1) := by decide +kernel
theorem dX12_share_15 : decode cX12_share 15 = .ok (.aload_n 0, 1) := by decide +kernel
theorem dX12_share_16 : decode cX12_share 16 = .ok (.getfield 152, 3) := by decide +kernel
theorem dX12_share_19 : decode cX12_share 19 = .ok (.istore_n 2, 1) := by decide +kernel
theorem dX12_share_20 : decode cX12_share 20 = .ok (.aload_n 0, 1) := by decide +kernel
theorem dX12_share_21 : decode cX12_share 21 = .ok (.iload_n 1, 1) := by decide +kernel
theorem dX12_share_22 : decode cX12_share 22 = .ok (.putfield 152, 3) := by decide +kernel
theorem dX12_share_25 : decode cX12_share 25 = .ok (.iload_n 2, 1) := by decide +kernel
theorem dX12_share_26 : decode cX12_share 26 = .ok (.ireturn, 1) := by decide +kernel
theorem dX12_run_0 : decode cX12_run 0 = .ok (.iload_n 1, 1) := by decide +kernel
theorem dX12_run_1 : decode cX12_run 1 = .ok (.i2l, 1) := by decide +kernel
theorem dX12_run_2 : decode cX12_run 2 = .ok (.lconst 0, 1) := by decide +kernel
theorem dX12_run_3 : decode cX12_run 3 = .ok (.ldc2_w 570, 3) := by decide +kernel
theorem dX12_run_6 : decode cX12_run 6 = .ok (.invokestatic 551, 3) := by decide +kernel
theorem dX12_run_9 : decode cX12_run 9 = .ok (.ifCond .ne 6, 3) := by decide +kernel
theorem dX12_run_12 : decode cX12_run 12 = .ok (.bipush (-3), 2) := by decide +kernel
theorem dX12_run_14 : decode cX12_run 14 = .ok (.ireturn, 1) := by decide +kernel
theorem dX12_run_15 : decode cX12_run 15 = .ok (.aload_n 0, 1) := by decide +kernel
theorem dX12_run_16 : decode cX12_run 16 = .ok (.getfield 678, 3) := by decide +kernel
theorem dX12_run_19 : decode cX12_run 19 = .ok (.aload_n 0, 1) := by decide +kernel
theorem dX12_run_20 : decode cX12_run 20 = .ok (.getfield 681, 3) := by decide +kernel
theorem dX12_run_23 : decode cX12_run 23 = .ok (.if_icmp .lt 22, 3) := by decide +kernel
theorem dX12_run_26 : decode cX12_run 26 = .ok (.iload_n 1, 1) := by decide +kernel
theorem dX12_run_27 : decode cX12_run 27 = .ok (.aload_n 0, 1) := by decide +kernel
theorem dX12_run_28 : decode cX12_run 28 = .ok (.getfield 155, 3) := by decide +kernel
theorem dX12_run_31 : decode cX12_run 31 = .ok (.if_icmp .le 14, 3) := by decide +kernel
theorem dX12_run_34 : decode cX12_run 34 = .ok (.bipush 30, 2) := by decide +kernel
theorem dX12_run_36 : decode cX12_run 36 = .ok (.iload_n 1, 1) := by decide +kernel
theorem dX12_run_37 : decode cX12_run 37 = .ok (.imul, 1) := by decide +kernel
theorem dX12_run_38 : decode cX12_run 38 = .ok (.aload_n 0, 1) := by decide +kernel
theorem dX12_run_39 : decode cX12_run 39 = .ok (.getfield 587, 3) := by decide +kernel
theorem dX12_run_42 : decode cX12_run 42 = .ok (.if_icmp .le 6, 3) := by decide +kernel
theorem dX12_run_45 : decode cX12_run 45 = .ok (.bipush (-4), 2) := by decide +kernel
theorem dX12_run_47 : decode cX12_run 47 = .ok (.ireturn, 1) := by decide +kernel
theorem dX12_run_48 : decode cX12_run 48 = .ok (.iconst 0, 1) := by decide +kernel
theorem dX12_run_49 : decode cX12_run 49 = .ok (.istore_n 2, 1) := by decide +kernel
theorem dX12_run_50 : decode cX12_run 50 = .ok (.iconst 0, 1) := by decide +kernel
theorem dX12_run_51 : decode cX12_run 51 = .ok (.istore_n 3, 1) := by decide +kernel
theorem dX12_run_52 : decode cX12_run 52 = .ok (.iload_n 3, 1) := by decide +kernel
theorem dX12_run_53 : decode cX12_run 53 = .ok (.aload_n 0, 1) := by decide +kernel
theorem dX12_run_54 : decode cX12_run 54 = .ok (.getfield 667, 3) := by decide +kernel
theorem dX12_run_57 : decode cX12_run 57 = .ok (.if_icmp .ge 27, 3) := by decide +kernel
theorem dX12_run_60 : decode cX12_run 60 = .ok (.iload_n 2, 1) := by decide +kernel
theorem dX12_run_61 : decode cX12_run 61 = .ok (.aload_n 0, 1) := by decide +kernel
theorem dX12_run_62 : decode cX12_run 62 = .ok (.getfield 140, 3) := by decide +kernel
theorem dX12_run_65 : decode cX12_run 65 = .ok (.iload_n 3, 1) := by decide +kernel
theorem dX12_run_66 : decode cX12_run 66 = .ok (.iaload, 1) := by decide +kernel
theorem dX12_run_67 : decode cX12_run 67 = .ok (.iload_n 1, 1) := by decide +kernel
theorem dX12_run_68 : decode cX12_run 68 = .ok (.if_icmp .gt 7, 3) := by decide +kernel
theorem dX12_run_71 : decode cX12_run 71 = .ok (.iconst 1, 1) := by decide +kernel
theorem dX12_run_72 : decode cX12_run 72 = .ok (.goto 4, 3) := by decide +kernel
theorem dX12_run_75 : decode cX12_run 75 = .ok (.iconst 0, 1) := by decide +kernel
theorem dX12_run_76 : decode cX12_run 76 = .ok (.iadd, 1) := by decide +kernel
theorem dX12_run_77 : decode cX12_run 77 = .ok (.istore_n 2, 1) := by decide +kernel
theorem dX12_run_78 : decode cX12_run 78 = .ok (.iinc 3 1, 3) := by decide +kernel
theorem dX12_run_81 : decode cX12_run 81 = .ok (.goto (-29), 3) := by decide +kernel
theorem dX12_run_84 : decode cX12_run 84 = .ok (.aload_n 0, 1) := by decide +kernel
theorem dX12_run_85 : decode cX12_run 85 = .ok (.getfield 684, 3) := by decide +kernel
theorem dX12_run_88 : decode cX12_run 88 = .ok (.iload_n 2, 1) := by decide +kernel
theorem dX12_run_89 : decode cX12_run 89 = .ok (.iadd, 1) := by decide +kernel
theorem dX12_run_90 : decode cX12_run 90 = .ok (.sipush 200, 3) := by decide +kernel
theorem dX12_run_93 : decode cX12_run 93 = .ok (.if_icmp .le 6, 3) := by decide +kernel
theorem dX12_run_96 : decode cX12_run 96 = .ok (.bipush (-5), 2) := by decide +kernel
theorem dX12_run_98 : decode cX12_run 98 = .ok (.ireturn, 1) := by decide +kernel
theorem dX12_run_99 : decode cX12_run 99 = .ok (.aload_n 0, 1) := by decide +kernel
theorem dX12_run_100 : decode cX12_run 100 = .ok (.iload_n 1, 1) := by decide +kernel
theorem dX12_run_101 : decode cX12_run 101 = .ok (.putfield 155, 3) := by decide +kernel
theorem dX12_run_104 : decode cX12_run 104 = .ok (.aload_n 0, 1) := by decide +kernel
theorem dX12_run_105 : decode cX12_run 105 = .ok (.iconst 0, 1) := by decide +kernel
theorem dX12_run_106 : decode cX12_run 106 = .ok (.putfield 681, 3) := by decide +kernel
theorem dX12_run_109 : decode cX12_run 109 = .ok (.aload_n 0, 1) := by decide +kernel
theorem dX12_run_110 : decode cX12_run 110 = .ok (.iconst 0, 1) := by decide +kernel
theorem dX12_run_111 : decode cX12_run 111 = .ok (.putfield 678, 3) := by decide +kernel
theorem dX12_run_114 : decode cX12_run 114 = .ok (.iconst 0, 1) := by decide +kernel
theorem dX12_run_115 : decode cX12_run 115 = .ok (.istore_n 3, 1) := by decide +kernel
theorem dX12_run_116 : decode cX12_run 116 = .ok (.iload_n 3, 1) := by decide +kernel
theorem dX12_run_117 : decode cX12_run 117 = .ok (.aload_n 0, 1) := by decide +kernel
theorem dX12_run_118 : decode cX12_run 118 = .ok (.getfield 667, 3) := by decide +kernel
theorem dX12_run_121 : decode cX12_run 121 = .ok (.if_icmp .ge 39, 3) := by decide +kernel
theorem dX12_run_124 : decode cX12_run 124 = .ok (.aload_n 0, 1) := by decide +kernel
theorem dX12_run_125 : decode cX12_run 125 = .ok (.getfield 140, 3) := by decide +kernel
theorem dX12_run_128 : decode cX12_run 128 = .ok (.iload_n 3, 1) := by decide +kernel
theorem dX12_run_129 : decode cX12_run 129 = .ok (.iaload, 1) := by decide +kernel
theorem dX12_run_130 : decode cX12_run 130 = .ok (.iload_n 1, 1) := by decide +kernel
theorem dX12_run_131 : decode cX12_run 131 = .ok (.if_icmp .gt 23, 3) := by decide +kernel
theorem dX12_run_134 : decode cX12_run 134 = .ok (.aload_n 0, 1) := by decide +kernel
theorem dX12_run_135 : decode cX12_run 135 = .ok (.getfield 158, 3) := by decide +kernel
theorem dX12_run_138 : decode cX12_run 138 = .ok (.aload_n 0, 1) := by decide +kernel
theorem dX12_run_139 : decode cX12_run 139 = .ok (.getfield 681, 3) := by decide +kernel
theorem dX12_run_142 : decode cX12_run 142 = .ok (.iload_n 3, 1) := by decide +kernel
theorem dX12_run_143 : decode cX12_run 143 = .ok (.iastore, 1) := by decide +kernel
theorem dX12_run_144 : decode cX12_run 144 = .ok (.aload_n 0, 1) := by decide +kernel
theorem dX12_run_145 : decode cX12_run 145 = .ok (.dup, 1) := by decide +kernel
theorem dX12_run_146 : decode cX12_run 146 = .ok (.getfield 681, 3) := by decide +kernel
theorem dX12_run_149 : decode cX12_run 149 = .ok (.iconst 1, 1) := by decide +kernel
theorem dX12_run_150 : decode cX12_run 150 = .ok (.iadd, 1) := by decide +kernel
theorem dX12_run_151 : decode cX12_run 151 = .ok (.putfield 681, 3) := by decide +kernel
theorem dX12_run_154 : decode cX12_run 154 = .ok (.iinc 3 1, 3) := by decide +kernel
theorem dX12_run_157 : decode cX12_run 157 = .ok (.goto (-41), 3) := by decide +kernel
theorem dX12_run_160 : decode cX12_run 160 = .ok (.aload_n 0, 1) := by decide +kernel
theorem dX12_run_161 : decode cX12_run 161 = .ok (.getfield 681, 3) := by decide +kernel
theorem dX12_run_164 : decode cX12_run 164 = .ok (.ireturn, 1) := by decide +kernel
theorem dX12_paid_0 : decode cX12_paid 0 = .ok (.lconst 0, 1) := by decide +kernel
theorem dX12_paid_1 : decode cX12_paid 1 = .ok (.lstore_n 2, 1) := by decide +kernel
theorem dX12_paid_2 : decode cX12_paid 2 = .ok (.iconst 0, 1) := by decide +kernel
theorem dX12_paid_3 : decode cX12_paid 3 = .ok (.istore 4, 2) := by decide +kernel
theorem dX12_paid_5 : decode cX12_paid 5 = .ok (.iload 4, 2) := by decide +kernel
theorem dX12_paid_7 : decode cX12_paid 7 = .ok (.aload_n 0, 1) := by decide +kernel
theorem dX12_paid_8 : decode cX12_paid 8 = .ok (.getfield 684, 3) := by decide +kernel
theorem dX12_paid_11 : decode cX12_paid 11 = .ok (.if_icmp .ge 48, 3) := by decide +kernel
theorem dX12_paid_14 : decode cX12_paid 14 = .ok (.lload_n 2, 1) := by decide +kernel
theorem dX12_paid_15 : decode cX12_paid 15 = .ok (.aload_n 0, 1) := by decide +kernel
theorem dX12_paid_16 : decode cX12_paid 16 = .ok (.getfield 161, 3) := by decide +kernel
theorem dX12_paid_19 : decode cX12_paid 19 = .ok (.iload 4, 2) := by decide +kernel
theorem dX12_paid_21 : decode cX12_paid 21 = .ok (.iaload, 1) := by decide +kernel
theorem dX12_paid_22 : decode cX12_paid 22 = .ok (.iload_n 1, 1) := by decide +kernel
theorem dX12_paid_23 : decode cX12_paid 23 = .ok (.if_icmp .ne 27, 3) := by decide +kernel
theorem dX12_paid_26 : decode cX12_paid 26 = .ok (.aload_n 0, 1) := by decide +kernel
theorem dX12_paid_27 : decode cX12_paid 27 = .ok (.getfield 170, 3) := by decide +kernel
theorem dX12_paid_30 : decode cX12_paid 30 = .ok (.iload 4, 2) := by decide +kernel
theorem dX12_paid_32 : decode cX12_paid 32 = .ok (.baload, 1) := by decide +kernel
theorem dX12_paid_33 : decode cX12_paid 33 = .ok (.ifCond .ne 17, 3) := by decide +kernel
theorem dX12_paid_36 : decode cX12_paid 36 = .ok (.aload_n 0, 1) := by decide +kernel
theorem dX12_paid_37 : decode cX12_paid 37 = .ok (.getfield 167, 3) := by decide +kernel
theorem dX12_paid_40 : decode cX12_paid 40 = .ok (.iconst 4, 1) := by decide +kernel
theorem dX12_paid_41 : decode cX12_paid 41 = .ok (.iload 4, 2) := by decide +kernel
theorem dX12_paid_43 : decode cX12_paid 43 = .ok (.imul, 1) := by decide +kernel
theorem dX12_paid_44 : decode cX12_paid 44 = .ok (.iconst 2, 1) := by decide +kernel
theorem dX12_paid_45 : decode cX12_paid 45 = .ok (.iadd, 1) := by decide +kernel
theorem dX12_paid_46 : decode cX12_paid 46 = .ok (.laload, 1) := by decide +kernel
theorem dX12_paid_47 : decode cX12_paid 47 = .ok (.goto 4, 3) := by decide +kernel
theorem dX12_paid_50 : decode cX12_paid 50 = .ok (.lconst 0, 1) := by decide +kernel
theorem dX12_paid_51 : decode cX12_paid 51 = .ok (.ladd, 1) := by decide +kernel
theorem dX12_paid_52 : decode cX12_paid 52 = .ok (.lstore_n 2, 1) := by decide +kernel
theorem dX12_paid_53 : decode cX12_paid 53 = .ok (.iinc 4 1, 3) := by decide +kernel
theorem dX12_paid_56 : decode cX12_paid 56 = .ok (.goto (-51), 3) := by decide +kernel
theorem dX12_paid_59 : decode cX12_paid 59 = .ok (.lload_n 2, 1) := by decide +kernel
theorem dX12_paid_60 : decode cX12_paid 60 = .ok (.lreturn, 1) := by decide +kernel
theorem dX12_pay_0 : decode cX12_pay 0 = .ok (.aload_n 0, 1) := by decide +kernel
theorem dX12_pay_1 : decode cX12_pay 1 = .ok (.iload_n 1, 1) := by decide +kernel
theorem dX12_pay_2 : decode cX12_pay 2 = .ok (.invokevirtual 687, 3) := by decide +kernel
theorem dX12_pay_5 : decode cX12_pay 5 = .ok (.lneg, 1) := by decide +kernel
theorem dX12_pay_6 : decode cX12_pay 6 = .ok (.lstore_n 2, 1) := by decide +kernel
theorem dX12_pay_7 : decode cX12_pay 7 = .ok (.aload_n 0, 1) := by decide +kernel
theorem dX12_pay_8 : decode cX12_pay 8 = .ok (.getfield 140, 3) := by decide +kernel
theorem dX12_pay_11 : decode cX12_pay 11 = .ok (.iload_n 1, 1) := by decide +kernel
theorem dX12_pay_12 : decode cX12_pay 12 = .ok (.iaload, 1) := by decide +kernel
theorem dX12_pay_13 : decode cX12_pay 13 = .ok (.istore 4, 2) := by decide +kernel
theorem dX12_pay_15 : decode cX12_pay 15 = .ok (.iload 4, 2) := by decide +kernel
theorem dX12_pay_17 : decode cX12_pay 17 = .ok (.aload_n 0, 1) := by decide +kernel
theorem dX12_pay_18 : decode cX12_pay 18 = .ok (.getfield 155, 3) := by decide +kernel
theorem dX12_pay_21 : decode cX12_pay 21 = .ok (.if_icmp .ge 23, 3) := by decide +kernel
theorem dX12_pay_24 : decode cX12_pay 24 = .ok (.lload_n 2, 1) := by decide +kernel
theorem dX12_pay_25 : decode cX12_pay 25 = .ok (.aload_n 0, 1) := by decide +kernel
theorem dX12_pay_26 : decode cX12_pay 26 = .ok (.iload_n 1, 1) := by decide +kernel
theorem dX12_pay_27 : decode cX12_pay 27 = .ok (.iload 4, 2) := by decide +kernel
theorem dX12_pay_29 : decode cX12_pay 29 = .ok (.aload_n 0, 1) := by decide +kernel
theorem dX12_pay_30 : decode cX12_pay 30 = .ok (.getfield 587, 3) := by decide +kernel
theorem dX12_pay_33 : decode cX12_pay 33 = .ok (.invokevirtual 670, 3) := by decide +kernel
theorem dX12_pay_36 : decode cX12_pay 36 = .ok (.ladd, 1) := by decide +kernel
theorem dX12_pay_37 : decode cX12_pay 37 = .ok (.lstore_n 2, 1) := by decide +kernel
theorem dX12_pay_38 : decode cX12_pay 38 = .ok (.iinc 4 1, 3) := by decide +kernel
theorem dX12_pay_41 : decode cX12_pay 41 = .ok (.goto (-26), 3) := by decide +kernel
theorem dX12_pay_44 : decode cX12_pay 44 = .ok (.aload_n 0, 1) := by decide +kernel
theorem dX12_pay_45 : decode cX12_pay 45 = .ok (.iload_n 1, 1) := by decide +kernel
theorem dX12_pay_46 : decode cX12_pay 46 = .ok (.aload_n 0, 1) := by decide +kernel
theorem dX12_pay_47 : decode cX12_pay 47 = .ok (.getfield 155, 3) := by decide +kernel
theorem dX12_pay_50 : decode cX12_pay 50 = .ok (.aload_n 0, 1) := by decide +kernel
theorem dX12_pay_51 : decode cX12_pay 51 = .ok (.getfield 587, 3) := by decide +kernel
theorem dX12_pay_54 : decode cX12_pay 54 = .ok (.invokevirtual 670, 3) := by decide +kernel
theorem dX12_pay_57 : decode cX12_pay 57 = .ok (.lstore 4, 2) := by decide +kernel
theorem dX12_pay_59 : decode cX12_pay 59 = .ok (.lload 4, 2) := by decide +kernel
theorem dX12_pay_61 : decode cX12_pay 61 = .ok (.aload_n 0, 1) := by decide +kernel
theorem dX12_pay_62 : decode cX12_pay 62 = .ok (.getfield 152, 3) := by decide +kernel
theorem dX12_pay_65 : decode cX12_pay 65 = .ok (.i2l, 1) := by decide +kernel
theorem dX12_pay_66 : decode cX12_pay 66 = .ok (.lmul, 1) := by decide +kernel
theorem dX12_pay_67 : decode cX12_pay 67 = .ok (.ldc2_w 676, 3) := by decide +kernel
theorem dX12_pay_70 : decode cX12_pay 70 = .ok (.ldiv, 1) := by decide +kernel
theorem dX12_pay_71 : decode cX12_pay 71 = .ok (.lstore 6, 2) := by decide +kernel
theorem dX12_pay_73 : decode cX12_pay 73 = .ok (.lload 4, 2) := by decide +kernel
theorem dX12_pay_75 : decode cX12_pay 75 = .ok (.lload_n 2, 1) := by decide +kernel
theorem dX12_pay_76 : decode cX12_pay 76 = .ok (.ladd, 1) := by decide +kernel
theorem dX12_pay_77 : decode cX12_pay 77 = .ok (.lstore 8, 2) := by decide +kernel
theorem dX12_pay_79 : decode cX12_pay 79 = .ok (.lload_n 2, 1) := by decide +kernel
theorem dX12_pay_80 : decode cX12_pay 80 = .ok (.lconst 0, 1) := by decide +kernel
theorem dX12_pay_81 : decode cX12_pay 81 = .ok (.lcmp, 1) := by decide +kernel
theorem dX12_pay_82 : decode cX12_pay 82 = .ok (.ifCond .ge 23, 3) := by decide +kernel
theorem dX12_pay_85 : decode cX12_pay 85 = .ok (.lload 4, 2) := by decide +kernel
theorem dX12_pay_87 : decode cX12_pay 87 = .ok (.lload_n 2, 1) := by decide +kernel
theorem dX12_pay_88 : decode cX12_pay 88 = .ok (.lneg, 1) := by decide +kernel
theorem dX12_pay_89 : decode cX12_pay 89 = .ok (.lload 6, 2) := by decide +kernel
theorem dX12_pay_91 : decode cX12_pay 91 = .ok (.lcmp, 1) := by decide +kernel
theorem dX12_pay_92 : decode cX12_pay 92 = .ok (.ifCond .ge 8, 3) := by decide +kernel
theorem dX12_pay_95 : decode cX12_pay 95 = .ok (.lload_n 2, 1) := by decide +kernel
theorem dX12_pay_96 : decode cX12_pay 96 = .ok (.lneg, 1) := by decide +kernel
theorem dX12_pay_97 : decode cX12_pay 97 = .ok (.goto 5, 3) := by decide +kernel
theorem dX12_pay_100 : decode cX12_pay 100 = .ok (.lload 6, 2) := by decide +kernel
theorem dX12_pay_102 : decode cX12_pay 102 = .ok (.lsub, 1) := by decide +kernel
theorem dX12_pay_103 : decode cX12_pay 103 = .ok (.lstore 8, 2) := by decide +kernel
theorem dX12_pay_105 : decode cX12_pay 105 = .ok (.aload_n 0, 1) := by decide +kernel
theorem dX12_pay_106 : decode cX12_pay 106 = .ok (.getfield 684, 3) := by decide +kernel
theorem dX12_pay_109 : decode cX12_pay 109 = .ok (.istore 10, 2) := by decide +kernel
theorem dX12_pay_111 : decode cX12_pay 111 = .ok (.aload_n 0, 1) := by decide +kernel
theorem dX12_pay_112 : decode cX12_pay 112 = .ok (.dup, 1) := by decide +kernel
theorem dX12_pay_113 : decode cX12_pay 113 = .ok (.getfield 684, 3) := by decide +kernel
theorem dX12_pay_116 : decode cX12_pay 116 = .ok (.iconst 1, 1) := by decide +kernel
theorem dX12_pay_117 : decode cX12_pay 117 = .ok (.iadd, 1) := by decide +kernel
theorem dX12_pay_118 : decode cX12_pay 118 = .ok (.putfield 684, 3) := by decide +kernel
theorem dX12_pay_121 : decode cX12_pay 121 = .ok (.aload_n 0, 1) := by decide +kernel
theorem dX12_pay_122 : decode cX12_pay 122 = .ok (.getfield 161, 3) := by decide +kernel
theorem dX12_pay_125 : decode cX12_pay 125 = .ok (.iload 10, 2) := by decide +kernel
theorem dX12_pay_127 : decode cX12_pay 127 = .ok (.iload_n 1, 1) := by decide +kernel
theorem dX12_pay_128 : decode cX12_pay 128 = .ok (.iastore, 1) := by decide +kernel
theorem dX12_pay_129 : decode cX12_pay 129 = .ok (.aload_n 0, 1) := by decide +kernel
theorem dX12_pay_130 : decode cX12_pay 130 = .ok (.getfield 164, 3) := by decide +kernel
theorem dX12_pay_133 : decode cX12_pay 133 = .ok (.iload 10, 2) := by decide +kernel
theorem dX12_pay_135 : decode cX12_pay 135 = .ok (.aload_n 0, 1) := by decide +kernel
theorem dX12_pay_136 : decode cX12_pay 136 = .ok (.getfield 155, 3) := by decide +kernel
theorem dX12_pay_139 : decode cX12_pay 139 = .ok (.iastore, 1) := by decide +kernel
theorem dX12_pay_140 : decode cX12_pay 140 = .ok (.aload_n 0, 1) := by decide +kernel
theorem dX12_pay_141 : decode cX12_pay 141 = .ok (.getfield 170, 3) := by decide +kernel
theorem dX12_pay_144 : decode cX12_pay 144 = .ok (.iload 10, 2) := by decide +kernel
theorem dX12_pay_146 : decode cX12_pay 146 = .ok (.iconst 0, 1) := by decide +kernel
theorem dX12_pay_147 : decode cX12_pay 147 = .ok (.bastore, 1) := by decide +kernel
theorem dX12_pay_148 : decode cX12_pay 148 = .ok (.aload_n 0, 1) := by decide +kernel
theorem dX12_pay_149 : decode cX12_pay 149 = .ok (.getfield 173, 3) := by decide +kernel
theorem dX12_pay_152 : decode cX12_pay 152 = .ok (.iload 10, 2) := by decide +kernel
theorem dX12_pay_154 : decode cX12_pay 154 = .ok (.aload_n 0, 1) := by decide +kernel
theorem dX12_pay_155 : decode cX12_pay 155 = .ok (.getfield 661, 3) := by decide +kernel
theorem dX12_pay_158 : decode cX12_pay 158 = .ok (.bastore, 1) := by decide +kernel
theorem dX12_pay_159 : decode cX12_pay 159 = .ok (.aload_n 0, 1) := by decide +kernel
theorem dX12_pay_160 : decode cX12_pay 160 = .ok (.getfield 167, 3) := by decide +kernel
theorem dX12_pay_163 : decode cX12_pay 163 = .ok (.iconst 4, 1) := by decide +kernel
theorem dX12_pay_164 : decode cX12_pay 164 = .ok (.iload 10, 2) := by decide +kernel
theorem dX12_pay_166 : decode cX12_pay 166 = .ok (.imul, 1) := by decide +kernel
theorem dX12_pay_167 : decode cX12_pay 167 = .ok (.lload 4, 2) := by decide +kernel
theorem dX12_pay_169 : decode cX12_pay 169 = .ok (.lastore, 1) := by decide +kernel
theorem dX12_pay_170 : decode cX12_pay 170 = .ok (.aload_n 0, 1) := by decide +kernel
theorem dX12_pay_171 : decode cX12_pay 171 = .ok (.getfield 167, 3) := by decide +kernel
theorem dX12_pay_174 : decode cX12_pay 174 = .ok (.iconst 4, 1) := by decide +kernel
theorem dX12_pay_175 : decode cX12_pay 175 = .ok (.iload 10, 2) := by decide +kernel
theorem dX12_pay_177 : decode cX12_pay 177 = .ok (.imul, 1) := by decide +kernel
theorem dX12_pay_178 : decode cX12_pay 178 = .ok (.iconst 1, 1) := by decide +kernel
theorem dX12_pay_179 : decode cX12_pay 179 = .ok (.iadd, 1) := by decide +kernel
theorem dX12_pay_180 : decode cX12_pay 180 = .ok (.lload_n 2, 1) := by decide +kernel
theorem dX12_pay_181 : decode cX12_pay 181 = .ok (.lastore, 1) := by decide +kernel
theorem dX12_pay_182 : decode cX12_pay 182 = .ok (.aload_n 0, 1) := by decide +kernel
theorem dX12_pay_183 : decode cX12_pay 183 = .ok (.getfield 167, 3) := by decide +kernel
theorem dX12_pay_186 : decode cX12_pay 186 = .ok (.iconst 4, 1) := by decide +kernel
theorem dX12_pay_187 : decode cX12_pay 187 = .ok (.iload 10, 2) := by decide +kernel
theorem dX12_pay_189 : decode cX12_pay 189 = .ok (.imul, 1) := by decide +kernel
theorem dX12_pay_190 : decode cX12_pay 190 = .ok (.iconst 2, 1) := by decide +kernel
theorem dX12_pay_191 : decode cX12_pay 191 = .ok (.iadd, 1) := by decide +kernel
theorem dX12_pay_192 : decode cX12_pay 192 = .ok (.lload 8, 2) := by decide +kernel
theorem dX12_pay_194 : decode cX12_pay 194 = .ok (.lastore, 1) := by decide +kernel
theorem dX12_pay_195 : decode cX12_pay 195 = .ok (.lload 8, 2) := by decide +kernel
theorem dX12_pay_197 : decode cX12_pay 197 = .ok (.lstore 11, 2) := by decide +kernel
theorem dX12_pay_199 : decode cX12_pay 199 = .ok (.iconst 0, 1) := by decide +kernel
theorem dX12_pay_200 : decode cX12_pay 200 = .ok (.istore 13, 2) := by decide +kernel
theorem dX12_pay_202 : decode cX12_pay 202 = .ok (.iload 13, 2) := by decide +kernel
theorem dX12_pay_204 : decode cX12_pay 204 = .ok (.bipush 10, 2) := by decide +kernel
theorem dX12_pay_206 : decode cX12_pay 206 = .ok (.if_icmp .ge 108, 3) := by decide +kernel
theorem dX12_pay_209 : decode cX12_pay 209 = .ok (.iconst 0, 1) := by decide +kernel
theorem dX12_pay_210 : decode cX12_pay 210 = .ok (.istore 14, 2) := by decide +kernel
theorem dX12_pay_212 : decode cX12_pay 212 = .ok (.iload 14, 2) := by decide +kernel
theorem dX12_pay_214 : decode cX12_pay 214 = .ok (.aload_n 0, 1) := by decide +kernel
theorem dX12_pay_215 : decode cX12_pay 215 = .ok (.getfield 149, 3) := by decide +kernel
theorem dX12_pay_218 : decode cX12_pay 218 = .ok (.iload_n 1, 1) := by decide +kernel
theorem dX12_pay_219 : decode cX12_pay 219 = .ok (.iaload, 1) := by decide +kernel
theorem dX12_pay_220 : decode cX12_pay 220 = .ok (.if_icmp .ge 88, 3) := by decide +kernel
theorem dX12_pay_223 : decode cX12_pay 223 = .ok (.aload_n 0, 1) := by decide +kernel
theorem dX12_pay_224 : decode cX12_pay 224 = .ok (.getfield 146, 3) := by decide +kernel
theorem dX12_pay_227 : decode cX12_pay 227 = .ok (.bipush 6, 2) := by decide +kernel
theorem dX12_pay_229 : decode cX12_pay 229 = .ok (.iload_n 1, 1) := by decide +kernel
theorem dX12_pay_230 : decode cX12_pay 230 = .ok (.imul, 1) := by decide +kernel
theorem dX12_pay_231 : decode cX12_pay 231 = .ok (.iload 14, 2) := by decide +kernel
theorem dX12_pay_233 : decode cX12_pay 233 = .ok (.iadd, 1) := by decide +kernel
theorem dX12_pay_234 : decode cX12_pay 234 = .ok (.iaload, 1) := by decide +kernel
theorem dX12_pay_235 : decode cX12_pay 235 = .ok (.iload 13, 2) := by decide +kernel
theorem dX12_pay_237 : decode cX12_pay 237 = .ok (.if_icmp .ne 65, 3) := by decide +kernel
theorem dX12_pay_240 : decode cX12_pay 240 = .ok (.lload 11, 2) := by decide +kernel
theorem dX12_pay_242 : decode cX12_pay 242 = .ok (.aload_n 0, 1) := by decide +kernel
theorem dX12_pay_243 : decode cX12_pay 243 = .ok (.getfield 143, 3) := by decide +kernel
theorem dX12_pay_246 : decode cX12_pay 246 = .ok (.bipush 6, 2) := by decide +kernel
theorem dX12_pay_248 : decode cX12_pay 248 = .ok (.iload_n 1, 1) := by decide +kernel
theorem dX12_pay_249 : decode cX12_pay 249 = .ok (.imul, 1) := by decide +kernel
theorem dX12_pay_250 : decode cX12_pay 250 = .ok (.iload 14, 2) := by decide +kernel
theorem dX12_pay_252 : decode cX12_pay 252 = .ok (.iadd, 1) := by decide +kernel
theorem dX12_pay_253 : decode cX12_pay 253 = .ok (.iaload, 1) := by decide +kernel
theorem dX12_pay_254 : decode cX12_pay 254 = .ok (.i2l, 1) := by decide +kernel
theorem dX12_pay_255 : decode cX12_pay 255 = .ok (.lcmp, 1) := by decide +kernel
theorem dX12_pay_256 : decode cX12_pay 256 = .ok (.ifCond .ge 8, 3) := by decide +kernel
theorem dX12_pay_259 : decode cX12_pay 259 = .ok (.lload 11, 2) := by decide +kernel
theorem dX12_pay_261 : decode cX12_pay 261 = .ok (.goto 16, 3) := by decide +kernel
theorem dX12_pay_264 : decode cX12_pay 264 = .ok (.aload_n 0, 1) := by decide +kernel
theorem dX12_pay_265 : decode cX12_pay 265 = .ok (.getfield 143, 3) := by decide +kernel
theorem dX12_pay_268 : decode cX12_pay 268 = .ok (.bipush 6, 2) := by decide +kernel
theorem dX12_pay_270 : decode cX12_pay 270 = .ok (.iload_n 1, 1) := by decide +kernel
theorem dX12_pay_271 : decode cX12_pay 271 = .ok (.imul, 1) := by decide +kernel
theorem dX12_pay_272 : decode cX12_pay 272 = .ok (.iload 14, 2) := by decide +kernel
theorem dX12_pay_274 : decode cX12_pay 274 = .ok (.iadd, 1) := by decide +kernel
theorem dX12_pay_275 : decode cX12_pay 275 = .ok (.iaload, 1) := by decide +kernel
theorem dX12_pay_276 : decode cX12_pay 276 = .ok (.i2l, 1) := by decide +kernel
theorem dX12_pay_277 : decode cX12_pay 277 = .ok (.lstore 15, 2) := by decide +kernel
theorem dX12_pay_279 : decode cX12_pay 279 = .ok (.aload_n 0, 1) := by decide +kernel
theorem dX12_pay_280 : decode cX12_pay 280 = .ok (.getfield 176, 3) := by decide +kernel
theorem dX12_pay_283 : decode cX12_pay 283 = .ok (.bipush 6, 2) := by decide +kernel
theorem dX12_pay_285 : decode cX12_pay 285 = .ok (.iload 10, 2) := by decide +kernel
theorem dX12_pay_287 : decode cX12_pay 287 = .ok (.imul, 1) := by decide +kernel
theorem dX12_pay_288 : decode cX12_pay 288 = .ok (.iload 14, 2) := by decide +kernel
theorem dX12_pay_290 : decode cX12_pay 290 = .ok (.iadd, 1) := by decide +kernel
theorem dX12_pay_291 : decode cX12_pay 291 = .ok (.lload 15, 2) := by decide +kernel
theorem dX12_pay_293 : decode cX12_pay 293 = .ok (.l2i, 1) := by decide +kernel
theorem dX12_pay_294 : decode cX12_pay 294 = .ok (.iastore, 1) := by decide +kernel
theorem dX12_pay_295 : decode cX12_pay 295 = .ok (.lload 11, 2) := by decide +kernel
theorem dX12_pay_297 : decode cX12_pay 297 = .ok (.lload 15, 2) := by decide +kernel
theorem dX12_pay_299 : decode cX12_pay 299 = .ok (.lsub, 1) := by decide +kernel
theorem dX12_pay_300 : decode cX12_pay 300 = .ok (.lstore 11, 2) := by decide +kernel
theorem dX12_pay_302 : decode cX12_pay 302 = .ok (.iinc 14 1, 3) := by decide +kernel
theorem dX12_pay_305 : decode cX12_pay 305 = .ok (.goto (-93), 3) := by decide +kernel
theorem dX12_pay_308 : decode cX12_pay 308 = .ok (.iinc 13 1, 3) := by decide +kernel
theorem dX12_pay_311 : decode cX12_pay 311 = .ok (.goto (-109), 3) := by decide +kernel
theorem dX12_pay_314 : decode cX12_pay 314 = .ok (.aload_n 0, 1) := by decide +kernel
theorem dX12_pay_315 : decode cX12_pay 315 = .ok (.getfield 167, 3) := by decide +kernel
theorem dX12_pay_318 : decode cX12_pay 318 = .ok (.iconst 4, 1) := by decide +kernel
theorem dX12_pay_319 : decode cX12_pay 319 = .ok (.iload 10, 2) := by decide +kernel
theorem dX12_pay_321 : decode cX12_pay 321 = .ok (.imul, 1) := by decide +kernel
theorem dX12_pay_322 : decode cX12_pay 322 = .ok (.iconst 3, 1) := by decide +kernel
theorem dX12_pay_323 : decode cX12_pay 323 = .ok (.iadd, 1) := by decide +kernel
theorem dX12_pay_324 : decode cX12_pay 324 = .ok (.lload 11, 2) := by decide +kernel
theorem dX12_pay_326 : decode cX12_pay 326 = .ok (.lastore, 1) := by decide +kernel
theorem dX12_pay_327 : decode cX12_pay 327 = .ok (.return_, 1) := by decide +kernel
theorem dX12_advance_0 : decode cX12_advance 0 = .ok (.iload_n 1, 1) := by decide +kernel
theorem dX12_advance_1 : decode cX12_advance 1 = .ok (.i2l, 1) := by decide +kernel
theorem dX12_advance_2 : decode cX12_advance 2 = .ok (.lconst 1, 1) := by decide +kernel
theorem dX12_advance_3 : decode cX12_advance 3 = .ok (.ldc2_w 691, 3) := by decide +kernel
theorem dX12_advance_6 : decode cX12_advance 6 = .ok (.invokestatic 551, 3) := by decide +kernel
theorem dX12_advance_9 : decode cX12_advance 9 = .ok (.ifCond .ne 6, 3) := by decide +kernel
theorem dX12_advance_12 : decode cX12_advance 12 = .ok (.bipush (-3), 2) := by decide +kernel
theorem dX12_advance_14 : decode cX12_advance 14 = .ok (.ireturn, 1) := by decide +kernel
theorem dX12_advance_15 : decode cX12_advance 15 = .ok (.aload_n 0, 1) := by decide +kernel
theorem dX12_advance_16 : decode cX12_advance 16 = .ok (.getfield 678, 3) := by decide +kernel
theorem dX12_advance_19 : decode cX12_advance 19 = .ok (.aload_n 0, 1) := by decide +kernel
theorem dX12_advance_20 : decode cX12_advance 20 = .ok (.getfield 681, 3) := by decide +kernel
theorem dX12_advance_23 : decode cX12_advance 23 = .ok (.if_icmp .ne 6, 3) := by decide +kernel
theorem dX12_advance_26 : decode cX12_advance 26 = .ok (.bipush (-4), 2) := by decide +kernel
theorem dX12_advance_28 : decode cX12_advance 28 = .ok (.ireturn, 1) := by decide +kernel
theorem dX12_advance_29 : decode cX12_advance 29 = .ok (.iconst 0, 1) := by decide +kernel
theorem dX12_advance_30 : decode cX12_advance 30 = .ok (.istore_n 2, 1) := by decide +kernel
theorem dX12_advance_31 : decode cX12_advance 31 = .ok (.iload_n 2, 1) := by decide +kernel
theorem dX12_advance_32 : decode cX12_advance 32 = .ok (.iload_n 1, 1) := by decide +kernel
theorem dX12_advance_33 : decode cX12_advance 33 = .ok (.if_icmp .ge 43, 3) := by decide +kernel
theorem dX12_advance_36 : decode cX12_advance 36 = .ok (.aload_n 0, 1) := by decide +kernel
theorem dX12_advance_37 : decode cX12_advance 37 = .ok (.getfield 678, 3) := by decide +kernel
theorem dX12_advance_40 : decode cX12_advance 40 = .ok (.aload_n 0, 1) := by decide +kernel
theorem dX12_advance_41 : decode cX12_advance 41 = .ok (.getfield 681, 3) := by decide +kernel
theorem dX12_advance_44 : decode cX12_advance 44 = .ok (.if_icmp .ge 32, 3) := by decide +kernel
theorem dX12_advance_47 : decode cX12_advance 47 = .ok (.aload_n 0, 1) := by decide +kernel
theorem dX12_advance_48 : decode cX12_advance 48 = .ok (.aload_n 0, 1) := by decide +kernel
theorem dX12_advance_49 : decode cX12_advance 49 = .ok (.getfield 158, 3) := by decide +kernel
theorem dX12_advance_52 : decode cX12_advance 52 = .ok (.aload_n 0, 1) := by decide +kernel
theorem dX12_advance_53 : decode cX12_advance 53 = .ok (.getfield 678, 3) := by decide +kernel
theorem dX12_advance_56 : decode cX12_advance 56 = .ok (.iaload, 1) := by decide +kernel
theorem dX12_advance_57 : decode cX12_advance 57 = .ok (.invokevirtual 693, 3) := by decide +kernel
theorem dX12_advance_60 : decode cX12_advance 60 = .ok (.aload_n 0, 1) := by decide +kernel
theorem dX12_advance_61 : decode cX12_advance 61 = .ok (.dup, 1) := by decide +kernel
theorem dX12_advance_62 : decode cX12_advance 62 = .ok (.getfield 678, 3) := by decide +kernel
theorem dX12_advance_65 : decode cX12_advance 65 = .ok (.iconst 1, 1) := by decide +kernel
theorem dX12_advance_66 : decode cX12_advance 66 = .ok (.iadd, 1) := by decide +kernel
theorem dX12_advance_67 : decode cX12_advance 67 = .ok (.putfield 678, 3) := by decide +kernel
theorem dX12_advance_70 : decode cX12_advance 70 = .ok (.iinc 2 1, 3) := by decide +kernel
theorem dX12_advance_73 : decode cX12_advance 73 = .ok (.goto (-42), 3) := by decide +kernel
theorem dX12_advance_76 : decode cX12_advance 76 = .ok (.iload_n 2, 1) := by decide +kernel
theorem dX12_advance_77 : decode cX12_advance 77 = .ok (.ireturn, 1) := by decide +kernel
theorem dX12_payment_0 : decode cX12_payment 0 = .ok (.iload_n 1, 1) := by decide +kernel
theorem dX12_payment_1 : decode cX12_payment 1 = .ok (.i2l, 1) := by decide +kernel
theorem dX12_payment_2 : decode cX12_payment 2 = .ok (.lconst 0, 1) := by decide +kernel
theorem dX12_payment_3 : decode cX12_payment 3 = .ok (.aload_n 0, 1) := by decide +kernel
theorem dX12_payment_4 : decode cX12_payment 4 = .ok (.getfield 684, 3) := by decide +kernel
theorem dX12_payment_7 : decode cX12_payment 7 = .ok (.iconst 1, 1) := by decide +kernel
theorem dX12_payment_8 : decode cX12_payment 8 = .ok (.isub, 1) := by decide +kernel
theorem dX12_payment_9 : decode cX12_payment 9 = .ok (.i2l, 1) := by decide +kernel
theorem dX12_payment_10 : decode cX12_payment 10 = .ok (.invokestatic 551, 3) := by decide +kernel
theorem dX12_payment_13 : decode cX12_payment 13 = .ok (.ifCond .eq 15, 3) := by decide +kernel
theorem dX12_payment_16 : decode cX12_payment 16 = .ok (.iload_n 2, 1) := by decide +kernel
theorem dX12_payment_17 : decode cX12_payment 17 = .ok (.i2l, 1) := by decide +kernel
theorem dX12_payment_18 : decode cX12_payment 18 = .ok (.lconst 0, 1) := by decide +kernel
theorem dX12_payment_19 : decode cX12_payment 19 = .ok (.ldc2_w 597, 3) := by decide +kernel
theorem dX12_payment_22 : decode cX12_payment 22 = .ok (.invokestatic 551, 3) := by decide +kernel
theorem dX12_payment_25 : decode cX12_payment 25 = .ok (.ifCond .ne 5, 3) := by decide +kernel
theorem dX12_payment_28 : decode cX12_payment 28 = .ok (.lconst 0, 1) := by decide +kernel
theorem dX12_payment_29 : decode cX12_payment 29 = .ok (.lreturn, 1) := by decide +kernel
theorem dX12_payment_30 : decode cX12_payment 30 = .ok (.iload_n 2, 1) := by decide +kernel
theorem dX12_payment_31 : decode cX12_payment 31 = .ok (.tableswitch 91 0 7 #[45, 53, 91, 91, 91, 91, 61, 76], 45) := by decide +kernel
theorem dX12_payment_76 : decode cX12_payment 76 = .ok (.aload_n 0, 1) := by decide +kernel
theorem dX12_payment_77 : decode cX12_payment 77 = .ok (.getfield 161, 3) := by decide +kernel
theorem dX12_payment_80 : decode cX12_payment 80 = .ok (.iload_n 1, 1) := by decide +kernel
theorem dX12_payment_81 : decode cX12_payment 81 = .ok (.iaload, 1) := by decide +kernel
theorem dX12_payment_82 : decode cX12_payment 82 = .ok (.i2l, 1) := by decide +kernel
theorem dX12_payment_83 : decode cX12_payment 83 = .ok (.lreturn, 1) := by decide +kernel
theorem dX12_payment_84 : decode cX12_payment 84 = .ok (.aload_n 0, 1) := by decide +kernel
theorem dX12_payment_85 : decode cX12_payment 85 = .ok (.getfield 164, 3) := by decide +kernel
theorem dX12_payment_88 : decode cX12_payment 88 = .ok (.iload_n 1, 1) := by decide +kernel
theorem dX12_payment_89 : decode cX12_payment 89 = .ok (.iaload, 1) := by decide +kernel
theorem dX12_payment_90 : decode cX12_payment 90 = .ok (.i2l, 1) := by decide +kernel
theorem dX12_payment_91 : decode cX12_payment 91 = .ok (.lreturn, 1) := by decide +kernel
theorem dX12_payment_92 : decode cX12_payment 92 = .ok (.aload_n 0, 1) := by decide +kernel
theorem dX12_payment_93 : decode cX12_payment 93 = .ok (.getfield 170, 3) := by decide +kernel
theorem dX12_payment_96 : decode cX12_payment 96 = .ok (.iload_n 1, 1) := by decide +kernel
theorem dX12_payment_97 : decode cX12_payment 97 = .ok (.baload, 1) := by decide +kernel
theorem dX12_payment_98 : decode cX12_payment 98 = .ok (.ifCond .eq 7, 3) := by decide +kernel
theorem dX12_payment_101 : decode cX12_payment 101 = .ok (.lconst 1, 1) := by decide +kernel
theorem dX12_payment_102 : decode cX12_payment 102 = .ok (.goto 4, 3) := by decide +kernel
theorem dX12_payment_105 : decode cX12_payment 105 = .ok (.lconst 0, 1) := by decide +kernel
theorem dX12_payment_106 : decode cX12_payment 106 = .ok (.lreturn, 1) := by decide +kernel
theorem dX12_payment_107 : decode cX12_payment 107 = .ok (.aload_n 0, 1) := by decide +kernel
theorem dX12_payment_108 : decode cX12_payment 108 = .ok (.getfield 173, 3) := by decide +kernel
theorem dX12_payment_111 : decode cX12_payment 111 = .ok (.iload_n 1, 1) := by decide +kernel
theorem dX12_payment_112 : decode cX12_payment 112 = .ok (.baload, 1) := by decide +kernel
theorem dX12_payment_113 : decode cX12_payment 113 = .ok (.ifCond .eq 7, 3) := by decide +kernel
theorem dX12_payment_116 : decode cX12_payment 116 = .ok (.lconst 1, 1) := by decide +kernel
theorem dX12_payment_117 : decode cX12_payment 117 = .ok (.goto 4, 3) := by decide +kernel
theorem dX12_payment_120 : decode cX12_payment 120 = .ok (.lconst 0, 1) := by decide +kernel
theorem dX12_payment_121 : decode cX12_payment 121 = .ok (.lreturn, 1) := by decide +kernel
theorem dX12_payment_122 : decode cX12_payment 122 = .ok (.aload_n 0, 1) := by decide +kernel
theorem dX12_payment_123 : decode cX12_payment 123 = .ok (.getfield 167, 3) := by decide +kernel
theorem dX12_payment_126 : decode cX12_payment 126 = .ok (.iconst 4, 1) := by decide +kernel
theorem dX12_payment_127 : decode cX12_payment 127 = .ok (.iload_n 1, 1) := by decide +kernel
theorem dX12_payment_128 : decode cX12_payment 128 = .ok (.imul, 1) := by decide +kernel
theorem dX12_payment_129 : decode cX12_payment 129 = .ok (.iload_n 2, 1) := by decide +kernel
theorem dX12_payment_130 : decode cX12_payment 130 = .ok (.iadd, 1) := by decide +kernel
theorem dX12_payment_131 : decode cX12_payment 131 = .ok (.iconst 2, 1) := by decide +kernel
theorem dX12_payment_132 : decode cX12_payment 132 = .ok (.isub, 1) := by decide +kernel
theorem dX12_payment_133 : decode cX12_payment 133 = .ok (.laload, 1) := by decide +kernel
theorem dX12_payment_134 : decode cX12_payment 134 = .ok (.lreturn, 1) := by decide +kernel
theorem dX12_taken_0 : decode cX12_taken 0 = .ok (.iload_n 1, 1) := by decide +kernel
theorem dX12_taken_1 : decode cX12_taken 1 = .ok (.i2l, 1) := by decide +kernel
theorem dX12_taken_2 : decode cX12_taken 2 = .ok (.lconst 0, 1) := by decide +kernel
theorem dX12_taken_3 : decode cX12_taken 3 = .ok (.aload_n 0, 1) := by decide +kernel
theorem dX12_taken_4 : decode cX12_taken 4 = .ok (.getfield 684, 3) := by decide +kernel
theorem dX12_taken_7 : decode cX12_taken 7 = .ok (.iconst 1, 1) := by decide +kernel
theorem dX12_taken_8 : decode cX12_taken 8 = .ok (.isub, 1) := by decide +kernel
theorem dX12_taken_9 : decode cX12_taken 9 = .ok (.i2l, 1) := by decide +kernel
theorem dX12_taken_10 : decode cX12_taken 10 = .ok (.invokestatic 551, 3) := by decide +kernel
theorem dX12_taken_13 : decode cX12_taken 13 = .ok (.ifCond .ne 6, 3) := by decide +kernel
theorem dX12_taken_16 : decode cX12_taken 16 = .ok (.bipush (-2), 2) := by decide +kernel
theorem dX12_taken_18 : decode cX12_taken 18 = .ok (.ireturn, 1) := by decide +kernel
theorem dX12_taken_19 : decode cX12_taken 19 = .ok (.iload_n 2, 1) := by decide +kernel
theorem dX12_taken_20 : decode cX12_taken 20 = .ok (.i2l, 1) := by decide +kernel
theorem dX12_taken_21 : decode cX12_taken 21 = .ok (.lconst 0, 1) := by decide +kernel
theorem dX12_taken_22 : decode cX12_taken 22 = .ok (.ldc2_w 696, 3) := by decide +kernel
theorem dX12_taken_25 : decode cX12_taken 25 = .ok (.invokestatic 551, 3) := by decide +kernel
theorem dX12_taken_28 : decode cX12_taken 28 = .ok (.ifCond .eq 17, 3) := by decide +kernel
theorem dX12_taken_31 : decode cX12_taken 31 = .ok (.aload_n 0, 1) := by decide +kernel
theorem dX12_taken_32 : decode cX12_taken 32 = .ok (.getfield 176, 3) := by decide +kernel
theorem dX12_taken_35 : decode cX12_taken 35 = .ok (.bipush 6, 2) := by decide +kernel
theorem dX12_taken_37 : decode cX12_taken 37 = .ok (.iload_n 1, 1) := by decide +kernel
theorem dX12_taken_38 : decode cX12_taken 38 = .ok (.imul, 1) := by decide +kernel
theorem dX12_taken_39 : decode cX12_taken 39 = .ok (.iload_n 2, 1) := by decide +kernel
theorem dX12_taken_40 : decode cX12_taken 40 = .ok (.iadd, 1) := by decide +kernel
theorem dX12_taken_41 : decode cX12_taken 41 = .ok (.iaload, 1) := by decide +kernel
theorem dX12_taken_42 : decode cX12_taken 42 = .ok (.goto 5, 3) := by decide +kernel
theorem dX12_taken_45 : decode cX12_taken 45 = .ok (.bipush (-3), 2) := by decide +kernel
theorem dX12_taken_47 : decode cX12_taken 47 = .ok (.ireturn, 1) := by decide +kernel
theorem dX12_returned_0 : decode cX12_returned 0 = .ok (.iload_n 1, 1) := by decide +kernel
theorem dX12_returned_1 : decode cX12_returned 1 = .ok (.i2l, 1) := by decide +kernel
theorem dX12_returned_2 : decode cX12_returned 2 = .ok (.lconst 0, 1) := by decide +kernel
theorem dX12_returned_3 : decode cX12_returned 3 = .ok (.aload_n 0, 1) := by decide +kernel
theorem dX12_returned_4 : decode cX12_returned 4 = .ok (.getfield 684, 3) := by decide +kernel
theorem dX12_returned_7 : decode cX12_returned 7 = .ok (.iconst 1, 1) := by decide +kernel
theorem dX12_returned_8 : decode cX12_returned 8 = .ok (.isub, 1) := by decide +kernel
theorem dX12_returned_9 : decode cX12_returned 9 = .ok (.i2l, 1) := by decide +kernel
theorem dX12_returned_10 : decode cX12_returned 10 = .ok (.invokestatic 551, 3) := by decide +kernel
theorem dX12_returned_13 : decode cX12_returned 13 = .ok (.ifCond .ne 6, 3) := by decide +kernel
theorem dX12_returned_16 : decode cX12_returned 16 = .ok (.bipush (-2), 2) := by decide +kernel
theorem dX12_returned_18 : decode cX12_returned 18 = .ok (.ireturn, 1) := by decide +kernel
theorem dX12_returned_19 : decode cX12_returned 19 = .ok (.aload_n 0, 1) := by decide +kernel
theorem dX12_returned_20 : decode cX12_returned 20 = .ok (.getfield 170, 3) := by decide +kernel
theorem dX12_returned_23 : decode cX12_returned 23 = .ok (.iload_n 1, 1) := by decide +kernel
theorem dX12_returned_24 : decode cX12_returned 24 = .ok (.baload, 1) := by decide +kernel
theorem dX12_returned_25 : decode cX12_returned 25 = .ok (.ifCond .eq 6, 3) := by decide +kernel
theorem dX12_returned_28 : decode cX12_returned 28 = .ok (.bipush (-4), 2) := by decide +kernel
theorem dX12_returned_30 : decode cX12_returned 30 = .ok (.ireturn, 1) := by decide +kernel
theorem dX12_returned_31 : decode cX12_returned 31 = .ok (.aload_n 0, 1) := by decide +kernel
theorem dX12_returned_32 : decode cX12_returned 32 = .ok (.getfield 170, 3) := by decide +kernel
theorem dX12_returned_35 : decode cX12_returned 35 = .ok (.iload_n 1, 1) := by decide +kernel
theorem dX12_returned_36 : decode cX12_returned 36 = .ok (.iconst 1, 1) := by decide +kernel
theorem dX12_returned_37 : decode cX12_returned 37 = .ok (.bastore, 1) := by decide +kernel
theorem dX12_returned_38 : decode cX12_returned 38 = .ok (.iconst 1, 1) := by decide +kernel
theorem dX12_returned_39 : decode cX12_returned 39 = .ok (.ireturn, 1) := by decide +kernel
theorem dX12_balance_0 : decode cX12_balance 0 = .ok (.iload_n 1, 1) := by decide +kernel
theorem dX12_balance_1 : decode cX12_balance 1 = .ok (.i2l, 1) := by decide +kernel
theorem dX12_balance_2 : decode cX12_balance 2 = .ok (.lconst 0, 1) := by decide +kernel
theorem dX12_balance_3 : decode cX12_balance 3 = .ok (.aload_n 0, 1) := by decide +kernel
theorem dX12_balance_4 : decode cX12_balance 4 = .ok (.getfield 667, 3) := by decide +kernel
theorem dX12_balance_7 : decode cX12_balance 7 = .ok (.iconst 1, 1) := by decide +kernel
theorem dX12_balance_8 : decode cX12_balance 8 = .ok (.isub, 1) := by decide +kernel
theorem dX12_balance_9 : decode cX12_balance 9 = .ok (.i2l, 1) := by decide +kernel
theorem dX12_balance_10 : decode cX12_balance 10 = .ok (.invokestatic 551, 3) := by decide +kernel
theorem dX12_balance_13 : decode cX12_balance 13 = .ok (.ifCond .eq 15, 3) := by decide +kernel
theorem dX12_balance_16 : decode cX12_balance 16 = .ok (.iload_n 2, 1) := by decide +kernel
theorem dX12_balance_17 : decode cX12_balance 17 = .ok (.i2l, 1) := by decide +kernel
theorem dX12_balance_18 : decode cX12_balance 18 = .ok (.lconst 0, 1) := by decide +kernel
theorem dX12_balance_19 : decode cX12_balance 19 = .ok (.ldc2_w 570, 3) := by decide +kernel
theorem dX12_balance_22 : decode cX12_balance 22 = .ok (.invokestatic 551, 3) := by decide +kernel
theorem dX12_balance_25 : decode cX12_balance 25 = .ok (.ifCond .ne 5, 3) := by decide +kernel
theorem dX12_balance_28 : decode cX12_balance 28 = .ok (.lconst 0, 1) := by decide +kernel
theorem dX12_balance_29 : decode cX12_balance 29 = .ok (.lreturn, 1) := by decide +kernel
theorem dX12_balance_30 : decode cX12_balance 30 = .ok (.aload_n 0, 1) := by decide +kernel
theorem dX12_balance_31 : decode cX12_balance 31 = .ok (.iload_n 1, 1) := by decide +kernel
theorem dX12_balance_32 : decode cX12_balance 32 = .ok (.invokevirtual 687, 3) := by decide +kernel
theorem dX12_balance_35 : decode cX12_balance 35 = .ok (.lneg, 1) := by decide +kernel
theorem dX12_balance_36 : decode cX12_balance 36 = .ok (.lstore_n 3, 1) := by decide +kernel
theorem dX12_balance_37 : decode cX12_balance 37 = .ok (.aload_n 0, 1) := by decide +kernel
theorem dX12_balance_38 : decode cX12_balance 38 = .ok (.getfield 140, 3) := by decide +kernel
theorem dX12_balance_41 : decode cX12_balance 41 = .ok (.iload_n 1, 1) := by decide +kernel
theorem dX12_balance_42 : decode cX12_balance 42 = .ok (.iaload, 1) := by decide +kernel
theorem dX12_balance_43 : decode cX12_balance 43 = .ok (.istore 5, 2) := by decide +kernel
theorem dX12_balance_45 : decode cX12_balance 45 = .ok (.iload 5, 2) := by decide +kernel
theorem dX12_balance_47 : decode cX12_balance 47 = .ok (.iload_n 2, 1) := by decide +kernel
theorem dX12_balance_48 : decode cX12_balance 48 = .ok (.if_icmp .gt 23, 3) := by decide +kernel
theorem dX12_balance_51 : decode cX12_balance 51 = .ok (.lload_n 3, 1) := by decide +kernel
theorem dX12_balance_52 : decode cX12_balance 52 = .ok (.aload_n 0, 1) := by decide +kernel
theorem dX12_balance_53 : decode cX12_balance 53 = .ok (.iload_n 1, 1) := by decide +kernel
theorem dX12_balance_54 : decode cX12_balance 54 = .ok (.iload 5, 2) := by decide +kernel
theorem dX12_balance_56 : decode cX12_balance 56 = .ok (.aload_n 0, 1) := by decide +kernel
theorem dX12_balance_57 : decode cX12_balance 57 = .ok (.getfield 587, 3) := by decide +kernel
theorem dX12_balance_60 : decode cX12_balance 60 = .ok (.invokevirtual 670, 3) := by decide +kernel
theorem dX12_balance_63 : decode cX12_balance 63 = .ok (.ladd, 1) := by decide +kernel
theorem dX12_balance_64 : decode cX12_balance 64 = .ok (.lstore_n 3, 1) := by decide +kernel
theorem dX12_balance_65 : decode cX12_balance 65 = .ok (.iinc 5 1, 3) := by decide +kernel
theorem dX12_balance_68 : decode cX12_balance 68 = .ok (.goto (-23), 3) := by decide +kernel
theorem dX12_balance_71 : decode cX12_balance 71 = .ok (.lload_n 3, 1) := by decide +kernel
theorem dX12_balance_72 : decode cX12_balance 72 = .ok (.lreturn, 1) := by decide +kernel
theorem dX12_count_0 : decode cX12_count 0 = .ok (.iload_n 1, 1) := by decide +kernel
theorem dX12_count_1 : decode cX12_count 1 = .ok (.tableswitch 83 0 6 #[43, 48, 53, 58, 63, 73, 78], 43) := by decide +kernel
theorem dX12_count_44 : decode cX12_count 44 = .ok (.aload_n 0, 1) := by decide +kernel
theorem dX12_count_45 : decode cX12_count 45 = .ok (.getfield 594, 3) := by decide +kernel
theorem dX12_count_48 : decode cX12_count 48 = .ok (.ireturn, 1) := by decide +kernel
theorem dX12_count_49 : decode cX12_count 49 = .ok (.aload_n 0, 1) := by decide +kernel
theorem dX12_count_50 : decode cX12_count 50 = .ok (.getfield 582, 3) := by decide +kernel
theorem dX12_count_53 : decode cX12_count 53 = .ok (.ireturn, 1) := by decide +kernel
theorem dX12_count_54 : decode cX12_count 54 = .ok (.aload_n 0, 1) := by decide +kernel
theorem dX12_count_55 : decode cX12_count 55 = .ok (.getfield 667, 3) := by decide +kernel
theorem dX12_count_58 : decode cX12_count 58 = .ok (.ireturn, 1) := by decide +kernel
theorem dX12_count_59 : decode cX12_count 59 = .ok (.aload_n 0, 1) := by decide +kernel
theorem dX12_count_60 : decode cX12_count 60 = .ok (.getfield 684, 3) := by decide +kernel
theorem dX12_count_63 : decode cX12_count 63 = .ok (.ireturn, 1) := by decide +kernel
theorem dX12_count_64 : decode cX12_count 64 = .ok (.aload_n 0, 1) := by decide +kernel
theorem dX12_count_65 : decode cX12_count 65 = .ok (.getfield 681, 3) := by decide +kernel
theorem dX12_count_68 : decode cX12_count 68 = .ok (.aload_n 0, 1) := by decide +kernel
theorem dX12_count_69 : decode cX12_count 69 = .ok (.getfield 678, 3) := by decide +kernel
theorem dX12_count_72 : decode cX12_count 72 = .ok (.isub, 1) := by decide +kernel
theorem dX12_count_73 : decode cX12_count 73 = .ok (.ireturn, 1) := by decide +kernel
theorem dX12_count_74 : decode cX12_count 74 = .ok (.aload_n 0, 1) := by decide +kernel
theorem dX12_count_75 : decode cX12_count 75 = .ok (.getfield 290, 3) := by decide +kernel
theorem dX12_count_78 : decode cX12_count 78 = .ok (.ireturn, 1) := by decide +kernel
theorem dX12_count_79 : decode cX12_count 79 = .ok (.aload_n 0, 1) := by decide +kernel
theorem dX12_count_80 : decode cX12_count 80 = .ok (.getfield 587, 3) := by decide +kernel
theorem dX12_count_83 : decode cX12_count 83 = .ok (.ireturn, 1) := by decide +kernel
theorem dX12_count_84 : decode cX12_count 84 = .ok (.bipush (-3), 2) := by decide +kernel
theorem dX12_count_86 : decode cX12_count 86 = .ok (.ireturn, 1) := by decide +kernel
theorem dJ11_isValidCodePoint_9a6ad_0 : decode cJ11_isValidCodePoint_9a6ad 0 = .ok (.iload_n 0, 1) := by decide +kernel
theorem dJ11_isValidCodePoint_9a6ad_1 : decode cJ11_isValidCodePoint_9a6ad 1 = .ok (.bipush 16, 2) := by decide +kernel
theorem dJ11_isValidCodePoint_9a6ad_3 : decode cJ11_isValidCodePoint_9a6ad 3 = .ok (.iushr, 1) := by decide +kernel
theorem dJ11_isValidCodePoint_9a6ad_4 : decode cJ11_isValidCodePoint_9a6ad 4 = .ok (.istore_n 1, 1) := by decide +kernel
theorem dJ11_isValidCodePoint_9a6ad_5 : decode cJ11_isValidCodePoint_9a6ad 5 = .ok (.iload_n 1, 1) := by decide +kernel
theorem dJ11_isValidCodePoint_9a6ad_6 : decode cJ11_isValidCodePoint_9a6ad 6 = .ok (.bipush 17, 2) := by decide +kernel
theorem dJ11_isValidCodePoint_9a6ad_8 : decode cJ11_isValidCodePoint_9a6ad 8 = .ok (.if_icmp .ge 7, 3) := by decide +kernel
theorem dJ11_isValidCodePoint_9a6ad_11 : decode cJ11_isValidCodePoint_9a6ad 11 = .ok (.iconst 1, 1) := by decide +kernel
theorem dJ11_isValidCodePoint_9a6ad_12 : decode cJ11_isValidCodePoint_9a6ad 12 = .ok (.goto 4, 3) := by decide +kernel
theorem dJ11_isValidCodePoint_9a6ad_15 : decode cJ11_isValidCodePoint_9a6ad 15 = .ok (.iconst 0, 1) := by decide +kernel
theorem dJ11_isValidCodePoint_9a6ad_16 : decode cJ11_isValidCodePoint_9a6ad 16 = .ok (.ireturn, 1) := by decide +kernel
theorem dJ11_highSurrogate_5068e_0 : decode cJ11_highSurrogate_5068e 0 = .ok (.iload_n 0, 1) := by decide +kernel
theorem dJ11_highSurrogate_5068e_1 : decode cJ11_highSurrogate_5068e 1 = .ok (.bipush 10, 2) := by decide +kernel
theorem dJ11_highSurrogate_5068e_3 : decode cJ11_highSurrogate_5068e 3 = .ok (.iushr, 1) := by decide +kernel
theorem dJ11_highSurrogate_5068e_4 : decode cJ11_highSurrogate_5068e 4 = .ok (.ldc 110, 2) := by decide +kernel
theorem dJ11_highSurrogate_5068e_6 : decode cJ11_highSurrogate_5068e 6 = .ok (.iadd, 1) := by decide +kernel
theorem dJ11_highSurrogate_5068e_7 : decode cJ11_highSurrogate_5068e 7 = .ok (.i2c, 1) := by decide +kernel
theorem dJ11_highSurrogate_5068e_8 : decode cJ11_highSurrogate_5068e 8 = .ok (.ireturn, 1) := by decide +kernel
theorem dJ11_lowSurrogate_5068e_0 : decode cJ11_lowSurrogate_5068e 0 = .ok (.iload_n 0, 1) := by decide +kernel
theorem dJ11_lowSurrogate_5068e_1 : decode cJ11_lowSurrogate_5068e 1 = .ok (.sipush 1023, 3) := by decide +kernel
theorem dJ11_lowSurrogate_5068e_4 : decode cJ11_lowSurrogate_5068e 4 = .ok (.iand, 1) := by decide +kernel
theorem dJ11_lowSurrogate_5068e_5 : decode cJ11_lowSurrogate_5068e 5 = .ok (.ldc 76, 2) := by decide +kernel
theorem dJ11_lowSurrogate_5068e_7 : decode cJ11_lowSurrogate_5068e 7 = .ok (.iadd, 1) := by decide +kernel
theorem dJ11_lowSurrogate_5068e_8 : decode cJ11_lowSurrogate_5068e 8 = .ok (.i2c, 1) := by decide +kernel
theorem dJ11_lowSurrogate_5068e_9 : decode cJ11_lowSurrogate_5068e 9 = .ok (.ireturn, 1) := by decide +kernel
theorem dJ9_max_7cf53_0 : decode cJ9_max_7cf53 0 = .ok (.iload_n 0, 1) := by decide +kernel
theorem dJ9_max_7cf53_1 : decode cJ9_max_7cf53 1 = .ok (.iload_n 1, 1) := by decide +kernel
theorem dJ9_max_7cf53_2 : decode cJ9_max_7cf53 2 = .ok (.if_icmp .lt 7, 3) := by decide +kernel
theorem dJ9_max_7cf53_5 : decode cJ9_max_7cf53 5 = .ok (.iload_n 0, 1) := by decide +kernel
theorem dJ9_max_7cf53_6 : decode cJ9_max_7cf53 6 = .ok (.goto 4, 3) := by decide +kernel
theorem dJ9_max_7cf53_9 : decode cJ9_max_7cf53 9 = .ok (.iload_n 1, 1) := by decide +kernel
theorem dJ9_max_7cf53_10 : decode cJ9_max_7cf53 10 = .ok (.ireturn, 1) := by decide +kernel
theorem dJ9_max_f86c9_0 : decode cJ9_max_f86c9 0 = .ok (.lload_n 0, 1) := by decide +kernel
theorem dJ9_max_f86c9_1 : decode cJ9_max_f86c9 1 = .ok (.lload_n 2, 1) := by decide +kernel
theorem dJ9_max_f86c9_2 : decode cJ9_max_f86c9 2 = .ok (.lcmp, 1) := by decide +kernel
theorem dJ9_max_f86c9_3 : decode cJ9_max_f86c9 3 = .ok (.ifCond .lt 7, 3) := by decide +kernel
theorem dJ9_max_f86c9_6 : decode cJ9_max_f86c9 6 = .ok (.lload_n 0, 1) := by decide +kernel
theorem dJ9_max_f86c9_7 : decode cJ9_max_f86c9 7 = .ok (.goto 4, 3) := by decide +kernel
theorem dJ9_max_f86c9_10 : decode cJ9_max_f86c9 10 = .ok (.lload_n 2, 1) := by decide +kernel
theorem dJ9_max_f86c9_11 : decode cJ9_max_f86c9 11 = .ok (.lreturn, 1) := by decide +kernel
theorem dJ9_min_7cf53_0 : decode cJ9_min_7cf53 0 = .ok (.iload_n 0, 1) := by decide +kernel
theorem dJ9_min_7cf53_1 : decode cJ9_min_7cf53 1 = .ok (.iload_n 1, 1) := by decide +kernel
theorem dJ9_min_7cf53_2 : decode cJ9_min_7cf53 2 = .ok (.if_icmp .gt 7, 3) := by decide +kernel
theorem dJ9_min_7cf53_5 : decode cJ9_min_7cf53 5 = .ok (.iload_n 0, 1) := by decide +kernel
theorem dJ9_min_7cf53_6 : decode cJ9_min_7cf53 6 = .ok (.goto 4, 3) := by decide +kernel
theorem dJ9_min_7cf53_9 : decode cJ9_min_7cf53 9 = .ok (.iload_n 1, 1) := by decide +kernel
theorem dJ9_min_7cf53_10 : decode cJ9_min_7cf53 10 = .ok (.ireturn, 1) := by decide +kernel
theorem dJ9_min_f86c9_0 : decode cJ9_min_f86c9 0 = .ok (.lload_n 0, 1) := by decide +kernel
theorem dJ9_min_f86c9_1 : decode cJ9_min_f86c9 1 = .ok (.lload_n 2, 1) := by decide +kernel
theorem dJ9_min_f86c9_2 : decode cJ9_min_f86c9 2 = .ok (.lcmp, 1) := by decide +kernel
theorem dJ9_min_f86c9_3 : decode cJ9_min_f86c9 3 = .ok (.ifCond .gt 7, 3) := by decide +kernel
theorem dJ9_min_f86c9_6 : decode cJ9_min_f86c9 6 = .ok (.lload_n 0, 1) := by decide +kernel
theorem dJ9_min_f86c9_7 : decode cJ9_min_f86c9 7 = .ok (.goto 4, 3) := by decide +kernel
theorem dJ9_min_f86c9_10 : decode cJ9_min_f86c9 10 = .ok (.lload_n 2, 1) := by decide +kernel
theorem dJ9_min_f86c9_11 : decode cJ9_min_f86c9 11 = .ok (.lreturn, 1) := by decide +kernel
theorem dJ0_length_8abf5_0 : decode cJ0_length_8abf5 0 = .ok (.aload_n 0, 1) := by decide +kernel
theorem dJ0_length_8abf5_1 : decode cJ0_length_8abf5 1 = .ok (.getfield 9, 3) := by decide +kernel
theorem dJ0_length_8abf5_4 : decode cJ0_length_8abf5 4 = .ok (.arraylength, 1) := by decide +kernel
theorem dJ0_length_8abf5_5 : decode cJ0_length_8abf5 5 = .ok (.aload_n 0, 1) := by decide +kernel
theorem dJ0_length_8abf5_6 : decode cJ0_length_8abf5 6 = .ok (.invokevirtual 335, 3) := by decide +kernel
theorem dJ0_length_8abf5_9 : decode cJ0_length_8abf5 9 = .ok (.ishr, 1) := by decide +kernel
theorem dJ0_length_8abf5_10 : decode cJ0_length_8abf5 10 = .ok (.ireturn, 1) := by decide +kernel
theorem dJ0_charAt_5068e_0 : decode cJ0_charAt_5068e 0 = .ok (.aload_n 0, 1) := by decide +kernel
theorem dJ0_charAt_5068e_1 : decode cJ0_charAt_5068e 1 = .ok (.invokevirtual 492, 3) := by decide +kernel
theorem dJ0_charAt_5068e_4 : decode cJ0_charAt_5068e 4 = .ok (.ifCond .eq 12, 3) := by decide +kernel
theorem dJ0_charAt_5068e_7 : decode cJ0_charAt_5068e 7 = .ok (.aload_n 0, 1) := by decide +kernel
theorem dJ0_charAt_5068e_8 : decode cJ0_charAt_5068e 8 = .ok (.getfield 9, 3) := by decide +kernel
theorem dJ0_charAt_5068e_11 : decode cJ0_charAt_5068e 11 = .ok (.iload_n 1, 1) := by decide +kernel
theorem dJ0_charAt_5068e_12 : decode cJ0_charAt_5068e 12 = .ok (.invokestatic 495, 3) := by decide +kernel
theorem dJ0_charAt_5068e_15 : decode cJ0_charAt_5068e 15 = .ok (.ireturn, 1) := by decide +kernel
theorem dJ0_charAt_5068e_16 : decode cJ0_charAt_5068e 16 = .ok (.aload_n 0, 1) := by decide +kernel
theorem dJ0_charAt_5068e_17 : decode cJ0_charAt_5068e 17 = .ok (.getfield 9, 3) := by decide +kernel
theorem dJ0_charAt_5068e_20 : decode cJ0_charAt_5068e 20 = .ok (.iload_n 1, 1) := by decide +kernel
theorem dJ0_charAt_5068e_21 : decode cJ0_charAt_5068e 21 = .ok (.invokestatic 498, 3) := by decide +kernel
theorem dJ0_charAt_5068e_24 : decode cJ0_charAt_5068e 24 = .ok (.ireturn, 1) := by decide +kernel
theorem dJ0_indexOf_0f7a4_0 : decode cJ0_indexOf_0f7a4 0 = .ok (.aload_n 0, 1) := by decide +kernel
theorem dJ0_indexOf_0f7a4_1 : decode cJ0_indexOf_0f7a4 1 = .ok (.iload_n 1, 1) := by decide +kernel
theorem dJ0_indexOf_0f7a4_2 : decode cJ0_indexOf_0f7a4 2 = .ok (.iconst 0, 1) := by decide +kernel
theorem dJ0_indexOf_0f7a4_3 : decode cJ0_indexOf_0f7a4 3 = .ok (.invokevirtual 633, 3) := by decide +kernel
theorem dJ0_indexOf_0f7a4_6 : decode cJ0_indexOf_0f7a4 6 = .ok (.ireturn, 1) := by decide +kernel
theorem dJ0_indexOf_7cf53_0 : decode cJ0_indexOf_7cf53 0 = .ok (.aload_n 0, 1) := by decide +kernel
theorem dJ0_indexOf_7cf53_1 : decode cJ0_indexOf_7cf53 1 = .ok (.invokevirtual 492, 3) := by decide +kernel
theorem dJ0_indexOf_7cf53_4 : decode cJ0_indexOf_7cf53 4 = .ok (.ifCond .eq 19, 3) := by decide +kernel
theorem dJ0_indexOf_7cf53_7 : decode cJ0_indexOf_7cf53 7 = .ok (.aload_n 0, 1) := by decide +kernel
theorem dJ0_indexOf_7cf53_8 : decode cJ0_indexOf_7cf53 8 = .ok (.getfield 9, 3) := by decide +kernel
theorem dJ0_indexOf_7cf53_11 : decode cJ0_indexOf_7cf53 11 = .ok (.iload_n 1, 1) := by decide +kernel
theorem dJ0_indexOf_7cf53_12 : decode cJ0_indexOf_7cf53 12 = .ok (.iload_n 2, 1) := by decide +kernel
theorem dJ0_indexOf_7cf53_13 : decode cJ0_indexOf_7cf53 13 = .ok (.aload_n 0, 1) := by decide +kernel
theorem dJ0_indexOf_7cf53_14 : decode cJ0_indexOf_7cf53 14 = .ok (.invokevirtual 505, 3) := by decide +kernel
theorem dJ0_indexOf_7cf53_17 : decode cJ0_indexOf_7cf53 17 = .ok (.invokestatic 637, 3) := by decide +kernel
theorem dJ0_indexOf_7cf53_20 : decode cJ0_indexOf_7cf53 20 = .ok (.goto 16, 3) := by decide +kernel
theorem dJ0_indexOf_7cf53_23 : decode cJ0_indexOf_7cf53 23 = .ok (.aload_n 0, 1) := by decide +kernel
theorem dJ0_indexOf_7cf53_24 : decode cJ0_indexOf_7cf53 24 = .ok (.getfield 9, 3) := by decide +kernel
theorem dJ0_indexOf_7cf53_27 : decode cJ0_indexOf_7cf53 27 = .ok (.iload_n 1, 1) := by decide +kernel
theorem dJ0_indexOf_7cf53_28 : decode cJ0_indexOf_7cf53 28 = .ok (.iload_n 2, 1) := by decide +kernel
theorem dJ0_indexOf_7cf53_29 : decode cJ0_indexOf_7cf53 29 = .ok (.aload_n 0, 1) := by decide +kernel
theorem dJ0_indexOf_7cf53_30 : decode cJ0_indexOf_7cf53 30 = .ok (.invokevirtual 505, 3) := by decide +kernel
theorem dJ0_indexOf_7cf53_33 : decode cJ0_indexOf_7cf53 33 = .ok (.invokestatic 640, 3) := by decide +kernel
theorem dJ0_indexOf_7cf53_36 : decode cJ0_indexOf_7cf53 36 = .ok (.ireturn, 1) := by decide +kernel
theorem dJ0_coder_7d493_0 : decode cJ0_coder_7d493 0 = .ok (.getstatic 38, 3) := by decide +kernel
theorem dJ0_coder_7d493_3 : decode cJ0_coder_7d493 3 = .ok (.ifCond .eq 10, 3) := by decide +kernel
theorem dJ0_coder_7d493_6 : decode cJ0_coder_7d493 6 = .ok (.aload_n 0, 1) := by decide +kernel
theorem dJ0_coder_7d493_7 : decode cJ0_coder_7d493 7 = .ok (.getfield 15, 3) := by decide +kernel
theorem dJ0_coder_7d493_10 : decode cJ0_coder_7d493 10 = .ok (.goto 4, 3) := by decide +kernel
theorem dJ0_coder_7d493_13 : decode cJ0_coder_7d493 13 = .ok (.iconst 1, 1) := by decide +kernel
theorem dJ0_coder_7d493_14 : decode cJ0_coder_7d493 14 = .ok (.ireturn, 1) := by decide +kernel
theorem dJ0_isLatin1_aae02_0 : decode cJ0_isLatin1_aae02 0 = .ok (.getstatic 38, 3) := by decide +kernel
theorem dJ0_isLatin1_aae02_3 : decode cJ0_isLatin1_aae02 3 = .ok (.ifCond .eq 14, 3) := by decide +kernel
theorem dJ0_isLatin1_aae02_6 : decode cJ0_isLatin1_aae02 6 = .ok (.aload_n 0, 1) := by decide +kernel
theorem dJ0_isLatin1_aae02_7 : decode cJ0_isLatin1_aae02 7 = .ok (.getfield 15, 3) := by decide +kernel
theorem dJ0_isLatin1_aae02_10 : decode cJ0_isLatin1_aae02 10 = .ok (.ifCond .ne 7, 3) := by decide +kernel
theorem dJ0_isLatin1_aae02_13 : decode cJ0_isLatin1_aae02 13 = .ok (.iconst 1, 1) := by decide +kernel
theorem dJ0_isLatin1_aae02_14 : decode cJ0_isLatin1_aae02 14 = .ok (.goto 4, 3) := by decide +kernel
theorem dJ0_isLatin1_aae02_17 : decode cJ0_isLatin1_aae02 17 = .ok (.iconst 0, 1) := by decide +kernel
theorem dJ0_isLatin1_aae02_18 : decode cJ0_isLatin1_aae02 18 = .ok (.ireturn, 1) := by decide +kernel
theorem dJ0_checkIndex_df160_0 : decode cJ0_checkIndex_df160 0 = .ok (.iload_n 0, 1) := by decide +kernel
theorem dJ0_checkIndex_df160_1 : decode cJ0_checkIndex_df160 1 = .ok (.iload_n 1, 1) := by decide +kernel
theorem dJ0_checkIndex_df160_2 : decode cJ0_checkIndex_df160 2 = .ok (.getstatic 1053, 3) := by decide +kernel
theorem dJ0_checkIndex_df160_5 : decode cJ0_checkIndex_df160 5 = .ok (.invokestatic 1059, 3) := by decide +kernel
theorem dJ0_checkIndex_df160_8 : decode cJ0_checkIndex_df160 8 = .ok (.pop, 1) := by decide +kernel
theorem dJ0_checkIndex_df160_9 : decode cJ0_checkIndex_df160 9 = .ok (.return_, 1) := by decide +kernel
theorem dJ0_checkBoundsBeginEnd_23922_0 : decode cJ0_checkBoundsBeginEnd_23922 0 = .ok (.iload_n 0, 1) := by decide +kernel
theorem dJ0_checkBoundsBeginEnd_23922_1 : decode cJ0_checkBoundsBeginEnd_23922 1 = .ok (.iload_n 1, 1) := by decide +kernel
theorem dJ0_checkBoundsBeginEnd_23922_2 : decode cJ0_checkBoundsBeginEnd_23922 2 = .ok (.iload_n 2, 1) := by decide +kernel
theorem dJ0_checkBoundsBeginEnd_23922_3 : decode cJ0_checkBoundsBeginEnd_23922 3 = .ok (.getstatic 1053, 3) := by decide +kernel
theorem dJ0_checkBoundsBeginEnd_23922_6 : decode cJ0_checkBoundsBeginEnd_23922 6 = .ok (.invokestatic 1062, 3) := by decide +kernel
theorem dJ0_checkBoundsBeginEnd_23922_9 : decode cJ0_checkBoundsBeginEnd_23922 9 = .ok (.pop, 1) := by decide +kernel
theorem dJ0_checkBoundsBeginEnd_23922_10 : decode cJ0_checkBoundsBeginEnd_23922 10 = .ok (.return_, 1) := by decide +kernel
theorem dJ1_charAt_3b067_0 : decode cJ1_charAt_3b067 0 = .ok (.iload_n 1, 1) := by decide +kernel
theorem dJ1_charAt_3b067_1 : decode cJ1_charAt_3b067 1 = .ok (.aload_n 0, 1) := by decide +kernel
theorem dJ1_charAt_3b067_2 : decode cJ1_charAt_3b067 2 = .ok (.arraylength, 1) := by decide +kernel
theorem dJ1_charAt_3b067_3 : decode cJ1_charAt_3b067 3 = .ok (.invokestatic 9, 3) := by decide +kernel
theorem dJ1_charAt_3b067_6 : decode cJ1_charAt_3b067 6 = .ok (.aload_n 0, 1) := by decide +kernel
theorem dJ1_charAt_3b067_7 : decode cJ1_charAt_3b067 7 = .ok (.iload_n 1, 1) := by decide +kernel
theorem dJ1_charAt_3b067_8 : decode cJ1_charAt_3b067 8 = .ok (.baload, 1) := by decide +kernel
theorem dJ1_charAt_3b067_9 : decode cJ1_charAt_3b067 9 = .ok (.sipush 255, 3) := by decide +kernel
theorem dJ1_charAt_3b067_12 : decode cJ1_charAt_3b067 12 = .ok (.iand, 1) := by decide +kernel
theorem dJ1_charAt_3b067_13 : decode cJ1_charAt_3b067 13 = .ok (.i2c, 1) := by decide +kernel
theorem dJ1_charAt_3b067_14 : decode cJ1_charAt_3b067 14 = .ok (.ireturn, 1) := by decide +kernel
theorem dJ1_canEncode_9a6ad_0 : decode cJ1_canEncode_9a6ad 0 = .ok (.iload_n 0, 1) := by decide +kernel
theorem dJ1_canEncode_9a6ad_1 : decode cJ1_canEncode_9a6ad 1 = .ok (.ifCond .lt 14, 3) := by decide +kernel
theorem dJ1_canEncode_9a6ad_4 : decode cJ1_canEncode_9a6ad 4 = .ok (.iload_n 0, 1) := by decide +kernel
theorem dJ1_canEncode_9a6ad_5 : decode cJ1_canEncode_9a6ad 5 = .ok (.sipush 255, 3) := by decide +kernel
theorem dJ1_canEncode_9a6ad_8 : decode cJ1_canEncode_9a6ad 8 = .ok (.if_icmp .gt 7, 3) := by decide +kernel
theorem dJ1_canEncode_9a6ad_11 : decode cJ1_canEncode_9a6ad 11 = .ok (.iconst 1, 1) := by decide +kernel
theorem dJ1_canEncode_9a6ad_12 : decode cJ1_canEncode_9a6ad 12 = .ok (.goto 4, 3) := by decide +kernel
theorem dJ1_canEncode_9a6ad_15 : decode cJ1_canEncode_9a6ad 15 = .ok (.iconst 0, 1) := by decide +kernel
theorem dJ1_canEncode_9a6ad_16 : decode cJ1_canEncode_9a6ad 16 = .ok (.ireturn, 1) := by decide +kernel
theorem dJ1_indexOf_4cfef_0 : decode cJ1_indexOf_4cfef 0 = .ok (.iload_n 1, 1) := by decide +kernel
theorem dJ1_indexOf_4cfef_1 : decode cJ1_indexOf_4cfef 1 = .ok (.invokestatic 88, 3) := by decide +kernel
theorem dJ1_indexOf_4cfef_4 : decode cJ1_indexOf_4cfef 4 = .ok (.ifCond .ne 5, 3) := by decide +kernel
theorem dJ1_indexOf_4cfef_7 : decode cJ1_indexOf_4cfef 7 = .ok (.iconst (-1), 1) := by decide +kernel
theorem dJ1_indexOf_4cfef_8 : decode cJ1_indexOf_4cfef 8 = .ok (.ireturn, 1) := by decide +kernel
theorem dJ1_indexOf_4cfef_9 : decode cJ1_indexOf_4cfef 9 = .ok (.iload_n 2, 1) := by decide +kernel
theorem dJ1_indexOf_4cfef_10 : decode cJ1_indexOf_4cfef 10 = .ok (.iconst 0, 1) := by decide +kernel
theorem dJ1_indexOf_4cfef_11 : decode cJ1_indexOf_4cfef 11 = .ok (.invokestatic 92, 3) := by decide +kernel
theorem dJ1_indexOf_4cfef_14 : decode cJ1_indexOf_4cfef 14 = .ok (.istore_n 2, 1) := by decide +kernel
theorem dJ1_indexOf_4cfef_15 : decode cJ1_indexOf_4cfef 15 = .ok (.iload_n 3, 1) := by decide +kernel
theorem dJ1_indexOf_4cfef_16 : decode cJ1_indexOf_4cfef 16 = .ok (.aload_n 0, 1) := by decide +kernel
theorem dJ1_indexOf_4cfef_17 : decode cJ1_indexOf_4cfef 17 = .ok (.arraylength, 1) := by decide +kernel
theorem dJ1_indexOf_4cfef_18 : decode cJ1_indexOf_4cfef 18 = .ok (.invokestatic 38, 3) := by decide +kernel
theorem dJ1_indexOf_4cfef_21 : decode cJ1_indexOf_4cfef 21 = .ok (.istore_n 3, 1) := by decide +kernel
theorem dJ1_indexOf_4cfef_22 : decode cJ1_indexOf_4cfef 22 = .ok (.iload_n 2, 1) := by decide +kernel
theorem dJ1_indexOf_4cfef_23 : decode cJ1_indexOf_4cfef 23 = .ok (.iload_n 3, 1) := by decide +kernel
theorem dJ1_indexOf_4cfef_24 : decode cJ1_indexOf_4cfef 24 = .ok (.if_icmp .lt 5, 3) := by decide +kernel
theorem dJ1_indexOf_4cfef_27 : decode cJ1_indexOf_4cfef 27 = .ok (.iconst (-1), 1) := by decide +kernel
theorem dJ1_indexOf_4cfef_28 : decode cJ1_indexOf_4cfef 28 = .ok (.ireturn, 1) := by decide +kernel
theorem dJ1_indexOf_4cfef_29 : decode cJ1_indexOf_4cfef 29 = .ok (.aload_n 0, 1) := by decide +kernel
theorem dJ1_indexOf_4cfef_30 : decode cJ1_indexOf_4cfef 30 = .ok (.iload_n 1, 1) := by decide +kernel
theorem dJ1_indexOf_4cfef_31 : decode cJ1_indexOf_4cfef 31 = .ok (.iload_n 2, 1) := by decide +kernel
theorem dJ1_indexOf_4cfef_32 : decode cJ1_indexOf_4cfef 32 = .ok (.iload_n 3, 1) := by decide +kernel
theorem dJ1_indexOf_4cfef_33 : decode cJ1_indexOf_4cfef 33 = .ok (.invokestatic 95, 3) := by decide +kernel
theorem dJ1_indexOf_4cfef_36 : decode cJ1_indexOf_4cfef 36 = .ok (.ireturn, 1) := by decide +kernel
theorem dJ1_indexOfChar_4cfef_0 : decode cJ1_indexOfChar_4cfef 0 = .ok (.iload_n 1, 1) := by decide +kernel
theorem dJ1_indexOfChar_4cfef_1 : decode cJ1_indexOfChar_4cfef 1 = .ok (.i2b, 1) := by decide +kernel
theorem dJ1_indexOfChar_4cfef_2 : decode cJ1_indexOfChar_4cfef 2 = .ok (.istore 4, 2) := by decide +kernel
theorem dJ1_indexOfChar_4cfef_4 : decode cJ1_indexOfChar_4cfef 4 = .ok (.iload_n 2, 1) := by decide +kernel
theorem dJ1_indexOfChar_4cfef_5 : decode cJ1_indexOfChar_4cfef 5 = .ok (.istore 5, 2) := by decide +kernel
theorem dJ1_indexOfChar_4cfef_7 : decode cJ1_indexOfChar_4cfef 7 = .ok (.iload 5, 2) := by decide +kernel
theorem dJ1_indexOfChar_4cfef_9 : decode cJ1_indexOfChar_4cfef 9 = .ok (.iload_n 3, 1) := by decide +kernel
theorem dJ1_indexOfChar_4cfef_10 : decode cJ1_indexOfChar_4cfef 10 = .ok (.if_icmp .ge 21, 3) := by decide +kernel
theorem dJ1_indexOfChar_4cfef_13 : decode cJ1_indexOfChar_4cfef 13 = .ok (.aload_n 0, 1) := by decide +kernel
theorem dJ1_indexOfChar_4cfef_14 : decode cJ1_indexOfChar_4cfef 14 = .ok (.iload 5, 2) := by decide +kernel
theorem dJ1_indexOfChar_4cfef_16 : decode cJ1_indexOfChar_4cfef 16 = .ok (.baload, 1) := by decide +kernel
theorem dJ1_indexOfChar_4cfef_17 : decode cJ1_indexOfChar_4cfef 17 = .ok (.iload 4, 2) := by decide +kernel
theorem dJ1_indexOfChar_4cfef_19 : decode cJ1_indexOfChar_4cfef 19 = .ok (.if_icmp .ne 6, 3) := by decide +kernel
theorem dJ1_indexOfChar_4cfef_22 : decode cJ1_indexOfChar_4cfef 22 = .ok (.iload 5, 2) := by decide +kernel
theorem dJ1_indexOfChar_4cfef_24 : decode cJ1_indexOfChar_4cfef 24 = .ok (.ireturn, 1) := by decide +kernel
theorem dJ1_indexOfChar_4cfef_25 : decode cJ1_indexOfChar_4cfef 25 = .ok (.iinc 5 1, 3) := by decide +kernel
theorem dJ1_indexOfChar_4cfef_28 : decode cJ1_indexOfChar_4cfef 28 = .ok (.goto (-21), 3) := by decide +kernel
theorem dJ1_indexOfChar_4cfef_31 : decode cJ1_indexOfChar_4cfef 31 = .ok (.iconst (-1), 1) := by decide +kernel
theorem dJ1_indexOfChar_4cfef_32 : decode cJ1_indexOfChar_4cfef 32 = .ok (.ireturn, 1) := by decide +kernel
theorem dJ2_getChar_3b067_0 : decode cJ2_getChar_3b067 0 = .ok (.getstatic 44, 3) := by decide +kernel
theorem dJ2_getChar_3b067_3 : decode cJ2_getChar_3b067 3 = .ok (.ifCond .ne 25, 3) := by decide +kernel
theorem dJ2_getChar_3b067_6 : decode cJ2_getChar_3b067 6 = .ok (.iload_n 1, 1) := by decide +kernel
theorem dJ2_getChar_3b067_7 : decode cJ2_getChar_3b067 7 = .ok (.ifCond .lt 11, 3) := by decide +kernel
theorem dJ2_getChar_3b067_10 : decode cJ2_getChar_3b067 10 = .ok (.iload_n 1, 1) := by decide +kernel
theorem dJ2_getChar_3b067_11 : decode cJ2_getChar_3b067 11 = .ok (.aload_n 0, 1) := by decide +kernel
theorem dJ2_getChar_3b067_12 : decode cJ2_getChar_3b067 12 = .ok (.invokestatic 48, 3) := by decide +kernel
theorem dJ2_getChar_3b067_15 : decode cJ2_getChar_3b067 15 = .ok (.if_icmp .lt 13, 3) := by decide +kernel
theorem dJ2_getChar_3b067_18 : decode cJ2_getChar_3b067 18 = .ok (.new 52, 3) := by decide +kernel
theorem dJ2_getChar_3b067_21 : decode cJ2_getChar_3b067 21 = .ok (.dup, 1) := by decide +kernel
theorem dJ2_getChar_3b067_22 : decode cJ2_getChar_3b067 22 = .ok (.ldc 54, 2) := by decide +kernel
theorem dJ2_getChar_3b067_24 : decode cJ2_getChar_3b067 24 = .ok (.invokespecial 56, 3) := by decide +kernel
theorem dJ2_getChar_3b067_27 : decode cJ2_getChar_3b067 27 = .ok (.athrow, 1) := by decide +kernel
theorem dJ2_getChar_3b067_28 : decode cJ2_getChar_3b067 28 = .ok (.iload_n 1, 1) := by decide +kernel
theorem dJ2_getChar_3b067_29 : decode cJ2_getChar_3b067 29 = .ok (.iconst 1, 1) := by decide +kernel
theorem dJ2_getChar_3b067_30 : decode cJ2_getChar_3b067 30 = .ok (.ishl, 1) := by decide +kernel
theorem dJ2_getChar_3b067_31 : decode cJ2_getChar_3b067 31 = .ok (.istore_n 1, 1) := by decide +kernel
theorem dJ2_getChar_3b067_32 : decode cJ2_getChar_3b067 32 = .ok (.aload_n 0, 1) := by decide +kernel
theorem dJ2_getChar_3b067_33 : decode cJ2_getChar_3b067 33 = .ok (.iload_n 1, 1) := by decide +kernel
theorem dJ2_getChar_3b067_34 : decode cJ2_getChar_3b067 34 = .ok (.iinc 1 1, 3) := by decide +kernel
theorem dJ2_getChar_3b067_37 : decode cJ2_getChar_3b067 37 = .ok (.baload, 1) := by decide +kernel
theorem dJ2_getChar_3b067_38 : decode cJ2_getChar_3b067 38 = .ok (.sipush 255, 3) := by decide +kernel
theorem dJ2_getChar_3b067_41 : decode cJ2_getChar_3b067 41 = .ok (.iand, 1) := by decide +kernel
theorem dJ2_getChar_3b067_42 : decode cJ2_getChar_3b067 42 = .ok (.getstatic 59, 3) := by decide +kernel
theorem dJ2_getChar_3b067_45 : decode cJ2_getChar_3b067 45 = .ok (.ishl, 1) := by decide +kernel
theorem dJ2_getChar_3b067_46 : decode cJ2_getChar_3b067 46 = .ok (.aload_n 0, 1) := by decide +kernel
theorem dJ2_getChar_3b067_47 : decode cJ2_getChar_3b067 47 = .ok (.iload_n 1, 1) := by decide +kernel
theorem dJ2_getChar_3b067_48 : decode cJ2_getChar_3b067 48 = .ok (.baload, 1) := by decide +kernel
theorem dJ2_getChar_3b067_49 : decode cJ2_getChar_3b067 49 = .ok (.sipush 255, 3) := by decide +kernel
theorem dJ2_getChar_3b067_52 : decode cJ2_getChar_3b067 52 = .ok (.iand, 1) := by decide +kernel
theorem dJ2_getChar_3b067_53 : decode cJ2_getChar_3b067 53 = .ok (.getstatic 63, 3) := by decide +kernel
theorem dJ2_getChar_3b067_56 : decode cJ2_getChar_3b067 56 = .ok (.ishl, 1) := by decide +kernel
theorem dJ2_getChar_3b067_57 : decode cJ2_getChar_3b067 57 = .ok (.ior, 1) := by decide +kernel
theorem dJ2_getChar_3b067_58 : decode cJ2_getChar_3b067 58 = .ok (.i2c, 1) := by decide +kernel
theorem dJ2_getChar_3b067_59 : decode cJ2_getChar_3b067 59 = .ok (.ireturn, 1) := by decide +kernel
theorem dJ2_length_9d52b_0 : decode cJ2_length_9d52b 0 = .ok (.aload_n 0, 1) := by decide +kernel
theorem dJ2_length_9d52b_1 : decode cJ2_length_9d52b 1 = .ok (.arraylength, 1) := by decide +kernel
theorem dJ2_length_9d52b_2 : decode cJ2_length_9d52b 2 = .ok (.iconst 1, 1) := by decide +kernel
theorem dJ2_length_9d52b_3 : decode cJ2_length_9d52b 3 = .ok (.ishr, 1) := by decide +kernel
theorem dJ2_length_9d52b_4 : decode cJ2_length_9d52b 4 = .ok (.ireturn, 1) := by decide +kernel
theorem dJ2_indexOf_4cfef_0 : decode cJ2_indexOf_4cfef 0 = .ok (.iload_n 2, 1) := by decide +kernel
theorem dJ2_indexOf_4cfef_1 : decode cJ2_indexOf_4cfef 1 = .ok (.iconst 0, 1) := by decide +kernel
theorem dJ2_indexOf_4cfef_2 : decode cJ2_indexOf_4cfef 2 = .ok (.invokestatic 224, 3) := by decide +kernel
theorem dJ2_indexOf_4cfef_5 : decode cJ2_indexOf_4cfef 5 = .ok (.istore_n 2, 1) := by decide +kernel
theorem dJ2_indexOf_4cfef_6 : decode cJ2_indexOf_4cfef 6 = .ok (.iload_n 3, 1) := by decide +kernel
theorem dJ2_indexOf_4cfef_7 : decode cJ2_indexOf_4cfef 7 = .ok (.aload_n 0, 1) := by decide +kernel
theorem dJ2_indexOf_4cfef_8 : decode cJ2_indexOf_4cfef 8 = .ok (.arraylength, 1) := by decide +kernel
theorem dJ2_indexOf_4cfef_9 : decode cJ2_indexOf_4cfef 9 = .ok (.iconst 1, 1) := by decide +kernel
theorem dJ2_indexOf_4cfef_10 : decode cJ2_indexOf_4cfef 10 = .ok (.ishr, 1) := by decide +kernel
theorem dJ2_indexOf_4cfef_11 : decode cJ2_indexOf_4cfef 11 = .ok (.invokestatic 183, 3) := by decide +kernel
theorem dJ2_indexOf_4cfef_14 : decode cJ2_indexOf_4cfef 14 = .ok (.istore_n 3, 1) := by decide +kernel
theorem dJ2_indexOf_4cfef_15 : decode cJ2_indexOf_4cfef 15 = .ok (.iload_n 2, 1) := by decide +kernel
theorem dJ2_indexOf_4cfef_16 : decode cJ2_indexOf_4cfef 16 = .ok (.iload_n 3, 1) := by decide +kernel
theorem dJ2_indexOf_4cfef_17 : decode cJ2_indexOf_4cfef 17 = .ok (.if_icmp .lt 5, 3) := by decide +kernel
theorem dJ2_indexOf_4cfef_20 : decode cJ2_indexOf_4cfef 20 = .ok (.iconst (-1), 1) := by decide +kernel
theorem dJ2_indexOf_4cfef_21 : decode cJ2_indexOf_4cfef 21 = .ok (.ireturn, 1) := by decide +kernel
theorem dJ2_indexOf_4cfef_22 : decode cJ2_indexOf_4cfef 22 = .ok (.iload_n 1, 1) := by decide +kernel
theorem dJ2_indexOf_4cfef_23 : decode cJ2_indexOf_4cfef 23 = .ok (.ldc 227, 2) := by decide +kernel
theorem dJ2_indexOf_4cfef_25 : decode cJ2_indexOf_4cfef 25 = .ok (.if_icmp .ge 11, 3) := by decide +kernel
theorem dJ2_indexOf_4cfef_28 : decode cJ2_indexOf_4cfef 28 = .ok (.aload_n 0, 1) := by decide +kernel
theorem dJ2_indexOf_4cfef_29 : decode cJ2_indexOf_4cfef 29 = .ok (.iload_n 1, 1) := by decide +kernel
theorem dJ2_indexOf_4cfef_30 : decode cJ2_indexOf_4cfef 30 = .ok (.iload_n 2, 1) := by decide +kernel
theorem dJ2_indexOf_4cfef_31 : decode cJ2_indexOf_4cfef 31 = .ok (.iload_n 3, 1) := by decide +kernel
theorem dJ2_indexOf_4cfef_32 : decode cJ2_indexOf_4cfef 32 = .ok (.invokestatic 228, 3) := by decide +kernel
theorem dJ2_indexOf_4cfef_35 : decode cJ2_indexOf_4cfef 35 = .ok (.ireturn, 1) := by decide +kernel
theorem dJ2_indexOf_4cfef_36 : decode cJ2_indexOf_4cfef 36 = .ok (.aload_n 0, 1) := by decide +kernel
theorem dJ2_indexOf_4cfef_37 : decode cJ2_indexOf_4cfef 37 = .ok (.iload_n 1, 1) := by decide +kernel
theorem dJ2_indexOf_4cfef_38 : decode cJ2_indexOf_4cfef 38 = .ok (.iload_n 2, 1) := by decide +kernel
theorem dJ2_indexOf_4cfef_39 : decode cJ2_indexOf_4cfef 39 = .ok (.iload_n 3, 1) := by decide +kernel
theorem dJ2_indexOf_4cfef_40 : decode cJ2_indexOf_4cfef 40 = .ok (.invokestatic 232, 3) := by decide +kernel
theorem dJ2_indexOf_4cfef_43 : decode cJ2_indexOf_4cfef 43 = .ok (.ireturn, 1) := by decide +kernel
theorem dJ2_indexOfChar_4cfef_0 : decode cJ2_indexOfChar_4cfef 0 = .ok (.iload_n 2, 1) := by decide +kernel
theorem dJ2_indexOfChar_4cfef_1 : decode cJ2_indexOfChar_4cfef 1 = .ok (.iload_n 3, 1) := by decide +kernel
theorem dJ2_indexOfChar_4cfef_2 : decode cJ2_indexOfChar_4cfef 2 = .ok (.aload_n 0, 1) := by decide +kernel
theorem dJ2_indexOfChar_4cfef_3 : decode cJ2_indexOfChar_4cfef 3 = .ok (.invokestatic 96, 3) := by decide +kernel
theorem dJ2_indexOfChar_4cfef_6 : decode cJ2_indexOfChar_4cfef 6 = .ok (.aload_n 0, 1) := by decide +kernel
theorem dJ2_indexOfChar_4cfef_7 : decode cJ2_indexOfChar_4cfef 7 = .ok (.iload_n 1, 1) := by decide +kernel
theorem dJ2_indexOfChar_4cfef_8 : decode cJ2_indexOfChar_4cfef 8 = .ok (.iload_n 2, 1) := by decide +kernel
theorem dJ2_indexOfChar_4cfef_9 : decode cJ2_indexOfChar_4cfef 9 = .ok (.iload_n 3, 1) := by decide +kernel
theorem dJ2_indexOfChar_4cfef_10 : decode cJ2_indexOfChar_4cfef 10 = .ok (.invokestatic 244, 3) := by decide +kernel
theorem dJ2_indexOfChar_4cfef_13 : decode cJ2_indexOfChar_4cfef 13 = .ok (.ireturn, 1) := by decide +kernel
theorem dJ2_indexOfCharUnsafe_4cfef_0 : decode cJ2_indexOfCharUnsafe_4cfef 0 = .ok (.iload_n 2, 1) := by decide +kernel
theorem dJ2_indexOfCharUnsafe_4cfef_1 : decode cJ2_indexOfCharUnsafe_4cfef 1 = .ok (.istore 4, 2) := by decide +kernel
theorem dJ2_indexOfCharUnsafe_4cfef_3 : decode cJ2_indexOfCharUnsafe_4cfef 3 = .ok (.iload 4, 2) := by decide +kernel
theorem dJ2_indexOfCharUnsafe_4cfef_5 : decode cJ2_indexOfCharUnsafe_4cfef 5 = .ok (.iload_n 3, 1) := by decide +kernel
theorem dJ2_indexOfCharUnsafe_4cfef_6 : decode cJ2_indexOfCharUnsafe_4cfef 6 = .ok (.if_icmp .ge 22, 3) := by decide +kernel
theorem dJ2_indexOfCharUnsafe_4cfef_9 : decode cJ2_indexOfCharUnsafe_4cfef 9 = .ok (.aload_n 0, 1) := by decide +kernel
theorem dJ2_indexOfCharUnsafe_4cfef_10 : decode cJ2_indexOfCharUnsafe_4cfef 10 = .ok (.iload 4, 2) := by decide +kernel
theorem dJ2_indexOfCharUnsafe_4cfef_12 : decode cJ2_indexOfCharUnsafe_4cfef 12 = .ok (.invokestatic 71, 3) := by decide +kernel
theorem dJ2_indexOfCharUnsafe_4cfef_15 : decode cJ2_indexOfCharUnsafe_4cfef 15 = .ok (.iload_n 1, 1) := by decide +kernel
theorem dJ2_indexOfCharUnsafe_4cfef_16 : decode cJ2_indexOfCharUnsafe_4cfef 16 = .ok (.if_icmp .ne 6, 3) := by decide +kernel
theorem dJ2_indexOfCharUnsafe_4cfef_19 : decode cJ2_indexOfCharUnsafe_4cfef 19 = .ok (.iload 4, 2) := by decide +kernel
theorem dJ2_indexOfCharUnsafe_4cfef_21 : decode cJ2_indexOfCharUnsafe_4cfef 21 = .ok (.ireturn, 1) := by decide +kernel
theorem dJ2_indexOfCharUnsafe_4cfef_22 : decode cJ2_indexOfCharUnsafe_4cfef 22 = .ok (.iinc 4 1, 3) := by decide +kernel
theorem dJ2_indexOfCharUnsafe_4cfef_25 : decode cJ2_indexOfCharUnsafe_4cfef 25 = .ok (.goto (-22), 3) := by decide +kernel
theorem dJ2_indexOfCharUnsafe_4cfef_28 : decode cJ2_indexOfCharUnsafe_4cfef 28 = .ok (.iconst (-1), 1) := by decide +kernel
theorem dJ2_indexOfCharUnsafe_4cfef_29 : decode cJ2_indexOfCharUnsafe_4cfef 29 = .ok (.ireturn, 1) := by decide +kernel
theorem dJ2_indexOfSupplementary_4cfef_0 : decode cJ2_indexOfSupplementary_4cfef 0 = .ok (.iload_n 1, 1) := by decide +kernel
theorem dJ2_indexOfSupplementary_4cfef_1 : decode cJ2_indexOfSupplementary_4cfef 1 = .ok (.invokestatic 164, 3) := by decide +kernel
theorem dJ2_indexOfSupplementary_4cfef_4 : decode cJ2_indexOfSupplementary_4cfef 4 = .ok (.ifCond .eq 65, 3) := by decide +kernel
theorem dJ2_indexOfSupplementary_4cfef_7 : decode cJ2_indexOfSupplementary_4cfef 7 = .ok (.iload_n 1, 1) := by decide +kernel
theorem dJ2_indexOfSupplementary_4cfef_8 : decode cJ2_indexOfSupplementary_4cfef 8 = .ok (.invokestatic 157, 3) := by decide +kernel
theorem dJ2_indexOfSupplementary_4cfef_11 : decode cJ2_indexOfSupplementary_4cfef 11 = .ok (.istore 4, 2) := by decide +kernel
theorem dJ2_indexOfSupplementary_4cfef_13 : decode cJ2_indexOfSupplementary_4cfef 13 = .ok (.iload_n 1, 1) := by decide +kernel
theorem dJ2_indexOfSupplementary_4cfef_14 : decode cJ2_indexOfSupplementary_4cfef 14 = .ok (.invokestatic 161, 3) := by decide +kernel
theorem dJ2_indexOfSupplementary_4cfef_17 : decode cJ2_indexOfSupplementary_4cfef 17 = .ok (.istore 5, 2) := by decide +kernel
theorem dJ2_indexOfSupplementary_4cfef_19 : decode cJ2_indexOfSupplementary_4cfef 19 = .ok (.iload_n 2, 1) := by decide +kernel
theorem dJ2_indexOfSupplementary_4cfef_20 : decode cJ2_indexOfSupplementary_4cfef 20 = .ok (.iload_n 3, 1) := by decide +kernel
theorem dJ2_indexOfSupplementary_4cfef_21 : decode cJ2_indexOfSupplementary_4cfef 21 = .ok (.aload_n 0, 1) := by decide +kernel
theorem dJ2_indexOfSupplementary_4cfef_22 : decode cJ2_indexOfSupplementary_4cfef 22 = .ok (.invokestatic 96, 3) := by decide +kernel
theorem dJ2_indexOfSupplementary_4cfef_25 : decode cJ2_indexOfSupplementary_4cfef 25 = .ok (.iload_n 2, 1) := by decide +kernel
theorem dJ2_indexOfSupplementary_4cfef_26 : decode cJ2_indexOfSupplementary_4cfef 26 = .ok (.istore 6, 2) := by decide +kernel
theorem dJ2_indexOfSupplementary_4cfef_28 : decode cJ2_indexOfSupplementary_4cfef 28 = .ok (.iload 6, 2) := by decide +kernel
theorem dJ2_indexOfSupplementary_4cfef_30 : decode cJ2_indexOfSupplementary_4cfef 30 = .ok (.iload_n 3, 1) := by decide +kernel
theorem dJ2_indexOfSupplementary_4cfef_31 : decode cJ2_indexOfSupplementary_4cfef 31 = .ok (.iconst 1, 1) := by decide +kernel
theorem dJ2_indexOfSupplementary_4cfef_32 : decode cJ2_indexOfSupplementary_4cfef 32 = .ok (.isub, 1) := by decide +kernel
theorem dJ2_indexOfSupplementary_4cfef_33 : decode cJ2_indexOfSupplementary_4cfef 33 = .ok (.if_icmp .ge 36, 3) := by decide +kernel
theorem dJ2_indexOfSupplementary_4cfef_36 : decode cJ2_indexOfSupplementary_4cfef 36 = .ok (.aload_n 0, 1) := by decide +kernel
theorem dJ2_indexOfSupplementary_4cfef_37 : decode cJ2_indexOfSupplementary_4cfef 37 = .ok (.iload 6, 2) := by decide +kernel
theorem dJ2_indexOfSupplementary_4cfef_39 : decode cJ2_indexOfSupplementary_4cfef 39 = .ok (.invokestatic 71, 3) := by decide +kernel
theorem dJ2_indexOfSupplementary_4cfef_42 : decode cJ2_indexOfSupplementary_4cfef 42 = .ok (.iload 4, 2) := by decide +kernel
theorem dJ2_indexOfSupplementary_4cfef_44 : decode cJ2_indexOfSupplementary_4cfef 44 = .ok (.if_icmp .ne 19, 3) := by decide +kernel
theorem dJ2_indexOfSupplementary_4cfef_47 : decode cJ2_indexOfSupplementary_4cfef 47 = .ok (.aload_n 0, 1) := by decide +kernel
theorem dJ2_indexOfSupplementary_4cfef_48 : decode cJ2_indexOfSupplementary_4cfef 48 = .ok (.iload 6, 2) := by decide +kernel
theorem dJ2_indexOfSupplementary_4cfef_50 : decode cJ2_indexOfSupplementary_4cfef 50 = .ok (.iconst 1, 1) := by decide +kernel
theorem dJ2_indexOfSupplementary_4cfef_51 : decode cJ2_indexOfSupplementary_4cfef 51 = .ok (.iadd, 1) := by decide +kernel
theorem dJ2_indexOfSupplementary_4cfef_52 : decode cJ2_indexOfSupplementary_4cfef 52 = .ok (.invokestatic 71, 3) := by decide +kernel
theorem dJ2_indexOfSupplementary_4cfef_55 : decode cJ2_indexOfSupplementary_4cfef 55 = .ok (.iload 5, 2) := by decide +kernel
theorem dJ2_indexOfSupplementary_4cfef_57 : decode cJ2_indexOfSupplementary_4cfef 57 = .ok (.if_icmp .ne 6, 3) := by decide +kernel
theorem dJ2_indexOfSupplementary_4cfef_60 : decode cJ2_indexOfSupplementary_4cfef 60 = .ok (.iload 6, 2) := by decide +kernel
theorem dJ2_indexOfSupplementary_4cfef_62 : decode cJ2_indexOfSupplementary_4cfef 62 = .ok (.ireturn, 1) := by decide +kernel
theorem dJ2_indexOfSupplementary_4cfef_63 : decode cJ2_indexOfSupplementary_4cfef 63 = .ok (.iinc 6 1, 3) := by decide +kernel
theorem dJ2_indexOfSupplementary_4cfef_66 : decode cJ2_indexOfSupplementary_4cfef 66 = .ok (.goto (-38), 3) := by decide +kernel
theorem dJ2_indexOfSupplementary_4cfef_69 : decode cJ2_indexOfSupplementary_4cfef 69 = .ok (.iconst (-1), 1) := by decide +kernel
theorem dJ2_indexOfSupplementary_4cfef_70 : decode cJ2_indexOfSupplementary_4cfef 70 = .ok (.ireturn, 1) := by decide +kernel
theorem dJ2_charAt_3b067_0 : decode cJ2_charAt_3b067 0 = .ok (.iload_n 1, 1) := by decide +kernel
theorem dJ2_charAt_3b067_1 : decode cJ2_charAt_3b067 1 = .ok (.aload_n 0, 1) := by decide +kernel
theorem dJ2_charAt_3b067_2 : decode cJ2_charAt_3b067 2 = .ok (.invokestatic 67, 3) := by decide +kernel
theorem dJ2_charAt_3b067_5 : decode cJ2_charAt_3b067 5 = .ok (.aload_n 0, 1) := by decide +kernel
theorem dJ2_charAt_3b067_6 : decode cJ2_charAt_3b067 6 = .ok (.iload_n 1, 1) := by decide +kernel
theorem dJ2_charAt_3b067_7 : decode cJ2_charAt_3b067 7 = .ok (.invokestatic 71, 3) := by decide +kernel
theorem dJ2_charAt_3b067_10 : decode cJ2_charAt_3b067 10 = .ok (.ireturn, 1) := by decide +kernel
theorem dJ2_checkIndex_2214a_0 : decode cJ2_checkIndex_2214a 0 = .ok (.iload_n 0, 1) := by decide +kernel
theorem dJ2_checkIndex_2214a_1 : decode cJ2_checkIndex_2214a 1 = .ok (.aload_n 1, 1) := by decide +kernel
theorem dJ2_checkIndex_2214a_2 : decode cJ2_checkIndex_2214a 2 = .ok (.invokestatic 48, 3) := by decide +kernel
theorem dJ2_checkIndex_2214a_5 : decode cJ2_checkIndex_2214a 5 = .ok (.invokestatic 414, 3) := by decide +kernel
theorem dJ2_checkIndex_2214a_8 : decode cJ2_checkIndex_2214a 8 = .ok (.return_, 1) := by decide +kernel
theorem dJ2_checkBoundsBeginEnd_d044e_0 : decode cJ2_checkBoundsBeginEnd_d044e 0 = .ok (.iload_n 0, 1) := by decide +kernel
theorem dJ2_checkBoundsBeginEnd_d044e_1 : decode cJ2_checkBoundsBeginEnd_d044e 1 = .ok (.iload_n 1, 1) := by decide +kernel
theorem dJ2_checkBoundsBeginEnd_d044e_2 : decode cJ2_checkBoundsBeginEnd_d044e 2 = .ok (.aload_n 2, 1) := by decide +kernel
theorem dJ2_checkBoundsBeginEnd_d044e_3 : decode cJ2_checkBoundsBeginEnd_d044e 3 = .ok (.invokestatic 48, 3) := by decide +kernel
theorem dJ2_checkBoundsBeginEnd_d044e_6 : decode cJ2_checkBoundsBeginEnd_d044e 6 = .ok (.invokestatic 241, 3) := by decide +kernel
theorem dJ2_checkBoundsBeginEnd_d044e_9 : decode cJ2_checkBoundsBeginEnd_d044e 9 = .ok (.return_, 1) := by decide +kernel
theorem dJ7_fill_d0a16_0 : decode cJ7_fill_d0a16 0 = .ok (.iconst 0, 1) := by decide +kernel
theorem dJ7_fill_d0a16_1 : decode cJ7_fill_d0a16 1 = .ok (.istore_n 3, 1) := by decide +kernel
theorem dJ7_fill_d0a16_2 : decode cJ7_fill_d0a16 2 = .ok (.aload_n 0, 1) := by decide +kernel
theorem dJ7_fill_d0a16_3 : decode cJ7_fill_d0a16 3 = .ok (.arraylength, 1) := by decide +kernel
theorem dJ7_fill_d0a16_4 : decode cJ7_fill_d0a16 4 = .ok (.istore 4, 2) := by decide +kernel
theorem dJ7_fill_d0a16_6 : decode cJ7_fill_d0a16 6 = .ok (.iload_n 3, 1) := by decide +kernel
theorem dJ7_fill_d0a16_7 : decode cJ7_fill_d0a16 7 = .ok (.iload 4, 2) := by decide +kernel
theorem dJ7_fill_d0a16_9 : decode cJ7_fill_d0a16 9 = .ok (.if_icmp .ge 13, 3) := by decide +kernel
theorem dJ7_fill_d0a16_12 : decode cJ7_fill_d0a16 12 = .ok (.aload_n 0, 1) := by decide +kernel
theorem dJ7_fill_d0a16_13 : decode cJ7_fill_d0a16 13 = .ok (.iload_n 3, 1) := by decide +kernel
theorem dJ7_fill_d0a16_14 : decode cJ7_fill_d0a16 14 = .ok (.lload_n 1, 1) := by decide +kernel
theorem dJ7_fill_d0a16_15 : decode cJ7_fill_d0a16 15 = .ok (.lastore, 1) := by decide +kernel
theorem dJ7_fill_d0a16_16 : decode cJ7_fill_d0a16 16 = .ok (.iinc 3 1, 3) := by decide +kernel
theorem dJ7_fill_d0a16_19 : decode cJ7_fill_d0a16 19 = .ok (.goto (-13), 3) := by decide +kernel
theorem dJ7_fill_d0a16_22 : decode cJ7_fill_d0a16 22 = .ok (.return_, 1) := by decide +kernel
theorem dJ7_fill_53178_0 : decode cJ7_fill_53178 0 = .ok (.iconst 0, 1) := by decide +kernel
theorem dJ7_fill_53178_1 : decode cJ7_fill_53178 1 = .ok (.istore_n 2, 1) := by decide +kernel
theorem dJ7_fill_53178_2 : decode cJ7_fill_53178 2 = .ok (.aload_n 0, 1) := by decide +kernel
theorem dJ7_fill_53178_3 : decode cJ7_fill_53178 3 = .ok (.arraylength, 1) := by decide +kernel
theorem dJ7_fill_53178_4 : decode cJ7_fill_53178 4 = .ok (.istore_n 3, 1) := by decide +kernel
theorem dJ7_fill_53178_5 : decode cJ7_fill_53178 5 = .ok (.iload_n 2, 1) := by decide +kernel
theorem dJ7_fill_53178_6 : decode cJ7_fill_53178 6 = .ok (.iload_n 3, 1) := by decide +kernel
theorem dJ7_fill_53178_7 : decode cJ7_fill_53178 7 = .ok (.if_icmp .ge 13, 3) := by decide +kernel
theorem dJ7_fill_53178_10 : decode cJ7_fill_53178 10 = .ok (.aload_n 0, 1) := by decide +kernel
theorem dJ7_fill_53178_11 : decode cJ7_fill_53178 11 = .ok (.iload_n 2, 1) := by decide +kernel
theorem dJ7_fill_53178_12 : decode cJ7_fill_53178 12 = .ok (.iload_n 1, 1) := by decide +kernel
theorem dJ7_fill_53178_13 : decode cJ7_fill_53178 13 = .ok (.iastore, 1) := by decide +kernel
theorem dJ7_fill_53178_14 : decode cJ7_fill_53178 14 = .ok (.iinc 2 1, 3) := by decide +kernel
theorem dJ7_fill_53178_17 : decode cJ7_fill_53178 17 = .ok (.goto (-12), 3) := by decide +kernel
theorem dJ7_fill_53178_20 : decode cJ7_fill_53178 20 = .ok (.return_, 1) := by decide +kernel
theorem dJ3_checkIndex_8e157_0 : decode cJ3_checkIndex_8e157 0 = .ok (.iload_n 0, 1) := by decide +kernel
theorem dJ3_checkIndex_8e157_1 : decode cJ3_checkIndex_8e157 1 = .ok (.ifCond .lt 8, 3) := by decide +kernel
theorem dJ3_checkIndex_8e157_4 : decode cJ3_checkIndex_8e157 4 = .ok (.iload_n 0, 1) := by decide +kernel
theorem dJ3_checkIndex_8e157_5 : decode cJ3_checkIndex_8e157 5 = .ok (.iload_n 1, 1) := by decide +kernel
theorem dJ3_checkIndex_8e157_6 : decode cJ3_checkIndex_8e157 6 = .ok (.if_icmp .lt 10, 3) := by decide +kernel
theorem dJ3_checkIndex_8e157_9 : decode cJ3_checkIndex_8e157 9 = .ok (.aload_n 2, 1) := by decide +kernel
theorem dJ3_checkIndex_8e157_10 : decode cJ3_checkIndex_8e157 10 = .ok (.iload_n 0, 1) := by decide +kernel
theorem dJ3_checkIndex_8e157_11 : decode cJ3_checkIndex_8e157 11 = .ok (.iload_n 1, 1) := by decide +kernel
theorem dJ3_checkIndex_8e157_12 : decode cJ3_checkIndex_8e157 12 = .ok (.invokestatic 95, 3) := by decide +kernel
theorem dJ3_checkIndex_8e157_15 : decode cJ3_checkIndex_8e157 15 = .ok (.athrow, 1) := by decide +kernel
theorem dJ3_checkIndex_8e157_16 : decode cJ3_checkIndex_8e157 16 = .ok (.iload_n 0, 1) := by decide +kernel
theorem dJ3_checkIndex_8e157_17 : decode cJ3_checkIndex_8e157 17 = .ok (.ireturn, 1) := by decide +kernel
theorem dJ3_checkFromToIndex_8c36e_0 : decode cJ3_checkFromToIndex_8c36e 0 = .ok (.iload_n 0, 1) := by decide +kernel
theorem dJ3_checkFromToIndex_8c36e_1 : decode cJ3_checkFromToIndex_8c36e 1 = .ok (.ifCond .lt 13, 3) := by decide +kernel
theorem dJ3_checkFromToIndex_8c36e_4 : decode cJ3_checkFromToIndex_8c36e 4 = .ok (.iload_n 0, 1) := by decide +kernel
theorem dJ3_checkFromToIndex_8c36e_5 : decode cJ3_checkFromToIndex_8c36e 5 = .ok (.iload_n 1, 1) := by decide +kernel
theorem dJ3_checkFromToIndex_8c36e_6 : decode cJ3_checkFromToIndex_8c36e 6 = .ok (.if_icmp .gt 8, 3) := by decide +kernel
theorem dJ3_checkFromToIndex_8c36e_9 : decode cJ3_checkFromToIndex_8c36e 9 = .ok (.iload_n 1, 1) := by decide +kernel
theorem dJ3_checkFromToIndex_8c36e_10 : decode cJ3_checkFromToIndex_8c36e 10 = .ok (.iload_n 2, 1) := by decide +kernel
theorem dJ3_checkFromToIndex_8c36e_11 : decode cJ3_checkFromToIndex_8c36e 11 = .ok (.if_icmp .le 11, 3) := by decide +kernel
theorem dJ3_checkFromToIndex_8c36e_14 : decode cJ3_checkFromToIndex_8c36e 14 = .ok (.aload_n 3, 1) := by decide +kernel
theorem dJ3_checkFromToIndex_8c36e_15 : decode cJ3_checkFromToIndex_8c36e 15 = .ok (.iload_n 0, 1) := by decide +kernel
theorem dJ3_checkFromToIndex_8c36e_16 : decode cJ3_checkFromToIndex_8c36e 16 = .ok (.iload_n 1, 1) := by decide +kernel
theorem dJ3_checkFromToIndex_8c36e_17 : decode cJ3_checkFromToIndex_8c36e 17 = .ok (.iload_n 2, 1) := by decide +kernel
theorem dJ3_checkFromToIndex_8c36e_18 : decode cJ3_checkFromToIndex_8c36e 18 = .ok (.invokestatic 99, 3) := by decide +kernel
theorem dJ3_checkFromToIndex_8c36e_21 : decode cJ3_checkFromToIndex_8c36e 21 = .ok (.athrow, 1) := by decide +kernel
theorem dJ3_checkFromToIndex_8c36e_22 : decode cJ3_checkFromToIndex_8c36e 22 = .ok (.iload_n 0, 1) := by decide +kernel
theorem dJ3_checkFromToIndex_8c36e_23 : decode cJ3_checkFromToIndex_8c36e 23 = .ok (.ireturn, 1) := by decide +kernel
theorem dL_law_0 : decode cL_law 0 = .ok (.new 7, 3) := by decide +kernel
theorem dL_law_3 : decode cL_law 3 = .ok (.dup, 1) := by decide +kernel
theorem dL_law_4 : decode cL_law 4 = .ok (.invokespecial 9, 3) := by decide +kernel
theorem dL_law_7 : decode cL_law 7 = .ok (.astore_n 1, 1) := by decide +kernel
theorem dL_law_8 : decode cL_law 8 = .ok (.new 10, 3) := by decide +kernel
theorem dL_law_11 : decode cL_law 11 = .ok (.dup, 1) := by decide +kernel
theorem dL_law_12 : decode cL_law 12 = .ok (.invokespecial 12, 3) := by decide +kernel
theorem dL_law_15 : decode cL_law 15 = .ok (.astore_n 2, 1) := by decide +kernel
theorem dL_law_16 : decode cL_law 16 = .ok (.iconst 0, 1) := by decide +kernel
theorem dL_law_17 : decode cL_law 17 = .ok (.istore_n 3, 1) := by decide +kernel
theorem dL_law_18 : decode cL_law 18 = .ok (.iload_n 3, 1) := by decide +kernel
theorem dL_law_19 : decode cL_law 19 = .ok (.aload_n 0, 1) := by decide +kernel
theorem dL_law_20 : decode cL_law 20 = .ok (.arraylength, 1) := by decide +kernel
theorem dL_law_21 : decode cL_law 21 = .ok (.iconst 5, 1) := by decide +kernel
theorem dL_law_22 : decode cL_law 22 = .ok (.isub, 1) := by decide +kernel
theorem dL_law_23 : decode cL_law 23 = .ok (.if_icmp .gt 1167, 3) := by decide +kernel
theorem dL_law_26 : decode cL_law 26 = .ok (.aload_n 0, 1) := by decide +kernel
theorem dL_law_27 : decode cL_law 27 = .ok (.iload_n 3, 1) := by decide +kernel
theorem dL_law_28 : decode cL_law 28 = .ok (.iaload, 1) := by decide +kernel
theorem dL_law_29 : decode cL_law 29 = .ok (.bipush 31, 2) := by decide +kernel
theorem dL_law_31 : decode cL_law 31 = .ok (.iand, 1) := by decide +kernel
theorem dL_law_32 : decode cL_law 32 = .ok (.tableswitch 1152 0 30 #[140, 203, 226, 249, 298, 331, 394, 427, 440, 453, 477, 520, 543, 586, 619, 632, 665, 718, 741, 764, 807, 850, 893, 936, 959, 982, 1005, 1039, 1072, 1095, 1129], 140) := by decide +kernel
theorem dL_law_172 : decode cL_law 172 = .ok (.aload_n 1, 1) := by decide +kernel
theorem dL_law_173 : decode cL_law 173 = .ok (.aload_n 0, 1) := by decide +kernel
theorem dL_law_174 : decode cL_law 174 = .ok (.iload_n 3, 1) := by decide +kernel
theorem dL_law_175 : decode cL_law 175 = .ok (.iconst 1, 1) := by decide +kernel
theorem dL_law_176 : decode cL_law 176 = .ok (.iadd, 1) := by decide +kernel
theorem dL_law_177 : decode cL_law 177 = .ok (.iaload, 1) := by decide +kernel
theorem dL_law_178 : decode cL_law 178 = .ok (.i2l, 1) := by decide +kernel
theorem dL_law_179 : decode cL_law 179 = .ok (.bipush 32, 2) := by decide +kernel
theorem dL_law_181 : decode cL_law 181 = .ok (.lshl, 1) := by decide +kernel
theorem dL_law_182 : decode cL_law 182 = .ok (.aload_n 0, 1) := by decide +kernel
theorem dL_law_183 : decode cL_law 183 = .ok (.iload_n 3, 1) := by decide +kernel
theorem dL_law_184 : decode cL_law 184 = .ok (.iconst 2, 1) := by decide +kernel
theorem dL_law_185 : decode cL_law 185 = .ok (.iadd, 1) := by decide +kernel
theorem dL_law_186 : decode cL_law 186 = .ok (.iaload, 1) := by decide +kernel
theorem dL_law_187 : decode cL_law 187 = .ok (.i2l, 1) := by decide +kernel
theorem dL_law_188 : decode cL_law 188 = .ok (.ldc2_w 13, 3) := by decide +kernel
theorem dL_law_191 : decode cL_law 191 = .ok (.land, 1) := by decide +kernel
theorem dL_law_192 : decode cL_law 192 = .ok (.lor, 1) := by decide +kernel
theorem dL_law_193 : decode cL_law 193 = .ok (.aload_n 0, 1) := by decide +kernel
theorem dL_law_194 : decode cL_law 194 = .ok (.iload_n 3, 1) := by decide +kernel
theorem dL_law_195 : decode cL_law 195 = .ok (.iconst 3, 1) := by decide +kernel
theorem dL_law_196 : decode cL_law 196 = .ok (.iadd, 1) := by decide +kernel
theorem dL_law_197 : decode cL_law 197 = .ok (.iaload, 1) := by decide +kernel
theorem dL_law_198 : decode cL_law 198 = .ok (.invokevirtual 15, 3) := by decide +kernel
theorem dL_law_201 : decode cL_law 201 = .ok (.aload_n 2, 1) := by decide +kernel
theorem dL_law_202 : decode cL_law 202 = .ok (.aload_n 0, 1) := by decide +kernel
theorem dL_law_203 : decode cL_law 203 = .ok (.iload_n 3, 1) := by decide +kernel
theorem dL_law_204 : decode cL_law 204 = .ok (.iconst 1, 1) := by decide +kernel
theorem dL_law_205 : decode cL_law 205 = .ok (.iadd, 1) := by decide +kernel
theorem dL_law_206 : decode cL_law 206 = .ok (.iaload, 1) := by decide +kernel
theorem dL_law_207 : decode cL_law 207 = .ok (.i2l, 1) := by decide +kernel
theorem dL_law_208 : decode cL_law 208 = .ok (.bipush 32, 2) := by decide +kernel
theorem dL_law_210 : decode cL_law 210 = .ok (.lshl, 1) := by decide +kernel
theorem dL_law_211 : decode cL_law 211 = .ok (.aload_n 0, 1) := by decide +kernel
theorem dL_law_212 : decode cL_law 212 = .ok (.iload_n 3, 1) := by decide +kernel
theorem dL_law_213 : decode cL_law 213 = .ok (.iconst 2, 1) := by decide +kernel
theorem dL_law_214 : decode cL_law 214 = .ok (.iadd, 1) := by decide +kernel
theorem dL_law_215 : decode cL_law 215 = .ok (.iaload, 1) := by decide +kernel
theorem dL_law_216 : decode cL_law 216 = .ok (.i2l, 1) := by decide +kernel
theorem dL_law_217 : decode cL_law 217 = .ok (.ldc2_w 13, 3) := by decide +kernel
theorem dL_law_220 : decode cL_law 220 = .ok (.land, 1) := by decide +kernel
theorem dL_law_221 : decode cL_law 221 = .ok (.lor, 1) := by decide +kernel
theorem dL_law_222 : decode cL_law 222 = .ok (.aload_n 0, 1) := by decide +kernel
theorem dL_law_223 : decode cL_law 223 = .ok (.iload_n 3, 1) := by decide +kernel
theorem dL_law_224 : decode cL_law 224 = .ok (.iconst 3, 1) := by decide +kernel
theorem dL_law_225 : decode cL_law 225 = .ok (.iadd, 1) := by decide +kernel
theorem dL_law_226 : decode cL_law 226 = .ok (.iaload, 1) := by decide +kernel
theorem dL_law_227 : decode cL_law 227 = .ok (.invokevirtual 19, 3) := by decide +kernel
theorem dL_law_230 : decode cL_law 230 = .ok (.if_icmp .eq 954, 3) := by decide +kernel
theorem dL_law_233 : decode cL_law 233 = .ok (.iconst 0, 1) := by decide +kernel
theorem dL_law_234 : decode cL_law 234 = .ok (.ireturn, 1) := by decide +kernel
theorem dL_law_235 : decode cL_law 235 = .ok (.aload_n 1, 1) := by decide +kernel
theorem dL_law_236 : decode cL_law 236 = .ok (.aload_n 0, 1) := by decide +kernel
theorem dL_law_237 : decode cL_law 237 = .ok (.iload_n 3, 1) := by decide +kernel
theorem dL_law_238 : decode cL_law 238 = .ok (.iconst 1, 1) := by decide +kernel
theorem dL_law_239 : decode cL_law 239 = .ok (.iadd, 1) := by decide +kernel
theorem dL_law_240 : decode cL_law 240 = .ok (.iaload, 1) := by decide +kernel
theorem dL_law_241 : decode cL_law 241 = .ok (.invokevirtual 20, 3) := by decide +kernel
theorem dL_law_244 : decode cL_law 244 = .ok (.aload_n 2, 1) := by decide +kernel
theorem dL_law_245 : decode cL_law 245 = .ok (.aload_n 0, 1) := by decide +kernel
theorem dL_law_246 : decode cL_law 246 = .ok (.iload_n 3, 1) := by decide +kernel
theorem dL_law_247 : decode cL_law 247 = .ok (.iconst 1, 1) := by decide +kernel
theorem dL_law_248 : decode cL_law 248 = .ok (.iadd, 1) := by decide +kernel
theorem dL_law_249 : decode cL_law 249 = .ok (.iaload, 1) := by decide +kernel
theorem dL_law_250 : decode cL_law 250 = .ok (.invokevirtual 24, 3) := by decide +kernel
theorem dL_law_253 : decode cL_law 253 = .ok (.if_icmp .eq 931, 3) := by decide +kernel
theorem dL_law_256 : decode cL_law 256 = .ok (.iconst 0, 1) := by decide +kernel
theorem dL_law_257 : decode cL_law 257 = .ok (.ireturn, 1) := by decide +kernel
theorem dL_law_258 : decode cL_law 258 = .ok (.aload_n 1, 1) := by decide +kernel
theorem dL_law_259 : decode cL_law 259 = .ok (.aload_n 0, 1) := by decide +kernel
theorem dL_law_260 : decode cL_law 260 = .ok (.iload_n 3, 1) := by decide +kernel
theorem dL_law_261 : decode cL_law 261 = .ok (.iconst 1, 1) := by decide +kernel
theorem dL_law_262 : decode cL_law 262 = .ok (.iadd, 1) := by decide +kernel
theorem dL_law_263 : decode cL_law 263 = .ok (.iaload, 1) := by decide +kernel
theorem dL_law_264 : decode cL_law 264 = .ok (.invokevirtual 25, 3) := by decide +kernel
theorem dL_law_267 : decode cL_law 267 = .ok (.aload_n 2, 1) := by decide +kernel
theorem dL_law_268 : decode cL_law 268 = .ok (.aload_n 0, 1) := by decide +kernel
theorem dL_law_269 : decode cL_law 269 = .ok (.iload_n 3, 1) := by decide +kernel
theorem dL_law_270 : decode cL_law 270 = .ok (.iconst 1, 1) := by decide +kernel
theorem dL_law_271 : decode cL_law 271 = .ok (.iadd, 1) := by decide +kernel
theorem dL_law_272 : decode cL_law 272 = .ok (.iaload, 1) := by decide +kernel
theorem dL_law_273 : decode cL_law 273 = .ok (.invokevirtual 28, 3) := by decide +kernel
theorem dL_law_276 : decode cL_law 276 = .ok (.if_icmp .eq 908, 3) := by decide +kernel
theorem dL_law_279 : decode cL_law 279 = .ok (.iconst 0, 1) := by decide +kernel
theorem dL_law_280 : decode cL_law 280 = .ok (.ireturn, 1) := by decide +kernel
theorem dL_law_281 : decode cL_law 281 = .ok (.aload_n 1, 1) := by decide +kernel
theorem dL_law_282 : decode cL_law 282 = .ok (.aload_n 0, 1) := by decide +kernel
theorem dL_law_283 : decode cL_law 283 = .ok (.iload_n 3, 1) := by decide +kernel
theorem dL_law_284 : decode cL_law 284 = .ok (.iconst 1, 1) := by decide +kernel
theorem dL_law_285 : decode cL_law 285 = .ok (.iadd, 1) := by decide +kernel
theorem dL_law_286 : decode cL_law 286 = .ok (.iaload, 1) := by decide +kernel
theorem dL_law_287 : decode cL_law 287 = .ok (.ifCond .eq 7, 3) := by decide +kernel
theorem dL_law_290 : decode cL_law 290 = .ok (.iconst 1, 1) := by decide +kernel
theorem dL_law_291 : decode cL_law 291 = .ok (.goto 4, 3) := by decide +kernel
theorem dL_law_294 : decode cL_law 294 = .ok (.iconst 0, 1) := by decide +kernel
theorem dL_law_295 : decode cL_law 295 = .ok (.aload_n 0, 1) := by decide +kernel
theorem dL_law_296 : decode cL_law 296 = .ok (.iload_n 3, 1) := by decide +kernel
theorem dL_law_297 : decode cL_law 297 = .ok (.iconst 2, 1) := by decide +kernel
theorem dL_law_298 : decode cL_law 298 = .ok (.iadd, 1) := by decide +kernel
theorem dL_law_299 : decode cL_law 299 = .ok (.iaload, 1) := by decide +kernel
theorem dL_law_300 : decode cL_law 300 = .ok (.invokevirtual 29, 3) := by decide +kernel
theorem dL_law_303 : decode cL_law 303 = .ok (.aload_n 2, 1) := by decide +kernel
theorem dL_law_304 : decode cL_law 304 = .ok (.aload_n 0, 1) := by decide +kernel
theorem dL_law_305 : decode cL_law 305 = .ok (.iload_n 3, 1) := by decide +kernel
theorem dL_law_306 : decode cL_law 306 = .ok (.iconst 1, 1) := by decide +kernel
theorem dL_law_307 : decode cL_law 307 = .ok (.iadd, 1) := by decide +kernel
theorem dL_law_308 : decode cL_law 308 = .ok (.iaload, 1) := by decide +kernel
theorem dL_law_309 : decode cL_law 309 = .ok (.ifCond .eq 7, 3) := by decide +kernel
theorem dL_law_312 : decode cL_law 312 = .ok (.iconst 1, 1) := by decide +kernel
theorem dL_law_313 : decode cL_law 313 = .ok (.goto 4, 3) := by decide +kernel
theorem dL_law_316 : decode cL_law 316 = .ok (.iconst 0, 1) := by decide +kernel
theorem dL_law_317 : decode cL_law 317 = .ok (.aload_n 0, 1) := by decide +kernel
theorem dL_law_318 : decode cL_law 318 = .ok (.iload_n 3, 1) := by decide +kernel
theorem dL_law_319 : decode cL_law 319 = .ok (.iconst 2, 1) := by decide +kernel
theorem dL_law_320 : decode cL_law 320 = .ok (.iadd, 1) := by decide +kernel
theorem dL_law_321 : decode cL_law 321 = .ok (.iaload, 1) := by decide +kernel
theorem dL_law_322 : decode cL_law 322 = .ok (.invokevirtual 33, 3) := by decide +kernel
theorem dL_law_325 : decode cL_law 325 = .ok (.if_icmp .eq 859, 3) := by decide +kernel
theorem dL_law_328 : decode cL_law 328 = .ok (.iconst 0, 1) := by decide +kernel
theorem dL_law_329 : decode cL_law 329 = .ok (.ireturn, 1) := by decide +kernel
theorem dL_law_330 : decode cL_law 330 = .ok (.aload_n 1, 1) := by decide +kernel
theorem dL_law_331 : decode cL_law 331 = .ok (.aload_n 0, 1) := by decide +kernel
theorem dL_law_332 : decode cL_law 332 = .ok (.iload_n 3, 1) := by decide +kernel
theorem dL_law_333 : decode cL_law 333 = .ok (.iconst 1, 1) := by decide +kernel
theorem dL_law_334 : decode cL_law 334 = .ok (.iadd, 1) := by decide +kernel
theorem dL_law_335 : decode cL_law 335 = .ok (.iaload, 1) := by decide +kernel
theorem dL_law_336 : decode cL_law 336 = .ok (.aload_n 0, 1) := by decide +kernel
theorem dL_law_337 : decode cL_law 337 = .ok (.iload_n 3, 1) := by decide +kernel
theorem dL_law_338 : decode cL_law 338 = .ok (.iconst 2, 1) := by decide +kernel
theorem dL_law_339 : decode cL_law 339 = .ok (.iadd, 1) := by decide +kernel
theorem dL_law_340 : decode cL_law 340 = .ok (.iaload, 1) := by decide +kernel
theorem dL_law_341 : decode cL_law 341 = .ok (.invokevirtual 34, 3) := by decide +kernel
theorem dL_law_344 : decode cL_law 344 = .ok (.aload_n 2, 1) := by decide +kernel
theorem dL_law_345 : decode cL_law 345 = .ok (.aload_n 0, 1) := by decide +kernel
theorem dL_law_346 : decode cL_law 346 = .ok (.iload_n 3, 1) := by decide +kernel
theorem dL_law_347 : decode cL_law 347 = .ok (.iconst 1, 1) := by decide +kernel
theorem dL_law_348 : decode cL_law 348 = .ok (.iadd, 1) := by decide +kernel
theorem dL_law_349 : decode cL_law 349 = .ok (.iaload, 1) := by decide +kernel
theorem dL_law_350 : decode cL_law 350 = .ok (.aload_n 0, 1) := by decide +kernel
theorem dL_law_351 : decode cL_law 351 = .ok (.iload_n 3, 1) := by decide +kernel
theorem dL_law_352 : decode cL_law 352 = .ok (.iconst 2, 1) := by decide +kernel
theorem dL_law_353 : decode cL_law 353 = .ok (.iadd, 1) := by decide +kernel
theorem dL_law_354 : decode cL_law 354 = .ok (.iaload, 1) := by decide +kernel
theorem dL_law_355 : decode cL_law 355 = .ok (.invokevirtual 38, 3) := by decide +kernel
theorem dL_law_358 : decode cL_law 358 = .ok (.if_icmp .eq 826, 3) := by decide +kernel
theorem dL_law_361 : decode cL_law 361 = .ok (.iconst 0, 1) := by decide +kernel
theorem dL_law_362 : decode cL_law 362 = .ok (.ireturn, 1) := by decide +kernel
theorem dL_law_363 : decode cL_law 363 = .ok (.aload_n 1, 1) := by decide +kernel
theorem dL_law_364 : decode cL_law 364 = .ok (.aload_n 0, 1) := by decide +kernel
theorem dL_law_365 : decode cL_law 365 = .ok (.iload_n 3, 1) := by decide +kernel
theorem dL_law_366 : decode cL_law 366 = .ok (.iconst 1, 1) := by decide +kernel
theorem dL_law_367 : decode cL_law 367 = .ok (.iadd, 1) := by decide +kernel
theorem dL_law_368 : decode cL_law 368 = .ok (.iaload, 1) := by decide +kernel
theorem dL_law_369 : decode cL_law 369 = .ok (.aload_n 0, 1) := by decide +kernel
theorem dL_law_370 : decode cL_law 370 = .ok (.iload_n 3, 1) := by decide +kernel
theorem dL_law_371 : decode cL_law 371 = .ok (.iconst 2, 1) := by decide +kernel
theorem dL_law_372 : decode cL_law 372 = .ok (.iadd, 1) := by decide +kernel
theorem dL_law_373 : decode cL_law 373 = .ok (.iaload, 1) := by decide +kernel
theorem dL_law_374 : decode cL_law 374 = .ok (.i2l, 1) := by decide +kernel
theorem dL_law_375 : decode cL_law 375 = .ok (.bipush 32, 2) := by decide +kernel
theorem dL_law_377 : decode cL_law 377 = .ok (.lshl, 1) := by decide +kernel
theorem dL_law_378 : decode cL_law 378 = .ok (.aload_n 0, 1) := by decide +kernel
theorem dL_law_379 : decode cL_law 379 = .ok (.iload_n 3, 1) := by decide +kernel
theorem dL_law_380 : decode cL_law 380 = .ok (.iconst 3, 1) := by decide +kernel
theorem dL_law_381 : decode cL_law 381 = .ok (.iadd, 1) := by decide +kernel
theorem dL_law_382 : decode cL_law 382 = .ok (.iaload, 1) := by decide +kernel
theorem dL_law_383 : decode cL_law 383 = .ok (.i2l, 1) := by decide +kernel
theorem dL_law_384 : decode cL_law 384 = .ok (.ldc2_w 13, 3) := by decide +kernel
theorem dL_law_387 : decode cL_law 387 = .ok (.land, 1) := by decide +kernel
theorem dL_law_388 : decode cL_law 388 = .ok (.lor, 1) := by decide +kernel
theorem dL_law_389 : decode cL_law 389 = .ok (.invokevirtual 39, 3) := by decide +kernel
theorem dL_law_392 : decode cL_law 392 = .ok (.aload_n 2, 1) := by decide +kernel
theorem dL_law_393 : decode cL_law 393 = .ok (.aload_n 0, 1) := by decide +kernel
theorem dL_law_394 : decode cL_law 394 = .ok (.iload_n 3, 1) := by decide +kernel
theorem dL_law_395 : decode cL_law 395 = .ok (.iconst 1, 1) := by decide +kernel
theorem dL_law_396 : decode cL_law 396 = .ok (.iadd, 1) := by decide +kernel
theorem dL_law_397 : decode cL_law 397 = .ok (.iaload, 1) := by decide +kernel
theorem dL_law_398 : decode cL_law 398 = .ok (.aload_n 0, 1) := by decide +kernel
theorem dL_law_399 : decode cL_law 399 = .ok (.iload_n 3, 1) := by decide +kernel
theorem dL_law_400 : decode cL_law 400 = .ok (.iconst 2, 1) := by decide +kernel
theorem dL_law_401 : decode cL_law 401 = .ok (.iadd, 1) := by decide +kernel
theorem dL_law_402 : decode cL_law 402 = .ok (.iaload, 1) := by decide +kernel
theorem dL_law_403 : decode cL_law 403 = .ok (.i2l, 1) := by decide +kernel
theorem dL_law_404 : decode cL_law 404 = .ok (.bipush 32, 2) := by decide +kernel
theorem dL_law_406 : decode cL_law 406 = .ok (.lshl, 1) := by decide +kernel
theorem dL_law_407 : decode cL_law 407 = .ok (.aload_n 0, 1) := by decide +kernel
theorem dL_law_408 : decode cL_law 408 = .ok (.iload_n 3, 1) := by decide +kernel
theorem dL_law_409 : decode cL_law 409 = .ok (.iconst 3, 1) := by decide +kernel
theorem dL_law_410 : decode cL_law 410 = .ok (.iadd, 1) := by decide +kernel
theorem dL_law_411 : decode cL_law 411 = .ok (.iaload, 1) := by decide +kernel
theorem dL_law_412 : decode cL_law 412 = .ok (.i2l, 1) := by decide +kernel
theorem dL_law_413 : decode cL_law 413 = .ok (.ldc2_w 13, 3) := by decide +kernel
theorem dL_law_416 : decode cL_law 416 = .ok (.land, 1) := by decide +kernel
theorem dL_law_417 : decode cL_law 417 = .ok (.lor, 1) := by decide +kernel
theorem dL_law_418 : decode cL_law 418 = .ok (.invokevirtual 43, 3) := by decide +kernel
theorem dL_law_421 : decode cL_law 421 = .ok (.if_icmp .eq 763, 3) := by decide +kernel
theorem dL_law_424 : decode cL_law 424 = .ok (.iconst 0, 1) := by decide +kernel
theorem dL_law_425 : decode cL_law 425 = .ok (.ireturn, 1) := by decide +kernel
theorem dL_law_426 : decode cL_law 426 = .ok (.aload_n 1, 1) := by decide +kernel
theorem dL_law_427 : decode cL_law 427 = .ok (.aload_n 0, 1) := by decide +kernel
theorem dL_law_428 : decode cL_law 428 = .ok (.iload_n 3, 1) := by decide +kernel
theorem dL_law_429 : decode cL_law 429 = .ok (.iconst 1, 1) := by decide +kernel
theorem dL_law_430 : decode cL_law 430 = .ok (.iadd, 1) := by decide +kernel
theorem dL_law_431 : decode cL_law 431 = .ok (.iaload, 1) := by decide +kernel
theorem dL_law_432 : decode cL_law 432 = .ok (.aload_n 0, 1) := by decide +kernel
theorem dL_law_433 : decode cL_law 433 = .ok (.iload_n 3, 1) := by decide +kernel
theorem dL_law_434 : decode cL_law 434 = .ok (.iconst 2, 1) := by decide +kernel
theorem dL_law_435 : decode cL_law 435 = .ok (.iadd, 1) := by decide +kernel
theorem dL_law_436 : decode cL_law 436 = .ok (.iaload, 1) := by decide +kernel
theorem dL_law_437 : decode cL_law 437 = .ok (.invokevirtual 44, 3) := by decide +kernel
theorem dL_law_440 : decode cL_law 440 = .ok (.aload_n 2, 1) := by decide +kernel
theorem dL_law_441 : decode cL_law 441 = .ok (.aload_n 0, 1) := by decide +kernel
theorem dL_law_442 : decode cL_law 442 = .ok (.iload_n 3, 1) := by decide +kernel
theorem dL_law_443 : decode cL_law 443 = .ok (.iconst 1, 1) := by decide +kernel
theorem dL_law_444 : decode cL_law 444 = .ok (.iadd, 1) := by decide +kernel
theorem dL_law_445 : decode cL_law 445 = .ok (.iaload, 1) := by decide +kernel
theorem dL_law_446 : decode cL_law 446 = .ok (.aload_n 0, 1) := by decide +kernel
theorem dL_law_447 : decode cL_law 447 = .ok (.iload_n 3, 1) := by decide +kernel
theorem dL_law_448 : decode cL_law 448 = .ok (.iconst 2, 1) := by decide +kernel
theorem dL_law_449 : decode cL_law 449 = .ok (.iadd, 1) := by decide +kernel
theorem dL_law_450 : decode cL_law 450 = .ok (.iaload, 1) := by decide +kernel
theorem dL_law_451 : decode cL_law 451 = .ok (.invokevirtual 47, 3) := by decide +kernel
theorem dL_law_454 : decode cL_law 454 = .ok (.if_icmp .eq 730, 3) := by decide +kernel
theorem dL_law_457 : decode cL_law 457 = .ok (.iconst 0, 1) := by decide +kernel
theorem dL_law_458 : decode cL_law 458 = .ok (.ireturn, 1) := by decide +kernel
theorem dL_law_459 : decode cL_law 459 = .ok (.aload_n 1, 1) := by decide +kernel
theorem dL_law_460 : decode cL_law 460 = .ok (.invokevirtual 48, 3) := by decide +kernel
theorem dL_law_463 : decode cL_law 463 = .ok (.aload_n 2, 1) := by decide +kernel
theorem dL_law_464 : decode cL_law 464 = .ok (.invokevirtual 52, 3) := by decide +kernel
theorem dL_law_467 : decode cL_law 467 = .ok (.if_icmp .eq 717, 3) := by decide +kernel
theorem dL_law_470 : decode cL_law 470 = .ok (.iconst 0, 1) := by decide +kernel
theorem dL_law_471 : decode cL_law 471 = .ok (.ireturn, 1) := by decide +kernel
theorem dL_law_472 : decode cL_law 472 = .ok (.aload_n 1, 1) := by decide +kernel
theorem dL_law_473 : decode cL_law 473 = .ok (.invokevirtual 53, 3) := by decide +kernel
theorem dL_law_476 : decode cL_law 476 = .ok (.aload_n 2, 1) := by decide +kernel
theorem dL_law_477 : decode cL_law 477 = .ok (.invokevirtual 56, 3) := by decide +kernel
theorem dL_law_480 : decode cL_law 480 = .ok (.if_icmp .eq 704, 3) := by decide +kernel
theorem dL_law_483 : decode cL_law 483 = .ok (.iconst 0, 1) := by decide +kernel
theorem dL_law_484 : decode cL_law 484 = .ok (.ireturn, 1) := by decide +kernel
theorem dL_law_485 : decode cL_law 485 = .ok (.aload_n 1, 1) := by decide +kernel
theorem dL_law_486 : decode cL_law 486 = .ok (.aload_n 0, 1) := by decide +kernel
theorem dL_law_487 : decode cL_law 487 = .ok (.iload_n 3, 1) := by decide +kernel
theorem dL_law_488 : decode cL_law 488 = .ok (.iconst 1, 1) := by decide +kernel
theorem dL_law_489 : decode cL_law 489 = .ok (.iadd, 1) := by decide +kernel
theorem dL_law_490 : decode cL_law 490 = .ok (.iaload, 1) := by decide +kernel
theorem dL_law_491 : decode cL_law 491 = .ok (.invokevirtual 57, 3) := by decide +kernel
theorem dL_law_494 : decode cL_law 494 = .ok (.aload_n 2, 1) := by decide +kernel
theorem dL_law_495 : decode cL_law 495 = .ok (.aload_n 0, 1) := by decide +kernel
theorem dL_law_496 : decode cL_law 496 = .ok (.iload_n 3, 1) := by decide +kernel
theorem dL_law_497 : decode cL_law 497 = .ok (.iconst 1, 1) := by decide +kernel
theorem dL_law_498 : decode cL_law 498 = .ok (.iadd, 1) := by decide +kernel
theorem dL_law_499 : decode cL_law 499 = .ok (.iaload, 1) := by decide +kernel
theorem dL_law_500 : decode cL_law 500 = .ok (.invokevirtual 61, 3) := by decide +kernel
theorem dL_law_503 : decode cL_law 503 = .ok (.lcmp, 1) := by decide +kernel
theorem dL_law_504 : decode cL_law 504 = .ok (.ifCond .eq 680, 3) := by decide +kernel
theorem dL_law_507 : decode cL_law 507 = .ok (.iconst 0, 1) := by decide +kernel
theorem dL_law_508 : decode cL_law 508 = .ok (.ireturn, 1) := by decide +kernel
theorem dL_law_509 : decode cL_law 509 = .ok (.aload_n 1, 1) := by decide +kernel
theorem dL_law_510 : decode cL_law 510 = .ok (.aload_n 0, 1) := by decide +kernel
theorem dL_law_511 : decode cL_law 511 = .ok (.iload_n 3, 1) := by decide +kernel
theorem dL_law_512 : decode cL_law 512 = .ok (.iconst 1, 1) := by decide +kernel
theorem dL_law_513 : decode cL_law 513 = .ok (.iadd, 1) := by decide +kernel
theorem dL_law_514 : decode cL_law 514 = .ok (.iaload, 1) := by decide +kernel
theorem dL_law_515 : decode cL_law 515 = .ok (.aload_n 0, 1) := by decide +kernel
theorem dL_law_516 : decode cL_law 516 = .ok (.iload_n 3, 1) := by decide +kernel
theorem dL_law_517 : decode cL_law 517 = .ok (.iconst 2, 1) := by decide +kernel
theorem dL_law_518 : decode cL_law 518 = .ok (.iadd, 1) := by decide +kernel
theorem dL_law_519 : decode cL_law 519 = .ok (.iaload, 1) := by decide +kernel
theorem dL_law_520 : decode cL_law 520 = .ok (.aload_n 0, 1) := by decide +kernel
theorem dL_law_521 : decode cL_law 521 = .ok (.iload_n 3, 1) := by decide +kernel
theorem dL_law_522 : decode cL_law 522 = .ok (.iconst 3, 1) := by decide +kernel
theorem dL_law_523 : decode cL_law 523 = .ok (.iadd, 1) := by decide +kernel
theorem dL_law_524 : decode cL_law 524 = .ok (.iaload, 1) := by decide +kernel
theorem dL_law_525 : decode cL_law 525 = .ok (.invokevirtual 62, 3) := by decide +kernel
theorem dL_law_528 : decode cL_law 528 = .ok (.aload_n 2, 1) := by decide +kernel
theorem dL_law_529 : decode cL_law 529 = .ok (.aload_n 0, 1) := by decide +kernel
theorem dL_law_530 : decode cL_law 530 = .ok (.iload_n 3, 1) := by decide +kernel
theorem dL_law_531 : decode cL_law 531 = .ok (.iconst 1, 1) := by decide +kernel
theorem dL_law_532 : decode cL_law 532 = .ok (.iadd, 1) := by decide +kernel
theorem dL_law_533 : decode cL_law 533 = .ok (.iaload, 1) := by decide +kernel
theorem dL_law_534 : decode cL_law 534 = .ok (.aload_n 0, 1) := by decide +kernel
theorem dL_law_535 : decode cL_law 535 = .ok (.iload_n 3, 1) := by decide +kernel
theorem dL_law_536 : decode cL_law 536 = .ok (.iconst 2, 1) := by decide +kernel
theorem dL_law_537 : decode cL_law 537 = .ok (.iadd, 1) := by decide +kernel
theorem dL_law_538 : decode cL_law 538 = .ok (.iaload, 1) := by decide +kernel
theorem dL_law_539 : decode cL_law 539 = .ok (.aload_n 0, 1) := by decide +kernel
theorem dL_law_540 : decode cL_law 540 = .ok (.iload_n 3, 1) := by decide +kernel
theorem dL_law_541 : decode cL_law 541 = .ok (.iconst 3, 1) := by decide +kernel
theorem dL_law_542 : decode cL_law 542 = .ok (.iadd, 1) := by decide +kernel
theorem dL_law_543 : decode cL_law 543 = .ok (.iaload, 1) := by decide +kernel
theorem dL_law_544 : decode cL_law 544 = .ok (.invokevirtual 66, 3) := by decide +kernel
theorem dL_law_547 : decode cL_law 547 = .ok (.if_icmp .eq 637, 3) := by decide +kernel
theorem dL_law_550 : decode cL_law 550 = .ok (.iconst 0, 1) := by decide +kernel
theorem dL_law_551 : decode cL_law 551 = .ok (.ireturn, 1) := by decide +kernel
theorem dL_law_552 : decode cL_law 552 = .ok (.aload_n 1, 1) := by decide +kernel
theorem dL_law_553 : decode cL_law 553 = .ok (.aload_n 0, 1) := by decide +kernel
theorem dL_law_554 : decode cL_law 554 = .ok (.iload_n 3, 1) := by decide +kernel
theorem dL_law_555 : decode cL_law 555 = .ok (.iconst 1, 1) := by decide +kernel
theorem dL_law_556 : decode cL_law 556 = .ok (.iadd, 1) := by decide +kernel
theorem dL_law_557 : decode cL_law 557 = .ok (.iaload, 1) := by decide +kernel
theorem dL_law_558 : decode cL_law 558 = .ok (.invokevirtual 67, 3) := by decide +kernel
theorem dL_law_561 : decode cL_law 561 = .ok (.aload_n 2, 1) := by decide +kernel
theorem dL_law_562 : decode cL_law 562 = .ok (.aload_n 0, 1) := by decide +kernel
theorem dL_law_563 : decode cL_law 563 = .ok (.iload_n 3, 1) := by decide +kernel
theorem dL_law_564 : decode cL_law 564 = .ok (.iconst 1, 1) := by decide +kernel
theorem dL_law_565 : decode cL_law 565 = .ok (.iadd, 1) := by decide +kernel
theorem dL_law_566 : decode cL_law 566 = .ok (.iaload, 1) := by decide +kernel
theorem dL_law_567 : decode cL_law 567 = .ok (.invokevirtual 70, 3) := by decide +kernel
theorem dL_law_570 : decode cL_law 570 = .ok (.if_icmp .eq 614, 3) := by decide +kernel
theorem dL_law_573 : decode cL_law 573 = .ok (.iconst 0, 1) := by decide +kernel
theorem dL_law_574 : decode cL_law 574 = .ok (.ireturn, 1) := by decide +kernel
theorem dL_law_575 : decode cL_law 575 = .ok (.aload_n 1, 1) := by decide +kernel
theorem dL_law_576 : decode cL_law 576 = .ok (.aload_n 0, 1) := by decide +kernel
theorem dL_law_577 : decode cL_law 577 = .ok (.iload_n 3, 1) := by decide +kernel
theorem dL_law_578 : decode cL_law 578 = .ok (.iconst 1, 1) := by decide +kernel
theorem dL_law_579 : decode cL_law 579 = .ok (.iadd, 1) := by decide +kernel
theorem dL_law_580 : decode cL_law 580 = .ok (.iaload, 1) := by decide +kernel
theorem dL_law_581 : decode cL_law 581 = .ok (.aload_n 0, 1) := by decide +kernel
theorem dL_law_582 : decode cL_law 582 = .ok (.iload_n 3, 1) := by decide +kernel
theorem dL_law_583 : decode cL_law 583 = .ok (.iconst 2, 1) := by decide +kernel
theorem dL_law_584 : decode cL_law 584 = .ok (.iadd, 1) := by decide +kernel
theorem dL_law_585 : decode cL_law 585 = .ok (.iaload, 1) := by decide +kernel
theorem dL_law_586 : decode cL_law 586 = .ok (.aload_n 0, 1) := by decide +kernel
theorem dL_law_587 : decode cL_law 587 = .ok (.iload_n 3, 1) := by decide +kernel
theorem dL_law_588 : decode cL_law 588 = .ok (.iconst 3, 1) := by decide +kernel
theorem dL_law_589 : decode cL_law 589 = .ok (.iadd, 1) := by decide +kernel
theorem dL_law_590 : decode cL_law 590 = .ok (.iaload, 1) := by decide +kernel
theorem dL_law_591 : decode cL_law 591 = .ok (.invokevirtual 71, 3) := by decide +kernel
theorem dL_law_594 : decode cL_law 594 = .ok (.aload_n 2, 1) := by decide +kernel
theorem dL_law_595 : decode cL_law 595 = .ok (.aload_n 0, 1) := by decide +kernel
theorem dL_law_596 : decode cL_law 596 = .ok (.iload_n 3, 1) := by decide +kernel
theorem dL_law_597 : decode cL_law 597 = .ok (.iconst 1, 1) := by decide +kernel
theorem dL_law_598 : decode cL_law 598 = .ok (.iadd, 1) := by decide +kernel
theorem dL_law_599 : decode cL_law 599 = .ok (.iaload, 1) := by decide +kernel
theorem dL_law_600 : decode cL_law 600 = .ok (.aload_n 0, 1) := by decide +kernel
theorem dL_law_601 : decode cL_law 601 = .ok (.iload_n 3, 1) := by decide +kernel
theorem dL_law_602 : decode cL_law 602 = .ok (.iconst 2, 1) := by decide +kernel
theorem dL_law_603 : decode cL_law 603 = .ok (.iadd, 1) := by decide +kernel
theorem dL_law_604 : decode cL_law 604 = .ok (.iaload, 1) := by decide +kernel
theorem dL_law_605 : decode cL_law 605 = .ok (.aload_n 0, 1) := by decide +kernel
theorem dL_law_606 : decode cL_law 606 = .ok (.iload_n 3, 1) := by decide +kernel
theorem dL_law_607 : decode cL_law 607 = .ok (.iconst 3, 1) := by decide +kernel
theorem dL_law_608 : decode cL_law 608 = .ok (.iadd, 1) := by decide +kernel
theorem dL_law_609 : decode cL_law 609 = .ok (.iaload, 1) := by decide +kernel
theorem dL_law_610 : decode cL_law 610 = .ok (.invokevirtual 74, 3) := by decide +kernel
theorem dL_law_613 : decode cL_law 613 = .ok (.if_icmp .eq 571, 3) := by decide +kernel
theorem dL_law_616 : decode cL_law 616 = .ok (.iconst 0, 1) := by decide +kernel
theorem dL_law_617 : decode cL_law 617 = .ok (.ireturn, 1) := by decide +kernel
theorem dL_law_618 : decode cL_law 618 = .ok (.aload_n 1, 1) := by decide +kernel
theorem dL_law_619 : decode cL_law 619 = .ok (.aload_n 0, 1) := by decide +kernel
theorem dL_law_620 : decode cL_law 620 = .ok (.iload_n 3, 1) := by decide +kernel
theorem dL_law_621 : decode cL_law 621 = .ok (.iconst 1, 1) := by decide +kernel
theorem dL_law_622 : decode cL_law 622 = .ok (.iadd, 1) := by decide +kernel
theorem dL_law_623 : decode cL_law 623 = .ok (.iaload, 1) := by decide +kernel
theorem dL_law_624 : decode cL_law 624 = .ok (.aload_n 0, 1) := by decide +kernel
theorem dL_law_625 : decode cL_law 625 = .ok (.iload_n 3, 1) := by decide +kernel
theorem dL_law_626 : decode cL_law 626 = .ok (.iconst 2, 1) := by decide +kernel
theorem dL_law_627 : decode cL_law 627 = .ok (.iadd, 1) := by decide +kernel
theorem dL_law_628 : decode cL_law 628 = .ok (.iaload, 1) := by decide +kernel
theorem dL_law_629 : decode cL_law 629 = .ok (.invokevirtual 75, 3) := by decide +kernel
theorem dL_law_632 : decode cL_law 632 = .ok (.aload_n 2, 1) := by decide +kernel
theorem dL_law_633 : decode cL_law 633 = .ok (.aload_n 0, 1) := by decide +kernel
theorem dL_law_634 : decode cL_law 634 = .ok (.iload_n 3, 1) := by decide +kernel
theorem dL_law_635 : decode cL_law 635 = .ok (.iconst 1, 1) := by decide +kernel
theorem dL_law_636 : decode cL_law 636 = .ok (.iadd, 1) := by decide +kernel
theorem dL_law_637 : decode cL_law 637 = .ok (.iaload, 1) := by decide +kernel
theorem dL_law_638 : decode cL_law 638 = .ok (.aload_n 0, 1) := by decide +kernel
theorem dL_law_639 : decode cL_law 639 = .ok (.iload_n 3, 1) := by decide +kernel
theorem dL_law_640 : decode cL_law 640 = .ok (.iconst 2, 1) := by decide +kernel
theorem dL_law_641 : decode cL_law 641 = .ok (.iadd, 1) := by decide +kernel
theorem dL_law_642 : decode cL_law 642 = .ok (.iaload, 1) := by decide +kernel
theorem dL_law_643 : decode cL_law 643 = .ok (.invokevirtual 78, 3) := by decide +kernel
theorem dL_law_646 : decode cL_law 646 = .ok (.if_icmp .eq 538, 3) := by decide +kernel
theorem dL_law_649 : decode cL_law 649 = .ok (.iconst 0, 1) := by decide +kernel
theorem dL_law_650 : decode cL_law 650 = .ok (.ireturn, 1) := by decide +kernel
theorem dL_law_651 : decode cL_law 651 = .ok (.aload_n 1, 1) := by decide +kernel
theorem dL_law_652 : decode cL_law 652 = .ok (.invokevirtual 79, 3) := by decide +kernel
theorem dL_law_655 : decode cL_law 655 = .ok (.aload_n 2, 1) := by decide +kernel
theorem dL_law_656 : decode cL_law 656 = .ok (.invokevirtual 82, 3) := by decide +kernel
theorem dL_law_659 : decode cL_law 659 = .ok (.if_icmp .eq 525, 3) := by decide +kernel
theorem dL_law_662 : decode cL_law 662 = .ok (.iconst 0, 1) := by decide +kernel
theorem dL_law_663 : decode cL_law 663 = .ok (.ireturn, 1) := by decide +kernel
theorem dL_law_664 : decode cL_law 664 = .ok (.aload_n 1, 1) := by decide +kernel
theorem dL_law_665 : decode cL_law 665 = .ok (.aload_n 0, 1) := by decide +kernel
theorem dL_law_666 : decode cL_law 666 = .ok (.iload_n 3, 1) := by decide +kernel
theorem dL_law_667 : decode cL_law 667 = .ok (.iconst 1, 1) := by decide +kernel
theorem dL_law_668 : decode cL_law 668 = .ok (.iadd, 1) := by decide +kernel
theorem dL_law_669 : decode cL_law 669 = .ok (.iaload, 1) := by decide +kernel
theorem dL_law_670 : decode cL_law 670 = .ok (.aload_n 0, 1) := by decide +kernel
theorem dL_law_671 : decode cL_law 671 = .ok (.iload_n 3, 1) := by decide +kernel
theorem dL_law_672 : decode cL_law 672 = .ok (.iconst 2, 1) := by decide +kernel
theorem dL_law_673 : decode cL_law 673 = .ok (.iadd, 1) := by decide +kernel
theorem dL_law_674 : decode cL_law 674 = .ok (.iaload, 1) := by decide +kernel
theorem dL_law_675 : decode cL_law 675 = .ok (.invokevirtual 83, 3) := by decide +kernel
theorem dL_law_678 : decode cL_law 678 = .ok (.aload_n 2, 1) := by decide +kernel
theorem dL_law_679 : decode cL_law 679 = .ok (.aload_n 0, 1) := by decide +kernel
theorem dL_law_680 : decode cL_law 680 = .ok (.iload_n 3, 1) := by decide +kernel
theorem dL_law_681 : decode cL_law 681 = .ok (.iconst 1, 1) := by decide +kernel
theorem dL_law_682 : decode cL_law 682 = .ok (.iadd, 1) := by decide +kernel
theorem dL_law_683 : decode cL_law 683 = .ok (.iaload, 1) := by decide +kernel
theorem dL_law_684 : decode cL_law 684 = .ok (.aload_n 0, 1) := by decide +kernel
theorem dL_law_685 : decode cL_law 685 = .ok (.iload_n 3, 1) := by decide +kernel
theorem dL_law_686 : decode cL_law 686 = .ok (.iconst 2, 1) := by decide +kernel
theorem dL_law_687 : decode cL_law 687 = .ok (.iadd, 1) := by decide +kernel
theorem dL_law_688 : decode cL_law 688 = .ok (.iaload, 1) := by decide +kernel
theorem dL_law_689 : decode cL_law 689 = .ok (.invokevirtual 86, 3) := by decide +kernel
theorem dL_law_692 : decode cL_law 692 = .ok (.if_icmp .eq 492, 3) := by decide +kernel
theorem dL_law_695 : decode cL_law 695 = .ok (.iconst 0, 1) := by decide +kernel
theorem dL_law_696 : decode cL_law 696 = .ok (.ireturn, 1) := by decide +kernel
theorem dL_law_697 : decode cL_law 697 = .ok (.aload_n 1, 1) := by decide +kernel
theorem dL_law_698 : decode cL_law 698 = .ok (.aload_n 0, 1) := by decide +kernel
theorem dL_law_699 : decode cL_law 699 = .ok (.iload_n 3, 1) := by decide +kernel
theorem dL_law_700 : decode cL_law 700 = .ok (.iconst 1, 1) := by decide +kernel
theorem dL_law_701 : decode cL_law 701 = .ok (.iadd, 1) := by decide +kernel
theorem dL_law_702 : decode cL_law 702 = .ok (.iaload, 1) := by decide +kernel
theorem dL_law_703 : decode cL_law 703 = .ok (.aload_n 0, 1) := by decide +kernel
theorem dL_law_704 : decode cL_law 704 = .ok (.iload_n 3, 1) := by decide +kernel
theorem dL_law_705 : decode cL_law 705 = .ok (.iconst 2, 1) := by decide +kernel
theorem dL_law_706 : decode cL_law 706 = .ok (.iadd, 1) := by decide +kernel
theorem dL_law_707 : decode cL_law 707 = .ok (.iaload, 1) := by decide +kernel
theorem dL_law_708 : decode cL_law 708 = .ok (.aload_n 0, 1) := by decide +kernel
theorem dL_law_709 : decode cL_law 709 = .ok (.iload_n 3, 1) := by decide +kernel
theorem dL_law_710 : decode cL_law 710 = .ok (.iconst 3, 1) := by decide +kernel
theorem dL_law_711 : decode cL_law 711 = .ok (.iadd, 1) := by decide +kernel
theorem dL_law_712 : decode cL_law 712 = .ok (.iaload, 1) := by decide +kernel
theorem dL_law_713 : decode cL_law 713 = .ok (.aload_n 0, 1) := by decide +kernel
theorem dL_law_714 : decode cL_law 714 = .ok (.iload_n 3, 1) := by decide +kernel
theorem dL_law_715 : decode cL_law 715 = .ok (.iconst 4, 1) := by decide +kernel
theorem dL_law_716 : decode cL_law 716 = .ok (.iadd, 1) := by decide +kernel
theorem dL_law_717 : decode cL_law 717 = .ok (.iaload, 1) := by decide +kernel
theorem dL_law_718 : decode cL_law 718 = .ok (.invokevirtual 87, 3) := by decide +kernel
theorem dL_law_721 : decode cL_law 721 = .ok (.aload_n 2, 1) := by decide +kernel
theorem dL_law_722 : decode cL_law 722 = .ok (.aload_n 0, 1) := by decide +kernel
theorem dL_law_723 : decode cL_law 723 = .ok (.iload_n 3, 1) := by decide +kernel
theorem dL_law_724 : decode cL_law 724 = .ok (.iconst 1, 1) := by decide +kernel
theorem dL_law_725 : decode cL_law 725 = .ok (.iadd, 1) := by decide +kernel
theorem dL_law_726 : decode cL_law 726 = .ok (.iaload, 1) := by decide +kernel
theorem dL_law_727 : decode cL_law 727 = .ok (.aload_n 0, 1) := by decide +kernel
theorem dL_law_728 : decode cL_law 728 = .ok (.iload_n 3, 1) := by decide +kernel
theorem dL_law_729 : decode cL_law 729 = .ok (.iconst 2, 1) := by decide +kernel
theorem dL_law_730 : decode cL_law 730 = .ok (.iadd, 1) := by decide +kernel
theorem dL_law_731 : decode cL_law 731 = .ok (.iaload, 1) := by decide +kernel
theorem dL_law_732 : decode cL_law 732 = .ok (.aload_n 0, 1) := by decide +kernel
theorem dL_law_733 : decode cL_law 733 = .ok (.iload_n 3, 1) := by decide +kernel
theorem dL_law_734 : decode cL_law 734 = .ok (.iconst 3, 1) := by decide +kernel
theorem dL_law_735 : decode cL_law 735 = .ok (.iadd, 1) := by decide +kernel
theorem dL_law_736 : decode cL_law 736 = .ok (.iaload, 1) := by decide +kernel
theorem dL_law_737 : decode cL_law 737 = .ok (.aload_n 0, 1) := by decide +kernel
theorem dL_law_738 : decode cL_law 738 = .ok (.iload_n 3, 1) := by decide +kernel
theorem dL_law_739 : decode cL_law 739 = .ok (.iconst 4, 1) := by decide +kernel
theorem dL_law_740 : decode cL_law 740 = .ok (.iadd, 1) := by decide +kernel
theorem dL_law_741 : decode cL_law 741 = .ok (.iaload, 1) := by decide +kernel
theorem dL_law_742 : decode cL_law 742 = .ok (.invokevirtual 91, 3) := by decide +kernel
theorem dL_law_745 : decode cL_law 745 = .ok (.if_icmp .eq 439, 3) := by decide +kernel
theorem dL_law_748 : decode cL_law 748 = .ok (.iconst 0, 1) := by decide +kernel
theorem dL_law_749 : decode cL_law 749 = .ok (.ireturn, 1) := by decide +kernel
theorem dL_law_750 : decode cL_law 750 = .ok (.aload_n 1, 1) := by decide +kernel
theorem dL_law_751 : decode cL_law 751 = .ok (.aload_n 0, 1) := by decide +kernel
theorem dL_law_752 : decode cL_law 752 = .ok (.iload_n 3, 1) := by decide +kernel
theorem dL_law_753 : decode cL_law 753 = .ok (.iconst 1, 1) := by decide +kernel
theorem dL_law_754 : decode cL_law 754 = .ok (.iadd, 1) := by decide +kernel
theorem dL_law_755 : decode cL_law 755 = .ok (.iaload, 1) := by decide +kernel
theorem dL_law_756 : decode cL_law 756 = .ok (.invokevirtual 92, 3) := by decide +kernel
theorem dL_law_759 : decode cL_law 759 = .ok (.aload_n 2, 1) := by decide +kernel
theorem dL_law_760 : decode cL_law 760 = .ok (.aload_n 0, 1) := by decide +kernel
theorem dL_law_761 : decode cL_law 761 = .ok (.iload_n 3, 1) := by decide +kernel
theorem dL_law_762 : decode cL_law 762 = .ok (.iconst 1, 1) := by decide +kernel
theorem dL_law_763 : decode cL_law 763 = .ok (.iadd, 1) := by decide +kernel
theorem dL_law_764 : decode cL_law 764 = .ok (.iaload, 1) := by decide +kernel
theorem dL_law_765 : decode cL_law 765 = .ok (.invokevirtual 95, 3) := by decide +kernel
theorem dL_law_768 : decode cL_law 768 = .ok (.if_icmp .eq 416, 3) := by decide +kernel
theorem dL_law_771 : decode cL_law 771 = .ok (.iconst 0, 1) := by decide +kernel
theorem dL_law_772 : decode cL_law 772 = .ok (.ireturn, 1) := by decide +kernel
theorem dL_law_773 : decode cL_law 773 = .ok (.aload_n 1, 1) := by decide +kernel
theorem dL_law_774 : decode cL_law 774 = .ok (.aload_n 0, 1) := by decide +kernel
theorem dL_law_775 : decode cL_law 775 = .ok (.iload_n 3, 1) := by decide +kernel
theorem dL_law_776 : decode cL_law 776 = .ok (.iconst 1, 1) := by decide +kernel
theorem dL_law_777 : decode cL_law 777 = .ok (.iadd, 1) := by decide +kernel
theorem dL_law_778 : decode cL_law 778 = .ok (.iaload, 1) := by decide +kernel
theorem dL_law_779 : decode cL_law 779 = .ok (.invokevirtual 96, 3) := by decide +kernel
theorem dL_law_782 : decode cL_law 782 = .ok (.aload_n 2, 1) := by decide +kernel
theorem dL_law_783 : decode cL_law 783 = .ok (.aload_n 0, 1) := by decide +kernel
theorem dL_law_784 : decode cL_law 784 = .ok (.iload_n 3, 1) := by decide +kernel
theorem dL_law_785 : decode cL_law 785 = .ok (.iconst 1, 1) := by decide +kernel
theorem dL_law_786 : decode cL_law 786 = .ok (.iadd, 1) := by decide +kernel
theorem dL_law_787 : decode cL_law 787 = .ok (.iaload, 1) := by decide +kernel
theorem dL_law_788 : decode cL_law 788 = .ok (.invokevirtual 99, 3) := by decide +kernel
theorem dL_law_791 : decode cL_law 791 = .ok (.if_icmp .eq 393, 3) := by decide +kernel
theorem dL_law_794 : decode cL_law 794 = .ok (.iconst 0, 1) := by decide +kernel
theorem dL_law_795 : decode cL_law 795 = .ok (.ireturn, 1) := by decide +kernel
theorem dL_law_796 : decode cL_law 796 = .ok (.aload_n 1, 1) := by decide +kernel
theorem dL_law_797 : decode cL_law 797 = .ok (.aload_n 0, 1) := by decide +kernel
theorem dL_law_798 : decode cL_law 798 = .ok (.iload_n 3, 1) := by decide +kernel
theorem dL_law_799 : decode cL_law 799 = .ok (.iconst 1, 1) := by decide +kernel
theorem dL_law_800 : decode cL_law 800 = .ok (.iadd, 1) := by decide +kernel
theorem dL_law_801 : decode cL_law 801 = .ok (.iaload, 1) := by decide +kernel
theorem dL_law_802 : decode cL_law 802 = .ok (.aload_n 0, 1) := by decide +kernel
theorem dL_law_803 : decode cL_law 803 = .ok (.iload_n 3, 1) := by decide +kernel
theorem dL_law_804 : decode cL_law 804 = .ok (.iconst 2, 1) := by decide +kernel
theorem dL_law_805 : decode cL_law 805 = .ok (.iadd, 1) := by decide +kernel
theorem dL_law_806 : decode cL_law 806 = .ok (.iaload, 1) := by decide +kernel
theorem dL_law_807 : decode cL_law 807 = .ok (.aload_n 0, 1) := by decide +kernel
theorem dL_law_808 : decode cL_law 808 = .ok (.iload_n 3, 1) := by decide +kernel
theorem dL_law_809 : decode cL_law 809 = .ok (.iconst 3, 1) := by decide +kernel
theorem dL_law_810 : decode cL_law 810 = .ok (.iadd, 1) := by decide +kernel
theorem dL_law_811 : decode cL_law 811 = .ok (.iaload, 1) := by decide +kernel
theorem dL_law_812 : decode cL_law 812 = .ok (.invokevirtual 100, 3) := by decide +kernel
theorem dL_law_815 : decode cL_law 815 = .ok (.aload_n 2, 1) := by decide +kernel
theorem dL_law_816 : decode cL_law 816 = .ok (.aload_n 0, 1) := by decide +kernel
theorem dL_law_817 : decode cL_law 817 = .ok (.iload_n 3, 1) := by decide +kernel
theorem dL_law_818 : decode cL_law 818 = .ok (.iconst 1, 1) := by decide +kernel
theorem dL_law_819 : decode cL_law 819 = .ok (.iadd, 1) := by decide +kernel
theorem dL_law_820 : decode cL_law 820 = .ok (.iaload, 1) := by decide +kernel
theorem dL_law_821 : decode cL_law 821 = .ok (.aload_n 0, 1) := by decide +kernel
theorem dL_law_822 : decode cL_law 822 = .ok (.iload_n 3, 1) := by decide +kernel
theorem dL_law_823 : decode cL_law 823 = .ok (.iconst 2, 1) := by decide +kernel
theorem dL_law_824 : decode cL_law 824 = .ok (.iadd, 1) := by decide +kernel
theorem dL_law_825 : decode cL_law 825 = .ok (.iaload, 1) := by decide +kernel
theorem dL_law_826 : decode cL_law 826 = .ok (.aload_n 0, 1) := by decide +kernel
theorem dL_law_827 : decode cL_law 827 = .ok (.iload_n 3, 1) := by decide +kernel
theorem dL_law_828 : decode cL_law 828 = .ok (.iconst 3, 1) := by decide +kernel
theorem dL_law_829 : decode cL_law 829 = .ok (.iadd, 1) := by decide +kernel
theorem dL_law_830 : decode cL_law 830 = .ok (.iaload, 1) := by decide +kernel
theorem dL_law_831 : decode cL_law 831 = .ok (.invokevirtual 103, 3) := by decide +kernel
theorem dL_law_834 : decode cL_law 834 = .ok (.if_icmp .eq 350, 3) := by decide +kernel
theorem dL_law_837 : decode cL_law 837 = .ok (.iconst 0, 1) := by decide +kernel
theorem dL_law_838 : decode cL_law 838 = .ok (.ireturn, 1) := by decide +kernel
theorem dL_law_839 : decode cL_law 839 = .ok (.aload_n 1, 1) := by decide +kernel
theorem dL_law_840 : decode cL_law 840 = .ok (.aload_n 0, 1) := by decide +kernel
theorem dL_law_841 : decode cL_law 841 = .ok (.iload_n 3, 1) := by decide +kernel
theorem dL_law_842 : decode cL_law 842 = .ok (.iconst 1, 1) := by decide +kernel
theorem dL_law_843 : decode cL_law 843 = .ok (.iadd, 1) := by decide +kernel
theorem dL_law_844 : decode cL_law 844 = .ok (.iaload, 1) := by decide +kernel
theorem dL_law_845 : decode cL_law 845 = .ok (.aload_n 0, 1) := by decide +kernel
theorem dL_law_846 : decode cL_law 846 = .ok (.iload_n 3, 1) := by decide +kernel
theorem dL_law_847 : decode cL_law 847 = .ok (.iconst 2, 1) := by decide +kernel
theorem dL_law_848 : decode cL_law 848 = .ok (.iadd, 1) := by decide +kernel
theorem dL_law_849 : decode cL_law 849 = .ok (.iaload, 1) := by decide +kernel
theorem dL_law_850 : decode cL_law 850 = .ok (.aload_n 0, 1) := by decide +kernel
theorem dL_law_851 : decode cL_law 851 = .ok (.iload_n 3, 1) := by decide +kernel
theorem dL_law_852 : decode cL_law 852 = .ok (.iconst 3, 1) := by decide +kernel
theorem dL_law_853 : decode cL_law 853 = .ok (.iadd, 1) := by decide +kernel
theorem dL_law_854 : decode cL_law 854 = .ok (.iaload, 1) := by decide +kernel
theorem dL_law_855 : decode cL_law 855 = .ok (.invokevirtual 104, 3) := by decide +kernel
theorem dL_law_858 : decode cL_law 858 = .ok (.aload_n 2, 1) := by decide +kernel
theorem dL_law_859 : decode cL_law 859 = .ok (.aload_n 0, 1) := by decide +kernel
theorem dL_law_860 : decode cL_law 860 = .ok (.iload_n 3, 1) := by decide +kernel
theorem dL_law_861 : decode cL_law 861 = .ok (.iconst 1, 1) := by decide +kernel
theorem dL_law_862 : decode cL_law 862 = .ok (.iadd, 1) := by decide +kernel
theorem dL_law_863 : decode cL_law 863 = .ok (.iaload, 1) := by decide +kernel
theorem dL_law_864 : decode cL_law 864 = .ok (.aload_n 0, 1) := by decide +kernel
theorem dL_law_865 : decode cL_law 865 = .ok (.iload_n 3, 1) := by decide +kernel
theorem dL_law_866 : decode cL_law 866 = .ok (.iconst 2, 1) := by decide +kernel
theorem dL_law_867 : decode cL_law 867 = .ok (.iadd, 1) := by decide +kernel
theorem dL_law_868 : decode cL_law 868 = .ok (.iaload, 1) := by decide +kernel
theorem dL_law_869 : decode cL_law 869 = .ok (.aload_n 0, 1) := by decide +kernel
theorem dL_law_870 : decode cL_law 870 = .ok (.iload_n 3, 1) := by decide +kernel
theorem dL_law_871 : decode cL_law 871 = .ok (.iconst 3, 1) := by decide +kernel
theorem dL_law_872 : decode cL_law 872 = .ok (.iadd, 1) := by decide +kernel
theorem dL_law_873 : decode cL_law 873 = .ok (.iaload, 1) := by decide +kernel
theorem dL_law_874 : decode cL_law 874 = .ok (.invokevirtual 107, 3) := by decide +kernel
theorem dL_law_877 : decode cL_law 877 = .ok (.if_icmp .eq 307, 3) := by decide +kernel
theorem dL_law_880 : decode cL_law 880 = .ok (.iconst 0, 1) := by decide +kernel
theorem dL_law_881 : decode cL_law 881 = .ok (.ireturn, 1) := by decide +kernel
theorem dL_law_882 : decode cL_law 882 = .ok (.aload_n 1, 1) := by decide +kernel
theorem dL_law_883 : decode cL_law 883 = .ok (.aload_n 0, 1) := by decide +kernel
theorem dL_law_884 : decode cL_law 884 = .ok (.iload_n 3, 1) := by decide +kernel
theorem dL_law_885 : decode cL_law 885 = .ok (.iconst 1, 1) := by decide +kernel
theorem dL_law_886 : decode cL_law 886 = .ok (.iadd, 1) := by decide +kernel
theorem dL_law_887 : decode cL_law 887 = .ok (.iaload, 1) := by decide +kernel
theorem dL_law_888 : decode cL_law 888 = .ok (.aload_n 0, 1) := by decide +kernel
theorem dL_law_889 : decode cL_law 889 = .ok (.iload_n 3, 1) := by decide +kernel
theorem dL_law_890 : decode cL_law 890 = .ok (.iconst 2, 1) := by decide +kernel
theorem dL_law_891 : decode cL_law 891 = .ok (.iadd, 1) := by decide +kernel
theorem dL_law_892 : decode cL_law 892 = .ok (.iaload, 1) := by decide +kernel
theorem dL_law_893 : decode cL_law 893 = .ok (.aload_n 0, 1) := by decide +kernel
theorem dL_law_894 : decode cL_law 894 = .ok (.iload_n 3, 1) := by decide +kernel
theorem dL_law_895 : decode cL_law 895 = .ok (.iconst 3, 1) := by decide +kernel
theorem dL_law_896 : decode cL_law 896 = .ok (.iadd, 1) := by decide +kernel
theorem dL_law_897 : decode cL_law 897 = .ok (.iaload, 1) := by decide +kernel
theorem dL_law_898 : decode cL_law 898 = .ok (.invokevirtual 108, 3) := by decide +kernel
theorem dL_law_901 : decode cL_law 901 = .ok (.aload_n 2, 1) := by decide +kernel
theorem dL_law_902 : decode cL_law 902 = .ok (.aload_n 0, 1) := by decide +kernel
theorem dL_law_903 : decode cL_law 903 = .ok (.iload_n 3, 1) := by decide +kernel
theorem dL_law_904 : decode cL_law 904 = .ok (.iconst 1, 1) := by decide +kernel
theorem dL_law_905 : decode cL_law 905 = .ok (.iadd, 1) := by decide +kernel
theorem dL_law_906 : decode cL_law 906 = .ok (.iaload, 1) := by decide +kernel
theorem dL_law_907 : decode cL_law 907 = .ok (.aload_n 0, 1) := by decide +kernel
theorem dL_law_908 : decode cL_law 908 = .ok (.iload_n 3, 1) := by decide +kernel
theorem dL_law_909 : decode cL_law 909 = .ok (.iconst 2, 1) := by decide +kernel
theorem dL_law_910 : decode cL_law 910 = .ok (.iadd, 1) := by decide +kernel
theorem dL_law_911 : decode cL_law 911 = .ok (.iaload, 1) := by decide +kernel
theorem dL_law_912 : decode cL_law 912 = .ok (.aload_n 0, 1) := by decide +kernel
theorem dL_law_913 : decode cL_law 913 = .ok (.iload_n 3, 1) := by decide +kernel
theorem dL_law_914 : decode cL_law 914 = .ok (.iconst 3, 1) := by decide +kernel
theorem dL_law_915 : decode cL_law 915 = .ok (.iadd, 1) := by decide +kernel
theorem dL_law_916 : decode cL_law 916 = .ok (.iaload, 1) := by decide +kernel
theorem dL_law_917 : decode cL_law 917 = .ok (.invokevirtual 111, 3) := by decide +kernel
theorem dL_law_920 : decode cL_law 920 = .ok (.if_icmp .eq 264, 3) := by decide +kernel
theorem dL_law_923 : decode cL_law 923 = .ok (.iconst 0, 1) := by decide +kernel
theorem dL_law_924 : decode cL_law 924 = .ok (.ireturn, 1) := by decide +kernel
theorem dL_law_925 : decode cL_law 925 = .ok (.aload_n 1, 1) := by decide +kernel
theorem dL_law_926 : decode cL_law 926 = .ok (.aload_n 0, 1) := by decide +kernel
theorem dL_law_927 : decode cL_law 927 = .ok (.iload_n 3, 1) := by decide +kernel
theorem dL_law_928 : decode cL_law 928 = .ok (.iconst 1, 1) := by decide +kernel
theorem dL_law_929 : decode cL_law 929 = .ok (.iadd, 1) := by decide +kernel
theorem dL_law_930 : decode cL_law 930 = .ok (.iaload, 1) := by decide +kernel
theorem dL_law_931 : decode cL_law 931 = .ok (.aload_n 0, 1) := by decide +kernel
theorem dL_law_932 : decode cL_law 932 = .ok (.iload_n 3, 1) := by decide +kernel
theorem dL_law_933 : decode cL_law 933 = .ok (.iconst 2, 1) := by decide +kernel
theorem dL_law_934 : decode cL_law 934 = .ok (.iadd, 1) := by decide +kernel
theorem dL_law_935 : decode cL_law 935 = .ok (.iaload, 1) := by decide +kernel
theorem dL_law_936 : decode cL_law 936 = .ok (.aload_n 0, 1) := by decide +kernel
theorem dL_law_937 : decode cL_law 937 = .ok (.iload_n 3, 1) := by decide +kernel
theorem dL_law_938 : decode cL_law 938 = .ok (.iconst 3, 1) := by decide +kernel
theorem dL_law_939 : decode cL_law 939 = .ok (.iadd, 1) := by decide +kernel
theorem dL_law_940 : decode cL_law 940 = .ok (.iaload, 1) := by decide +kernel
theorem dL_law_941 : decode cL_law 941 = .ok (.invokevirtual 112, 3) := by decide +kernel
theorem dL_law_944 : decode cL_law 944 = .ok (.aload_n 2, 1) := by decide +kernel
theorem dL_law_945 : decode cL_law 945 = .ok (.aload_n 0, 1) := by decide +kernel
theorem dL_law_946 : decode cL_law 946 = .ok (.iload_n 3, 1) := by decide +kernel
theorem dL_law_947 : decode cL_law 947 = .ok (.iconst 1, 1) := by decide +kernel
theorem dL_law_948 : decode cL_law 948 = .ok (.iadd, 1) := by decide +kernel
theorem dL_law_949 : decode cL_law 949 = .ok (.iaload, 1) := by decide +kernel
theorem dL_law_950 : decode cL_law 950 = .ok (.aload_n 0, 1) := by decide +kernel
theorem dL_law_951 : decode cL_law 951 = .ok (.iload_n 3, 1) := by decide +kernel
theorem dL_law_952 : decode cL_law 952 = .ok (.iconst 2, 1) := by decide +kernel
theorem dL_law_953 : decode cL_law 953 = .ok (.iadd, 1) := by decide +kernel
theorem dL_law_954 : decode cL_law 954 = .ok (.iaload, 1) := by decide +kernel
theorem dL_law_955 : decode cL_law 955 = .ok (.aload_n 0, 1) := by decide +kernel
theorem dL_law_956 : decode cL_law 956 = .ok (.iload_n 3, 1) := by decide +kernel
theorem dL_law_957 : decode cL_law 957 = .ok (.iconst 3, 1) := by decide +kernel
theorem dL_law_958 : decode cL_law 958 = .ok (.iadd, 1) := by decide +kernel
theorem dL_law_959 : decode cL_law 959 = .ok (.iaload, 1) := by decide +kernel
theorem dL_law_960 : decode cL_law 960 = .ok (.invokevirtual 115, 3) := by decide +kernel
theorem dL_law_963 : decode cL_law 963 = .ok (.if_icmp .eq 221, 3) := by decide +kernel
theorem dL_law_966 : decode cL_law 966 = .ok (.iconst 0, 1) := by decide +kernel
theorem dL_law_967 : decode cL_law 967 = .ok (.ireturn, 1) := by decide +kernel
theorem dL_law_968 : decode cL_law 968 = .ok (.aload_n 1, 1) := by decide +kernel
theorem dL_law_969 : decode cL_law 969 = .ok (.aload_n 0, 1) := by decide +kernel
theorem dL_law_970 : decode cL_law 970 = .ok (.iload_n 3, 1) := by decide +kernel
theorem dL_law_971 : decode cL_law 971 = .ok (.iconst 1, 1) := by decide +kernel
theorem dL_law_972 : decode cL_law 972 = .ok (.iadd, 1) := by decide +kernel
theorem dL_law_973 : decode cL_law 973 = .ok (.iaload, 1) := by decide +kernel
theorem dL_law_974 : decode cL_law 974 = .ok (.invokevirtual 116, 3) := by decide +kernel
theorem dL_law_977 : decode cL_law 977 = .ok (.aload_n 2, 1) := by decide +kernel
theorem dL_law_978 : decode cL_law 978 = .ok (.aload_n 0, 1) := by decide +kernel
theorem dL_law_979 : decode cL_law 979 = .ok (.iload_n 3, 1) := by decide +kernel
theorem dL_law_980 : decode cL_law 980 = .ok (.iconst 1, 1) := by decide +kernel
theorem dL_law_981 : decode cL_law 981 = .ok (.iadd, 1) := by decide +kernel
theorem dL_law_982 : decode cL_law 982 = .ok (.iaload, 1) := by decide +kernel
theorem dL_law_983 : decode cL_law 983 = .ok (.invokevirtual 119, 3) := by decide +kernel
theorem dL_law_986 : decode cL_law 986 = .ok (.if_icmp .eq 198, 3) := by decide +kernel
theorem dL_law_989 : decode cL_law 989 = .ok (.iconst 0, 1) := by decide +kernel
theorem dL_law_990 : decode cL_law 990 = .ok (.ireturn, 1) := by decide +kernel
theorem dL_law_991 : decode cL_law 991 = .ok (.aload_n 1, 1) := by decide +kernel
theorem dL_law_992 : decode cL_law 992 = .ok (.aload_n 0, 1) := by decide +kernel
theorem dL_law_993 : decode cL_law 993 = .ok (.iload_n 3, 1) := by decide +kernel
theorem dL_law_994 : decode cL_law 994 = .ok (.iconst 1, 1) := by decide +kernel
theorem dL_law_995 : decode cL_law 995 = .ok (.iadd, 1) := by decide +kernel
theorem dL_law_996 : decode cL_law 996 = .ok (.iaload, 1) := by decide +kernel
theorem dL_law_997 : decode cL_law 997 = .ok (.invokevirtual 120, 3) := by decide +kernel
theorem dL_law_1000 : decode cL_law 1000 = .ok (.aload_n 2, 1) := by decide +kernel
theorem dL_law_1001 : decode cL_law 1001 = .ok (.aload_n 0, 1) := by decide +kernel
theorem dL_law_1002 : decode cL_law 1002 = .ok (.iload_n 3, 1) := by decide +kernel
theorem dL_law_1003 : decode cL_law 1003 = .ok (.iconst 1, 1) := by decide +kernel
theorem dL_law_1004 : decode cL_law 1004 = .ok (.iadd, 1) := by decide +kernel
theorem dL_law_1005 : decode cL_law 1005 = .ok (.iaload, 1) := by decide +kernel
theorem dL_law_1006 : decode cL_law 1006 = .ok (.invokevirtual 123, 3) := by decide +kernel
theorem dL_law_1009 : decode cL_law 1009 = .ok (.if_icmp .eq 175, 3) := by decide +kernel
theorem dL_law_1012 : decode cL_law 1012 = .ok (.iconst 0, 1) := by decide +kernel
theorem dL_law_1013 : decode cL_law 1013 = .ok (.ireturn, 1) := by decide +kernel
theorem dL_law_1014 : decode cL_law 1014 = .ok (.aload_n 1, 1) := by decide +kernel
theorem dL_law_1015 : decode cL_law 1015 = .ok (.aload_n 0, 1) := by decide +kernel
theorem dL_law_1016 : decode cL_law 1016 = .ok (.iload_n 3, 1) := by decide +kernel
theorem dL_law_1017 : decode cL_law 1017 = .ok (.iconst 1, 1) := by decide +kernel
theorem dL_law_1018 : decode cL_law 1018 = .ok (.iadd, 1) := by decide +kernel
theorem dL_law_1019 : decode cL_law 1019 = .ok (.iaload, 1) := by decide +kernel
theorem dL_law_1020 : decode cL_law 1020 = .ok (.invokevirtual 124, 3) := by decide +kernel
theorem dL_law_1023 : decode cL_law 1023 = .ok (.aload_n 2, 1) := by decide +kernel
theorem dL_law_1024 : decode cL_law 1024 = .ok (.aload_n 0, 1) := by decide +kernel
theorem dL_law_1025 : decode cL_law 1025 = .ok (.iload_n 3, 1) := by decide +kernel
theorem dL_law_1026 : decode cL_law 1026 = .ok (.iconst 1, 1) := by decide +kernel
theorem dL_law_1027 : decode cL_law 1027 = .ok (.iadd, 1) := by decide +kernel
theorem dL_law_1028 : decode cL_law 1028 = .ok (.iaload, 1) := by decide +kernel
theorem dL_law_1029 : decode cL_law 1029 = .ok (.invokevirtual 127, 3) := by decide +kernel
theorem dL_law_1032 : decode cL_law 1032 = .ok (.if_icmp .eq 152, 3) := by decide +kernel
theorem dL_law_1035 : decode cL_law 1035 = .ok (.iconst 0, 1) := by decide +kernel
theorem dL_law_1036 : decode cL_law 1036 = .ok (.ireturn, 1) := by decide +kernel
theorem dL_law_1037 : decode cL_law 1037 = .ok (.aload_n 1, 1) := by decide +kernel
theorem dL_law_1038 : decode cL_law 1038 = .ok (.aload_n 0, 1) := by decide +kernel
theorem dL_law_1039 : decode cL_law 1039 = .ok (.iload_n 3, 1) := by decide +kernel
theorem dL_law_1040 : decode cL_law 1040 = .ok (.iconst 1, 1) := by decide +kernel
theorem dL_law_1041 : decode cL_law 1041 = .ok (.iadd, 1) := by decide +kernel
theorem dL_law_1042 : decode cL_law 1042 = .ok (.iaload, 1) := by decide +kernel
theorem dL_law_1043 : decode cL_law 1043 = .ok (.aload_n 0, 1) := by decide +kernel
theorem dL_law_1044 : decode cL_law 1044 = .ok (.iload_n 3, 1) := by decide +kernel
theorem dL_law_1045 : decode cL_law 1045 = .ok (.iconst 2, 1) := by decide +kernel
theorem dL_law_1046 : decode cL_law 1046 = .ok (.iadd, 1) := by decide +kernel
theorem dL_law_1047 : decode cL_law 1047 = .ok (.iaload, 1) := by decide +kernel
theorem dL_law_1048 : decode cL_law 1048 = .ok (.invokevirtual 128, 3) := by decide +kernel
theorem dL_law_1051 : decode cL_law 1051 = .ok (.aload_n 2, 1) := by decide +kernel
theorem dL_law_1052 : decode cL_law 1052 = .ok (.aload_n 0, 1) := by decide +kernel
theorem dL_law_1053 : decode cL_law 1053 = .ok (.iload_n 3, 1) := by decide +kernel
theorem dL_law_1054 : decode cL_law 1054 = .ok (.iconst 1, 1) := by decide +kernel
theorem dL_law_1055 : decode cL_law 1055 = .ok (.iadd, 1) := by decide +kernel
theorem dL_law_1056 : decode cL_law 1056 = .ok (.iaload, 1) := by decide +kernel
theorem dL_law_1057 : decode cL_law 1057 = .ok (.aload_n 0, 1) := by decide +kernel
theorem dL_law_1058 : decode cL_law 1058 = .ok (.iload_n 3, 1) := by decide +kernel
theorem dL_law_1059 : decode cL_law 1059 = .ok (.iconst 2, 1) := by decide +kernel
theorem dL_law_1060 : decode cL_law 1060 = .ok (.iadd, 1) := by decide +kernel
theorem dL_law_1061 : decode cL_law 1061 = .ok (.iaload, 1) := by decide +kernel
theorem dL_law_1062 : decode cL_law 1062 = .ok (.invokevirtual 132, 3) := by decide +kernel
theorem dL_law_1065 : decode cL_law 1065 = .ok (.lcmp, 1) := by decide +kernel
theorem dL_law_1066 : decode cL_law 1066 = .ok (.ifCond .eq 118, 3) := by decide +kernel
theorem dL_law_1069 : decode cL_law 1069 = .ok (.iconst 0, 1) := by decide +kernel
theorem dL_law_1070 : decode cL_law 1070 = .ok (.ireturn, 1) := by decide +kernel
theorem dL_law_1071 : decode cL_law 1071 = .ok (.aload_n 1, 1) := by decide +kernel
theorem dL_law_1072 : decode cL_law 1072 = .ok (.aload_n 0, 1) := by decide +kernel
theorem dL_law_1073 : decode cL_law 1073 = .ok (.iload_n 3, 1) := by decide +kernel
theorem dL_law_1074 : decode cL_law 1074 = .ok (.iconst 1, 1) := by decide +kernel
theorem dL_law_1075 : decode cL_law 1075 = .ok (.iadd, 1) := by decide +kernel
theorem dL_law_1076 : decode cL_law 1076 = .ok (.iaload, 1) := by decide +kernel
theorem dL_law_1077 : decode cL_law 1077 = .ok (.aload_n 0, 1) := by decide +kernel
theorem dL_law_1078 : decode cL_law 1078 = .ok (.iload_n 3, 1) := by decide +kernel
theorem dL_law_1079 : decode cL_law 1079 = .ok (.iconst 2, 1) := by decide +kernel
theorem dL_law_1080 : decode cL_law 1080 = .ok (.iadd, 1) := by decide +kernel
theorem dL_law_1081 : decode cL_law 1081 = .ok (.iaload, 1) := by decide +kernel
theorem dL_law_1082 : decode cL_law 1082 = .ok (.invokevirtual 133, 3) := by decide +kernel
theorem dL_law_1085 : decode cL_law 1085 = .ok (.aload_n 2, 1) := by decide +kernel
theorem dL_law_1086 : decode cL_law 1086 = .ok (.aload_n 0, 1) := by decide +kernel
theorem dL_law_1087 : decode cL_law 1087 = .ok (.iload_n 3, 1) := by decide +kernel
theorem dL_law_1088 : decode cL_law 1088 = .ok (.iconst 1, 1) := by decide +kernel
theorem dL_law_1089 : decode cL_law 1089 = .ok (.iadd, 1) := by decide +kernel
theorem dL_law_1090 : decode cL_law 1090 = .ok (.iaload, 1) := by decide +kernel
theorem dL_law_1091 : decode cL_law 1091 = .ok (.aload_n 0, 1) := by decide +kernel
theorem dL_law_1092 : decode cL_law 1092 = .ok (.iload_n 3, 1) := by decide +kernel
theorem dL_law_1093 : decode cL_law 1093 = .ok (.iconst 2, 1) := by decide +kernel
theorem dL_law_1094 : decode cL_law 1094 = .ok (.iadd, 1) := by decide +kernel
theorem dL_law_1095 : decode cL_law 1095 = .ok (.iaload, 1) := by decide +kernel
theorem dL_law_1096 : decode cL_law 1096 = .ok (.invokevirtual 136, 3) := by decide +kernel
theorem dL_law_1099 : decode cL_law 1099 = .ok (.if_icmp .eq 85, 3) := by decide +kernel
theorem dL_law_1102 : decode cL_law 1102 = .ok (.iconst 0, 1) := by decide +kernel
theorem dL_law_1103 : decode cL_law 1103 = .ok (.ireturn, 1) := by decide +kernel
theorem dL_law_1104 : decode cL_law 1104 = .ok (.aload_n 1, 1) := by decide +kernel
theorem dL_law_1105 : decode cL_law 1105 = .ok (.aload_n 0, 1) := by decide +kernel
theorem dL_law_1106 : decode cL_law 1106 = .ok (.iload_n 3, 1) := by decide +kernel
theorem dL_law_1107 : decode cL_law 1107 = .ok (.iconst 1, 1) := by decide +kernel
theorem dL_law_1108 : decode cL_law 1108 = .ok (.iadd, 1) := by decide +kernel
theorem dL_law_1109 : decode cL_law 1109 = .ok (.iaload, 1) := by decide +kernel
theorem dL_law_1110 : decode cL_law 1110 = .ok (.invokevirtual 137, 3) := by decide +kernel
theorem dL_law_1113 : decode cL_law 1113 = .ok (.aload_n 2, 1) := by decide +kernel
theorem dL_law_1114 : decode cL_law 1114 = .ok (.aload_n 0, 1) := by decide +kernel
theorem dL_law_1115 : decode cL_law 1115 = .ok (.iload_n 3, 1) := by decide +kernel
theorem dL_law_1116 : decode cL_law 1116 = .ok (.iconst 1, 1) := by decide +kernel
theorem dL_law_1117 : decode cL_law 1117 = .ok (.iadd, 1) := by decide +kernel
theorem dL_law_1118 : decode cL_law 1118 = .ok (.iaload, 1) := by decide +kernel
theorem dL_law_1119 : decode cL_law 1119 = .ok (.invokevirtual 140, 3) := by decide +kernel
theorem dL_law_1122 : decode cL_law 1122 = .ok (.if_icmp .eq 62, 3) := by decide +kernel
theorem dL_law_1125 : decode cL_law 1125 = .ok (.iconst 0, 1) := by decide +kernel
theorem dL_law_1126 : decode cL_law 1126 = .ok (.ireturn, 1) := by decide +kernel
theorem dL_law_1127 : decode cL_law 1127 = .ok (.aload_n 1, 1) := by decide +kernel
theorem dL_law_1128 : decode cL_law 1128 = .ok (.aload_n 0, 1) := by decide +kernel
theorem dL_law_1129 : decode cL_law 1129 = .ok (.iload_n 3, 1) := by decide +kernel
theorem dL_law_1130 : decode cL_law 1130 = .ok (.iconst 1, 1) := by decide +kernel
theorem dL_law_1131 : decode cL_law 1131 = .ok (.iadd, 1) := by decide +kernel
theorem dL_law_1132 : decode cL_law 1132 = .ok (.iaload, 1) := by decide +kernel
theorem dL_law_1133 : decode cL_law 1133 = .ok (.aload_n 0, 1) := by decide +kernel
theorem dL_law_1134 : decode cL_law 1134 = .ok (.iload_n 3, 1) := by decide +kernel
theorem dL_law_1135 : decode cL_law 1135 = .ok (.iconst 2, 1) := by decide +kernel
theorem dL_law_1136 : decode cL_law 1136 = .ok (.iadd, 1) := by decide +kernel
theorem dL_law_1137 : decode cL_law 1137 = .ok (.iaload, 1) := by decide +kernel
theorem dL_law_1138 : decode cL_law 1138 = .ok (.invokevirtual 141, 3) := by decide +kernel
theorem dL_law_1141 : decode cL_law 1141 = .ok (.aload_n 2, 1) := by decide +kernel
theorem dL_law_1142 : decode cL_law 1142 = .ok (.aload_n 0, 1) := by decide +kernel
theorem dL_law_1143 : decode cL_law 1143 = .ok (.iload_n 3, 1) := by decide +kernel
theorem dL_law_1144 : decode cL_law 1144 = .ok (.iconst 1, 1) := by decide +kernel
theorem dL_law_1145 : decode cL_law 1145 = .ok (.iadd, 1) := by decide +kernel
theorem dL_law_1146 : decode cL_law 1146 = .ok (.iaload, 1) := by decide +kernel
theorem dL_law_1147 : decode cL_law 1147 = .ok (.aload_n 0, 1) := by decide +kernel
theorem dL_law_1148 : decode cL_law 1148 = .ok (.iload_n 3, 1) := by decide +kernel
theorem dL_law_1149 : decode cL_law 1149 = .ok (.iconst 2, 1) := by decide +kernel
theorem dL_law_1150 : decode cL_law 1150 = .ok (.iadd, 1) := by decide +kernel
theorem dL_law_1151 : decode cL_law 1151 = .ok (.iaload, 1) := by decide +kernel
theorem dL_law_1152 : decode cL_law 1152 = .ok (.invokevirtual 144, 3) := by decide +kernel
theorem dL_law_1155 : decode cL_law 1155 = .ok (.lcmp, 1) := by decide +kernel
theorem dL_law_1156 : decode cL_law 1156 = .ok (.ifCond .eq 28, 3) := by decide +kernel
theorem dL_law_1159 : decode cL_law 1159 = .ok (.iconst 0, 1) := by decide +kernel
theorem dL_law_1160 : decode cL_law 1160 = .ok (.ireturn, 1) := by decide +kernel
theorem dL_law_1161 : decode cL_law 1161 = .ok (.aload_n 1, 1) := by decide +kernel
theorem dL_law_1162 : decode cL_law 1162 = .ok (.aload_n 0, 1) := by decide +kernel
theorem dL_law_1163 : decode cL_law 1163 = .ok (.iload_n 3, 1) := by decide +kernel
theorem dL_law_1164 : decode cL_law 1164 = .ok (.iconst 1, 1) := by decide +kernel
theorem dL_law_1165 : decode cL_law 1165 = .ok (.iadd, 1) := by decide +kernel
theorem dL_law_1166 : decode cL_law 1166 = .ok (.iaload, 1) := by decide +kernel
theorem dL_law_1167 : decode cL_law 1167 = .ok (.invokevirtual 145, 3) := by decide +kernel
theorem dL_law_1170 : decode cL_law 1170 = .ok (.aload_n 2, 1) := by decide +kernel
theorem dL_law_1171 : decode cL_law 1171 = .ok (.aload_n 0, 1) := by decide +kernel
theorem dL_law_1172 : decode cL_law 1172 = .ok (.iload_n 3, 1) := by decide +kernel
theorem dL_law_1173 : decode cL_law 1173 = .ok (.iconst 1, 1) := by decide +kernel
theorem dL_law_1174 : decode cL_law 1174 = .ok (.iadd, 1) := by decide +kernel
theorem dL_law_1175 : decode cL_law 1175 = .ok (.iaload, 1) := by decide +kernel
theorem dL_law_1176 : decode cL_law 1176 = .ok (.invokevirtual 148, 3) := by decide +kernel
theorem dL_law_1179 : decode cL_law 1179 = .ok (.if_icmp .eq 5, 3) := by decide +kernel
theorem dL_law_1182 : decode cL_law 1182 = .ok (.iconst 0, 1) := by decide +kernel
theorem dL_law_1183 : decode cL_law 1183 = .ok (.ireturn, 1) := by decide +kernel
theorem dL_law_1184 : decode cL_law 1184 = .ok (.iinc 3 5, 3) := by decide +kernel
theorem dL_law_1187 : decode cL_law 1187 = .ok (.goto (-1169), 3) := by decide +kernel
theorem dL_law_1190 : decode cL_law 1190 = .ok (.iconst 1, 1) := by decide +kernel
theorem dL_law_1191 : decode cL_law 1191 = .ok (.ireturn, 1) := by decide +kernel
