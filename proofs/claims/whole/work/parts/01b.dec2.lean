theorem dX12_near_11 : decode cX12_near 11 = .ok (.ifCond .ge 17, 3) := by decide +kernel
theorem dX12_near_14 : decode cX12_near 14 = .ok (.dload_n 0, 1) := by decide +kernel
theorem dX12_near_15 : decode cX12_near 15 = .ok (.ldc2_w 226, 3) := by decide +kernel
theorem dX12_near_18 : decode cX12_near 18 = .ok (.dcmp .g, 1) := by decide +kernel
theorem dX12_near_19 : decode cX12_near 19 = .ok (.ifCond .le 9, 3) := by decide +kernel
theorem dX12_near_22 : decode cX12_near 22 = .ok (.dload_n 0, 1) := by decide +kernel
theorem dX12_near_23 : decode cX12_near 23 = .ok (.dconst 0, 1) := by decide +kernel
theorem dX12_near_24 : decode cX12_near 24 = .ok (.dcmp .l, 1) := by decide +kernel
theorem dX12_near_25 : decode cX12_near 25 = .ok (.ifCond .ne 5, 3) := by decide +kernel
theorem dX12_near_28 : decode cX12_near 28 = .ok (.dload_n 0, 1) := by decide +kernel
theorem dX12_near_29 : decode cX12_near 29 = .ok (.dreturn, 1) := by decide +kernel
theorem dX12_near_30 : decode cX12_near 30 = .ok (.dload_n 0, 1) := by decide +kernel
theorem dX12_near_31 : decode cX12_near 31 = .ok (.dconst 0, 1) := by decide +kernel
theorem dX12_near_32 : decode cX12_near 32 = .ok (.dcmp .g, 1) := by decide +kernel
theorem dX12_near_33 : decode cX12_near 33 = .ok (.ifCond .ge 8, 3) := by decide +kernel
theorem dX12_near_36 : decode cX12_near 36 = .ok (.dload_n 0, 1) := by decide +kernel
theorem dX12_near_37 : decode cX12_near 37 = .ok (.dneg, 1) := by decide +kernel
theorem dX12_near_38 : decode cX12_near 38 = .ok (.goto 4, 3) := by decide +kernel
theorem dX12_near_41 : decode cX12_near 41 = .ok (.dload_n 0, 1) := by decide +kernel
theorem dX12_near_42 : decode cX12_near 42 = .ok (.dstore_n 2, 1) := by decide +kernel
theorem dX12_near_43 : decode cX12_near 43 = .ok (.dload_n 2, 1) := by decide +kernel
theorem dX12_near_44 : decode cX12_near 44 = .ok (.ldc2_w 208, 3) := by decide +kernel
theorem dX12_near_47 : decode cX12_near 47 = .ok (.dadd, 1) := by decide +kernel
theorem dX12_near_48 : decode cX12_near 48 = .ok (.ldc2_w 208, 3) := by decide +kernel
theorem dX12_near_51 : decode cX12_near 51 = .ok (.dsub, 1) := by decide +kernel
theorem dX12_near_52 : decode cX12_near 52 = .ok (.dstore_n 2, 1) := by decide +kernel
theorem dX12_near_53 : decode cX12_near 53 = .ok (.dload_n 0, 1) := by decide +kernel
theorem dX12_near_54 : decode cX12_near 54 = .ok (.dconst 0, 1) := by decide +kernel
theorem dX12_near_55 : decode cX12_near 55 = .ok (.dcmp .g, 1) := by decide +kernel
theorem dX12_near_56 : decode cX12_near 56 = .ok (.ifCond .ge 8, 3) := by decide +kernel
theorem dX12_near_59 : decode cX12_near 59 = .ok (.dload_n 2, 1) := by decide +kernel
theorem dX12_near_60 : decode cX12_near 60 = .ok (.dneg, 1) := by decide +kernel
theorem dX12_near_61 : decode cX12_near 61 = .ok (.goto 4, 3) := by decide +kernel
theorem dX12_near_64 : decode cX12_near 64 = .ok (.dload_n 2, 1) := by decide +kernel
theorem dX12_near_65 : decode cX12_near 65 = .ok (.dreturn, 1) := by decide +kernel
theorem dX12_root_0 : decode cX12_root 0 = .ok (.dload_n 0, 1) := by decide +kernel
theorem dX12_root_1 : decode cX12_root 1 = .ok (.dload_n 0, 1) := by decide +kernel
theorem dX12_root_2 : decode cX12_root 2 = .ok (.dcmp .l, 1) := by decide +kernel
theorem dX12_root_3 : decode cX12_root 3 = .ok (.ifCond .ne 9, 3) := by decide +kernel
theorem dX12_root_6 : decode cX12_root 6 = .ok (.dload_n 0, 1) := by decide +kernel
theorem dX12_root_7 : decode cX12_root 7 = .ok (.dconst 0, 1) := by decide +kernel
theorem dX12_root_8 : decode cX12_root 8 = .ok (.dcmp .g, 1) := by decide +kernel
theorem dX12_root_9 : decode cX12_root 9 = .ok (.ifCond .ge 7, 3) := by decide +kernel
theorem dX12_root_12 : decode cX12_root 12 = .ok (.ldc2_w 220, 3) := by decide +kernel
theorem dX12_root_15 : decode cX12_root 15 = .ok (.dreturn, 1) := by decide +kernel
theorem dX12_root_16 : decode cX12_root 16 = .ok (.dload_n 0, 1) := by decide +kernel
theorem dX12_root_17 : decode cX12_root 17 = .ok (.dconst 0, 1) := by decide +kernel
theorem dX12_root_18 : decode cX12_root 18 = .ok (.dcmp .l, 1) := by decide +kernel
theorem dX12_root_19 : decode cX12_root 19 = .ok (.ifCond .eq 11, 3) := by decide +kernel
theorem dX12_root_22 : decode cX12_root 22 = .ok (.dload_n 0, 1) := by decide +kernel
theorem dX12_root_23 : decode cX12_root 23 = .ok (.ldc2_w 200, 3) := by decide +kernel
theorem dX12_root_26 : decode cX12_root 26 = .ok (.dcmp .l, 1) := by decide +kernel
theorem dX12_root_27 : decode cX12_root 27 = .ok (.ifCond .ne 5, 3) := by decide +kernel
theorem dX12_root_30 : decode cX12_root 30 = .ok (.dload_n 0, 1) := by decide +kernel
theorem dX12_root_31 : decode cX12_root 31 = .ok (.dreturn, 1) := by decide +kernel
theorem dX12_root_32 : decode cX12_root 32 = .ok (.dload_n 0, 1) := by decide +kernel
theorem dX12_root_33 : decode cX12_root 33 = .ok (.invokestatic 230, 3) := by decide +kernel
theorem dX12_root_36 : decode cX12_root 36 = .ok (.lstore_n 2, 1) := by decide +kernel
theorem dX12_root_37 : decode cX12_root 37 = .ok (.lload_n 2, 1) := by decide +kernel
theorem dX12_root_38 : decode cX12_root 38 = .ok (.bipush 52, 2) := by decide +kernel
theorem dX12_root_40 : decode cX12_root 40 = .ok (.lshr, 1) := by decide +kernel
theorem dX12_root_41 : decode cX12_root 41 = .ok (.lstore 4, 2) := by decide +kernel
theorem dX12_root_43 : decode cX12_root 43 = .ok (.lload_n 2, 1) := by decide +kernel
theorem dX12_root_44 : decode cX12_root 44 = .ok (.ldc2_w 214, 3) := by decide +kernel
theorem dX12_root_47 : decode cX12_root 47 = .ok (.land, 1) := by decide +kernel
theorem dX12_root_48 : decode cX12_root 48 = .ok (.lstore 6, 2) := by decide +kernel
theorem dX12_root_50 : decode cX12_root 50 = .ok (.lload 4, 2) := by decide +kernel
theorem dX12_root_52 : decode cX12_root 52 = .ok (.lconst 0, 1) := by decide +kernel
theorem dX12_root_53 : decode cX12_root 53 = .ok (.lcmp, 1) := by decide +kernel
theorem dX12_root_54 : decode cX12_root 54 = .ok (.ifCond .ne 30, 3) := by decide +kernel
theorem dX12_root_57 : decode cX12_root 57 = .ok (.lconst 1, 1) := by decide +kernel
theorem dX12_root_58 : decode cX12_root 58 = .ok (.lstore 4, 2) := by decide +kernel
theorem dX12_root_60 : decode cX12_root 60 = .ok (.lload 6, 2) := by decide +kernel
theorem dX12_root_62 : decode cX12_root 62 = .ok (.ldc2_w 222, 3) := by decide +kernel
theorem dX12_root_65 : decode cX12_root 65 = .ok (.lcmp, 1) := by decide +kernel
theorem dX12_root_66 : decode cX12_root 66 = .ok (.ifCond .ge 26, 3) := by decide +kernel
theorem dX12_root_69 : decode cX12_root 69 = .ok (.lload 6, 2) := by decide +kernel
theorem dX12_root_71 : decode cX12_root 71 = .ok (.iconst 1, 1) := by decide +kernel
theorem dX12_root_72 : decode cX12_root 72 = .ok (.lshl, 1) := by decide +kernel
theorem dX12_root_73 : decode cX12_root 73 = .ok (.lstore 6, 2) := by decide +kernel
theorem dX12_root_75 : decode cX12_root 75 = .ok (.lload 4, 2) := by decide +kernel
theorem dX12_root_77 : decode cX12_root 77 = .ok (.lconst 1, 1) := by decide +kernel
theorem dX12_root_78 : decode cX12_root 78 = .ok (.lsub, 1) := by decide +kernel
theorem dX12_root_79 : decode cX12_root 79 = .ok (.lstore 4, 2) := by decide +kernel
theorem dX12_root_81 : decode cX12_root 81 = .ok (.goto (-21), 3) := by decide +kernel
theorem dX12_root_84 : decode cX12_root 84 = .ok (.lload 6, 2) := by decide +kernel
theorem dX12_root_86 : decode cX12_root 86 = .ok (.ldc2_w 222, 3) := by decide +kernel
theorem dX12_root_89 : decode cX12_root 89 = .ok (.ladd, 1) := by decide +kernel
theorem dX12_root_90 : decode cX12_root 90 = .ok (.lstore 6, 2) := by decide +kernel
theorem dX12_root_92 : decode cX12_root 92 = .ok (.lload 4, 2) := by decide +kernel
theorem dX12_root_94 : decode cX12_root 94 = .ok (.ldc2_w 224, 3) := by decide +kernel
theorem dX12_root_97 : decode cX12_root 97 = .ok (.lsub, 1) := by decide +kernel
theorem dX12_root_98 : decode cX12_root 98 = .ok (.lstore 4, 2) := by decide +kernel
theorem dX12_root_100 : decode cX12_root 100 = .ok (.lload 4, 2) := by decide +kernel
theorem dX12_root_102 : decode cX12_root 102 = .ok (.lconst 1, 1) := by decide +kernel
theorem dX12_root_103 : decode cX12_root 103 = .ok (.land, 1) := by decide +kernel
theorem dX12_root_104 : decode cX12_root 104 = .ok (.lconst 0, 1) := by decide +kernel
theorem dX12_root_105 : decode cX12_root 105 = .ok (.lcmp, 1) := by decide +kernel
theorem dX12_root_106 : decode cX12_root 106 = .ok (.ifCond .eq 15, 3) := by decide +kernel
theorem dX12_root_109 : decode cX12_root 109 = .ok (.lload 6, 2) := by decide +kernel
theorem dX12_root_111 : decode cX12_root 111 = .ok (.iconst 1, 1) := by decide +kernel
theorem dX12_root_112 : decode cX12_root 112 = .ok (.lshl, 1) := by decide +kernel
theorem dX12_root_113 : decode cX12_root 113 = .ok (.lstore 6, 2) := by decide +kernel
theorem dX12_root_115 : decode cX12_root 115 = .ok (.lload 4, 2) := by decide +kernel
theorem dX12_root_117 : decode cX12_root 117 = .ok (.lconst 1, 1) := by decide +kernel
theorem dX12_root_118 : decode cX12_root 118 = .ok (.lsub, 1) := by decide +kernel
theorem dX12_root_119 : decode cX12_root 119 = .ok (.lstore 4, 2) := by decide +kernel
theorem dX12_root_121 : decode cX12_root 121 = .ok (.lconst 0, 1) := by decide +kernel
theorem dX12_root_122 : decode cX12_root 122 = .ok (.lstore 8, 2) := by decide +kernel
theorem dX12_root_124 : decode cX12_root 124 = .ok (.lconst 0, 1) := by decide +kernel
theorem dX12_root_125 : decode cX12_root 125 = .ok (.lstore 10, 2) := by decide +kernel
theorem dX12_root_127 : decode cX12_root 127 = .ok (.iconst 0, 1) := by decide +kernel
theorem dX12_root_128 : decode cX12_root 128 = .ok (.istore 12, 2) := by decide +kernel
theorem dX12_root_130 : decode cX12_root 130 = .ok (.lload 8, 2) := by decide +kernel
theorem dX12_root_132 : decode cX12_root 132 = .ok (.ldc2_w 234, 3) := by decide +kernel
theorem dX12_root_135 : decode cX12_root 135 = .ok (.lcmp, 1) := by decide +kernel
theorem dX12_root_136 : decode cX12_root 136 = .ok (.ifCond .ge 80, 3) := by decide +kernel
theorem dX12_root_139 : decode cX12_root 139 = .ok (.iload 12, 2) := by decide +kernel
theorem dX12_root_141 : decode cX12_root 141 = .ok (.bipush 27, 2) := by decide +kernel
theorem dX12_root_143 : decode cX12_root 143 = .ok (.if_icmp .ge 20, 3) := by decide +kernel
theorem dX12_root_146 : decode cX12_root 146 = .ok (.lload 6, 2) := by decide +kernel
theorem dX12_root_148 : decode cX12_root 148 = .ok (.bipush 52, 2) := by decide +kernel
theorem dX12_root_150 : decode cX12_root 150 = .ok (.iconst 2, 1) := by decide +kernel
theorem dX12_root_151 : decode cX12_root 151 = .ok (.iload 12, 2) := by decide +kernel
theorem dX12_root_153 : decode cX12_root 153 = .ok (.imul, 1) := by decide +kernel
theorem dX12_root_154 : decode cX12_root 154 = .ok (.isub, 1) := by decide +kernel
theorem dX12_root_155 : decode cX12_root 155 = .ok (.lshr, 1) := by decide +kernel
theorem dX12_root_156 : decode cX12_root 156 = .ok (.ldc2_w 236, 3) := by decide +kernel
theorem dX12_root_159 : decode cX12_root 159 = .ok (.land, 1) := by decide +kernel
theorem dX12_root_160 : decode cX12_root 160 = .ok (.goto 4, 3) := by decide +kernel
theorem dX12_root_163 : decode cX12_root 163 = .ok (.lconst 0, 1) := by decide +kernel
theorem dX12_root_164 : decode cX12_root 164 = .ok (.lstore 13, 2) := by decide +kernel
theorem dX12_root_166 : decode cX12_root 166 = .ok (.lload 10, 2) := by decide +kernel
theorem dX12_root_168 : decode cX12_root 168 = .ok (.iconst 2, 1) := by decide +kernel
theorem dX12_root_169 : decode cX12_root 169 = .ok (.lshl, 1) := by decide +kernel
theorem dX12_root_170 : decode cX12_root 170 = .ok (.lload 13, 2) := by decide +kernel
theorem dX12_root_172 : decode cX12_root 172 = .ok (.lor, 1) := by decide +kernel
theorem dX12_root_173 : decode cX12_root 173 = .ok (.lstore 10, 2) := by decide +kernel
theorem dX12_root_175 : decode cX12_root 175 = .ok (.lload 8, 2) := by decide +kernel
theorem dX12_root_177 : decode cX12_root 177 = .ok (.iconst 1, 1) := by decide +kernel
theorem dX12_root_178 : decode cX12_root 178 = .ok (.lshl, 1) := by decide +kernel
theorem dX12_root_179 : decode cX12_root 179 = .ok (.lstore 8, 2) := by decide +kernel
theorem dX12_root_181 : decode cX12_root 181 = .ok (.lload 10, 2) := by decide +kernel
theorem dX12_root_183 : decode cX12_root 183 = .ok (.lload 8, 2) := by decide +kernel
theorem dX12_root_185 : decode cX12_root 185 = .ok (.iconst 1, 1) := by decide +kernel
theorem dX12_root_186 : decode cX12_root 186 = .ok (.lshl, 1) := by decide +kernel
theorem dX12_root_187 : decode cX12_root 187 = .ok (.lconst 1, 1) := by decide +kernel
theorem dX12_root_188 : decode cX12_root 188 = .ok (.lor, 1) := by decide +kernel
theorem dX12_root_189 : decode cX12_root 189 = .ok (.lcmp, 1) := by decide +kernel
theorem dX12_root_190 : decode cX12_root 190 = .ok (.ifCond .lt 20, 3) := by decide +kernel
theorem dX12_root_193 : decode cX12_root 193 = .ok (.lload 10, 2) := by decide +kernel
theorem dX12_root_195 : decode cX12_root 195 = .ok (.lload 8, 2) := by decide +kernel
theorem dX12_root_197 : decode cX12_root 197 = .ok (.iconst 1, 1) := by decide +kernel
theorem dX12_root_198 : decode cX12_root 198 = .ok (.lshl, 1) := by decide +kernel
theorem dX12_root_199 : decode cX12_root 199 = .ok (.lconst 1, 1) := by decide +kernel
theorem dX12_root_200 : decode cX12_root 200 = .ok (.lor, 1) := by decide +kernel
theorem dX12_root_201 : decode cX12_root 201 = .ok (.lsub, 1) := by decide +kernel
theorem dX12_root_202 : decode cX12_root 202 = .ok (.lstore 10, 2) := by decide +kernel
theorem dX12_root_204 : decode cX12_root 204 = .ok (.lload 8, 2) := by decide +kernel
theorem dX12_root_206 : decode cX12_root 206 = .ok (.lconst 1, 1) := by decide +kernel
theorem dX12_root_207 : decode cX12_root 207 = .ok (.ladd, 1) := by decide +kernel
theorem dX12_root_208 : decode cX12_root 208 = .ok (.lstore 8, 2) := by decide +kernel
theorem dX12_root_210 : decode cX12_root 210 = .ok (.iinc 12 1, 3) := by decide +kernel
theorem dX12_root_213 : decode cX12_root 213 = .ok (.goto (-83), 3) := by decide +kernel
theorem dX12_root_216 : decode cX12_root 216 = .ok (.lload 4, 2) := by decide +kernel
theorem dX12_root_218 : decode cX12_root 218 = .ok (.ldc2_w 238, 3) := by decide +kernel
theorem dX12_root_221 : decode cX12_root 221 = .ok (.ldiv, 1) := by decide +kernel
theorem dX12_root_222 : decode cX12_root 222 = .ok (.iload 12, 2) := by decide +kernel
theorem dX12_root_224 : decode cX12_root 224 = .ok (.bipush 27, 2) := by decide +kernel
theorem dX12_root_226 : decode cX12_root 226 = .ok (.isub, 1) := by decide +kernel
theorem dX12_root_227 : decode cX12_root 227 = .ok (.i2l, 1) := by decide +kernel
theorem dX12_root_228 : decode cX12_root 228 = .ok (.lsub, 1) := by decide +kernel
theorem dX12_root_229 : decode cX12_root 229 = .ok (.lstore 4, 2) := by decide +kernel
theorem dX12_root_231 : decode cX12_root 231 = .ok (.lload 8, 2) := by decide +kernel
theorem dX12_root_233 : decode cX12_root 233 = .ok (.lconst 1, 1) := by decide +kernel
theorem dX12_root_234 : decode cX12_root 234 = .ok (.land, 1) := by decide +kernel
theorem dX12_root_235 : decode cX12_root 235 = .ok (.lstore 13, 2) := by decide +kernel
theorem dX12_root_237 : decode cX12_root 237 = .ok (.lload 8, 2) := by decide +kernel
theorem dX12_root_239 : decode cX12_root 239 = .ok (.iconst 1, 1) := by decide +kernel
theorem dX12_root_240 : decode cX12_root 240 = .ok (.lshr, 1) := by decide +kernel
theorem dX12_root_241 : decode cX12_root 241 = .ok (.lstore 8, 2) := by decide +kernel
theorem dX12_root_243 : decode cX12_root 243 = .ok (.lload 4, 2) := by decide +kernel
theorem dX12_root_245 : decode cX12_root 245 = .ok (.lconst 1, 1) := by decide +kernel
theorem dX12_root_246 : decode cX12_root 246 = .ok (.ladd, 1) := by decide +kernel
theorem dX12_root_247 : decode cX12_root 247 = .ok (.lstore 4, 2) := by decide +kernel
theorem dX12_root_249 : decode cX12_root 249 = .ok (.lload 13, 2) := by decide +kernel
theorem dX12_root_251 : decode cX12_root 251 = .ok (.lconst 1, 1) := by decide +kernel
theorem dX12_root_252 : decode cX12_root 252 = .ok (.lcmp, 1) := by decide +kernel
theorem dX12_root_253 : decode cX12_root 253 = .ok (.ifCond .ne 25, 3) := by decide +kernel
theorem dX12_root_256 : decode cX12_root 256 = .ok (.lload 10, 2) := by decide +kernel
theorem dX12_root_258 : decode cX12_root 258 = .ok (.lconst 0, 1) := by decide +kernel
theorem dX12_root_259 : decode cX12_root 259 = .ok (.lcmp, 1) := by decide +kernel
theorem dX12_root_260 : decode cX12_root 260 = .ok (.ifCond .gt 12, 3) := by decide +kernel
theorem dX12_root_263 : decode cX12_root 263 = .ok (.lload 8, 2) := by decide +kernel
theorem dX12_root_265 : decode cX12_root 265 = .ok (.lconst 1, 1) := by decide +kernel
theorem dX12_root_266 : decode cX12_root 266 = .ok (.land, 1) := by decide +kernel
theorem dX12_root_267 : decode cX12_root 267 = .ok (.lconst 1, 1) := by decide +kernel
theorem dX12_root_268 : decode cX12_root 268 = .ok (.lcmp, 1) := by decide +kernel
theorem dX12_root_269 : decode cX12_root 269 = .ok (.ifCond .ne 9, 3) := by decide +kernel
theorem dX12_root_272 : decode cX12_root 272 = .ok (.lload 8, 2) := by decide +kernel
theorem dX12_root_274 : decode cX12_root 274 = .ok (.lconst 1, 1) := by decide +kernel
theorem dX12_root_275 : decode cX12_root 275 = .ok (.ladd, 1) := by decide +kernel
theorem dX12_root_276 : decode cX12_root 276 = .ok (.lstore 8, 2) := by decide +kernel
theorem dX12_root_278 : decode cX12_root 278 = .ok (.lload 8, 2) := by decide +kernel
theorem dX12_root_280 : decode cX12_root 280 = .ok (.l2d, 1) := by decide +kernel
theorem dX12_root_281 : decode cX12_root 281 = .ok (.dstore 15, 2) := by decide +kernel
theorem dX12_root_283 : decode cX12_root 283 = .ok (.lload 4, 2) := by decide +kernel
theorem dX12_root_285 : decode cX12_root 285 = .ok (.lconst 0, 1) := by decide +kernel
theorem dX12_root_286 : decode cX12_root 286 = .ok (.lcmp, 1) := by decide +kernel
theorem dX12_root_287 : decode cX12_root 287 = .ok (.ifCond .le 20, 3) := by decide +kernel
theorem dX12_root_290 : decode cX12_root 290 = .ok (.dload 15, 2) := by decide +kernel
theorem dX12_root_292 : decode cX12_root 292 = .ok (.ldc2_w 204, 3) := by decide +kernel
theorem dX12_root_295 : decode cX12_root 295 = .ok (.dmul, 1) := by decide +kernel
theorem dX12_root_296 : decode cX12_root 296 = .ok (.dstore 15, 2) := by decide +kernel
theorem dX12_root_298 : decode cX12_root 298 = .ok (.lload 4, 2) := by decide +kernel
theorem dX12_root_300 : decode cX12_root 300 = .ok (.lconst 1, 1) := by decide +kernel
theorem dX12_root_301 : decode cX12_root 301 = .ok (.lsub, 1) := by decide +kernel
theorem dX12_root_302 : decode cX12_root 302 = .ok (.lstore 4, 2) := by decide +kernel
theorem dX12_root_304 : decode cX12_root 304 = .ok (.goto (-21), 3) := by decide +kernel
theorem dX12_root_307 : decode cX12_root 307 = .ok (.lload 4, 2) := by decide +kernel
theorem dX12_root_309 : decode cX12_root 309 = .ok (.lconst 0, 1) := by decide +kernel
theorem dX12_root_310 : decode cX12_root 310 = .ok (.lcmp, 1) := by decide +kernel
theorem dX12_root_311 : decode cX12_root 311 = .ok (.ifCond .ge 20, 3) := by decide +kernel
theorem dX12_root_314 : decode cX12_root 314 = .ok (.dload 15, 2) := by decide +kernel
theorem dX12_root_316 : decode cX12_root 316 = .ok (.ldc2_w 204, 3) := by decide +kernel
theorem dX12_root_319 : decode cX12_root 319 = .ok (.ddiv, 1) := by decide +kernel
theorem dX12_root_320 : decode cX12_root 320 = .ok (.dstore 15, 2) := by decide +kernel
theorem dX12_root_322 : decode cX12_root 322 = .ok (.lload 4, 2) := by decide +kernel
theorem dX12_root_324 : decode cX12_root 324 = .ok (.lconst 1, 1) := by decide +kernel
theorem dX12_root_325 : decode cX12_root 325 = .ok (.ladd, 1) := by decide +kernel
theorem dX12_root_326 : decode cX12_root 326 = .ok (.lstore 4, 2) := by decide +kernel
theorem dX12_root_328 : decode cX12_root 328 = .ok (.goto (-21), 3) := by decide +kernel
theorem dX12_root_331 : decode cX12_root 331 = .ok (.dload 15, 2) := by decide +kernel
theorem dX12_root_333 : decode cX12_root 333 = .ok (.dreturn, 1) := by decide +kernel
theorem dX12_isLetter_0 : decode cX12_isLetter 0 = .ok (.iload_n 0, 1) := by decide +kernel
theorem dX12_isLetter_1 : decode cX12_isLetter 1 = .ok (.bipush 97, 2) := by decide +kernel
theorem dX12_isLetter_3 : decode cX12_isLetter 3 = .ok (.if_icmp .lt 13, 3) := by decide +kernel
theorem dX12_isLetter_6 : decode cX12_isLetter 6 = .ok (.iload_n 0, 1) := by decide +kernel
theorem dX12_isLetter_7 : decode cX12_isLetter 7 = .ok (.bipush 122, 2) := by decide +kernel
theorem dX12_isLetter_9 : decode cX12_isLetter 9 = .ok (.if_icmp .gt 7, 3) := by decide +kernel
theorem dX12_isLetter_12 : decode cX12_isLetter 12 = .ok (.iconst 1, 1) := by decide +kernel
theorem dX12_isLetter_13 : decode cX12_isLetter 13 = .ok (.goto 4, 3) := by decide +kernel
theorem dX12_isLetter_16 : decode cX12_isLetter 16 = .ok (.iconst 0, 1) := by decide +kernel
theorem dX12_isLetter_17 : decode cX12_isLetter 17 = .ok (.ireturn, 1) := by decide +kernel
theorem dX12_isFigure_0 : decode cX12_isFigure 0 = .ok (.iload_n 0, 1) := by decide +kernel
theorem dX12_isFigure_1 : decode cX12_isFigure 1 = .ok (.bipush 48, 2) := by decide +kernel
theorem dX12_isFigure_3 : decode cX12_isFigure 3 = .ok (.if_icmp .lt 13, 3) := by decide +kernel
theorem dX12_isFigure_6 : decode cX12_isFigure 6 = .ok (.iload_n 0, 1) := by decide +kernel
theorem dX12_isFigure_7 : decode cX12_isFigure 7 = .ok (.bipush 57, 2) := by decide +kernel
theorem dX12_isFigure_9 : decode cX12_isFigure 9 = .ok (.if_icmp .gt 7, 3) := by decide +kernel
theorem dX12_isFigure_12 : decode cX12_isFigure 12 = .ok (.iconst 1, 1) := by decide +kernel
theorem dX12_isFigure_13 : decode cX12_isFigure 13 = .ok (.goto 4, 3) := by decide +kernel
theorem dX12_isFigure_16 : decode cX12_isFigure 16 = .ok (.iconst 0, 1) := by decide +kernel
theorem dX12_isFigure_17 : decode cX12_isFigure 17 = .ok (.ireturn, 1) := by decide +kernel
theorem dX12_word_0 : decode cX12_word 0 = .ok (.lload_n 0, 1) := by decide +kernel
theorem dX12_word_1 : decode cX12_word 1 = .ok (.ldc2_w 240, 3) := by decide +kernel
theorem dX12_word_4 : decode cX12_word 4 = .ok (.lcmp, 1) := by decide +kernel
theorem dX12_word_5 : decode cX12_word 5 = .ok (.ifCond .ne 5, 3) := by decide +kernel
theorem dX12_word_8 : decode cX12_word 8 = .ok (.iconst 1, 1) := by decide +kernel
theorem dX12_word_9 : decode cX12_word 9 = .ok (.ireturn, 1) := by decide +kernel
theorem dX12_word_10 : decode cX12_word 10 = .ok (.lload_n 0, 1) := by decide +kernel
theorem dX12_word_11 : decode cX12_word 11 = .ok (.ldc2_w 242, 3) := by decide +kernel
theorem dX12_word_14 : decode cX12_word 14 = .ok (.lcmp, 1) := by decide +kernel
theorem dX12_word_15 : decode cX12_word 15 = .ok (.ifCond .ne 5, 3) := by decide +kernel
theorem dX12_word_18 : decode cX12_word 18 = .ok (.iconst 2, 1) := by decide +kernel
theorem dX12_word_19 : decode cX12_word 19 = .ok (.ireturn, 1) := by decide +kernel
theorem dX12_word_20 : decode cX12_word 20 = .ok (.lload_n 0, 1) := by decide +kernel
theorem dX12_word_21 : decode cX12_word 21 = .ok (.ldc2_w 244, 3) := by decide +kernel
theorem dX12_word_24 : decode cX12_word 24 = .ok (.lcmp, 1) := by decide +kernel
theorem dX12_word_25 : decode cX12_word 25 = .ok (.ifCond .ne 5, 3) := by decide +kernel
theorem dX12_word_28 : decode cX12_word 28 = .ok (.iconst 3, 1) := by decide +kernel
theorem dX12_word_29 : decode cX12_word 29 = .ok (.ireturn, 1) := by decide +kernel
theorem dX12_word_30 : decode cX12_word 30 = .ok (.lload_n 0, 1) := by decide +kernel
theorem dX12_word_31 : decode cX12_word 31 = .ok (.ldc2_w 246, 3) := by decide +kernel
theorem dX12_word_34 : decode cX12_word 34 = .ok (.lcmp, 1) := by decide +kernel
theorem dX12_word_35 : decode cX12_word 35 = .ok (.ifCond .ne 5, 3) := by decide +kernel
theorem dX12_word_38 : decode cX12_word 38 = .ok (.iconst 4, 1) := by decide +kernel
theorem dX12_word_39 : decode cX12_word 39 = .ok (.ireturn, 1) := by decide +kernel
theorem dX12_word_40 : decode cX12_word 40 = .ok (.lload_n 0, 1) := by decide +kernel
theorem dX12_word_41 : decode cX12_word 41 = .ok (.ldc2_w 248, 3) := by decide +kernel
theorem dX12_word_44 : decode cX12_word 44 = .ok (.lcmp, 1) := by decide +kernel
theorem dX12_word_45 : decode cX12_word 45 = .ok (.ifCond .ne 5, 3) := by decide +kernel
theorem dX12_word_48 : decode cX12_word 48 = .ok (.iconst 5, 1) := by decide +kernel
theorem dX12_word_49 : decode cX12_word 49 = .ok (.ireturn, 1) := by decide +kernel
theorem dX12_word_50 : decode cX12_word 50 = .ok (.lload_n 0, 1) := by decide +kernel
theorem dX12_word_51 : decode cX12_word 51 = .ok (.ldc2_w 250, 3) := by decide +kernel
theorem dX12_word_54 : decode cX12_word 54 = .ok (.lcmp, 1) := by decide +kernel
theorem dX12_word_55 : decode cX12_word 55 = .ok (.ifCond .ne 6, 3) := by decide +kernel
theorem dX12_word_58 : decode cX12_word 58 = .ok (.bipush 6, 2) := by decide +kernel
theorem dX12_word_60 : decode cX12_word 60 = .ok (.ireturn, 1) := by decide +kernel
theorem dX12_word_61 : decode cX12_word 61 = .ok (.lload_n 0, 1) := by decide +kernel
theorem dX12_word_62 : decode cX12_word 62 = .ok (.ldc2_w 252, 3) := by decide +kernel
theorem dX12_word_65 : decode cX12_word 65 = .ok (.lcmp, 1) := by decide +kernel
theorem dX12_word_66 : decode cX12_word 66 = .ok (.ifCond .ne 6, 3) := by decide +kernel
theorem dX12_word_69 : decode cX12_word 69 = .ok (.bipush 7, 2) := by decide +kernel
theorem dX12_word_71 : decode cX12_word 71 = .ok (.ireturn, 1) := by decide +kernel
theorem dX12_word_72 : decode cX12_word 72 = .ok (.lload_n 0, 1) := by decide +kernel
theorem dX12_word_73 : decode cX12_word 73 = .ok (.ldc2_w 254, 3) := by decide +kernel
theorem dX12_word_76 : decode cX12_word 76 = .ok (.lcmp, 1) := by decide +kernel
theorem dX12_word_77 : decode cX12_word 77 = .ok (.ifCond .ne 6, 3) := by decide +kernel
theorem dX12_word_80 : decode cX12_word 80 = .ok (.bipush 8, 2) := by decide +kernel
theorem dX12_word_82 : decode cX12_word 82 = .ok (.ireturn, 1) := by decide +kernel
theorem dX12_word_83 : decode cX12_word 83 = .ok (.lload_n 0, 1) := by decide +kernel
theorem dX12_word_84 : decode cX12_word 84 = .ok (.ldc2_w 256, 3) := by decide +kernel
theorem dX12_word_87 : decode cX12_word 87 = .ok (.lcmp, 1) := by decide +kernel
theorem dX12_word_88 : decode cX12_word 88 = .ok (.ifCond .ne 6, 3) := by decide +kernel
theorem dX12_word_91 : decode cX12_word 91 = .ok (.bipush 9, 2) := by decide +kernel
theorem dX12_word_93 : decode cX12_word 93 = .ok (.ireturn, 1) := by decide +kernel
theorem dX12_word_94 : decode cX12_word 94 = .ok (.lload_n 0, 1) := by decide +kernel
theorem dX12_word_95 : decode cX12_word 95 = .ok (.ldc2_w 258, 3) := by decide +kernel
theorem dX12_word_98 : decode cX12_word 98 = .ok (.lcmp, 1) := by decide +kernel
theorem dX12_word_99 : decode cX12_word 99 = .ok (.ifCond .ne 6, 3) := by decide +kernel
theorem dX12_word_102 : decode cX12_word 102 = .ok (.bipush 10, 2) := by decide +kernel
theorem dX12_word_104 : decode cX12_word 104 = .ok (.ireturn, 1) := by decide +kernel
theorem dX12_word_105 : decode cX12_word 105 = .ok (.lload_n 0, 1) := by decide +kernel
theorem dX12_word_106 : decode cX12_word 106 = .ok (.ldc2_w 260, 3) := by decide +kernel
theorem dX12_word_109 : decode cX12_word 109 = .ok (.lcmp, 1) := by decide +kernel
theorem dX12_word_110 : decode cX12_word 110 = .ok (.ifCond .ne 6, 3) := by decide +kernel
theorem dX12_word_113 : decode cX12_word 113 = .ok (.bipush 11, 2) := by decide +kernel
theorem dX12_word_115 : decode cX12_word 115 = .ok (.ireturn, 1) := by decide +kernel
theorem dX12_word_116 : decode cX12_word 116 = .ok (.lload_n 0, 1) := by decide +kernel
theorem dX12_word_117 : decode cX12_word 117 = .ok (.ldc2_w 262, 3) := by decide +kernel
theorem dX12_word_120 : decode cX12_word 120 = .ok (.lcmp, 1) := by decide +kernel
theorem dX12_word_121 : decode cX12_word 121 = .ok (.ifCond .ne 6, 3) := by decide +kernel
theorem dX12_word_124 : decode cX12_word 124 = .ok (.bipush 12, 2) := by decide +kernel
theorem dX12_word_126 : decode cX12_word 126 = .ok (.ireturn, 1) := by decide +kernel
theorem dX12_word_127 : decode cX12_word 127 = .ok (.lload_n 0, 1) := by decide +kernel
theorem dX12_word_128 : decode cX12_word 128 = .ok (.ldc2_w 264, 3) := by decide +kernel
theorem dX12_word_131 : decode cX12_word 131 = .ok (.lcmp, 1) := by decide +kernel
theorem dX12_word_132 : decode cX12_word 132 = .ok (.ifCond .ne 6, 3) := by decide +kernel
theorem dX12_word_135 : decode cX12_word 135 = .ok (.bipush 13, 2) := by decide +kernel
theorem dX12_word_137 : decode cX12_word 137 = .ok (.ireturn, 1) := by decide +kernel
theorem dX12_word_138 : decode cX12_word 138 = .ok (.lload_n 0, 1) := by decide +kernel
theorem dX12_word_139 : decode cX12_word 139 = .ok (.ldc2_w 266, 3) := by decide +kernel
theorem dX12_word_142 : decode cX12_word 142 = .ok (.lcmp, 1) := by decide +kernel
theorem dX12_word_143 : decode cX12_word 143 = .ok (.ifCond .ne 6, 3) := by decide +kernel
theorem dX12_word_146 : decode cX12_word 146 = .ok (.bipush 14, 2) := by decide +kernel
theorem dX12_word_148 : decode cX12_word 148 = .ok (.ireturn, 1) := by decide +kernel
theorem dX12_word_149 : decode cX12_word 149 = .ok (.lload_n 0, 1) := by decide +kernel
theorem dX12_word_150 : decode cX12_word 150 = .ok (.ldc2_w 268, 3) := by decide +kernel
theorem dX12_word_153 : decode cX12_word 153 = .ok (.lcmp, 1) := by decide +kernel
theorem dX12_word_154 : decode cX12_word 154 = .ok (.ifCond .ne 6, 3) := by decide +kernel
theorem dX12_word_157 : decode cX12_word 157 = .ok (.bipush 15, 2) := by decide +kernel
theorem dX12_word_159 : decode cX12_word 159 = .ok (.ireturn, 1) := by decide +kernel
theorem dX12_word_160 : decode cX12_word 160 = .ok (.lload_n 0, 1) := by decide +kernel
theorem dX12_word_161 : decode cX12_word 161 = .ok (.ldc2_w 270, 3) := by decide +kernel
theorem dX12_word_164 : decode cX12_word 164 = .ok (.lcmp, 1) := by decide +kernel
theorem dX12_word_165 : decode cX12_word 165 = .ok (.ifCond .ne 6, 3) := by decide +kernel
theorem dX12_word_168 : decode cX12_word 168 = .ok (.bipush 16, 2) := by decide +kernel
theorem dX12_word_170 : decode cX12_word 170 = .ok (.ireturn, 1) := by decide +kernel
theorem dX12_word_171 : decode cX12_word 171 = .ok (.lload_n 0, 1) := by decide +kernel
theorem dX12_word_172 : decode cX12_word 172 = .ok (.ldc2_w 272, 3) := by decide +kernel
theorem dX12_word_175 : decode cX12_word 175 = .ok (.lcmp, 1) := by decide +kernel
theorem dX12_word_176 : decode cX12_word 176 = .ok (.ifCond .ne 6, 3) := by decide +kernel
theorem dX12_word_179 : decode cX12_word 179 = .ok (.bipush 17, 2) := by decide +kernel
theorem dX12_word_181 : decode cX12_word 181 = .ok (.ireturn, 1) := by decide +kernel
theorem dX12_word_182 : decode cX12_word 182 = .ok (.lload_n 0, 1) := by decide +kernel
theorem dX12_word_183 : decode cX12_word 183 = .ok (.ldc2_w 274, 3) := by decide +kernel
theorem dX12_word_186 : decode cX12_word 186 = .ok (.lcmp, 1) := by decide +kernel
theorem dX12_word_187 : decode cX12_word 187 = .ok (.ifCond .ne 6, 3) := by decide +kernel
theorem dX12_word_190 : decode cX12_word 190 = .ok (.bipush 18, 2) := by decide +kernel
theorem dX12_word_192 : decode cX12_word 192 = .ok (.ireturn, 1) := by decide +kernel
theorem dX12_word_193 : decode cX12_word 193 = .ok (.lload_n 0, 1) := by decide +kernel
theorem dX12_word_194 : decode cX12_word 194 = .ok (.ldc2_w 276, 3) := by decide +kernel
theorem dX12_word_197 : decode cX12_word 197 = .ok (.lcmp, 1) := by decide +kernel
theorem dX12_word_198 : decode cX12_word 198 = .ok (.ifCond .ne 6, 3) := by decide +kernel
theorem dX12_word_201 : decode cX12_word 201 = .ok (.bipush 19, 2) := by decide +kernel
theorem dX12_word_203 : decode cX12_word 203 = .ok (.ireturn, 1) := by decide +kernel
theorem dX12_word_204 : decode cX12_word 204 = .ok (.lload_n 0, 1) := by decide +kernel
theorem dX12_word_205 : decode cX12_word 205 = .ok (.ldc2_w 278, 3) := by decide +kernel
theorem dX12_word_208 : decode cX12_word 208 = .ok (.lcmp, 1) := by decide +kernel
theorem dX12_word_209 : decode cX12_word 209 = .ok (.ifCond .ne 6, 3) := by decide +kernel
theorem dX12_word_212 : decode cX12_word 212 = .ok (.bipush 20, 2) := by decide +kernel
theorem dX12_word_214 : decode cX12_word 214 = .ok (.ireturn, 1) := by decide +kernel
theorem dX12_word_215 : decode cX12_word 215 = .ok (.lload_n 0, 1) := by decide +kernel
theorem dX12_word_216 : decode cX12_word 216 = .ok (.ldc2_w 280, 3) := by decide +kernel
theorem dX12_word_219 : decode cX12_word 219 = .ok (.lcmp, 1) := by decide +kernel
theorem dX12_word_220 : decode cX12_word 220 = .ok (.ifCond .ne 6, 3) := by decide +kernel
theorem dX12_word_223 : decode cX12_word 223 = .ok (.bipush 21, 2) := by decide +kernel
theorem dX12_word_225 : decode cX12_word 225 = .ok (.ireturn, 1) := by decide +kernel
theorem dX12_word_226 : decode cX12_word 226 = .ok (.lload_n 0, 1) := by decide +kernel
theorem dX12_word_227 : decode cX12_word 227 = .ok (.ldc2_w 282, 3) := by decide +kernel
theorem dX12_word_230 : decode cX12_word 230 = .ok (.lcmp, 1) := by decide +kernel
theorem dX12_word_231 : decode cX12_word 231 = .ok (.ifCond .ne 6, 3) := by decide +kernel
theorem dX12_word_234 : decode cX12_word 234 = .ok (.bipush 22, 2) := by decide +kernel
theorem dX12_word_236 : decode cX12_word 236 = .ok (.ireturn, 1) := by decide +kernel
theorem dX12_word_237 : decode cX12_word 237 = .ok (.lload_n 0, 1) := by decide +kernel
theorem dX12_word_238 : decode cX12_word 238 = .ok (.ldc2_w 284, 3) := by decide +kernel
theorem dX12_word_241 : decode cX12_word 241 = .ok (.lcmp, 1) := by decide +kernel
theorem dX12_word_242 : decode cX12_word 242 = .ok (.ifCond .ne 6, 3) := by decide +kernel
theorem dX12_word_245 : decode cX12_word 245 = .ok (.bipush 23, 2) := by decide +kernel
theorem dX12_word_247 : decode cX12_word 247 = .ok (.ireturn, 1) := by decide +kernel
theorem dX12_word_248 : decode cX12_word 248 = .ok (.lload_n 0, 1) := by decide +kernel
theorem dX12_word_249 : decode cX12_word 249 = .ok (.ldc2_w 286, 3) := by decide +kernel
theorem dX12_word_252 : decode cX12_word 252 = .ok (.lcmp, 1) := by decide +kernel
theorem dX12_word_253 : decode cX12_word 253 = .ok (.ifCond .ne 6, 3) := by decide +kernel
theorem dX12_word_256 : decode cX12_word 256 = .ok (.bipush 24, 2) := by decide +kernel
theorem dX12_word_258 : decode cX12_word 258 = .ok (.ireturn, 1) := by decide +kernel
theorem dX12_word_259 : decode cX12_word 259 = .ok (.lload_n 0, 1) := by decide +kernel
theorem dX12_word_260 : decode cX12_word 260 = .ok (.ldc2_w 288, 3) := by decide +kernel
theorem dX12_word_263 : decode cX12_word 263 = .ok (.lcmp, 1) := by decide +kernel
theorem dX12_word_264 : decode cX12_word 264 = .ok (.ifCond .ne 6, 3) := by decide +kernel
theorem dX12_word_267 : decode cX12_word 267 = .ok (.bipush 25, 2) := by decide +kernel
theorem dX12_word_269 : decode cX12_word 269 = .ok (.ireturn, 1) := by decide +kernel
theorem dX12_word_270 : decode cX12_word 270 = .ok (.bipush 40, 2) := by decide +kernel
theorem dX12_word_272 : decode cX12_word 272 = .ok (.ireturn, 1) := by decide +kernel
theorem dX12_byteAt_0 : decode cX12_byteAt 0 = .ok (.iload_n 1, 1) := by decide +kernel
theorem dX12_byteAt_1 : decode cX12_byteAt 1 = .ok (.aload_n 0, 1) := by decide +kernel
theorem dX12_byteAt_2 : decode cX12_byteAt 2 = .ok (.getfield 290, 3) := by decide +kernel
theorem dX12_byteAt_5 : decode cX12_byteAt 5 = .ok (.if_icmp .ge 12, 3) := by decide +kernel
theorem dX12_byteAt_8 : decode cX12_byteAt 8 = .ok (.aload_n 0, 1) := by decide +kernel
theorem dX12_byteAt_9 : decode cX12_byteAt 9 = .ok (.getfield 24, 3) := by decide +kernel
theorem dX12_byteAt_12 : decode cX12_byteAt 12 = .ok (.iload_n 1, 1) := by decide +kernel
theorem dX12_byteAt_13 : decode cX12_byteAt 13 = .ok (.iaload, 1) := by decide +kernel
theorem dX12_byteAt_14 : decode cX12_byteAt 14 = .ok (.goto 4, 3) := by decide +kernel
theorem dX12_byteAt_17 : decode cX12_byteAt 17 = .ok (.iconst 0, 1) := by decide +kernel
theorem dX12_byteAt_18 : decode cX12_byteAt 18 = .ok (.ireturn, 1) := by decide +kernel
theorem dX12_tokenize_0 : decode cX12_tokenize 0 = .ok (.iconst 0, 1) := by decide +kernel
theorem dX12_tokenize_1 : decode cX12_tokenize 1 = .ok (.istore_n 1, 1) := by decide +kernel
theorem dX12_tokenize_2 : decode cX12_tokenize 2 = .ok (.iconst 0, 1) := by decide +kernel
theorem dX12_tokenize_3 : decode cX12_tokenize 3 = .ok (.istore_n 2, 1) := by decide +kernel
theorem dX12_tokenize_4 : decode cX12_tokenize 4 = .ok (.aload_n 0, 1) := by decide +kernel
theorem dX12_tokenize_5 : decode cX12_tokenize 5 = .ok (.iconst 0, 1) := by decide +kernel
theorem dX12_tokenize_6 : decode cX12_tokenize 6 = .ok (.putfield 293, 3) := by decide +kernel
theorem dX12_tokenize_9 : decode cX12_tokenize 9 = .ok (.aload_n 0, 1) := by decide +kernel
theorem dX12_tokenize_10 : decode cX12_tokenize 10 = .ok (.iconst 0, 1) := by decide +kernel
theorem dX12_tokenize_11 : decode cX12_tokenize 11 = .ok (.putfield 296, 3) := by decide +kernel
theorem dX12_tokenize_14 : decode cX12_tokenize 14 = .ok (.aload_n 0, 1) := by decide +kernel
theorem dX12_tokenize_15 : decode cX12_tokenize 15 = .ok (.iconst 0, 1) := by decide +kernel
theorem dX12_tokenize_16 : decode cX12_tokenize 16 = .ok (.putfield 299, 3) := by decide +kernel
theorem dX12_tokenize_19 : decode cX12_tokenize 19 = .ok (.aload_n 0, 1) := by decide +kernel
theorem dX12_tokenize_20 : decode cX12_tokenize 20 = .ok (.iconst 0, 1) := by decide +kernel
theorem dX12_tokenize_21 : decode cX12_tokenize 21 = .ok (.putfield 302, 3) := by decide +kernel
theorem dX12_tokenize_24 : decode cX12_tokenize 24 = .ok (.iload_n 2, 1) := by decide +kernel
theorem dX12_tokenize_25 : decode cX12_tokenize 25 = .ok (.bipush 43, 2) := by decide +kernel
theorem dX12_tokenize_27 : decode cX12_tokenize 27 = .ok (.if_icmp .eq 126, 3) := by decide +kernel
theorem dX12_tokenize_30 : decode cX12_tokenize 30 = .ok (.iload_n 2, 1) := by decide +kernel
theorem dX12_tokenize_31 : decode cX12_tokenize 31 = .ok (.bipush 44, 2) := by decide +kernel
theorem dX12_tokenize_33 : decode cX12_tokenize 33 = .ok (.if_icmp .eq 120, 3) := by decide +kernel
theorem dX12_tokenize_36 : decode cX12_tokenize 36 = .ok (.iload_n 1, 1) := by decide +kernel
theorem dX12_tokenize_37 : decode cX12_tokenize 37 = .ok (.aload_n 0, 1) := by decide +kernel
theorem dX12_tokenize_38 : decode cX12_tokenize 38 = .ok (.getfield 290, 3) := by decide +kernel
theorem dX12_tokenize_41 : decode cX12_tokenize 41 = .ok (.if_icmp .ge 31, 3) := by decide +kernel
theorem dX12_tokenize_44 : decode cX12_tokenize 44 = .ok (.aload_n 0, 1) := by decide +kernel
theorem dX12_tokenize_45 : decode cX12_tokenize 45 = .ok (.getfield 24, 3) := by decide +kernel
theorem dX12_tokenize_48 : decode cX12_tokenize 48 = .ok (.iload_n 1, 1) := by decide +kernel
theorem dX12_tokenize_49 : decode cX12_tokenize 49 = .ok (.iaload, 1) := by decide +kernel
theorem dX12_tokenize_50 : decode cX12_tokenize 50 = .ok (.bipush 32, 2) := by decide +kernel
theorem dX12_tokenize_52 : decode cX12_tokenize 52 = .ok (.if_icmp .eq 14, 3) := by decide +kernel
theorem dX12_tokenize_55 : decode cX12_tokenize 55 = .ok (.aload_n 0, 1) := by decide +kernel
theorem dX12_tokenize_56 : decode cX12_tokenize 56 = .ok (.getfield 24, 3) := by decide +kernel
theorem dX12_tokenize_59 : decode cX12_tokenize 59 = .ok (.iload_n 1, 1) := by decide +kernel
theorem dX12_tokenize_60 : decode cX12_tokenize 60 = .ok (.iaload, 1) := by decide +kernel
theorem dX12_tokenize_61 : decode cX12_tokenize 61 = .ok (.bipush 10, 2) := by decide +kernel
theorem dX12_tokenize_63 : decode cX12_tokenize 63 = .ok (.if_icmp .ne 9, 3) := by decide +kernel
theorem dX12_tokenize_66 : decode cX12_tokenize 66 = .ok (.iinc 1 1, 3) := by decide +kernel
theorem dX12_tokenize_69 : decode cX12_tokenize 69 = .ok (.goto (-33), 3) := by decide +kernel
theorem dX12_tokenize_72 : decode cX12_tokenize 72 = .ok (.aload_n 0, 1) := by decide +kernel
theorem dX12_tokenize_73 : decode cX12_tokenize 73 = .ok (.getfield 30, 3) := by decide +kernel
theorem dX12_tokenize_76 : decode cX12_tokenize 76 = .ok (.aload_n 0, 1) := by decide +kernel
theorem dX12_tokenize_77 : decode cX12_tokenize 77 = .ok (.getfield 293, 3) := by decide +kernel
theorem dX12_tokenize_80 : decode cX12_tokenize 80 = .ok (.iload_n 1, 1) := by decide +kernel
theorem dX12_tokenize_81 : decode cX12_tokenize 81 = .ok (.iastore, 1) := by decide +kernel
theorem dX12_tokenize_82 : decode cX12_tokenize 82 = .ok (.aload_n 0, 1) := by decide +kernel
theorem dX12_tokenize_83 : decode cX12_tokenize 83 = .ok (.getfield 33, 3) := by decide +kernel
theorem dX12_tokenize_86 : decode cX12_tokenize 86 = .ok (.aload_n 0, 1) := by decide +kernel
theorem dX12_tokenize_87 : decode cX12_tokenize 87 = .ok (.getfield 293, 3) := by decide +kernel
theorem dX12_tokenize_90 : decode cX12_tokenize 90 = .ok (.lconst 0, 1) := by decide +kernel
theorem dX12_tokenize_91 : decode cX12_tokenize 91 = .ok (.lastore, 1) := by decide +kernel
theorem dX12_tokenize_92 : decode cX12_tokenize 92 = .ok (.aload_n 0, 1) := by decide +kernel
theorem dX12_tokenize_93 : decode cX12_tokenize 93 = .ok (.getfield 36, 3) := by decide +kernel
theorem dX12_tokenize_96 : decode cX12_tokenize 96 = .ok (.aload_n 0, 1) := by decide +kernel
theorem dX12_tokenize_97 : decode cX12_tokenize 97 = .ok (.getfield 293, 3) := by decide +kernel
theorem dX12_tokenize_100 : decode cX12_tokenize 100 = .ok (.iconst 0, 1) := by decide +kernel
theorem dX12_tokenize_101 : decode cX12_tokenize 101 = .ok (.iastore, 1) := by decide +kernel
theorem dX12_tokenize_102 : decode cX12_tokenize 102 = .ok (.iload_n 1, 1) := by decide +kernel
theorem dX12_tokenize_103 : decode cX12_tokenize 103 = .ok (.aload_n 0, 1) := by decide +kernel
theorem dX12_tokenize_104 : decode cX12_tokenize 104 = .ok (.getfield 290, 3) := by decide +kernel
theorem dX12_tokenize_107 : decode cX12_tokenize 107 = .ok (.if_icmp .ne 17, 3) := by decide +kernel
theorem dX12_tokenize_110 : decode cX12_tokenize 110 = .ok (.aload_n 0, 1) := by decide +kernel
theorem dX12_tokenize_111 : decode cX12_tokenize 111 = .ok (.getfield 27, 3) := by decide +kernel
theorem dX12_tokenize_114 : decode cX12_tokenize 114 = .ok (.aload_n 0, 1) := by decide +kernel
theorem dX12_tokenize_115 : decode cX12_tokenize 115 = .ok (.getfield 293, 3) := by decide +kernel
theorem dX12_tokenize_118 : decode cX12_tokenize 118 = .ok (.bipush 43, 2) := by decide +kernel
theorem dX12_tokenize_120 : decode cX12_tokenize 120 = .ok (.iastore, 1) := by decide +kernel
theorem dX12_tokenize_121 : decode cX12_tokenize 121 = .ok (.goto 9, 3) := by decide +kernel
theorem dX12_tokenize_124 : decode cX12_tokenize 124 = .ok (.aload_n 0, 1) := by decide +kernel
theorem dX12_tokenize_125 : decode cX12_tokenize 125 = .ok (.iload_n 1, 1) := by decide +kernel
theorem dX12_tokenize_126 : decode cX12_tokenize 126 = .ok (.invokevirtual 305, 3) := by decide +kernel
theorem dX12_tokenize_129 : decode cX12_tokenize 129 = .ok (.istore_n 1, 1) := by decide +kernel
theorem dX12_tokenize_130 : decode cX12_tokenize 130 = .ok (.aload_n 0, 1) := by decide +kernel
theorem dX12_tokenize_131 : decode cX12_tokenize 131 = .ok (.getfield 27, 3) := by decide +kernel
theorem dX12_tokenize_134 : decode cX12_tokenize 134 = .ok (.aload_n 0, 1) := by decide +kernel
theorem dX12_tokenize_135 : decode cX12_tokenize 135 = .ok (.getfield 293, 3) := by decide +kernel
theorem dX12_tokenize_138 : decode cX12_tokenize 138 = .ok (.iaload, 1) := by decide +kernel
theorem dX12_tokenize_139 : decode cX12_tokenize 139 = .ok (.istore_n 2, 1) := by decide +kernel
theorem dX12_tokenize_140 : decode cX12_tokenize 140 = .ok (.aload_n 0, 1) := by decide +kernel
theorem dX12_tokenize_141 : decode cX12_tokenize 141 = .ok (.dup, 1) := by decide +kernel
theorem dX12_tokenize_142 : decode cX12_tokenize 142 = .ok (.getfield 293, 3) := by decide +kernel
theorem dX12_tokenize_145 : decode cX12_tokenize 145 = .ok (.iconst 1, 1) := by decide +kernel
theorem dX12_tokenize_146 : decode cX12_tokenize 146 = .ok (.iadd, 1) := by decide +kernel
theorem dX12_tokenize_147 : decode cX12_tokenize 147 = .ok (.putfield 293, 3) := by decide +kernel
theorem dX12_tokenize_150 : decode cX12_tokenize 150 = .ok (.goto (-126), 3) := by decide +kernel
theorem dX12_tokenize_153 : decode cX12_tokenize 153 = .ok (.aload_n 0, 1) := by decide +kernel
theorem dX12_tokenize_154 : decode cX12_tokenize 154 = .ok (.iconst 0, 1) := by decide +kernel
theorem dX12_tokenize_155 : decode cX12_tokenize 155 = .ok (.putfield 290, 3) := by decide +kernel
theorem dX12_tokenize_158 : decode cX12_tokenize 158 = .ok (.return_, 1) := by decide +kernel
theorem dX12_token_0 : decode cX12_token 0 = .ok (.aload_n 0, 1) := by decide +kernel
theorem dX12_token_1 : decode cX12_token 1 = .ok (.getfield 24, 3) := by decide +kernel
theorem dX12_token_4 : decode cX12_token 4 = .ok (.iload_n 1, 1) := by decide +kernel
theorem dX12_token_5 : decode cX12_token 5 = .ok (.iaload, 1) := by decide +kernel
theorem dX12_token_6 : decode cX12_token 6 = .ok (.istore_n 2, 1) := by decide +kernel
theorem dX12_token_7 : decode cX12_token 7 = .ok (.iload_n 1, 1) := by decide +kernel
theorem dX12_token_8 : decode cX12_token 8 = .ok (.istore_n 3, 1) := by decide +kernel
theorem dX12_token_9 : decode cX12_token 9 = .ok (.iload_n 2, 1) := by decide +kernel
theorem dX12_token_10 : decode cX12_token 10 = .ok (.invokestatic 309, 3) := by decide +kernel
theorem dX12_token_13 : decode cX12_token 13 = .ok (.ifCond .eq 88, 3) := by decide +kernel
theorem dX12_token_16 : decode cX12_token 16 = .ok (.lconst 0, 1) := by decide +kernel
theorem dX12_token_17 : decode cX12_token 17 = .ok (.lstore 4, 2) := by decide +kernel
theorem dX12_token_19 : decode cX12_token 19 = .ok (.aload_n 0, 1) := by decide +kernel
theorem dX12_token_20 : decode cX12_token 20 = .ok (.iload_n 3, 1) := by decide +kernel
theorem dX12_token_21 : decode cX12_token 21 = .ok (.invokevirtual 312, 3) := by decide +kernel
theorem dX12_token_24 : decode cX12_token 24 = .ok (.invokestatic 309, 3) := by decide +kernel
theorem dX12_token_27 : decode cX12_token 27 = .ok (.ifCond .ne 14, 3) := by decide +kernel
theorem dX12_token_30 : decode cX12_token 30 = .ok (.aload_n 0, 1) := by decide +kernel
theorem dX12_token_31 : decode cX12_token 31 = .ok (.iload_n 3, 1) := by decide +kernel
theorem dX12_token_32 : decode cX12_token 32 = .ok (.invokevirtual 312, 3) := by decide +kernel
theorem dX12_token_35 : decode cX12_token 35 = .ok (.invokestatic 315, 3) := by decide +kernel
theorem dX12_token_38 : decode cX12_token 38 = .ok (.ifCond .eq 23, 3) := by decide +kernel
theorem dX12_token_41 : decode cX12_token 41 = .ok (.lload 4, 2) := by decide +kernel
theorem dX12_token_43 : decode cX12_token 43 = .ok (.bipush 8, 2) := by decide +kernel
theorem dX12_token_45 : decode cX12_token 45 = .ok (.lshl, 1) := by decide +kernel
theorem dX12_token_46 : decode cX12_token 46 = .ok (.aload_n 0, 1) := by decide +kernel
theorem dX12_token_47 : decode cX12_token 47 = .ok (.iload_n 3, 1) := by decide +kernel
theorem dX12_token_48 : decode cX12_token 48 = .ok (.invokevirtual 312, 3) := by decide +kernel
theorem dX12_token_51 : decode cX12_token 51 = .ok (.i2l, 1) := by decide +kernel
theorem dX12_token_52 : decode cX12_token 52 = .ok (.lor, 1) := by decide +kernel
theorem dX12_token_53 : decode cX12_token 53 = .ok (.lstore 4, 2) := by decide +kernel
theorem dX12_token_55 : decode cX12_token 55 = .ok (.iinc 3 1, 3) := by decide +kernel
theorem dX12_token_58 : decode cX12_token 58 = .ok (.goto (-39), 3) := by decide +kernel
theorem dX12_token_61 : decode cX12_token 61 = .ok (.aload_n 0, 1) := by decide +kernel
theorem dX12_token_62 : decode cX12_token 62 = .ok (.getfield 27, 3) := by decide +kernel
theorem dX12_token_65 : decode cX12_token 65 = .ok (.aload_n 0, 1) := by decide +kernel
theorem dX12_token_66 : decode cX12_token 66 = .ok (.getfield 293, 3) := by decide +kernel
theorem dX12_token_69 : decode cX12_token 69 = .ok (.iload_n 3, 1) := by decide +kernel
theorem dX12_token_70 : decode cX12_token 70 = .ok (.iload_n 1, 1) := by decide +kernel
theorem dX12_token_71 : decode cX12_token 71 = .ok (.isub, 1) := by decide +kernel
theorem dX12_token_72 : decode cX12_token 72 = .ok (.bipush 8, 2) := by decide +kernel
theorem dX12_token_74 : decode cX12_token 74 = .ok (.if_icmp .le 8, 3) := by decide +kernel
theorem dX12_token_77 : decode cX12_token 77 = .ok (.bipush 44, 2) := by decide +kernel
theorem dX12_token_79 : decode cX12_token 79 = .ok (.goto 8, 3) := by decide +kernel
theorem dX12_token_82 : decode cX12_token 82 = .ok (.lload 4, 2) := by decide +kernel
theorem dX12_token_84 : decode cX12_token 84 = .ok (.invokestatic 318, 3) := by decide +kernel
theorem dX12_token_87 : decode cX12_token 87 = .ok (.iastore, 1) := by decide +kernel
theorem dX12_token_88 : decode cX12_token 88 = .ok (.aload_n 0, 1) := by decide +kernel
theorem dX12_token_89 : decode cX12_token 89 = .ok (.getfield 33, 3) := by decide +kernel
theorem dX12_token_92 : decode cX12_token 92 = .ok (.aload_n 0, 1) := by decide +kernel
theorem dX12_token_93 : decode cX12_token 93 = .ok (.getfield 293, 3) := by decide +kernel
theorem dX12_token_96 : decode cX12_token 96 = .ok (.lload 4, 2) := by decide +kernel
theorem dX12_token_98 : decode cX12_token 98 = .ok (.lastore, 1) := by decide +kernel
theorem dX12_token_99 : decode cX12_token 99 = .ok (.iload_n 3, 1) := by decide +kernel
theorem dX12_token_100 : decode cX12_token 100 = .ok (.ireturn, 1) := by decide +kernel
theorem dX12_token_101 : decode cX12_token 101 = .ok (.iload_n 2, 1) := by decide +kernel
theorem dX12_token_102 : decode cX12_token 102 = .ok (.invokestatic 315, 3) := by decide +kernel
theorem dX12_token_105 : decode cX12_token 105 = .ok (.ifCond .eq 9, 3) := by decide +kernel
theorem dX12_token_108 : decode cX12_token 108 = .ok (.aload_n 0, 1) := by decide +kernel
theorem dX12_token_109 : decode cX12_token 109 = .ok (.iload_n 1, 1) := by decide +kernel
theorem dX12_token_110 : decode cX12_token 110 = .ok (.invokevirtual 322, 3) := by decide +kernel
theorem dX12_token_113 : decode cX12_token 113 = .ok (.ireturn, 1) := by decide +kernel
theorem dX12_token_114 : decode cX12_token 114 = .ok (.aload_n 0, 1) := by decide +kernel
theorem dX12_token_115 : decode cX12_token 115 = .ok (.iload_n 1, 1) := by decide +kernel
theorem dX12_token_116 : decode cX12_token 116 = .ok (.iconst 1, 1) := by decide +kernel
theorem dX12_token_117 : decode cX12_token 117 = .ok (.iadd, 1) := by decide +kernel
theorem dX12_token_118 : decode cX12_token 118 = .ok (.invokevirtual 312, 3) := by decide +kernel
theorem dX12_token_121 : decode cX12_token 121 = .ok (.istore 4, 2) := by decide +kernel
theorem dX12_token_123 : decode cX12_token 123 = .ok (.iload_n 2, 1) := by decide +kernel
theorem dX12_token_124 : decode cX12_token 124 = .ok (.bipush 33, 2) := by decide +kernel
theorem dX12_token_126 : decode cX12_token 126 = .ok (.if_icmp .ne 30, 3) := by decide +kernel
theorem dX12_token_129 : decode cX12_token 129 = .ok (.aload_n 0, 1) := by decide +kernel
theorem dX12_token_130 : decode cX12_token 130 = .ok (.getfield 27, 3) := by decide +kernel
theorem dX12_token_133 : decode cX12_token 133 = .ok (.aload_n 0, 1) := by decide +kernel
theorem dX12_token_134 : decode cX12_token 134 = .ok (.getfield 293, 3) := by decide +kernel
theorem dX12_token_137 : decode cX12_token 137 = .ok (.iload 4, 2) := by decide +kernel
theorem dX12_token_139 : decode cX12_token 139 = .ok (.bipush 61, 2) := by decide +kernel
theorem dX12_token_141 : decode cX12_token 141 = .ok (.if_icmp .ne 8, 3) := by decide +kernel
theorem dX12_token_144 : decode cX12_token 144 = .ok (.bipush 45, 2) := by decide +kernel
theorem dX12_token_146 : decode cX12_token 146 = .ok (.goto 5, 3) := by decide +kernel
theorem dX12_token_149 : decode cX12_token 149 = .ok (.bipush 44, 2) := by decide +kernel
theorem dX12_token_151 : decode cX12_token 151 = .ok (.iastore, 1) := by decide +kernel
theorem dX12_token_152 : decode cX12_token 152 = .ok (.iload_n 1, 1) := by decide +kernel
theorem dX12_token_153 : decode cX12_token 153 = .ok (.iconst 2, 1) := by decide +kernel
theorem dX12_token_154 : decode cX12_token 154 = .ok (.iadd, 1) := by decide +kernel
theorem dX12_token_155 : decode cX12_token 155 = .ok (.ireturn, 1) := by decide +kernel
theorem dX12_token_156 : decode cX12_token 156 = .ok (.iload_n 2, 1) := by decide +kernel
theorem dX12_token_157 : decode cX12_token 157 = .ok (.bipush 60, 2) := by decide +kernel
theorem dX12_token_159 : decode cX12_token 159 = .ok (.if_icmp .ne 25, 3) := by decide +kernel
theorem dX12_token_162 : decode cX12_token 162 = .ok (.iload 4, 2) := by decide +kernel
theorem dX12_token_164 : decode cX12_token 164 = .ok (.bipush 61, 2) := by decide +kernel
theorem dX12_token_166 : decode cX12_token 166 = .ok (.if_icmp .ne 18, 3) := by decide +kernel
theorem dX12_token_169 : decode cX12_token 169 = .ok (.aload_n 0, 1) := by decide +kernel
theorem dX12_token_170 : decode cX12_token 170 = .ok (.getfield 27, 3) := by decide +kernel
theorem dX12_token_173 : decode cX12_token 173 = .ok (.aload_n 0, 1) := by decide +kernel
theorem dX12_token_174 : decode cX12_token 174 = .ok (.getfield 293, 3) := by decide +kernel
theorem dX12_token_177 : decode cX12_token 177 = .ok (.bipush 46, 2) := by decide +kernel
theorem dX12_token_179 : decode cX12_token 179 = .ok (.iastore, 1) := by decide +kernel
theorem dX12_token_180 : decode cX12_token 180 = .ok (.iload_n 1, 1) := by decide +kernel
theorem dX12_token_181 : decode cX12_token 181 = .ok (.iconst 2, 1) := by decide +kernel
theorem dX12_token_182 : decode cX12_token 182 = .ok (.iadd, 1) := by decide +kernel
theorem dX12_token_183 : decode cX12_token 183 = .ok (.ireturn, 1) := by decide +kernel
theorem dX12_token_184 : decode cX12_token 184 = .ok (.iload_n 2, 1) := by decide +kernel
theorem dX12_token_185 : decode cX12_token 185 = .ok (.bipush 59, 2) := by decide +kernel
theorem dX12_token_187 : decode cX12_token 187 = .ok (.if_icmp .eq 75, 3) := by decide +kernel
theorem dX12_token_190 : decode cX12_token 190 = .ok (.iload_n 2, 1) := by decide +kernel
theorem dX12_token_191 : decode cX12_token 191 = .ok (.bipush 61, 2) := by decide +kernel
theorem dX12_token_193 : decode cX12_token 193 = .ok (.if_icmp .eq 69, 3) := by decide +kernel
theorem dX12_token_196 : decode cX12_token 196 = .ok (.iload_n 2, 1) := by decide +kernel
theorem dX12_token_197 : decode cX12_token 197 = .ok (.bipush 60, 2) := by decide +kernel
theorem dX12_token_199 : decode cX12_token 199 = .ok (.if_icmp .eq 63, 3) := by decide +kernel
theorem dX12_token_202 : decode cX12_token 202 = .ok (.iload_n 2, 1) := by decide +kernel
theorem dX12_token_203 : decode cX12_token 203 = .ok (.bipush 43, 2) := by decide +kernel
theorem dX12_token_205 : decode cX12_token 205 = .ok (.if_icmp .eq 57, 3) := by decide +kernel
theorem dX12_token_208 : decode cX12_token 208 = .ok (.iload_n 2, 1) := by decide +kernel
theorem dX12_token_209 : decode cX12_token 209 = .ok (.bipush 45, 2) := by decide +kernel
theorem dX12_token_211 : decode cX12_token 211 = .ok (.if_icmp .eq 51, 3) := by decide +kernel
theorem dX12_token_214 : decode cX12_token 214 = .ok (.iload_n 2, 1) := by decide +kernel
theorem dX12_token_215 : decode cX12_token 215 = .ok (.bipush 42, 2) := by decide +kernel
theorem dX12_token_217 : decode cX12_token 217 = .ok (.if_icmp .eq 45, 3) := by decide +kernel
theorem dX12_token_220 : decode cX12_token 220 = .ok (.iload_n 2, 1) := by decide +kernel
theorem dX12_token_221 : decode cX12_token 221 = .ok (.bipush 47, 2) := by decide +kernel
theorem dX12_token_223 : decode cX12_token 223 = .ok (.if_icmp .eq 39, 3) := by decide +kernel
theorem dX12_token_226 : decode cX12_token 226 = .ok (.iload_n 2, 1) := by decide +kernel
theorem dX12_token_227 : decode cX12_token 227 = .ok (.bipush 37, 2) := by decide +kernel
theorem dX12_token_229 : decode cX12_token 229 = .ok (.if_icmp .eq 33, 3) := by decide +kernel
theorem dX12_token_232 : decode cX12_token 232 = .ok (.iload_n 2, 1) := by decide +kernel
theorem dX12_token_233 : decode cX12_token 233 = .ok (.bipush 40, 2) := by decide +kernel
theorem dX12_token_235 : decode cX12_token 235 = .ok (.if_icmp .eq 27, 3) := by decide +kernel
theorem dX12_token_238 : decode cX12_token 238 = .ok (.iload_n 2, 1) := by decide +kernel
theorem dX12_token_239 : decode cX12_token 239 = .ok (.bipush 41, 2) := by decide +kernel
theorem dX12_token_241 : decode cX12_token 241 = .ok (.if_icmp .eq 21, 3) := by decide +kernel
theorem dX12_token_244 : decode cX12_token 244 = .ok (.iload_n 2, 1) := by decide +kernel
theorem dX12_token_245 : decode cX12_token 245 = .ok (.bipush 91, 2) := by decide +kernel
theorem dX12_token_247 : decode cX12_token 247 = .ok (.if_icmp .eq 15, 3) := by decide +kernel
theorem dX12_token_250 : decode cX12_token 250 = .ok (.iload_n 2, 1) := by decide +kernel
theorem dX12_token_251 : decode cX12_token 251 = .ok (.bipush 93, 2) := by decide +kernel
theorem dX12_token_253 : decode cX12_token 253 = .ok (.if_icmp .eq 9, 3) := by decide +kernel
theorem dX12_token_256 : decode cX12_token 256 = .ok (.iload_n 2, 1) := by decide +kernel
theorem dX12_token_257 : decode cX12_token 257 = .ok (.bipush 44, 2) := by decide +kernel
theorem dX12_token_259 : decode cX12_token 259 = .ok (.if_icmp .ne 7, 3) := by decide +kernel
theorem dX12_token_262 : decode cX12_token 262 = .ok (.iconst 1, 1) := by decide +kernel
theorem dX12_token_263 : decode cX12_token 263 = .ok (.goto 4, 3) := by decide +kernel
theorem dX12_token_266 : decode cX12_token 266 = .ok (.iconst 0, 1) := by decide +kernel
theorem dX12_token_267 : decode cX12_token 267 = .ok (.istore 5, 2) := by decide +kernel
theorem dX12_token_269 : decode cX12_token 269 = .ok (.aload_n 0, 1) := by decide +kernel
theorem dX12_token_270 : decode cX12_token 270 = .ok (.getfield 27, 3) := by decide +kernel
theorem dX12_token_273 : decode cX12_token 273 = .ok (.aload_n 0, 1) := by decide +kernel
theorem dX12_token_274 : decode cX12_token 274 = .ok (.getfield 293, 3) := by decide +kernel
theorem dX12_token_277 : decode cX12_token 277 = .ok (.iload 5, 2) := by decide +kernel
theorem dX12_token_279 : decode cX12_token 279 = .ok (.ifCond .eq 10, 3) := by decide +kernel
theorem dX12_token_282 : decode cX12_token 282 = .ok (.bipush 100, 2) := by decide +kernel
theorem dX12_token_284 : decode cX12_token 284 = .ok (.iload_n 2, 1) := by decide +kernel
theorem dX12_token_285 : decode cX12_token 285 = .ok (.iadd, 1) := by decide +kernel
theorem dX12_token_286 : decode cX12_token 286 = .ok (.goto 5, 3) := by decide +kernel
theorem dX12_token_289 : decode cX12_token 289 = .ok (.bipush 44, 2) := by decide +kernel
theorem dX12_token_291 : decode cX12_token 291 = .ok (.iastore, 1) := by decide +kernel
theorem dX12_token_292 : decode cX12_token 292 = .ok (.iload_n 1, 1) := by decide +kernel
theorem dX12_token_293 : decode cX12_token 293 = .ok (.iconst 1, 1) := by decide +kernel
theorem dX12_token_294 : decode cX12_token 294 = .ok (.iadd, 1) := by decide +kernel
theorem dX12_token_295 : decode cX12_token 295 = .ok (.ireturn, 1) := by decide +kernel
theorem dX12_number_0 : decode cX12_number 0 = .ok (.iload_n 1, 1) := by decide +kernel
theorem dX12_number_1 : decode cX12_number 1 = .ok (.istore_n 2, 1) := by decide +kernel
theorem dX12_number_2 : decode cX12_number 2 = .ok (.lconst 0, 1) := by decide +kernel
theorem dX12_number_3 : decode cX12_number 3 = .ok (.lstore_n 3, 1) := by decide +kernel
theorem dX12_number_4 : decode cX12_number 4 = .ok (.aload_n 0, 1) := by decide +kernel
theorem dX12_number_5 : decode cX12_number 5 = .ok (.iload_n 2, 1) := by decide +kernel
theorem dX12_number_6 : decode cX12_number 6 = .ok (.invokevirtual 312, 3) := by decide +kernel
theorem dX12_number_9 : decode cX12_number 9 = .ok (.invokestatic 315, 3) := by decide +kernel
theorem dX12_number_12 : decode cX12_number 12 = .ok (.ifCond .eq 38, 3) := by decide +kernel
theorem dX12_number_15 : decode cX12_number 15 = .ok (.iload_n 2, 1) := by decide +kernel
theorem dX12_number_16 : decode cX12_number 16 = .ok (.iload_n 1, 1) := by decide +kernel
theorem dX12_number_17 : decode cX12_number 17 = .ok (.isub, 1) := by decide +kernel
theorem dX12_number_18 : decode cX12_number 18 = .ok (.bipush 15, 2) := by decide +kernel
theorem dX12_number_20 : decode cX12_number 20 = .ok (.if_icmp .ge 22, 3) := by decide +kernel
theorem dX12_number_23 : decode cX12_number 23 = .ok (.ldc2_w 325, 3) := by decide +kernel
theorem dX12_number_26 : decode cX12_number 26 = .ok (.lload_n 3, 1) := by decide +kernel
theorem dX12_number_27 : decode cX12_number 27 = .ok (.lmul, 1) := by decide +kernel
theorem dX12_number_28 : decode cX12_number 28 = .ok (.aload_n 0, 1) := by decide +kernel
theorem dX12_number_29 : decode cX12_number 29 = .ok (.iload_n 2, 1) := by decide +kernel
theorem dX12_number_30 : decode cX12_number 30 = .ok (.invokevirtual 312, 3) := by decide +kernel
theorem dX12_number_33 : decode cX12_number 33 = .ok (.i2l, 1) := by decide +kernel
theorem dX12_number_34 : decode cX12_number 34 = .ok (.ladd, 1) := by decide +kernel
theorem dX12_number_35 : decode cX12_number 35 = .ok (.ldc2_w 327, 3) := by decide +kernel
theorem dX12_number_38 : decode cX12_number 38 = .ok (.lsub, 1) := by decide +kernel
theorem dX12_number_39 : decode cX12_number 39 = .ok (.goto 4, 3) := by decide +kernel
theorem dX12_number_42 : decode cX12_number 42 = .ok (.lload_n 3, 1) := by decide +kernel
theorem dX12_number_43 : decode cX12_number 43 = .ok (.lstore_n 3, 1) := by decide +kernel
theorem dX12_number_44 : decode cX12_number 44 = .ok (.iinc 2 1, 3) := by decide +kernel
theorem dX12_number_47 : decode cX12_number 47 = .ok (.goto (-43), 3) := by decide +kernel
theorem dX12_number_50 : decode cX12_number 50 = .ok (.aload_n 0, 1) := by decide +kernel
theorem dX12_number_51 : decode cX12_number 51 = .ok (.getfield 27, 3) := by decide +kernel
theorem dX12_number_54 : decode cX12_number 54 = .ok (.aload_n 0, 1) := by decide +kernel
theorem dX12_number_55 : decode cX12_number 55 = .ok (.getfield 293, 3) := by decide +kernel
theorem dX12_number_58 : decode cX12_number 58 = .ok (.iload_n 2, 1) := by decide +kernel
theorem dX12_number_59 : decode cX12_number 59 = .ok (.iload_n 1, 1) := by decide +kernel
theorem dX12_number_60 : decode cX12_number 60 = .ok (.isub, 1) := by decide +kernel
theorem dX12_number_61 : decode cX12_number 61 = .ok (.bipush 15, 2) := by decide +kernel
theorem dX12_number_63 : decode cX12_number 63 = .ok (.if_icmp .le 8, 3) := by decide +kernel
theorem dX12_number_66 : decode cX12_number 66 = .ok (.bipush 44, 2) := by decide +kernel
theorem dX12_number_68 : decode cX12_number 68 = .ok (.goto 5, 3) := by decide +kernel
theorem dX12_number_71 : decode cX12_number 71 = .ok (.bipush 41, 2) := by decide +kernel
theorem dX12_number_73 : decode cX12_number 73 = .ok (.iastore, 1) := by decide +kernel
theorem dX12_number_74 : decode cX12_number 74 = .ok (.aload_n 0, 1) := by decide +kernel
theorem dX12_number_75 : decode cX12_number 75 = .ok (.iload_n 2, 1) := by decide +kernel
theorem dX12_number_76 : decode cX12_number 76 = .ok (.invokevirtual 312, 3) := by decide +kernel
theorem dX12_number_79 : decode cX12_number 79 = .ok (.bipush 46, 2) := by decide +kernel
theorem dX12_number_81 : decode cX12_number 81 = .ok (.if_icmp .ne 128, 3) := by decide +kernel
theorem dX12_number_84 : decode cX12_number 84 = .ok (.aload_n 0, 1) := by decide +kernel
theorem dX12_number_85 : decode cX12_number 85 = .ok (.iload_n 2, 1) := by decide +kernel
theorem dX12_number_86 : decode cX12_number 86 = .ok (.iconst 1, 1) := by decide +kernel
theorem dX12_number_87 : decode cX12_number 87 = .ok (.iadd, 1) := by decide +kernel
theorem dX12_number_88 : decode cX12_number 88 = .ok (.invokevirtual 312, 3) := by decide +kernel
theorem dX12_number_91 : decode cX12_number 91 = .ok (.invokestatic 315, 3) := by decide +kernel
theorem dX12_number_94 : decode cX12_number 94 = .ok (.ifCond .eq 115, 3) := by decide +kernel
theorem dX12_number_97 : decode cX12_number 97 = .ok (.iload_n 2, 1) := by decide +kernel
theorem dX12_number_98 : decode cX12_number 98 = .ok (.iload_n 1, 1) := by decide +kernel
theorem dX12_number_99 : decode cX12_number 99 = .ok (.isub, 1) := by decide +kernel
theorem dX12_number_100 : decode cX12_number 100 = .ok (.istore 5, 2) := by decide +kernel
theorem dX12_number_102 : decode cX12_number 102 = .ok (.iload_n 2, 1) := by decide +kernel
theorem dX12_number_103 : decode cX12_number 103 = .ok (.istore 6, 2) := by decide +kernel
theorem dX12_number_105 : decode cX12_number 105 = .ok (.iinc 2 1, 3) := by decide +kernel
theorem dX12_number_108 : decode cX12_number 108 = .ok (.aload_n 0, 1) := by decide +kernel
theorem dX12_number_109 : decode cX12_number 109 = .ok (.iload_n 2, 1) := by decide +kernel
theorem dX12_number_110 : decode cX12_number 110 = .ok (.invokevirtual 312, 3) := by decide +kernel
theorem dX12_number_113 : decode cX12_number 113 = .ok (.invokestatic 315, 3) := by decide +kernel
theorem dX12_number_116 : decode cX12_number 116 = .ok (.ifCond .eq 46, 3) := by decide +kernel
theorem dX12_number_119 : decode cX12_number 119 = .ok (.iload_n 2, 1) := by decide +kernel
theorem dX12_number_120 : decode cX12_number 120 = .ok (.iload 6, 2) := by decide +kernel
theorem dX12_number_122 : decode cX12_number 122 = .ok (.isub, 1) := by decide +kernel
theorem dX12_number_123 : decode cX12_number 123 = .ok (.bipush 6, 2) := by decide +kernel
theorem dX12_number_125 : decode cX12_number 125 = .ok (.if_icmp .gt 29, 3) := by decide +kernel
theorem dX12_number_128 : decode cX12_number 128 = .ok (.iload 5, 2) := by decide +kernel
theorem dX12_number_130 : decode cX12_number 130 = .ok (.bipush 10, 2) := by decide +kernel
theorem dX12_number_132 : decode cX12_number 132 = .ok (.if_icmp .ge 22, 3) := by decide +kernel
theorem dX12_number_135 : decode cX12_number 135 = .ok (.ldc2_w 325, 3) := by decide +kernel
theorem dX12_number_138 : decode cX12_number 138 = .ok (.lload_n 3, 1) := by decide +kernel
theorem dX12_number_139 : decode cX12_number 139 = .ok (.lmul, 1) := by decide +kernel
theorem dX12_number_140 : decode cX12_number 140 = .ok (.aload_n 0, 1) := by decide +kernel
theorem dX12_number_141 : decode cX12_number 141 = .ok (.iload_n 2, 1) := by decide +kernel
theorem dX12_number_142 : decode cX12_number 142 = .ok (.invokevirtual 312, 3) := by decide +kernel
theorem dX12_number_145 : decode cX12_number 145 = .ok (.i2l, 1) := by decide +kernel
theorem dX12_number_146 : decode cX12_number 146 = .ok (.ladd, 1) := by decide +kernel
theorem dX12_number_147 : decode cX12_number 147 = .ok (.ldc2_w 327, 3) := by decide +kernel
theorem dX12_number_150 : decode cX12_number 150 = .ok (.lsub, 1) := by decide +kernel
theorem dX12_number_151 : decode cX12_number 151 = .ok (.goto 4, 3) := by decide +kernel
theorem dX12_number_154 : decode cX12_number 154 = .ok (.lload_n 3, 1) := by decide +kernel
theorem dX12_number_155 : decode cX12_number 155 = .ok (.lstore_n 3, 1) := by decide +kernel
theorem dX12_number_156 : decode cX12_number 156 = .ok (.iinc 2 1, 3) := by decide +kernel
theorem dX12_number_159 : decode cX12_number 159 = .ok (.goto (-51), 3) := by decide +kernel
theorem dX12_number_162 : decode cX12_number 162 = .ok (.aload_n 0, 1) := by decide +kernel
theorem dX12_number_163 : decode cX12_number 163 = .ok (.getfield 36, 3) := by decide +kernel
theorem dX12_number_166 : decode cX12_number 166 = .ok (.aload_n 0, 1) := by decide +kernel
theorem dX12_number_167 : decode cX12_number 167 = .ok (.getfield 293, 3) := by decide +kernel
theorem dX12_number_170 : decode cX12_number 170 = .ok (.iload_n 2, 1) := by decide +kernel
theorem dX12_number_171 : decode cX12_number 171 = .ok (.iload 6, 2) := by decide +kernel
theorem dX12_number_173 : decode cX12_number 173 = .ok (.isub, 1) := by decide +kernel
theorem dX12_number_174 : decode cX12_number 174 = .ok (.iconst 1, 1) := by decide +kernel
theorem dX12_number_175 : decode cX12_number 175 = .ok (.isub, 1) := by decide +kernel
theorem dX12_number_176 : decode cX12_number 176 = .ok (.iastore, 1) := by decide +kernel
theorem dX12_number_177 : decode cX12_number 177 = .ok (.aload_n 0, 1) := by decide +kernel
theorem dX12_number_178 : decode cX12_number 178 = .ok (.getfield 27, 3) := by decide +kernel
theorem dX12_number_181 : decode cX12_number 181 = .ok (.aload_n 0, 1) := by decide +kernel
theorem dX12_number_182 : decode cX12_number 182 = .ok (.getfield 293, 3) := by decide +kernel
theorem dX12_number_185 : decode cX12_number 185 = .ok (.iload 5, 2) := by decide +kernel
theorem dX12_number_187 : decode cX12_number 187 = .ok (.bipush 9, 2) := by decide +kernel
theorem dX12_number_189 : decode cX12_number 189 = .ok (.if_icmp .gt 12, 3) := by decide +kernel
theorem dX12_number_192 : decode cX12_number 192 = .ok (.iload_n 2, 1) := by decide +kernel
theorem dX12_number_193 : decode cX12_number 193 = .ok (.iload 6, 2) := by decide +kernel
theorem dX12_number_195 : decode cX12_number 195 = .ok (.isub, 1) := by decide +kernel
theorem dX12_number_196 : decode cX12_number 196 = .ok (.bipush 7, 2) := by decide +kernel
theorem dX12_number_198 : decode cX12_number 198 = .ok (.if_icmp .le 8, 3) := by decide +kernel
theorem dX12_number_201 : decode cX12_number 201 = .ok (.bipush 44, 2) := by decide +kernel
theorem dX12_number_203 : decode cX12_number 203 = .ok (.goto 5, 3) := by decide +kernel
theorem dX12_number_206 : decode cX12_number 206 = .ok (.bipush 42, 2) := by decide +kernel
theorem dX12_number_208 : decode cX12_number 208 = .ok (.iastore, 1) := by decide +kernel
theorem dX12_number_209 : decode cX12_number 209 = .ok (.aload_n 0, 1) := by decide +kernel
theorem dX12_number_210 : decode cX12_number 210 = .ok (.getfield 33, 3) := by decide +kernel
theorem dX12_number_213 : decode cX12_number 213 = .ok (.aload_n 0, 1) := by decide +kernel
theorem dX12_number_214 : decode cX12_number 214 = .ok (.getfield 293, 3) := by decide +kernel
theorem dX12_number_217 : decode cX12_number 217 = .ok (.lload_n 3, 1) := by decide +kernel
theorem dX12_number_218 : decode cX12_number 218 = .ok (.lastore, 1) := by decide +kernel
theorem dX12_number_219 : decode cX12_number 219 = .ok (.iload_n 2, 1) := by decide +kernel
theorem dX12_number_220 : decode cX12_number 220 = .ok (.ireturn, 1) := by decide +kernel
theorem dX12_fail_0 : decode cX12_fail 0 = .ok (.aload_n 0, 1) := by decide +kernel
theorem dX12_fail_1 : decode cX12_fail 1 = .ok (.getfield 299, 3) := by decide +kernel
theorem dX12_fail_4 : decode cX12_fail 4 = .ok (.ifCond .ne 13, 3) := by decide +kernel
theorem dX12_fail_7 : decode cX12_fail 7 = .ok (.aload_n 0, 1) := by decide +kernel
theorem dX12_fail_8 : decode cX12_fail 8 = .ok (.iload_n 1, 1) := by decide +kernel
theorem dX12_fail_9 : decode cX12_fail 9 = .ok (.putfield 299, 3) := by decide +kernel
theorem dX12_fail_12 : decode cX12_fail 12 = .ok (.aload_n 0, 1) := by decide +kernel
theorem dX12_fail_13 : decode cX12_fail 13 = .ok (.iload_n 2, 1) := by decide +kernel
theorem dX12_fail_14 : decode cX12_fail 14 = .ok (.putfield 302, 3) := by decide +kernel
theorem dX12_fail_17 : decode cX12_fail 17 = .ok (.return_, 1) := by decide +kernel
theorem dX12_now_0 : decode cX12_now 0 = .ok (.aload_n 0, 1) := by decide +kernel
theorem dX12_now_1 : decode cX12_now 1 = .ok (.getfield 27, 3) := by decide +kernel
theorem dX12_now_4 : decode cX12_now 4 = .ok (.aload_n 0, 1) := by decide +kernel
theorem dX12_now_5 : decode cX12_now 5 = .ok (.getfield 296, 3) := by decide +kernel
theorem dX12_now_8 : decode cX12_now 8 = .ok (.iaload, 1) := by decide +kernel
theorem dX12_now_9 : decode cX12_now 9 = .ok (.ireturn, 1) := by decide +kernel
theorem dX12_is_0 : decode cX12_is 0 = .ok (.aload_n 0, 1) := by decide +kernel
theorem dX12_is_1 : decode cX12_is 1 = .ok (.getfield 299, 3) := by decide +kernel
theorem dX12_is_4 : decode cX12_is 4 = .ok (.ifCond .ne 20, 3) := by decide +kernel
theorem dX12_is_7 : decode cX12_is 7 = .ok (.aload_n 0, 1) := by decide +kernel
theorem dX12_is_8 : decode cX12_is 8 = .ok (.getfield 27, 3) := by decide +kernel
theorem dX12_is_11 : decode cX12_is 11 = .ok (.aload_n 0, 1) := by decide +kernel
theorem dX12_is_12 : decode cX12_is 12 = .ok (.getfield 296, 3) := by decide +kernel
theorem dX12_is_15 : decode cX12_is 15 = .ok (.iaload, 1) := by decide +kernel
theorem dX12_is_16 : decode cX12_is 16 = .ok (.iload_n 1, 1) := by decide +kernel
theorem dX12_is_17 : decode cX12_is 17 = .ok (.if_icmp .ne 7, 3) := by decide +kernel
theorem dX12_is_20 : decode cX12_is 20 = .ok (.iconst 1, 1) := by decide +kernel
theorem dX12_is_21 : decode cX12_is 21 = .ok (.goto 4, 3) := by decide +kernel
theorem dX12_is_24 : decode cX12_is 24 = .ok (.iconst 0, 1) := by decide +kernel
theorem dX12_is_25 : decode cX12_is 25 = .ok (.ireturn, 1) := by decide +kernel
theorem dX12_wrong_0 : decode cX12_wrong 0 = .ok (.aload_n 0, 1) := by decide +kernel
theorem dX12_wrong_1 : decode cX12_wrong 1 = .ok (.aload_n 0, 1) := by decide +kernel
theorem dX12_wrong_2 : decode cX12_wrong 2 = .ok (.invokevirtual 329, 3) := by decide +kernel
theorem dX12_wrong_5 : decode cX12_wrong 5 = .ok (.bipush 44, 2) := by decide +kernel
theorem dX12_wrong_7 : decode cX12_wrong 7 = .ok (.if_icmp .ne 7, 3) := by decide +kernel
theorem dX12_wrong_10 : decode cX12_wrong 10 = .ok (.iconst 1, 1) := by decide +kernel
theorem dX12_wrong_11 : decode cX12_wrong 11 = .ok (.goto 4, 3) := by decide +kernel
theorem dX12_wrong_14 : decode cX12_wrong 14 = .ok (.iconst 2, 1) := by decide +kernel
theorem dX12_wrong_15 : decode cX12_wrong 15 = .ok (.aload_n 0, 1) := by decide +kernel
theorem dX12_wrong_16 : decode cX12_wrong 16 = .ok (.getfield 30, 3) := by decide +kernel
theorem dX12_wrong_19 : decode cX12_wrong 19 = .ok (.aload_n 0, 1) := by decide +kernel
theorem dX12_wrong_20 : decode cX12_wrong 20 = .ok (.getfield 296, 3) := by decide +kernel
theorem dX12_wrong_23 : decode cX12_wrong 23 = .ok (.iaload, 1) := by decide +kernel
theorem dX12_wrong_24 : decode cX12_wrong 24 = .ok (.invokevirtual 333, 3) := by decide +kernel
theorem dX12_wrong_27 : decode cX12_wrong 27 = .ok (.return_, 1) := by decide +kernel
theorem dX12_want_0 : decode cX12_want 0 = .ok (.aload_n 0, 1) := by decide +kernel
theorem dX12_want_1 : decode cX12_want 1 = .ok (.getfield 299, 3) := by decide +kernel
theorem dX12_want_4 : decode cX12_want 4 = .ok (.ifCond .ne 33, 3) := by decide +kernel
theorem dX12_want_7 : decode cX12_want 7 = .ok (.aload_n 0, 1) := by decide +kernel
theorem dX12_want_8 : decode cX12_want 8 = .ok (.getfield 27, 3) := by decide +kernel
theorem dX12_want_11 : decode cX12_want 11 = .ok (.aload_n 0, 1) := by decide +kernel
theorem dX12_want_12 : decode cX12_want 12 = .ok (.getfield 296, 3) := by decide +kernel
theorem dX12_want_15 : decode cX12_want 15 = .ok (.iaload, 1) := by decide +kernel
theorem dX12_want_16 : decode cX12_want 16 = .ok (.iload_n 1, 1) := by decide +kernel
theorem dX12_want_17 : decode cX12_want 17 = .ok (.if_icmp .ne 16, 3) := by decide +kernel
theorem dX12_want_20 : decode cX12_want 20 = .ok (.aload_n 0, 1) := by decide +kernel
theorem dX12_want_21 : decode cX12_want 21 = .ok (.dup, 1) := by decide +kernel
theorem dX12_want_22 : decode cX12_want 22 = .ok (.getfield 296, 3) := by decide +kernel
theorem dX12_want_25 : decode cX12_want 25 = .ok (.iconst 1, 1) := by decide +kernel
theorem dX12_want_26 : decode cX12_want 26 = .ok (.iadd, 1) := by decide +kernel
theorem dX12_want_27 : decode cX12_want 27 = .ok (.putfield 296, 3) := by decide +kernel
theorem dX12_want_30 : decode cX12_want 30 = .ok (.goto 7, 3) := by decide +kernel
theorem dX12_want_33 : decode cX12_want 33 = .ok (.aload_n 0, 1) := by decide +kernel
theorem dX12_want_34 : decode cX12_want 34 = .ok (.invokevirtual 337, 3) := by decide +kernel
theorem dX12_want_37 : decode cX12_want 37 = .ok (.return_, 1) := by decide +kernel
theorem dX12_takeName_0 : decode cX12_takeName 0 = .ok (.aload_n 0, 1) := by decide +kernel
theorem dX12_takeName_1 : decode cX12_takeName 1 = .ok (.invokevirtual 340, 3) := by decide +kernel
theorem dX12_takeName_4 : decode cX12_takeName 4 = .ok (.aload_n 0, 1) := by decide +kernel
theorem dX12_takeName_5 : decode cX12_takeName 5 = .ok (.getfield 27, 3) := by decide +kernel
theorem dX12_takeName_8 : decode cX12_takeName 8 = .ok (.iconst 0, 1) := by decide +kernel
theorem dX12_takeName_9 : decode cX12_takeName 9 = .ok (.iaload, 1) := by decide +kernel
theorem dX12_takeName_10 : decode cX12_takeName 10 = .ok (.bipush 40, 2) := by decide +kernel
theorem dX12_takeName_12 : decode cX12_takeName 12 = .ok (.if_icmp .ne 23, 3) := by decide +kernel
theorem dX12_takeName_15 : decode cX12_takeName 15 = .ok (.aload_n 0, 1) := by decide +kernel
theorem dX12_takeName_16 : decode cX12_takeName 16 = .ok (.getfield 27, 3) := by decide +kernel
theorem dX12_takeName_19 : decode cX12_takeName 19 = .ok (.iconst 1, 1) := by decide +kernel
theorem dX12_takeName_20 : decode cX12_takeName 20 = .ok (.iaload, 1) := by decide +kernel
theorem dX12_takeName_21 : decode cX12_takeName 21 = .ok (.bipush 43, 2) := by decide +kernel
theorem dX12_takeName_23 : decode cX12_takeName 23 = .ok (.if_icmp .ne 12, 3) := by decide +kernel
theorem dX12_takeName_26 : decode cX12_takeName 26 = .ok (.aload_n 0, 1) := by decide +kernel
theorem dX12_takeName_27 : decode cX12_takeName 27 = .ok (.getfield 33, 3) := by decide +kernel
theorem dX12_takeName_30 : decode cX12_takeName 30 = .ok (.iconst 0, 1) := by decide +kernel
theorem dX12_takeName_31 : decode cX12_takeName 31 = .ok (.laload, 1) := by decide +kernel
theorem dX12_takeName_32 : decode cX12_takeName 32 = .ok (.goto 4, 3) := by decide +kernel
theorem dX12_takeName_35 : decode cX12_takeName 35 = .ok (.lconst 0, 1) := by decide +kernel
theorem dX12_takeName_36 : decode cX12_takeName 36 = .ok (.lreturn, 1) := by decide +kernel
theorem dX12_node_0 : decode cX12_node 0 = .ok (.sipush 301, 3) := by decide +kernel
theorem dX12_node_3 : decode cX12_node 3 = .ok (.aload_n 0, 1) := by decide +kernel
theorem dX12_node_4 : decode cX12_node 4 = .ok (.getfield 343, 3) := by decide +kernel
theorem dX12_node_7 : decode cX12_node 7 = .ok (.imul, 1) := by decide +kernel
theorem dX12_node_8 : decode cX12_node 8 = .ok (.aload_n 0, 1) := by decide +kernel
theorem dX12_node_9 : decode cX12_node 9 = .ok (.getfield 57, 3) := by decide +kernel
theorem dX12_node_12 : decode cX12_node 12 = .ok (.aload_n 0, 1) := by decide +kernel
theorem dX12_node_13 : decode cX12_node 13 = .ok (.getfield 343, 3) := by decide +kernel
theorem dX12_node_16 : decode cX12_node 16 = .ok (.iaload, 1) := by decide +kernel
theorem dX12_node_17 : decode cX12_node 17 = .ok (.iadd, 1) := by decide +kernel
theorem dX12_node_18 : decode cX12_node 18 = .ok (.istore_n 2, 1) := by decide +kernel
theorem dX12_node_19 : decode cX12_node 19 = .ok (.aload_n 0, 1) := by decide +kernel
theorem dX12_node_20 : decode cX12_node 20 = .ok (.getfield 57, 3) := by decide +kernel
theorem dX12_node_23 : decode cX12_node 23 = .ok (.aload_n 0, 1) := by decide +kernel
theorem dX12_node_24 : decode cX12_node 24 = .ok (.getfield 343, 3) := by decide +kernel
theorem dX12_node_27 : decode cX12_node 27 = .ok (.dup2, 1) := by decide +kernel
theorem dX12_node_28 : decode cX12_node 28 = .ok (.iaload, 1) := by decide +kernel
theorem dX12_node_29 : decode cX12_node 29 = .ok (.iconst 1, 1) := by decide +kernel
theorem dX12_node_30 : decode cX12_node 30 = .ok (.iadd, 1) := by decide +kernel
theorem dX12_node_31 : decode cX12_node 31 = .ok (.iastore, 1) := by decide +kernel
theorem dX12_node_32 : decode cX12_node 32 = .ok (.aload_n 0, 1) := by decide +kernel
theorem dX12_node_33 : decode cX12_node 33 = .ok (.getfield 39, 3) := by decide +kernel
theorem dX12_node_36 : decode cX12_node 36 = .ok (.iload_n 2, 1) := by decide +kernel
theorem dX12_node_37 : decode cX12_node 37 = .ok (.iload_n 1, 1) := by decide +kernel
theorem dX12_node_38 : decode cX12_node 38 = .ok (.iastore, 1) := by decide +kernel
theorem dX12_node_39 : decode cX12_node 39 = .ok (.aload_n 0, 1) := by decide +kernel
theorem dX12_node_40 : decode cX12_node 40 = .ok (.getfield 42, 3) := by decide +kernel
theorem dX12_node_43 : decode cX12_node 43 = .ok (.iload_n 2, 1) := by decide +kernel
theorem dX12_node_44 : decode cX12_node 44 = .ok (.iconst (-1), 1) := by decide +kernel
theorem dX12_node_45 : decode cX12_node 45 = .ok (.iastore, 1) := by decide +kernel
theorem dX12_node_46 : decode cX12_node 46 = .ok (.aload_n 0, 1) := by decide +kernel
theorem dX12_node_47 : decode cX12_node 47 = .ok (.getfield 45, 3) := by decide +kernel
theorem dX12_node_50 : decode cX12_node 50 = .ok (.iload_n 2, 1) := by decide +kernel
theorem dX12_node_51 : decode cX12_node 51 = .ok (.iconst (-1), 1) := by decide +kernel
theorem dX12_node_52 : decode cX12_node 52 = .ok (.iastore, 1) := by decide +kernel
theorem dX12_node_53 : decode cX12_node 53 = .ok (.aload_n 0, 1) := by decide +kernel
theorem dX12_node_54 : decode cX12_node 54 = .ok (.getfield 48, 3) := by decide +kernel
theorem dX12_node_57 : decode cX12_node 57 = .ok (.iload_n 2, 1) := by decide +kernel
theorem dX12_node_58 : decode cX12_node 58 = .ok (.iconst (-1), 1) := by decide +kernel
theorem dX12_node_59 : decode cX12_node 59 = .ok (.iastore, 1) := by decide +kernel
theorem dX12_node_60 : decode cX12_node 60 = .ok (.aload_n 0, 1) := by decide +kernel
theorem dX12_node_61 : decode cX12_node 61 = .ok (.getfield 51, 3) := by decide +kernel
theorem dX12_node_64 : decode cX12_node 64 = .ok (.iload_n 2, 1) := by decide +kernel
theorem dX12_node_65 : decode cX12_node 65 = .ok (.lconst 0, 1) := by decide +kernel
theorem dX12_node_66 : decode cX12_node 66 = .ok (.lastore, 1) := by decide +kernel
theorem dX12_node_67 : decode cX12_node 67 = .ok (.iload_n 2, 1) := by decide +kernel
theorem dX12_node_68 : decode cX12_node 68 = .ok (.ireturn, 1) := by decide +kernel
theorem dX12_part_0 : decode cX12_part 0 = .ok (.aload_n 0, 1) := by decide +kernel
theorem dX12_part_1 : decode cX12_part 1 = .ok (.getfield 299, 3) := by decide +kernel
theorem dX12_part_4 : decode cX12_part 4 = .ok (.ifCond .ne 27, 3) := by decide +kernel
theorem dX12_part_7 : decode cX12_part 7 = .ok (.aload_n 0, 1) := by decide +kernel
theorem dX12_part_8 : decode cX12_part 8 = .ok (.getfield 346, 3) := by decide +kernel
theorem dX12_part_11 : decode cX12_part 11 = .ok (.sipush 300, 3) := by decide +kernel
theorem dX12_part_14 : decode cX12_part 14 = .ok (.if_icmp .ne 17, 3) := by decide +kernel
theorem dX12_part_17 : decode cX12_part 17 = .ok (.aload_n 0, 1) := by decide +kernel
theorem dX12_part_18 : decode cX12_part 18 = .ok (.iconst 4, 1) := by decide +kernel
theorem dX12_part_19 : decode cX12_part 19 = .ok (.aload_n 0, 1) := by decide +kernel
theorem dX12_part_20 : decode cX12_part 20 = .ok (.getfield 30, 3) := by decide +kernel
theorem dX12_part_23 : decode cX12_part 23 = .ok (.aload_n 0, 1) := by decide +kernel
theorem dX12_part_24 : decode cX12_part 24 = .ok (.getfield 296, 3) := by decide +kernel
theorem dX12_part_27 : decode cX12_part 27 = .ok (.iaload, 1) := by decide +kernel
theorem dX12_part_28 : decode cX12_part 28 = .ok (.invokevirtual 333, 3) := by decide +kernel
theorem dX12_part_31 : decode cX12_part 31 = .ok (.aload_n 0, 1) := by decide +kernel
theorem dX12_part_32 : decode cX12_part 32 = .ok (.dup, 1) := by decide +kernel
theorem dX12_part_33 : decode cX12_part 33 = .ok (.getfield 346, 3) := by decide +kernel
theorem dX12_part_36 : decode cX12_part 36 = .ok (.iconst 1, 1) := by decide +kernel
theorem dX12_part_37 : decode cX12_part 37 = .ok (.iadd, 1) := by decide +kernel
theorem dX12_part_38 : decode cX12_part 38 = .ok (.putfield 346, 3) := by decide +kernel
theorem dX12_part_41 : decode cX12_part 41 = .ok (.aload_n 0, 1) := by decide +kernel
theorem dX12_part_42 : decode cX12_part 42 = .ok (.getfield 299, 3) := by decide +kernel
theorem dX12_part_45 : decode cX12_part 45 = .ok (.ifCond .ne 7, 3) := by decide +kernel
theorem dX12_part_48 : decode cX12_part 48 = .ok (.iconst 1, 1) := by decide +kernel
theorem dX12_part_49 : decode cX12_part 49 = .ok (.goto 4, 3) := by decide +kernel
theorem dX12_part_52 : decode cX12_part 52 = .ok (.iconst 0, 1) := by decide +kernel
theorem dX12_part_53 : decode cX12_part 53 = .ok (.ireturn, 1) := by decide +kernel
theorem dX12_findRule_0 : decode cX12_findRule 0 = .ok (.iconst 0, 1) := by decide +kernel
theorem dX12_findRule_1 : decode cX12_findRule 1 = .ok (.istore 4, 2) := by decide +kernel
theorem dX12_findRule_3 : decode cX12_findRule 3 = .ok (.iload 4, 2) := by decide +kernel
theorem dX12_findRule_5 : decode cX12_findRule 5 = .ok (.aload_n 0, 1) := by decide +kernel
theorem dX12_findRule_6 : decode cX12_findRule 6 = .ok (.getfield 60, 3) := by decide +kernel
theorem dX12_findRule_9 : decode cX12_findRule 9 = .ok (.iload_n 1, 1) := by decide +kernel
theorem dX12_findRule_10 : decode cX12_findRule 10 = .ok (.iaload, 1) := by decide +kernel
theorem dX12_findRule_11 : decode cX12_findRule 11 = .ok (.if_icmp .ge 29, 3) := by decide +kernel
theorem dX12_findRule_14 : decode cX12_findRule 14 = .ok (.aload_n 0, 1) := by decide +kernel
theorem dX12_findRule_15 : decode cX12_findRule 15 = .ok (.getfield 63, 3) := by decide +kernel
theorem dX12_findRule_18 : decode cX12_findRule 18 = .ok (.bipush 24, 2) := by decide +kernel
theorem dX12_findRule_20 : decode cX12_findRule 20 = .ok (.iload_n 1, 1) := by decide +kernel
theorem dX12_findRule_21 : decode cX12_findRule 21 = .ok (.imul, 1) := by decide +kernel
theorem dX12_findRule_22 : decode cX12_findRule 22 = .ok (.iload 4, 2) := by decide +kernel
theorem dX12_findRule_24 : decode cX12_findRule 24 = .ok (.iadd, 1) := by decide +kernel
theorem dX12_findRule_25 : decode cX12_findRule 25 = .ok (.laload, 1) := by decide +kernel
theorem dX12_findRule_26 : decode cX12_findRule 26 = .ok (.lload_n 2, 1) := by decide +kernel
theorem dX12_findRule_27 : decode cX12_findRule 27 = .ok (.lcmp, 1) := by decide +kernel
theorem dX12_findRule_28 : decode cX12_findRule 28 = .ok (.ifCond .ne 6, 3) := by decide +kernel
theorem dX12_findRule_31 : decode cX12_findRule 31 = .ok (.iload 4, 2) := by decide +kernel
theorem dX12_findRule_33 : decode cX12_findRule 33 = .ok (.ireturn, 1) := by decide +kernel
theorem dX12_findRule_34 : decode cX12_findRule 34 = .ok (.iinc 4 1, 3) := by decide +kernel
theorem dX12_findRule_37 : decode cX12_findRule 37 = .ok (.goto (-34), 3) := by decide +kernel
theorem dX12_findRule_40 : decode cX12_findRule 40 = .ok (.iconst (-1), 1) := by decide +kernel
theorem dX12_findRule_41 : decode cX12_findRule 41 = .ok (.ireturn, 1) := by decide +kernel
theorem dX12_readText_0 : decode cX12_readText 0 = .ok (.aload_n 0, 1) := by decide +kernel
theorem dX12_readText_1 : decode cX12_readText 1 = .ok (.iload_n 1, 1) := by decide +kernel
theorem dX12_readText_2 : decode cX12_readText 2 = .ok (.putfield 343, 3) := by decide +kernel
theorem dX12_readText_5 : decode cX12_readText 5 = .ok (.aload_n 0, 1) := by decide +kernel
theorem dX12_readText_6 : decode cX12_readText 6 = .ok (.getfield 57, 3) := by decide +kernel
theorem dX12_readText_9 : decode cX12_readText 9 = .ok (.iload_n 1, 1) := by decide +kernel
theorem dX12_readText_10 : decode cX12_readText 10 = .ok (.iconst 0, 1) := by decide +kernel
theorem dX12_readText_11 : decode cX12_readText 11 = .ok (.iastore, 1) := by decide +kernel
theorem dX12_readText_12 : decode cX12_readText 12 = .ok (.aload_n 0, 1) := by decide +kernel
theorem dX12_readText_13 : decode cX12_readText 13 = .ok (.getfield 60, 3) := by decide +kernel
theorem dX12_readText_16 : decode cX12_readText 16 = .ok (.iload_n 1, 1) := by decide +kernel
theorem dX12_readText_17 : decode cX12_readText 17 = .ok (.iconst 0, 1) := by decide +kernel
theorem dX12_readText_18 : decode cX12_readText 18 = .ok (.iastore, 1) := by decide +kernel
theorem dX12_readText_19 : decode cX12_readText 19 = .ok (.aload_n 0, 1) := by decide +kernel
theorem dX12_readText_20 : decode cX12_readText 20 = .ok (.iconst 0, 1) := by decide +kernel
theorem dX12_readText_21 : decode cX12_readText 21 = .ok (.putfield 346, 3) := by decide +kernel
theorem dX12_readText_24 : decode cX12_readText 24 = .ok (.aload_n 0, 1) := by decide +kernel
theorem dX12_readText_25 : decode cX12_readText 25 = .ok (.iconst 0, 1) := by decide +kernel
theorem dX12_readText_26 : decode cX12_readText 26 = .ok (.putfield 349, 3) := by decide +kernel
theorem dX12_readText_29 : decode cX12_readText 29 = .ok (.aload_n 0, 1) := by decide +kernel
theorem dX12_readText_30 : decode cX12_readText 30 = .ok (.getfield 299, 3) := by decide +kernel
theorem dX12_readText_33 : decode cX12_readText 33 = .ok (.ifCond .ne 191, 3) := by decide +kernel
theorem dX12_readText_36 : decode cX12_readText 36 = .ok (.aload_n 0, 1) := by decide +kernel
theorem dX12_readText_37 : decode cX12_readText 37 = .ok (.invokevirtual 329, 3) := by decide +kernel
theorem dX12_readText_40 : decode cX12_readText 40 = .ok (.bipush 43, 2) := by decide +kernel
theorem dX12_readText_42 : decode cX12_readText 42 = .ok (.if_icmp .eq 182, 3) := by decide +kernel
theorem dX12_readText_45 : decode cX12_readText 45 = .ok (.aload_n 0, 1) := by decide +kernel
theorem dX12_readText_46 : decode cX12_readText 46 = .ok (.invokevirtual 329, 3) := by decide +kernel
theorem dX12_readText_49 : decode cX12_readText 49 = .ok (.bipush 18, 2) := by decide +kernel
theorem dX12_readText_51 : decode cX12_readText 51 = .ok (.if_icmp .eq 10, 3) := by decide +kernel
theorem dX12_readText_54 : decode cX12_readText 54 = .ok (.aload_n 0, 1) := by decide +kernel
theorem dX12_readText_55 : decode cX12_readText 55 = .ok (.invokevirtual 337, 3) := by decide +kernel
theorem dX12_readText_58 : decode cX12_readText 58 = .ok (.goto 28, 3) := by decide +kernel
theorem dX12_readText_61 : decode cX12_readText 61 = .ok (.aload_n 0, 1) := by decide +kernel
theorem dX12_readText_62 : decode cX12_readText 62 = .ok (.getfield 60, 3) := by decide +kernel
theorem dX12_readText_65 : decode cX12_readText 65 = .ok (.iload_n 1, 1) := by decide +kernel
theorem dX12_readText_66 : decode cX12_readText 66 = .ok (.iaload, 1) := by decide +kernel
theorem dX12_readText_67 : decode cX12_readText 67 = .ok (.bipush 24, 2) := by decide +kernel
theorem dX12_readText_69 : decode cX12_readText 69 = .ok (.if_icmp .ne 17, 3) := by decide +kernel
theorem dX12_readText_72 : decode cX12_readText 72 = .ok (.aload_n 0, 1) := by decide +kernel
theorem dX12_readText_73 : decode cX12_readText 73 = .ok (.iconst 4, 1) := by decide +kernel
theorem dX12_readText_74 : decode cX12_readText 74 = .ok (.aload_n 0, 1) := by decide +kernel
theorem dX12_readText_75 : decode cX12_readText 75 = .ok (.getfield 30, 3) := by decide +kernel
theorem dX12_readText_78 : decode cX12_readText 78 = .ok (.aload_n 0, 1) := by decide +kernel
theorem dX12_readText_79 : decode cX12_readText 79 = .ok (.getfield 296, 3) := by decide +kernel
theorem dX12_readText_82 : decode cX12_readText 82 = .ok (.iaload, 1) := by decide +kernel
theorem dX12_readText_83 : decode cX12_readText 83 = .ok (.invokevirtual 333, 3) := by decide +kernel
theorem dX12_readText_86 : decode cX12_readText 86 = .ok (.aload_n 0, 1) := by decide +kernel
theorem dX12_readText_87 : decode cX12_readText 87 = .ok (.bipush 18, 2) := by decide +kernel
theorem dX12_readText_89 : decode cX12_readText 89 = .ok (.invokevirtual 352, 3) := by decide +kernel
theorem dX12_readText_92 : decode cX12_readText 92 = .ok (.aload_n 0, 1) := by decide +kernel
theorem dX12_readText_93 : decode cX12_readText 93 = .ok (.bipush 40, 2) := by decide +kernel
theorem dX12_readText_95 : decode cX12_readText 95 = .ok (.invokevirtual 356, 3) := by decide +kernel
theorem dX12_readText_98 : decode cX12_readText 98 = .ok (.ifCond .eq 34, 3) := by decide +kernel
theorem dX12_readText_101 : decode cX12_readText 101 = .ok (.aload_n 0, 1) := by decide +kernel
theorem dX12_readText_102 : decode cX12_readText 102 = .ok (.iload_n 1, 1) := by decide +kernel
theorem dX12_readText_103 : decode cX12_readText 103 = .ok (.aload_n 0, 1) := by decide +kernel
theorem dX12_readText_104 : decode cX12_readText 104 = .ok (.getfield 33, 3) := by decide +kernel
theorem dX12_readText_107 : decode cX12_readText 107 = .ok (.aload_n 0, 1) := by decide +kernel
theorem dX12_readText_108 : decode cX12_readText 108 = .ok (.getfield 296, 3) := by decide +kernel
theorem dX12_readText_111 : decode cX12_readText 111 = .ok (.laload, 1) := by decide +kernel
theorem dX12_readText_112 : decode cX12_readText 112 = .ok (.invokevirtual 359, 3) := by decide +kernel
theorem dX12_readText_115 : decode cX12_readText 115 = .ok (.ifCond .lt 17, 3) := by decide +kernel
theorem dX12_readText_118 : decode cX12_readText 118 = .ok (.aload_n 0, 1) := by decide +kernel
theorem dX12_readText_119 : decode cX12_readText 119 = .ok (.iconst 3, 1) := by decide +kernel
theorem dX12_readText_120 : decode cX12_readText 120 = .ok (.aload_n 0, 1) := by decide +kernel
theorem dX12_readText_121 : decode cX12_readText 121 = .ok (.getfield 30, 3) := by decide +kernel
theorem dX12_readText_124 : decode cX12_readText 124 = .ok (.aload_n 0, 1) := by decide +kernel
theorem dX12_readText_125 : decode cX12_readText 125 = .ok (.getfield 296, 3) := by decide +kernel
theorem dX12_readText_128 : decode cX12_readText 128 = .ok (.iaload, 1) := by decide +kernel
theorem dX12_readText_129 : decode cX12_readText 129 = .ok (.invokevirtual 333, 3) := by decide +kernel
theorem dX12_readText_132 : decode cX12_readText 132 = .ok (.aload_n 0, 1) := by decide +kernel
theorem dX12_readText_133 : decode cX12_readText 133 = .ok (.getfield 33, 3) := by decide +kernel
theorem dX12_readText_136 : decode cX12_readText 136 = .ok (.aload_n 0, 1) := by decide +kernel
theorem dX12_readText_137 : decode cX12_readText 137 = .ok (.getfield 296, 3) := by decide +kernel
theorem dX12_readText_140 : decode cX12_readText 140 = .ok (.laload, 1) := by decide +kernel
theorem dX12_readText_141 : decode cX12_readText 141 = .ok (.lstore_n 2, 1) := by decide +kernel
theorem dX12_readText_142 : decode cX12_readText 142 = .ok (.aload_n 0, 1) := by decide +kernel
theorem dX12_readText_143 : decode cX12_readText 143 = .ok (.bipush 40, 2) := by decide +kernel
theorem dX12_readText_145 : decode cX12_readText 145 = .ok (.invokevirtual 352, 3) := by decide +kernel
theorem dX12_readText_148 : decode cX12_readText 148 = .ok (.aload_n 0, 1) := by decide +kernel
theorem dX12_readText_149 : decode cX12_readText 149 = .ok (.sipush 161, 3) := by decide +kernel
theorem dX12_readText_152 : decode cX12_readText 152 = .ok (.invokevirtual 352, 3) := by decide +kernel
theorem dX12_readText_155 : decode cX12_readText 155 = .ok (.aload_n 0, 1) := by decide +kernel
theorem dX12_readText_156 : decode cX12_readText 156 = .ok (.iconst 0, 1) := by decide +kernel
theorem dX12_readText_157 : decode cX12_readText 157 = .ok (.invokevirtual 363, 3) := by decide +kernel
theorem dX12_readText_160 : decode cX12_readText 160 = .ok (.istore 4, 2) := by decide +kernel
theorem dX12_readText_162 : decode cX12_readText 162 = .ok (.aload_n 0, 1) := by decide +kernel
theorem dX12_readText_163 : decode cX12_readText 163 = .ok (.sipush 159, 3) := by decide +kernel
theorem dX12_readText_166 : decode cX12_readText 166 = .ok (.invokevirtual 352, 3) := by decide +kernel
theorem dX12_readText_169 : decode cX12_readText 169 = .ok (.aload_n 0, 1) := by decide +kernel
theorem dX12_readText_170 : decode cX12_readText 170 = .ok (.getfield 299, 3) := by decide +kernel
theorem dX12_readText_173 : decode cX12_readText 173 = .ok (.ifCond .ne 48, 3) := by decide +kernel
theorem dX12_readText_176 : decode cX12_readText 176 = .ok (.aload_n 0, 1) := by decide +kernel
theorem dX12_readText_177 : decode cX12_readText 177 = .ok (.getfield 63, 3) := by decide +kernel
theorem dX12_readText_180 : decode cX12_readText 180 = .ok (.bipush 24, 2) := by decide +kernel
theorem dX12_readText_182 : decode cX12_readText 182 = .ok (.iload_n 1, 1) := by decide +kernel
theorem dX12_readText_183 : decode cX12_readText 183 = .ok (.imul, 1) := by decide +kernel
theorem dX12_readText_184 : decode cX12_readText 184 = .ok (.aload_n 0, 1) := by decide +kernel
theorem dX12_readText_185 : decode cX12_readText 185 = .ok (.getfield 60, 3) := by decide +kernel
theorem dX12_readText_188 : decode cX12_readText 188 = .ok (.iload_n 1, 1) := by decide +kernel
theorem dX12_readText_189 : decode cX12_readText 189 = .ok (.iaload, 1) := by decide +kernel
theorem dX12_readText_190 : decode cX12_readText 190 = .ok (.iadd, 1) := by decide +kernel
theorem dX12_readText_191 : decode cX12_readText 191 = .ok (.lload_n 2, 1) := by decide +kernel
theorem dX12_readText_192 : decode cX12_readText 192 = .ok (.lastore, 1) := by decide +kernel
theorem dX12_readText_193 : decode cX12_readText 193 = .ok (.aload_n 0, 1) := by decide +kernel
theorem dX12_readText_194 : decode cX12_readText 194 = .ok (.getfield 66, 3) := by decide +kernel
theorem dX12_readText_197 : decode cX12_readText 197 = .ok (.bipush 24, 2) := by decide +kernel
theorem dX12_readText_199 : decode cX12_readText 199 = .ok (.iload_n 1, 1) := by decide +kernel
theorem dX12_readText_200 : decode cX12_readText 200 = .ok (.imul, 1) := by decide +kernel
theorem dX12_readText_201 : decode cX12_readText 201 = .ok (.aload_n 0, 1) := by decide +kernel
theorem dX12_readText_202 : decode cX12_readText 202 = .ok (.getfield 60, 3) := by decide +kernel
theorem dX12_readText_205 : decode cX12_readText 205 = .ok (.iload_n 1, 1) := by decide +kernel
theorem dX12_readText_206 : decode cX12_readText 206 = .ok (.iaload, 1) := by decide +kernel
theorem dX12_readText_207 : decode cX12_readText 207 = .ok (.iadd, 1) := by decide +kernel
theorem dX12_readText_208 : decode cX12_readText 208 = .ok (.iload 4, 2) := by decide +kernel
theorem dX12_readText_210 : decode cX12_readText 210 = .ok (.iastore, 1) := by decide +kernel
theorem dX12_readText_211 : decode cX12_readText 211 = .ok (.aload_n 0, 1) := by decide +kernel
theorem dX12_readText_212 : decode cX12_readText 212 = .ok (.getfield 60, 3) := by decide +kernel
theorem dX12_readText_215 : decode cX12_readText 215 = .ok (.iload_n 1, 1) := by decide +kernel
theorem dX12_readText_216 : decode cX12_readText 216 = .ok (.dup2, 1) := by decide +kernel
theorem dX12_readText_217 : decode cX12_readText 217 = .ok (.iaload, 1) := by decide +kernel
theorem dX12_readText_218 : decode cX12_readText 218 = .ok (.iconst 1, 1) := by decide +kernel
theorem dX12_readText_219 : decode cX12_readText 219 = .ok (.iadd, 1) := by decide +kernel
theorem dX12_readText_220 : decode cX12_readText 220 = .ok (.iastore, 1) := by decide +kernel
theorem dX12_readText_221 : decode cX12_readText 221 = .ok (.goto (-192), 3) := by decide +kernel
theorem dX12_readText_224 : decode cX12_readText 224 = .ok (.return_, 1) := by decide +kernel
theorem dX12_isFunction_0 : decode cX12_isFunction 0 = .ok (.iload_n 0, 1) := by decide +kernel
theorem dX12_isFunction_1 : decode cX12_isFunction 1 = .ok (.invokestatic 366, 3) := by decide +kernel
theorem dX12_isFunction_4 : decode cX12_isFunction 4 = .ok (.ifCond .le 7, 3) := by decide +kernel
theorem dX12_isFunction_7 : decode cX12_isFunction 7 = .ok (.iconst 1, 1) := by decide +kernel
theorem dX12_isFunction_8 : decode cX12_isFunction 8 = .ok (.goto 4, 3) := by decide +kernel
theorem dX12_isFunction_11 : decode cX12_isFunction 11 = .ok (.iconst 0, 1) := by decide +kernel
theorem dX12_isFunction_12 : decode cX12_isFunction 12 = .ok (.ireturn, 1) := by decide +kernel
theorem dX12_arguments_0 : decode cX12_arguments 0 = .ok (.iload_n 0, 1) := by decide +kernel
theorem dX12_arguments_1 : decode cX12_arguments 1 = .ok (.tableswitch 121 1 25 #[117, 115, 115, 121, 121, 115, 121, 121, 117, 117, 115, 117, 117, 115, 121, 115, 115, 121, 121, 121, 121, 121, 115, 119, 115], 115) := by decide +kernel
theorem dX12_arguments_116 : decode cX12_arguments 116 = .ok (.iconst 1, 1) := by decide +kernel
theorem dX12_arguments_117 : decode cX12_arguments 117 = .ok (.ireturn, 1) := by decide +kernel
theorem dX12_arguments_118 : decode cX12_arguments 118 = .ok (.iconst 2, 1) := by decide +kernel
theorem dX12_arguments_119 : decode cX12_arguments 119 = .ok (.ireturn, 1) := by decide +kernel
theorem dX12_arguments_120 : decode cX12_arguments 120 = .ok (.iconst 3, 1) := by decide +kernel
theorem dX12_arguments_121 : decode cX12_arguments 121 = .ok (.ireturn, 1) := by decide +kernel
theorem dX12_arguments_122 : decode cX12_arguments 122 = .ok (.iconst 0, 1) := by decide +kernel
theorem dX12_arguments_123 : decode cX12_arguments 123 = .ok (.ireturn, 1) := by decide +kernel
theorem dX12_beginsUnary_0 : decode cX12_beginsUnary 0 = .ok (.aload_n 0, 1) := by decide +kernel
theorem dX12_beginsUnary_1 : decode cX12_beginsUnary 1 = .ok (.invokevirtual 329, 3) := by decide +kernel
theorem dX12_beginsUnary_4 : decode cX12_beginsUnary 4 = .ok (.istore_n 1, 1) := by decide +kernel
theorem dX12_beginsUnary_5 : decode cX12_beginsUnary 5 = .ok (.iload_n 1, 1) := by decide +kernel
theorem dX12_beginsUnary_6 : decode cX12_beginsUnary 6 = .ok (.sipush 145, 3) := by decide +kernel
theorem dX12_beginsUnary_9 : decode cX12_beginsUnary 9 = .ok (.if_icmp .eq 46, 3) := by decide +kernel
theorem dX12_beginsUnary_12 : decode cX12_beginsUnary 12 = .ok (.iload_n 1, 1) := by decide +kernel
theorem dX12_beginsUnary_13 : decode cX12_beginsUnary 13 = .ok (.bipush 41, 2) := by decide +kernel
theorem dX12_beginsUnary_15 : decode cX12_beginsUnary 15 = .ok (.if_icmp .eq 40, 3) := by decide +kernel
theorem dX12_beginsUnary_18 : decode cX12_beginsUnary 18 = .ok (.iload_n 1, 1) := by decide +kernel
theorem dX12_beginsUnary_19 : decode cX12_beginsUnary 19 = .ok (.bipush 42, 2) := by decide +kernel
theorem dX12_beginsUnary_21 : decode cX12_beginsUnary 21 = .ok (.if_icmp .eq 34, 3) := by decide +kernel
theorem dX12_beginsUnary_24 : decode cX12_beginsUnary 24 = .ok (.iload_n 1, 1) := by decide +kernel
theorem dX12_beginsUnary_25 : decode cX12_beginsUnary 25 = .ok (.sipush 140, 3) := by decide +kernel
theorem dX12_beginsUnary_28 : decode cX12_beginsUnary 28 = .ok (.if_icmp .eq 27, 3) := by decide +kernel
theorem dX12_beginsUnary_31 : decode cX12_beginsUnary 31 = .ok (.iload_n 1, 1) := by decide +kernel
theorem dX12_beginsUnary_32 : decode cX12_beginsUnary 32 = .ok (.bipush 40, 2) := by decide +kernel
theorem dX12_beginsUnary_34 : decode cX12_beginsUnary 34 = .ok (.if_icmp .eq 21, 3) := by decide +kernel
theorem dX12_beginsUnary_37 : decode cX12_beginsUnary 37 = .ok (.iload_n 1, 1) := by decide +kernel
theorem dX12_beginsUnary_38 : decode cX12_beginsUnary 38 = .ok (.iconst 4, 1) := by decide +kernel
theorem dX12_beginsUnary_39 : decode cX12_beginsUnary 39 = .ok (.if_icmp .eq 16, 3) := by decide +kernel
theorem dX12_beginsUnary_42 : decode cX12_beginsUnary 42 = .ok (.iload_n 1, 1) := by decide +kernel
theorem dX12_beginsUnary_43 : decode cX12_beginsUnary 43 = .ok (.bipush 19, 2) := by decide +kernel
theorem dX12_beginsUnary_45 : decode cX12_beginsUnary 45 = .ok (.if_icmp .eq 10, 3) := by decide +kernel
theorem dX12_beginsUnary_48 : decode cX12_beginsUnary 48 = .ok (.iload_n 1, 1) := by decide +kernel
theorem dX12_beginsUnary_49 : decode cX12_beginsUnary 49 = .ok (.invokestatic 369, 3) := by decide +kernel
theorem dX12_beginsUnary_52 : decode cX12_beginsUnary 52 = .ok (.ifCond .eq 7, 3) := by decide +kernel
theorem dX12_beginsUnary_55 : decode cX12_beginsUnary 55 = .ok (.iconst 1, 1) := by decide +kernel
theorem dX12_beginsUnary_56 : decode cX12_beginsUnary 56 = .ok (.goto 4, 3) := by decide +kernel
theorem dX12_beginsUnary_59 : decode cX12_beginsUnary 59 = .ok (.iconst 0, 1) := by decide +kernel
theorem dX12_beginsUnary_60 : decode cX12_beginsUnary 60 = .ok (.ireturn, 1) := by decide +kernel
theorem dX12_expression_0 : decode cX12_expression 0 = .ok (.aload_n 0, 1) := by decide +kernel
theorem dX12_expression_1 : decode cX12_expression 1 = .ok (.getfield 299, 3) := by decide +kernel
theorem dX12_expression_4 : decode cX12_expression 4 = .ok (.ifCond .le 5, 3) := by decide +kernel
theorem dX12_expression_7 : decode cX12_expression 7 = .ok (.iconst (-1), 1) := by decide +kernel
theorem dX12_expression_8 : decode cX12_expression 8 = .ok (.ireturn, 1) := by decide +kernel
theorem dX12_expression_9 : decode cX12_expression 9 = .ok (.aload_n 0, 1) := by decide +kernel
theorem dX12_expression_10 : decode cX12_expression 10 = .ok (.invokevirtual 372, 3) := by decide +kernel
theorem dX12_expression_13 : decode cX12_expression 13 = .ok (.ifCond .ne 28, 3) := by decide +kernel
theorem dX12_expression_16 : decode cX12_expression 16 = .ok (.aload_n 0, 1) := by decide +kernel
theorem dX12_expression_17 : decode cX12_expression 17 = .ok (.invokevirtual 329, 3) := by decide +kernel
theorem dX12_expression_20 : decode cX12_expression 20 = .ok (.bipush 8, 2) := by decide +kernel
theorem dX12_expression_22 : decode cX12_expression 22 = .ok (.if_icmp .eq 19, 3) := by decide +kernel
theorem dX12_expression_25 : decode cX12_expression 25 = .ok (.aload_n 0, 1) := by decide +kernel
theorem dX12_expression_26 : decode cX12_expression 26 = .ok (.invokevirtual 329, 3) := by decide +kernel
theorem dX12_expression_29 : decode cX12_expression 29 = .ok (.bipush 22, 2) := by decide +kernel
theorem dX12_expression_31 : decode cX12_expression 31 = .ok (.if_icmp .eq 10, 3) := by decide +kernel
theorem dX12_expression_34 : decode cX12_expression 34 = .ok (.aload_n 0, 1) := by decide +kernel
theorem dX12_expression_35 : decode cX12_expression 35 = .ok (.invokevirtual 337, 3) := by decide +kernel
theorem dX12_expression_38 : decode cX12_expression 38 = .ok (.goto 23, 3) := by decide +kernel
theorem dX12_expression_41 : decode cX12_expression 41 = .ok (.iload_n 1, 1) := by decide +kernel
theorem dX12_expression_42 : decode cX12_expression 42 = .ok (.bipush 20, 2) := by decide +kernel
theorem dX12_expression_44 : decode cX12_expression 44 = .ok (.if_icmp .lt 17, 3) := by decide +kernel
theorem dX12_expression_47 : decode cX12_expression 47 = .ok (.aload_n 0, 1) := by decide +kernel
theorem dX12_expression_48 : decode cX12_expression 48 = .ok (.iconst 4, 1) := by decide +kernel
theorem dX12_expression_49 : decode cX12_expression 49 = .ok (.aload_n 0, 1) := by decide +kernel
theorem dX12_expression_50 : decode cX12_expression 50 = .ok (.getfield 30, 3) := by decide +kernel
theorem dX12_expression_53 : decode cX12_expression 53 = .ok (.aload_n 0, 1) := by decide +kernel
theorem dX12_expression_54 : decode cX12_expression 54 = .ok (.getfield 296, 3) := by decide +kernel
theorem dX12_expression_57 : decode cX12_expression 57 = .ok (.iaload, 1) := by decide +kernel
theorem dX12_expression_58 : decode cX12_expression 58 = .ok (.invokevirtual 333, 3) := by decide +kernel
theorem dX12_expression_61 : decode cX12_expression 61 = .ok (.aload_n 0, 1) := by decide +kernel
theorem dX12_expression_62 : decode cX12_expression 62 = .ok (.bipush 8, 2) := by decide +kernel
theorem dX12_expression_64 : decode cX12_expression 64 = .ok (.invokevirtual 356, 3) := by decide +kernel
theorem dX12_expression_67 : decode cX12_expression 67 = .ok (.ifCond .eq 9, 3) := by decide +kernel
theorem dX12_expression_70 : decode cX12_expression 70 = .ok (.aload_n 0, 1) := by decide +kernel
theorem dX12_expression_71 : decode cX12_expression 71 = .ok (.iload_n 1, 1) := by decide +kernel
theorem dX12_expression_72 : decode cX12_expression 72 = .ok (.invokevirtual 376, 3) := by decide +kernel
theorem dX12_expression_75 : decode cX12_expression 75 = .ok (.ireturn, 1) := by decide +kernel
theorem dX12_expression_76 : decode cX12_expression 76 = .ok (.aload_n 0, 1) := by decide +kernel
theorem dX12_expression_77 : decode cX12_expression 77 = .ok (.bipush 22, 2) := by decide +kernel
theorem dX12_expression_79 : decode cX12_expression 79 = .ok (.invokevirtual 356, 3) := by decide +kernel
theorem dX12_expression_82 : decode cX12_expression 82 = .ok (.ifCond .eq 62, 3) := by decide +kernel
theorem dX12_expression_85 : decode cX12_expression 85 = .ok (.aload_n 0, 1) := by decide +kernel
theorem dX12_expression_86 : decode cX12_expression 86 = .ok (.invokevirtual 379, 3) := by decide +kernel
theorem dX12_expression_89 : decode cX12_expression 89 = .ok (.ifCond .ne 5, 3) := by decide +kernel
theorem dX12_expression_92 : decode cX12_expression 92 = .ok (.iconst (-1), 1) := by decide +kernel
theorem dX12_expression_93 : decode cX12_expression 93 = .ok (.ireturn, 1) := by decide +kernel
theorem dX12_expression_94 : decode cX12_expression 94 = .ok (.aload_n 0, 1) := by decide +kernel
theorem dX12_expression_95 : decode cX12_expression 95 = .ok (.bipush 22, 2) := by decide +kernel
theorem dX12_expression_97 : decode cX12_expression 97 = .ok (.invokevirtual 382, 3) := by decide +kernel
theorem dX12_expression_100 : decode cX12_expression 100 = .ok (.istore_n 2, 1) := by decide +kernel
theorem dX12_expression_101 : decode cX12_expression 101 = .ok (.aload_n 0, 1) := by decide +kernel
theorem dX12_expression_102 : decode cX12_expression 102 = .ok (.dup, 1) := by decide +kernel
theorem dX12_expression_103 : decode cX12_expression 103 = .ok (.getfield 296, 3) := by decide +kernel
theorem dX12_expression_106 : decode cX12_expression 106 = .ok (.iconst 1, 1) := by decide +kernel
theorem dX12_expression_107 : decode cX12_expression 107 = .ok (.iadd, 1) := by decide +kernel
theorem dX12_expression_108 : decode cX12_expression 108 = .ok (.putfield 296, 3) := by decide +kernel
theorem dX12_expression_111 : decode cX12_expression 111 = .ok (.aload_n 0, 1) := by decide +kernel
theorem dX12_expression_112 : decode cX12_expression 112 = .ok (.getfield 42, 3) := by decide +kernel
theorem dX12_expression_115 : decode cX12_expression 115 = .ok (.iload_n 2, 1) := by decide +kernel
theorem dX12_expression_116 : decode cX12_expression 116 = .ok (.aload_n 0, 1) := by decide +kernel
theorem dX12_expression_117 : decode cX12_expression 117 = .ok (.iload_n 1, 1) := by decide +kernel
theorem dX12_expression_118 : decode cX12_expression 118 = .ok (.iconst 1, 1) := by decide +kernel
theorem dX12_expression_119 : decode cX12_expression 119 = .ok (.iadd, 1) := by decide +kernel
theorem dX12_expression_120 : decode cX12_expression 120 = .ok (.invokevirtual 363, 3) := by decide +kernel
theorem dX12_expression_123 : decode cX12_expression 123 = .ok (.iastore, 1) := by decide +kernel
theorem dX12_expression_124 : decode cX12_expression 124 = .ok (.aload_n 0, 1) := by decide +kernel
theorem dX12_expression_125 : decode cX12_expression 125 = .ok (.iconst 5, 1) := by decide +kernel
theorem dX12_expression_126 : decode cX12_expression 126 = .ok (.invokevirtual 352, 3) := by decide +kernel
theorem dX12_expression_129 : decode cX12_expression 129 = .ok (.aload_n 0, 1) := by decide +kernel
theorem dX12_expression_130 : decode cX12_expression 130 = .ok (.getfield 45, 3) := by decide +kernel
theorem dX12_expression_133 : decode cX12_expression 133 = .ok (.iload_n 2, 1) := by decide +kernel
theorem dX12_expression_134 : decode cX12_expression 134 = .ok (.aload_n 0, 1) := by decide +kernel
theorem dX12_expression_135 : decode cX12_expression 135 = .ok (.iload_n 1, 1) := by decide +kernel
theorem dX12_expression_136 : decode cX12_expression 136 = .ok (.iconst 1, 1) := by decide +kernel
theorem dX12_expression_137 : decode cX12_expression 137 = .ok (.iadd, 1) := by decide +kernel
theorem dX12_expression_138 : decode cX12_expression 138 = .ok (.invokevirtual 363, 3) := by decide +kernel
theorem dX12_expression_141 : decode cX12_expression 141 = .ok (.iastore, 1) := by decide +kernel
theorem dX12_expression_142 : decode cX12_expression 142 = .ok (.iload_n 2, 1) := by decide +kernel
theorem dX12_expression_143 : decode cX12_expression 143 = .ok (.ireturn, 1) := by decide +kernel
theorem dX12_expression_144 : decode cX12_expression 144 = .ok (.aload_n 0, 1) := by decide +kernel
theorem dX12_expression_145 : decode cX12_expression 145 = .ok (.iload_n 1, 1) := by decide +kernel
theorem dX12_expression_146 : decode cX12_expression 146 = .ok (.invokevirtual 385, 3) := by decide +kernel
theorem dX12_expression_149 : decode cX12_expression 149 = .ok (.ireturn, 1) := by decide +kernel
theorem dX12_ifElse_0 : decode cX12_ifElse 0 = .ok (.aload_n 0, 1) := by decide +kernel
theorem dX12_ifElse_1 : decode cX12_ifElse 1 = .ok (.invokevirtual 379, 3) := by decide +kernel
theorem dX12_ifElse_4 : decode cX12_ifElse 4 = .ok (.ifCond .ne 5, 3) := by decide +kernel
theorem dX12_ifElse_7 : decode cX12_ifElse 7 = .ok (.iconst (-1), 1) := by decide +kernel
theorem dX12_ifElse_8 : decode cX12_ifElse 8 = .ok (.ireturn, 1) := by decide +kernel
theorem dX12_ifElse_9 : decode cX12_ifElse 9 = .ok (.aload_n 0, 1) := by decide +kernel
theorem dX12_ifElse_10 : decode cX12_ifElse 10 = .ok (.bipush 8, 2) := by decide +kernel
theorem dX12_ifElse_12 : decode cX12_ifElse 12 = .ok (.invokevirtual 382, 3) := by decide +kernel
theorem dX12_ifElse_15 : decode cX12_ifElse 15 = .ok (.istore_n 2, 1) := by decide +kernel
theorem dX12_ifElse_16 : decode cX12_ifElse 16 = .ok (.aload_n 0, 1) := by decide +kernel
theorem dX12_ifElse_17 : decode cX12_ifElse 17 = .ok (.dup, 1) := by decide +kernel
theorem dX12_ifElse_18 : decode cX12_ifElse 18 = .ok (.getfield 296, 3) := by decide +kernel
theorem dX12_ifElse_21 : decode cX12_ifElse 21 = .ok (.iconst 1, 1) := by decide +kernel
theorem dX12_ifElse_22 : decode cX12_ifElse 22 = .ok (.iadd, 1) := by decide +kernel
theorem dX12_ifElse_23 : decode cX12_ifElse 23 = .ok (.putfield 296, 3) := by decide +kernel
theorem dX12_ifElse_26 : decode cX12_ifElse 26 = .ok (.aload_n 0, 1) := by decide +kernel
theorem dX12_ifElse_27 : decode cX12_ifElse 27 = .ok (.getfield 42, 3) := by decide +kernel
theorem dX12_ifElse_30 : decode cX12_ifElse 30 = .ok (.iload_n 2, 1) := by decide +kernel
theorem dX12_ifElse_31 : decode cX12_ifElse 31 = .ok (.aload_n 0, 1) := by decide +kernel
theorem dX12_ifElse_32 : decode cX12_ifElse 32 = .ok (.iload_n 1, 1) := by decide +kernel
theorem dX12_ifElse_33 : decode cX12_ifElse 33 = .ok (.iconst 1, 1) := by decide +kernel
theorem dX12_ifElse_34 : decode cX12_ifElse 34 = .ok (.iadd, 1) := by decide +kernel
theorem dX12_ifElse_35 : decode cX12_ifElse 35 = .ok (.invokevirtual 363, 3) := by decide +kernel
theorem dX12_ifElse_38 : decode cX12_ifElse 38 = .ok (.iastore, 1) := by decide +kernel
theorem dX12_ifElse_39 : decode cX12_ifElse 39 = .ok (.aload_n 0, 1) := by decide +kernel
theorem dX12_ifElse_40 : decode cX12_ifElse 40 = .ok (.bipush 20, 2) := by decide +kernel
theorem dX12_ifElse_42 : decode cX12_ifElse 42 = .ok (.invokevirtual 352, 3) := by decide +kernel
theorem dX12_ifElse_45 : decode cX12_ifElse 45 = .ok (.aload_n 0, 1) := by decide +kernel
theorem dX12_ifElse_46 : decode cX12_ifElse 46 = .ok (.getfield 45, 3) := by decide +kernel
theorem dX12_ifElse_49 : decode cX12_ifElse 49 = .ok (.iload_n 2, 1) := by decide +kernel
theorem dX12_ifElse_50 : decode cX12_ifElse 50 = .ok (.aload_n 0, 1) := by decide +kernel
theorem dX12_ifElse_51 : decode cX12_ifElse 51 = .ok (.iload_n 1, 1) := by decide +kernel
theorem dX12_ifElse_52 : decode cX12_ifElse 52 = .ok (.iconst 1, 1) := by decide +kernel
theorem dX12_ifElse_53 : decode cX12_ifElse 53 = .ok (.iadd, 1) := by decide +kernel
theorem dX12_ifElse_54 : decode cX12_ifElse 54 = .ok (.invokevirtual 363, 3) := by decide +kernel
theorem dX12_ifElse_57 : decode cX12_ifElse 57 = .ok (.iastore, 1) := by decide +kernel
theorem dX12_ifElse_58 : decode cX12_ifElse 58 = .ok (.aload_n 0, 1) := by decide +kernel
theorem dX12_ifElse_59 : decode cX12_ifElse 59 = .ok (.iconst 5, 1) := by decide +kernel
theorem dX12_ifElse_60 : decode cX12_ifElse 60 = .ok (.invokevirtual 352, 3) := by decide +kernel
theorem dX12_ifElse_63 : decode cX12_ifElse 63 = .ok (.aload_n 0, 1) := by decide +kernel
theorem dX12_ifElse_64 : decode cX12_ifElse 64 = .ok (.getfield 48, 3) := by decide +kernel
theorem dX12_ifElse_67 : decode cX12_ifElse 67 = .ok (.iload_n 2, 1) := by decide +kernel
theorem dX12_ifElse_68 : decode cX12_ifElse 68 = .ok (.aload_n 0, 1) := by decide +kernel
theorem dX12_ifElse_69 : decode cX12_ifElse 69 = .ok (.iload_n 1, 1) := by decide +kernel
theorem dX12_ifElse_70 : decode cX12_ifElse 70 = .ok (.iconst 1, 1) := by decide +kernel
theorem dX12_ifElse_71 : decode cX12_ifElse 71 = .ok (.iadd, 1) := by decide +kernel
theorem dX12_ifElse_72 : decode cX12_ifElse 72 = .ok (.invokevirtual 363, 3) := by decide +kernel
theorem dX12_ifElse_75 : decode cX12_ifElse 75 = .ok (.iastore, 1) := by decide +kernel
theorem dX12_ifElse_76 : decode cX12_ifElse 76 = .ok (.iload_n 2, 1) := by decide +kernel
theorem dX12_ifElse_77 : decode cX12_ifElse 77 = .ok (.ireturn, 1) := by decide +kernel
theorem dX12_operator_0 : decode cX12_operator 0 = .ok (.aload_n 0, 1) := by decide +kernel
theorem dX12_operator_1 : decode cX12_operator 1 = .ok (.invokevirtual 379, 3) := by decide +kernel
theorem dX12_operator_4 : decode cX12_operator 4 = .ok (.ifCond .ne 5, 3) := by decide +kernel
theorem dX12_operator_7 : decode cX12_operator 7 = .ok (.iconst (-1), 1) := by decide +kernel
theorem dX12_operator_8 : decode cX12_operator 8 = .ok (.ireturn, 1) := by decide +kernel
theorem dX12_operator_9 : decode cX12_operator 9 = .ok (.aload_n 0, 1) := by decide +kernel
theorem dX12_operator_10 : decode cX12_operator 10 = .ok (.aload_n 0, 1) := by decide +kernel
theorem dX12_operator_11 : decode cX12_operator 11 = .ok (.invokevirtual 329, 3) := by decide +kernel
theorem dX12_operator_14 : decode cX12_operator 14 = .ok (.invokevirtual 382, 3) := by decide +kernel
theorem dX12_operator_17 : decode cX12_operator 17 = .ok (.istore_n 2, 1) := by decide +kernel
theorem dX12_operator_18 : decode cX12_operator 18 = .ok (.aload_n 0, 1) := by decide +kernel
theorem dX12_operator_19 : decode cX12_operator 19 = .ok (.dup, 1) := by decide +kernel
theorem dX12_operator_20 : decode cX12_operator 20 = .ok (.getfield 296, 3) := by decide +kernel
theorem dX12_operator_23 : decode cX12_operator 23 = .ok (.iconst 1, 1) := by decide +kernel
theorem dX12_operator_24 : decode cX12_operator 24 = .ok (.iadd, 1) := by decide +kernel
theorem dX12_operator_25 : decode cX12_operator 25 = .ok (.putfield 296, 3) := by decide +kernel
theorem dX12_operator_28 : decode cX12_operator 28 = .ok (.aload_n 0, 1) := by decide +kernel
theorem dX12_operator_29 : decode cX12_operator 29 = .ok (.getfield 42, 3) := by decide +kernel
theorem dX12_operator_32 : decode cX12_operator 32 = .ok (.iload_n 2, 1) := by decide +kernel
theorem dX12_operator_33 : decode cX12_operator 33 = .ok (.iload_n 1, 1) := by decide +kernel
theorem dX12_operator_34 : decode cX12_operator 34 = .ok (.iastore, 1) := by decide +kernel
theorem dX12_operator_35 : decode cX12_operator 35 = .ok (.iload_n 2, 1) := by decide +kernel
theorem dX12_operator_36 : decode cX12_operator 36 = .ok (.ireturn, 1) := by decide +kernel
theorem dX12_compared_0 : decode cX12_compared 0 = .ok (.aload_n 0, 1) := by decide +kernel
theorem dX12_compared_1 : decode cX12_compared 1 = .ok (.iload_n 1, 1) := by decide +kernel
theorem dX12_compared_2 : decode cX12_compared 2 = .ok (.invokevirtual 388, 3) := by decide +kernel
theorem dX12_compared_5 : decode cX12_compared 5 = .ok (.istore_n 2, 1) := by decide +kernel
theorem dX12_compared_6 : decode cX12_compared 6 = .ok (.aload_n 0, 1) := by decide +kernel
theorem dX12_compared_7 : decode cX12_compared 7 = .ok (.sipush 160, 3) := by decide +kernel
theorem dX12_compared_10 : decode cX12_compared 10 = .ok (.invokevirtual 356, 3) := by decide +kernel
theorem dX12_compared_13 : decode cX12_compared 13 = .ok (.ifCond .ne 31, 3) := by decide +kernel
theorem dX12_compared_16 : decode cX12_compared 16 = .ok (.aload_n 0, 1) := by decide +kernel
theorem dX12_compared_17 : decode cX12_compared 17 = .ok (.bipush 46, 2) := by decide +kernel
theorem dX12_compared_19 : decode cX12_compared 19 = .ok (.invokevirtual 356, 3) := by decide +kernel
theorem dX12_compared_22 : decode cX12_compared 22 = .ok (.ifCond .ne 22, 3) := by decide +kernel
theorem dX12_compared_25 : decode cX12_compared 25 = .ok (.aload_n 0, 1) := by decide +kernel
theorem dX12_compared_26 : decode cX12_compared 26 = .ok (.sipush 161, 3) := by decide +kernel
theorem dX12_compared_29 : decode cX12_compared 29 = .ok (.invokevirtual 356, 3) := by decide +kernel
theorem dX12_compared_32 : decode cX12_compared 32 = .ok (.ifCond .ne 12, 3) := by decide +kernel
theorem dX12_compared_35 : decode cX12_compared 35 = .ok (.aload_n 0, 1) := by decide +kernel
theorem dX12_compared_36 : decode cX12_compared 36 = .ok (.bipush 45, 2) := by decide +kernel
theorem dX12_compared_38 : decode cX12_compared 38 = .ok (.invokevirtual 356, 3) := by decide +kernel
theorem dX12_compared_41 : decode cX12_compared 41 = .ok (.ifCond .eq 33, 3) := by decide +kernel
theorem dX12_compared_44 : decode cX12_compared 44 = .ok (.aload_n 0, 1) := by decide +kernel
theorem dX12_compared_45 : decode cX12_compared 45 = .ok (.iload_n 2, 1) := by decide +kernel
theorem dX12_compared_46 : decode cX12_compared 46 = .ok (.invokevirtual 391, 3) := by decide +kernel
theorem dX12_compared_49 : decode cX12_compared 49 = .ok (.istore_n 3, 1) := by decide +kernel
theorem dX12_compared_50 : decode cX12_compared 50 = .ok (.aload_n 0, 1) := by decide +kernel
theorem dX12_compared_51 : decode cX12_compared 51 = .ok (.iload_n 1, 1) := by decide +kernel
theorem dX12_compared_52 : decode cX12_compared 52 = .ok (.invokevirtual 388, 3) := by decide +kernel
theorem dX12_compared_55 : decode cX12_compared 55 = .ok (.istore 4, 2) := by decide +kernel
theorem dX12_compared_57 : decode cX12_compared 57 = .ok (.aload_n 0, 1) := by decide +kernel
theorem dX12_compared_58 : decode cX12_compared 58 = .ok (.getfield 299, 3) := by decide +kernel
theorem dX12_compared_61 : decode cX12_compared 61 = .ok (.ifCond .ne 11, 3) := by decide +kernel
theorem dX12_compared_64 : decode cX12_compared 64 = .ok (.aload_n 0, 1) := by decide +kernel
theorem dX12_compared_65 : decode cX12_compared 65 = .ok (.getfield 45, 3) := by decide +kernel
theorem dX12_compared_68 : decode cX12_compared 68 = .ok (.iload_n 3, 1) := by decide +kernel
theorem dX12_compared_69 : decode cX12_compared 69 = .ok (.iload 4, 2) := by decide +kernel
theorem dX12_compared_71 : decode cX12_compared 71 = .ok (.iastore, 1) := by decide +kernel
theorem dX12_compared_72 : decode cX12_compared 72 = .ok (.iload_n 3, 1) := by decide +kernel
theorem dX12_compared_73 : decode cX12_compared 73 = .ok (.ireturn, 1) := by decide +kernel
theorem dX12_compared_74 : decode cX12_compared 74 = .ok (.iload_n 2, 1) := by decide +kernel
theorem dX12_compared_75 : decode cX12_compared 75 = .ok (.ireturn, 1) := by decide +kernel
theorem dX12_added_0 : decode cX12_added 0 = .ok (.aload_n 0, 1) := by decide +kernel
theorem dX12_added_1 : decode cX12_added 1 = .ok (.iload_n 1, 1) := by decide +kernel
theorem dX12_added_2 : decode cX12_added 2 = .ok (.invokevirtual 394, 3) := by decide +kernel
theorem dX12_added_5 : decode cX12_added 5 = .ok (.istore_n 2, 1) := by decide +kernel
theorem dX12_added_6 : decode cX12_added 6 = .ok (.aload_n 0, 1) := by decide +kernel
theorem dX12_added_7 : decode cX12_added 7 = .ok (.sipush 143, 3) := by decide +kernel
theorem dX12_added_10 : decode cX12_added 10 = .ok (.invokevirtual 356, 3) := by decide +kernel
theorem dX12_added_13 : decode cX12_added 13 = .ok (.ifCond .ne 13, 3) := by decide +kernel
theorem dX12_added_16 : decode cX12_added 16 = .ok (.aload_n 0, 1) := by decide +kernel
theorem dX12_added_17 : decode cX12_added 17 = .ok (.sipush 145, 3) := by decide +kernel
theorem dX12_added_20 : decode cX12_added 20 = .ok (.invokevirtual 356, 3) := by decide +kernel
theorem dX12_added_23 : decode cX12_added 23 = .ok (.ifCond .eq 36, 3) := by decide +kernel
theorem dX12_added_26 : decode cX12_added 26 = .ok (.aload_n 0, 1) := by decide +kernel
theorem dX12_added_27 : decode cX12_added 27 = .ok (.iload_n 2, 1) := by decide +kernel
theorem dX12_added_28 : decode cX12_added 28 = .ok (.invokevirtual 391, 3) := by decide +kernel
theorem dX12_added_31 : decode cX12_added 31 = .ok (.istore_n 3, 1) := by decide +kernel
theorem dX12_added_32 : decode cX12_added 32 = .ok (.aload_n 0, 1) := by decide +kernel
theorem dX12_added_33 : decode cX12_added 33 = .ok (.iload_n 1, 1) := by decide +kernel
theorem dX12_added_34 : decode cX12_added 34 = .ok (.invokevirtual 394, 3) := by decide +kernel
theorem dX12_added_37 : decode cX12_added 37 = .ok (.istore 4, 2) := by decide +kernel
theorem dX12_added_39 : decode cX12_added 39 = .ok (.aload_n 0, 1) := by decide +kernel
theorem dX12_added_40 : decode cX12_added 40 = .ok (.getfield 299, 3) := by decide +kernel
theorem dX12_added_43 : decode cX12_added 43 = .ok (.ifCond .ne 11, 3) := by decide +kernel
theorem dX12_added_46 : decode cX12_added 46 = .ok (.aload_n 0, 1) := by decide +kernel
theorem dX12_added_47 : decode cX12_added 47 = .ok (.getfield 45, 3) := by decide +kernel
theorem dX12_added_50 : decode cX12_added 50 = .ok (.iload_n 3, 1) := by decide +kernel
theorem dX12_added_51 : decode cX12_added 51 = .ok (.iload 4, 2) := by decide +kernel
theorem dX12_added_53 : decode cX12_added 53 = .ok (.iastore, 1) := by decide +kernel
theorem dX12_added_54 : decode cX12_added 54 = .ok (.iload_n 3, 1) := by decide +kernel
theorem dX12_added_55 : decode cX12_added 55 = .ok (.istore_n 2, 1) := by decide +kernel
theorem dX12_added_56 : decode cX12_added 56 = .ok (.goto (-50), 3) := by decide +kernel
theorem dX12_added_59 : decode cX12_added 59 = .ok (.iload_n 2, 1) := by decide +kernel
theorem dX12_added_60 : decode cX12_added 60 = .ok (.ireturn, 1) := by decide +kernel
theorem dX12_multiplied_0 : decode cX12_multiplied 0 = .ok (.aload_n 0, 1) := by decide +kernel
theorem dX12_multiplied_1 : decode cX12_multiplied 1 = .ok (.iload_n 1, 1) := by decide +kernel
theorem dX12_multiplied_2 : decode cX12_multiplied 2 = .ok (.iconst 1, 1) := by decide +kernel
theorem dX12_multiplied_3 : decode cX12_multiplied 3 = .ok (.iadd, 1) := by decide +kernel
theorem dX12_multiplied_4 : decode cX12_multiplied 4 = .ok (.invokevirtual 397, 3) := by decide +kernel
theorem dX12_multiplied_7 : decode cX12_multiplied 7 = .ok (.istore_n 2, 1) := by decide +kernel
theorem dX12_multiplied_8 : decode cX12_multiplied 8 = .ok (.aload_n 0, 1) := by decide +kernel
theorem dX12_multiplied_9 : decode cX12_multiplied 9 = .ok (.sipush 142, 3) := by decide +kernel
theorem dX12_multiplied_12 : decode cX12_multiplied 12 = .ok (.invokevirtual 356, 3) := by decide +kernel
theorem dX12_multiplied_15 : decode cX12_multiplied 15 = .ok (.ifCond .ne 23, 3) := by decide +kernel
theorem dX12_multiplied_18 : decode cX12_multiplied 18 = .ok (.aload_n 0, 1) := by decide +kernel
theorem dX12_multiplied_19 : decode cX12_multiplied 19 = .ok (.sipush 147, 3) := by decide +kernel
theorem dX12_multiplied_22 : decode cX12_multiplied 22 = .ok (.invokevirtual 356, 3) := by decide +kernel
theorem dX12_multiplied_25 : decode cX12_multiplied 25 = .ok (.ifCond .ne 13, 3) := by decide +kernel
theorem dX12_multiplied_28 : decode cX12_multiplied 28 = .ok (.aload_n 0, 1) := by decide +kernel
theorem dX12_multiplied_29 : decode cX12_multiplied 29 = .ok (.sipush 137, 3) := by decide +kernel
theorem dX12_multiplied_32 : decode cX12_multiplied 32 = .ok (.invokevirtual 356, 3) := by decide +kernel
theorem dX12_multiplied_35 : decode cX12_multiplied 35 = .ok (.ifCond .eq 38, 3) := by decide +kernel
theorem dX12_multiplied_38 : decode cX12_multiplied 38 = .ok (.aload_n 0, 1) := by decide +kernel
theorem dX12_multiplied_39 : decode cX12_multiplied 39 = .ok (.iload_n 2, 1) := by decide +kernel
theorem dX12_multiplied_40 : decode cX12_multiplied 40 = .ok (.invokevirtual 391, 3) := by decide +kernel
theorem dX12_multiplied_43 : decode cX12_multiplied 43 = .ok (.istore_n 3, 1) := by decide +kernel
theorem dX12_multiplied_44 : decode cX12_multiplied 44 = .ok (.aload_n 0, 1) := by decide +kernel
theorem dX12_multiplied_45 : decode cX12_multiplied 45 = .ok (.iload_n 1, 1) := by decide +kernel
theorem dX12_multiplied_46 : decode cX12_multiplied 46 = .ok (.iconst 1, 1) := by decide +kernel
theorem dX12_multiplied_47 : decode cX12_multiplied 47 = .ok (.iadd, 1) := by decide +kernel
theorem dX12_multiplied_48 : decode cX12_multiplied 48 = .ok (.invokevirtual 397, 3) := by decide +kernel
theorem dX12_multiplied_51 : decode cX12_multiplied 51 = .ok (.istore 4, 2) := by decide +kernel
theorem dX12_multiplied_53 : decode cX12_multiplied 53 = .ok (.aload_n 0, 1) := by decide +kernel
theorem dX12_multiplied_54 : decode cX12_multiplied 54 = .ok (.getfield 299, 3) := by decide +kernel
theorem dX12_multiplied_57 : decode cX12_multiplied 57 = .ok (.ifCond .ne 11, 3) := by decide +kernel
theorem dX12_multiplied_60 : decode cX12_multiplied 60 = .ok (.aload_n 0, 1) := by decide +kernel
theorem dX12_multiplied_61 : decode cX12_multiplied 61 = .ok (.getfield 45, 3) := by decide +kernel
theorem dX12_multiplied_64 : decode cX12_multiplied 64 = .ok (.iload_n 3, 1) := by decide +kernel
theorem dX12_multiplied_65 : decode cX12_multiplied 65 = .ok (.iload 4, 2) := by decide +kernel
theorem dX12_multiplied_67 : decode cX12_multiplied 67 = .ok (.iastore, 1) := by decide +kernel
theorem dX12_multiplied_68 : decode cX12_multiplied 68 = .ok (.iload_n 3, 1) := by decide +kernel
theorem dX12_multiplied_69 : decode cX12_multiplied 69 = .ok (.istore_n 2, 1) := by decide +kernel
theorem dX12_multiplied_70 : decode cX12_multiplied 70 = .ok (.goto (-62), 3) := by decide +kernel
theorem dX12_multiplied_73 : decode cX12_multiplied 73 = .ok (.iload_n 2, 1) := by decide +kernel
theorem dX12_multiplied_74 : decode cX12_multiplied 74 = .ok (.ireturn, 1) := by decide +kernel
theorem dX12_unary_0 : decode cX12_unary 0 = .ok (.aload_n 0, 1) := by decide +kernel
theorem dX12_unary_1 : decode cX12_unary 1 = .ok (.getfield 299, 3) := by decide +kernel
theorem dX12_unary_4 : decode cX12_unary 4 = .ok (.ifCond .le 5, 3) := by decide +kernel
theorem dX12_unary_7 : decode cX12_unary 7 = .ok (.iconst (-1), 1) := by decide +kernel
theorem dX12_unary_8 : decode cX12_unary 8 = .ok (.ireturn, 1) := by decide +kernel
theorem dX12_unary_9 : decode cX12_unary 9 = .ok (.aload_n 0, 1) := by decide +kernel
theorem dX12_unary_10 : decode cX12_unary 10 = .ok (.invokevirtual 372, 3) := by decide +kernel
theorem dX12_unary_13 : decode cX12_unary 13 = .ok (.ifCond .ne 10, 3) := by decide +kernel
theorem dX12_unary_16 : decode cX12_unary 16 = .ok (.aload_n 0, 1) := by decide +kernel
theorem dX12_unary_17 : decode cX12_unary 17 = .ok (.invokevirtual 337, 3) := by decide +kernel
theorem dX12_unary_20 : decode cX12_unary 20 = .ok (.goto 23, 3) := by decide +kernel
theorem dX12_unary_23 : decode cX12_unary 23 = .ok (.iload_n 1, 1) := by decide +kernel
theorem dX12_unary_24 : decode cX12_unary 24 = .ok (.bipush 20, 2) := by decide +kernel
theorem dX12_unary_26 : decode cX12_unary 26 = .ok (.if_icmp .lt 17, 3) := by decide +kernel
theorem dX12_unary_29 : decode cX12_unary 29 = .ok (.aload_n 0, 1) := by decide +kernel
theorem dX12_unary_30 : decode cX12_unary 30 = .ok (.iconst 4, 1) := by decide +kernel
theorem dX12_unary_31 : decode cX12_unary 31 = .ok (.aload_n 0, 1) := by decide +kernel
theorem dX12_unary_32 : decode cX12_unary 32 = .ok (.getfield 30, 3) := by decide +kernel
theorem dX12_unary_35 : decode cX12_unary 35 = .ok (.aload_n 0, 1) := by decide +kernel
theorem dX12_unary_36 : decode cX12_unary 36 = .ok (.getfield 296, 3) := by decide +kernel
theorem dX12_unary_39 : decode cX12_unary 39 = .ok (.iaload, 1) := by decide +kernel
theorem dX12_unary_40 : decode cX12_unary 40 = .ok (.invokevirtual 333, 3) := by decide +kernel
theorem dX12_unary_43 : decode cX12_unary 43 = .ok (.aload_n 0, 1) := by decide +kernel
theorem dX12_unary_44 : decode cX12_unary 44 = .ok (.sipush 145, 3) := by decide +kernel
theorem dX12_unary_47 : decode cX12_unary 47 = .ok (.invokevirtual 356, 3) := by decide +kernel
theorem dX12_unary_50 : decode cX12_unary 50 = .ok (.ifCond .eq 44, 3) := by decide +kernel
theorem dX12_unary_53 : decode cX12_unary 53 = .ok (.aload_n 0, 1) := by decide +kernel
theorem dX12_unary_54 : decode cX12_unary 54 = .ok (.invokevirtual 379, 3) := by decide +kernel
theorem dX12_unary_57 : decode cX12_unary 57 = .ok (.ifCond .ne 5, 3) := by decide +kernel
theorem dX12_unary_60 : decode cX12_unary 60 = .ok (.iconst (-1), 1) := by decide +kernel
theorem dX12_unary_61 : decode cX12_unary 61 = .ok (.ireturn, 1) := by decide +kernel
theorem dX12_unary_62 : decode cX12_unary 62 = .ok (.aload_n 0, 1) := by decide +kernel
theorem dX12_unary_63 : decode cX12_unary 63 = .ok (.bipush 47, 2) := by decide +kernel
theorem dX12_unary_65 : decode cX12_unary 65 = .ok (.invokevirtual 382, 3) := by decide +kernel
theorem dX12_unary_68 : decode cX12_unary 68 = .ok (.istore_n 2, 1) := by decide +kernel
theorem dX12_unary_69 : decode cX12_unary 69 = .ok (.aload_n 0, 1) := by decide +kernel
theorem dX12_unary_70 : decode cX12_unary 70 = .ok (.dup, 1) := by decide +kernel
theorem dX12_unary_71 : decode cX12_unary 71 = .ok (.getfield 296, 3) := by decide +kernel
theorem dX12_unary_74 : decode cX12_unary 74 = .ok (.iconst 1, 1) := by decide +kernel
theorem dX12_unary_75 : decode cX12_unary 75 = .ok (.iadd, 1) := by decide +kernel
theorem dX12_unary_76 : decode cX12_unary 76 = .ok (.putfield 296, 3) := by decide +kernel
theorem dX12_unary_79 : decode cX12_unary 79 = .ok (.aload_n 0, 1) := by decide +kernel
theorem dX12_unary_80 : decode cX12_unary 80 = .ok (.getfield 42, 3) := by decide +kernel
theorem dX12_unary_83 : decode cX12_unary 83 = .ok (.iload_n 2, 1) := by decide +kernel
theorem dX12_unary_84 : decode cX12_unary 84 = .ok (.aload_n 0, 1) := by decide +kernel
theorem dX12_unary_85 : decode cX12_unary 85 = .ok (.iload_n 1, 1) := by decide +kernel
theorem dX12_unary_86 : decode cX12_unary 86 = .ok (.iconst 1, 1) := by decide +kernel
theorem dX12_unary_87 : decode cX12_unary 87 = .ok (.iadd, 1) := by decide +kernel
theorem dX12_unary_88 : decode cX12_unary 88 = .ok (.invokevirtual 397, 3) := by decide +kernel
theorem dX12_unary_91 : decode cX12_unary 91 = .ok (.iastore, 1) := by decide +kernel
theorem dX12_unary_92 : decode cX12_unary 92 = .ok (.iload_n 2, 1) := by decide +kernel
theorem dX12_unary_93 : decode cX12_unary 93 = .ok (.ireturn, 1) := by decide +kernel
theorem dX12_unary_94 : decode cX12_unary 94 = .ok (.aload_n 0, 1) := by decide +kernel
theorem dX12_unary_95 : decode cX12_unary 95 = .ok (.iload_n 1, 1) := by decide +kernel
theorem dX12_unary_96 : decode cX12_unary 96 = .ok (.invokevirtual 400, 3) := by decide +kernel
theorem dX12_unary_99 : decode cX12_unary 99 = .ok (.istore_n 2, 1) := by decide +kernel
theorem dX12_unary_100 : decode cX12_unary 100 = .ok (.aload_n 0, 1) := by decide +kernel
theorem dX12_unary_101 : decode cX12_unary 101 = .ok (.sipush 191, 3) := by decide +kernel
theorem dX12_unary_104 : decode cX12_unary 104 = .ok (.invokevirtual 356, 3) := by decide +kernel
theorem dX12_unary_107 : decode cX12_unary 107 = .ok (.ifCond .eq 61, 3) := by decide +kernel
theorem dX12_unary_110 : decode cX12_unary 110 = .ok (.aload_n 0, 1) := by decide +kernel
theorem dX12_unary_111 : decode cX12_unary 111 = .ok (.invokevirtual 379, 3) := by decide +kernel
theorem dX12_unary_114 : decode cX12_unary 114 = .ok (.ifCond .ne 5, 3) := by decide +kernel
theorem dX12_unary_117 : decode cX12_unary 117 = .ok (.iconst (-1), 1) := by decide +kernel
theorem dX12_unary_118 : decode cX12_unary 118 = .ok (.ireturn, 1) := by decide +kernel
theorem dX12_unary_119 : decode cX12_unary 119 = .ok (.aload_n 0, 1) := by decide +kernel
theorem dX12_unary_120 : decode cX12_unary 120 = .ok (.bipush 51, 2) := by decide +kernel
theorem dX12_unary_122 : decode cX12_unary 122 = .ok (.invokevirtual 382, 3) := by decide +kernel
theorem dX12_unary_125 : decode cX12_unary 125 = .ok (.istore_n 3, 1) := by decide +kernel
theorem dX12_unary_126 : decode cX12_unary 126 = .ok (.aload_n 0, 1) := by decide +kernel
theorem dX12_unary_127 : decode cX12_unary 127 = .ok (.dup, 1) := by decide +kernel
theorem dX12_unary_128 : decode cX12_unary 128 = .ok (.getfield 296, 3) := by decide +kernel
theorem dX12_unary_131 : decode cX12_unary 131 = .ok (.iconst 1, 1) := by decide +kernel
theorem dX12_unary_132 : decode cX12_unary 132 = .ok (.iadd, 1) := by decide +kernel
theorem dX12_unary_133 : decode cX12_unary 133 = .ok (.putfield 296, 3) := by decide +kernel
theorem dX12_unary_136 : decode cX12_unary 136 = .ok (.aload_n 0, 1) := by decide +kernel
theorem dX12_unary_137 : decode cX12_unary 137 = .ok (.getfield 42, 3) := by decide +kernel
theorem dX12_unary_140 : decode cX12_unary 140 = .ok (.iload_n 3, 1) := by decide +kernel
theorem dX12_unary_141 : decode cX12_unary 141 = .ok (.iload_n 2, 1) := by decide +kernel
theorem dX12_unary_142 : decode cX12_unary 142 = .ok (.iastore, 1) := by decide +kernel
theorem dX12_unary_143 : decode cX12_unary 143 = .ok (.aload_n 0, 1) := by decide +kernel
theorem dX12_unary_144 : decode cX12_unary 144 = .ok (.getfield 45, 3) := by decide +kernel
theorem dX12_unary_147 : decode cX12_unary 147 = .ok (.iload_n 3, 1) := by decide +kernel
theorem dX12_unary_148 : decode cX12_unary 148 = .ok (.aload_n 0, 1) := by decide +kernel
theorem dX12_unary_149 : decode cX12_unary 149 = .ok (.iload_n 1, 1) := by decide +kernel
theorem dX12_unary_150 : decode cX12_unary 150 = .ok (.iconst 1, 1) := by decide +kernel
theorem dX12_unary_151 : decode cX12_unary 151 = .ok (.iadd, 1) := by decide +kernel
theorem dX12_unary_152 : decode cX12_unary 152 = .ok (.invokevirtual 363, 3) := by decide +kernel
theorem dX12_unary_155 : decode cX12_unary 155 = .ok (.iastore, 1) := by decide +kernel
theorem dX12_unary_156 : decode cX12_unary 156 = .ok (.aload_n 0, 1) := by decide +kernel
theorem dX12_unary_157 : decode cX12_unary 157 = .ok (.sipush 193, 3) := by decide +kernel
theorem dX12_unary_160 : decode cX12_unary 160 = .ok (.invokevirtual 352, 3) := by decide +kernel
theorem dX12_unary_163 : decode cX12_unary 163 = .ok (.iload_n 3, 1) := by decide +kernel
theorem dX12_unary_164 : decode cX12_unary 164 = .ok (.istore_n 2, 1) := by decide +kernel
theorem dX12_unary_165 : decode cX12_unary 165 = .ok (.goto (-65), 3) := by decide +kernel
theorem dX12_unary_168 : decode cX12_unary 168 = .ok (.iload_n 2, 1) := by decide +kernel
theorem dX12_unary_169 : decode cX12_unary 169 = .ok (.ireturn, 1) := by decide +kernel
theorem dX12_primary_0 : decode cX12_primary 0 = .ok (.aload_n 0, 1) := by decide +kernel
theorem dX12_primary_1 : decode cX12_primary 1 = .ok (.getfield 299, 3) := by decide +kernel
theorem dX12_primary_4 : decode cX12_primary 4 = .ok (.ifCond .le 5, 3) := by decide +kernel
theorem dX12_primary_7 : decode cX12_primary 7 = .ok (.iconst (-1), 1) := by decide +kernel
theorem dX12_primary_8 : decode cX12_primary 8 = .ok (.ireturn, 1) := by decide +kernel
theorem dX12_primary_9 : decode cX12_primary 9 = .ok (.aload_n 0, 1) := by decide +kernel
theorem dX12_primary_10 : decode cX12_primary 10 = .ok (.invokevirtual 329, 3) := by decide +kernel
theorem dX12_primary_13 : decode cX12_primary 13 = .ok (.sipush 140, 3) := by decide +kernel
theorem dX12_primary_16 : decode cX12_primary 16 = .ok (.if_icmp .ne 30, 3) := by decide +kernel
theorem dX12_primary_19 : decode cX12_primary 19 = .ok (.aload_n 0, 1) := by decide +kernel
theorem dX12_primary_20 : decode cX12_primary 20 = .ok (.dup, 1) := by decide +kernel
theorem dX12_primary_21 : decode cX12_primary 21 = .ok (.getfield 296, 3) := by decide +kernel
theorem dX12_primary_24 : decode cX12_primary 24 = .ok (.iconst 1, 1) := by decide +kernel
theorem dX12_primary_25 : decode cX12_primary 25 = .ok (.iadd, 1) := by decide +kernel
theorem dX12_primary_26 : decode cX12_primary 26 = .ok (.putfield 296, 3) := by decide +kernel
theorem dX12_primary_29 : decode cX12_primary 29 = .ok (.aload_n 0, 1) := by decide +kernel
theorem dX12_primary_30 : decode cX12_primary 30 = .ok (.iload_n 1, 1) := by decide +kernel
theorem dX12_primary_31 : decode cX12_primary 31 = .ok (.iconst 1, 1) := by decide +kernel
theorem dX12_primary_32 : decode cX12_primary 32 = .ok (.iadd, 1) := by decide +kernel
theorem dX12_primary_33 : decode cX12_primary 33 = .ok (.invokevirtual 363, 3) := by decide +kernel
theorem dX12_primary_36 : decode cX12_primary 36 = .ok (.istore_n 2, 1) := by decide +kernel
theorem dX12_primary_37 : decode cX12_primary 37 = .ok (.aload_n 0, 1) := by decide +kernel
theorem dX12_primary_38 : decode cX12_primary 38 = .ok (.sipush 141, 3) := by decide +kernel
theorem dX12_primary_41 : decode cX12_primary 41 = .ok (.invokevirtual 352, 3) := by decide +kernel
theorem dX12_primary_44 : decode cX12_primary 44 = .ok (.iload_n 2, 1) := by decide +kernel
theorem dX12_primary_45 : decode cX12_primary 45 = .ok (.ireturn, 1) := by decide +kernel
theorem dX12_primary_46 : decode cX12_primary 46 = .ok (.aload_n 0, 1) := by decide +kernel
theorem dX12_primary_47 : decode cX12_primary 47 = .ok (.invokevirtual 379, 3) := by decide +kernel
theorem dX12_primary_50 : decode cX12_primary 50 = .ok (.ifCond .ne 5, 3) := by decide +kernel
theorem dX12_primary_53 : decode cX12_primary 53 = .ok (.iconst (-1), 1) := by decide +kernel
theorem dX12_primary_54 : decode cX12_primary 54 = .ok (.ireturn, 1) := by decide +kernel
theorem dX12_primary_55 : decode cX12_primary 55 = .ok (.aload_n 0, 1) := by decide +kernel
theorem dX12_primary_56 : decode cX12_primary 56 = .ok (.invokevirtual 329, 3) := by decide +kernel
theorem dX12_primary_59 : decode cX12_primary 59 = .ok (.istore_n 2, 1) := by decide +kernel
theorem dX12_primary_60 : decode cX12_primary 60 = .ok (.iload_n 2, 1) := by decide +kernel
theorem dX12_primary_61 : decode cX12_primary 61 = .ok (.bipush 19, 2) := by decide +kernel
theorem dX12_primary_63 : decode cX12_primary 63 = .ok (.if_icmp .ne 9, 3) := by decide +kernel
theorem dX12_primary_66 : decode cX12_primary 66 = .ok (.aload_n 0, 1) := by decide +kernel
theorem dX12_primary_67 : decode cX12_primary 67 = .ok (.iload_n 1, 1) := by decide +kernel
theorem dX12_primary_68 : decode cX12_primary 68 = .ok (.invokevirtual 403, 3) := by decide +kernel
theorem dX12_primary_71 : decode cX12_primary 71 = .ok (.ireturn, 1) := by decide +kernel
theorem dX12_primary_72 : decode cX12_primary 72 = .ok (.iload_n 2, 1) := by decide +kernel
theorem dX12_primary_73 : decode cX12_primary 73 = .ok (.bipush 40, 2) := by decide +kernel
theorem dX12_primary_75 : decode cX12_primary 75 = .ok (.if_icmp .ne 8, 3) := by decide +kernel
theorem dX12_primary_78 : decode cX12_primary 78 = .ok (.aload_n 0, 1) := by decide +kernel
theorem dX12_primary_79 : decode cX12_primary 79 = .ok (.invokevirtual 406, 3) := by decide +kernel
theorem dX12_primary_82 : decode cX12_primary 82 = .ok (.ireturn, 1) := by decide +kernel
theorem dX12_primary_83 : decode cX12_primary 83 = .ok (.aload_n 0, 1) := by decide +kernel
theorem dX12_primary_84 : decode cX12_primary 84 = .ok (.iload_n 2, 1) := by decide +kernel
theorem dX12_primary_85 : decode cX12_primary 85 = .ok (.invokevirtual 382, 3) := by decide +kernel
theorem dX12_primary_88 : decode cX12_primary 88 = .ok (.istore_n 3, 1) := by decide +kernel
theorem dX12_primary_89 : decode cX12_primary 89 = .ok (.aload_n 0, 1) := by decide +kernel
theorem dX12_primary_90 : decode cX12_primary 90 = .ok (.getfield 51, 3) := by decide +kernel
theorem dX12_primary_93 : decode cX12_primary 93 = .ok (.iload_n 3, 1) := by decide +kernel
theorem dX12_primary_94 : decode cX12_primary 94 = .ok (.aload_n 0, 1) := by decide +kernel
theorem dX12_primary_95 : decode cX12_primary 95 = .ok (.getfield 33, 3) := by decide +kernel
theorem dX12_primary_98 : decode cX12_primary 98 = .ok (.aload_n 0, 1) := by decide +kernel
theorem dX12_primary_99 : decode cX12_primary 99 = .ok (.getfield 296, 3) := by decide +kernel
theorem dX12_primary_102 : decode cX12_primary 102 = .ok (.laload, 1) := by decide +kernel
theorem dX12_primary_103 : decode cX12_primary 103 = .ok (.lastore, 1) := by decide +kernel
theorem dX12_primary_104 : decode cX12_primary 104 = .ok (.aload_n 0, 1) := by decide +kernel
theorem dX12_primary_105 : decode cX12_primary 105 = .ok (.getfield 54, 3) := by decide +kernel
theorem dX12_primary_108 : decode cX12_primary 108 = .ok (.iload_n 3, 1) := by decide +kernel
theorem dX12_primary_109 : decode cX12_primary 109 = .ok (.aload_n 0, 1) := by decide +kernel
theorem dX12_primary_110 : decode cX12_primary 110 = .ok (.getfield 36, 3) := by decide +kernel
theorem dX12_primary_113 : decode cX12_primary 113 = .ok (.aload_n 0, 1) := by decide +kernel
theorem dX12_primary_114 : decode cX12_primary 114 = .ok (.getfield 296, 3) := by decide +kernel
theorem dX12_primary_117 : decode cX12_primary 117 = .ok (.iaload, 1) := by decide +kernel
theorem dX12_primary_118 : decode cX12_primary 118 = .ok (.iastore, 1) := by decide +kernel
theorem dX12_primary_119 : decode cX12_primary 119 = .ok (.aload_n 0, 1) := by decide +kernel
theorem dX12_primary_120 : decode cX12_primary 120 = .ok (.dup, 1) := by decide +kernel
theorem dX12_primary_121 : decode cX12_primary 121 = .ok (.getfield 296, 3) := by decide +kernel
theorem dX12_primary_124 : decode cX12_primary 124 = .ok (.iconst 1, 1) := by decide +kernel
theorem dX12_primary_125 : decode cX12_primary 125 = .ok (.iadd, 1) := by decide +kernel
theorem dX12_primary_126 : decode cX12_primary 126 = .ok (.putfield 296, 3) := by decide +kernel
theorem dX12_primary_129 : decode cX12_primary 129 = .ok (.iload_n 2, 1) := by decide +kernel
theorem dX12_primary_130 : decode cX12_primary 130 = .ok (.invokestatic 366, 3) := by decide +kernel
theorem dX12_primary_133 : decode cX12_primary 133 = .ok (.istore 4, 2) := by decide +kernel
theorem dX12_primary_135 : decode cX12_primary 135 = .ok (.iload 4, 2) := by decide +kernel
theorem dX12_primary_137 : decode cX12_primary 137 = .ok (.ifCond .le 82, 3) := by decide +kernel
theorem dX12_primary_140 : decode cX12_primary 140 = .ok (.aload_n 0, 1) := by decide +kernel
theorem dX12_primary_141 : decode cX12_primary 141 = .ok (.sipush 140, 3) := by decide +kernel
theorem dX12_primary_144 : decode cX12_primary 144 = .ok (.invokevirtual 352, 3) := by decide +kernel
theorem dX12_primary_147 : decode cX12_primary 147 = .ok (.aload_n 0, 1) := by decide +kernel
theorem dX12_primary_148 : decode cX12_primary 148 = .ok (.getfield 42, 3) := by decide +kernel
theorem dX12_primary_151 : decode cX12_primary 151 = .ok (.iload_n 3, 1) := by decide +kernel
theorem dX12_primary_152 : decode cX12_primary 152 = .ok (.aload_n 0, 1) := by decide +kernel
theorem dX12_primary_153 : decode cX12_primary 153 = .ok (.iload_n 1, 1) := by decide +kernel
theorem dX12_primary_154 : decode cX12_primary 154 = .ok (.iconst 1, 1) := by decide +kernel
theorem dX12_primary_155 : decode cX12_primary 155 = .ok (.iadd, 1) := by decide +kernel
theorem dX12_primary_156 : decode cX12_primary 156 = .ok (.invokevirtual 363, 3) := by decide +kernel
theorem dX12_primary_159 : decode cX12_primary 159 = .ok (.iastore, 1) := by decide +kernel
theorem dX12_primary_160 : decode cX12_primary 160 = .ok (.iload 4, 2) := by decide +kernel
theorem dX12_primary_162 : decode cX12_primary 162 = .ok (.iconst 1, 1) := by decide +kernel
theorem dX12_primary_163 : decode cX12_primary 163 = .ok (.if_icmp .le 23, 3) := by decide +kernel
theorem dX12_primary_166 : decode cX12_primary 166 = .ok (.aload_n 0, 1) := by decide +kernel
theorem dX12_primary_167 : decode cX12_primary 167 = .ok (.sipush 144, 3) := by decide +kernel
theorem dX12_primary_170 : decode cX12_primary 170 = .ok (.invokevirtual 352, 3) := by decide +kernel
theorem dX12_primary_173 : decode cX12_primary 173 = .ok (.aload_n 0, 1) := by decide +kernel
theorem dX12_primary_174 : decode cX12_primary 174 = .ok (.getfield 45, 3) := by decide +kernel
theorem dX12_primary_177 : decode cX12_primary 177 = .ok (.iload_n 3, 1) := by decide +kernel
theorem dX12_primary_178 : decode cX12_primary 178 = .ok (.aload_n 0, 1) := by decide +kernel
theorem dX12_primary_179 : decode cX12_primary 179 = .ok (.iload_n 1, 1) := by decide +kernel
theorem dX12_primary_180 : decode cX12_primary 180 = .ok (.iconst 1, 1) := by decide +kernel
theorem dX12_primary_181 : decode cX12_primary 181 = .ok (.iadd, 1) := by decide +kernel
theorem dX12_primary_182 : decode cX12_primary 182 = .ok (.invokevirtual 363, 3) := by decide +kernel
theorem dX12_primary_185 : decode cX12_primary 185 = .ok (.iastore, 1) := by decide +kernel
theorem dX12_primary_186 : decode cX12_primary 186 = .ok (.iload 4, 2) := by decide +kernel
theorem dX12_primary_188 : decode cX12_primary 188 = .ok (.iconst 2, 1) := by decide +kernel
theorem dX12_primary_189 : decode cX12_primary 189 = .ok (.if_icmp .le 23, 3) := by decide +kernel
theorem dX12_primary_192 : decode cX12_primary 192 = .ok (.aload_n 0, 1) := by decide +kernel
theorem dX12_primary_193 : decode cX12_primary 193 = .ok (.sipush 144, 3) := by decide +kernel
theorem dX12_primary_196 : decode cX12_primary 196 = .ok (.invokevirtual 352, 3) := by decide +kernel
theorem dX12_primary_199 : decode cX12_primary 199 = .ok (.aload_n 0, 1) := by decide +kernel
theorem dX12_primary_200 : decode cX12_primary 200 = .ok (.getfield 48, 3) := by decide +kernel
theorem dX12_primary_203 : decode cX12_primary 203 = .ok (.iload_n 3, 1) := by decide +kernel
theorem dX12_primary_204 : decode cX12_primary 204 = .ok (.aload_n 0, 1) := by decide +kernel
theorem dX12_primary_205 : decode cX12_primary 205 = .ok (.iload_n 1, 1) := by decide +kernel
theorem dX12_primary_206 : decode cX12_primary 206 = .ok (.iconst 1, 1) := by decide +kernel
theorem dX12_primary_207 : decode cX12_primary 207 = .ok (.iadd, 1) := by decide +kernel
theorem dX12_primary_208 : decode cX12_primary 208 = .ok (.invokevirtual 363, 3) := by decide +kernel
theorem dX12_primary_211 : decode cX12_primary 211 = .ok (.iastore, 1) := by decide +kernel
theorem dX12_primary_212 : decode cX12_primary 212 = .ok (.aload_n 0, 1) := by decide +kernel
theorem dX12_primary_213 : decode cX12_primary 213 = .ok (.sipush 141, 3) := by decide +kernel
theorem dX12_primary_216 : decode cX12_primary 216 = .ok (.invokevirtual 352, 3) := by decide +kernel
theorem dX12_primary_219 : decode cX12_primary 219 = .ok (.iload_n 3, 1) := by decide +kernel
theorem dX12_primary_220 : decode cX12_primary 220 = .ok (.ireturn, 1) := by decide +kernel
theorem dX12_sum_0 : decode cX12_sum 0 = .ok (.aload_n 0, 1) := by decide +kernel
theorem dX12_sum_1 : decode cX12_sum 1 = .ok (.bipush 19, 2) := by decide +kernel
theorem dX12_sum_3 : decode cX12_sum 3 = .ok (.invokevirtual 382, 3) := by decide +kernel
theorem dX12_sum_6 : decode cX12_sum 6 = .ok (.istore_n 2, 1) := by decide +kernel
theorem dX12_sum_7 : decode cX12_sum 7 = .ok (.aload_n 0, 1) := by decide +kernel
theorem dX12_sum_8 : decode cX12_sum 8 = .ok (.dup, 1) := by decide +kernel
theorem dX12_sum_9 : decode cX12_sum 9 = .ok (.getfield 296, 3) := by decide +kernel
theorem dX12_sum_12 : decode cX12_sum 12 = .ok (.iconst 1, 1) := by decide +kernel
theorem dX12_sum_13 : decode cX12_sum 13 = .ok (.iadd, 1) := by decide +kernel
theorem dX12_sum_14 : decode cX12_sum 14 = .ok (.putfield 296, 3) := by decide +kernel
theorem dX12_sum_17 : decode cX12_sum 17 = .ok (.aload_n 0, 1) := by decide +kernel
theorem dX12_sum_18 : decode cX12_sum 18 = .ok (.getfield 33, 3) := by decide +kernel
theorem dX12_sum_21 : decode cX12_sum 21 = .ok (.aload_n 0, 1) := by decide +kernel
theorem dX12_sum_22 : decode cX12_sum 22 = .ok (.getfield 296, 3) := by decide +kernel
theorem dX12_sum_25 : decode cX12_sum 25 = .ok (.laload, 1) := by decide +kernel
theorem dX12_sum_26 : decode cX12_sum 26 = .ok (.lstore_n 3, 1) := by decide +kernel
theorem dX12_sum_27 : decode cX12_sum 27 = .ok (.aload_n 0, 1) := by decide +kernel
theorem dX12_sum_28 : decode cX12_sum 28 = .ok (.bipush 40, 2) := by decide +kernel
theorem dX12_sum_30 : decode cX12_sum 30 = .ok (.invokevirtual 352, 3) := by decide +kernel
theorem dX12_sum_33 : decode cX12_sum 33 = .ok (.aload_n 0, 1) := by decide +kernel
theorem dX12_sum_34 : decode cX12_sum 34 = .ok (.bipush 7, 2) := by decide +kernel
theorem dX12_sum_36 : decode cX12_sum 36 = .ok (.invokevirtual 352, 3) := by decide +kernel
theorem dX12_sum_39 : decode cX12_sum 39 = .ok (.aload_n 0, 1) := by decide +kernel
theorem dX12_sum_40 : decode cX12_sum 40 = .ok (.getfield 42, 3) := by decide +kernel
theorem dX12_sum_43 : decode cX12_sum 43 = .ok (.iload_n 2, 1) := by decide +kernel
theorem dX12_sum_44 : decode cX12_sum 44 = .ok (.aload_n 0, 1) := by decide +kernel
theorem dX12_sum_45 : decode cX12_sum 45 = .ok (.iload_n 1, 1) := by decide +kernel
theorem dX12_sum_46 : decode cX12_sum 46 = .ok (.iconst 1, 1) := by decide +kernel
theorem dX12_sum_47 : decode cX12_sum 47 = .ok (.iadd, 1) := by decide +kernel
theorem dX12_sum_48 : decode cX12_sum 48 = .ok (.invokevirtual 363, 3) := by decide +kernel
theorem dX12_sum_51 : decode cX12_sum 51 = .ok (.iastore, 1) := by decide +kernel
theorem dX12_sum_52 : decode cX12_sum 52 = .ok (.aload_n 0, 1) := by decide +kernel
theorem dX12_sum_53 : decode cX12_sum 53 = .ok (.bipush 21, 2) := by decide +kernel
theorem dX12_sum_55 : decode cX12_sum 55 = .ok (.invokevirtual 352, 3) := by decide +kernel
theorem dX12_sum_58 : decode cX12_sum 58 = .ok (.aload_n 0, 1) := by decide +kernel
theorem dX12_sum_59 : decode cX12_sum 59 = .ok (.getfield 45, 3) := by decide +kernel
theorem dX12_sum_62 : decode cX12_sum 62 = .ok (.iload_n 2, 1) := by decide +kernel
theorem dX12_sum_63 : decode cX12_sum 63 = .ok (.aload_n 0, 1) := by decide +kernel
theorem dX12_sum_64 : decode cX12_sum 64 = .ok (.iload_n 1, 1) := by decide +kernel
theorem dX12_sum_65 : decode cX12_sum 65 = .ok (.iconst 1, 1) := by decide +kernel
theorem dX12_sum_66 : decode cX12_sum 66 = .ok (.iadd, 1) := by decide +kernel
theorem dX12_sum_67 : decode cX12_sum 67 = .ok (.invokevirtual 363, 3) := by decide +kernel
theorem dX12_sum_70 : decode cX12_sum 70 = .ok (.iastore, 1) := by decide +kernel
theorem dX12_sum_71 : decode cX12_sum 71 = .ok (.aload_n 0, 1) := by decide +kernel
theorem dX12_sum_72 : decode cX12_sum 72 = .ok (.bipush 15, 2) := by decide +kernel
theorem dX12_sum_74 : decode cX12_sum 74 = .ok (.invokevirtual 352, 3) := by decide +kernel
theorem dX12_sum_77 : decode cX12_sum 77 = .ok (.aload_n 0, 1) := by decide +kernel
theorem dX12_sum_78 : decode cX12_sum 78 = .ok (.getfield 299, 3) := by decide +kernel
theorem dX12_sum_81 : decode cX12_sum 81 = .ok (.ifCond .ne 56, 3) := by decide +kernel
theorem dX12_sum_84 : decode cX12_sum 84 = .ok (.aload_n 0, 1) := by decide +kernel
theorem dX12_sum_85 : decode cX12_sum 85 = .ok (.getfield 69, 3) := by decide +kernel
theorem dX12_sum_88 : decode cX12_sum 88 = .ok (.aload_n 0, 1) := by decide +kernel
theorem dX12_sum_89 : decode cX12_sum 89 = .ok (.getfield 349, 3) := by decide +kernel
theorem dX12_sum_92 : decode cX12_sum 92 = .ok (.lload_n 3, 1) := by decide +kernel
theorem dX12_sum_93 : decode cX12_sum 93 = .ok (.lastore, 1) := by decide +kernel
theorem dX12_sum_94 : decode cX12_sum 94 = .ok (.aload_n 0, 1) := by decide +kernel
theorem dX12_sum_95 : decode cX12_sum 95 = .ok (.getfield 72, 3) := by decide +kernel
theorem dX12_sum_98 : decode cX12_sum 98 = .ok (.aload_n 0, 1) := by decide +kernel
theorem dX12_sum_99 : decode cX12_sum 99 = .ok (.getfield 349, 3) := by decide +kernel
theorem dX12_sum_102 : decode cX12_sum 102 = .ok (.iload_n 2, 1) := by decide +kernel
theorem dX12_sum_103 : decode cX12_sum 103 = .ok (.iastore, 1) := by decide +kernel
theorem dX12_sum_104 : decode cX12_sum 104 = .ok (.aload_n 0, 1) := by decide +kernel
theorem dX12_sum_105 : decode cX12_sum 105 = .ok (.dup, 1) := by decide +kernel
theorem dX12_sum_106 : decode cX12_sum 106 = .ok (.getfield 349, 3) := by decide +kernel
theorem dX12_sum_109 : decode cX12_sum 109 = .ok (.iconst 1, 1) := by decide +kernel
theorem dX12_sum_110 : decode cX12_sum 110 = .ok (.iadd, 1) := by decide +kernel
theorem dX12_sum_111 : decode cX12_sum 111 = .ok (.putfield 349, 3) := by decide +kernel
theorem dX12_sum_114 : decode cX12_sum 114 = .ok (.aload_n 0, 1) := by decide +kernel
theorem dX12_sum_115 : decode cX12_sum 115 = .ok (.getfield 48, 3) := by decide +kernel
theorem dX12_sum_118 : decode cX12_sum 118 = .ok (.iload_n 2, 1) := by decide +kernel
theorem dX12_sum_119 : decode cX12_sum 119 = .ok (.aload_n 0, 1) := by decide +kernel
theorem dX12_sum_120 : decode cX12_sum 120 = .ok (.iload_n 1, 1) := by decide +kernel
theorem dX12_sum_121 : decode cX12_sum 121 = .ok (.iconst 1, 1) := by decide +kernel
theorem dX12_sum_122 : decode cX12_sum 122 = .ok (.iadd, 1) := by decide +kernel
theorem dX12_sum_123 : decode cX12_sum 123 = .ok (.invokevirtual 397, 3) := by decide +kernel
theorem dX12_sum_126 : decode cX12_sum 126 = .ok (.iastore, 1) := by decide +kernel
theorem dX12_sum_127 : decode cX12_sum 127 = .ok (.aload_n 0, 1) := by decide +kernel
theorem dX12_sum_128 : decode cX12_sum 128 = .ok (.dup, 1) := by decide +kernel
theorem dX12_sum_129 : decode cX12_sum 129 = .ok (.getfield 349, 3) := by decide +kernel
theorem dX12_sum_132 : decode cX12_sum 132 = .ok (.iconst 1, 1) := by decide +kernel
theorem dX12_sum_133 : decode cX12_sum 133 = .ok (.isub, 1) := by decide +kernel
theorem dX12_sum_134 : decode cX12_sum 134 = .ok (.putfield 349, 3) := by decide +kernel
theorem dX12_sum_137 : decode cX12_sum 137 = .ok (.iload_n 2, 1) := by decide +kernel
theorem dX12_sum_138 : decode cX12_sum 138 = .ok (.ireturn, 1) := by decide +kernel
theorem dX12_named_0 : decode cX12_named 0 = .ok (.aload_n 0, 1) := by decide +kernel
theorem dX12_named_1 : decode cX12_named 1 = .ok (.getfield 33, 3) := by decide +kernel
theorem dX12_named_4 : decode cX12_named 4 = .ok (.aload_n 0, 1) := by decide +kernel
theorem dX12_named_5 : decode cX12_named 5 = .ok (.getfield 296, 3) := by decide +kernel
theorem dX12_named_8 : decode cX12_named 8 = .ok (.laload, 1) := by decide +kernel
theorem dX12_named_9 : decode cX12_named 9 = .ok (.lstore_n 1, 1) := by decide +kernel
theorem dX12_named_10 : decode cX12_named 10 = .ok (.aload_n 0, 1) := by decide +kernel
theorem dX12_named_11 : decode cX12_named 11 = .ok (.getfield 349, 3) := by decide +kernel
theorem dX12_named_14 : decode cX12_named 14 = .ok (.iconst 1, 1) := by decide +kernel
theorem dX12_named_15 : decode cX12_named 15 = .ok (.isub, 1) := by decide +kernel
theorem dX12_named_16 : decode cX12_named 16 = .ok (.istore_n 3, 1) := by decide +kernel
theorem dX12_named_17 : decode cX12_named 17 = .ok (.iload_n 3, 1) := by decide +kernel
theorem dX12_named_18 : decode cX12_named 18 = .ok (.ifCond .lt 20, 3) := by decide +kernel
theorem dX12_named_21 : decode cX12_named 21 = .ok (.aload_n 0, 1) := by decide +kernel
theorem dX12_named_22 : decode cX12_named 22 = .ok (.getfield 69, 3) := by decide +kernel
theorem dX12_named_25 : decode cX12_named 25 = .ok (.iload_n 3, 1) := by decide +kernel
theorem dX12_named_26 : decode cX12_named 26 = .ok (.laload, 1) := by decide +kernel
theorem dX12_named_27 : decode cX12_named 27 = .ok (.lload_n 1, 1) := by decide +kernel
theorem dX12_named_28 : decode cX12_named 28 = .ok (.lcmp, 1) := by decide +kernel
theorem dX12_named_29 : decode cX12_named 29 = .ok (.ifCond .eq 9, 3) := by decide +kernel
theorem dX12_named_32 : decode cX12_named 32 = .ok (.iinc 3 (-1), 3) := by decide +kernel
theorem dX12_named_35 : decode cX12_named 35 = .ok (.goto (-18), 3) := by decide +kernel
theorem dX12_named_38 : decode cX12_named 38 = .ok (.aload_n 0, 1) := by decide +kernel
theorem dX12_named_39 : decode cX12_named 39 = .ok (.aload_n 0, 1) := by decide +kernel
theorem dX12_named_40 : decode cX12_named 40 = .ok (.getfield 343, 3) := by decide +kernel
theorem dX12_named_43 : decode cX12_named 43 = .ok (.lload_n 1, 1) := by decide +kernel
theorem dX12_named_44 : decode cX12_named 44 = .ok (.invokevirtual 359, 3) := by decide +kernel
theorem dX12_named_47 : decode cX12_named 47 = .ok (.istore 4, 2) := by decide +kernel
theorem dX12_named_49 : decode cX12_named 49 = .ok (.aload_n 0, 1) := by decide +kernel
theorem dX12_named_50 : decode cX12_named 50 = .ok (.iload_n 3, 1) := by decide +kernel
theorem dX12_named_51 : decode cX12_named 51 = .ok (.ifCond .lt 8, 3) := by decide +kernel
theorem dX12_named_54 : decode cX12_named 54 = .ok (.bipush 48, 2) := by decide +kernel
theorem dX12_named_56 : decode cX12_named 56 = .ok (.goto 15, 3) := by decide +kernel
theorem dX12_named_59 : decode cX12_named 59 = .ok (.iload 4, 2) := by decide +kernel
theorem dX12_named_61 : decode cX12_named 61 = .ok (.ifCond .lt 8, 3) := by decide +kernel
theorem dX12_named_64 : decode cX12_named 64 = .ok (.bipush 49, 2) := by decide +kernel
theorem dX12_named_66 : decode cX12_named 66 = .ok (.goto 5, 3) := by decide +kernel
theorem dX12_named_69 : decode cX12_named 69 = .ok (.bipush 50, 2) := by decide +kernel
theorem dX12_named_71 : decode cX12_named 71 = .ok (.invokevirtual 382, 3) := by decide +kernel
theorem dX12_named_74 : decode cX12_named 74 = .ok (.istore 5, 2) := by decide +kernel
theorem dX12_named_76 : decode cX12_named 76 = .ok (.aload_n 0, 1) := by decide +kernel
theorem dX12_named_77 : decode cX12_named 77 = .ok (.getfield 42, 3) := by decide +kernel
theorem dX12_named_80 : decode cX12_named 80 = .ok (.iload 5, 2) := by decide +kernel
theorem dX12_named_82 : decode cX12_named 82 = .ok (.iload_n 3, 1) := by decide +kernel
theorem dX12_named_83 : decode cX12_named 83 = .ok (.ifCond .lt 12, 3) := by decide +kernel
theorem dX12_named_86 : decode cX12_named 86 = .ok (.aload_n 0, 1) := by decide +kernel
theorem dX12_named_87 : decode cX12_named 87 = .ok (.getfield 72, 3) := by decide +kernel
theorem dX12_named_90 : decode cX12_named 90 = .ok (.iload_n 3, 1) := by decide +kernel
theorem dX12_named_91 : decode cX12_named 91 = .ok (.iaload, 1) := by decide +kernel
theorem dX12_named_92 : decode cX12_named 92 = .ok (.goto 5, 3) := by decide +kernel
theorem dX12_named_95 : decode cX12_named 95 = .ok (.iload 4, 2) := by decide +kernel
theorem dX12_named_97 : decode cX12_named 97 = .ok (.iastore, 1) := by decide +kernel
theorem dX12_named_98 : decode cX12_named 98 = .ok (.aload_n 0, 1) := by decide +kernel
theorem dX12_named_99 : decode cX12_named 99 = .ok (.getfield 51, 3) := by decide +kernel
theorem dX12_named_102 : decode cX12_named 102 = .ok (.iload 5, 2) := by decide +kernel
theorem dX12_named_104 : decode cX12_named 104 = .ok (.lload_n 1, 1) := by decide +kernel
theorem dX12_named_105 : decode cX12_named 105 = .ok (.lastore, 1) := by decide +kernel
theorem dX12_named_106 : decode cX12_named 106 = .ok (.aload_n 0, 1) := by decide +kernel
theorem dX12_named_107 : decode cX12_named 107 = .ok (.dup, 1) := by decide +kernel
theorem dX12_named_108 : decode cX12_named 108 = .ok (.getfield 296, 3) := by decide +kernel
theorem dX12_named_111 : decode cX12_named 111 = .ok (.iconst 1, 1) := by decide +kernel
theorem dX12_named_112 : decode cX12_named 112 = .ok (.iadd, 1) := by decide +kernel
theorem dX12_named_113 : decode cX12_named 113 = .ok (.putfield 296, 3) := by decide +kernel
theorem dX12_named_116 : decode cX12_named 116 = .ok (.iload 5, 2) := by decide +kernel
theorem dX12_named_118 : decode cX12_named 118 = .ok (.ireturn, 1) := by decide +kernel
theorem dX12_failing_0 : decode cX12_failing 0 = .ok (.aload_n 0, 1) := by decide +kernel
theorem dX12_failing_1 : decode cX12_failing 1 = .ok (.iload_n 1, 1) := by decide +kernel
theorem dX12_failing_2 : decode cX12_failing 2 = .ok (.putfield 409, 3) := by decide +kernel
theorem dX12_failing_5 : decode cX12_failing 5 = .ok (.aload_n 0, 1) := by decide +kernel
theorem dX12_failing_6 : decode cX12_failing 6 = .ok (.aload_n 0, 1) := by decide +kernel
theorem dX12_failing_7 : decode cX12_failing 7 = .ok (.getfield 412, 3) := by decide +kernel
theorem dX12_failing_10 : decode cX12_failing 10 = .ok (.putfield 415, 3) := by decide +kernel
theorem dX12_failing_13 : decode cX12_failing 13 = .ok (.iconst (-1), 1) := by decide +kernel
theorem dX12_failing_14 : decode cX12_failing 14 = .ok (.ireturn, 1) := by decide +kernel
theorem dX12_counted_0 : decode cX12_counted 0 = .ok (.aload_n 0, 1) := by decide +kernel
theorem dX12_counted_1 : decode cX12_counted 1 = .ok (.getfield 418, 3) := by decide +kernel
theorem dX12_counted_4 : decode cX12_counted 4 = .ok (.iload_n 1, 1) := by decide +kernel
theorem dX12_counted_5 : decode cX12_counted 5 = .ok (.iadd, 1) := by decide +kernel
theorem dX12_counted_6 : decode cX12_counted 6 = .ok (.sipush 400, 3) := by decide +kernel
theorem dX12_counted_9 : decode cX12_counted 9 = .ok (.if_icmp .le 12, 3) := by decide +kernel
theorem dX12_counted_12 : decode cX12_counted 12 = .ok (.aload_n 0, 1) := by decide +kernel
theorem dX12_counted_13 : decode cX12_counted 13 = .ok (.bipush 7, 2) := by decide +kernel
theorem dX12_counted_15 : decode cX12_counted 15 = .ok (.invokevirtual 421, 3) := by decide +kernel
theorem dX12_counted_18 : decode cX12_counted 18 = .ok (.pop, 1) := by decide +kernel
theorem dX12_counted_19 : decode cX12_counted 19 = .ok (.iconst 0, 1) := by decide +kernel
theorem dX12_counted_20 : decode cX12_counted 20 = .ok (.ireturn, 1) := by decide +kernel
theorem dX12_counted_21 : decode cX12_counted 21 = .ok (.aload_n 0, 1) := by decide +kernel
theorem dX12_counted_22 : decode cX12_counted 22 = .ok (.dup, 1) := by decide +kernel
theorem dX12_counted_23 : decode cX12_counted 23 = .ok (.getfield 418, 3) := by decide +kernel
theorem dX12_counted_26 : decode cX12_counted 26 = .ok (.iload_n 1, 1) := by decide +kernel
theorem dX12_counted_27 : decode cX12_counted 27 = .ok (.iadd, 1) := by decide +kernel
theorem dX12_counted_28 : decode cX12_counted 28 = .ok (.putfield 418, 3) := by decide +kernel
theorem dX12_counted_31 : decode cX12_counted 31 = .ok (.iconst 1, 1) := by decide +kernel
theorem dX12_counted_32 : decode cX12_counted 32 = .ok (.ireturn, 1) := by decide +kernel
theorem dX12_workRule_0 : decode cX12_workRule 0 = .ok (.aload_n 0, 1) := by decide +kernel
theorem dX12_workRule_1 : decode cX12_workRule 1 = .ok (.getfield 75, 3) := by decide +kernel
theorem dX12_workRule_4 : decode cX12_workRule 4 = .ok (.iload_n 1, 1) := by decide +kernel
theorem dX12_workRule_5 : decode cX12_workRule 5 = .ok (.iaload, 1) := by decide +kernel
theorem dX12_workRule_6 : decode cX12_workRule 6 = .ok (.iconst 1, 1) := by decide +kernel
theorem dX12_workRule_7 : decode cX12_workRule 7 = .ok (.if_icmp .ne 10, 3) := by decide +kernel
theorem dX12_workRule_10 : decode cX12_workRule 10 = .ok (.aload_n 0, 1) := by decide +kernel
theorem dX12_workRule_11 : decode cX12_workRule 11 = .ok (.getfield 78, 3) := by decide +kernel
theorem dX12_workRule_14 : decode cX12_workRule 14 = .ok (.iload_n 1, 1) := by decide +kernel
theorem dX12_workRule_15 : decode cX12_workRule 15 = .ok (.iaload, 1) := by decide +kernel
theorem dX12_workRule_16 : decode cX12_workRule 16 = .ok (.ireturn, 1) := by decide +kernel
theorem dX12_workRule_17 : decode cX12_workRule 17 = .ok (.aload_n 0, 1) := by decide +kernel
theorem dX12_workRule_18 : decode cX12_workRule 18 = .ok (.getfield 75, 3) := by decide +kernel
theorem dX12_workRule_21 : decode cX12_workRule 21 = .ok (.iload_n 1, 1) := by decide +kernel
theorem dX12_workRule_22 : decode cX12_workRule 22 = .ok (.iaload, 1) := by decide +kernel
theorem dX12_workRule_23 : decode cX12_workRule 23 = .ok (.iconst 2, 1) := by decide +kernel
theorem dX12_workRule_24 : decode cX12_workRule 24 = .ok (.if_icmp .ne 25, 3) := by decide +kernel
theorem dX12_workRule_27 : decode cX12_workRule 27 = .ok (.aload_n 0, 1) := by decide +kernel
theorem dX12_workRule_28 : decode cX12_workRule 28 = .ok (.aload_n 0, 1) := by decide +kernel
theorem dX12_workRule_29 : decode cX12_workRule 29 = .ok (.getfield 81, 3) := by decide +kernel
theorem dX12_workRule_32 : decode cX12_workRule 32 = .ok (.iload_n 1, 1) := by decide +kernel
theorem dX12_workRule_33 : decode cX12_workRule 33 = .ok (.iaload, 1) := by decide +kernel
theorem dX12_workRule_34 : decode cX12_workRule 34 = .ok (.putfield 409, 3) := by decide +kernel
theorem dX12_workRule_37 : decode cX12_workRule 37 = .ok (.aload_n 0, 1) := by decide +kernel
theorem dX12_workRule_38 : decode cX12_workRule 38 = .ok (.aload_n 0, 1) := by decide +kernel
theorem dX12_workRule_39 : decode cX12_workRule 39 = .ok (.getfield 84, 3) := by decide +kernel
theorem dX12_workRule_42 : decode cX12_workRule 42 = .ok (.iload_n 1, 1) := by decide +kernel
theorem dX12_workRule_43 : decode cX12_workRule 43 = .ok (.iaload, 1) := by decide +kernel
theorem dX12_workRule_44 : decode cX12_workRule 44 = .ok (.putfield 415, 3) := by decide +kernel
theorem dX12_workRule_47 : decode cX12_workRule 47 = .ok (.iconst (-1), 1) := by decide +kernel
theorem dX12_workRule_48 : decode cX12_workRule 48 = .ok (.ireturn, 1) := by decide +kernel
theorem dX12_workRule_49 : decode cX12_workRule 49 = .ok (.aload_n 0, 1) := by decide +kernel
theorem dX12_workRule_50 : decode cX12_workRule 50 = .ok (.getfield 412, 3) := by decide +kernel
theorem dX12_workRule_53 : decode cX12_workRule 53 = .ok (.istore_n 2, 1) := by decide +kernel
theorem dX12_workRule_54 : decode cX12_workRule 54 = .ok (.aload_n 0, 1) := by decide +kernel
theorem dX12_workRule_55 : decode cX12_workRule 55 = .ok (.iload_n 1, 1) := by decide +kernel
theorem dX12_workRule_56 : decode cX12_workRule 56 = .ok (.putfield 412, 3) := by decide +kernel
theorem dX12_workRule_59 : decode cX12_workRule 59 = .ok (.aload_n 0, 1) := by decide +kernel
theorem dX12_workRule_60 : decode cX12_workRule 60 = .ok (.aload_n 0, 1) := by decide +kernel
theorem dX12_workRule_61 : decode cX12_workRule 61 = .ok (.getfield 66, 3) := by decide +kernel
theorem dX12_workRule_64 : decode cX12_workRule 64 = .ok (.bipush 24, 2) := by decide +kernel
theorem dX12_workRule_66 : decode cX12_workRule 66 = .ok (.aload_n 0, 1) := by decide +kernel
theorem dX12_workRule_67 : decode cX12_workRule 67 = .ok (.getfield 424, 3) := by decide +kernel
theorem dX12_workRule_70 : decode cX12_workRule 70 = .ok (.imul, 1) := by decide +kernel
theorem dX12_workRule_71 : decode cX12_workRule 71 = .ok (.iload_n 1, 1) := by decide +kernel
theorem dX12_workRule_72 : decode cX12_workRule 72 = .ok (.iadd, 1) := by decide +kernel
theorem dX12_workRule_73 : decode cX12_workRule 73 = .ok (.iaload, 1) := by decide +kernel
theorem dX12_workRule_74 : decode cX12_workRule 74 = .ok (.invokevirtual 427, 3) := by decide +kernel
theorem dX12_workRule_77 : decode cX12_workRule 77 = .ok (.istore_n 3, 1) := by decide +kernel
theorem dX12_workRule_78 : decode cX12_workRule 78 = .ok (.aload_n 0, 1) := by decide +kernel
theorem dX12_workRule_79 : decode cX12_workRule 79 = .ok (.getfield 75, 3) := by decide +kernel
theorem dX12_workRule_82 : decode cX12_workRule 82 = .ok (.iload_n 1, 1) := by decide +kernel
theorem dX12_workRule_83 : decode cX12_workRule 83 = .ok (.iload_n 3, 1) := by decide +kernel
theorem dX12_workRule_84 : decode cX12_workRule 84 = .ok (.ifCond .ge 7, 3) := by decide +kernel
theorem dX12_workRule_87 : decode cX12_workRule 87 = .ok (.iconst 2, 1) := by decide +kernel
theorem dX12_workRule_88 : decode cX12_workRule 88 = .ok (.goto 4, 3) := by decide +kernel
theorem dX12_workRule_91 : decode cX12_workRule 91 = .ok (.iconst 1, 1) := by decide +kernel
theorem dX12_workRule_92 : decode cX12_workRule 92 = .ok (.iastore, 1) := by decide +kernel
theorem dX12_workRule_93 : decode cX12_workRule 93 = .ok (.aload_n 0, 1) := by decide +kernel
theorem dX12_workRule_94 : decode cX12_workRule 94 = .ok (.getfield 78, 3) := by decide +kernel
theorem dX12_workRule_97 : decode cX12_workRule 97 = .ok (.iload_n 1, 1) := by decide +kernel
theorem dX12_workRule_98 : decode cX12_workRule 98 = .ok (.iload_n 3, 1) := by decide +kernel
theorem dX12_workRule_99 : decode cX12_workRule 99 = .ok (.iastore, 1) := by decide +kernel
theorem dX12_workRule_100 : decode cX12_workRule 100 = .ok (.aload_n 0, 1) := by decide +kernel
theorem dX12_workRule_101 : decode cX12_workRule 101 = .ok (.getfield 81, 3) := by decide +kernel
theorem dX12_workRule_104 : decode cX12_workRule 104 = .ok (.iload_n 1, 1) := by decide +kernel
theorem dX12_workRule_105 : decode cX12_workRule 105 = .ok (.iload_n 3, 1) := by decide +kernel
theorem dX12_workRule_106 : decode cX12_workRule 106 = .ok (.ifCond .ge 10, 3) := by decide +kernel
theorem dX12_workRule_109 : decode cX12_workRule 109 = .ok (.aload_n 0, 1) := by decide +kernel
theorem dX12_workRule_110 : decode cX12_workRule 110 = .ok (.getfield 409, 3) := by decide +kernel
theorem dX12_workRule_113 : decode cX12_workRule 113 = .ok (.goto 4, 3) := by decide +kernel
theorem dX12_workRule_116 : decode cX12_workRule 116 = .ok (.iconst 0, 1) := by decide +kernel
theorem dX12_workRule_117 : decode cX12_workRule 117 = .ok (.iastore, 1) := by decide +kernel
theorem dX12_workRule_118 : decode cX12_workRule 118 = .ok (.aload_n 0, 1) := by decide +kernel
theorem dX12_workRule_119 : decode cX12_workRule 119 = .ok (.getfield 84, 3) := by decide +kernel
theorem dX12_workRule_122 : decode cX12_workRule 122 = .ok (.iload_n 1, 1) := by decide +kernel
theorem dX12_workRule_123 : decode cX12_workRule 123 = .ok (.aload_n 0, 1) := by decide +kernel
theorem dX12_workRule_124 : decode cX12_workRule 124 = .ok (.getfield 415, 3) := by decide +kernel
theorem dX12_workRule_127 : decode cX12_workRule 127 = .ok (.iastore, 1) := by decide +kernel
theorem dX12_workRule_128 : decode cX12_workRule 128 = .ok (.aload_n 0, 1) := by decide +kernel
theorem dX12_workRule_129 : decode cX12_workRule 129 = .ok (.getfield 87, 3) := by decide +kernel
theorem dX12_workRule_132 : decode cX12_workRule 132 = .ok (.aload_n 0, 1) := by decide +kernel
theorem dX12_workRule_133 : decode cX12_workRule 133 = .ok (.getfield 430, 3) := by decide +kernel
theorem dX12_workRule_136 : decode cX12_workRule 136 = .ok (.bipush 100, 2) := by decide +kernel
theorem dX12_workRule_138 : decode cX12_workRule 138 = .ok (.iload_n 1, 1) := by decide +kernel
theorem dX12_workRule_139 : decode cX12_workRule 139 = .ok (.imul, 1) := by decide +kernel
theorem dX12_workRule_140 : decode cX12_workRule 140 = .ok (.aload_n 0, 1) := by decide +kernel
theorem dX12_workRule_141 : decode cX12_workRule 141 = .ok (.getfield 81, 3) := by decide +kernel
theorem dX12_workRule_144 : decode cX12_workRule 144 = .ok (.iload_n 1, 1) := by decide +kernel
theorem dX12_workRule_145 : decode cX12_workRule 145 = .ok (.iaload, 1) := by decide +kernel
theorem dX12_workRule_146 : decode cX12_workRule 146 = .ok (.iadd, 1) := by decide +kernel
theorem dX12_workRule_147 : decode cX12_workRule 147 = .ok (.iastore, 1) := by decide +kernel
theorem dX12_workRule_148 : decode cX12_workRule 148 = .ok (.aload_n 0, 1) := by decide +kernel
theorem dX12_workRule_149 : decode cX12_workRule 149 = .ok (.dup, 1) := by decide +kernel
theorem dX12_workRule_150 : decode cX12_workRule 150 = .ok (.getfield 430, 3) := by decide +kernel
theorem dX12_workRule_153 : decode cX12_workRule 153 = .ok (.iconst 1, 1) := by decide +kernel
theorem dX12_workRule_154 : decode cX12_workRule 154 = .ok (.iadd, 1) := by decide +kernel
theorem dX12_workRule_155 : decode cX12_workRule 155 = .ok (.putfield 430, 3) := by decide +kernel
theorem dX12_workRule_158 : decode cX12_workRule 158 = .ok (.aload_n 0, 1) := by decide +kernel
theorem dX12_workRule_159 : decode cX12_workRule 159 = .ok (.iload_n 2, 1) := by decide +kernel
theorem dX12_workRule_160 : decode cX12_workRule 160 = .ok (.putfield 412, 3) := by decide +kernel
theorem dX12_workRule_163 : decode cX12_workRule 163 = .ok (.iload_n 3, 1) := by decide +kernel
theorem dX12_workRule_164 : decode cX12_workRule 164 = .ok (.ireturn, 1) := by decide +kernel
theorem dX12_beginCase_0 : decode cX12_beginCase 0 = .ok (.aload_n 0, 1) := by decide +kernel
theorem dX12_beginCase_1 : decode cX12_beginCase 1 = .ok (.iload_n 1, 1) := by decide +kernel
theorem dX12_beginCase_2 : decode cX12_beginCase 2 = .ok (.putfield 424, 3) := by decide +kernel
theorem dX12_beginCase_5 : decode cX12_beginCase 5 = .ok (.aload_n 0, 1) := by decide +kernel
theorem dX12_beginCase_6 : decode cX12_beginCase 6 = .ok (.iload_n 3, 1) := by decide +kernel
theorem dX12_beginCase_7 : decode cX12_beginCase 7 = .ok (.putfield 433, 3) := by decide +kernel
theorem dX12_beginCase_10 : decode cX12_beginCase 10 = .ok (.aload_n 0, 1) := by decide +kernel
theorem dX12_beginCase_11 : decode cX12_beginCase 11 = .ok (.iload 4, 2) := by decide +kernel
theorem dX12_beginCase_13 : decode cX12_beginCase 13 = .ok (.putfield 436, 3) := by decide +kernel
theorem dX12_beginCase_16 : decode cX12_beginCase 16 = .ok (.aload_n 0, 1) := by decide +kernel
theorem dX12_beginCase_17 : decode cX12_beginCase 17 = .ok (.iload 5, 2) := by decide +kernel
theorem dX12_beginCase_19 : decode cX12_beginCase 19 = .ok (.putfield 439, 3) := by decide +kernel
theorem dX12_beginCase_22 : decode cX12_beginCase 22 = .ok (.aload_n 0, 1) := by decide +kernel
theorem dX12_beginCase_23 : decode cX12_beginCase 23 = .ok (.sipush 226, 3) := by decide +kernel
theorem dX12_beginCase_26 : decode cX12_beginCase 26 = .ok (.putfield 179, 3) := by decide +kernel
theorem dX12_beginCase_29 : decode cX12_beginCase 29 = .ok (.aload_n 0, 1) := by decide +kernel
theorem dX12_beginCase_30 : decode cX12_beginCase 30 = .ok (.iconst 0, 1) := by decide +kernel
theorem dX12_beginCase_31 : decode cX12_beginCase 31 = .ok (.putfield 418, 3) := by decide +kernel
theorem dX12_beginCase_34 : decode cX12_beginCase 34 = .ok (.aload_n 0, 1) := by decide +kernel
theorem dX12_beginCase_35 : decode cX12_beginCase 35 = .ok (.iconst 0, 1) := by decide +kernel
theorem dX12_beginCase_36 : decode cX12_beginCase 36 = .ok (.putfield 442, 3) := by decide +kernel
theorem dX12_beginCase_39 : decode cX12_beginCase 39 = .ok (.aload_n 0, 1) := by decide +kernel
theorem dX12_beginCase_40 : decode cX12_beginCase 40 = .ok (.iconst 0, 1) := by decide +kernel
theorem dX12_beginCase_41 : decode cX12_beginCase 41 = .ok (.putfield 445, 3) := by decide +kernel
theorem dX12_beginCase_44 : decode cX12_beginCase 44 = .ok (.aload_n 0, 1) := by decide +kernel
theorem dX12_beginCase_45 : decode cX12_beginCase 45 = .ok (.iconst 0, 1) := by decide +kernel
theorem dX12_beginCase_46 : decode cX12_beginCase 46 = .ok (.putfield 409, 3) := by decide +kernel
theorem dX12_beginCase_49 : decode cX12_beginCase 49 = .ok (.aload_n 0, 1) := by decide +kernel
theorem dX12_beginCase_50 : decode cX12_beginCase 50 = .ok (.iconst (-1), 1) := by decide +kernel
theorem dX12_beginCase_51 : decode cX12_beginCase 51 = .ok (.putfield 415, 3) := by decide +kernel
theorem dX12_beginCase_54 : decode cX12_beginCase 54 = .ok (.aload_n 0, 1) := by decide +kernel
theorem dX12_beginCase_55 : decode cX12_beginCase 55 = .ok (.iconst 0, 1) := by decide +kernel
theorem dX12_beginCase_56 : decode cX12_beginCase 56 = .ok (.putfield 430, 3) := by decide +kernel
theorem dX12_beginCase_59 : decode cX12_beginCase 59 = .ok (.iconst 0, 1) := by decide +kernel
theorem dX12_beginCase_60 : decode cX12_beginCase 60 = .ok (.istore 6, 2) := by decide +kernel
theorem dX12_beginCase_62 : decode cX12_beginCase 62 = .ok (.iload 6, 2) := by decide +kernel
theorem dX12_beginCase_64 : decode cX12_beginCase 64 = .ok (.bipush 24, 2) := by decide +kernel
theorem dX12_beginCase_66 : decode cX12_beginCase 66 = .ok (.if_icmp .ge 17, 3) := by decide +kernel
theorem dX12_beginCase_69 : decode cX12_beginCase 69 = .ok (.aload_n 0, 1) := by decide +kernel
theorem dX12_beginCase_70 : decode cX12_beginCase 70 = .ok (.getfield 75, 3) := by decide +kernel
theorem dX12_beginCase_73 : decode cX12_beginCase 73 = .ok (.iload 6, 2) := by decide +kernel
theorem dX12_beginCase_75 : decode cX12_beginCase 75 = .ok (.iconst 0, 1) := by decide +kernel
theorem dX12_beginCase_76 : decode cX12_beginCase 76 = .ok (.iastore, 1) := by decide +kernel
theorem dX12_beginCase_77 : decode cX12_beginCase 77 = .ok (.iinc 6 1, 3) := by decide +kernel
theorem dX12_beginCase_80 : decode cX12_beginCase 80 = .ok (.goto (-18), 3) := by decide +kernel
theorem dX12_beginCase_83 : decode cX12_beginCase 83 = .ok (.aload_n 0, 1) := by decide +kernel
theorem dX12_beginCase_84 : decode cX12_beginCase 84 = .ok (.iload_n 2, 1) := by decide +kernel
theorem dX12_beginCase_85 : decode cX12_beginCase 85 = .ok (.putfield 412, 3) := by decide +kernel
theorem dX12_beginCase_88 : decode cX12_beginCase 88 = .ok (.aload_n 0, 1) := by decide +kernel
theorem dX12_beginCase_89 : decode cX12_beginCase 89 = .ok (.iload_n 2, 1) := by decide +kernel
theorem dX12_beginCase_90 : decode cX12_beginCase 90 = .ok (.invokevirtual 448, 3) := by decide +kernel
theorem dX12_beginCase_93 : decode cX12_beginCase 93 = .ok (.ireturn, 1) := by decide +kernel
theorem dX12_workNode_0 : decode cX12_workNode 0 = .ok (.aload_n 0, 1) := by decide +kernel
theorem dX12_workNode_1 : decode cX12_workNode 1 = .ok (.getfield 39, 3) := by decide +kernel
theorem dX12_workNode_4 : decode cX12_workNode 4 = .ok (.iload_n 1, 1) := by decide +kernel
theorem dX12_workNode_5 : decode cX12_workNode 5 = .ok (.iaload, 1) := by decide +kernel
theorem dX12_workNode_6 : decode cX12_workNode 6 = .ok (.istore_n 2, 1) := by decide +kernel
theorem dX12_workNode_7 : decode cX12_workNode 7 = .ok (.iload_n 2, 1) := by decide +kernel
theorem dX12_workNode_8 : decode cX12_workNode 8 = .ok (.bipush 22, 2) := by decide +kernel
theorem dX12_workNode_10 : decode cX12_workNode 10 = .ok (.if_icmp .ne 9, 3) := by decide +kernel
theorem dX12_workNode_13 : decode cX12_workNode 13 = .ok (.sipush 150, 3) := by decide +kernel
theorem dX12_workNode_16 : decode cX12_workNode 16 = .ok (.goto 33, 3) := by decide +kernel
theorem dX12_workNode_19 : decode cX12_workNode 19 = .ok (.iload_n 2, 1) := by decide +kernel
theorem dX12_workNode_20 : decode cX12_workNode 20 = .ok (.bipush 25, 2) := by decide +kernel
theorem dX12_workNode_22 : decode cX12_workNode 22 = .ok (.if_icmp .eq 21, 3) := by decide +kernel
theorem dX12_workNode_25 : decode cX12_workNode 25 = .ok (.iload_n 2, 1) := by decide +kernel
theorem dX12_workNode_26 : decode cX12_workNode 26 = .ok (.bipush 10, 2) := by decide +kernel
theorem dX12_workNode_28 : decode cX12_workNode 28 = .ok (.if_icmp .eq 15, 3) := by decide +kernel
theorem dX12_workNode_31 : decode cX12_workNode 31 = .ok (.iload_n 2, 1) := by decide +kernel
theorem dX12_workNode_32 : decode cX12_workNode 32 = .ok (.bipush 9, 2) := by decide +kernel
theorem dX12_workNode_34 : decode cX12_workNode 34 = .ok (.if_icmp .eq 9, 3) := by decide +kernel
theorem dX12_workNode_37 : decode cX12_workNode 37 = .ok (.iload_n 2, 1) := by decide +kernel
theorem dX12_workNode_38 : decode cX12_workNode 38 = .ok (.bipush 24, 2) := by decide +kernel
theorem dX12_workNode_40 : decode cX12_workNode 40 = .ok (.if_icmp .ne 8, 3) := by decide +kernel
theorem dX12_workNode_43 : decode cX12_workNode 43 = .ok (.bipush 25, 2) := by decide +kernel
theorem dX12_workNode_45 : decode cX12_workNode 45 = .ok (.goto 4, 3) := by decide +kernel
theorem dX12_workNode_48 : decode cX12_workNode 48 = .ok (.iconst 1, 1) := by decide +kernel
theorem dX12_workNode_49 : decode cX12_workNode 49 = .ok (.istore_n 3, 1) := by decide +kernel
theorem dX12_workNode_50 : decode cX12_workNode 50 = .ok (.aload_n 0, 1) := by decide +kernel
theorem dX12_workNode_51 : decode cX12_workNode 51 = .ok (.iload_n 3, 1) := by decide +kernel
theorem dX12_workNode_52 : decode cX12_workNode 52 = .ok (.invokevirtual 451, 3) := by decide +kernel
theorem dX12_workNode_55 : decode cX12_workNode 55 = .ok (.ifCond .ne 5, 3) := by decide +kernel
theorem dX12_workNode_58 : decode cX12_workNode 58 = .ok (.iconst (-1), 1) := by decide +kernel
theorem dX12_workNode_59 : decode cX12_workNode 59 = .ok (.ireturn, 1) := by decide +kernel
theorem dX12_workNode_60 : decode cX12_workNode 60 = .ok (.iload_n 2, 1) := by decide +kernel
theorem dX12_workNode_61 : decode cX12_workNode 61 = .ok (.lookupswitch 203 #[(4, 122), (8, 185), (19, 197), (22, 191), (41, 91), (42, 102), (47, 170), (48, 132), (49, 148), (50, 159)], 91) := by decide +kernel
theorem dX12_workNode_152 : decode cX12_workNode 152 = .ok (.aload_n 0, 1) := by decide +kernel
theorem dX12_workNode_153 : decode cX12_workNode 153 = .ok (.aload_n 0, 1) := by decide +kernel
theorem dX12_workNode_154 : decode cX12_workNode 154 = .ok (.getfield 51, 3) := by decide +kernel
theorem dX12_workNode_157 : decode cX12_workNode 157 = .ok (.iload_n 1, 1) := by decide +kernel
theorem dX12_workNode_158 : decode cX12_workNode 158 = .ok (.laload, 1) := by decide +kernel
theorem dX12_workNode_159 : decode cX12_workNode 159 = .ok (.invokevirtual 454, 3) := by decide +kernel
theorem dX12_workNode_162 : decode cX12_workNode 162 = .ok (.ireturn, 1) := by decide +kernel
theorem dX12_workNode_163 : decode cX12_workNode 163 = .ok (.aload_n 0, 1) := by decide +kernel
theorem dX12_workNode_164 : decode cX12_workNode 164 = .ok (.aload_n 0, 1) := by decide +kernel
theorem dX12_workNode_165 : decode cX12_workNode 165 = .ok (.getfield 51, 3) := by decide +kernel
theorem dX12_workNode_168 : decode cX12_workNode 168 = .ok (.iload_n 1, 1) := by decide +kernel
theorem dX12_workNode_169 : decode cX12_workNode 169 = .ok (.laload, 1) := by decide +kernel
theorem dX12_workNode_170 : decode cX12_workNode 170 = .ok (.aload_n 0, 1) := by decide +kernel
theorem dX12_workNode_171 : decode cX12_workNode 171 = .ok (.getfield 54, 3) := by decide +kernel
theorem dX12_workNode_174 : decode cX12_workNode 174 = .ok (.iload_n 1, 1) := by decide +kernel
theorem dX12_workNode_175 : decode cX12_workNode 175 = .ok (.iaload, 1) := by decide +kernel
theorem dX12_workNode_176 : decode cX12_workNode 176 = .ok (.invokestatic 457, 3) := by decide +kernel
theorem dX12_workNode_179 : decode cX12_workNode 179 = .ok (.invokevirtual 461, 3) := by decide +kernel
theorem dX12_workNode_182 : decode cX12_workNode 182 = .ok (.ireturn, 1) := by decide +kernel
theorem dX12_workNode_183 : decode cX12_workNode 183 = .ok (.aload_n 0, 1) := by decide +kernel
theorem dX12_workNode_184 : decode cX12_workNode 184 = .ok (.aload_n 0, 1) := by decide +kernel
theorem dX12_workNode_185 : decode cX12_workNode 185 = .ok (.getfield 436, 3) := by decide +kernel
theorem dX12_workNode_188 : decode cX12_workNode 188 = .ok (.i2l, 1) := by decide +kernel
theorem dX12_workNode_189 : decode cX12_workNode 189 = .ok (.invokevirtual 454, 3) := by decide +kernel
theorem dX12_workNode_192 : decode cX12_workNode 192 = .ok (.ireturn, 1) := by decide +kernel
theorem dX12_workNode_193 : decode cX12_workNode 193 = .ok (.aload_n 0, 1) := by decide +kernel
theorem dX12_workNode_194 : decode cX12_workNode 194 = .ok (.aload_n 0, 1) := by decide +kernel
theorem dX12_workNode_195 : decode cX12_workNode 195 = .ok (.getfield 90, 3) := by decide +kernel
theorem dX12_workNode_198 : decode cX12_workNode 198 = .ok (.aload_n 0, 1) := by decide +kernel
theorem dX12_workNode_199 : decode cX12_workNode 199 = .ok (.getfield 42, 3) := by decide +kernel
theorem dX12_workNode_202 : decode cX12_workNode 202 = .ok (.iload_n 1, 1) := by decide +kernel
theorem dX12_workNode_203 : decode cX12_workNode 203 = .ok (.iaload, 1) := by decide +kernel
theorem dX12_workNode_204 : decode cX12_workNode 204 = .ok (.laload, 1) := by decide +kernel
theorem dX12_workNode_205 : decode cX12_workNode 205 = .ok (.invokevirtual 454, 3) := by decide +kernel
theorem dX12_workNode_208 : decode cX12_workNode 208 = .ok (.ireturn, 1) := by decide +kernel
theorem dX12_workNode_209 : decode cX12_workNode 209 = .ok (.aload_n 0, 1) := by decide +kernel
theorem dX12_workNode_210 : decode cX12_workNode 210 = .ok (.aload_n 0, 1) := by decide +kernel
theorem dX12_workNode_211 : decode cX12_workNode 211 = .ok (.getfield 42, 3) := by decide +kernel
theorem dX12_workNode_214 : decode cX12_workNode 214 = .ok (.iload_n 1, 1) := by decide +kernel
theorem dX12_workNode_215 : decode cX12_workNode 215 = .ok (.iaload, 1) := by decide +kernel
theorem dX12_workNode_216 : decode cX12_workNode 216 = .ok (.invokevirtual 448, 3) := by decide +kernel
theorem dX12_workNode_219 : decode cX12_workNode 219 = .ok (.ireturn, 1) := by decide +kernel
theorem dX12_workNode_220 : decode cX12_workNode 220 = .ok (.aload_n 0, 1) := by decide +kernel
theorem dX12_workNode_221 : decode cX12_workNode 221 = .ok (.aload_n 0, 1) := by decide +kernel
theorem dX12_workNode_222 : decode cX12_workNode 222 = .ok (.getfield 51, 3) := by decide +kernel
theorem dX12_workNode_225 : decode cX12_workNode 225 = .ok (.iload_n 1, 1) := by decide +kernel
theorem dX12_workNode_226 : decode cX12_workNode 226 = .ok (.laload, 1) := by decide +kernel
theorem dX12_workNode_227 : decode cX12_workNode 227 = .ok (.invokevirtual 465, 3) := by decide +kernel
theorem dX12_workNode_230 : decode cX12_workNode 230 = .ok (.ireturn, 1) := by decide +kernel
theorem dX12_workNode_231 : decode cX12_workNode 231 = .ok (.aload_n 0, 1) := by decide +kernel
theorem dX12_workNode_232 : decode cX12_workNode 232 = .ok (.aload_n 0, 1) := by decide +kernel
theorem dX12_workNode_233 : decode cX12_workNode 233 = .ok (.aload_n 0, 1) := by decide +kernel
theorem dX12_workNode_234 : decode cX12_workNode 234 = .ok (.getfield 42, 3) := by decide +kernel
theorem dX12_workNode_237 : decode cX12_workNode 237 = .ok (.iload_n 1, 1) := by decide +kernel
theorem dX12_workNode_238 : decode cX12_workNode 238 = .ok (.iaload, 1) := by decide +kernel
theorem dX12_workNode_239 : decode cX12_workNode 239 = .ok (.invokevirtual 427, 3) := by decide +kernel
theorem dX12_workNode_242 : decode cX12_workNode 242 = .ok (.invokevirtual 468, 3) := by decide +kernel
theorem dX12_workNode_245 : decode cX12_workNode 245 = .ok (.ireturn, 1) := by decide +kernel
theorem dX12_workNode_246 : decode cX12_workNode 246 = .ok (.aload_n 0, 1) := by decide +kernel
theorem dX12_workNode_247 : decode cX12_workNode 247 = .ok (.iload_n 1, 1) := by decide +kernel
theorem dX12_workNode_248 : decode cX12_workNode 248 = .ok (.invokevirtual 471, 3) := by decide +kernel
theorem dX12_workNode_251 : decode cX12_workNode 251 = .ok (.ireturn, 1) := by decide +kernel
theorem dX12_workNode_252 : decode cX12_workNode 252 = .ok (.aload_n 0, 1) := by decide +kernel
theorem dX12_workNode_253 : decode cX12_workNode 253 = .ok (.iload_n 1, 1) := by decide +kernel
theorem dX12_workNode_254 : decode cX12_workNode 254 = .ok (.invokevirtual 474, 3) := by decide +kernel
theorem dX12_workNode_257 : decode cX12_workNode 257 = .ok (.ireturn, 1) := by decide +kernel
theorem dX12_workNode_258 : decode cX12_workNode 258 = .ok (.aload_n 0, 1) := by decide +kernel
theorem dX12_workNode_259 : decode cX12_workNode 259 = .ok (.iload_n 1, 1) := by decide +kernel
theorem dX12_workNode_260 : decode cX12_workNode 260 = .ok (.invokevirtual 477, 3) := by decide +kernel
theorem dX12_workNode_263 : decode cX12_workNode 263 = .ok (.ireturn, 1) := by decide +kernel
theorem dX12_workNode_264 : decode cX12_workNode 264 = .ok (.aload_n 0, 1) := by decide +kernel
theorem dX12_workNode_265 : decode cX12_workNode 265 = .ok (.iload_n 1, 1) := by decide +kernel
theorem dX12_workNode_266 : decode cX12_workNode 266 = .ok (.iload_n 2, 1) := by decide +kernel
theorem dX12_workNode_267 : decode cX12_workNode 267 = .ok (.invokevirtual 480, 3) := by decide +kernel
theorem dX12_workNode_270 : decode cX12_workNode 270 = .ok (.ireturn, 1) := by decide +kernel
theorem dX12_decimal_0 : decode cX12_decimal 0 = .ok (.dconst 1, 1) := by decide +kernel
theorem dX12_decimal_1 : decode cX12_decimal 1 = .ok (.dstore_n 3, 1) := by decide +kernel
theorem dX12_decimal_2 : decode cX12_decimal 2 = .ok (.iconst 0, 1) := by decide +kernel
theorem dX12_decimal_3 : decode cX12_decimal 3 = .ok (.istore 5, 2) := by decide +kernel
theorem dX12_decimal_5 : decode cX12_decimal 5 = .ok (.iload 5, 2) := by decide +kernel
theorem dX12_decimal_7 : decode cX12_decimal 7 = .ok (.iload_n 2, 1) := by decide +kernel
theorem dX12_decimal_8 : decode cX12_decimal 8 = .ok (.if_icmp .ge 15, 3) := by decide +kernel
theorem dX12_decimal_11 : decode cX12_decimal 11 = .ok (.dload_n 3, 1) := by decide +kernel
theorem dX12_decimal_12 : decode cX12_decimal 12 = .ok (.ldc2_w 483, 3) := by decide +kernel
theorem dX12_decimal_15 : decode cX12_decimal 15 = .ok (.dmul, 1) := by decide +kernel
theorem dX12_decimal_16 : decode cX12_decimal 16 = .ok (.dstore_n 3, 1) := by decide +kernel
theorem dX12_decimal_17 : decode cX12_decimal 17 = .ok (.iinc 5 1, 3) := by decide +kernel
theorem dX12_decimal_20 : decode cX12_decimal 20 = .ok (.goto (-15), 3) := by decide +kernel
theorem dX12_decimal_23 : decode cX12_decimal 23 = .ok (.lload_n 0, 1) := by decide +kernel
theorem dX12_decimal_24 : decode cX12_decimal 24 = .ok (.l2d, 1) := by decide +kernel
theorem dX12_decimal_25 : decode cX12_decimal 25 = .ok (.dload_n 3, 1) := by decide +kernel
theorem dX12_decimal_26 : decode cX12_decimal 26 = .ok (.ddiv, 1) := by decide +kernel
theorem dX12_decimal_27 : decode cX12_decimal 27 = .ok (.dreturn, 1) := by decide +kernel
theorem dX12_workFact_0 : decode cX12_workFact 0 = .ok (.aload_n 0, 1) := by decide +kernel
theorem dX12_workFact_1 : decode cX12_workFact 1 = .ok (.dup, 1) := by decide +kernel
theorem dX12_workFact_2 : decode cX12_workFact 2 = .ok (.getfield 442, 3) := by decide +kernel
theorem dX12_workFact_5 : decode cX12_workFact 5 = .ok (.iconst 1, 1) := by decide +kernel
theorem dX12_workFact_6 : decode cX12_workFact 6 = .ok (.iadd, 1) := by decide +kernel
theorem dX12_workFact_7 : decode cX12_workFact 7 = .ok (.putfield 442, 3) := by decide +kernel
theorem dX12_workFact_10 : decode cX12_workFact 10 = .ok (.aload_n 0, 1) := by decide +kernel
theorem dX12_workFact_11 : decode cX12_workFact 11 = .ok (.aload_n 0, 1) := by decide +kernel
theorem dX12_workFact_12 : decode cX12_workFact 12 = .ok (.getfield 433, 3) := by decide +kernel
theorem dX12_workFact_15 : decode cX12_workFact 15 = .ok (.lload_n 1, 1) := by decide +kernel
theorem dX12_workFact_16 : decode cX12_workFact 16 = .ok (.aload_n 0, 1) := by decide +kernel
theorem dX12_workFact_17 : decode cX12_workFact 17 = .ok (.getfield 436, 3) := by decide +kernel
theorem dX12_workFact_20 : decode cX12_workFact 20 = .ok (.aload_n 0, 1) := by decide +kernel
theorem dX12_workFact_21 : decode cX12_workFact 21 = .ok (.getfield 439, 3) := by decide +kernel
theorem dX12_workFact_24 : decode cX12_workFact 24 = .ok (.invokevirtual 485, 3) := by decide +kernel
theorem dX12_workFact_27 : decode cX12_workFact 27 = .ok (.istore_n 3, 1) := by decide +kernel
theorem dX12_workFact_28 : decode cX12_workFact 28 = .ok (.iload_n 3, 1) := by decide +kernel
theorem dX12_workFact_29 : decode cX12_workFact 29 = .ok (.ifCond .ge 11, 3) := by decide +kernel
theorem dX12_workFact_32 : decode cX12_workFact 32 = .ok (.aload_n 0, 1) := by decide +kernel
theorem dX12_workFact_33 : decode cX12_workFact 33 = .ok (.iconst 1, 1) := by decide +kernel
theorem dX12_workFact_34 : decode cX12_workFact 34 = .ok (.invokevirtual 421, 3) := by decide +kernel
theorem dX12_workFact_37 : decode cX12_workFact 37 = .ok (.goto 6, 3) := by decide +kernel
theorem dX12_workFact_40 : decode cX12_workFact 40 = .ok (.iconst 1, 1) := by decide +kernel
theorem dX12_workFact_41 : decode cX12_workFact 41 = .ok (.iload_n 3, 1) := by decide +kernel
theorem dX12_workFact_42 : decode cX12_workFact 42 = .ok (.iadd, 1) := by decide +kernel
theorem dX12_workFact_43 : decode cX12_workFact 43 = .ok (.ireturn, 1) := by decide +kernel
theorem dX12_negative_0 : decode cX12_negative 0 = .ok (.iload_n 1, 1) := by decide +kernel
theorem dX12_negative_1 : decode cX12_negative 1 = .ok (.ifCond .ge 5, 3) := by decide +kernel
theorem dX12_negative_4 : decode cX12_negative 4 = .ok (.iload_n 1, 1) := by decide +kernel
theorem dX12_negative_5 : decode cX12_negative 5 = .ok (.ireturn, 1) := by decide +kernel
theorem dX12_negative_6 : decode cX12_negative 6 = .ok (.aload_n 0, 1) := by decide +kernel
theorem dX12_negative_7 : decode cX12_negative 7 = .ok (.getfield 7, 3) := by decide +kernel
theorem dX12_negative_10 : decode cX12_negative 10 = .ok (.iload_n 1, 1) := by decide +kernel
theorem dX12_negative_11 : decode cX12_negative 11 = .ok (.iaload, 1) := by decide +kernel
theorem dX12_negative_12 : decode cX12_negative 12 = .ok (.invokestatic 489, 3) := by decide +kernel
theorem dX12_negative_15 : decode cX12_negative 15 = .ok (.ifCond .ne 9, 3) := by decide +kernel
theorem dX12_negative_18 : decode cX12_negative 18 = .ok (.aload_n 0, 1) := by decide +kernel
theorem dX12_negative_19 : decode cX12_negative 19 = .ok (.iconst 2, 1) := by decide +kernel
theorem dX12_negative_20 : decode cX12_negative 20 = .ok (.invokevirtual 421, 3) := by decide +kernel
theorem dX12_negative_23 : decode cX12_negative 23 = .ok (.ireturn, 1) := by decide +kernel
theorem dX12_negative_24 : decode cX12_negative 24 = .ok (.aload_n 0, 1) := by decide +kernel
theorem dX12_negative_25 : decode cX12_negative 25 = .ok (.getfield 7, 3) := by decide +kernel
theorem dX12_negative_28 : decode cX12_negative 28 = .ok (.iload_n 1, 1) := by decide +kernel
theorem dX12_negative_29 : decode cX12_negative 29 = .ok (.iaload, 1) := by decide +kernel
theorem dX12_negative_30 : decode cX12_negative 30 = .ok (.iconst 1, 1) := by decide +kernel
theorem dX12_negative_31 : decode cX12_negative 31 = .ok (.if_icmp .ne 46, 3) := by decide +kernel
theorem dX12_negative_34 : decode cX12_negative 34 = .ok (.aload_n 0, 1) := by decide +kernel
theorem dX12_negative_35 : decode cX12_negative 35 = .ok (.aload_n 0, 1) := by decide +kernel
theorem dX12_negative_36 : decode cX12_negative 36 = .ok (.getfield 20, 3) := by decide +kernel
theorem dX12_negative_39 : decode cX12_negative 39 = .ok (.bipush 12, 2) := by decide +kernel
theorem dX12_negative_41 : decode cX12_negative 41 = .ok (.iload_n 1, 1) := by decide +kernel
theorem dX12_negative_42 : decode cX12_negative 42 = .ok (.imul, 1) := by decide +kernel
theorem dX12_negative_43 : decode cX12_negative 43 = .ok (.daload, 1) := by decide +kernel
theorem dX12_negative_44 : decode cX12_negative 44 = .ok (.aload_n 0, 1) := by decide +kernel
theorem dX12_negative_45 : decode cX12_negative 45 = .ok (.getfield 20, 3) := by decide +kernel
theorem dX12_negative_48 : decode cX12_negative 48 = .ok (.bipush 12, 2) := by decide +kernel
theorem dX12_negative_50 : decode cX12_negative 50 = .ok (.iload_n 1, 1) := by decide +kernel
theorem dX12_negative_51 : decode cX12_negative 51 = .ok (.imul, 1) := by decide +kernel
theorem dX12_negative_52 : decode cX12_negative 52 = .ok (.daload, 1) := by decide +kernel
theorem dX12_negative_53 : decode cX12_negative 53 = .ok (.dcmp .l, 1) := by decide +kernel
theorem dX12_negative_54 : decode cX12_negative 54 = .ok (.ifCond .eq 9, 3) := by decide +kernel
theorem dX12_negative_57 : decode cX12_negative 57 = .ok (.ldc2_w 220, 3) := by decide +kernel
theorem dX12_negative_60 : decode cX12_negative 60 = .ok (.goto 13, 3) := by decide +kernel
theorem dX12_negative_63 : decode cX12_negative 63 = .ok (.aload_n 0, 1) := by decide +kernel
theorem dX12_negative_64 : decode cX12_negative 64 = .ok (.getfield 20, 3) := by decide +kernel
theorem dX12_negative_67 : decode cX12_negative 67 = .ok (.bipush 12, 2) := by decide +kernel
theorem dX12_negative_69 : decode cX12_negative 69 = .ok (.iload_n 1, 1) := by decide +kernel
theorem dX12_negative_70 : decode cX12_negative 70 = .ok (.imul, 1) := by decide +kernel
theorem dX12_negative_71 : decode cX12_negative 71 = .ok (.daload, 1) := by decide +kernel
theorem dX12_negative_72 : decode cX12_negative 72 = .ok (.dneg, 1) := by decide +kernel
theorem dX12_negative_73 : decode cX12_negative 73 = .ok (.invokevirtual 461, 3) := by decide +kernel
theorem dX12_negative_76 : decode cX12_negative 76 = .ok (.ireturn, 1) := by decide +kernel
theorem dX12_negative_77 : decode cX12_negative 77 = .ok (.aload_n 0, 1) := by decide +kernel
theorem dX12_negative_78 : decode cX12_negative 78 = .ok (.getfield 16, 3) := by decide +kernel
theorem dX12_negative_81 : decode cX12_negative 81 = .ok (.bipush 12, 2) := by decide +kernel
theorem dX12_negative_83 : decode cX12_negative 83 = .ok (.iload_n 1, 1) := by decide +kernel
theorem dX12_negative_84 : decode cX12_negative 84 = .ok (.imul, 1) := by decide +kernel
theorem dX12_negative_85 : decode cX12_negative 85 = .ok (.laload, 1) := by decide +kernel
theorem dX12_negative_86 : decode cX12_negative 86 = .ok (.lstore_n 2, 1) := by decide +kernel
theorem dX12_negative_87 : decode cX12_negative 87 = .ok (.lload_n 2, 1) := by decide +kernel
theorem dX12_negative_88 : decode cX12_negative 88 = .ok (.lload_n 2, 1) := by decide +kernel
theorem dX12_negative_89 : decode cX12_negative 89 = .ok (.lneg, 1) := by decide +kernel
theorem dX12_negative_90 : decode cX12_negative 90 = .ok (.lcmp, 1) := by decide +kernel
theorem dX12_negative_91 : decode cX12_negative 91 = .ok (.ifCond .ne 18, 3) := by decide +kernel
theorem dX12_negative_94 : decode cX12_negative 94 = .ok (.lload_n 2, 1) := by decide +kernel
theorem dX12_negative_95 : decode cX12_negative 95 = .ok (.lconst 0, 1) := by decide +kernel
theorem dX12_negative_96 : decode cX12_negative 96 = .ok (.lcmp, 1) := by decide +kernel
theorem dX12_negative_97 : decode cX12_negative 97 = .ok (.ifCond .eq 12, 3) := by decide +kernel
theorem dX12_negative_100 : decode cX12_negative 100 = .ok (.aload_n 0, 1) := by decide +kernel
theorem dX12_negative_101 : decode cX12_negative 101 = .ok (.bipush 6, 2) := by decide +kernel
theorem dX12_negative_103 : decode cX12_negative 103 = .ok (.invokevirtual 421, 3) := by decide +kernel
theorem dX12_negative_106 : decode cX12_negative 106 = .ok (.goto 9, 3) := by decide +kernel
theorem dX12_negative_109 : decode cX12_negative 109 = .ok (.aload_n 0, 1) := by decide +kernel
theorem dX12_negative_110 : decode cX12_negative 110 = .ok (.lload_n 2, 1) := by decide +kernel
theorem dX12_negative_111 : decode cX12_negative 111 = .ok (.lneg, 1) := by decide +kernel
theorem dX12_negative_112 : decode cX12_negative 112 = .ok (.invokevirtual 454, 3) := by decide +kernel
theorem dX12_negative_115 : decode cX12_negative 115 = .ok (.ireturn, 1) := by decide +kernel
theorem dX12_workIf_0 : decode cX12_workIf 0 = .ok (.aload_n 0, 1) := by decide +kernel
theorem dX12_workIf_1 : decode cX12_workIf 1 = .ok (.aload_n 0, 1) := by decide +kernel
theorem dX12_workIf_2 : decode cX12_workIf 2 = .ok (.getfield 42, 3) := by decide +kernel
theorem dX12_workIf_5 : decode cX12_workIf 5 = .ok (.iload_n 1, 1) := by decide +kernel
theorem dX12_workIf_6 : decode cX12_workIf 6 = .ok (.iaload, 1) := by decide +kernel
theorem dX12_workIf_7 : decode cX12_workIf 7 = .ok (.invokevirtual 427, 3) := by decide +kernel
theorem dX12_workIf_10 : decode cX12_workIf 10 = .ok (.istore_n 2, 1) := by decide +kernel
theorem dX12_workIf_11 : decode cX12_workIf 11 = .ok (.iload_n 2, 1) := by decide +kernel
theorem dX12_workIf_12 : decode cX12_workIf 12 = .ok (.ifCond .ge 5, 3) := by decide +kernel
theorem dX12_workIf_15 : decode cX12_workIf 15 = .ok (.iload_n 2, 1) := by decide +kernel
theorem dX12_workIf_16 : decode cX12_workIf 16 = .ok (.ireturn, 1) := by decide +kernel
theorem dX12_workIf_17 : decode cX12_workIf 17 = .ok (.aload_n 0, 1) := by decide +kernel
theorem dX12_workIf_18 : decode cX12_workIf 18 = .ok (.getfield 7, 3) := by decide +kernel
theorem dX12_workIf_21 : decode cX12_workIf 21 = .ok (.iload_n 2, 1) := by decide +kernel
theorem dX12_workIf_22 : decode cX12_workIf 22 = .ok (.iaload, 1) := by decide +kernel
theorem dX12_workIf_23 : decode cX12_workIf 23 = .ok (.ifCond .eq 9, 3) := by decide +kernel
theorem dX12_workIf_26 : decode cX12_workIf 26 = .ok (.aload_n 0, 1) := by decide +kernel
theorem dX12_workIf_27 : decode cX12_workIf 27 = .ok (.iconst 2, 1) := by decide +kernel
theorem dX12_workIf_28 : decode cX12_workIf 28 = .ok (.invokevirtual 421, 3) := by decide +kernel
theorem dX12_workIf_31 : decode cX12_workIf 31 = .ok (.ireturn, 1) := by decide +kernel
theorem dX12_workIf_32 : decode cX12_workIf 32 = .ok (.aload_n 0, 1) := by decide +kernel
theorem dX12_workIf_33 : decode cX12_workIf 33 = .ok (.aload_n 0, 1) := by decide +kernel
theorem dX12_workIf_34 : decode cX12_workIf 34 = .ok (.getfield 16, 3) := by decide +kernel
theorem dX12_workIf_37 : decode cX12_workIf 37 = .ok (.bipush 12, 2) := by decide +kernel
theorem dX12_workIf_39 : decode cX12_workIf 39 = .ok (.iload_n 2, 1) := by decide +kernel
theorem dX12_workIf_40 : decode cX12_workIf 40 = .ok (.imul, 1) := by decide +kernel
theorem dX12_workIf_41 : decode cX12_workIf 41 = .ok (.laload, 1) := by decide +kernel
theorem dX12_workIf_42 : decode cX12_workIf 42 = .ok (.lconst 0, 1) := by decide +kernel
theorem dX12_workIf_43 : decode cX12_workIf 43 = .ok (.lcmp, 1) := by decide +kernel
theorem dX12_workIf_44 : decode cX12_workIf 44 = .ok (.ifCond .eq 12, 3) := by decide +kernel
theorem dX12_workIf_47 : decode cX12_workIf 47 = .ok (.aload_n 0, 1) := by decide +kernel
theorem dX12_workIf_48 : decode cX12_workIf 48 = .ok (.getfield 45, 3) := by decide +kernel
theorem dX12_workIf_51 : decode cX12_workIf 51 = .ok (.iload_n 1, 1) := by decide +kernel
theorem dX12_workIf_52 : decode cX12_workIf 52 = .ok (.iaload, 1) := by decide +kernel
theorem dX12_workIf_53 : decode cX12_workIf 53 = .ok (.goto 9, 3) := by decide +kernel
theorem dX12_workIf_56 : decode cX12_workIf 56 = .ok (.aload_n 0, 1) := by decide +kernel
theorem dX12_workIf_57 : decode cX12_workIf 57 = .ok (.getfield 48, 3) := by decide +kernel
theorem dX12_workIf_60 : decode cX12_workIf 60 = .ok (.iload_n 1, 1) := by decide +kernel
theorem dX12_workIf_61 : decode cX12_workIf 61 = .ok (.iaload, 1) := by decide +kernel
theorem dX12_workIf_62 : decode cX12_workIf 62 = .ok (.invokevirtual 427, 3) := by decide +kernel
theorem dX12_workIf_65 : decode cX12_workIf 65 = .ok (.ireturn, 1) := by decide +kernel
theorem dX12_workTry_0 : decode cX12_workTry 0 = .ok (.aload_n 0, 1) := by decide +kernel
theorem dX12_workTry_1 : decode cX12_workTry 1 = .ok (.aload_n 0, 1) := by decide +kernel
theorem dX12_workTry_2 : decode cX12_workTry 2 = .ok (.getfield 42, 3) := by decide +kernel
theorem dX12_workTry_5 : decode cX12_workTry 5 = .ok (.iload_n 1, 1) := by decide +kernel
theorem dX12_workTry_6 : decode cX12_workTry 6 = .ok (.iaload, 1) := by decide +kernel
theorem dX12_workTry_7 : decode cX12_workTry 7 = .ok (.invokevirtual 427, 3) := by decide +kernel
theorem dX12_workTry_10 : decode cX12_workTry 10 = .ok (.istore_n 2, 1) := by decide +kernel
theorem dX12_workTry_11 : decode cX12_workTry 11 = .ok (.iload_n 2, 1) := by decide +kernel
theorem dX12_workTry_12 : decode cX12_workTry 12 = .ok (.ifCond .ge 12, 3) := by decide +kernel
theorem dX12_workTry_15 : decode cX12_workTry 15 = .ok (.aload_n 0, 1) := by decide +kernel
theorem dX12_workTry_16 : decode cX12_workTry 16 = .ok (.getfield 409, 3) := by decide +kernel
theorem dX12_workTry_19 : decode cX12_workTry 19 = .ok (.bipush 7, 2) := by decide +kernel
theorem dX12_workTry_21 : decode cX12_workTry 21 = .ok (.if_icmp .ne 5, 3) := by decide +kernel
theorem dX12_workTry_24 : decode cX12_workTry 24 = .ok (.iload_n 2, 1) := by decide +kernel
theorem dX12_workTry_25 : decode cX12_workTry 25 = .ok (.ireturn, 1) := by decide +kernel
theorem dX12_workTry_26 : decode cX12_workTry 26 = .ok (.aload_n 0, 1) := by decide +kernel
theorem dX12_workTry_27 : decode cX12_workTry 27 = .ok (.iconst 0, 1) := by decide +kernel
theorem dX12_workTry_28 : decode cX12_workTry 28 = .ok (.putfield 409, 3) := by decide +kernel
theorem dX12_workTry_31 : decode cX12_workTry 31 = .ok (.aload_n 0, 1) := by decide +kernel
theorem dX12_workTry_32 : decode cX12_workTry 32 = .ok (.iconst (-1), 1) := by decide +kernel
theorem dX12_workTry_33 : decode cX12_workTry 33 = .ok (.putfield 415, 3) := by decide +kernel
theorem dX12_workTry_36 : decode cX12_workTry 36 = .ok (.aload_n 0, 1) := by decide +kernel
theorem dX12_workTry_37 : decode cX12_workTry 37 = .ok (.dup, 1) := by decide +kernel
theorem dX12_workTry_38 : decode cX12_workTry 38 = .ok (.getfield 445, 3) := by decide +kernel
theorem dX12_workTry_41 : decode cX12_workTry 41 = .ok (.iconst 1, 1) := by decide +kernel
theorem dX12_workTry_42 : decode cX12_workTry 42 = .ok (.iadd, 1) := by decide +kernel
theorem dX12_workTry_43 : decode cX12_workTry 43 = .ok (.putfield 445, 3) := by decide +kernel
theorem dX12_workTry_46 : decode cX12_workTry 46 = .ok (.aload_n 0, 1) := by decide +kernel
theorem dX12_workTry_47 : decode cX12_workTry 47 = .ok (.aload_n 0, 1) := by decide +kernel
theorem dX12_workTry_48 : decode cX12_workTry 48 = .ok (.getfield 45, 3) := by decide +kernel
theorem dX12_workTry_51 : decode cX12_workTry 51 = .ok (.iload_n 1, 1) := by decide +kernel
theorem dX12_workTry_52 : decode cX12_workTry 52 = .ok (.iaload, 1) := by decide +kernel
theorem dX12_workTry_53 : decode cX12_workTry 53 = .ok (.invokevirtual 427, 3) := by decide +kernel
theorem dX12_workTry_56 : decode cX12_workTry 56 = .ok (.ireturn, 1) := by decide +kernel
theorem dX12_workSum_0 : decode cX12_workSum 0 = .ok (.aload_n 0, 1) := by decide +kernel
theorem dX12_workSum_1 : decode cX12_workSum 1 = .ok (.aload_n 0, 1) := by decide +kernel
theorem dX12_workSum_2 : decode cX12_workSum 2 = .ok (.getfield 42, 3) := by decide +kernel
theorem dX12_workSum_5 : decode cX12_workSum 5 = .ok (.iload_n 1, 1) := by decide +kernel
theorem dX12_workSum_6 : decode cX12_workSum 6 = .ok (.iaload, 1) := by decide +kernel
theorem dX12_workSum_7 : decode cX12_workSum 7 = .ok (.invokevirtual 427, 3) := by decide +kernel
theorem dX12_workSum_10 : decode cX12_workSum 10 = .ok (.istore_n 2, 1) := by decide +kernel
theorem dX12_workSum_11 : decode cX12_workSum 11 = .ok (.iload_n 2, 1) := by decide +kernel
theorem dX12_workSum_12 : decode cX12_workSum 12 = .ok (.ifCond .ge 7, 3) := by decide +kernel
theorem dX12_workSum_15 : decode cX12_workSum 15 = .ok (.iconst (-1), 1) := by decide +kernel
theorem dX12_workSum_16 : decode cX12_workSum 16 = .ok (.goto 13, 3) := by decide +kernel
theorem dX12_workSum_19 : decode cX12_workSum 19 = .ok (.aload_n 0, 1) := by decide +kernel
theorem dX12_workSum_20 : decode cX12_workSum 20 = .ok (.aload_n 0, 1) := by decide +kernel
theorem dX12_workSum_21 : decode cX12_workSum 21 = .ok (.getfield 45, 3) := by decide +kernel
theorem dX12_workSum_24 : decode cX12_workSum 24 = .ok (.iload_n 1, 1) := by decide +kernel
theorem dX12_workSum_25 : decode cX12_workSum 25 = .ok (.iaload, 1) := by decide +kernel
theorem dX12_workSum_26 : decode cX12_workSum 26 = .ok (.invokevirtual 427, 3) := by decide +kernel
theorem dX12_workSum_29 : decode cX12_workSum 29 = .ok (.istore_n 3, 1) := by decide +kernel
theorem dX12_workSum_30 : decode cX12_workSum 30 = .ok (.iload_n 3, 1) := by decide +kernel
theorem dX12_workSum_31 : decode cX12_workSum 31 = .ok (.ifCond .ge 5, 3) := by decide +kernel
theorem dX12_workSum_34 : decode cX12_workSum 34 = .ok (.iconst (-1), 1) := by decide +kernel
theorem dX12_workSum_35 : decode cX12_workSum 35 = .ok (.ireturn, 1) := by decide +kernel
theorem dX12_workSum_36 : decode cX12_workSum 36 = .ok (.aload_n 0, 1) := by decide +kernel
theorem dX12_workSum_37 : decode cX12_workSum 37 = .ok (.getfield 7, 3) := by decide +kernel
theorem dX12_workSum_40 : decode cX12_workSum 40 = .ok (.iload_n 2, 1) := by decide +kernel
theorem dX12_workSum_41 : decode cX12_workSum 41 = .ok (.iaload, 1) := by decide +kernel
theorem dX12_workSum_42 : decode cX12_workSum 42 = .ok (.ifCond .ne 12, 3) := by decide +kernel
theorem dX12_workSum_45 : decode cX12_workSum 45 = .ok (.aload_n 0, 1) := by decide +kernel
theorem dX12_workSum_46 : decode cX12_workSum 46 = .ok (.getfield 7, 3) := by decide +kernel
theorem dX12_workSum_49 : decode cX12_workSum 49 = .ok (.iload_n 3, 1) := by decide +kernel
theorem dX12_workSum_50 : decode cX12_workSum 50 = .ok (.iaload, 1) := by decide +kernel
theorem dX12_workSum_51 : decode cX12_workSum 51 = .ok (.ifCond .eq 9, 3) := by decide +kernel
theorem dX12_workSum_54 : decode cX12_workSum 54 = .ok (.aload_n 0, 1) := by decide +kernel
theorem dX12_workSum_55 : decode cX12_workSum 55 = .ok (.iconst 2, 1) := by decide +kernel
theorem dX12_workSum_56 : decode cX12_workSum 56 = .ok (.invokevirtual 421, 3) := by decide +kernel
theorem dX12_workSum_59 : decode cX12_workSum 59 = .ok (.ireturn, 1) := by decide +kernel
theorem dX12_workSum_60 : decode cX12_workSum 60 = .ok (.aload_n 0, 1) := by decide +kernel
theorem dX12_workSum_61 : decode cX12_workSum 61 = .ok (.getfield 16, 3) := by decide +kernel
theorem dX12_workSum_64 : decode cX12_workSum 64 = .ok (.bipush 12, 2) := by decide +kernel
theorem dX12_workSum_66 : decode cX12_workSum 66 = .ok (.iload_n 3, 1) := by decide +kernel
theorem dX12_workSum_67 : decode cX12_workSum 67 = .ok (.imul, 1) := by decide +kernel
theorem dX12_workSum_68 : decode cX12_workSum 68 = .ok (.laload, 1) := by decide +kernel
theorem dX12_workSum_69 : decode cX12_workSum 69 = .ok (.lstore 4, 2) := by decide +kernel
theorem dX12_workSum_71 : decode cX12_workSum 71 = .ok (.aload_n 0, 1) := by decide +kernel
theorem dX12_workSum_72 : decode cX12_workSum 72 = .ok (.lconst 0, 1) := by decide +kernel
theorem dX12_workSum_73 : decode cX12_workSum 73 = .ok (.invokevirtual 454, 3) := by decide +kernel
theorem dX12_workSum_76 : decode cX12_workSum 76 = .ok (.istore 6, 2) := by decide +kernel
theorem dX12_workSum_78 : decode cX12_workSum 78 = .ok (.aload_n 0, 1) := by decide +kernel
theorem dX12_workSum_79 : decode cX12_workSum 79 = .ok (.getfield 16, 3) := by decide +kernel
theorem dX12_workSum_82 : decode cX12_workSum 82 = .ok (.bipush 12, 2) := by decide +kernel
theorem dX12_workSum_84 : decode cX12_workSum 84 = .ok (.iload_n 2, 1) := by decide +kernel
theorem dX12_workSum_85 : decode cX12_workSum 85 = .ok (.imul, 1) := by decide +kernel
theorem dX12_workSum_86 : decode cX12_workSum 86 = .ok (.laload, 1) := by decide +kernel
theorem dX12_workSum_87 : decode cX12_workSum 87 = .ok (.lload 4, 2) := by decide +kernel
theorem dX12_workSum_89 : decode cX12_workSum 89 = .ok (.lcmp, 1) := by decide +kernel
theorem dX12_workSum_90 : decode cX12_workSum 90 = .ok (.ifCond .gt 7, 3) := by decide +kernel
theorem dX12_workSum_93 : decode cX12_workSum 93 = .ok (.iconst 1, 1) := by decide +kernel
theorem dX12_workSum_94 : decode cX12_workSum 94 = .ok (.goto 4, 3) := by decide +kernel
theorem dX12_workSum_97 : decode cX12_workSum 97 = .ok (.iconst 0, 1) := by decide +kernel
theorem dX12_workSum_98 : decode cX12_workSum 98 = .ok (.istore 7, 2) := by decide +kernel
theorem dX12_workSum_100 : decode cX12_workSum 100 = .ok (.aload_n 0, 1) := by decide +kernel
theorem dX12_workSum_101 : decode cX12_workSum 101 = .ok (.getfield 16, 3) := by decide +kernel
theorem dX12_workSum_104 : decode cX12_workSum 104 = .ok (.bipush 12, 2) := by decide +kernel
theorem dX12_workSum_106 : decode cX12_workSum 106 = .ok (.iload_n 2, 1) := by decide +kernel
theorem dX12_workSum_107 : decode cX12_workSum 107 = .ok (.imul, 1) := by decide +kernel
theorem dX12_workSum_108 : decode cX12_workSum 108 = .ok (.laload, 1) := by decide +kernel
theorem dX12_workSum_109 : decode cX12_workSum 109 = .ok (.lstore 8, 2) := by decide +kernel
theorem dX12_workSum_111 : decode cX12_workSum 111 = .ok (.iload 7, 2) := by decide +kernel
theorem dX12_workSum_113 : decode cX12_workSum 113 = .ok (.ifCond .eq 84, 3) := by decide +kernel
theorem dX12_workSum_116 : decode cX12_workSum 116 = .ok (.aload_n 0, 1) := by decide +kernel
theorem dX12_workSum_117 : decode cX12_workSum 117 = .ok (.iconst 1, 1) := by decide +kernel
theorem dX12_workSum_118 : decode cX12_workSum 118 = .ok (.invokevirtual 451, 3) := by decide +kernel
theorem dX12_workSum_121 : decode cX12_workSum 121 = .ok (.ifCond .ne 5, 3) := by decide +kernel
theorem dX12_workSum_124 : decode cX12_workSum 124 = .ok (.iconst (-1), 1) := by decide +kernel
theorem dX12_workSum_125 : decode cX12_workSum 125 = .ok (.ireturn, 1) := by decide +kernel
theorem dX12_workSum_126 : decode cX12_workSum 126 = .ok (.aload_n 0, 1) := by decide +kernel
theorem dX12_workSum_127 : decode cX12_workSum 127 = .ok (.getfield 90, 3) := by decide +kernel
theorem dX12_workSum_130 : decode cX12_workSum 130 = .ok (.iload_n 1, 1) := by decide +kernel
theorem dX12_workSum_131 : decode cX12_workSum 131 = .ok (.lload 8, 2) := by decide +kernel
theorem dX12_workSum_133 : decode cX12_workSum 133 = .ok (.lastore, 1) := by decide +kernel
theorem dX12_workSum_134 : decode cX12_workSum 134 = .ok (.aload_n 0, 1) := by decide +kernel
theorem dX12_workSum_135 : decode cX12_workSum 135 = .ok (.aload_n 0, 1) := by decide +kernel
theorem dX12_workSum_136 : decode cX12_workSum 136 = .ok (.getfield 48, 3) := by decide +kernel
theorem dX12_workSum_139 : decode cX12_workSum 139 = .ok (.iload_n 1, 1) := by decide +kernel
theorem dX12_workSum_140 : decode cX12_workSum 140 = .ok (.iaload, 1) := by decide +kernel
theorem dX12_workSum_141 : decode cX12_workSum 141 = .ok (.invokevirtual 427, 3) := by decide +kernel
theorem dX12_workSum_144 : decode cX12_workSum 144 = .ok (.istore 10, 2) := by decide +kernel
theorem dX12_workSum_146 : decode cX12_workSum 146 = .ok (.iload 10, 2) := by decide +kernel
theorem dX12_workSum_148 : decode cX12_workSum 148 = .ok (.ifCond .ge 7, 3) := by decide +kernel
theorem dX12_workSum_151 : decode cX12_workSum 151 = .ok (.iconst (-1), 1) := by decide +kernel
theorem dX12_workSum_152 : decode cX12_workSum 152 = .ok (.goto 14, 3) := by decide +kernel
theorem dX12_workSum_155 : decode cX12_workSum 155 = .ok (.aload_n 0, 1) := by decide +kernel
theorem dX12_workSum_156 : decode cX12_workSum 156 = .ok (.sipush 143, 3) := by decide +kernel
theorem dX12_workSum_159 : decode cX12_workSum 159 = .ok (.iload 6, 2) := by decide +kernel
theorem dX12_workSum_161 : decode cX12_workSum 161 = .ok (.iload 10, 2) := by decide +kernel
theorem dX12_workSum_163 : decode cX12_workSum 163 = .ok (.invokevirtual 492, 3) := by decide +kernel
theorem dX12_workSum_166 : decode cX12_workSum 166 = .ok (.istore 6, 2) := by decide +kernel
theorem dX12_workSum_168 : decode cX12_workSum 168 = .ok (.iload 6, 2) := by decide +kernel
theorem dX12_workSum_170 : decode cX12_workSum 170 = .ok (.ifCond .lt 15, 3) := by decide +kernel
theorem dX12_workSum_173 : decode cX12_workSum 173 = .ok (.lload 8, 2) := by decide +kernel
theorem dX12_workSum_175 : decode cX12_workSum 175 = .ok (.lload 4, 2) := by decide +kernel
theorem dX12_workSum_177 : decode cX12_workSum 177 = .ok (.lcmp, 1) := by decide +kernel
theorem dX12_workSum_178 : decode cX12_workSum 178 = .ok (.ifCond .ge 7, 3) := by decide +kernel
theorem dX12_workSum_181 : decode cX12_workSum 181 = .ok (.iconst 1, 1) := by decide +kernel
theorem dX12_workSum_182 : decode cX12_workSum 182 = .ok (.goto 4, 3) := by decide +kernel
theorem dX12_workSum_185 : decode cX12_workSum 185 = .ok (.iconst 0, 1) := by decide +kernel
theorem dX12_workSum_186 : decode cX12_workSum 186 = .ok (.istore 7, 2) := by decide +kernel
theorem dX12_workSum_188 : decode cX12_workSum 188 = .ok (.lload 8, 2) := by decide +kernel
theorem dX12_workSum_190 : decode cX12_workSum 190 = .ok (.lconst 1, 1) := by decide +kernel
theorem dX12_workSum_191 : decode cX12_workSum 191 = .ok (.ladd, 1) := by decide +kernel
theorem dX12_workSum_192 : decode cX12_workSum 192 = .ok (.lstore 8, 2) := by decide +kernel
theorem dX12_workSum_194 : decode cX12_workSum 194 = .ok (.goto (-83), 3) := by decide +kernel
theorem dX12_workSum_197 : decode cX12_workSum 197 = .ok (.iload 6, 2) := by decide +kernel
theorem dX12_workSum_199 : decode cX12_workSum 199 = .ok (.ireturn, 1) := by decide +kernel
theorem dX12_workMore_0 : decode cX12_workMore 0 = .ok (.aload_n 0, 1) := by decide +kernel
theorem dX12_workMore_1 : decode cX12_workMore 1 = .ok (.aload_n 0, 1) := by decide +kernel
theorem dX12_workMore_2 : decode cX12_workMore 2 = .ok (.getfield 42, 3) := by decide +kernel
theorem dX12_workMore_5 : decode cX12_workMore 5 = .ok (.iload_n 1, 1) := by decide +kernel
theorem dX12_workMore_6 : decode cX12_workMore 6 = .ok (.iaload, 1) := by decide +kernel
theorem dX12_workMore_7 : decode cX12_workMore 7 = .ok (.invokevirtual 427, 3) := by decide +kernel
theorem dX12_workMore_10 : decode cX12_workMore 10 = .ok (.istore_n 3, 1) := by decide +kernel
theorem dX12_workMore_11 : decode cX12_workMore 11 = .ok (.iconst (-1), 1) := by decide +kernel
theorem dX12_workMore_12 : decode cX12_workMore 12 = .ok (.istore 4, 2) := by decide +kernel
theorem dX12_workMore_14 : decode cX12_workMore 14 = .ok (.iconst (-1), 1) := by decide +kernel
theorem dX12_workMore_15 : decode cX12_workMore 15 = .ok (.istore 5, 2) := by decide +kernel
theorem dX12_workMore_17 : decode cX12_workMore 17 = .ok (.iload_n 3, 1) := by decide +kernel
theorem dX12_workMore_18 : decode cX12_workMore 18 = .ok (.ifCond .lt 24, 3) := by decide +kernel
theorem dX12_workMore_21 : decode cX12_workMore 21 = .ok (.aload_n 0, 1) := by decide +kernel
theorem dX12_workMore_22 : decode cX12_workMore 22 = .ok (.getfield 45, 3) := by decide +kernel
theorem dX12_workMore_25 : decode cX12_workMore 25 = .ok (.iload_n 1, 1) := by decide +kernel
theorem dX12_workMore_26 : decode cX12_workMore 26 = .ok (.iaload, 1) := by decide +kernel
theorem dX12_workMore_27 : decode cX12_workMore 27 = .ok (.ifCond .lt 15, 3) := by decide +kernel
theorem dX12_workMore_30 : decode cX12_workMore 30 = .ok (.aload_n 0, 1) := by decide +kernel
theorem dX12_workMore_31 : decode cX12_workMore 31 = .ok (.aload_n 0, 1) := by decide +kernel
theorem dX12_workMore_32 : decode cX12_workMore 32 = .ok (.getfield 45, 3) := by decide +kernel
theorem dX12_workMore_35 : decode cX12_workMore 35 = .ok (.iload_n 1, 1) := by decide +kernel
theorem dX12_workMore_36 : decode cX12_workMore 36 = .ok (.iaload, 1) := by decide +kernel
theorem dX12_workMore_37 : decode cX12_workMore 37 = .ok (.invokevirtual 427, 3) := by decide +kernel
theorem dX12_workMore_40 : decode cX12_workMore 40 = .ok (.istore 4, 2) := by decide +kernel
theorem dX12_workMore_42 : decode cX12_workMore 42 = .ok (.iload_n 3, 1) := by decide +kernel
theorem dX12_workMore_43 : decode cX12_workMore 43 = .ok (.ifCond .lt 29, 3) := by decide +kernel
theorem dX12_workMore_46 : decode cX12_workMore 46 = .ok (.iload 4, 2) := by decide +kernel
theorem dX12_workMore_48 : decode cX12_workMore 48 = .ok (.ifCond .lt 24, 3) := by decide +kernel
theorem dX12_workMore_51 : decode cX12_workMore 51 = .ok (.aload_n 0, 1) := by decide +kernel
theorem dX12_workMore_52 : decode cX12_workMore 52 = .ok (.getfield 48, 3) := by decide +kernel
theorem dX12_workMore_55 : decode cX12_workMore 55 = .ok (.iload_n 1, 1) := by decide +kernel
theorem dX12_workMore_56 : decode cX12_workMore 56 = .ok (.iaload, 1) := by decide +kernel
theorem dX12_workMore_57 : decode cX12_workMore 57 = .ok (.ifCond .lt 15, 3) := by decide +kernel
theorem dX12_workMore_60 : decode cX12_workMore 60 = .ok (.aload_n 0, 1) := by decide +kernel
theorem dX12_workMore_61 : decode cX12_workMore 61 = .ok (.aload_n 0, 1) := by decide +kernel
theorem dX12_workMore_62 : decode cX12_workMore 62 = .ok (.getfield 48, 3) := by decide +kernel
theorem dX12_workMore_65 : decode cX12_workMore 65 = .ok (.iload_n 1, 1) := by decide +kernel
theorem dX12_workMore_66 : decode cX12_workMore 66 = .ok (.iaload, 1) := by decide +kernel
theorem dX12_workMore_67 : decode cX12_workMore 67 = .ok (.invokevirtual 427, 3) := by decide +kernel
theorem dX12_workMore_70 : decode cX12_workMore 70 = .ok (.istore 5, 2) := by decide +kernel
theorem dX12_workMore_72 : decode cX12_workMore 72 = .ok (.iload_n 3, 1) := by decide +kernel
theorem dX12_workMore_73 : decode cX12_workMore 73 = .ok (.ifCond .lt 31, 3) := by decide +kernel
theorem dX12_workMore_76 : decode cX12_workMore 76 = .ok (.aload_n 0, 1) := by decide +kernel
theorem dX12_workMore_77 : decode cX12_workMore 77 = .ok (.getfield 45, 3) := by decide +kernel
theorem dX12_workMore_80 : decode cX12_workMore 80 = .ok (.iload_n 1, 1) := by decide +kernel
theorem dX12_workMore_81 : decode cX12_workMore 81 = .ok (.iaload, 1) := by decide +kernel
theorem dX12_workMore_82 : decode cX12_workMore 82 = .ok (.ifCond .lt 8, 3) := by decide +kernel
theorem dX12_workMore_85 : decode cX12_workMore 85 = .ok (.iload 4, 2) := by decide +kernel
theorem dX12_workMore_87 : decode cX12_workMore 87 = .ok (.ifCond .lt 17, 3) := by decide +kernel
theorem dX12_workMore_90 : decode cX12_workMore 90 = .ok (.aload_n 0, 1) := by decide +kernel
theorem dX12_workMore_91 : decode cX12_workMore 91 = .ok (.getfield 48, 3) := by decide +kernel
theorem dX12_workMore_94 : decode cX12_workMore 94 = .ok (.iload_n 1, 1) := by decide +kernel
theorem dX12_workMore_95 : decode cX12_workMore 95 = .ok (.iaload, 1) := by decide +kernel
theorem dX12_workMore_96 : decode cX12_workMore 96 = .ok (.ifCond .lt 10, 3) := by decide +kernel
theorem dX12_workMore_99 : decode cX12_workMore 99 = .ok (.iload 5, 2) := by decide +kernel
theorem dX12_workMore_101 : decode cX12_workMore 101 = .ok (.ifCond .ge 5, 3) := by decide +kernel
theorem dX12_workMore_104 : decode cX12_workMore 104 = .ok (.iconst (-1), 1) := by decide +kernel
theorem dX12_workMore_105 : decode cX12_workMore 105 = .ok (.ireturn, 1) := by decide +kernel
theorem dX12_workMore_106 : decode cX12_workMore 106 = .ok (.iload_n 2, 1) := by decide +kernel
theorem dX12_workMore_107 : decode cX12_workMore 107 = .ok (.lookupswitch 206 #[(1, 198), (9, 180), (10, 172), (12, 163), (13, 163), (24, 188), (45, 146), (46, 146), (51, 155), (137, 137), (142, 137), (143, 137), (145, 137), (147, 137), (160, 146), (161, 146)], 137) := by decide +kernel
theorem dX12_workMore_244 : decode cX12_workMore 244 = .ok (.aload_n 0, 1) := by decide +kernel
theorem dX12_workMore_245 : decode cX12_workMore 245 = .ok (.iload_n 2, 1) := by decide +kernel
theorem dX12_workMore_246 : decode cX12_workMore 246 = .ok (.iload_n 3, 1) := by decide +kernel
theorem dX12_workMore_247 : decode cX12_workMore 247 = .ok (.iload 4, 2) := by decide +kernel
theorem dX12_workMore_249 : decode cX12_workMore 249 = .ok (.invokevirtual 492, 3) := by decide +kernel
theorem dX12_workMore_252 : decode cX12_workMore 252 = .ok (.ireturn, 1) := by decide +kernel
theorem dX12_workMore_253 : decode cX12_workMore 253 = .ok (.aload_n 0, 1) := by decide +kernel
theorem dX12_workMore_254 : decode cX12_workMore 254 = .ok (.iload_n 2, 1) := by decide +kernel
theorem dX12_workMore_255 : decode cX12_workMore 255 = .ok (.iload_n 3, 1) := by decide +kernel
theorem dX12_workMore_256 : decode cX12_workMore 256 = .ok (.iload 4, 2) := by decide +kernel
theorem dX12_workMore_258 : decode cX12_workMore 258 = .ok (.invokevirtual 496, 3) := by decide +kernel
theorem dX12_workMore_261 : decode cX12_workMore 261 = .ok (.ireturn, 1) := by decide +kernel
theorem dX12_workMore_262 : decode cX12_workMore 262 = .ok (.aload_n 0, 1) := by decide +kernel
theorem dX12_workMore_263 : decode cX12_workMore 263 = .ok (.iload_n 3, 1) := by decide +kernel
theorem dX12_workMore_264 : decode cX12_workMore 264 = .ok (.iload 4, 2) := by decide +kernel
theorem dX12_workMore_266 : decode cX12_workMore 266 = .ok (.invokevirtual 499, 3) := by decide +kernel
theorem dX12_workMore_269 : decode cX12_workMore 269 = .ok (.ireturn, 1) := by decide +kernel
theorem dX12_workMore_270 : decode cX12_workMore 270 = .ok (.aload_n 0, 1) := by decide +kernel
theorem dX12_workMore_271 : decode cX12_workMore 271 = .ok (.iload_n 2, 1) := by decide +kernel
theorem dX12_workMore_272 : decode cX12_workMore 272 = .ok (.iload_n 3, 1) := by decide +kernel
theorem dX12_workMore_273 : decode cX12_workMore 273 = .ok (.iload 4, 2) := by decide +kernel
theorem dX12_workMore_275 : decode cX12_workMore 275 = .ok (.invokevirtual 502, 3) := by decide +kernel
theorem dX12_workMore_278 : decode cX12_workMore 278 = .ok (.ireturn, 1) := by decide +kernel
theorem dX12_workMore_279 : decode cX12_workMore 279 = .ok (.aload_n 0, 1) := by decide +kernel
theorem dX12_workMore_280 : decode cX12_workMore 280 = .ok (.iload_n 3, 1) := by decide +kernel
theorem dX12_workMore_281 : decode cX12_workMore 281 = .ok (.iload 4, 2) := by decide +kernel
theorem dX12_workMore_283 : decode cX12_workMore 283 = .ok (.invokevirtual 505, 3) := by decide +kernel
theorem dX12_workMore_286 : decode cX12_workMore 286 = .ok (.ireturn, 1) := by decide +kernel
theorem dX12_workMore_287 : decode cX12_workMore 287 = .ok (.aload_n 0, 1) := by decide +kernel
theorem dX12_workMore_288 : decode cX12_workMore 288 = .ok (.iload_n 3, 1) := by decide +kernel
theorem dX12_workMore_289 : decode cX12_workMore 289 = .ok (.iload 4, 2) := by decide +kernel
theorem dX12_workMore_291 : decode cX12_workMore 291 = .ok (.invokevirtual 508, 3) := by decide +kernel
theorem dX12_workMore_294 : decode cX12_workMore 294 = .ok (.ireturn, 1) := by decide +kernel
theorem dX12_workMore_295 : decode cX12_workMore 295 = .ok (.aload_n 0, 1) := by decide +kernel
theorem dX12_workMore_296 : decode cX12_workMore 296 = .ok (.iload_n 3, 1) := by decide +kernel
theorem dX12_workMore_297 : decode cX12_workMore 297 = .ok (.iload 4, 2) := by decide +kernel
theorem dX12_workMore_299 : decode cX12_workMore 299 = .ok (.iload 5, 2) := by decide +kernel
theorem dX12_workMore_301 : decode cX12_workMore 301 = .ok (.invokevirtual 511, 3) := by decide +kernel
theorem dX12_workMore_304 : decode cX12_workMore 304 = .ok (.ireturn, 1) := by decide +kernel
theorem dX12_workMore_305 : decode cX12_workMore 305 = .ok (.aload_n 0, 1) := by decide +kernel
theorem dX12_workMore_306 : decode cX12_workMore 306 = .ok (.iload_n 3, 1) := by decide +kernel
theorem dX12_workMore_307 : decode cX12_workMore 307 = .ok (.iload 4, 2) := by decide +kernel
theorem dX12_workMore_309 : decode cX12_workMore 309 = .ok (.invokevirtual 514, 3) := by decide +kernel
theorem dX12_workMore_312 : decode cX12_workMore 312 = .ok (.ireturn, 1) := by decide +kernel
theorem dX12_workMore_313 : decode cX12_workMore 313 = .ok (.aload_n 0, 1) := by decide +kernel
theorem dX12_workMore_314 : decode cX12_workMore 314 = .ok (.iload_n 2, 1) := by decide +kernel
theorem dX12_workMore_315 : decode cX12_workMore 315 = .ok (.iload_n 3, 1) := by decide +kernel
theorem dX12_workMore_316 : decode cX12_workMore 316 = .ok (.invokevirtual 517, 3) := by decide +kernel
theorem dX12_workMore_319 : decode cX12_workMore 319 = .ok (.ireturn, 1) := by decide +kernel
theorem dX12_isEndless_0 : decode cX12_isEndless 0 = .ok (.dload_n 0, 1) := by decide +kernel
theorem dX12_isEndless_1 : decode cX12_isEndless 1 = .ok (.ldc2_w 200, 3) := by decide +kernel
theorem dX12_isEndless_4 : decode cX12_isEndless 4 = .ok (.dcmp .l, 1) := by decide +kernel
theorem dX12_isEndless_5 : decode cX12_isEndless 5 = .ok (.ifCond .eq 11, 3) := by decide +kernel
theorem dX12_isEndless_8 : decode cX12_isEndless 8 = .ok (.dload_n 0, 1) := by decide +kernel
theorem dX12_isEndless_9 : decode cX12_isEndless 9 = .ok (.ldc2_w 216, 3) := by decide +kernel
theorem dX12_isEndless_12 : decode cX12_isEndless 12 = .ok (.dcmp .l, 1) := by decide +kernel
theorem dX12_isEndless_13 : decode cX12_isEndless 13 = .ok (.ifCond .ne 7, 3) := by decide +kernel
theorem dX12_isEndless_16 : decode cX12_isEndless 16 = .ok (.iconst 1, 1) := by decide +kernel
theorem dX12_isEndless_17 : decode cX12_isEndless 17 = .ok (.goto 4, 3) := by decide +kernel
theorem dX12_isEndless_20 : decode cX12_isEndless 20 = .ok (.iconst 0, 1) := by decide +kernel
theorem dX12_isEndless_21 : decode cX12_isEndless 21 = .ok (.ireturn, 1) := by decide +kernel
theorem dX12_plus_0 : decode cX12_plus 0 = .ok (.dload_n 0, 1) := by decide +kernel
theorem dX12_plus_1 : decode cX12_plus 1 = .ok (.dload_n 0, 1) := by decide +kernel
theorem dX12_plus_2 : decode cX12_plus 2 = .ok (.dcmp .l, 1) := by decide +kernel
theorem dX12_plus_3 : decode cX12_plus 3 = .ok (.ifCond .ne 29, 3) := by decide +kernel
theorem dX12_plus_6 : decode cX12_plus 6 = .ok (.dload_n 2, 1) := by decide +kernel
theorem dX12_plus_7 : decode cX12_plus 7 = .ok (.dload_n 2, 1) := by decide +kernel
theorem dX12_plus_8 : decode cX12_plus 8 = .ok (.dcmp .l, 1) := by decide +kernel
theorem dX12_plus_9 : decode cX12_plus 9 = .ok (.ifCond .ne 23, 3) := by decide +kernel
theorem dX12_plus_12 : decode cX12_plus 12 = .ok (.dload_n 0, 1) := by decide +kernel
theorem dX12_plus_13 : decode cX12_plus 13 = .ok (.invokestatic 520, 3) := by decide +kernel
theorem dX12_plus_16 : decode cX12_plus 16 = .ok (.ifCond .eq 20, 3) := by decide +kernel
theorem dX12_plus_19 : decode cX12_plus 19 = .ok (.dload_n 2, 1) := by decide +kernel
theorem dX12_plus_20 : decode cX12_plus 20 = .ok (.invokestatic 520, 3) := by decide +kernel
theorem dX12_plus_23 : decode cX12_plus 23 = .ok (.ifCond .eq 13, 3) := by decide +kernel
theorem dX12_plus_26 : decode cX12_plus 26 = .ok (.dload_n 0, 1) := by decide +kernel
theorem dX12_plus_27 : decode cX12_plus 27 = .ok (.dload_n 2, 1) := by decide +kernel
theorem dX12_plus_28 : decode cX12_plus 28 = .ok (.dcmp .l, 1) := by decide +kernel
theorem dX12_plus_29 : decode cX12_plus 29 = .ok (.ifCond .eq 7, 3) := by decide +kernel
theorem dX12_plus_32 : decode cX12_plus 32 = .ok (.iconst 1, 1) := by decide +kernel
theorem dX12_plus_33 : decode cX12_plus 33 = .ok (.goto 4, 3) := by decide +kernel
theorem dX12_plus_36 : decode cX12_plus 36 = .ok (.iconst 0, 1) := by decide +kernel
theorem dX12_plus_37 : decode cX12_plus 37 = .ok (.istore 4, 2) := by decide +kernel
theorem dX12_plus_39 : decode cX12_plus 39 = .ok (.iload 4, 2) := by decide +kernel
theorem dX12_plus_41 : decode cX12_plus 41 = .ok (.ifCond .eq 9, 3) := by decide +kernel
theorem dX12_plus_44 : decode cX12_plus 44 = .ok (.ldc2_w 220, 3) := by decide +kernel
theorem dX12_plus_47 : decode cX12_plus 47 = .ok (.goto 6, 3) := by decide +kernel
theorem dX12_plus_50 : decode cX12_plus 50 = .ok (.dload_n 0, 1) := by decide +kernel
theorem dX12_plus_51 : decode cX12_plus 51 = .ok (.dload_n 2, 1) := by decide +kernel
theorem dX12_plus_52 : decode cX12_plus 52 = .ok (.dadd, 1) := by decide +kernel
theorem dX12_plus_53 : decode cX12_plus 53 = .ok (.dreturn, 1) := by decide +kernel
theorem dX12_minus_0 : decode cX12_minus 0 = .ok (.dload_n 0, 1) := by decide +kernel
theorem dX12_minus_1 : decode cX12_minus 1 = .ok (.dload_n 0, 1) := by decide +kernel
theorem dX12_minus_2 : decode cX12_minus 2 = .ok (.dcmp .l, 1) := by decide +kernel
theorem dX12_minus_3 : decode cX12_minus 3 = .ok (.ifCond .ne 29, 3) := by decide +kernel
theorem dX12_minus_6 : decode cX12_minus 6 = .ok (.dload_n 2, 1) := by decide +kernel
theorem dX12_minus_7 : decode cX12_minus 7 = .ok (.dload_n 2, 1) := by decide +kernel
theorem dX12_minus_8 : decode cX12_minus 8 = .ok (.dcmp .l, 1) := by decide +kernel
theorem dX12_minus_9 : decode cX12_minus 9 = .ok (.ifCond .ne 23, 3) := by decide +kernel
theorem dX12_minus_12 : decode cX12_minus 12 = .ok (.dload_n 0, 1) := by decide +kernel
theorem dX12_minus_13 : decode cX12_minus 13 = .ok (.invokestatic 520, 3) := by decide +kernel
theorem dX12_minus_16 : decode cX12_minus 16 = .ok (.ifCond .eq 20, 3) := by decide +kernel
theorem dX12_minus_19 : decode cX12_minus 19 = .ok (.dload_n 2, 1) := by decide +kernel
theorem dX12_minus_20 : decode cX12_minus 20 = .ok (.invokestatic 520, 3) := by decide +kernel
theorem dX12_minus_23 : decode cX12_minus 23 = .ok (.ifCond .eq 13, 3) := by decide +kernel
theorem dX12_minus_26 : decode cX12_minus 26 = .ok (.dload_n 0, 1) := by decide +kernel
theorem dX12_minus_27 : decode cX12_minus 27 = .ok (.dload_n 2, 1) := by decide +kernel
theorem dX12_minus_28 : decode cX12_minus 28 = .ok (.dcmp .l, 1) := by decide +kernel
theorem dX12_minus_29 : decode cX12_minus 29 = .ok (.ifCond .ne 7, 3) := by decide +kernel
theorem dX12_minus_32 : decode cX12_minus 32 = .ok (.iconst 1, 1) := by decide +kernel
theorem dX12_minus_33 : decode cX12_minus 33 = .ok (.goto 4, 3) := by decide +kernel
theorem dX12_minus_36 : decode cX12_minus 36 = .ok (.iconst 0, 1) := by decide +kernel
theorem dX12_minus_37 : decode cX12_minus 37 = .ok (.istore 4, 2) := by decide +kernel
theorem dX12_minus_39 : decode cX12_minus 39 = .ok (.iload 4, 2) := by decide +kernel
theorem dX12_minus_41 : decode cX12_minus 41 = .ok (.ifCond .eq 9, 3) := by decide +kernel
theorem dX12_minus_44 : decode cX12_minus 44 = .ok (.ldc2_w 220, 3) := by decide +kernel
theorem dX12_minus_47 : decode cX12_minus 47 = .ok (.goto 6, 3) := by decide +kernel
theorem dX12_minus_50 : decode cX12_minus 50 = .ok (.dload_n 0, 1) := by decide +kernel
theorem dX12_minus_51 : decode cX12_minus 51 = .ok (.dload_n 2, 1) := by decide +kernel
theorem dX12_minus_52 : decode cX12_minus 52 = .ok (.dsub, 1) := by decide +kernel
theorem dX12_minus_53 : decode cX12_minus 53 = .ok (.dreturn, 1) := by decide +kernel
theorem dX12_times_0 : decode cX12_times 0 = .ok (.dload_n 0, 1) := by decide +kernel
theorem dX12_times_1 : decode cX12_times 1 = .ok (.dload_n 0, 1) := by decide +kernel
theorem dX12_times_2 : decode cX12_times 2 = .ok (.dcmp .l, 1) := by decide +kernel
theorem dX12_times_3 : decode cX12_times 3 = .ok (.ifCond .ne 35, 3) := by decide +kernel
theorem dX12_times_6 : decode cX12_times 6 = .ok (.dload_n 2, 1) := by decide +kernel
theorem dX12_times_7 : decode cX12_times 7 = .ok (.dload_n 2, 1) := by decide +kernel
theorem dX12_times_8 : decode cX12_times 8 = .ok (.dcmp .l, 1) := by decide +kernel
theorem dX12_times_9 : decode cX12_times 9 = .ok (.ifCond .ne 29, 3) := by decide +kernel
theorem dX12_times_12 : decode cX12_times 12 = .ok (.dload_n 0, 1) := by decide +kernel
theorem dX12_times_13 : decode cX12_times 13 = .ok (.dconst 0, 1) := by decide +kernel
theorem dX12_times_14 : decode cX12_times 14 = .ok (.dcmp .l, 1) := by decide +kernel
theorem dX12_times_15 : decode cX12_times 15 = .ok (.ifCond .ne 10, 3) := by decide +kernel
theorem dX12_times_18 : decode cX12_times 18 = .ok (.dload_n 2, 1) := by decide +kernel
theorem dX12_times_19 : decode cX12_times 19 = .ok (.invokestatic 520, 3) := by decide +kernel
theorem dX12_times_22 : decode cX12_times 22 = .ok (.ifCond .ne 16, 3) := by decide +kernel
theorem dX12_times_25 : decode cX12_times 25 = .ok (.dload_n 2, 1) := by decide +kernel
theorem dX12_times_26 : decode cX12_times 26 = .ok (.dconst 0, 1) := by decide +kernel
theorem dX12_times_27 : decode cX12_times 27 = .ok (.dcmp .l, 1) := by decide +kernel
theorem dX12_times_28 : decode cX12_times 28 = .ok (.ifCond .ne 14, 3) := by decide +kernel
theorem dX12_times_31 : decode cX12_times 31 = .ok (.dload_n 0, 1) := by decide +kernel
theorem dX12_times_32 : decode cX12_times 32 = .ok (.invokestatic 520, 3) := by decide +kernel
theorem dX12_times_35 : decode cX12_times 35 = .ok (.ifCond .eq 7, 3) := by decide +kernel
theorem dX12_times_38 : decode cX12_times 38 = .ok (.iconst 1, 1) := by decide +kernel
theorem dX12_times_39 : decode cX12_times 39 = .ok (.goto 4, 3) := by decide +kernel
theorem dX12_times_42 : decode cX12_times 42 = .ok (.iconst 0, 1) := by decide +kernel
theorem dX12_times_43 : decode cX12_times 43 = .ok (.istore 4, 2) := by decide +kernel
theorem dX12_times_45 : decode cX12_times 45 = .ok (.iload 4, 2) := by decide +kernel
theorem dX12_times_47 : decode cX12_times 47 = .ok (.ifCond .eq 9, 3) := by decide +kernel
theorem dX12_times_50 : decode cX12_times 50 = .ok (.ldc2_w 220, 3) := by decide +kernel
theorem dX12_times_53 : decode cX12_times 53 = .ok (.goto 6, 3) := by decide +kernel
theorem dX12_times_56 : decode cX12_times 56 = .ok (.dload_n 0, 1) := by decide +kernel
theorem dX12_times_57 : decode cX12_times 57 = .ok (.dload_n 2, 1) := by decide +kernel
theorem dX12_times_58 : decode cX12_times 58 = .ok (.dmul, 1) := by decide +kernel
theorem dX12_times_59 : decode cX12_times 59 = .ok (.dreturn, 1) := by decide +kernel
theorem dX12_by_0 : decode cX12_by 0 = .ok (.dload_n 0, 1) := by decide +kernel
theorem dX12_by_1 : decode cX12_by 1 = .ok (.dload_n 0, 1) := by decide +kernel
theorem dX12_by_2 : decode cX12_by 2 = .ok (.dcmp .l, 1) := by decide +kernel
theorem dX12_by_3 : decode cX12_by 3 = .ok (.ifCond .ne 35, 3) := by decide +kernel
theorem dX12_by_6 : decode cX12_by 6 = .ok (.dload_n 2, 1) := by decide +kernel
theorem dX12_by_7 : decode cX12_by 7 = .ok (.dload_n 2, 1) := by decide +kernel
theorem dX12_by_8 : decode cX12_by 8 = .ok (.dcmp .l, 1) := by decide +kernel
theorem dX12_by_9 : decode cX12_by 9 = .ok (.ifCond .ne 29, 3) := by decide +kernel
theorem dX12_by_12 : decode cX12_by 12 = .ok (.dload_n 0, 1) := by decide +kernel
theorem dX12_by_13 : decode cX12_by 13 = .ok (.dconst 0, 1) := by decide +kernel
theorem dX12_by_14 : decode cX12_by 14 = .ok (.dcmp .l, 1) := by decide +kernel
theorem dX12_by_15 : decode cX12_by 15 = .ok (.ifCond .ne 9, 3) := by decide +kernel
theorem dX12_by_18 : decode cX12_by 18 = .ok (.dload_n 2, 1) := by decide +kernel
theorem dX12_by_19 : decode cX12_by 19 = .ok (.dconst 0, 1) := by decide +kernel
theorem dX12_by_20 : decode cX12_by 20 = .ok (.dcmp .l, 1) := by decide +kernel
theorem dX12_by_21 : decode cX12_by 21 = .ok (.ifCond .eq 17, 3) := by decide +kernel
theorem dX12_by_24 : decode cX12_by 24 = .ok (.dload_n 0, 1) := by decide +kernel
theorem dX12_by_25 : decode cX12_by 25 = .ok (.invokestatic 520, 3) := by decide +kernel
theorem dX12_by_28 : decode cX12_by 28 = .ok (.ifCond .eq 14, 3) := by decide +kernel
theorem dX12_by_31 : decode cX12_by 31 = .ok (.dload_n 2, 1) := by decide +kernel
theorem dX12_by_32 : decode cX12_by 32 = .ok (.invokestatic 520, 3) := by decide +kernel
theorem dX12_by_35 : decode cX12_by 35 = .ok (.ifCond .eq 7, 3) := by decide +kernel
theorem dX12_by_38 : decode cX12_by 38 = .ok (.iconst 1, 1) := by decide +kernel
theorem dX12_by_39 : decode cX12_by 39 = .ok (.goto 4, 3) := by decide +kernel
theorem dX12_by_42 : decode cX12_by 42 = .ok (.iconst 0, 1) := by decide +kernel
theorem dX12_by_43 : decode cX12_by 43 = .ok (.istore 4, 2) := by decide +kernel
theorem dX12_by_45 : decode cX12_by 45 = .ok (.iload 4, 2) := by decide +kernel
theorem dX12_by_47 : decode cX12_by 47 = .ok (.ifCond .eq 9, 3) := by decide +kernel
theorem dX12_by_50 : decode cX12_by 50 = .ok (.ldc2_w 220, 3) := by decide +kernel
theorem dX12_by_53 : decode cX12_by 53 = .ok (.goto 6, 3) := by decide +kernel
theorem dX12_by_56 : decode cX12_by 56 = .ok (.dload_n 0, 1) := by decide +kernel
theorem dX12_by_57 : decode cX12_by 57 = .ok (.dload_n 2, 1) := by decide +kernel
theorem dX12_by_58 : decode cX12_by 58 = .ok (.ddiv, 1) := by decide +kernel
theorem dX12_by_59 : decode cX12_by 59 = .ok (.dreturn, 1) := by decide +kernel
theorem dX12_rest_0 : decode cX12_rest 0 = .ok (.dload_n 0, 1) := by decide +kernel
theorem dX12_rest_1 : decode cX12_rest 1 = .ok (.dload_n 0, 1) := by decide +kernel
theorem dX12_rest_2 : decode cX12_rest 2 = .ok (.dcmp .l, 1) := by decide +kernel
theorem dX12_rest_3 : decode cX12_rest 3 = .ok (.ifCond .ne 22, 3) := by decide +kernel
theorem dX12_rest_6 : decode cX12_rest 6 = .ok (.dload_n 2, 1) := by decide +kernel
theorem dX12_rest_7 : decode cX12_rest 7 = .ok (.dload_n 2, 1) := by decide +kernel
theorem dX12_rest_8 : decode cX12_rest 8 = .ok (.dcmp .l, 1) := by decide +kernel
theorem dX12_rest_9 : decode cX12_rest 9 = .ok (.ifCond .ne 16, 3) := by decide +kernel
theorem dX12_rest_12 : decode cX12_rest 12 = .ok (.dload_n 0, 1) := by decide +kernel
theorem dX12_rest_13 : decode cX12_rest 13 = .ok (.invokestatic 520, 3) := by decide +kernel
theorem dX12_rest_16 : decode cX12_rest 16 = .ok (.ifCond .ne 9, 3) := by decide +kernel
theorem dX12_rest_19 : decode cX12_rest 19 = .ok (.dload_n 2, 1) := by decide +kernel
theorem dX12_rest_20 : decode cX12_rest 20 = .ok (.dconst 0, 1) := by decide +kernel
theorem dX12_rest_21 : decode cX12_rest 21 = .ok (.dcmp .l, 1) := by decide +kernel
theorem dX12_rest_22 : decode cX12_rest 22 = .ok (.ifCond .ne 7, 3) := by decide +kernel
theorem dX12_rest_25 : decode cX12_rest 25 = .ok (.iconst 1, 1) := by decide +kernel
theorem dX12_rest_26 : decode cX12_rest 26 = .ok (.goto 4, 3) := by decide +kernel
theorem dX12_rest_29 : decode cX12_rest 29 = .ok (.iconst 0, 1) := by decide +kernel
theorem dX12_rest_30 : decode cX12_rest 30 = .ok (.istore 4, 2) := by decide +kernel
theorem dX12_rest_32 : decode cX12_rest 32 = .ok (.iload 4, 2) := by decide +kernel
theorem dX12_rest_34 : decode cX12_rest 34 = .ok (.ifCond .eq 9, 3) := by decide +kernel
theorem dX12_rest_37 : decode cX12_rest 37 = .ok (.ldc2_w 220, 3) := by decide +kernel
theorem dX12_rest_40 : decode cX12_rest 40 = .ok (.goto 6, 3) := by decide +kernel
theorem dX12_rest_43 : decode cX12_rest 43 = .ok (.dload_n 0, 1) := by decide +kernel
theorem dX12_rest_44 : decode cX12_rest 44 = .ok (.dload_n 2, 1) := by decide +kernel
theorem dX12_rest_45 : decode cX12_rest 45 = .ok (.drem, 1) := by decide +kernel
theorem dX12_rest_46 : decode cX12_rest 46 = .ok (.dreturn, 1) := by decide +kernel
theorem dX12_arithmetic_0 : decode cX12_arithmetic 0 = .ok (.aload_n 0, 1) := by decide +kernel
theorem dX12_arithmetic_1 : decode cX12_arithmetic 1 = .ok (.getfield 7, 3) := by decide +kernel
theorem dX12_arithmetic_4 : decode cX12_arithmetic 4 = .ok (.iload_n 2, 1) := by decide +kernel
theorem dX12_arithmetic_5 : decode cX12_arithmetic 5 = .ok (.iaload, 1) := by decide +kernel
theorem dX12_arithmetic_6 : decode cX12_arithmetic 6 = .ok (.invokestatic 489, 3) := by decide +kernel
theorem dX12_arithmetic_9 : decode cX12_arithmetic 9 = .ok (.ifCond .eq 15, 3) := by decide +kernel
theorem dX12_arithmetic_12 : decode cX12_arithmetic 12 = .ok (.aload_n 0, 1) := by decide +kernel
theorem dX12_arithmetic_13 : decode cX12_arithmetic 13 = .ok (.getfield 7, 3) := by decide +kernel
theorem dX12_arithmetic_16 : decode cX12_arithmetic 16 = .ok (.iload_n 3, 1) := by decide +kernel
theorem dX12_arithmetic_17 : decode cX12_arithmetic 17 = .ok (.iaload, 1) := by decide +kernel
theorem dX12_arithmetic_18 : decode cX12_arithmetic 18 = .ok (.invokestatic 489, 3) := by decide +kernel
theorem dX12_arithmetic_21 : decode cX12_arithmetic 21 = .ok (.ifCond .ne 9, 3) := by decide +kernel
theorem dX12_arithmetic_24 : decode cX12_arithmetic 24 = .ok (.aload_n 0, 1) := by decide +kernel
theorem dX12_arithmetic_25 : decode cX12_arithmetic 25 = .ok (.iconst 2, 1) := by decide +kernel
theorem dX12_arithmetic_26 : decode cX12_arithmetic 26 = .ok (.invokevirtual 421, 3) := by decide +kernel
theorem dX12_arithmetic_29 : decode cX12_arithmetic 29 = .ok (.ireturn, 1) := by decide +kernel
theorem dX12_arithmetic_30 : decode cX12_arithmetic 30 = .ok (.aload_n 0, 1) := by decide +kernel
theorem dX12_arithmetic_31 : decode cX12_arithmetic 31 = .ok (.getfield 7, 3) := by decide +kernel
theorem dX12_arithmetic_34 : decode cX12_arithmetic 34 = .ok (.iload_n 2, 1) := by decide +kernel
theorem dX12_arithmetic_35 : decode cX12_arithmetic 35 = .ok (.iaload, 1) := by decide +kernel
theorem dX12_arithmetic_36 : decode cX12_arithmetic 36 = .ok (.iconst 1, 1) := by decide +kernel
theorem dX12_arithmetic_37 : decode cX12_arithmetic 37 = .ok (.if_icmp .eq 13, 3) := by decide +kernel
theorem dX12_arithmetic_40 : decode cX12_arithmetic 40 = .ok (.aload_n 0, 1) := by decide +kernel
theorem dX12_arithmetic_41 : decode cX12_arithmetic 41 = .ok (.getfield 7, 3) := by decide +kernel
theorem dX12_arithmetic_44 : decode cX12_arithmetic 44 = .ok (.iload_n 3, 1) := by decide +kernel
theorem dX12_arithmetic_45 : decode cX12_arithmetic 45 = .ok (.iaload, 1) := by decide +kernel
theorem dX12_arithmetic_46 : decode cX12_arithmetic 46 = .ok (.iconst 1, 1) := by decide +kernel
theorem dX12_arithmetic_47 : decode cX12_arithmetic 47 = .ok (.if_icmp .ne 97, 3) := by decide +kernel
theorem dX12_arithmetic_50 : decode cX12_arithmetic 50 = .ok (.aload_n 0, 1) := by decide +kernel
theorem dX12_arithmetic_51 : decode cX12_arithmetic 51 = .ok (.iload_n 2, 1) := by decide +kernel
theorem dX12_arithmetic_52 : decode cX12_arithmetic 52 = .ok (.invokevirtual 524, 3) := by decide +kernel
theorem dX12_arithmetic_55 : decode cX12_arithmetic 55 = .ok (.dstore 4, 2) := by decide +kernel
theorem dX12_arithmetic_57 : decode cX12_arithmetic 57 = .ok (.aload_n 0, 1) := by decide +kernel
theorem dX12_arithmetic_58 : decode cX12_arithmetic 58 = .ok (.iload_n 3, 1) := by decide +kernel
theorem dX12_arithmetic_59 : decode cX12_arithmetic 59 = .ok (.invokevirtual 524, 3) := by decide +kernel
theorem dX12_arithmetic_62 : decode cX12_arithmetic 62 = .ok (.dstore 6, 2) := by decide +kernel
theorem dX12_arithmetic_64 : decode cX12_arithmetic 64 = .ok (.aload_n 0, 1) := by decide +kernel
theorem dX12_arithmetic_65 : decode cX12_arithmetic 65 = .ok (.iload_n 1, 1) := by decide +kernel
theorem dX12_arithmetic_66 : decode cX12_arithmetic 66 = .ok (.sipush 143, 3) := by decide +kernel
theorem dX12_arithmetic_69 : decode cX12_arithmetic 69 = .ok (.if_icmp .ne 13, 3) := by decide +kernel
theorem dX12_arithmetic_72 : decode cX12_arithmetic 72 = .ok (.dload 4, 2) := by decide +kernel
theorem dX12_arithmetic_74 : decode cX12_arithmetic 74 = .ok (.dload 6, 2) := by decide +kernel
theorem dX12_arithmetic_76 : decode cX12_arithmetic 76 = .ok (.invokestatic 528, 3) := by decide +kernel
theorem dX12_arithmetic_79 : decode cX12_arithmetic 79 = .ok (.goto 61, 3) := by decide +kernel
theorem dX12_arithmetic_82 : decode cX12_arithmetic 82 = .ok (.iload_n 1, 1) := by decide +kernel
theorem dX12_arithmetic_83 : decode cX12_arithmetic 83 = .ok (.sipush 145, 3) := by decide +kernel
theorem dX12_arithmetic_86 : decode cX12_arithmetic 86 = .ok (.if_icmp .ne 13, 3) := by decide +kernel
theorem dX12_arithmetic_89 : decode cX12_arithmetic 89 = .ok (.dload 4, 2) := by decide +kernel
theorem dX12_arithmetic_91 : decode cX12_arithmetic 91 = .ok (.dload 6, 2) := by decide +kernel
theorem dX12_arithmetic_93 : decode cX12_arithmetic 93 = .ok (.invokestatic 532, 3) := by decide +kernel
theorem dX12_arithmetic_96 : decode cX12_arithmetic 96 = .ok (.goto 44, 3) := by decide +kernel
theorem dX12_arithmetic_99 : decode cX12_arithmetic 99 = .ok (.iload_n 1, 1) := by decide +kernel
theorem dX12_arithmetic_100 : decode cX12_arithmetic 100 = .ok (.sipush 142, 3) := by decide +kernel
theorem dX12_arithmetic_103 : decode cX12_arithmetic 103 = .ok (.if_icmp .ne 13, 3) := by decide +kernel
theorem dX12_arithmetic_106 : decode cX12_arithmetic 106 = .ok (.dload 4, 2) := by decide +kernel
theorem dX12_arithmetic_108 : decode cX12_arithmetic 108 = .ok (.dload 6, 2) := by decide +kernel
theorem dX12_arithmetic_110 : decode cX12_arithmetic 110 = .ok (.invokestatic 535, 3) := by decide +kernel
theorem dX12_arithmetic_113 : decode cX12_arithmetic 113 = .ok (.goto 27, 3) := by decide +kernel
theorem dX12_arithmetic_116 : decode cX12_arithmetic 116 = .ok (.iload_n 1, 1) := by decide +kernel
theorem dX12_arithmetic_117 : decode cX12_arithmetic 117 = .ok (.sipush 147, 3) := by decide +kernel
theorem dX12_arithmetic_120 : decode cX12_arithmetic 120 = .ok (.if_icmp .ne 13, 3) := by decide +kernel
theorem dX12_arithmetic_123 : decode cX12_arithmetic 123 = .ok (.dload 4, 2) := by decide +kernel
theorem dX12_arithmetic_125 : decode cX12_arithmetic 125 = .ok (.dload 6, 2) := by decide +kernel
theorem dX12_arithmetic_127 : decode cX12_arithmetic 127 = .ok (.invokestatic 538, 3) := by decide +kernel
theorem dX12_arithmetic_130 : decode cX12_arithmetic 130 = .ok (.goto 10, 3) := by decide +kernel
theorem dX12_arithmetic_133 : decode cX12_arithmetic 133 = .ok (.dload 4, 2) := by decide +kernel
theorem dX12_arithmetic_135 : decode cX12_arithmetic 135 = .ok (.dload 6, 2) := by decide +kernel
theorem dX12_arithmetic_137 : decode cX12_arithmetic 137 = .ok (.invokestatic 541, 3) := by decide +kernel
theorem dX12_arithmetic_140 : decode cX12_arithmetic 140 = .ok (.invokevirtual 461, 3) := by decide +kernel
theorem dX12_arithmetic_143 : decode cX12_arithmetic 143 = .ok (.ireturn, 1) := by decide +kernel
theorem dX12_arithmetic_144 : decode cX12_arithmetic 144 = .ok (.aload_n 0, 1) := by decide +kernel
theorem dX12_arithmetic_145 : decode cX12_arithmetic 145 = .ok (.iload_n 1, 1) := by decide +kernel
theorem dX12_arithmetic_146 : decode cX12_arithmetic 146 = .ok (.aload_n 0, 1) := by decide +kernel
theorem dX12_arithmetic_147 : decode cX12_arithmetic 147 = .ok (.getfield 16, 3) := by decide +kernel
theorem dX12_arithmetic_150 : decode cX12_arithmetic 150 = .ok (.bipush 12, 2) := by decide +kernel
theorem dX12_arithmetic_152 : decode cX12_arithmetic 152 = .ok (.iload_n 2, 1) := by decide +kernel
theorem dX12_arithmetic_153 : decode cX12_arithmetic 153 = .ok (.imul, 1) := by decide +kernel
theorem dX12_arithmetic_154 : decode cX12_arithmetic 154 = .ok (.laload, 1) := by decide +kernel
theorem dX12_arithmetic_155 : decode cX12_arithmetic 155 = .ok (.aload_n 0, 1) := by decide +kernel
theorem dX12_arithmetic_156 : decode cX12_arithmetic 156 = .ok (.getfield 16, 3) := by decide +kernel
theorem dX12_arithmetic_159 : decode cX12_arithmetic 159 = .ok (.bipush 12, 2) := by decide +kernel
theorem dX12_arithmetic_161 : decode cX12_arithmetic 161 = .ok (.iload_n 3, 1) := by decide +kernel
theorem dX12_arithmetic_162 : decode cX12_arithmetic 162 = .ok (.imul, 1) := by decide +kernel
theorem dX12_arithmetic_163 : decode cX12_arithmetic 163 = .ok (.laload, 1) := by decide +kernel
theorem dX12_arithmetic_164 : decode cX12_arithmetic 164 = .ok (.invokevirtual 544, 3) := by decide +kernel
theorem dX12_arithmetic_167 : decode cX12_arithmetic 167 = .ok (.ireturn, 1) := by decide +kernel
theorem dX12_whole_0 : decode cX12_whole 0 = .ok (.iload_n 1, 1) := by decide +kernel
theorem dX12_whole_1 : decode cX12_whole 1 = .ok (.sipush 143, 3) := by decide +kernel
theorem dX12_whole_4 : decode cX12_whole 4 = .ok (.if_icmp .ne 40, 3) := by decide +kernel
theorem dX12_whole_7 : decode cX12_whole 7 = .ok (.lload_n 2, 1) := by decide +kernel
theorem dX12_whole_8 : decode cX12_whole 8 = .ok (.lload 4, 2) := by decide +kernel
theorem dX12_whole_10 : decode cX12_whole 10 = .ok (.ladd, 1) := by decide +kernel
theorem dX12_whole_11 : decode cX12_whole 11 = .ok (.lstore 6, 2) := by decide +kernel
theorem dX12_whole_13 : decode cX12_whole 13 = .ok (.lload_n 2, 1) := by decide +kernel
theorem dX12_whole_14 : decode cX12_whole 14 = .ok (.lload 6, 2) := by decide +kernel
theorem dX12_whole_16 : decode cX12_whole 16 = .ok (.lxor, 1) := by decide +kernel
theorem dX12_whole_17 : decode cX12_whole 17 = .ok (.lload 4, 2) := by decide +kernel
theorem dX12_whole_19 : decode cX12_whole 19 = .ok (.lload 6, 2) := by decide +kernel
theorem dX12_whole_21 : decode cX12_whole 21 = .ok (.lxor, 1) := by decide +kernel
theorem dX12_whole_22 : decode cX12_whole 22 = .ok (.land, 1) := by decide +kernel
theorem dX12_whole_23 : decode cX12_whole 23 = .ok (.lconst 0, 1) := by decide +kernel
theorem dX12_whole_24 : decode cX12_whole 24 = .ok (.lcmp, 1) := by decide +kernel
theorem dX12_whole_25 : decode cX12_whole 25 = .ok (.ifCond .ge 12, 3) := by decide +kernel
theorem dX12_whole_28 : decode cX12_whole 28 = .ok (.aload_n 0, 1) := by decide +kernel
theorem dX12_whole_29 : decode cX12_whole 29 = .ok (.bipush 6, 2) := by decide +kernel
theorem dX12_whole_31 : decode cX12_whole 31 = .ok (.invokevirtual 421, 3) := by decide +kernel
theorem dX12_whole_34 : decode cX12_whole 34 = .ok (.goto 9, 3) := by decide +kernel
theorem dX12_whole_37 : decode cX12_whole 37 = .ok (.aload_n 0, 1) := by decide +kernel
theorem dX12_whole_38 : decode cX12_whole 38 = .ok (.lload 6, 2) := by decide +kernel
theorem dX12_whole_40 : decode cX12_whole 40 = .ok (.invokevirtual 454, 3) := by decide +kernel
theorem dX12_whole_43 : decode cX12_whole 43 = .ok (.ireturn, 1) := by decide +kernel
theorem dX12_whole_44 : decode cX12_whole 44 = .ok (.iload_n 1, 1) := by decide +kernel
theorem dX12_whole_45 : decode cX12_whole 45 = .ok (.sipush 145, 3) := by decide +kernel
theorem dX12_whole_48 : decode cX12_whole 48 = .ok (.if_icmp .ne 39, 3) := by decide +kernel
theorem dX12_whole_51 : decode cX12_whole 51 = .ok (.lload_n 2, 1) := by decide +kernel
theorem dX12_whole_52 : decode cX12_whole 52 = .ok (.lload 4, 2) := by decide +kernel
theorem dX12_whole_54 : decode cX12_whole 54 = .ok (.lsub, 1) := by decide +kernel
theorem dX12_whole_55 : decode cX12_whole 55 = .ok (.lstore 6, 2) := by decide +kernel
theorem dX12_whole_57 : decode cX12_whole 57 = .ok (.lload_n 2, 1) := by decide +kernel
theorem dX12_whole_58 : decode cX12_whole 58 = .ok (.lload 4, 2) := by decide +kernel
theorem dX12_whole_60 : decode cX12_whole 60 = .ok (.lxor, 1) := by decide +kernel
theorem dX12_whole_61 : decode cX12_whole 61 = .ok (.lload_n 2, 1) := by decide +kernel
theorem dX12_whole_62 : decode cX12_whole 62 = .ok (.lload 6, 2) := by decide +kernel
theorem dX12_whole_64 : decode cX12_whole 64 = .ok (.lxor, 1) := by decide +kernel
theorem dX12_whole_65 : decode cX12_whole 65 = .ok (.land, 1) := by decide +kernel
theorem dX12_whole_66 : decode cX12_whole 66 = .ok (.lconst 0, 1) := by decide +kernel
theorem dX12_whole_67 : decode cX12_whole 67 = .ok (.lcmp, 1) := by decide +kernel
theorem dX12_whole_68 : decode cX12_whole 68 = .ok (.ifCond .ge 12, 3) := by decide +kernel
theorem dX12_whole_71 : decode cX12_whole 71 = .ok (.aload_n 0, 1) := by decide +kernel
theorem dX12_whole_72 : decode cX12_whole 72 = .ok (.bipush 6, 2) := by decide +kernel
theorem dX12_whole_74 : decode cX12_whole 74 = .ok (.invokevirtual 421, 3) := by decide +kernel
theorem dX12_whole_77 : decode cX12_whole 77 = .ok (.goto 9, 3) := by decide +kernel
theorem dX12_whole_80 : decode cX12_whole 80 = .ok (.aload_n 0, 1) := by decide +kernel
theorem dX12_whole_81 : decode cX12_whole 81 = .ok (.lload 6, 2) := by decide +kernel
theorem dX12_whole_83 : decode cX12_whole 83 = .ok (.invokevirtual 454, 3) := by decide +kernel
theorem dX12_whole_86 : decode cX12_whole 86 = .ok (.ireturn, 1) := by decide +kernel
theorem dX12_whole_87 : decode cX12_whole 87 = .ok (.iload_n 1, 1) := by decide +kernel
theorem dX12_whole_88 : decode cX12_whole 88 = .ok (.sipush 142, 3) := by decide +kernel
theorem dX12_whole_91 : decode cX12_whole 91 = .ok (.if_icmp .ne 70, 3) := by decide +kernel
theorem dX12_whole_94 : decode cX12_whole 94 = .ok (.lload_n 2, 1) := by decide +kernel
theorem dX12_whole_95 : decode cX12_whole 95 = .ok (.lload 4, 2) := by decide +kernel
theorem dX12_whole_97 : decode cX12_whole 97 = .ok (.lmul, 1) := by decide +kernel
theorem dX12_whole_98 : decode cX12_whole 98 = .ok (.lstore 6, 2) := by decide +kernel
theorem dX12_whole_100 : decode cX12_whole 100 = .ok (.lload_n 2, 1) := by decide +kernel
theorem dX12_whole_101 : decode cX12_whole 101 = .ok (.ldc2_w 190, 3) := by decide +kernel
theorem dX12_whole_104 : decode cX12_whole 104 = .ok (.lcmp, 1) := by decide +kernel
theorem dX12_whole_105 : decode cX12_whole 105 = .ok (.ifCond .ne 16, 3) := by decide +kernel
theorem dX12_whole_108 : decode cX12_whole 108 = .ok (.lload 4, 2) := by decide +kernel
theorem dX12_whole_110 : decode cX12_whole 110 = .ok (.ldc2_w 198, 3) := by decide +kernel
theorem dX12_whole_113 : decode cX12_whole 113 = .ok (.lcmp, 1) := by decide +kernel
theorem dX12_whole_114 : decode cX12_whole 114 = .ok (.ifCond .ne 7, 3) := by decide +kernel
theorem dX12_whole_117 : decode cX12_whole 117 = .ok (.iconst 1, 1) := by decide +kernel
theorem dX12_whole_118 : decode cX12_whole 118 = .ok (.goto 4, 3) := by decide +kernel
theorem dX12_whole_121 : decode cX12_whole 121 = .ok (.iconst 0, 1) := by decide +kernel
theorem dX12_whole_122 : decode cX12_whole 122 = .ok (.istore 8, 2) := by decide +kernel
theorem dX12_whole_124 : decode cX12_whole 124 = .ok (.lload_n 2, 1) := by decide +kernel
theorem dX12_whole_125 : decode cX12_whole 125 = .ok (.lconst 0, 1) := by decide +kernel
theorem dX12_whole_126 : decode cX12_whole 126 = .ok (.lcmp, 1) := by decide +kernel
theorem dX12_whole_127 : decode cX12_whole 127 = .ok (.ifCond .eq 27, 3) := by decide +kernel
theorem dX12_whole_130 : decode cX12_whole 130 = .ok (.iload 8, 2) := by decide +kernel
theorem dX12_whole_132 : decode cX12_whole 132 = .ok (.ifCond .ne 13, 3) := by decide +kernel
theorem dX12_whole_135 : decode cX12_whole 135 = .ok (.lload 6, 2) := by decide +kernel
theorem dX12_whole_137 : decode cX12_whole 137 = .ok (.lload_n 2, 1) := by decide +kernel
theorem dX12_whole_138 : decode cX12_whole 138 = .ok (.ldiv, 1) := by decide +kernel
theorem dX12_whole_139 : decode cX12_whole 139 = .ok (.lload 4, 2) := by decide +kernel
theorem dX12_whole_141 : decode cX12_whole 141 = .ok (.lcmp, 1) := by decide +kernel
theorem dX12_whole_142 : decode cX12_whole 142 = .ok (.ifCond .eq 12, 3) := by decide +kernel
theorem dX12_whole_145 : decode cX12_whole 145 = .ok (.aload_n 0, 1) := by decide +kernel
theorem dX12_whole_146 : decode cX12_whole 146 = .ok (.bipush 6, 2) := by decide +kernel
theorem dX12_whole_148 : decode cX12_whole 148 = .ok (.invokevirtual 421, 3) := by decide +kernel
theorem dX12_whole_151 : decode cX12_whole 151 = .ok (.goto 9, 3) := by decide +kernel
theorem dX12_whole_154 : decode cX12_whole 154 = .ok (.aload_n 0, 1) := by decide +kernel
theorem dX12_whole_155 : decode cX12_whole 155 = .ok (.lload 6, 2) := by decide +kernel
theorem dX12_whole_157 : decode cX12_whole 157 = .ok (.invokevirtual 454, 3) := by decide +kernel
theorem dX12_whole_160 : decode cX12_whole 160 = .ok (.ireturn, 1) := by decide +kernel
theorem dX12_whole_161 : decode cX12_whole 161 = .ok (.lload 4, 2) := by decide +kernel
theorem dX12_whole_163 : decode cX12_whole 163 = .ok (.lconst 0, 1) := by decide +kernel
theorem dX12_whole_164 : decode cX12_whole 164 = .ok (.lcmp, 1) := by decide +kernel
theorem dX12_whole_165 : decode cX12_whole 165 = .ok (.ifCond .ne 10, 3) := by decide +kernel
theorem dX12_whole_168 : decode cX12_whole 168 = .ok (.aload_n 0, 1) := by decide +kernel
theorem dX12_whole_169 : decode cX12_whole 169 = .ok (.bipush 6, 2) := by decide +kernel
theorem dX12_whole_171 : decode cX12_whole 171 = .ok (.invokevirtual 421, 3) := by decide +kernel
theorem dX12_whole_174 : decode cX12_whole 174 = .ok (.ireturn, 1) := by decide +kernel
theorem dX12_whole_175 : decode cX12_whole 175 = .ok (.aload_n 0, 1) := by decide +kernel
theorem dX12_whole_176 : decode cX12_whole 176 = .ok (.iload_n 1, 1) := by decide +kernel
theorem dX12_whole_177 : decode cX12_whole 177 = .ok (.sipush 147, 3) := by decide +kernel
theorem dX12_whole_180 : decode cX12_whole 180 = .ok (.if_icmp .ne 10, 3) := by decide +kernel
theorem dX12_whole_183 : decode cX12_whole 183 = .ok (.lload_n 2, 1) := by decide +kernel
theorem dX12_whole_184 : decode cX12_whole 184 = .ok (.lload 4, 2) := by decide +kernel
theorem dX12_whole_186 : decode cX12_whole 186 = .ok (.ldiv, 1) := by decide +kernel
theorem dX12_whole_187 : decode cX12_whole 187 = .ok (.goto 7, 3) := by decide +kernel
theorem dX12_whole_190 : decode cX12_whole 190 = .ok (.lload_n 2, 1) := by decide +kernel
theorem dX12_whole_191 : decode cX12_whole 191 = .ok (.lload 4, 2) := by decide +kernel
theorem dX12_whole_193 : decode cX12_whole 193 = .ok (.lrem, 1) := by decide +kernel
theorem dX12_whole_194 : decode cX12_whole 194 = .ok (.invokevirtual 454, 3) := by decide +kernel
theorem dX12_whole_197 : decode cX12_whole 197 = .ok (.ireturn, 1) := by decide +kernel
theorem dX12_compare_0 : decode cX12_compare 0 = .ok (.aload_n 0, 1) := by decide +kernel
theorem dX12_compare_1 : decode cX12_compare 1 = .ok (.getfield 7, 3) := by decide +kernel
theorem dX12_compare_4 : decode cX12_compare 4 = .ok (.iload_n 2, 1) := by decide +kernel
theorem dX12_compare_5 : decode cX12_compare 5 = .ok (.iaload, 1) := by decide +kernel
theorem dX12_compare_6 : decode cX12_compare 6 = .ok (.invokestatic 489, 3) := by decide +kernel
theorem dX12_compare_9 : decode cX12_compare 9 = .ok (.ifCond .eq 15, 3) := by decide +kernel
theorem dX12_compare_12 : decode cX12_compare 12 = .ok (.aload_n 0, 1) := by decide +kernel
theorem dX12_compare_13 : decode cX12_compare 13 = .ok (.getfield 7, 3) := by decide +kernel
theorem dX12_compare_16 : decode cX12_compare 16 = .ok (.iload_n 3, 1) := by decide +kernel
theorem dX12_compare_17 : decode cX12_compare 17 = .ok (.iaload, 1) := by decide +kernel
theorem dX12_compare_18 : decode cX12_compare 18 = .ok (.invokestatic 489, 3) := by decide +kernel
theorem dX12_compare_21 : decode cX12_compare 21 = .ok (.ifCond .ne 9, 3) := by decide +kernel
theorem dX12_compare_24 : decode cX12_compare 24 = .ok (.aload_n 0, 1) := by decide +kernel
theorem dX12_compare_25 : decode cX12_compare 25 = .ok (.iconst 2, 1) := by decide +kernel
theorem dX12_compare_26 : decode cX12_compare 26 = .ok (.invokevirtual 421, 3) := by decide +kernel
theorem dX12_compare_29 : decode cX12_compare 29 = .ok (.ireturn, 1) := by decide +kernel
theorem dX12_compare_30 : decode cX12_compare 30 = .ok (.aload_n 0, 1) := by decide +kernel
theorem dX12_compare_31 : decode cX12_compare 31 = .ok (.getfield 7, 3) := by decide +kernel
theorem dX12_compare_34 : decode cX12_compare 34 = .ok (.iload_n 2, 1) := by decide +kernel
theorem dX12_compare_35 : decode cX12_compare 35 = .ok (.iaload, 1) := by decide +kernel
theorem dX12_compare_36 : decode cX12_compare 36 = .ok (.iconst 1, 1) := by decide +kernel
theorem dX12_compare_37 : decode cX12_compare 37 = .ok (.if_icmp .eq 13, 3) := by decide +kernel
theorem dX12_compare_40 : decode cX12_compare 40 = .ok (.aload_n 0, 1) := by decide +kernel
theorem dX12_compare_41 : decode cX12_compare 41 = .ok (.getfield 7, 3) := by decide +kernel
theorem dX12_compare_44 : decode cX12_compare 44 = .ok (.iload_n 3, 1) := by decide +kernel
theorem dX12_compare_45 : decode cX12_compare 45 = .ok (.iaload, 1) := by decide +kernel
theorem dX12_compare_46 : decode cX12_compare 46 = .ok (.iconst 1, 1) := by decide +kernel
theorem dX12_compare_47 : decode cX12_compare 47 = .ok (.if_icmp .ne 103, 3) := by decide +kernel
theorem dX12_compare_50 : decode cX12_compare 50 = .ok (.aload_n 0, 1) := by decide +kernel
theorem dX12_compare_51 : decode cX12_compare 51 = .ok (.iload_n 2, 1) := by decide +kernel
theorem dX12_compare_52 : decode cX12_compare 52 = .ok (.invokevirtual 524, 3) := by decide +kernel
theorem dX12_compare_55 : decode cX12_compare 55 = .ok (.dstore 5, 2) := by decide +kernel
theorem dX12_compare_57 : decode cX12_compare 57 = .ok (.aload_n 0, 1) := by decide +kernel
theorem dX12_compare_58 : decode cX12_compare 58 = .ok (.iload_n 3, 1) := by decide +kernel
theorem dX12_compare_59 : decode cX12_compare 59 = .ok (.invokevirtual 524, 3) := by decide +kernel
theorem dX12_compare_62 : decode cX12_compare 62 = .ok (.dstore 7, 2) := by decide +kernel
theorem dX12_compare_64 : decode cX12_compare 64 = .ok (.iload_n 1, 1) := by decide +kernel
theorem dX12_compare_65 : decode cX12_compare 65 = .ok (.sipush 160, 3) := by decide +kernel
theorem dX12_compare_68 : decode cX12_compare 68 = .ok (.if_icmp .ne 19, 3) := by decide +kernel
theorem dX12_compare_71 : decode cX12_compare 71 = .ok (.dload 5, 2) := by decide +kernel
theorem dX12_compare_73 : decode cX12_compare 73 = .ok (.dload 7, 2) := by decide +kernel
theorem dX12_compare_75 : decode cX12_compare 75 = .ok (.dcmp .g, 1) := by decide +kernel
theorem dX12_compare_76 : decode cX12_compare 76 = .ok (.ifCond .ge 7, 3) := by decide +kernel
theorem dX12_compare_79 : decode cX12_compare 79 = .ok (.iconst 1, 1) := by decide +kernel
theorem dX12_compare_80 : decode cX12_compare 80 = .ok (.goto 65, 3) := by decide +kernel
theorem dX12_compare_83 : decode cX12_compare 83 = .ok (.iconst 0, 1) := by decide +kernel
theorem dX12_compare_84 : decode cX12_compare 84 = .ok (.goto 61, 3) := by decide +kernel
theorem dX12_compare_87 : decode cX12_compare 87 = .ok (.iload_n 1, 1) := by decide +kernel
theorem dX12_compare_88 : decode cX12_compare 88 = .ok (.bipush 46, 2) := by decide +kernel
theorem dX12_compare_90 : decode cX12_compare 90 = .ok (.if_icmp .ne 19, 3) := by decide +kernel
theorem dX12_compare_93 : decode cX12_compare 93 = .ok (.dload 5, 2) := by decide +kernel
theorem dX12_compare_95 : decode cX12_compare 95 = .ok (.dload 7, 2) := by decide +kernel
theorem dX12_compare_97 : decode cX12_compare 97 = .ok (.dcmp .g, 1) := by decide +kernel
theorem dX12_compare_98 : decode cX12_compare 98 = .ok (.ifCond .gt 7, 3) := by decide +kernel
theorem dX12_compare_101 : decode cX12_compare 101 = .ok (.iconst 1, 1) := by decide +kernel
theorem dX12_compare_102 : decode cX12_compare 102 = .ok (.goto 43, 3) := by decide +kernel
theorem dX12_compare_105 : decode cX12_compare 105 = .ok (.iconst 0, 1) := by decide +kernel
theorem dX12_compare_106 : decode cX12_compare 106 = .ok (.goto 39, 3) := by decide +kernel
theorem dX12_compare_109 : decode cX12_compare 109 = .ok (.iload_n 1, 1) := by decide +kernel
theorem dX12_compare_110 : decode cX12_compare 110 = .ok (.sipush 161, 3) := by decide +kernel
theorem dX12_compare_113 : decode cX12_compare 113 = .ok (.if_icmp .ne 19, 3) := by decide +kernel
theorem dX12_compare_116 : decode cX12_compare 116 = .ok (.dload 5, 2) := by decide +kernel
theorem dX12_compare_118 : decode cX12_compare 118 = .ok (.dload 7, 2) := by decide +kernel
theorem dX12_compare_120 : decode cX12_compare 120 = .ok (.dcmp .l, 1) := by decide +kernel
theorem dX12_compare_121 : decode cX12_compare 121 = .ok (.ifCond .ne 7, 3) := by decide +kernel
theorem dX12_compare_124 : decode cX12_compare 124 = .ok (.iconst 1, 1) := by decide +kernel
theorem dX12_compare_125 : decode cX12_compare 125 = .ok (.goto 20, 3) := by decide +kernel
theorem dX12_compare_128 : decode cX12_compare 128 = .ok (.iconst 0, 1) := by decide +kernel
theorem dX12_compare_129 : decode cX12_compare 129 = .ok (.goto 16, 3) := by decide +kernel
theorem dX12_compare_132 : decode cX12_compare 132 = .ok (.dload 5, 2) := by decide +kernel
theorem dX12_compare_134 : decode cX12_compare 134 = .ok (.dload 7, 2) := by decide +kernel
theorem dX12_compare_136 : decode cX12_compare 136 = .ok (.dcmp .l, 1) := by decide +kernel
theorem dX12_compare_137 : decode cX12_compare 137 = .ok (.ifCond .eq 7, 3) := by decide +kernel
theorem dX12_compare_140 : decode cX12_compare 140 = .ok (.iconst 1, 1) := by decide +kernel
theorem dX12_compare_141 : decode cX12_compare 141 = .ok (.goto 4, 3) := by decide +kernel
theorem dX12_compare_144 : decode cX12_compare 144 = .ok (.iconst 0, 1) := by decide +kernel
theorem dX12_compare_145 : decode cX12_compare 145 = .ok (.istore 4, 2) := by decide +kernel
theorem dX12_compare_147 : decode cX12_compare 147 = .ok (.goto 108, 3) := by decide +kernel
theorem dX12_compare_150 : decode cX12_compare 150 = .ok (.aload_n 0, 1) := by decide +kernel
theorem dX12_compare_151 : decode cX12_compare 151 = .ok (.getfield 16, 3) := by decide +kernel
theorem dX12_compare_154 : decode cX12_compare 154 = .ok (.bipush 12, 2) := by decide +kernel
theorem dX12_compare_156 : decode cX12_compare 156 = .ok (.iload_n 2, 1) := by decide +kernel
theorem dX12_compare_157 : decode cX12_compare 157 = .ok (.imul, 1) := by decide +kernel
theorem dX12_compare_158 : decode cX12_compare 158 = .ok (.laload, 1) := by decide +kernel
theorem dX12_compare_159 : decode cX12_compare 159 = .ok (.lstore 5, 2) := by decide +kernel
theorem dX12_compare_161 : decode cX12_compare 161 = .ok (.aload_n 0, 1) := by decide +kernel
theorem dX12_compare_162 : decode cX12_compare 162 = .ok (.getfield 16, 3) := by decide +kernel
theorem dX12_compare_165 : decode cX12_compare 165 = .ok (.bipush 12, 2) := by decide +kernel
theorem dX12_compare_167 : decode cX12_compare 167 = .ok (.iload_n 3, 1) := by decide +kernel
theorem dX12_compare_168 : decode cX12_compare 168 = .ok (.imul, 1) := by decide +kernel
theorem dX12_compare_169 : decode cX12_compare 169 = .ok (.laload, 1) := by decide +kernel
theorem dX12_compare_170 : decode cX12_compare 170 = .ok (.lstore 7, 2) := by decide +kernel
theorem dX12_compare_172 : decode cX12_compare 172 = .ok (.iload_n 1, 1) := by decide +kernel
theorem dX12_compare_173 : decode cX12_compare 173 = .ok (.sipush 160, 3) := by decide +kernel
theorem dX12_compare_176 : decode cX12_compare 176 = .ok (.if_icmp .ne 19, 3) := by decide +kernel
theorem dX12_compare_179 : decode cX12_compare 179 = .ok (.lload 5, 2) := by decide +kernel
theorem dX12_compare_181 : decode cX12_compare 181 = .ok (.lload 7, 2) := by decide +kernel
theorem dX12_compare_183 : decode cX12_compare 183 = .ok (.lcmp, 1) := by decide +kernel
theorem dX12_compare_184 : decode cX12_compare 184 = .ok (.ifCond .ge 7, 3) := by decide +kernel
theorem dX12_compare_187 : decode cX12_compare 187 = .ok (.iconst 1, 1) := by decide +kernel
theorem dX12_compare_188 : decode cX12_compare 188 = .ok (.goto 65, 3) := by decide +kernel
theorem dX12_compare_191 : decode cX12_compare 191 = .ok (.iconst 0, 1) := by decide +kernel
theorem dX12_compare_192 : decode cX12_compare 192 = .ok (.goto 61, 3) := by decide +kernel
theorem dX12_compare_195 : decode cX12_compare 195 = .ok (.iload_n 1, 1) := by decide +kernel
theorem dX12_compare_196 : decode cX12_compare 196 = .ok (.bipush 46, 2) := by decide +kernel
theorem dX12_compare_198 : decode cX12_compare 198 = .ok (.if_icmp .ne 19, 3) := by decide +kernel
theorem dX12_compare_201 : decode cX12_compare 201 = .ok (.lload 5, 2) := by decide +kernel
theorem dX12_compare_203 : decode cX12_compare 203 = .ok (.lload 7, 2) := by decide +kernel
theorem dX12_compare_205 : decode cX12_compare 205 = .ok (.lcmp, 1) := by decide +kernel
theorem dX12_compare_206 : decode cX12_compare 206 = .ok (.ifCond .gt 7, 3) := by decide +kernel
theorem dX12_compare_209 : decode cX12_compare 209 = .ok (.iconst 1, 1) := by decide +kernel
theorem dX12_compare_210 : decode cX12_compare 210 = .ok (.goto 43, 3) := by decide +kernel
theorem dX12_compare_213 : decode cX12_compare 213 = .ok (.iconst 0, 1) := by decide +kernel
theorem dX12_compare_214 : decode cX12_compare 214 = .ok (.goto 39, 3) := by decide +kernel
theorem dX12_compare_217 : decode cX12_compare 217 = .ok (.iload_n 1, 1) := by decide +kernel
theorem dX12_compare_218 : decode cX12_compare 218 = .ok (.sipush 161, 3) := by decide +kernel
theorem dX12_compare_221 : decode cX12_compare 221 = .ok (.if_icmp .ne 19, 3) := by decide +kernel
theorem dX12_compare_224 : decode cX12_compare 224 = .ok (.lload 5, 2) := by decide +kernel
theorem dX12_compare_226 : decode cX12_compare 226 = .ok (.lload 7, 2) := by decide +kernel
theorem dX12_compare_228 : decode cX12_compare 228 = .ok (.lcmp, 1) := by decide +kernel
theorem dX12_compare_229 : decode cX12_compare 229 = .ok (.ifCond .ne 7, 3) := by decide +kernel
theorem dX12_compare_232 : decode cX12_compare 232 = .ok (.iconst 1, 1) := by decide +kernel
theorem dX12_compare_233 : decode cX12_compare 233 = .ok (.goto 20, 3) := by decide +kernel
theorem dX12_compare_236 : decode cX12_compare 236 = .ok (.iconst 0, 1) := by decide +kernel
theorem dX12_compare_237 : decode cX12_compare 237 = .ok (.goto 16, 3) := by decide +kernel
theorem dX12_compare_240 : decode cX12_compare 240 = .ok (.lload 5, 2) := by decide +kernel
theorem dX12_compare_242 : decode cX12_compare 242 = .ok (.lload 7, 2) := by decide +kernel
theorem dX12_compare_244 : decode cX12_compare 244 = .ok (.lcmp, 1) := by decide +kernel
theorem dX12_compare_245 : decode cX12_compare 245 = .ok (.ifCond .eq 7, 3) := by decide +kernel
theorem dX12_compare_248 : decode cX12_compare 248 = .ok (.iconst 1, 1) := by decide +kernel
theorem dX12_compare_249 : decode cX12_compare 249 = .ok (.goto 4, 3) := by decide +kernel
theorem dX12_compare_252 : decode cX12_compare 252 = .ok (.iconst 0, 1) := by decide +kernel
theorem dX12_compare_253 : decode cX12_compare 253 = .ok (.istore 4, 2) := by decide +kernel
theorem dX12_compare_255 : decode cX12_compare 255 = .ok (.aload_n 0, 1) := by decide +kernel
theorem dX12_compare_256 : decode cX12_compare 256 = .ok (.iload 4, 2) := by decide +kernel
theorem dX12_compare_258 : decode cX12_compare 258 = .ok (.ifCond .eq 7, 3) := by decide +kernel
theorem dX12_compare_261 : decode cX12_compare 261 = .ok (.lconst 1, 1) := by decide +kernel
theorem dX12_compare_262 : decode cX12_compare 262 = .ok (.goto 4, 3) := by decide +kernel
theorem dX12_compare_265 : decode cX12_compare 265 = .ok (.lconst 0, 1) := by decide +kernel
theorem dX12_compare_266 : decode cX12_compare 266 = .ok (.invokevirtual 454, 3) := by decide +kernel
theorem dX12_compare_269 : decode cX12_compare 269 = .ok (.ireturn, 1) := by decide +kernel
theorem dX12_item_0 : decode cX12_item 0 = .ok (.aload_n 0, 1) := by decide +kernel
theorem dX12_item_1 : decode cX12_item 1 = .ok (.getfield 7, 3) := by decide +kernel
theorem dX12_item_4 : decode cX12_item 4 = .ok (.iload_n 1, 1) := by decide +kernel
theorem dX12_item_5 : decode cX12_item 5 = .ok (.iaload, 1) := by decide +kernel
theorem dX12_item_6 : decode cX12_item 6 = .ok (.invokestatic 548, 3) := by decide +kernel
theorem dX12_item_9 : decode cX12_item 9 = .ok (.ifCond .eq 12, 3) := by decide +kernel
theorem dX12_item_12 : decode cX12_item 12 = .ok (.aload_n 0, 1) := by decide +kernel
theorem dX12_item_13 : decode cX12_item 13 = .ok (.getfield 7, 3) := by decide +kernel
theorem dX12_item_16 : decode cX12_item 16 = .ok (.iload_n 2, 1) := by decide +kernel
theorem dX12_item_17 : decode cX12_item 17 = .ok (.iaload, 1) := by decide +kernel
theorem dX12_item_18 : decode cX12_item 18 = .ok (.ifCond .eq 9, 3) := by decide +kernel
theorem dX12_item_21 : decode cX12_item 21 = .ok (.aload_n 0, 1) := by decide +kernel
theorem dX12_item_22 : decode cX12_item 22 = .ok (.iconst 2, 1) := by decide +kernel
theorem dX12_item_23 : decode cX12_item 23 = .ok (.invokevirtual 421, 3) := by decide +kernel
theorem dX12_item_26 : decode cX12_item 26 = .ok (.ireturn, 1) := by decide +kernel
theorem dX12_item_27 : decode cX12_item 27 = .ok (.aload_n 0, 1) := by decide +kernel
theorem dX12_item_28 : decode cX12_item 28 = .ok (.getfield 16, 3) := by decide +kernel
theorem dX12_item_31 : decode cX12_item 31 = .ok (.bipush 12, 2) := by decide +kernel
theorem dX12_item_33 : decode cX12_item 33 = .ok (.iload_n 2, 1) := by decide +kernel
theorem dX12_item_34 : decode cX12_item 34 = .ok (.imul, 1) := by decide +kernel
theorem dX12_item_35 : decode cX12_item 35 = .ok (.laload, 1) := by decide +kernel
theorem dX12_item_36 : decode cX12_item 36 = .ok (.lstore_n 3, 1) := by decide +kernel
theorem dX12_item_37 : decode cX12_item 37 = .ok (.lload_n 3, 1) := by decide +kernel
theorem dX12_item_38 : decode cX12_item 38 = .ok (.lconst 0, 1) := by decide +kernel
theorem dX12_item_39 : decode cX12_item 39 = .ok (.aload_n 0, 1) := by decide +kernel
theorem dX12_item_40 : decode cX12_item 40 = .ok (.getfield 13, 3) := by decide +kernel
theorem dX12_item_43 : decode cX12_item 43 = .ok (.iload_n 1, 1) := by decide +kernel
theorem dX12_item_44 : decode cX12_item 44 = .ok (.iaload, 1) := by decide +kernel
theorem dX12_item_45 : decode cX12_item 45 = .ok (.i2l, 1) := by decide +kernel
theorem dX12_item_46 : decode cX12_item 46 = .ok (.lconst 1, 1) := by decide +kernel
theorem dX12_item_47 : decode cX12_item 47 = .ok (.lsub, 1) := by decide +kernel
theorem dX12_item_48 : decode cX12_item 48 = .ok (.invokestatic 551, 3) := by decide +kernel
theorem dX12_item_51 : decode cX12_item 51 = .ok (.ifCond .ne 9, 3) := by decide +kernel
theorem dX12_item_54 : decode cX12_item 54 = .ok (.aload_n 0, 1) := by decide +kernel
theorem dX12_item_55 : decode cX12_item 55 = .ok (.iconst 3, 1) := by decide +kernel
theorem dX12_item_56 : decode cX12_item 56 = .ok (.invokevirtual 421, 3) := by decide +kernel
theorem dX12_item_59 : decode cX12_item 59 = .ok (.ireturn, 1) := by decide +kernel
theorem dX12_item_60 : decode cX12_item 60 = .ok (.bipush 12, 2) := by decide +kernel
theorem dX12_item_62 : decode cX12_item 62 = .ok (.iload_n 1, 1) := by decide +kernel
theorem dX12_item_63 : decode cX12_item 63 = .ok (.imul, 1) := by decide +kernel
theorem dX12_item_64 : decode cX12_item 64 = .ok (.lload_n 3, 1) := by decide +kernel
theorem dX12_item_65 : decode cX12_item 65 = .ok (.l2i, 1) := by decide +kernel
theorem dX12_item_66 : decode cX12_item 66 = .ok (.iadd, 1) := by decide +kernel
theorem dX12_item_67 : decode cX12_item 67 = .ok (.istore 5, 2) := by decide +kernel
theorem dX12_item_69 : decode cX12_item 69 = .ok (.aload_n 0, 1) := by decide +kernel
theorem dX12_item_70 : decode cX12_item 70 = .ok (.getfield 7, 3) := by decide +kernel
theorem dX12_item_73 : decode cX12_item 73 = .ok (.iload_n 1, 1) := by decide +kernel
theorem dX12_item_74 : decode cX12_item 74 = .ok (.iaload, 1) := by decide +kernel
theorem dX12_item_75 : decode cX12_item 75 = .ok (.iconst 4, 1) := by decide +kernel
theorem dX12_item_76 : decode cX12_item 76 = .ok (.if_icmp .ne 15, 3) := by decide +kernel
theorem dX12_item_79 : decode cX12_item 79 = .ok (.aload_n 0, 1) := by decide +kernel
theorem dX12_item_80 : decode cX12_item 80 = .ok (.aload_n 0, 1) := by decide +kernel
theorem dX12_item_81 : decode cX12_item 81 = .ok (.getfield 20, 3) := by decide +kernel
theorem dX12_item_84 : decode cX12_item 84 = .ok (.iload 5, 2) := by decide +kernel
theorem dX12_item_86 : decode cX12_item 86 = .ok (.daload, 1) := by decide +kernel
theorem dX12_item_87 : decode cX12_item 87 = .ok (.invokevirtual 461, 3) := by decide +kernel
theorem dX12_item_90 : decode cX12_item 90 = .ok (.ireturn, 1) := by decide +kernel
theorem dX12_item_91 : decode cX12_item 91 = .ok (.aload_n 0, 1) := by decide +kernel
theorem dX12_item_92 : decode cX12_item 92 = .ok (.getfield 7, 3) := by decide +kernel
theorem dX12_item_95 : decode cX12_item 95 = .ok (.iload_n 1, 1) := by decide +kernel
theorem dX12_item_96 : decode cX12_item 96 = .ok (.iaload, 1) := by decide +kernel
theorem dX12_item_97 : decode cX12_item 97 = .ok (.invokestatic 186, 3) := by decide +kernel
theorem dX12_item_100 : decode cX12_item 100 = .ok (.ifCond .ne 15, 3) := by decide +kernel
theorem dX12_item_103 : decode cX12_item 103 = .ok (.aload_n 0, 1) := by decide +kernel
theorem dX12_item_104 : decode cX12_item 104 = .ok (.aload_n 0, 1) := by decide +kernel
theorem dX12_item_105 : decode cX12_item 105 = .ok (.getfield 16, 3) := by decide +kernel
theorem dX12_item_108 : decode cX12_item 108 = .ok (.iload 5, 2) := by decide +kernel
theorem dX12_item_110 : decode cX12_item 110 = .ok (.laload, 1) := by decide +kernel
theorem dX12_item_111 : decode cX12_item 111 = .ok (.invokevirtual 454, 3) := by decide +kernel
theorem dX12_item_114 : decode cX12_item 114 = .ok (.ireturn, 1) := by decide +kernel
theorem dX12_item_115 : decode cX12_item 115 = .ok (.aload_n 0, 1) := by decide +kernel
theorem dX12_item_116 : decode cX12_item 116 = .ok (.getfield 16, 3) := by decide +kernel
theorem dX12_item_119 : decode cX12_item 119 = .ok (.iload 5, 2) := by decide +kernel
theorem dX12_item_121 : decode cX12_item 121 = .ok (.laload, 1) := by decide +kernel
theorem dX12_item_122 : decode cX12_item 122 = .ok (.lconst 0, 1) := by decide +kernel
theorem dX12_item_123 : decode cX12_item 123 = .ok (.lcmp, 1) := by decide +kernel
theorem dX12_item_124 : decode cX12_item 124 = .ok (.ifCond .ge 9, 3) := by decide +kernel
theorem dX12_item_127 : decode cX12_item 127 = .ok (.aload_n 0, 1) := by decide +kernel
theorem dX12_item_128 : decode cX12_item 128 = .ok (.iconst 1, 1) := by decide +kernel
theorem dX12_item_129 : decode cX12_item 129 = .ok (.invokevirtual 421, 3) := by decide +kernel
theorem dX12_item_132 : decode cX12_item 132 = .ok (.ireturn, 1) := by decide +kernel
theorem dX12_item_133 : decode cX12_item 133 = .ok (.aload_n 0, 1) := by decide +kernel
theorem dX12_item_134 : decode cX12_item 134 = .ok (.bipush 8, 2) := by decide +kernel
theorem dX12_item_136 : decode cX12_item 136 = .ok (.iconst 0, 1) := by decide +kernel
theorem dX12_item_137 : decode cX12_item 137 = .ok (.invokevirtual 192, 3) := by decide +kernel
theorem dX12_item_140 : decode cX12_item 140 = .ok (.istore 6, 2) := by decide +kernel
theorem dX12_item_142 : decode cX12_item 142 = .ok (.aload_n 0, 1) := by decide +kernel
theorem dX12_item_143 : decode cX12_item 143 = .ok (.getfield 16, 3) := by decide +kernel
theorem dX12_item_146 : decode cX12_item 146 = .ok (.bipush 12, 2) := by decide +kernel
theorem dX12_item_148 : decode cX12_item 148 = .ok (.iload 6, 2) := by decide +kernel
theorem dX12_item_150 : decode cX12_item 150 = .ok (.imul, 1) := by decide +kernel
theorem dX12_item_151 : decode cX12_item 151 = .ok (.aload_n 0, 1) := by decide +kernel
theorem dX12_item_152 : decode cX12_item 152 = .ok (.getfield 16, 3) := by decide +kernel
theorem dX12_item_155 : decode cX12_item 155 = .ok (.iload 5, 2) := by decide +kernel
theorem dX12_item_157 : decode cX12_item 157 = .ok (.laload, 1) := by decide +kernel
theorem dX12_item_158 : decode cX12_item 158 = .ok (.lastore, 1) := by decide +kernel
theorem dX12_item_159 : decode cX12_item 159 = .ok (.iload 6, 2) := by decide +kernel
theorem dX12_item_161 : decode cX12_item 161 = .ok (.ireturn, 1) := by decide +kernel
theorem dX12_isAbove_0 : decode cX12_isAbove 0 = .ok (.dload_n 0, 1) := by decide +kernel
theorem dX12_isAbove_1 : decode cX12_isAbove 1 = .ok (.dload_n 0, 1) := by decide +kernel
theorem dX12_isAbove_2 : decode cX12_isAbove 2 = .ok (.dcmp .l, 1) := by decide +kernel
theorem dX12_isAbove_3 : decode cX12_isAbove 3 = .ok (.ifCond .ne 9, 3) := by decide +kernel
theorem dX12_isAbove_6 : decode cX12_isAbove 6 = .ok (.dload_n 2, 1) := by decide +kernel
theorem dX12_isAbove_7 : decode cX12_isAbove 7 = .ok (.dload_n 2, 1) := by decide +kernel
theorem dX12_isAbove_8 : decode cX12_isAbove 8 = .ok (.dcmp .l, 1) := by decide +kernel
theorem dX12_isAbove_9 : decode cX12_isAbove 9 = .ok (.ifCond .eq 21, 3) := by decide +kernel
theorem dX12_isAbove_12 : decode cX12_isAbove 12 = .ok (.dload_n 0, 1) := by decide +kernel
theorem dX12_isAbove_13 : decode cX12_isAbove 13 = .ok (.dload_n 0, 1) := by decide +kernel
theorem dX12_isAbove_14 : decode cX12_isAbove 14 = .ok (.dcmp .l, 1) := by decide +kernel
theorem dX12_isAbove_15 : decode cX12_isAbove 15 = .ok (.ifCond .eq 13, 3) := by decide +kernel
theorem dX12_isAbove_18 : decode cX12_isAbove 18 = .ok (.dload_n 2, 1) := by decide +kernel
theorem dX12_isAbove_19 : decode cX12_isAbove 19 = .ok (.dload_n 2, 1) := by decide +kernel
theorem dX12_isAbove_20 : decode cX12_isAbove 20 = .ok (.dcmp .l, 1) := by decide +kernel
theorem dX12_isAbove_21 : decode cX12_isAbove 21 = .ok (.ifCond .ne 7, 3) := by decide +kernel
theorem dX12_isAbove_24 : decode cX12_isAbove 24 = .ok (.iconst 1, 1) := by decide +kernel
theorem dX12_isAbove_25 : decode cX12_isAbove 25 = .ok (.goto 4, 3) := by decide +kernel
theorem dX12_isAbove_28 : decode cX12_isAbove 28 = .ok (.iconst 0, 1) := by decide +kernel
theorem dX12_isAbove_29 : decode cX12_isAbove 29 = .ok (.ireturn, 1) := by decide +kernel
theorem dX12_isAbove_30 : decode cX12_isAbove 30 = .ok (.dload_n 0, 1) := by decide +kernel
theorem dX12_isAbove_31 : decode cX12_isAbove 31 = .ok (.dload_n 2, 1) := by decide +kernel
theorem dX12_isAbove_32 : decode cX12_isAbove 32 = .ok (.dcmp .l, 1) := by decide +kernel
theorem dX12_isAbove_33 : decode cX12_isAbove 33 = .ok (.ifCond .gt 23, 3) := by decide +kernel
theorem dX12_isAbove_36 : decode cX12_isAbove 36 = .ok (.dload_n 0, 1) := by decide +kernel
theorem dX12_isAbove_37 : decode cX12_isAbove 37 = .ok (.dload_n 2, 1) := by decide +kernel
theorem dX12_isAbove_38 : decode cX12_isAbove 38 = .ok (.dcmp .l, 1) := by decide +kernel
theorem dX12_isAbove_39 : decode cX12_isAbove 39 = .ok (.ifCond .ne 21, 3) := by decide +kernel
theorem dX12_isAbove_42 : decode cX12_isAbove 42 = .ok (.dload_n 2, 1) := by decide +kernel
theorem dX12_isAbove_43 : decode cX12_isAbove 43 = .ok (.invokestatic 555, 3) := by decide +kernel
theorem dX12_isAbove_46 : decode cX12_isAbove 46 = .ok (.ifCond .eq 14, 3) := by decide +kernel
theorem dX12_isAbove_49 : decode cX12_isAbove 49 = .ok (.dload_n 0, 1) := by decide +kernel
theorem dX12_isAbove_50 : decode cX12_isAbove 50 = .ok (.invokestatic 555, 3) := by decide +kernel
theorem dX12_isAbove_53 : decode cX12_isAbove 53 = .ok (.ifCond .ne 7, 3) := by decide +kernel
theorem dX12_isAbove_56 : decode cX12_isAbove 56 = .ok (.iconst 1, 1) := by decide +kernel
theorem dX12_isAbove_57 : decode cX12_isAbove 57 = .ok (.goto 4, 3) := by decide +kernel
theorem dX12_isAbove_60 : decode cX12_isAbove 60 = .ok (.iconst 0, 1) := by decide +kernel
theorem dX12_isAbove_61 : decode cX12_isAbove 61 = .ok (.ireturn, 1) := by decide +kernel
theorem dX12_extreme_0 : decode cX12_extreme 0 = .ok (.aload_n 0, 1) := by decide +kernel
theorem dX12_extreme_1 : decode cX12_extreme 1 = .ok (.getfield 7, 3) := by decide +kernel
theorem dX12_extreme_4 : decode cX12_extreme 4 = .ok (.iload_n 2, 1) := by decide +kernel
theorem dX12_extreme_5 : decode cX12_extreme 5 = .ok (.iaload, 1) := by decide +kernel
theorem dX12_extreme_6 : decode cX12_extreme 6 = .ok (.invokestatic 489, 3) := by decide +kernel
theorem dX12_extreme_9 : decode cX12_extreme 9 = .ok (.ifCond .eq 15, 3) := by decide +kernel
theorem dX12_extreme_12 : decode cX12_extreme 12 = .ok (.aload_n 0, 1) := by decide +kernel
theorem dX12_extreme_13 : decode cX12_extreme 13 = .ok (.getfield 7, 3) := by decide +kernel
theorem dX12_extreme_16 : decode cX12_extreme 16 = .ok (.iload_n 3, 1) := by decide +kernel
theorem dX12_extreme_17 : decode cX12_extreme 17 = .ok (.iaload, 1) := by decide +kernel
theorem dX12_extreme_18 : decode cX12_extreme 18 = .ok (.invokestatic 489, 3) := by decide +kernel
theorem dX12_extreme_21 : decode cX12_extreme 21 = .ok (.ifCond .ne 9, 3) := by decide +kernel
theorem dX12_extreme_24 : decode cX12_extreme 24 = .ok (.aload_n 0, 1) := by decide +kernel
theorem dX12_extreme_25 : decode cX12_extreme 25 = .ok (.iconst 2, 1) := by decide +kernel
theorem dX12_extreme_26 : decode cX12_extreme 26 = .ok (.invokevirtual 421, 3) := by decide +kernel
theorem dX12_extreme_29 : decode cX12_extreme 29 = .ok (.ireturn, 1) := by decide +kernel
theorem dX12_extreme_30 : decode cX12_extreme 30 = .ok (.aload_n 0, 1) := by decide +kernel
theorem dX12_extreme_31 : decode cX12_extreme 31 = .ok (.getfield 7, 3) := by decide +kernel
theorem dX12_extreme_34 : decode cX12_extreme 34 = .ok (.iload_n 2, 1) := by decide +kernel
theorem dX12_extreme_35 : decode cX12_extreme 35 = .ok (.iaload, 1) := by decide +kernel
theorem dX12_extreme_36 : decode cX12_extreme 36 = .ok (.iconst 1, 1) := by decide +kernel
theorem dX12_extreme_37 : decode cX12_extreme 37 = .ok (.if_icmp .eq 13, 3) := by decide +kernel
theorem dX12_extreme_40 : decode cX12_extreme 40 = .ok (.aload_n 0, 1) := by decide +kernel
theorem dX12_extreme_41 : decode cX12_extreme 41 = .ok (.getfield 7, 3) := by decide +kernel
theorem dX12_extreme_44 : decode cX12_extreme 44 = .ok (.iload_n 3, 1) := by decide +kernel
theorem dX12_extreme_45 : decode cX12_extreme 45 = .ok (.iaload, 1) := by decide +kernel
theorem dX12_extreme_46 : decode cX12_extreme 46 = .ok (.iconst 1, 1) := by decide +kernel
theorem dX12_extreme_47 : decode cX12_extreme 47 = .ok (.if_icmp .ne 74, 3) := by decide +kernel
theorem dX12_extreme_50 : decode cX12_extreme 50 = .ok (.aload_n 0, 1) := by decide +kernel
theorem dX12_extreme_51 : decode cX12_extreme 51 = .ok (.iload_n 2, 1) := by decide +kernel
theorem dX12_extreme_52 : decode cX12_extreme 52 = .ok (.invokevirtual 524, 3) := by decide +kernel
theorem dX12_extreme_55 : decode cX12_extreme 55 = .ok (.dstore 4, 2) := by decide +kernel
theorem dX12_extreme_57 : decode cX12_extreme 57 = .ok (.aload_n 0, 1) := by decide +kernel
theorem dX12_extreme_58 : decode cX12_extreme 58 = .ok (.iload_n 3, 1) := by decide +kernel
theorem dX12_extreme_59 : decode cX12_extreme 59 = .ok (.invokevirtual 524, 3) := by decide +kernel
theorem dX12_extreme_62 : decode cX12_extreme 62 = .ok (.dstore 6, 2) := by decide +kernel
theorem dX12_extreme_64 : decode cX12_extreme 64 = .ok (.dload 4, 2) := by decide +kernel
theorem dX12_extreme_66 : decode cX12_extreme 66 = .ok (.dload 4, 2) := by decide +kernel
theorem dX12_extreme_68 : decode cX12_extreme 68 = .ok (.dcmp .l, 1) := by decide +kernel
theorem dX12_extreme_69 : decode cX12_extreme 69 = .ok (.ifCond .ne 11, 3) := by decide +kernel
theorem dX12_extreme_72 : decode cX12_extreme 72 = .ok (.dload 6, 2) := by decide +kernel
theorem dX12_extreme_74 : decode cX12_extreme 74 = .ok (.dload 6, 2) := by decide +kernel
theorem dX12_extreme_76 : decode cX12_extreme 76 = .ok (.dcmp .l, 1) := by decide +kernel
theorem dX12_extreme_77 : decode cX12_extreme 77 = .ok (.ifCond .eq 11, 3) := by decide +kernel
theorem dX12_extreme_80 : decode cX12_extreme 80 = .ok (.aload_n 0, 1) := by decide +kernel
theorem dX12_extreme_81 : decode cX12_extreme 81 = .ok (.ldc2_w 220, 3) := by decide +kernel
theorem dX12_extreme_84 : decode cX12_extreme 84 = .ok (.invokevirtual 461, 3) := by decide +kernel
theorem dX12_extreme_87 : decode cX12_extreme 87 = .ok (.ireturn, 1) := by decide +kernel
theorem dX12_extreme_88 : decode cX12_extreme 88 = .ok (.aload_n 0, 1) := by decide +kernel
theorem dX12_extreme_89 : decode cX12_extreme 89 = .ok (.dload 4, 2) := by decide +kernel
theorem dX12_extreme_91 : decode cX12_extreme 91 = .ok (.dload 6, 2) := by decide +kernel
theorem dX12_extreme_93 : decode cX12_extreme 93 = .ok (.invokestatic 558, 3) := by decide +kernel
theorem dX12_extreme_96 : decode cX12_extreme 96 = .ok (.iload_n 1, 1) := by decide +kernel
theorem dX12_extreme_97 : decode cX12_extreme 97 = .ok (.bipush 12, 2) := by decide +kernel
theorem dX12_extreme_99 : decode cX12_extreme 99 = .ok (.if_icmp .ne 7, 3) := by decide +kernel
theorem dX12_extreme_102 : decode cX12_extreme 102 = .ok (.iconst 1, 1) := by decide +kernel
theorem dX12_extreme_103 : decode cX12_extreme 103 = .ok (.goto 4, 3) := by decide +kernel
theorem dX12_extreme_106 : decode cX12_extreme 106 = .ok (.iconst 0, 1) := by decide +kernel
theorem dX12_extreme_107 : decode cX12_extreme 107 = .ok (.if_icmp .ne 8, 3) := by decide +kernel
theorem dX12_extreme_110 : decode cX12_extreme 110 = .ok (.dload 4, 2) := by decide +kernel
theorem dX12_extreme_112 : decode cX12_extreme 112 = .ok (.goto 5, 3) := by decide +kernel
theorem dX12_extreme_115 : decode cX12_extreme 115 = .ok (.dload 6, 2) := by decide +kernel
theorem dX12_extreme_117 : decode cX12_extreme 117 = .ok (.invokevirtual 461, 3) := by decide +kernel
theorem dX12_extreme_120 : decode cX12_extreme 120 = .ok (.ireturn, 1) := by decide +kernel
theorem dX12_extreme_121 : decode cX12_extreme 121 = .ok (.aload_n 0, 1) := by decide +kernel
theorem dX12_extreme_122 : decode cX12_extreme 122 = .ok (.getfield 16, 3) := by decide +kernel
theorem dX12_extreme_125 : decode cX12_extreme 125 = .ok (.bipush 12, 2) := by decide +kernel
theorem dX12_extreme_127 : decode cX12_extreme 127 = .ok (.iload_n 2, 1) := by decide +kernel
theorem dX12_extreme_128 : decode cX12_extreme 128 = .ok (.imul, 1) := by decide +kernel
theorem dX12_extreme_129 : decode cX12_extreme 129 = .ok (.laload, 1) := by decide +kernel
theorem dX12_extreme_130 : decode cX12_extreme 130 = .ok (.lstore 4, 2) := by decide +kernel
theorem dX12_extreme_132 : decode cX12_extreme 132 = .ok (.aload_n 0, 1) := by decide +kernel
theorem dX12_extreme_133 : decode cX12_extreme 133 = .ok (.getfield 16, 3) := by decide +kernel
theorem dX12_extreme_136 : decode cX12_extreme 136 = .ok (.bipush 12, 2) := by decide +kernel
theorem dX12_extreme_138 : decode cX12_extreme 138 = .ok (.iload_n 3, 1) := by decide +kernel
theorem dX12_extreme_139 : decode cX12_extreme 139 = .ok (.imul, 1) := by decide +kernel
theorem dX12_extreme_140 : decode cX12_extreme 140 = .ok (.laload, 1) := by decide +kernel
theorem dX12_extreme_141 : decode cX12_extreme 141 = .ok (.lstore 6, 2) := by decide +kernel
theorem dX12_extreme_143 : decode cX12_extreme 143 = .ok (.aload_n 0, 1) := by decide +kernel
theorem dX12_extreme_144 : decode cX12_extreme 144 = .ok (.lload 4, 2) := by decide +kernel
theorem dX12_extreme_146 : decode cX12_extreme 146 = .ok (.lload 6, 2) := by decide +kernel
theorem dX12_extreme_148 : decode cX12_extreme 148 = .ok (.lcmp, 1) := by decide +kernel
theorem dX12_extreme_149 : decode cX12_extreme 149 = .ok (.ifCond .le 7, 3) := by decide +kernel
theorem dX12_extreme_152 : decode cX12_extreme 152 = .ok (.iconst 1, 1) := by decide +kernel
theorem dX12_extreme_153 : decode cX12_extreme 153 = .ok (.goto 4, 3) := by decide +kernel
theorem dX12_extreme_156 : decode cX12_extreme 156 = .ok (.iconst 0, 1) := by decide +kernel
theorem dX12_extreme_157 : decode cX12_extreme 157 = .ok (.iload_n 1, 1) := by decide +kernel
theorem dX12_extreme_158 : decode cX12_extreme 158 = .ok (.bipush 12, 2) := by decide +kernel
theorem dX12_extreme_160 : decode cX12_extreme 160 = .ok (.if_icmp .ne 7, 3) := by decide +kernel
theorem dX12_extreme_163 : decode cX12_extreme 163 = .ok (.iconst 1, 1) := by decide +kernel
theorem dX12_extreme_164 : decode cX12_extreme 164 = .ok (.goto 4, 3) := by decide +kernel
theorem dX12_extreme_167 : decode cX12_extreme 167 = .ok (.iconst 0, 1) := by decide +kernel
theorem dX12_extreme_168 : decode cX12_extreme 168 = .ok (.if_icmp .ne 8, 3) := by decide +kernel
theorem dX12_extreme_171 : decode cX12_extreme 171 = .ok (.lload 4, 2) := by decide +kernel
theorem dX12_extreme_173 : decode cX12_extreme 173 = .ok (.goto 5, 3) := by decide +kernel
theorem dX12_extreme_176 : decode cX12_extreme 176 = .ok (.lload 6, 2) := by decide +kernel
theorem dX12_extreme_178 : decode cX12_extreme 178 = .ok (.invokevirtual 454, 3) := by decide +kernel
theorem dX12_extreme_181 : decode cX12_extreme 181 = .ok (.ireturn, 1) := by decide +kernel
theorem dX12_last_0 : decode cX12_last 0 = .ok (.aload_n 0, 1) := by decide +kernel
theorem dX12_last_1 : decode cX12_last 1 = .ok (.getfield 7, 3) := by decide +kernel
theorem dX12_last_4 : decode cX12_last 4 = .ok (.iload_n 1, 1) := by decide +kernel
theorem dX12_last_5 : decode cX12_last 5 = .ok (.iaload, 1) := by decide +kernel
theorem dX12_last_6 : decode cX12_last 6 = .ok (.invokestatic 548, 3) := by decide +kernel
theorem dX12_last_9 : decode cX12_last 9 = .ok (.ifCond .eq 12, 3) := by decide +kernel
theorem dX12_last_12 : decode cX12_last 12 = .ok (.aload_n 0, 1) := by decide +kernel
theorem dX12_last_13 : decode cX12_last 13 = .ok (.getfield 7, 3) := by decide +kernel
theorem dX12_last_16 : decode cX12_last 16 = .ok (.iload_n 2, 1) := by decide +kernel
theorem dX12_last_17 : decode cX12_last 17 = .ok (.iaload, 1) := by decide +kernel
theorem dX12_last_18 : decode cX12_last 18 = .ok (.ifCond .eq 9, 3) := by decide +kernel
theorem dX12_last_21 : decode cX12_last 21 = .ok (.aload_n 0, 1) := by decide +kernel
theorem dX12_last_22 : decode cX12_last 22 = .ok (.iconst 2, 1) := by decide +kernel
theorem dX12_last_23 : decode cX12_last 23 = .ok (.invokevirtual 421, 3) := by decide +kernel
theorem dX12_last_26 : decode cX12_last 26 = .ok (.ireturn, 1) := by decide +kernel
theorem dX12_last_27 : decode cX12_last 27 = .ok (.aload_n 0, 1) := by decide +kernel
theorem dX12_last_28 : decode cX12_last 28 = .ok (.getfield 16, 3) := by decide +kernel
theorem dX12_last_31 : decode cX12_last 31 = .ok (.bipush 12, 2) := by decide +kernel
theorem dX12_last_33 : decode cX12_last 33 = .ok (.iload_n 2, 1) := by decide +kernel
theorem dX12_last_34 : decode cX12_last 34 = .ok (.imul, 1) := by decide +kernel
theorem dX12_last_35 : decode cX12_last 35 = .ok (.laload, 1) := by decide +kernel
theorem dX12_last_36 : decode cX12_last 36 = .ok (.lstore_n 3, 1) := by decide +kernel
theorem dX12_last_37 : decode cX12_last 37 = .ok (.lload_n 3, 1) := by decide +kernel
theorem dX12_last_38 : decode cX12_last 38 = .ok (.lconst 0, 1) := by decide +kernel
theorem dX12_last_39 : decode cX12_last 39 = .ok (.lcmp, 1) := by decide +kernel
theorem dX12_last_40 : decode cX12_last 40 = .ok (.ifCond .ge 9, 3) := by decide +kernel
theorem dX12_last_43 : decode cX12_last 43 = .ok (.aload_n 0, 1) := by decide +kernel
theorem dX12_last_44 : decode cX12_last 44 = .ok (.iconst 4, 1) := by decide +kernel
theorem dX12_last_45 : decode cX12_last 45 = .ok (.invokevirtual 421, 3) := by decide +kernel
theorem dX12_last_48 : decode cX12_last 48 = .ok (.ireturn, 1) := by decide +kernel
theorem dX12_last_49 : decode cX12_last 49 = .ok (.lload_n 3, 1) := by decide +kernel
theorem dX12_last_50 : decode cX12_last 50 = .ok (.aload_n 0, 1) := by decide +kernel
theorem dX12_last_51 : decode cX12_last 51 = .ok (.getfield 13, 3) := by decide +kernel
theorem dX12_last_54 : decode cX12_last 54 = .ok (.iload_n 1, 1) := by decide +kernel
theorem dX12_last_55 : decode cX12_last 55 = .ok (.iaload, 1) := by decide +kernel
theorem dX12_last_56 : decode cX12_last 56 = .ok (.i2l, 1) := by decide +kernel
theorem dX12_last_57 : decode cX12_last 57 = .ok (.lcmp, 1) := by decide +kernel
theorem dX12_last_58 : decode cX12_last 58 = .ok (.ifCond .le 9, 3) := by decide +kernel
theorem dX12_last_61 : decode cX12_last 61 = .ok (.aload_n 0, 1) := by decide +kernel
theorem dX12_last_62 : decode cX12_last 62 = .ok (.iconst 3, 1) := by decide +kernel
theorem dX12_last_63 : decode cX12_last 63 = .ok (.invokevirtual 421, 3) := by decide +kernel
theorem dX12_last_66 : decode cX12_last 66 = .ok (.ireturn, 1) := by decide +kernel
theorem dX12_last_67 : decode cX12_last 67 = .ok (.aload_n 0, 1) := by decide +kernel
theorem dX12_last_68 : decode cX12_last 68 = .ok (.aload_n 0, 1) := by decide +kernel
theorem dX12_last_69 : decode cX12_last 69 = .ok (.getfield 7, 3) := by decide +kernel
theorem dX12_last_72 : decode cX12_last 72 = .ok (.iload_n 1, 1) := by decide +kernel
theorem dX12_last_73 : decode cX12_last 73 = .ok (.iaload, 1) := by decide +kernel
theorem dX12_last_74 : decode cX12_last 74 = .ok (.lload_n 3, 1) := by decide +kernel
theorem dX12_last_75 : decode cX12_last 75 = .ok (.l2i, 1) := by decide +kernel
theorem dX12_last_76 : decode cX12_last 76 = .ok (.invokevirtual 192, 3) := by decide +kernel
theorem dX12_last_79 : decode cX12_last 79 = .ok (.istore 5, 2) := by decide +kernel
theorem dX12_last_81 : decode cX12_last 81 = .ok (.aload_n 0, 1) := by decide +kernel
theorem dX12_last_82 : decode cX12_last 82 = .ok (.iload 5, 2) := by decide +kernel
theorem dX12_last_84 : decode cX12_last 84 = .ok (.iconst 0, 1) := by decide +kernel
theorem dX12_last_85 : decode cX12_last 85 = .ok (.iload_n 1, 1) := by decide +kernel
theorem dX12_last_86 : decode cX12_last 86 = .ok (.aload_n 0, 1) := by decide +kernel
theorem dX12_last_87 : decode cX12_last 87 = .ok (.getfield 13, 3) := by decide +kernel
theorem dX12_last_90 : decode cX12_last 90 = .ok (.iload_n 1, 1) := by decide +kernel
theorem dX12_last_91 : decode cX12_last 91 = .ok (.iaload, 1) := by decide +kernel
theorem dX12_last_92 : decode cX12_last 92 = .ok (.lload_n 3, 1) := by decide +kernel
theorem dX12_last_93 : decode cX12_last 93 = .ok (.l2i, 1) := by decide +kernel
theorem dX12_last_94 : decode cX12_last 94 = .ok (.isub, 1) := by decide +kernel
theorem dX12_last_95 : decode cX12_last 95 = .ok (.lload_n 3, 1) := by decide +kernel
theorem dX12_last_96 : decode cX12_last 96 = .ok (.l2i, 1) := by decide +kernel
theorem dX12_last_97 : decode cX12_last 97 = .ok (.invokevirtual 562, 3) := by decide +kernel
theorem dX12_last_100 : decode cX12_last 100 = .ok (.iload 5, 2) := by decide +kernel
theorem dX12_last_102 : decode cX12_last 102 = .ok (.ireturn, 1) := by decide +kernel
theorem dX12_put_0 : decode cX12_put 0 = .ok (.iconst 0, 1) := by decide +kernel
theorem dX12_put_1 : decode cX12_put 1 = .ok (.istore 6, 2) := by decide +kernel
theorem dX12_put_3 : decode cX12_put 3 = .ok (.iload 6, 2) := by decide +kernel
theorem dX12_put_5 : decode cX12_put 5 = .ok (.iload 5, 2) := by decide +kernel
theorem dX12_put_7 : decode cX12_put 7 = .ok (.if_icmp .ge 67, 3) := by decide +kernel
theorem dX12_put_10 : decode cX12_put 10 = .ok (.aload_n 0, 1) := by decide +kernel
theorem dX12_put_11 : decode cX12_put 11 = .ok (.getfield 16, 3) := by decide +kernel
theorem dX12_put_14 : decode cX12_put 14 = .ok (.bipush 12, 2) := by decide +kernel
theorem dX12_put_16 : decode cX12_put 16 = .ok (.iload_n 1, 1) := by decide +kernel
theorem dX12_put_17 : decode cX12_put 17 = .ok (.imul, 1) := by decide +kernel
theorem dX12_put_18 : decode cX12_put 18 = .ok (.iload_n 2, 1) := by decide +kernel
theorem dX12_put_19 : decode cX12_put 19 = .ok (.iadd, 1) := by decide +kernel
theorem dX12_put_20 : decode cX12_put 20 = .ok (.iload 6, 2) := by decide +kernel
theorem dX12_put_22 : decode cX12_put 22 = .ok (.iadd, 1) := by decide +kernel
theorem dX12_put_23 : decode cX12_put 23 = .ok (.aload_n 0, 1) := by decide +kernel
theorem dX12_put_24 : decode cX12_put 24 = .ok (.getfield 16, 3) := by decide +kernel
theorem dX12_put_27 : decode cX12_put 27 = .ok (.bipush 12, 2) := by decide +kernel
theorem dX12_put_29 : decode cX12_put 29 = .ok (.iload_n 3, 1) := by decide +kernel
theorem dX12_put_30 : decode cX12_put 30 = .ok (.imul, 1) := by decide +kernel
theorem dX12_put_31 : decode cX12_put 31 = .ok (.iload 4, 2) := by decide +kernel
theorem dX12_put_33 : decode cX12_put 33 = .ok (.iadd, 1) := by decide +kernel
theorem dX12_put_34 : decode cX12_put 34 = .ok (.iload 6, 2) := by decide +kernel
theorem dX12_put_36 : decode cX12_put 36 = .ok (.iadd, 1) := by decide +kernel
theorem dX12_put_37 : decode cX12_put 37 = .ok (.laload, 1) := by decide +kernel
theorem dX12_put_38 : decode cX12_put 38 = .ok (.lastore, 1) := by decide +kernel
theorem dX12_put_39 : decode cX12_put 39 = .ok (.aload_n 0, 1) := by decide +kernel
theorem dX12_put_40 : decode cX12_put 40 = .ok (.getfield 20, 3) := by decide +kernel
theorem dX12_put_43 : decode cX12_put 43 = .ok (.bipush 12, 2) := by decide +kernel
theorem dX12_put_45 : decode cX12_put 45 = .ok (.iload_n 1, 1) := by decide +kernel
theorem dX12_put_46 : decode cX12_put 46 = .ok (.imul, 1) := by decide +kernel
theorem dX12_put_47 : decode cX12_put 47 = .ok (.iload_n 2, 1) := by decide +kernel
theorem dX12_put_48 : decode cX12_put 48 = .ok (.iadd, 1) := by decide +kernel
theorem dX12_put_49 : decode cX12_put 49 = .ok (.iload 6, 2) := by decide +kernel
theorem dX12_put_51 : decode cX12_put 51 = .ok (.iadd, 1) := by decide +kernel
theorem dX12_put_52 : decode cX12_put 52 = .ok (.aload_n 0, 1) := by decide +kernel
theorem dX12_put_53 : decode cX12_put 53 = .ok (.getfield 20, 3) := by decide +kernel
theorem dX12_put_56 : decode cX12_put 56 = .ok (.bipush 12, 2) := by decide +kernel
theorem dX12_put_58 : decode cX12_put 58 = .ok (.iload_n 3, 1) := by decide +kernel
theorem dX12_put_59 : decode cX12_put 59 = .ok (.imul, 1) := by decide +kernel
theorem dX12_put_60 : decode cX12_put 60 = .ok (.iload 4, 2) := by decide +kernel
theorem dX12_put_62 : decode cX12_put 62 = .ok (.iadd, 1) := by decide +kernel
theorem dX12_put_63 : decode cX12_put 63 = .ok (.iload 6, 2) := by decide +kernel
theorem dX12_put_65 : decode cX12_put 65 = .ok (.iadd, 1) := by decide +kernel
theorem dX12_put_66 : decode cX12_put 66 = .ok (.daload, 1) := by decide +kernel
theorem dX12_put_67 : decode cX12_put 67 = .ok (.dastore, 1) := by decide +kernel
theorem dX12_put_68 : decode cX12_put 68 = .ok (.iinc 6 1, 3) := by decide +kernel
theorem dX12_put_71 : decode cX12_put 71 = .ok (.goto (-68), 3) := by decide +kernel
theorem dX12_put_74 : decode cX12_put 74 = .ok (.return_, 1) := by decide +kernel
theorem dX12_belongs_0 : decode cX12_belongs 0 = .ok (.lload_n 1, 1) := by decide +kernel
theorem dX12_belongs_1 : decode cX12_belongs 1 = .ok (.lconst 0, 1) := by decide +kernel
theorem dX12_belongs_2 : decode cX12_belongs 2 = .ok (.lcmp, 1) := by decide +kernel
theorem dX12_belongs_3 : decode cX12_belongs 3 = .ok (.ifCond .lt 29, 3) := by decide +kernel
theorem dX12_belongs_6 : decode cX12_belongs 6 = .ok (.iload_n 3, 1) := by decide +kernel
theorem dX12_belongs_7 : decode cX12_belongs 7 = .ok (.iconst 5, 1) := by decide +kernel
theorem dX12_belongs_8 : decode cX12_belongs 8 = .ok (.if_icmp .eq 24, 3) := by decide +kernel
theorem dX12_belongs_11 : decode cX12_belongs 11 = .ok (.aload_n 0, 1) := by decide +kernel
theorem dX12_belongs_12 : decode cX12_belongs 12 = .ok (.getfield 97, 3) := by decide +kernel
theorem dX12_belongs_15 : decode cX12_belongs 15 = .ok (.lload_n 1, 1) := by decide +kernel
theorem dX12_belongs_16 : decode cX12_belongs 16 = .ok (.l2i, 1) := by decide +kernel
theorem dX12_belongs_17 : decode cX12_belongs 17 = .ok (.baload, 1) := by decide +kernel
theorem dX12_belongs_18 : decode cX12_belongs 18 = .ok (.iload_n 3, 1) := by decide +kernel
theorem dX12_belongs_19 : decode cX12_belongs 19 = .ok (.bipush 6, 2) := by decide +kernel
theorem dX12_belongs_21 : decode cX12_belongs 21 = .ok (.if_icmp .ne 7, 3) := by decide +kernel
theorem dX12_belongs_24 : decode cX12_belongs 24 = .ok (.iconst 1, 1) := by decide +kernel
theorem dX12_belongs_25 : decode cX12_belongs 25 = .ok (.goto 4, 3) := by decide +kernel
theorem dX12_belongs_28 : decode cX12_belongs 28 = .ok (.iconst 0, 1) := by decide +kernel
theorem dX12_belongs_29 : decode cX12_belongs 29 = .ok (.if_icmp .ne 7, 3) := by decide +kernel
theorem dX12_belongs_32 : decode cX12_belongs 32 = .ok (.iconst 1, 1) := by decide +kernel
theorem dX12_belongs_33 : decode cX12_belongs 33 = .ok (.goto 4, 3) := by decide +kernel
theorem dX12_belongs_36 : decode cX12_belongs 36 = .ok (.iconst 0, 1) := by decide +kernel
theorem dX12_belongs_37 : decode cX12_belongs 37 = .ok (.ireturn, 1) := by decide +kernel
theorem dX12_join_0 : decode cX12_join 0 = .ok (.aload_n 0, 1) := by decide +kernel
theorem dX12_join_1 : decode cX12_join 1 = .ok (.getfield 7, 3) := by decide +kernel
theorem dX12_join_4 : decode cX12_join 4 = .ok (.iload_n 1, 1) := by decide +kernel
theorem dX12_join_5 : decode cX12_join 5 = .ok (.iaload, 1) := by decide +kernel
theorem dX12_join_6 : decode cX12_join 6 = .ok (.invokestatic 548, 3) := by decide +kernel
theorem dX12_join_9 : decode cX12_join 9 = .ok (.ifCond .eq 15, 3) := by decide +kernel
theorem dX12_join_12 : decode cX12_join 12 = .ok (.aload_n 0, 1) := by decide +kernel
theorem dX12_join_13 : decode cX12_join 13 = .ok (.getfield 7, 3) := by decide +kernel
theorem dX12_join_16 : decode cX12_join 16 = .ok (.iload_n 2, 1) := by decide +kernel
theorem dX12_join_17 : decode cX12_join 17 = .ok (.iaload, 1) := by decide +kernel
theorem dX12_join_18 : decode cX12_join 18 = .ok (.invokestatic 548, 3) := by decide +kernel
theorem dX12_join_21 : decode cX12_join 21 = .ok (.ifCond .ne 9, 3) := by decide +kernel
theorem dX12_join_24 : decode cX12_join 24 = .ok (.aload_n 0, 1) := by decide +kernel
theorem dX12_join_25 : decode cX12_join 25 = .ok (.iconst 2, 1) := by decide +kernel
theorem dX12_join_26 : decode cX12_join 26 = .ok (.invokevirtual 421, 3) := by decide +kernel
theorem dX12_join_29 : decode cX12_join 29 = .ok (.ireturn, 1) := by decide +kernel
theorem dX12_join_30 : decode cX12_join 30 = .ok (.aload_n 0, 1) := by decide +kernel
theorem dX12_join_31 : decode cX12_join 31 = .ok (.getfield 13, 3) := by decide +kernel
theorem dX12_join_34 : decode cX12_join 34 = .ok (.iload_n 1, 1) := by decide +kernel
theorem dX12_join_35 : decode cX12_join 35 = .ok (.iaload, 1) := by decide +kernel
theorem dX12_join_36 : decode cX12_join 36 = .ok (.aload_n 0, 1) := by decide +kernel
theorem dX12_join_37 : decode cX12_join 37 = .ok (.getfield 13, 3) := by decide +kernel
theorem dX12_join_40 : decode cX12_join 40 = .ok (.iload_n 2, 1) := by decide +kernel
theorem dX12_join_41 : decode cX12_join 41 = .ok (.iaload, 1) := by decide +kernel
theorem dX12_join_42 : decode cX12_join 42 = .ok (.iadd, 1) := by decide +kernel
theorem dX12_join_43 : decode cX12_join 43 = .ok (.bipush 12, 2) := by decide +kernel
theorem dX12_join_45 : decode cX12_join 45 = .ok (.if_icmp .le 9, 3) := by decide +kernel
theorem dX12_join_48 : decode cX12_join 48 = .ok (.aload_n 0, 1) := by decide +kernel
theorem dX12_join_49 : decode cX12_join 49 = .ok (.iconst 4, 1) := by decide +kernel
theorem dX12_join_50 : decode cX12_join 50 = .ok (.invokevirtual 421, 3) := by decide +kernel
theorem dX12_join_53 : decode cX12_join 53 = .ok (.ireturn, 1) := by decide +kernel
theorem dX12_join_54 : decode cX12_join 54 = .ok (.aload_n 0, 1) := by decide +kernel
theorem dX12_join_55 : decode cX12_join 55 = .ok (.getfield 7, 3) := by decide +kernel
theorem dX12_join_58 : decode cX12_join 58 = .ok (.iload_n 1, 1) := by decide +kernel
theorem dX12_join_59 : decode cX12_join 59 = .ok (.iaload, 1) := by decide +kernel
theorem dX12_join_60 : decode cX12_join 60 = .ok (.aload_n 0, 1) := by decide +kernel
theorem dX12_join_61 : decode cX12_join 61 = .ok (.getfield 7, 3) := by decide +kernel
theorem dX12_join_64 : decode cX12_join 64 = .ok (.iload_n 2, 1) := by decide +kernel
theorem dX12_join_65 : decode cX12_join 65 = .ok (.iaload, 1) := by decide +kernel
theorem dX12_join_66 : decode cX12_join 66 = .ok (.if_icmp .eq 33, 3) := by decide +kernel
theorem dX12_join_69 : decode cX12_join 69 = .ok (.aload_n 0, 1) := by decide +kernel
theorem dX12_join_70 : decode cX12_join 70 = .ok (.getfield 7, 3) := by decide +kernel
theorem dX12_join_73 : decode cX12_join 73 = .ok (.iload_n 1, 1) := by decide +kernel
theorem dX12_join_74 : decode cX12_join 74 = .ok (.iaload, 1) := by decide +kernel
theorem dX12_join_75 : decode cX12_join 75 = .ok (.invokestatic 186, 3) := by decide +kernel
theorem dX12_join_78 : decode cX12_join 78 = .ok (.ifCond .eq 15, 3) := by decide +kernel
theorem dX12_join_81 : decode cX12_join 81 = .ok (.aload_n 0, 1) := by decide +kernel
theorem dX12_join_82 : decode cX12_join 82 = .ok (.getfield 7, 3) := by decide +kernel
theorem dX12_join_85 : decode cX12_join 85 = .ok (.iload_n 2, 1) := by decide +kernel
theorem dX12_join_86 : decode cX12_join 86 = .ok (.iaload, 1) := by decide +kernel
theorem dX12_join_87 : decode cX12_join 87 = .ok (.invokestatic 186, 3) := by decide +kernel
theorem dX12_join_90 : decode cX12_join 90 = .ok (.ifCond .ne 9, 3) := by decide +kernel
theorem dX12_join_93 : decode cX12_join 93 = .ok (.aload_n 0, 1) := by decide +kernel
theorem dX12_join_94 : decode cX12_join 94 = .ok (.iconst 5, 1) := by decide +kernel
theorem dX12_join_95 : decode cX12_join 95 = .ok (.invokevirtual 421, 3) := by decide +kernel
theorem dX12_join_98 : decode cX12_join 98 = .ok (.ireturn, 1) := by decide +kernel
theorem dX12_join_99 : decode cX12_join 99 = .ok (.iconst 0, 1) := by decide +kernel
theorem dX12_join_100 : decode cX12_join 100 = .ok (.istore_n 3, 1) := by decide +kernel
theorem dX12_join_101 : decode cX12_join 101 = .ok (.iload_n 3, 1) := by decide +kernel
theorem dX12_join_102 : decode cX12_join 102 = .ok (.aload_n 0, 1) := by decide +kernel
theorem dX12_join_103 : decode cX12_join 103 = .ok (.getfield 13, 3) := by decide +kernel
theorem dX12_join_106 : decode cX12_join 106 = .ok (.iload_n 2, 1) := by decide +kernel
theorem dX12_join_107 : decode cX12_join 107 = .ok (.iaload, 1) := by decide +kernel
theorem dX12_join_108 : decode cX12_join 108 = .ok (.if_icmp .ge 51, 3) := by decide +kernel
theorem dX12_join_111 : decode cX12_join 111 = .ok (.aload_n 0, 1) := by decide +kernel
theorem dX12_join_112 : decode cX12_join 112 = .ok (.getfield 7, 3) := by decide +kernel
theorem dX12_join_115 : decode cX12_join 115 = .ok (.iload_n 1, 1) := by decide +kernel
theorem dX12_join_116 : decode cX12_join 116 = .ok (.iaload, 1) := by decide +kernel
theorem dX12_join_117 : decode cX12_join 117 = .ok (.invokestatic 186, 3) := by decide +kernel
theorem dX12_join_120 : decode cX12_join 120 = .ok (.ifCond .eq 39, 3) := by decide +kernel
theorem dX12_join_123 : decode cX12_join 123 = .ok (.aload_n 0, 1) := by decide +kernel
theorem dX12_join_124 : decode cX12_join 124 = .ok (.aload_n 0, 1) := by decide +kernel
theorem dX12_join_125 : decode cX12_join 125 = .ok (.getfield 16, 3) := by decide +kernel
theorem dX12_join_128 : decode cX12_join 128 = .ok (.bipush 12, 2) := by decide +kernel
theorem dX12_join_130 : decode cX12_join 130 = .ok (.iload_n 2, 1) := by decide +kernel
theorem dX12_join_131 : decode cX12_join 131 = .ok (.imul, 1) := by decide +kernel
theorem dX12_join_132 : decode cX12_join 132 = .ok (.iload_n 3, 1) := by decide +kernel
theorem dX12_join_133 : decode cX12_join 133 = .ok (.iadd, 1) := by decide +kernel
theorem dX12_join_134 : decode cX12_join 134 = .ok (.laload, 1) := by decide +kernel
theorem dX12_join_135 : decode cX12_join 135 = .ok (.aload_n 0, 1) := by decide +kernel
theorem dX12_join_136 : decode cX12_join 136 = .ok (.getfield 7, 3) := by decide +kernel
theorem dX12_join_139 : decode cX12_join 139 = .ok (.iload_n 1, 1) := by decide +kernel
theorem dX12_join_140 : decode cX12_join 140 = .ok (.iaload, 1) := by decide +kernel
theorem dX12_join_141 : decode cX12_join 141 = .ok (.invokevirtual 566, 3) := by decide +kernel
theorem dX12_join_144 : decode cX12_join 144 = .ok (.ifCond .ne 9, 3) := by decide +kernel
theorem dX12_join_147 : decode cX12_join 147 = .ok (.aload_n 0, 1) := by decide +kernel
theorem dX12_join_148 : decode cX12_join 148 = .ok (.iconst 5, 1) := by decide +kernel
theorem dX12_join_149 : decode cX12_join 149 = .ok (.invokevirtual 421, 3) := by decide +kernel
theorem dX12_join_152 : decode cX12_join 152 = .ok (.ireturn, 1) := by decide +kernel
theorem dX12_join_153 : decode cX12_join 153 = .ok (.iinc 3 1, 3) := by decide +kernel
theorem dX12_join_156 : decode cX12_join 156 = .ok (.goto (-55), 3) := by decide +kernel
theorem dX12_join_159 : decode cX12_join 159 = .ok (.aload_n 0, 1) := by decide +kernel
theorem dX12_join_160 : decode cX12_join 160 = .ok (.aload_n 0, 1) := by decide +kernel
theorem dX12_join_161 : decode cX12_join 161 = .ok (.getfield 7, 3) := by decide +kernel
theorem dX12_join_164 : decode cX12_join 164 = .ok (.iload_n 1, 1) := by decide +kernel
theorem dX12_join_165 : decode cX12_join 165 = .ok (.iaload, 1) := by decide +kernel
theorem dX12_join_166 : decode cX12_join 166 = .ok (.aload_n 0, 1) := by decide +kernel
theorem dX12_join_167 : decode cX12_join 167 = .ok (.getfield 13, 3) := by decide +kernel
theorem dX12_join_170 : decode cX12_join 170 = .ok (.iload_n 1, 1) := by decide +kernel
theorem dX12_join_171 : decode cX12_join 171 = .ok (.iaload, 1) := by decide +kernel
theorem dX12_join_172 : decode cX12_join 172 = .ok (.aload_n 0, 1) := by decide +kernel
theorem dX12_join_173 : decode cX12_join 173 = .ok (.getfield 13, 3) := by decide +kernel
theorem dX12_join_176 : decode cX12_join 176 = .ok (.iload_n 2, 1) := by decide +kernel
theorem dX12_join_177 : decode cX12_join 177 = .ok (.iaload, 1) := by decide +kernel
theorem dX12_join_178 : decode cX12_join 178 = .ok (.iadd, 1) := by decide +kernel
theorem dX12_join_179 : decode cX12_join 179 = .ok (.invokevirtual 192, 3) := by decide +kernel
theorem dX12_join_182 : decode cX12_join 182 = .ok (.istore_n 3, 1) := by decide +kernel
theorem dX12_join_183 : decode cX12_join 183 = .ok (.aload_n 0, 1) := by decide +kernel
theorem dX12_join_184 : decode cX12_join 184 = .ok (.iload_n 3, 1) := by decide +kernel
theorem dX12_join_185 : decode cX12_join 185 = .ok (.iconst 0, 1) := by decide +kernel
theorem dX12_join_186 : decode cX12_join 186 = .ok (.iload_n 1, 1) := by decide +kernel
theorem dX12_join_187 : decode cX12_join 187 = .ok (.iconst 0, 1) := by decide +kernel
theorem dX12_join_188 : decode cX12_join 188 = .ok (.aload_n 0, 1) := by decide +kernel
theorem dX12_join_189 : decode cX12_join 189 = .ok (.getfield 13, 3) := by decide +kernel
theorem dX12_join_192 : decode cX12_join 192 = .ok (.iload_n 1, 1) := by decide +kernel
theorem dX12_join_193 : decode cX12_join 193 = .ok (.iaload, 1) := by decide +kernel
theorem dX12_join_194 : decode cX12_join 194 = .ok (.invokevirtual 562, 3) := by decide +kernel
theorem dX12_join_197 : decode cX12_join 197 = .ok (.aload_n 0, 1) := by decide +kernel
theorem dX12_join_198 : decode cX12_join 198 = .ok (.iload_n 3, 1) := by decide +kernel
theorem dX12_join_199 : decode cX12_join 199 = .ok (.aload_n 0, 1) := by decide +kernel
theorem dX12_join_200 : decode cX12_join 200 = .ok (.getfield 13, 3) := by decide +kernel
theorem dX12_join_203 : decode cX12_join 203 = .ok (.iload_n 1, 1) := by decide +kernel
theorem dX12_join_204 : decode cX12_join 204 = .ok (.iaload, 1) := by decide +kernel
theorem dX12_join_205 : decode cX12_join 205 = .ok (.iload_n 2, 1) := by decide +kernel
theorem dX12_join_206 : decode cX12_join 206 = .ok (.iconst 0, 1) := by decide +kernel
theorem dX12_join_207 : decode cX12_join 207 = .ok (.aload_n 0, 1) := by decide +kernel
theorem dX12_join_208 : decode cX12_join 208 = .ok (.getfield 13, 3) := by decide +kernel
theorem dX12_join_211 : decode cX12_join 211 = .ok (.iload_n 2, 1) := by decide +kernel
theorem dX12_join_212 : decode cX12_join 212 = .ok (.iaload, 1) := by decide +kernel
theorem dX12_join_213 : decode cX12_join 213 = .ok (.invokevirtual 562, 3) := by decide +kernel
theorem dX12_join_216 : decode cX12_join 216 = .ok (.iload_n 3, 1) := by decide +kernel
theorem dX12_join_217 : decode cX12_join 217 = .ok (.ireturn, 1) := by decide +kernel
theorem dX12_with_0 : decode cX12_with 0 = .ok (.aload_n 0, 1) := by decide +kernel
theorem dX12_with_1 : decode cX12_with 1 = .ok (.getfield 7, 3) := by decide +kernel
theorem dX12_with_4 : decode cX12_with 4 = .ok (.iload_n 1, 1) := by decide +kernel
theorem dX12_with_5 : decode cX12_with 5 = .ok (.iaload, 1) := by decide +kernel
theorem dX12_with_6 : decode cX12_with 6 = .ok (.istore 4, 2) := by decide +kernel
theorem dX12_with_8 : decode cX12_with 8 = .ok (.iload 4, 2) := by decide +kernel
theorem dX12_with_10 : decode cX12_with 10 = .ok (.iconst 2, 1) := by decide +kernel
theorem dX12_with_11 : decode cX12_with 11 = .ok (.if_icmp .eq 9, 3) := by decide +kernel
theorem dX12_with_14 : decode cX12_with 14 = .ok (.iload 4, 2) := by decide +kernel
theorem dX12_with_16 : decode cX12_with 16 = .ok (.iconst 3, 1) := by decide +kernel
theorem dX12_with_17 : decode cX12_with 17 = .ok (.if_icmp .ne 20, 3) := by decide +kernel
theorem dX12_with_20 : decode cX12_with 20 = .ok (.aload_n 0, 1) := by decide +kernel
theorem dX12_with_21 : decode cX12_with 21 = .ok (.getfield 7, 3) := by decide +kernel
theorem dX12_with_24 : decode cX12_with 24 = .ok (.iload_n 3, 1) := by decide +kernel
theorem dX12_with_25 : decode cX12_with 25 = .ok (.iaload, 1) := by decide +kernel
theorem dX12_with_26 : decode cX12_with 26 = .ok (.ifCond .ne 7, 3) := by decide +kernel
theorem dX12_with_29 : decode cX12_with 29 = .ok (.iconst 1, 1) := by decide +kernel
theorem dX12_with_30 : decode cX12_with 30 = .ok (.goto 41, 3) := by decide +kernel
theorem dX12_with_33 : decode cX12_with 33 = .ok (.iconst 0, 1) := by decide +kernel
theorem dX12_with_34 : decode cX12_with 34 = .ok (.goto 37, 3) := by decide +kernel
theorem dX12_with_37 : decode cX12_with 37 = .ok (.iload 4, 2) := by decide +kernel
theorem dX12_with_39 : decode cX12_with 39 = .ok (.iconst 4, 1) := by decide +kernel
theorem dX12_with_40 : decode cX12_with 40 = .ok (.if_icmp .ne 15, 3) := by decide +kernel
theorem dX12_with_43 : decode cX12_with 43 = .ok (.aload_n 0, 1) := by decide +kernel
theorem dX12_with_44 : decode cX12_with 44 = .ok (.getfield 7, 3) := by decide +kernel
theorem dX12_with_47 : decode cX12_with 47 = .ok (.iload_n 3, 1) := by decide +kernel
theorem dX12_with_48 : decode cX12_with 48 = .ok (.iaload, 1) := by decide +kernel
theorem dX12_with_49 : decode cX12_with 49 = .ok (.invokestatic 489, 3) := by decide +kernel
theorem dX12_with_52 : decode cX12_with 52 = .ok (.goto 19, 3) := by decide +kernel
theorem dX12_with_55 : decode cX12_with 55 = .ok (.aload_n 0, 1) := by decide +kernel
theorem dX12_with_56 : decode cX12_with 56 = .ok (.getfield 7, 3) := by decide +kernel
theorem dX12_with_59 : decode cX12_with 59 = .ok (.iload_n 3, 1) := by decide +kernel
theorem dX12_with_60 : decode cX12_with 60 = .ok (.iaload, 1) := by decide +kernel
theorem dX12_with_61 : decode cX12_with 61 = .ok (.bipush 8, 2) := by decide +kernel
theorem dX12_with_63 : decode cX12_with 63 = .ok (.if_icmp .ne 7, 3) := by decide +kernel
theorem dX12_with_66 : decode cX12_with 66 = .ok (.iconst 1, 1) := by decide +kernel
theorem dX12_with_67 : decode cX12_with 67 = .ok (.goto 4, 3) := by decide +kernel
theorem dX12_with_70 : decode cX12_with 70 = .ok (.iconst 0, 1) := by decide +kernel
theorem dX12_with_71 : decode cX12_with 71 = .ok (.istore 5, 2) := by decide +kernel
theorem dX12_with_73 : decode cX12_with 73 = .ok (.iload 4, 2) := by decide +kernel
theorem dX12_with_75 : decode cX12_with 75 = .ok (.invokestatic 548, 3) := by decide +kernel
theorem dX12_with_78 : decode cX12_with 78 = .ok (.ifCond .eq 17, 3) := by decide +kernel
theorem dX12_with_81 : decode cX12_with 81 = .ok (.aload_n 0, 1) := by decide +kernel
theorem dX12_with_82 : decode cX12_with 82 = .ok (.getfield 7, 3) := by decide +kernel
theorem dX12_with_85 : decode cX12_with 85 = .ok (.iload_n 2, 1) := by decide +kernel
theorem dX12_with_86 : decode cX12_with 86 = .ok (.iaload, 1) := by decide +kernel
theorem dX12_with_87 : decode cX12_with 87 = .ok (.ifCond .ne 8, 3) := by decide +kernel
theorem dX12_with_90 : decode cX12_with 90 = .ok (.iload 5, 2) := by decide +kernel
theorem dX12_with_92 : decode cX12_with 92 = .ok (.ifCond .ne 9, 3) := by decide +kernel
theorem dX12_with_95 : decode cX12_with 95 = .ok (.aload_n 0, 1) := by decide +kernel
theorem dX12_with_96 : decode cX12_with 96 = .ok (.iconst 2, 1) := by decide +kernel
theorem dX12_with_97 : decode cX12_with 97 = .ok (.invokevirtual 421, 3) := by decide +kernel
theorem dX12_with_100 : decode cX12_with 100 = .ok (.ireturn, 1) := by decide +kernel
theorem dX12_with_101 : decode cX12_with 101 = .ok (.aload_n 0, 1) := by decide +kernel
theorem dX12_with_102 : decode cX12_with 102 = .ok (.getfield 16, 3) := by decide +kernel
theorem dX12_with_105 : decode cX12_with 105 = .ok (.bipush 12, 2) := by decide +kernel
theorem dX12_with_107 : decode cX12_with 107 = .ok (.iload_n 2, 1) := by decide +kernel
theorem dX12_with_108 : decode cX12_with 108 = .ok (.imul, 1) := by decide +kernel
theorem dX12_with_109 : decode cX12_with 109 = .ok (.laload, 1) := by decide +kernel
theorem dX12_with_110 : decode cX12_with 110 = .ok (.lstore 6, 2) := by decide +kernel
theorem dX12_with_112 : decode cX12_with 112 = .ok (.lload 6, 2) := by decide +kernel
theorem dX12_with_114 : decode cX12_with 114 = .ok (.lconst 0, 1) := by decide +kernel
theorem dX12_with_115 : decode cX12_with 115 = .ok (.aload_n 0, 1) := by decide +kernel
theorem dX12_with_116 : decode cX12_with 116 = .ok (.getfield 13, 3) := by decide +kernel
theorem dX12_with_119 : decode cX12_with 119 = .ok (.iload_n 1, 1) := by decide +kernel
theorem dX12_with_120 : decode cX12_with 120 = .ok (.iaload, 1) := by decide +kernel
theorem dX12_with_121 : decode cX12_with 121 = .ok (.i2l, 1) := by decide +kernel
theorem dX12_with_122 : decode cX12_with 122 = .ok (.lconst 1, 1) := by decide +kernel
theorem dX12_with_123 : decode cX12_with 123 = .ok (.lsub, 1) := by decide +kernel
theorem dX12_with_124 : decode cX12_with 124 = .ok (.invokestatic 551, 3) := by decide +kernel
theorem dX12_with_127 : decode cX12_with 127 = .ok (.ifCond .ne 9, 3) := by decide +kernel
theorem dX12_with_130 : decode cX12_with 130 = .ok (.aload_n 0, 1) := by decide +kernel
theorem dX12_with_131 : decode cX12_with 131 = .ok (.iconst 3, 1) := by decide +kernel
theorem dX12_with_132 : decode cX12_with 132 = .ok (.invokevirtual 421, 3) := by decide +kernel
theorem dX12_with_135 : decode cX12_with 135 = .ok (.ireturn, 1) := by decide +kernel
theorem dX12_with_136 : decode cX12_with 136 = .ok (.iload 4, 2) := by decide +kernel
theorem dX12_with_138 : decode cX12_with 138 = .ok (.invokestatic 186, 3) := by decide +kernel
theorem dX12_with_141 : decode cX12_with 141 = .ok (.ifCond .eq 27, 3) := by decide +kernel
theorem dX12_with_144 : decode cX12_with 144 = .ok (.aload_n 0, 1) := by decide +kernel
theorem dX12_with_145 : decode cX12_with 145 = .ok (.aload_n 0, 1) := by decide +kernel
theorem dX12_with_146 : decode cX12_with 146 = .ok (.getfield 16, 3) := by decide +kernel
theorem dX12_with_149 : decode cX12_with 149 = .ok (.bipush 12, 2) := by decide +kernel
theorem dX12_with_151 : decode cX12_with 151 = .ok (.iload_n 3, 1) := by decide +kernel
theorem dX12_with_152 : decode cX12_with 152 = .ok (.imul, 1) := by decide +kernel
theorem dX12_with_153 : decode cX12_with 153 = .ok (.laload, 1) := by decide +kernel
theorem dX12_with_154 : decode cX12_with 154 = .ok (.iload 4, 2) := by decide +kernel
theorem dX12_with_156 : decode cX12_with 156 = .ok (.invokevirtual 566, 3) := by decide +kernel
theorem dX12_with_159 : decode cX12_with 159 = .ok (.ifCond .ne 9, 3) := by decide +kernel
theorem dX12_with_162 : decode cX12_with 162 = .ok (.aload_n 0, 1) := by decide +kernel
theorem dX12_with_163 : decode cX12_with 163 = .ok (.iconst 5, 1) := by decide +kernel
theorem dX12_with_164 : decode cX12_with 164 = .ok (.invokevirtual 421, 3) := by decide +kernel
theorem dX12_with_167 : decode cX12_with 167 = .ok (.ireturn, 1) := by decide +kernel
theorem dX12_with_168 : decode cX12_with 168 = .ok (.aload_n 0, 1) := by decide +kernel
theorem dX12_with_169 : decode cX12_with 169 = .ok (.iload 4, 2) := by decide +kernel
theorem dX12_with_171 : decode cX12_with 171 = .ok (.aload_n 0, 1) := by decide +kernel
theorem dX12_with_172 : decode cX12_with 172 = .ok (.getfield 13, 3) := by decide +kernel
theorem dX12_with_175 : decode cX12_with 175 = .ok (.iload_n 1, 1) := by decide +kernel
theorem dX12_with_176 : decode cX12_with 176 = .ok (.iaload, 1) := by decide +kernel
theorem dX12_with_177 : decode cX12_with 177 = .ok (.invokevirtual 192, 3) := by decide +kernel
theorem dX12_with_180 : decode cX12_with 180 = .ok (.istore 8, 2) := by decide +kernel
theorem dX12_with_182 : decode cX12_with 182 = .ok (.aload_n 0, 1) := by decide +kernel
theorem dX12_with_183 : decode cX12_with 183 = .ok (.iload 8, 2) := by decide +kernel
theorem dX12_with_185 : decode cX12_with 185 = .ok (.iconst 0, 1) := by decide +kernel
theorem dX12_with_186 : decode cX12_with 186 = .ok (.iload_n 1, 1) := by decide +kernel
theorem dX12_with_187 : decode cX12_with 187 = .ok (.iconst 0, 1) := by decide +kernel
theorem dX12_with_188 : decode cX12_with 188 = .ok (.aload_n 0, 1) := by decide +kernel
theorem dX12_with_189 : decode cX12_with 189 = .ok (.getfield 13, 3) := by decide +kernel
theorem dX12_with_192 : decode cX12_with 192 = .ok (.iload_n 1, 1) := by decide +kernel
theorem dX12_with_193 : decode cX12_with 193 = .ok (.iaload, 1) := by decide +kernel
theorem dX12_with_194 : decode cX12_with 194 = .ok (.invokevirtual 562, 3) := by decide +kernel
theorem dX12_with_197 : decode cX12_with 197 = .ok (.bipush 12, 2) := by decide +kernel
theorem dX12_with_199 : decode cX12_with 199 = .ok (.iload 8, 2) := by decide +kernel
theorem dX12_with_201 : decode cX12_with 201 = .ok (.imul, 1) := by decide +kernel
theorem dX12_with_202 : decode cX12_with 202 = .ok (.lload 6, 2) := by decide +kernel
theorem dX12_with_204 : decode cX12_with 204 = .ok (.l2i, 1) := by decide +kernel
theorem dX12_with_205 : decode cX12_with 205 = .ok (.iadd, 1) := by decide +kernel
theorem dX12_with_206 : decode cX12_with 206 = .ok (.istore 9, 2) := by decide +kernel
theorem dX12_with_208 : decode cX12_with 208 = .ok (.iload 4, 2) := by decide +kernel
theorem dX12_with_210 : decode cX12_with 210 = .ok (.iconst 4, 1) := by decide +kernel
