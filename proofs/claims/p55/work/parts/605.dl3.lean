theorem dL_isOfficer_23 : decode cL_isOfficer 23 = .ok (.ifCond .eq 66, 3) := by decide +kernel
theorem dL_isOfficer_26 : decode cL_isOfficer 26 = .ok (.aload_n 0, 1) := by decide +kernel
theorem dL_isOfficer_27 : decode cL_isOfficer 27 = .ok (.iload 5, 2) := by decide +kernel
theorem dL_isOfficer_29 : decode cL_isOfficer 29 = .ok (.invokestatic 219, 3) := by decide +kernel
theorem dL_isOfficer_32 : decode cL_isOfficer 32 = .ok (.iload_n 1, 1) := by decide +kernel
theorem dL_isOfficer_33 : decode cL_isOfficer 33 = .ok (.if_icmp .ne 7, 3) := by decide +kernel
theorem dL_isOfficer_36 : decode cL_isOfficer 36 = .ok (.iconst 1, 1) := by decide +kernel
theorem dL_isOfficer_37 : decode cL_isOfficer 37 = .ok (.goto 4, 3) := by decide +kernel
theorem dL_isOfficer_40 : decode cL_isOfficer 40 = .ok (.iconst 0, 1) := by decide +kernel
theorem dL_isOfficer_41 : decode cL_isOfficer 41 = .ok (.istore 6, 2) := by decide +kernel
theorem dL_isOfficer_43 : decode cL_isOfficer 43 = .ok (.iload 4, 2) := by decide +kernel
theorem dL_isOfficer_45 : decode cL_isOfficer 45 = .ok (.iload 6, 2) := by decide +kernel
theorem dL_isOfficer_47 : decode cL_isOfficer 47 = .ok (.ifCond .eq 7, 3) := by decide +kernel
theorem dL_isOfficer_50 : decode cL_isOfficer 50 = .ok (.iconst 1, 1) := by decide +kernel
theorem dL_isOfficer_51 : decode cL_isOfficer 51 = .ok (.goto 4, 3) := by decide +kernel
theorem dL_isOfficer_54 : decode cL_isOfficer 54 = .ok (.iconst 0, 1) := by decide +kernel
theorem dL_isOfficer_55 : decode cL_isOfficer 55 = .ok (.iadd, 1) := by decide +kernel
theorem dL_isOfficer_56 : decode cL_isOfficer 56 = .ok (.istore 4, 2) := by decide +kernel
theorem dL_isOfficer_58 : decode cL_isOfficer 58 = .ok (.iload_n 3, 1) := by decide +kernel
theorem dL_isOfficer_59 : decode cL_isOfficer 59 = .ok (.iload 6, 2) := by decide +kernel
theorem dL_isOfficer_61 : decode cL_isOfficer 61 = .ok (.ifCond .eq 12, 3) := by decide +kernel
theorem dL_isOfficer_64 : decode cL_isOfficer 64 = .ok (.aload_n 0, 1) := by decide +kernel
theorem dL_isOfficer_65 : decode cL_isOfficer 65 = .ok (.iload 5, 2) := by decide +kernel
theorem dL_isOfficer_67 : decode cL_isOfficer 67 = .ok (.invokestatic 197, 3) := by decide +kernel
theorem dL_isOfficer_70 : decode cL_isOfficer 70 = .ok (.goto 4, 3) := by decide +kernel
theorem dL_isOfficer_73 : decode cL_isOfficer 73 = .ok (.iconst 0, 1) := by decide +kernel
theorem dL_isOfficer_74 : decode cL_isOfficer 74 = .ok (.iadd, 1) := by decide +kernel
theorem dL_isOfficer_75 : decode cL_isOfficer 75 = .ok (.istore_n 3, 1) := by decide +kernel
theorem dL_isOfficer_76 : decode cL_isOfficer 76 = .ok (.aload_n 0, 1) := by decide +kernel
theorem dL_isOfficer_77 : decode cL_isOfficer 77 = .ok (.iload_n 1, 1) := by decide +kernel
theorem dL_isOfficer_78 : decode cL_isOfficer 78 = .ok (.iload 5, 2) := by decide +kernel
theorem dL_isOfficer_80 : decode cL_isOfficer 80 = .ok (.iload_n 2, 1) := by decide +kernel
theorem dL_isOfficer_81 : decode cL_isOfficer 81 = .ok (.invokestatic 321, 3) := by decide +kernel
theorem dL_isOfficer_84 : decode cL_isOfficer 84 = .ok (.ifCond .ne 5, 3) := by decide +kernel
theorem dL_isOfficer_87 : decode cL_isOfficer 87 = .ok (.iconst 0, 1) := by decide +kernel
theorem dL_isOfficer_88 : decode cL_isOfficer 88 = .ok (.ireturn, 1) := by decide +kernel
theorem dL_isOfficer_89 : decode cL_isOfficer 89 = .ok (.iinc 5 1, 3) := by decide +kernel
theorem dL_isOfficer_92 : decode cL_isOfficer 92 = .ok (.goto (-84), 3) := by decide +kernel
theorem dL_isOfficer_95 : decode cL_isOfficer 95 = .ok (.iload_n 1, 1) := by decide +kernel
theorem dL_isOfficer_96 : decode cL_isOfficer 96 = .ok (.ifCond .ne 39, 3) := by decide +kernel
theorem dL_isOfficer_99 : decode cL_isOfficer 99 = .ok (.aload_n 0, 1) := by decide +kernel
theorem dL_isOfficer_100 : decode cL_isOfficer 100 = .ok (.iload_n 1, 1) := by decide +kernel
theorem dL_isOfficer_101 : decode cL_isOfficer 101 = .ok (.invokestatic 317, 3) := by decide +kernel
theorem dL_isOfficer_104 : decode cL_isOfficer 104 = .ok (.ifCond .ne 27, 3) := by decide +kernel
theorem dL_isOfficer_107 : decode cL_isOfficer 107 = .ok (.aload_n 0, 1) := by decide +kernel
theorem dL_isOfficer_108 : decode cL_isOfficer 108 = .ok (.iload_n 1, 1) := by decide +kernel
theorem dL_isOfficer_109 : decode cL_isOfficer 109 = .ok (.invokestatic 219, 3) := by decide +kernel
theorem dL_isOfficer_112 : decode cL_isOfficer 112 = .ok (.bipush (-75), 2) := by decide +kernel
theorem dL_isOfficer_114 : decode cL_isOfficer 114 = .ok (.if_icmp .ne 17, 3) := by decide +kernel
theorem dL_isOfficer_117 : decode cL_isOfficer 117 = .ok (.aload_n 0, 1) := by decide +kernel
theorem dL_isOfficer_118 : decode cL_isOfficer 118 = .ok (.iload_n 1, 1) := by decide +kernel
theorem dL_isOfficer_119 : decode cL_isOfficer 119 = .ok (.invokestatic 221, 3) := by decide +kernel
theorem dL_isOfficer_122 : decode cL_isOfficer 122 = .ok (.bipush 9, 2) := by decide +kernel
theorem dL_isOfficer_124 : decode cL_isOfficer 124 = .ok (.if_icmp .ne 7, 3) := by decide +kernel
theorem dL_isOfficer_127 : decode cL_isOfficer 127 = .ok (.iconst 1, 1) := by decide +kernel
theorem dL_isOfficer_128 : decode cL_isOfficer 128 = .ok (.goto 58, 3) := by decide +kernel
theorem dL_isOfficer_131 : decode cL_isOfficer 131 = .ok (.iconst 0, 1) := by decide +kernel
theorem dL_isOfficer_132 : decode cL_isOfficer 132 = .ok (.goto 54, 3) := by decide +kernel
theorem dL_isOfficer_135 : decode cL_isOfficer 135 = .ok (.aload_n 0, 1) := by decide +kernel
theorem dL_isOfficer_136 : decode cL_isOfficer 136 = .ok (.aload_n 0, 1) := by decide +kernel
theorem dL_isOfficer_137 : decode cL_isOfficer 137 = .ok (.iload_n 1, 1) := by decide +kernel
theorem dL_isOfficer_138 : decode cL_isOfficer 138 = .ok (.invokestatic 219, 3) := by decide +kernel
theorem dL_isOfficer_141 : decode cL_isOfficer 141 = .ok (.invokestatic 221, 3) := by decide +kernel
theorem dL_isOfficer_144 : decode cL_isOfficer 144 = .ok (.aload_n 0, 1) := by decide +kernel
theorem dL_isOfficer_145 : decode cL_isOfficer 145 = .ok (.iload_n 1, 1) := by decide +kernel
theorem dL_isOfficer_146 : decode cL_isOfficer 146 = .ok (.invokestatic 221, 3) := by decide +kernel
theorem dL_isOfficer_149 : decode cL_isOfficer 149 = .ok (.if_icmp .le 36, 3) := by decide +kernel
theorem dL_isOfficer_152 : decode cL_isOfficer 152 = .ok (.aload_n 0, 1) := by decide +kernel
theorem dL_isOfficer_153 : decode cL_isOfficer 153 = .ok (.iload_n 1, 1) := by decide +kernel
theorem dL_isOfficer_154 : decode cL_isOfficer 154 = .ok (.invokestatic 317, 3) := by decide +kernel
theorem dL_isOfficer_157 : decode cL_isOfficer 157 = .ok (.aload_n 0, 1) := by decide +kernel
theorem dL_isOfficer_158 : decode cL_isOfficer 158 = .ok (.aload_n 0, 1) := by decide +kernel
theorem dL_isOfficer_159 : decode cL_isOfficer 159 = .ok (.iload_n 1, 1) := by decide +kernel
theorem dL_isOfficer_160 : decode cL_isOfficer 160 = .ok (.invokestatic 219, 3) := by decide +kernel
theorem dL_isOfficer_163 : decode cL_isOfficer 163 = .ok (.invokestatic 317, 3) := by decide +kernel
theorem dL_isOfficer_166 : decode cL_isOfficer 166 = .ok (.iconst 1, 1) := by decide +kernel
theorem dL_isOfficer_167 : decode cL_isOfficer 167 = .ok (.iadd, 1) := by decide +kernel
theorem dL_isOfficer_168 : decode cL_isOfficer 168 = .ok (.if_icmp .ne 17, 3) := by decide +kernel
theorem dL_isOfficer_171 : decode cL_isOfficer 171 = .ok (.aload_n 0, 1) := by decide +kernel
theorem dL_isOfficer_172 : decode cL_isOfficer 172 = .ok (.iconst 0, 1) := by decide +kernel
theorem dL_isOfficer_173 : decode cL_isOfficer 173 = .ok (.iload_n 1, 1) := by decide +kernel
theorem dL_isOfficer_174 : decode cL_isOfficer 174 = .ok (.invokestatic 313, 3) := by decide +kernel
theorem dL_isOfficer_177 : decode cL_isOfficer 177 = .ok (.iconst 1, 1) := by decide +kernel
theorem dL_isOfficer_178 : decode cL_isOfficer 178 = .ok (.if_icmp .ne 7, 3) := by decide +kernel
theorem dL_isOfficer_181 : decode cL_isOfficer 181 = .ok (.iconst 1, 1) := by decide +kernel
theorem dL_isOfficer_182 : decode cL_isOfficer 182 = .ok (.goto 4, 3) := by decide +kernel
theorem dL_isOfficer_185 : decode cL_isOfficer 185 = .ok (.iconst 0, 1) := by decide +kernel
theorem dL_isOfficer_186 : decode cL_isOfficer 186 = .ok (.istore 5, 2) := by decide +kernel
theorem dL_isOfficer_188 : decode cL_isOfficer 188 = .ok (.aload_n 0, 1) := by decide +kernel
theorem dL_isOfficer_189 : decode cL_isOfficer 189 = .ok (.iload_n 1, 1) := by decide +kernel
theorem dL_isOfficer_190 : decode cL_isOfficer 190 = .ok (.invokestatic 303, 3) := by decide +kernel
theorem dL_isOfficer_193 : decode cL_isOfficer 193 = .ok (.ifCond .lt 43, 3) := by decide +kernel
theorem dL_isOfficer_196 : decode cL_isOfficer 196 = .ok (.aload_n 0, 1) := by decide +kernel
theorem dL_isOfficer_197 : decode cL_isOfficer 197 = .ok (.iload_n 1, 1) := by decide +kernel
theorem dL_isOfficer_198 : decode cL_isOfficer 198 = .ok (.invokestatic 303, 3) := by decide +kernel
theorem dL_isOfficer_201 : decode cL_isOfficer 201 = .ok (.bipush 100, 2) := by decide +kernel
theorem dL_isOfficer_203 : decode cL_isOfficer 203 = .ok (.if_icmp .gt 33, 3) := by decide +kernel
theorem dL_isOfficer_206 : decode cL_isOfficer 206 = .ok (.aload_n 0, 1) := by decide +kernel
theorem dL_isOfficer_207 : decode cL_isOfficer 207 = .ok (.iload_n 1, 1) := by decide +kernel
theorem dL_isOfficer_208 : decode cL_isOfficer 208 = .ok (.invokestatic 305, 3) := by decide +kernel
theorem dL_isOfficer_211 : decode cL_isOfficer 211 = .ok (.ifCond .lt 25, 3) := by decide +kernel
theorem dL_isOfficer_214 : decode cL_isOfficer 214 = .ok (.aload_n 0, 1) := by decide +kernel
theorem dL_isOfficer_215 : decode cL_isOfficer 215 = .ok (.iload_n 1, 1) := by decide +kernel
theorem dL_isOfficer_216 : decode cL_isOfficer 216 = .ok (.invokestatic 305, 3) := by decide +kernel
theorem dL_isOfficer_219 : decode cL_isOfficer 219 = .ok (.iconst 2, 1) := by decide +kernel
theorem dL_isOfficer_220 : decode cL_isOfficer 220 = .ok (.if_icmp .gt 16, 3) := by decide +kernel
theorem dL_isOfficer_223 : decode cL_isOfficer 223 = .ok (.aload_n 0, 1) := by decide +kernel
theorem dL_isOfficer_224 : decode cL_isOfficer 224 = .ok (.iload_n 1, 1) := by decide +kernel
theorem dL_isOfficer_225 : decode cL_isOfficer 225 = .ok (.invokestatic 221, 3) := by decide +kernel
theorem dL_isOfficer_228 : decode cL_isOfficer 228 = .ok (.iconst 1, 1) := by decide +kernel
theorem dL_isOfficer_229 : decode cL_isOfficer 229 = .ok (.if_icmp .lt 7, 3) := by decide +kernel
theorem dL_isOfficer_232 : decode cL_isOfficer 232 = .ok (.iconst 1, 1) := by decide +kernel
theorem dL_isOfficer_233 : decode cL_isOfficer 233 = .ok (.goto 4, 3) := by decide +kernel
theorem dL_isOfficer_236 : decode cL_isOfficer 236 = .ok (.iconst 0, 1) := by decide +kernel
theorem dL_isOfficer_237 : decode cL_isOfficer 237 = .ok (.istore 6, 2) := by decide +kernel
theorem dL_isOfficer_239 : decode cL_isOfficer 239 = .ok (.aload_n 0, 1) := by decide +kernel
theorem dL_isOfficer_240 : decode cL_isOfficer 240 = .ok (.iload_n 1, 1) := by decide +kernel
theorem dL_isOfficer_241 : decode cL_isOfficer 241 = .ok (.invokestatic 325, 3) := by decide +kernel
theorem dL_isOfficer_244 : decode cL_isOfficer 244 = .ok (.istore 7, 2) := by decide +kernel
theorem dL_isOfficer_246 : decode cL_isOfficer 246 = .ok (.iload 5, 2) := by decide +kernel
theorem dL_isOfficer_248 : decode cL_isOfficer 248 = .ok (.ifCond .eq 90, 3) := by decide +kernel
theorem dL_isOfficer_251 : decode cL_isOfficer 251 = .ok (.iload 6, 2) := by decide +kernel
theorem dL_isOfficer_253 : decode cL_isOfficer 253 = .ok (.ifCond .eq 85, 3) := by decide +kernel
theorem dL_isOfficer_256 : decode cL_isOfficer 256 = .ok (.aload_n 0, 1) := by decide +kernel
theorem dL_isOfficer_257 : decode cL_isOfficer 257 = .ok (.iload_n 1, 1) := by decide +kernel
theorem dL_isOfficer_258 : decode cL_isOfficer 258 = .ok (.invokestatic 197, 3) := by decide +kernel
theorem dL_isOfficer_261 : decode cL_isOfficer 261 = .ok (.iload_n 3, 1) := by decide +kernel
theorem dL_isOfficer_262 : decode cL_isOfficer 262 = .ok (.if_icmp .ne 76, 3) := by decide +kernel
theorem dL_isOfficer_265 : decode cL_isOfficer 265 = .ok (.aload_n 0, 1) := by decide +kernel
theorem dL_isOfficer_266 : decode cL_isOfficer 266 = .ok (.iload_n 1, 1) := by decide +kernel
theorem dL_isOfficer_267 : decode cL_isOfficer 267 = .ok (.invokestatic 327, 3) := by decide +kernel
theorem dL_isOfficer_270 : decode cL_isOfficer 270 = .ok (.iload_n 3, 1) := by decide +kernel
theorem dL_isOfficer_271 : decode cL_isOfficer 271 = .ok (.if_icmp .ne 67, 3) := by decide +kernel
theorem dL_isOfficer_274 : decode cL_isOfficer 274 = .ok (.aload_n 0, 1) := by decide +kernel
theorem dL_isOfficer_275 : decode cL_isOfficer 275 = .ok (.iload_n 1, 1) := by decide +kernel
theorem dL_isOfficer_276 : decode cL_isOfficer 276 = .ok (.invokestatic 199, 3) := by decide +kernel
theorem dL_isOfficer_279 : decode cL_isOfficer 279 = .ok (.iload 4, 2) := by decide +kernel
theorem dL_isOfficer_281 : decode cL_isOfficer 281 = .ok (.if_icmp .ne 57, 3) := by decide +kernel
theorem dL_isOfficer_284 : decode cL_isOfficer 284 = .ok (.aload_n 0, 1) := by decide +kernel
theorem dL_isOfficer_285 : decode cL_isOfficer 285 = .ok (.iload_n 1, 1) := by decide +kernel
theorem dL_isOfficer_286 : decode cL_isOfficer 286 = .ok (.invokestatic 329, 3) := by decide +kernel
theorem dL_isOfficer_289 : decode cL_isOfficer 289 = .ok (.aload_n 0, 1) := by decide +kernel
theorem dL_isOfficer_290 : decode cL_isOfficer 290 = .ok (.iload_n 1, 1) := by decide +kernel
theorem dL_isOfficer_291 : decode cL_isOfficer 291 = .ok (.invokestatic 317, 3) := by decide +kernel
theorem dL_isOfficer_294 : decode cL_isOfficer 294 = .ok (.if_icmp .ne 44, 3) := by decide +kernel
theorem dL_isOfficer_297 : decode cL_isOfficer 297 = .ok (.iload 7, 2) := by decide +kernel
theorem dL_isOfficer_299 : decode cL_isOfficer 299 = .ok (.iconst 1, 1) := by decide +kernel
theorem dL_isOfficer_300 : decode cL_isOfficer 300 = .ok (.if_icmp .lt 38, 3) := by decide +kernel
theorem dL_isOfficer_303 : decode cL_isOfficer 303 = .ok (.aload_n 0, 1) := by decide +kernel
theorem dL_isOfficer_304 : decode cL_isOfficer 304 = .ok (.iload 7, 2) := by decide +kernel
theorem dL_isOfficer_306 : decode cL_isOfficer 306 = .ok (.iconst 1, 1) := by decide +kernel
theorem dL_isOfficer_307 : decode cL_isOfficer 307 = .ok (.isub, 1) := by decide +kernel
theorem dL_isOfficer_308 : decode cL_isOfficer 308 = .ok (.invokestatic 167, 3) := by decide +kernel
theorem dL_isOfficer_311 : decode cL_isOfficer 311 = .ok (.bipush 41, 2) := by decide +kernel
theorem dL_isOfficer_313 : decode cL_isOfficer 313 = .ok (.if_icmp .ne 7, 3) := by decide +kernel
theorem dL_isOfficer_316 : decode cL_isOfficer 316 = .ok (.iconst 1, 1) := by decide +kernel
theorem dL_isOfficer_317 : decode cL_isOfficer 317 = .ok (.goto 4, 3) := by decide +kernel
theorem dL_isOfficer_320 : decode cL_isOfficer 320 = .ok (.iconst 0, 1) := by decide +kernel
theorem dL_isOfficer_321 : decode cL_isOfficer 321 = .ok (.iload 4, 2) := by decide +kernel
theorem dL_isOfficer_323 : decode cL_isOfficer 323 = .ok (.ifCond .le 7, 3) := by decide +kernel
theorem dL_isOfficer_326 : decode cL_isOfficer 326 = .ok (.iconst 1, 1) := by decide +kernel
theorem dL_isOfficer_327 : decode cL_isOfficer 327 = .ok (.goto 4, 3) := by decide +kernel
theorem dL_isOfficer_330 : decode cL_isOfficer 330 = .ok (.iconst 0, 1) := by decide +kernel
theorem dL_isOfficer_331 : decode cL_isOfficer 331 = .ok (.if_icmp .ne 7, 3) := by decide +kernel
theorem dL_isOfficer_334 : decode cL_isOfficer 334 = .ok (.iconst 1, 1) := by decide +kernel
theorem dL_isOfficer_335 : decode cL_isOfficer 335 = .ok (.goto 4, 3) := by decide +kernel
theorem dL_isOfficer_338 : decode cL_isOfficer 338 = .ok (.iconst 0, 1) := by decide +kernel
theorem dL_isOfficer_339 : decode cL_isOfficer 339 = .ok (.ireturn, 1) := by decide +kernel
theorem dL_isWhole_0 : decode cL_isWhole 0 = .ok (.aload_n 0, 1) := by decide +kernel
theorem dL_isWhole_1 : decode cL_isWhole 1 = .ok (.invokevirtual 182, 3) := by decide +kernel
theorem dL_isWhole_4 : decode cL_isWhole 4 = .ok (.istore 4, 2) := by decide +kernel
theorem dL_isWhole_6 : decode cL_isWhole 6 = .ok (.iconst 0, 1) := by decide +kernel
theorem dL_isWhole_7 : decode cL_isWhole 7 = .ok (.istore 5, 2) := by decide +kernel
theorem dL_isWhole_9 : decode cL_isWhole 9 = .ok (.iconst 0, 1) := by decide +kernel
theorem dL_isWhole_10 : decode cL_isWhole 10 = .ok (.istore 6, 2) := by decide +kernel
theorem dL_isWhole_12 : decode cL_isWhole 12 = .ok (.iconst 0, 1) := by decide +kernel
theorem dL_isWhole_13 : decode cL_isWhole 13 = .ok (.istore 7, 2) := by decide +kernel
theorem dL_isWhole_15 : decode cL_isWhole 15 = .ok (.iconst 0, 1) := by decide +kernel
theorem dL_isWhole_16 : decode cL_isWhole 16 = .ok (.istore 8, 2) := by decide +kernel
theorem dL_isWhole_18 : decode cL_isWhole 18 = .ok (.iload 8, 2) := by decide +kernel
theorem dL_isWhole_20 : decode cL_isWhole 20 = .ok (.iload 4, 2) := by decide +kernel
theorem dL_isWhole_22 : decode cL_isWhole 22 = .ok (.if_icmp .ge 107, 3) := by decide +kernel
theorem dL_isWhole_25 : decode cL_isWhole 25 = .ok (.aload_n 0, 1) := by decide +kernel
theorem dL_isWhole_26 : decode cL_isWhole 26 = .ok (.iload 8, 2) := by decide +kernel
theorem dL_isWhole_28 : decode cL_isWhole 28 = .ok (.invokevirtual 223, 3) := by decide +kernel
theorem dL_isWhole_31 : decode cL_isWhole 31 = .ok (.ifCond .eq 68, 3) := by decide +kernel
theorem dL_isWhole_34 : decode cL_isWhole 34 = .ok (.iinc 5 1, 3) := by decide +kernel
theorem dL_isWhole_37 : decode cL_isWhole 37 = .ok (.iload 6, 2) := by decide +kernel
theorem dL_isWhole_39 : decode cL_isWhole 39 = .ok (.aload_n 0, 1) := by decide +kernel
theorem dL_isWhole_40 : decode cL_isWhole 40 = .ok (.iload 8, 2) := by decide +kernel
theorem dL_isWhole_42 : decode cL_isWhole 42 = .ok (.invokestatic 303, 3) := by decide +kernel
theorem dL_isWhole_45 : decode cL_isWhole 45 = .ok (.iadd, 1) := by decide +kernel
theorem dL_isWhole_46 : decode cL_isWhole 46 = .ok (.istore 6, 2) := by decide +kernel
theorem dL_isWhole_48 : decode cL_isWhole 48 = .ok (.iload 7, 2) := by decide +kernel
theorem dL_isWhole_50 : decode cL_isWhole 50 = .ok (.aload_n 0, 1) := by decide +kernel
theorem dL_isWhole_51 : decode cL_isWhole 51 = .ok (.iload 8, 2) := by decide +kernel
theorem dL_isWhole_53 : decode cL_isWhole 53 = .ok (.invokestatic 317, 3) := by decide +kernel
theorem dL_isWhole_56 : decode cL_isWhole 56 = .ok (.invokestatic 235, 3) := by decide +kernel
theorem dL_isWhole_59 : decode cL_isWhole 59 = .ok (.istore 7, 2) := by decide +kernel
theorem dL_isWhole_61 : decode cL_isWhole 61 = .ok (.iload_n 3, 1) := by decide +kernel
theorem dL_isWhole_62 : decode cL_isWhole 62 = .ok (.ifCond .ne 17, 3) := by decide +kernel
theorem dL_isWhole_65 : decode cL_isWhole 65 = .ok (.iload 8, 2) := by decide +kernel
theorem dL_isWhole_67 : decode cL_isWhole 67 = .ok (.aload_n 1, 1) := by decide +kernel
theorem dL_isWhole_68 : decode cL_isWhole 68 = .ok (.iload_n 2, 1) := by decide +kernel
theorem dL_isWhole_69 : decode cL_isWhole 69 = .ok (.iconst 1, 1) := by decide +kernel
theorem dL_isWhole_70 : decode cL_isWhole 70 = .ok (.iadd, 1) := by decide +kernel
theorem dL_isWhole_71 : decode cL_isWhole 71 = .ok (.bipush 12, 2) := by decide +kernel
theorem dL_isWhole_73 : decode cL_isWhole 73 = .ok (.invokestatic 178, 3) := by decide +kernel
theorem dL_isWhole_76 : decode cL_isWhole 76 = .ok (.if_icmp .ne 47, 3) := by decide +kernel
theorem dL_isWhole_79 : decode cL_isWhole 79 = .ok (.aload_n 0, 1) := by decide +kernel
theorem dL_isWhole_80 : decode cL_isWhole 80 = .ok (.iload 8, 2) := by decide +kernel
theorem dL_isWhole_82 : decode cL_isWhole 82 = .ok (.aload_n 1, 1) := by decide +kernel
theorem dL_isWhole_83 : decode cL_isWhole 83 = .ok (.iload_n 2, 1) := by decide +kernel
theorem dL_isWhole_84 : decode cL_isWhole 84 = .ok (.iconst 2, 1) := by decide +kernel
theorem dL_isWhole_85 : decode cL_isWhole 85 = .ok (.iadd, 1) := by decide +kernel
theorem dL_isWhole_86 : decode cL_isWhole 86 = .ok (.bipush 101, 2) := by decide +kernel
theorem dL_isWhole_88 : decode cL_isWhole 88 = .ok (.invokestatic 178, 3) := by decide +kernel
theorem dL_isWhole_91 : decode cL_isWhole 91 = .ok (.invokestatic 331, 3) := by decide +kernel
theorem dL_isWhole_94 : decode cL_isWhole 94 = .ok (.ifCond .ne 29, 3) := by decide +kernel
theorem dL_isWhole_97 : decode cL_isWhole 97 = .ok (.iconst 0, 1) := by decide +kernel
theorem dL_isWhole_98 : decode cL_isWhole 98 = .ok (.ireturn, 1) := by decide +kernel
theorem dL_isWhole_99 : decode cL_isWhole 99 = .ok (.aload_n 0, 1) := by decide +kernel
theorem dL_isWhole_100 : decode cL_isWhole 100 = .ok (.iload 8, 2) := by decide +kernel
theorem dL_isWhole_102 : decode cL_isWhole 102 = .ok (.invokestatic 221, 3) := by decide +kernel
theorem dL_isWhole_105 : decode cL_isWhole 105 = .ok (.bipush (-77), 2) := by decide +kernel
theorem dL_isWhole_107 : decode cL_isWhole 107 = .ok (.if_icmp .ne 14, 3) := by decide +kernel
theorem dL_isWhole_110 : decode cL_isWhole 110 = .ok (.aload_n 0, 1) := by decide +kernel
theorem dL_isWhole_111 : decode cL_isWhole 111 = .ok (.iload 8, 2) := by decide +kernel
theorem dL_isWhole_113 : decode cL_isWhole 113 = .ok (.invokestatic 197, 3) := by decide +kernel
theorem dL_isWhole_116 : decode cL_isWhole 116 = .ok (.bipush (-77), 2) := by decide +kernel
theorem dL_isWhole_118 : decode cL_isWhole 118 = .ok (.if_icmp .eq 5, 3) := by decide +kernel
theorem dL_isWhole_121 : decode cL_isWhole 121 = .ok (.iconst 0, 1) := by decide +kernel
theorem dL_isWhole_122 : decode cL_isWhole 122 = .ok (.ireturn, 1) := by decide +kernel
theorem dL_isWhole_123 : decode cL_isWhole 123 = .ok (.iinc 8 1, 3) := by decide +kernel
theorem dL_isWhole_126 : decode cL_isWhole 126 = .ok (.goto (-108), 3) := by decide +kernel
theorem dL_isWhole_129 : decode cL_isWhole 129 = .ok (.iconst 1, 1) := by decide +kernel
theorem dL_isWhole_130 : decode cL_isWhole 130 = .ok (.istore 8, 2) := by decide +kernel
theorem dL_isWhole_132 : decode cL_isWhole 132 = .ok (.iload 8, 2) := by decide +kernel
theorem dL_isWhole_134 : decode cL_isWhole 134 = .ok (.iload 5, 2) := by decide +kernel
theorem dL_isWhole_136 : decode cL_isWhole 136 = .ok (.if_icmp .ge 96, 3) := by decide +kernel
theorem dL_isWhole_139 : decode cL_isWhole 139 = .ok (.aload_n 0, 1) := by decide +kernel
theorem dL_isWhole_140 : decode cL_isWhole 140 = .ok (.iload 8, 2) := by decide +kernel
theorem dL_isWhole_142 : decode cL_isWhole 142 = .ok (.iconst 1, 1) := by decide +kernel
theorem dL_isWhole_143 : decode cL_isWhole 143 = .ok (.isub, 1) := by decide +kernel
theorem dL_isWhole_144 : decode cL_isWhole 144 = .ok (.invokestatic 335, 3) := by decide +kernel
theorem dL_isWhole_147 : decode cL_isWhole 147 = .ok (.istore 9, 2) := by decide +kernel
theorem dL_isWhole_149 : decode cL_isWhole 149 = .ok (.aload_n 0, 1) := by decide +kernel
theorem dL_isWhole_150 : decode cL_isWhole 150 = .ok (.iload 8, 2) := by decide +kernel
theorem dL_isWhole_152 : decode cL_isWhole 152 = .ok (.invokestatic 335, 3) := by decide +kernel
theorem dL_isWhole_155 : decode cL_isWhole 155 = .ok (.istore 10, 2) := by decide +kernel
theorem dL_isWhole_157 : decode cL_isWhole 157 = .ok (.aload_n 0, 1) := by decide +kernel
theorem dL_isWhole_158 : decode cL_isWhole 158 = .ok (.iload 9, 2) := by decide +kernel
theorem dL_isWhole_160 : decode cL_isWhole 160 = .ok (.invokestatic 221, 3) := by decide +kernel
theorem dL_isWhole_163 : decode cL_isWhole 163 = .ok (.aload_n 0, 1) := by decide +kernel
theorem dL_isWhole_164 : decode cL_isWhole 164 = .ok (.iload 10, 2) := by decide +kernel
theorem dL_isWhole_166 : decode cL_isWhole 166 = .ok (.invokestatic 221, 3) := by decide +kernel
theorem dL_isWhole_169 : decode cL_isWhole 169 = .ok (.if_icmp .lt 55, 3) := by decide +kernel
theorem dL_isWhole_172 : decode cL_isWhole 172 = .ok (.aload_n 0, 1) := by decide +kernel
theorem dL_isWhole_173 : decode cL_isWhole 173 = .ok (.iload 9, 2) := by decide +kernel
theorem dL_isWhole_175 : decode cL_isWhole 175 = .ok (.invokestatic 221, 3) := by decide +kernel
theorem dL_isWhole_178 : decode cL_isWhole 178 = .ok (.aload_n 0, 1) := by decide +kernel
theorem dL_isWhole_179 : decode cL_isWhole 179 = .ok (.iload 10, 2) := by decide +kernel
theorem dL_isWhole_181 : decode cL_isWhole 181 = .ok (.invokestatic 221, 3) := by decide +kernel
theorem dL_isWhole_184 : decode cL_isWhole 184 = .ok (.if_icmp .ne 42, 3) := by decide +kernel
theorem dL_isWhole_187 : decode cL_isWhole 187 = .ok (.aload_n 0, 1) := by decide +kernel
theorem dL_isWhole_188 : decode cL_isWhole 188 = .ok (.iload 9, 2) := by decide +kernel
theorem dL_isWhole_190 : decode cL_isWhole 190 = .ok (.invokestatic 303, 3) := by decide +kernel
theorem dL_isWhole_193 : decode cL_isWhole 193 = .ok (.aload_n 0, 1) := by decide +kernel
theorem dL_isWhole_194 : decode cL_isWhole 194 = .ok (.iload 10, 2) := by decide +kernel
theorem dL_isWhole_196 : decode cL_isWhole 196 = .ok (.invokestatic 303, 3) := by decide +kernel
theorem dL_isWhole_199 : decode cL_isWhole 199 = .ok (.if_icmp .lt 25, 3) := by decide +kernel
theorem dL_isWhole_202 : decode cL_isWhole 202 = .ok (.aload_n 0, 1) := by decide +kernel
theorem dL_isWhole_203 : decode cL_isWhole 203 = .ok (.iload 9, 2) := by decide +kernel
theorem dL_isWhole_205 : decode cL_isWhole 205 = .ok (.invokestatic 303, 3) := by decide +kernel
theorem dL_isWhole_208 : decode cL_isWhole 208 = .ok (.aload_n 0, 1) := by decide +kernel
theorem dL_isWhole_209 : decode cL_isWhole 209 = .ok (.iload 10, 2) := by decide +kernel
theorem dL_isWhole_211 : decode cL_isWhole 211 = .ok (.invokestatic 303, 3) := by decide +kernel
theorem dL_isWhole_214 : decode cL_isWhole 214 = .ok (.if_icmp .ne 12, 3) := by decide +kernel
theorem dL_isWhole_217 : decode cL_isWhole 217 = .ok (.iload 9, 2) := by decide +kernel
theorem dL_isWhole_219 : decode cL_isWhole 219 = .ok (.iload 10, 2) := by decide +kernel
theorem dL_isWhole_221 : decode cL_isWhole 221 = .ok (.if_icmp .le 5, 3) := by decide +kernel
theorem dL_isWhole_224 : decode cL_isWhole 224 = .ok (.iconst 0, 1) := by decide +kernel
theorem dL_isWhole_225 : decode cL_isWhole 225 = .ok (.ireturn, 1) := by decide +kernel
theorem dL_isWhole_226 : decode cL_isWhole 226 = .ok (.iinc 8 1, 3) := by decide +kernel
theorem dL_isWhole_229 : decode cL_isWhole 229 = .ok (.goto (-97), 3) := by decide +kernel
theorem dL_isWhole_232 : decode cL_isWhole 232 = .ok (.iconst 0, 1) := by decide +kernel
theorem dL_isWhole_233 : decode cL_isWhole 233 = .ok (.istore 8, 2) := by decide +kernel
theorem dL_isWhole_235 : decode cL_isWhole 235 = .ok (.iload 8, 2) := by decide +kernel
theorem dL_isWhole_237 : decode cL_isWhole 237 = .ok (.aload_n 0, 1) := by decide +kernel
theorem dL_isWhole_238 : decode cL_isWhole 238 = .ok (.invokevirtual 185, 3) := by decide +kernel
theorem dL_isWhole_241 : decode cL_isWhole 241 = .ok (.if_icmp .ge 65, 3) := by decide +kernel
theorem dL_isWhole_244 : decode cL_isWhole 244 = .ok (.aload_n 0, 1) := by decide +kernel
theorem dL_isWhole_245 : decode cL_isWhole 245 = .ok (.aload_n 0, 1) := by decide +kernel
theorem dL_isWhole_246 : decode cL_isWhole 246 = .ok (.iload 8, 2) := by decide +kernel
theorem dL_isWhole_248 : decode cL_isWhole 248 = .ok (.invokestatic 204, 3) := by decide +kernel
theorem dL_isWhole_251 : decode cL_isWhole 251 = .ok (.invokevirtual 223, 3) := by decide +kernel
theorem dL_isWhole_254 : decode cL_isWhole 254 = .ok (.ifCond .eq 44, 3) := by decide +kernel
theorem dL_isWhole_257 : decode cL_isWhole 257 = .ok (.aload_n 0, 1) := by decide +kernel
theorem dL_isWhole_258 : decode cL_isWhole 258 = .ok (.iload 8, 2) := by decide +kernel
theorem dL_isWhole_260 : decode cL_isWhole 260 = .ok (.invokestatic 206, 3) := by decide +kernel
theorem dL_isWhole_263 : decode cL_isWhole 263 = .ok (.iconst 1, 1) := by decide +kernel
theorem dL_isWhole_264 : decode cL_isWhole 264 = .ok (.if_icmp .lt 34, 3) := by decide +kernel
theorem dL_isWhole_267 : decode cL_isWhole 267 = .ok (.aload_n 0, 1) := by decide +kernel
theorem dL_isWhole_268 : decode cL_isWhole 268 = .ok (.iload 8, 2) := by decide +kernel
theorem dL_isWhole_270 : decode cL_isWhole 270 = .ok (.invokestatic 206, 3) := by decide +kernel
theorem dL_isWhole_273 : decode cL_isWhole 273 = .ok (.iload 4, 2) := by decide +kernel
theorem dL_isWhole_275 : decode cL_isWhole 275 = .ok (.if_icmp .ge 23, 3) := by decide +kernel
theorem dL_isWhole_278 : decode cL_isWhole 278 = .ok (.aload_n 0, 1) := by decide +kernel
theorem dL_isWhole_279 : decode cL_isWhole 279 = .ok (.iload 8, 2) := by decide +kernel
theorem dL_isWhole_281 : decode cL_isWhole 281 = .ok (.invokestatic 213, 3) := by decide +kernel
theorem dL_isWhole_284 : decode cL_isWhole 284 = .ok (.ifCond .lt 14, 3) := by decide +kernel
theorem dL_isWhole_287 : decode cL_isWhole 287 = .ok (.aload_n 0, 1) := by decide +kernel
theorem dL_isWhole_288 : decode cL_isWhole 288 = .ok (.iload 8, 2) := by decide +kernel
theorem dL_isWhole_290 : decode cL_isWhole 290 = .ok (.invokestatic 213, 3) := by decide +kernel
theorem dL_isWhole_293 : decode cL_isWhole 293 = .ok (.bipush 100, 2) := by decide +kernel
theorem dL_isWhole_295 : decode cL_isWhole 295 = .ok (.if_icmp .le 5, 3) := by decide +kernel
theorem dL_isWhole_298 : decode cL_isWhole 298 = .ok (.iconst 0, 1) := by decide +kernel
theorem dL_isWhole_299 : decode cL_isWhole 299 = .ok (.ireturn, 1) := by decide +kernel
theorem dL_isWhole_300 : decode cL_isWhole 300 = .ok (.iinc 8 1, 3) := by decide +kernel
theorem dL_isWhole_303 : decode cL_isWhole 303 = .ok (.goto (-68), 3) := by decide +kernel
theorem dL_isWhole_306 : decode cL_isWhole 306 = .ok (.iconst 0, 1) := by decide +kernel
theorem dL_isWhole_307 : decode cL_isWhole 307 = .ok (.istore 8, 2) := by decide +kernel
theorem dL_isWhole_309 : decode cL_isWhole 309 = .ok (.iconst 0, 1) := by decide +kernel
theorem dL_isWhole_310 : decode cL_isWhole 310 = .ok (.istore 9, 2) := by decide +kernel
theorem dL_isWhole_312 : decode cL_isWhole 312 = .ok (.iload 9, 2) := by decide +kernel
theorem dL_isWhole_314 : decode cL_isWhole 314 = .ok (.bipush 100, 2) := by decide +kernel
theorem dL_isWhole_316 : decode cL_isWhole 316 = .ok (.if_icmp .ge 20, 3) := by decide +kernel
theorem dL_isWhole_319 : decode cL_isWhole 319 = .ok (.iload 8, 2) := by decide +kernel
theorem dL_isWhole_321 : decode cL_isWhole 321 = .ok (.aload_n 0, 1) := by decide +kernel
theorem dL_isWhole_322 : decode cL_isWhole 322 = .ok (.iload 9, 2) := by decide +kernel
theorem dL_isWhole_324 : decode cL_isWhole 324 = .ok (.invokestatic 307, 3) := by decide +kernel
theorem dL_isWhole_327 : decode cL_isWhole 327 = .ok (.iadd, 1) := by decide +kernel
theorem dL_isWhole_328 : decode cL_isWhole 328 = .ok (.istore 8, 2) := by decide +kernel
theorem dL_isWhole_330 : decode cL_isWhole 330 = .ok (.iinc 9 1, 3) := by decide +kernel
theorem dL_isWhole_333 : decode cL_isWhole 333 = .ok (.goto (-21), 3) := by decide +kernel
theorem dL_isWhole_336 : decode cL_isWhole 336 = .ok (.aload_n 0, 1) := by decide +kernel
theorem dL_isWhole_337 : decode cL_isWhole 337 = .ok (.invokevirtual 188, 3) := by decide +kernel
theorem dL_isWhole_340 : decode cL_isWhole 340 = .ok (.aload_n 0, 1) := by decide +kernel
theorem dL_isWhole_341 : decode cL_isWhole 341 = .ok (.invokevirtual 191, 3) := by decide +kernel
theorem dL_isWhole_344 : decode cL_isWhole 344 = .ok (.iadd, 1) := by decide +kernel
theorem dL_isWhole_345 : decode cL_isWhole 345 = .ok (.aload_n 0, 1) := by decide +kernel
theorem dL_isWhole_346 : decode cL_isWhole 346 = .ok (.invokevirtual 194, 3) := by decide +kernel
theorem dL_isWhole_349 : decode cL_isWhole 349 = .ok (.iadd, 1) := by decide +kernel
theorem dL_isWhole_350 : decode cL_isWhole 350 = .ok (.istore 9, 2) := by decide +kernel
theorem dL_isWhole_352 : decode cL_isWhole 352 = .ok (.aload_n 0, 1) := by decide +kernel
theorem dL_isWhole_353 : decode cL_isWhole 353 = .ok (.invokevirtual 337, 3) := by decide +kernel
theorem dL_isWhole_356 : decode cL_isWhole 356 = .ok (.iload 6, 2) := by decide +kernel
theorem dL_isWhole_358 : decode cL_isWhole 358 = .ok (.i2d, 1) := by decide +kernel
theorem dL_isWhole_359 : decode cL_isWhole 359 = .ok (.iload 5, 2) := by decide +kernel
theorem dL_isWhole_361 : decode cL_isWhole 361 = .ok (.i2d, 1) := by decide +kernel
theorem dL_isWhole_362 : decode cL_isWhole 362 = .ok (.ddiv, 1) := by decide +kernel
theorem dL_isWhole_363 : decode cL_isWhole 363 = .ok (.dcmp .l, 1) := by decide +kernel
theorem dL_isWhole_364 : decode cL_isWhole 364 = .ok (.ifCond .ne 34, 3) := by decide +kernel
theorem dL_isWhole_367 : decode cL_isWhole 367 = .ok (.aload_n 0, 1) := by decide +kernel
theorem dL_isWhole_368 : decode cL_isWhole 368 = .ok (.invokestatic 341, 3) := by decide +kernel
theorem dL_isWhole_371 : decode cL_isWhole 371 = .ok (.iload 9, 2) := by decide +kernel
theorem dL_isWhole_373 : decode cL_isWhole 373 = .ok (.ifCond .ne 8, 3) := by decide +kernel
theorem dL_isWhole_376 : decode cL_isWhole 376 = .ok (.ldc 125, 2) := by decide +kernel
theorem dL_isWhole_378 : decode cL_isWhole 378 = .ok (.goto 12, 3) := by decide +kernel
theorem dL_isWhole_381 : decode cL_isWhole 381 = .ok (.aload_n 0, 1) := by decide +kernel
theorem dL_isWhole_382 : decode cL_isWhole 382 = .ok (.invokevirtual 188, 3) := by decide +kernel
theorem dL_isWhole_385 : decode cL_isWhole 385 = .ok (.i2f, 1) := by decide +kernel
theorem dL_isWhole_386 : decode cL_isWhole 386 = .ok (.iload 9, 2) := by decide +kernel
theorem dL_isWhole_388 : decode cL_isWhole 388 = .ok (.i2f, 1) := by decide +kernel
theorem dL_isWhole_389 : decode cL_isWhole 389 = .ok (.fdiv, 1) := by decide +kernel
theorem dL_isWhole_390 : decode cL_isWhole 390 = .ok (.fcmp .l, 1) := by decide +kernel
theorem dL_isWhole_391 : decode cL_isWhole 391 = .ok (.ifCond .ne 7, 3) := by decide +kernel
theorem dL_isWhole_394 : decode cL_isWhole 394 = .ok (.iconst 1, 1) := by decide +kernel
theorem dL_isWhole_395 : decode cL_isWhole 395 = .ok (.goto 4, 3) := by decide +kernel
theorem dL_isWhole_398 : decode cL_isWhole 398 = .ok (.iconst 0, 1) := by decide +kernel
theorem dL_isWhole_399 : decode cL_isWhole 399 = .ok (.istore 10, 2) := by decide +kernel
theorem dL_isWhole_401 : decode cL_isWhole 401 = .ok (.iload 10, 2) := by decide +kernel
theorem dL_isWhole_403 : decode cL_isWhole 403 = .ok (.ifCond .eq 82, 3) := by decide +kernel
theorem dL_isWhole_406 : decode cL_isWhole 406 = .ok (.iload 8, 2) := by decide +kernel
theorem dL_isWhole_408 : decode cL_isWhole 408 = .ok (.aload_n 0, 1) := by decide +kernel
theorem dL_isWhole_409 : decode cL_isWhole 409 = .ok (.invokevirtual 344, 3) := by decide +kernel
theorem dL_isWhole_412 : decode cL_isWhole 412 = .ok (.if_icmp .ne 73, 3) := by decide +kernel
theorem dL_isWhole_415 : decode cL_isWhole 415 = .ok (.iload 8, 2) := by decide +kernel
theorem dL_isWhole_417 : decode cL_isWhole 417 = .ok (.bipush 20, 2) := by decide +kernel
theorem dL_isWhole_419 : decode cL_isWhole 419 = .ok (.if_icmp .gt 66, 3) := by decide +kernel
theorem dL_isWhole_422 : decode cL_isWhole 422 = .ok (.aload_n 0, 1) := by decide +kernel
theorem dL_isWhole_423 : decode cL_isWhole 423 = .ok (.invokevirtual 201, 3) := by decide +kernel
theorem dL_isWhole_426 : decode cL_isWhole 426 = .ok (.iload 5, 2) := by decide +kernel
theorem dL_isWhole_428 : decode cL_isWhole 428 = .ok (.if_icmp .ne 57, 3) := by decide +kernel
theorem dL_isWhole_431 : decode cL_isWhole 431 = .ok (.aload_n 0, 1) := by decide +kernel
theorem dL_isWhole_432 : decode cL_isWhole 432 = .ok (.iconst 0, 1) := by decide +kernel
theorem dL_isWhole_433 : decode cL_isWhole 433 = .ok (.invokestatic 197, 3) := by decide +kernel
theorem dL_isWhole_436 : decode cL_isWhole 436 = .ok (.iload 5, 2) := by decide +kernel
theorem dL_isWhole_438 : decode cL_isWhole 438 = .ok (.if_icmp .ne 47, 3) := by decide +kernel
theorem dL_isWhole_441 : decode cL_isWhole 441 = .ok (.aload_n 0, 1) := by decide +kernel
theorem dL_isWhole_442 : decode cL_isWhole 442 = .ok (.invokevirtual 347, 3) := by decide +kernel
theorem dL_isWhole_445 : decode cL_isWhole 445 = .ok (.iload 7, 2) := by decide +kernel
theorem dL_isWhole_447 : decode cL_isWhole 447 = .ok (.if_icmp .ne 38, 3) := by decide +kernel
theorem dL_isWhole_450 : decode cL_isWhole 450 = .ok (.aload_n 0, 1) := by decide +kernel
theorem dL_isWhole_451 : decode cL_isWhole 451 = .ok (.invokevirtual 185, 3) := by decide +kernel
theorem dL_isWhole_454 : decode cL_isWhole 454 = .ok (.bipush 6, 2) := by decide +kernel
theorem dL_isWhole_456 : decode cL_isWhole 456 = .ok (.if_icmp .gt 29, 3) := by decide +kernel
theorem dL_isWhole_459 : decode cL_isWhole 459 = .ok (.aload_n 0, 1) := by decide +kernel
theorem dL_isWhole_460 : decode cL_isWhole 460 = .ok (.iload 5, 2) := by decide +kernel
theorem dL_isWhole_462 : decode cL_isWhole 462 = .ok (.invokestatic 335, 3) := by decide +kernel
theorem dL_isWhole_465 : decode cL_isWhole 465 = .ok (.bipush (-75), 2) := by decide +kernel
theorem dL_isWhole_467 : decode cL_isWhole 467 = .ok (.if_icmp .ne 18, 3) := by decide +kernel
theorem dL_isWhole_470 : decode cL_isWhole 470 = .ok (.iload_n 3, 1) := by decide +kernel
theorem dL_isWhole_471 : decode cL_isWhole 471 = .ok (.ifCond .eq 10, 3) := by decide +kernel
theorem dL_isWhole_474 : decode cL_isWhole 474 = .ok (.aload_n 0, 1) := by decide +kernel
theorem dL_isWhole_475 : decode cL_isWhole 475 = .ok (.invokevirtual 350, 3) := by decide +kernel
theorem dL_isWhole_478 : decode cL_isWhole 478 = .ok (.ifCond .eq 7, 3) := by decide +kernel
theorem dL_isWhole_481 : decode cL_isWhole 481 = .ok (.iconst 1, 1) := by decide +kernel
theorem dL_isWhole_482 : decode cL_isWhole 482 = .ok (.goto 4, 3) := by decide +kernel
theorem dL_isWhole_485 : decode cL_isWhole 485 = .ok (.iconst 0, 1) := by decide +kernel
theorem dL_isWhole_486 : decode cL_isWhole 486 = .ok (.ireturn, 1) := by decide +kernel
theorem dL_isKept_0 : decode cL_isKept 0 = .ok (.aload_n 0, 1) := by decide +kernel
theorem dL_isKept_1 : decode cL_isKept 1 = .ok (.invokevirtual 354, 3) := by decide +kernel
theorem dL_isKept_4 : decode cL_isKept 4 = .ok (.istore_n 3, 1) := by decide +kernel
theorem dL_isKept_5 : decode cL_isKept 5 = .ok (.bipush 8, 2) := by decide +kernel
theorem dL_isKept_7 : decode cL_isKept 7 = .ok (.iload_n 2, 1) := by decide +kernel
theorem dL_isKept_8 : decode cL_isKept 8 = .ok (.invokestatic 357, 3) := by decide +kernel
theorem dL_isKept_11 : decode cL_isKept 11 = .ok (.istore 4, 2) := by decide +kernel
theorem dL_isKept_13 : decode cL_isKept 13 = .ok (.aload_n 0, 1) := by decide +kernel
theorem dL_isKept_14 : decode cL_isKept 14 = .ok (.invokevirtual 175, 3) := by decide +kernel
theorem dL_isKept_17 : decode cL_isKept 17 = .ok (.iload 4, 2) := by decide +kernel
theorem dL_isKept_19 : decode cL_isKept 19 = .ok (.if_icmp .eq 5, 3) := by decide +kernel
theorem dL_isKept_22 : decode cL_isKept 22 = .ok (.iconst 0, 1) := by decide +kernel
theorem dL_isKept_23 : decode cL_isKept 23 = .ok (.ireturn, 1) := by decide +kernel
theorem dL_isKept_24 : decode cL_isKept 24 = .ok (.iload_n 2, 1) := by decide +kernel
theorem dL_isKept_25 : decode cL_isKept 25 = .ok (.iconst 1, 1) := by decide +kernel
theorem dL_isKept_26 : decode cL_isKept 26 = .ok (.isub, 1) := by decide +kernel
theorem dL_isKept_27 : decode cL_isKept 27 = .ok (.istore 5, 2) := by decide +kernel
theorem dL_isKept_29 : decode cL_isKept 29 = .ok (.iload 4, 2) := by decide +kernel
theorem dL_isKept_31 : decode cL_isKept 31 = .ok (.ifCond .le 35, 3) := by decide +kernel
theorem dL_isKept_34 : decode cL_isKept 34 = .ok (.iinc 4 (-1), 3) := by decide +kernel
theorem dL_isKept_37 : decode cL_isKept 37 = .ok (.aload_n 0, 1) := by decide +kernel
theorem dL_isKept_38 : decode cL_isKept 38 = .ok (.invokestatic 360, 3) := by decide +kernel
theorem dL_isKept_41 : decode cL_isKept 41 = .ok (.iload 4, 2) := by decide +kernel
theorem dL_isKept_43 : decode cL_isKept 43 = .ok (.if_icmp .ne 15, 3) := by decide +kernel
theorem dL_isKept_46 : decode cL_isKept 46 = .ok (.aload_n 0, 1) := by decide +kernel
theorem dL_isKept_47 : decode cL_isKept 47 = .ok (.invokestatic 171, 3) := by decide +kernel
theorem dL_isKept_50 : decode cL_isKept 50 = .ok (.aload_n 1, 1) := by decide +kernel
theorem dL_isKept_51 : decode cL_isKept 51 = .ok (.iload 5, 2) := by decide +kernel
theorem dL_isKept_53 : decode cL_isKept 53 = .ok (.laload, 1) := by decide +kernel
theorem dL_isKept_54 : decode cL_isKept 54 = .ok (.lcmp, 1) := by decide +kernel
theorem dL_isKept_55 : decode cL_isKept 55 = .ok (.ifCond .eq 5, 3) := by decide +kernel
theorem dL_isKept_58 : decode cL_isKept 58 = .ok (.iconst 0, 1) := by decide +kernel
theorem dL_isKept_59 : decode cL_isKept 59 = .ok (.ireturn, 1) := by decide +kernel
theorem dL_isKept_60 : decode cL_isKept 60 = .ok (.iinc 5 (-1), 3) := by decide +kernel
theorem dL_isKept_63 : decode cL_isKept 63 = .ok (.goto (-34), 3) := by decide +kernel
theorem dL_isKept_66 : decode cL_isKept 66 = .ok (.aload_n 0, 1) := by decide +kernel
theorem dL_isKept_67 : decode cL_isKept 67 = .ok (.invokestatic 360, 3) := by decide +kernel
theorem dL_isKept_70 : decode cL_isKept 70 = .ok (.bipush (-79), 2) := by decide +kernel
theorem dL_isKept_72 : decode cL_isKept 72 = .ok (.if_icmp .ne 35, 3) := by decide +kernel
