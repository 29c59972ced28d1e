theorem dL_law_0 : decode cL_law 0 = .ok (.new 9, 3) := by decide +kernel
theorem dL_law_3 : decode cL_law 3 = .ok (.dup, 1) := by decide +kernel
theorem dL_law_4 : decode cL_law 4 = .ok (.invokespecial 23, 3) := by decide +kernel
theorem dL_law_7 : decode cL_law 7 = .ok (.astore_n 1, 1) := by decide +kernel
theorem dL_law_8 : decode cL_law 8 = .ok (.aload_n 0, 1) := by decide +kernel
theorem dL_law_9 : decode cL_law 9 = .ok (.iconst 0, 1) := by decide +kernel
theorem dL_law_10 : decode cL_law 10 = .ok (.invokestatic 24, 3) := by decide +kernel
theorem dL_law_13 : decode cL_law 13 = .ok (.istore_n 2, 1) := by decide +kernel
theorem dL_law_14 : decode cL_law 14 = .ok (.iconst 2, 1) := by decide +kernel
theorem dL_law_15 : decode cL_law 15 = .ok (.newarray .int, 2) := by decide +kernel
theorem dL_law_17 : decode cL_law 17 = .ok (.astore_n 3, 1) := by decide +kernel
theorem dL_law_18 : decode cL_law 18 = .ok (.iconst 2, 1) := by decide +kernel
theorem dL_law_19 : decode cL_law 19 = .ok (.newarray .int, 2) := by decide +kernel
theorem dL_law_21 : decode cL_law 21 = .ok (.astore 4, 2) := by decide +kernel
theorem dL_law_23 : decode cL_law 23 = .ok (.iconst 2, 1) := by decide +kernel
theorem dL_law_24 : decode cL_law 24 = .ok (.newarray .int, 2) := by decide +kernel
theorem dL_law_26 : decode cL_law 26 = .ok (.astore 5, 2) := by decide +kernel
theorem dL_law_28 : decode cL_law 28 = .ok (.bipush 64, 2) := by decide +kernel
theorem dL_law_30 : decode cL_law 30 = .ok (.newarray .int, 2) := by decide +kernel
theorem dL_law_32 : decode cL_law 32 = .ok (.astore 6, 2) := by decide +kernel
theorem dL_law_34 : decode cL_law 34 = .ok (.aload_n 3, 1) := by decide +kernel
theorem dL_law_35 : decode cL_law 35 = .ok (.iconst 0, 1) := by decide +kernel
theorem dL_law_36 : decode cL_law 36 = .ok (.iconst 1, 1) := by decide +kernel
theorem dL_law_37 : decode cL_law 37 = .ok (.iload_n 2, 1) := by decide +kernel
theorem dL_law_38 : decode cL_law 38 = .ok (.iconst 4, 1) := by decide +kernel
theorem dL_law_39 : decode cL_law 39 = .ok (.invokestatic 27, 3) := by decide +kernel
theorem dL_law_42 : decode cL_law 42 = .ok (.iadd, 1) := by decide +kernel
theorem dL_law_43 : decode cL_law 43 = .ok (.iastore, 1) := by decide +kernel
theorem dL_law_44 : decode cL_law 44 = .ok (.aload 4, 2) := by decide +kernel
theorem dL_law_46 : decode cL_law 46 = .ok (.iconst 0, 1) := by decide +kernel
theorem dL_law_47 : decode cL_law 47 = .ok (.iconst 1, 1) := by decide +kernel
theorem dL_law_48 : decode cL_law 48 = .ok (.iload_n 2, 1) := by decide +kernel
theorem dL_law_49 : decode cL_law 49 = .ok (.iconst 3, 1) := by decide +kernel
theorem dL_law_50 : decode cL_law 50 = .ok (.ishr, 1) := by decide +kernel
theorem dL_law_51 : decode cL_law 51 = .ok (.iconst 4, 1) := by decide +kernel
theorem dL_law_52 : decode cL_law 52 = .ok (.invokestatic 27, 3) := by decide +kernel
theorem dL_law_55 : decode cL_law 55 = .ok (.iadd, 1) := by decide +kernel
theorem dL_law_56 : decode cL_law 56 = .ok (.iastore, 1) := by decide +kernel
theorem dL_law_57 : decode cL_law 57 = .ok (.aload_n 3, 1) := by decide +kernel
theorem dL_law_58 : decode cL_law 58 = .ok (.iconst 1, 1) := by decide +kernel
theorem dL_law_59 : decode cL_law 59 = .ok (.aload 4, 2) := by decide +kernel
theorem dL_law_61 : decode cL_law 61 = .ok (.iconst 0, 1) := by decide +kernel
theorem dL_law_62 : decode cL_law 62 = .ok (.iaload, 1) := by decide +kernel
theorem dL_law_63 : decode cL_law 63 = .ok (.iload_n 2, 1) := by decide +kernel
theorem dL_law_64 : decode cL_law 64 = .ok (.bipush 6, 2) := by decide +kernel
theorem dL_law_66 : decode cL_law 66 = .ok (.ishr, 1) := by decide +kernel
theorem dL_law_67 : decode cL_law 67 = .ok (.iconst 5, 1) := by decide +kernel
theorem dL_law_68 : decode cL_law 68 = .ok (.invokestatic 27, 3) := by decide +kernel
theorem dL_law_71 : decode cL_law 71 = .ok (.iadd, 1) := by decide +kernel
theorem dL_law_72 : decode cL_law 72 = .ok (.iastore, 1) := by decide +kernel
theorem dL_law_73 : decode cL_law 73 = .ok (.aload 4, 2) := by decide +kernel
theorem dL_law_75 : decode cL_law 75 = .ok (.iconst 1, 1) := by decide +kernel
theorem dL_law_76 : decode cL_law 76 = .ok (.iconst 1, 1) := by decide +kernel
theorem dL_law_77 : decode cL_law 77 = .ok (.iload_n 2, 1) := by decide +kernel
theorem dL_law_78 : decode cL_law 78 = .ok (.bipush 9, 2) := by decide +kernel
theorem dL_law_80 : decode cL_law 80 = .ok (.ishr, 1) := by decide +kernel
theorem dL_law_81 : decode cL_law 81 = .ok (.iconst 4, 1) := by decide +kernel
theorem dL_law_82 : decode cL_law 82 = .ok (.invokestatic 27, 3) := by decide +kernel
theorem dL_law_85 : decode cL_law 85 = .ok (.iadd, 1) := by decide +kernel
theorem dL_law_86 : decode cL_law 86 = .ok (.iastore, 1) := by decide +kernel
theorem dL_law_87 : decode cL_law 87 = .ok (.aload 5, 2) := by decide +kernel
theorem dL_law_89 : decode cL_law 89 = .ok (.iconst 0, 1) := by decide +kernel
theorem dL_law_90 : decode cL_law 90 = .ok (.iconst 0, 1) := by decide +kernel
theorem dL_law_91 : decode cL_law 91 = .ok (.iastore, 1) := by decide +kernel
theorem dL_law_92 : decode cL_law 92 = .ok (.aload 5, 2) := by decide +kernel
theorem dL_law_94 : decode cL_law 94 = .ok (.iconst 1, 1) := by decide +kernel
theorem dL_law_95 : decode cL_law 95 = .ok (.iconst 1, 1) := by decide +kernel
theorem dL_law_96 : decode cL_law 96 = .ok (.iastore, 1) := by decide +kernel
theorem dL_law_97 : decode cL_law 97 = .ok (.aload_n 1, 1) := by decide +kernel
theorem dL_law_98 : decode cL_law 98 = .ok (.aload_n 3, 1) := by decide +kernel
theorem dL_law_99 : decode cL_law 99 = .ok (.iconst 0, 1) := by decide +kernel
theorem dL_law_100 : decode cL_law 100 = .ok (.iaload, 1) := by decide +kernel
theorem dL_law_101 : decode cL_law 101 = .ok (.aload 4, 2) := by decide +kernel
theorem dL_law_103 : decode cL_law 103 = .ok (.iconst 0, 1) := by decide +kernel
theorem dL_law_104 : decode cL_law 104 = .ok (.iaload, 1) := by decide +kernel
theorem dL_law_105 : decode cL_law 105 = .ok (.invokevirtual 30, 3) := by decide +kernel
theorem dL_law_108 : decode cL_law 108 = .ok (.ifCond .ne 32, 3) := by decide +kernel
theorem dL_law_111 : decode cL_law 111 = .ok (.aload_n 1, 1) := by decide +kernel
theorem dL_law_112 : decode cL_law 112 = .ok (.aload_n 3, 1) := by decide +kernel
theorem dL_law_113 : decode cL_law 113 = .ok (.iconst 1, 1) := by decide +kernel
theorem dL_law_114 : decode cL_law 114 = .ok (.iaload, 1) := by decide +kernel
theorem dL_law_115 : decode cL_law 115 = .ok (.aload 4, 2) := by decide +kernel
theorem dL_law_117 : decode cL_law 117 = .ok (.iconst 1, 1) := by decide +kernel
theorem dL_law_118 : decode cL_law 118 = .ok (.iaload, 1) := by decide +kernel
theorem dL_law_119 : decode cL_law 119 = .ok (.invokevirtual 30, 3) := by decide +kernel
theorem dL_law_122 : decode cL_law 122 = .ok (.iconst 1, 1) := by decide +kernel
theorem dL_law_123 : decode cL_law 123 = .ok (.if_icmp .ne 17, 3) := by decide +kernel
theorem dL_law_126 : decode cL_law 126 = .ok (.aload_n 1, 1) := by decide +kernel
theorem dL_law_127 : decode cL_law 127 = .ok (.iconst 0, 1) := by decide +kernel
theorem dL_law_128 : decode cL_law 128 = .ok (.iconst 1, 1) := by decide +kernel
theorem dL_law_129 : decode cL_law 129 = .ok (.invokevirtual 33, 3) := by decide +kernel
theorem dL_law_132 : decode cL_law 132 = .ok (.iconst (-1), 1) := by decide +kernel
theorem dL_law_133 : decode cL_law 133 = .ok (.if_icmp .ne 7, 3) := by decide +kernel
theorem dL_law_136 : decode cL_law 136 = .ok (.iconst 1, 1) := by decide +kernel
theorem dL_law_137 : decode cL_law 137 = .ok (.goto 4, 3) := by decide +kernel
theorem dL_law_140 : decode cL_law 140 = .ok (.iconst 0, 1) := by decide +kernel
theorem dL_law_141 : decode cL_law 141 = .ok (.istore 7, 2) := by decide +kernel
theorem dL_law_143 : decode cL_law 143 = .ok (.iload 7, 2) := by decide +kernel
theorem dL_law_145 : decode cL_law 145 = .ok (.ifCond .eq 41, 3) := by decide +kernel
theorem dL_law_148 : decode cL_law 148 = .ok (.aload_n 1, 1) := by decide +kernel
theorem dL_law_149 : decode cL_law 149 = .ok (.iconst 0, 1) := by decide +kernel
theorem dL_law_150 : decode cL_law 150 = .ok (.iconst 0, 1) := by decide +kernel
theorem dL_law_151 : decode cL_law 151 = .ok (.invokevirtual 36, 3) := by decide +kernel
theorem dL_law_154 : decode cL_law 154 = .ok (.ifCond .ne 32, 3) := by decide +kernel
theorem dL_law_157 : decode cL_law 157 = .ok (.aload_n 1, 1) := by decide +kernel
theorem dL_law_158 : decode cL_law 158 = .ok (.iconst 1, 1) := by decide +kernel
theorem dL_law_159 : decode cL_law 159 = .ok (.iconst 1, 1) := by decide +kernel
theorem dL_law_160 : decode cL_law 160 = .ok (.invokevirtual 36, 3) := by decide +kernel
theorem dL_law_163 : decode cL_law 163 = .ok (.ifCond .ne 23, 3) := by decide +kernel
theorem dL_law_166 : decode cL_law 166 = .ok (.aload_n 1, 1) := by decide +kernel
theorem dL_law_167 : decode cL_law 167 = .ok (.iconst 0, 1) := by decide +kernel
theorem dL_law_168 : decode cL_law 168 = .ok (.invokevirtual 39, 3) := by decide +kernel
theorem dL_law_171 : decode cL_law 171 = .ok (.ifCond .eq 15, 3) := by decide +kernel
theorem dL_law_174 : decode cL_law 174 = .ok (.aload_n 1, 1) := by decide +kernel
theorem dL_law_175 : decode cL_law 175 = .ok (.iconst 1, 1) := by decide +kernel
theorem dL_law_176 : decode cL_law 176 = .ok (.invokevirtual 39, 3) := by decide +kernel
theorem dL_law_179 : decode cL_law 179 = .ok (.ifCond .eq 7, 3) := by decide +kernel
theorem dL_law_182 : decode cL_law 182 = .ok (.iconst 1, 1) := by decide +kernel
theorem dL_law_183 : decode cL_law 183 = .ok (.goto 4, 3) := by decide +kernel
theorem dL_law_186 : decode cL_law 186 = .ok (.iconst 0, 1) := by decide +kernel
theorem dL_law_187 : decode cL_law 187 = .ok (.istore 7, 2) := by decide +kernel
theorem dL_law_189 : decode cL_law 189 = .ok (.aload_n 1, 1) := by decide +kernel
theorem dL_law_190 : decode cL_law 190 = .ok (.iconst 0, 1) := by decide +kernel
theorem dL_law_191 : decode cL_law 191 = .ok (.iload_n 2, 1) := by decide +kernel
theorem dL_law_192 : decode cL_law 192 = .ok (.iconst 5, 1) := by decide +kernel
theorem dL_law_193 : decode cL_law 193 = .ok (.ishr, 1) := by decide +kernel
theorem dL_law_194 : decode cL_law 194 = .ok (.bipush 12, 2) := by decide +kernel
theorem dL_law_196 : decode cL_law 196 = .ok (.invokestatic 27, 3) := by decide +kernel
theorem dL_law_199 : decode cL_law 199 = .ok (.invokevirtual 43, 3) := by decide +kernel
theorem dL_law_202 : decode cL_law 202 = .ok (.pop, 1) := by decide +kernel
theorem dL_law_203 : decode cL_law 203 = .ok (.iconst 0, 1) := by decide +kernel
theorem dL_law_204 : decode cL_law 204 = .ok (.istore 8, 2) := by decide +kernel
theorem dL_law_206 : decode cL_law 206 = .ok (.aload_n 0, 1) := by decide +kernel
theorem dL_law_207 : decode cL_law 207 = .ok (.arraylength, 1) := by decide +kernel
theorem dL_law_208 : decode cL_law 208 = .ok (.bipush 40, 2) := by decide +kernel
theorem dL_law_210 : decode cL_law 210 = .ok (.if_icmp .ge 8, 3) := by decide +kernel
theorem dL_law_213 : decode cL_law 213 = .ok (.aload_n 0, 1) := by decide +kernel
theorem dL_law_214 : decode cL_law 214 = .ok (.arraylength, 1) := by decide +kernel
theorem dL_law_215 : decode cL_law 215 = .ok (.goto 5, 3) := by decide +kernel
theorem dL_law_218 : decode cL_law 218 = .ok (.bipush 40, 2) := by decide +kernel
theorem dL_law_220 : decode cL_law 220 = .ok (.istore 9, 2) := by decide +kernel
theorem dL_law_222 : decode cL_law 222 = .ok (.iconst 1, 1) := by decide +kernel
theorem dL_law_223 : decode cL_law 223 = .ok (.istore 10, 2) := by decide +kernel
theorem dL_law_225 : decode cL_law 225 = .ok (.iload 10, 2) := by decide +kernel
theorem dL_law_227 : decode cL_law 227 = .ok (.iload 9, 2) := by decide +kernel
theorem dL_law_229 : decode cL_law 229 = .ok (.if_icmp .ge 1192, 3) := by decide +kernel
theorem dL_law_232 : decode cL_law 232 = .ok (.iload 7, 2) := by decide +kernel
theorem dL_law_234 : decode cL_law 234 = .ok (.ifCond .eq 1187, 3) := by decide +kernel
theorem dL_law_237 : decode cL_law 237 = .ok (.aload_n 0, 1) := by decide +kernel
theorem dL_law_238 : decode cL_law 238 = .ok (.iload 10, 2) := by decide +kernel
theorem dL_law_240 : decode cL_law 240 = .ok (.invokestatic 24, 3) := by decide +kernel
theorem dL_law_243 : decode cL_law 243 = .ok (.istore 11, 2) := by decide +kernel
theorem dL_law_245 : decode cL_law 245 = .ok (.iload 11, 2) := by decide +kernel
theorem dL_law_247 : decode cL_law 247 = .ok (.bipush 12, 2) := by decide +kernel
theorem dL_law_249 : decode cL_law 249 = .ok (.invokestatic 27, 3) := by decide +kernel
theorem dL_law_252 : decode cL_law 252 = .ok (.istore 12, 2) := by decide +kernel
theorem dL_law_254 : decode cL_law 254 = .ok (.iload 11, 2) := by decide +kernel
theorem dL_law_256 : decode cL_law 256 = .ok (.iconst 4, 1) := by decide +kernel
theorem dL_law_257 : decode cL_law 257 = .ok (.ishr, 1) := by decide +kernel
theorem dL_law_258 : decode cL_law 258 = .ok (.iconst 2, 1) := by decide +kernel
theorem dL_law_259 : decode cL_law 259 = .ok (.invokestatic 27, 3) := by decide +kernel
theorem dL_law_262 : decode cL_law 262 = .ok (.istore 13, 2) := by decide +kernel
theorem dL_law_264 : decode cL_law 264 = .ok (.iload 11, 2) := by decide +kernel
theorem dL_law_266 : decode cL_law 266 = .ok (.iconst 5, 1) := by decide +kernel
theorem dL_law_267 : decode cL_law 267 = .ok (.ishr, 1) := by decide +kernel
theorem dL_law_268 : decode cL_law 268 = .ok (.iconst 3, 1) := by decide +kernel
theorem dL_law_269 : decode cL_law 269 = .ok (.invokestatic 27, 3) := by decide +kernel
theorem dL_law_272 : decode cL_law 272 = .ok (.istore 14, 2) := by decide +kernel
theorem dL_law_274 : decode cL_law 274 = .ok (.iload 11, 2) := by decide +kernel
theorem dL_law_276 : decode cL_law 276 = .ok (.bipush 6, 2) := by decide +kernel
theorem dL_law_278 : decode cL_law 278 = .ok (.ishr, 1) := by decide +kernel
theorem dL_law_279 : decode cL_law 279 = .ok (.bipush 8, 2) := by decide +kernel
theorem dL_law_281 : decode cL_law 281 = .ok (.invokestatic 27, 3) := by decide +kernel
theorem dL_law_284 : decode cL_law 284 = .ok (.istore 15, 2) := by decide +kernel
theorem dL_law_286 : decode cL_law 286 = .ok (.iload 11, 2) := by decide +kernel
theorem dL_law_288 : decode cL_law 288 = .ok (.bipush 9, 2) := by decide +kernel
theorem dL_law_290 : decode cL_law 290 = .ok (.ishr, 1) := by decide +kernel
theorem dL_law_291 : decode cL_law 291 = .ok (.bipush 16, 2) := by decide +kernel
theorem dL_law_293 : decode cL_law 293 = .ok (.invokestatic 27, 3) := by decide +kernel
theorem dL_law_296 : decode cL_law 296 = .ok (.istore 16, 2) := by decide +kernel
theorem dL_law_298 : decode cL_law 298 = .ok (.iload 12, 2) := by decide +kernel
theorem dL_law_300 : decode cL_law 300 = .ok (.iconst 2, 1) := by decide +kernel
theorem dL_law_301 : decode cL_law 301 = .ok (.if_icmp .ge 99, 3) := by decide +kernel
theorem dL_law_304 : decode cL_law 304 = .ok (.bipush 32, 2) := by decide +kernel
theorem dL_law_306 : decode cL_law 306 = .ok (.iload 13, 2) := by decide +kernel
theorem dL_law_308 : decode cL_law 308 = .ok (.imul, 1) := by decide +kernel
theorem dL_law_309 : decode cL_law 309 = .ok (.iconst 4, 1) := by decide +kernel
theorem dL_law_310 : decode cL_law 310 = .ok (.iload 11, 2) := by decide +kernel
theorem dL_law_312 : decode cL_law 312 = .ok (.bipush 6, 2) := by decide +kernel
theorem dL_law_314 : decode cL_law 314 = .ok (.ishr, 1) := by decide +kernel
theorem dL_law_315 : decode cL_law 315 = .ok (.aload_n 3, 1) := by decide +kernel
theorem dL_law_316 : decode cL_law 316 = .ok (.iload 13, 2) := by decide +kernel
theorem dL_law_318 : decode cL_law 318 = .ok (.iaload, 1) := by decide +kernel
theorem dL_law_319 : decode cL_law 319 = .ok (.invokestatic 27, 3) := by decide +kernel
theorem dL_law_322 : decode cL_law 322 = .ok (.imul, 1) := by decide +kernel
theorem dL_law_323 : decode cL_law 323 = .ok (.iadd, 1) := by decide +kernel
theorem dL_law_324 : decode cL_law 324 = .ok (.iload 11, 2) := by decide +kernel
theorem dL_law_326 : decode cL_law 326 = .ok (.bipush 9, 2) := by decide +kernel
theorem dL_law_328 : decode cL_law 328 = .ok (.ishr, 1) := by decide +kernel
theorem dL_law_329 : decode cL_law 329 = .ok (.aload 4, 2) := by decide +kernel
theorem dL_law_331 : decode cL_law 331 = .ok (.iload 13, 2) := by decide +kernel
theorem dL_law_333 : decode cL_law 333 = .ok (.iaload, 1) := by decide +kernel
theorem dL_law_334 : decode cL_law 334 = .ok (.invokestatic 27, 3) := by decide +kernel
theorem dL_law_337 : decode cL_law 337 = .ok (.iadd, 1) := by decide +kernel
theorem dL_law_338 : decode cL_law 338 = .ok (.istore 17, 2) := by decide +kernel
theorem dL_law_340 : decode cL_law 340 = .ok (.iload 11, 2) := by decide +kernel
theorem dL_law_342 : decode cL_law 342 = .ok (.iconst 3, 1) := by decide +kernel
theorem dL_law_343 : decode cL_law 343 = .ok (.ishr, 1) := by decide +kernel
theorem dL_law_344 : decode cL_law 344 = .ok (.sipush 511, 3) := by decide +kernel
theorem dL_law_347 : decode cL_law 347 = .ok (.invokestatic 27, 3) := by decide +kernel
theorem dL_law_350 : decode cL_law 350 = .ok (.sipush 255, 3) := by decide +kernel
theorem dL_law_353 : decode cL_law 353 = .ok (.isub, 1) := by decide +kernel
theorem dL_law_354 : decode cL_law 354 = .ok (.istore 18, 2) := by decide +kernel
theorem dL_law_356 : decode cL_law 356 = .ok (.aload_n 1, 1) := by decide +kernel
theorem dL_law_357 : decode cL_law 357 = .ok (.iload 13, 2) := by decide +kernel
theorem dL_law_359 : decode cL_law 359 = .ok (.iload 17, 2) := by decide +kernel
theorem dL_law_361 : decode cL_law 361 = .ok (.bipush 32, 2) := by decide +kernel
theorem dL_law_363 : decode cL_law 363 = .ok (.irem, 1) := by decide +kernel
theorem dL_law_364 : decode cL_law 364 = .ok (.iconst 4, 1) := by decide +kernel
theorem dL_law_365 : decode cL_law 365 = .ok (.idiv, 1) := by decide +kernel
theorem dL_law_366 : decode cL_law 366 = .ok (.iload 17, 2) := by decide +kernel
theorem dL_law_368 : decode cL_law 368 = .ok (.iconst 4, 1) := by decide +kernel
theorem dL_law_369 : decode cL_law 369 = .ok (.irem, 1) := by decide +kernel
theorem dL_law_370 : decode cL_law 370 = .ok (.iload 18, 2) := by decide +kernel
theorem dL_law_372 : decode cL_law 372 = .ok (.invokevirtual 46, 3) := by decide +kernel
theorem dL_law_375 : decode cL_law 375 = .ok (.aload 6, 2) := by decide +kernel
theorem dL_law_377 : decode cL_law 377 = .ok (.iload 17, 2) := by decide +kernel
theorem dL_law_379 : decode cL_law 379 = .ok (.iaload, 1) := by decide +kernel
theorem dL_law_380 : decode cL_law 380 = .ok (.if_icmp .ne 7, 3) := by decide +kernel
theorem dL_law_383 : decode cL_law 383 = .ok (.iconst 1, 1) := by decide +kernel
theorem dL_law_384 : decode cL_law 384 = .ok (.goto 4, 3) := by decide +kernel
theorem dL_law_387 : decode cL_law 387 = .ok (.iconst 0, 1) := by decide +kernel
theorem dL_law_388 : decode cL_law 388 = .ok (.istore 7, 2) := by decide +kernel
theorem dL_law_390 : decode cL_law 390 = .ok (.aload 6, 2) := by decide +kernel
theorem dL_law_392 : decode cL_law 392 = .ok (.iload 17, 2) := by decide +kernel
theorem dL_law_394 : decode cL_law 394 = .ok (.iload 18, 2) := by decide +kernel
theorem dL_law_396 : decode cL_law 396 = .ok (.iastore, 1) := by decide +kernel
theorem dL_law_397 : decode cL_law 397 = .ok (.goto 669, 3) := by decide +kernel
theorem dL_law_400 : decode cL_law 400 = .ok (.iload 12, 2) := by decide +kernel
theorem dL_law_402 : decode cL_law 402 = .ok (.iconst 4, 1) := by decide +kernel
theorem dL_law_403 : decode cL_law 403 = .ok (.if_icmp .ge 40, 3) := by decide +kernel
theorem dL_law_406 : decode cL_law 406 = .ok (.aload_n 1, 1) := by decide +kernel
theorem dL_law_407 : decode cL_law 407 = .ok (.iload 13, 2) := by decide +kernel
theorem dL_law_409 : decode cL_law 409 = .ok (.invokevirtual 49, 3) := by decide +kernel
theorem dL_law_412 : decode cL_law 412 = .ok (.istore 17, 2) := by decide +kernel
theorem dL_law_414 : decode cL_law 414 = .ok (.aload_n 1, 1) := by decide +kernel
theorem dL_law_415 : decode cL_law 415 = .ok (.iload 13, 2) := by decide +kernel
theorem dL_law_417 : decode cL_law 417 = .ok (.invokevirtual 39, 3) := by decide +kernel
theorem dL_law_420 : decode cL_law 420 = .ok (.iload 17, 2) := by decide +kernel
theorem dL_law_422 : decode cL_law 422 = .ok (.ifCond .ne 7, 3) := by decide +kernel
theorem dL_law_425 : decode cL_law 425 = .ok (.iconst 1, 1) := by decide +kernel
theorem dL_law_426 : decode cL_law 426 = .ok (.goto 4, 3) := by decide +kernel
theorem dL_law_429 : decode cL_law 429 = .ok (.iconst 0, 1) := by decide +kernel
theorem dL_law_430 : decode cL_law 430 = .ok (.if_icmp .ne 7, 3) := by decide +kernel
theorem dL_law_433 : decode cL_law 433 = .ok (.iconst 1, 1) := by decide +kernel
theorem dL_law_434 : decode cL_law 434 = .ok (.goto 4, 3) := by decide +kernel
theorem dL_law_437 : decode cL_law 437 = .ok (.iconst 0, 1) := by decide +kernel
theorem dL_law_438 : decode cL_law 438 = .ok (.istore 7, 2) := by decide +kernel
theorem dL_law_440 : decode cL_law 440 = .ok (.goto 626, 3) := by decide +kernel
theorem dL_law_443 : decode cL_law 443 = .ok (.iload 12, 2) := by decide +kernel
theorem dL_law_445 : decode cL_law 445 = .ok (.iconst 4, 1) := by decide +kernel
theorem dL_law_446 : decode cL_law 446 = .ok (.if_icmp .ne 112, 3) := by decide +kernel
theorem dL_law_449 : decode cL_law 449 = .ok (.aload_n 1, 1) := by decide +kernel
theorem dL_law_450 : decode cL_law 450 = .ok (.iload 14, 2) := by decide +kernel
theorem dL_law_452 : decode cL_law 452 = .ok (.iload 15, 2) := by decide +kernel
theorem dL_law_454 : decode cL_law 454 = .ok (.iload 16, 2) := by decide +kernel
theorem dL_law_456 : decode cL_law 456 = .ok (.iconst 3, 1) := by decide +kernel
theorem dL_law_457 : decode cL_law 457 = .ok (.invokevirtual 19, 3) := by decide +kernel
theorem dL_law_460 : decode cL_law 460 = .ok (.ifCond .ne 606, 3) := by decide +kernel
theorem dL_law_463 : decode cL_law 463 = .ok (.iload 11, 2) := by decide +kernel
theorem dL_law_465 : decode cL_law 465 = .ok (.bipush 12, 2) := by decide +kernel
theorem dL_law_467 : decode cL_law 467 = .ok (.ishr, 1) := by decide +kernel
theorem dL_law_468 : decode cL_law 468 = .ok (.bipush 16, 2) := by decide +kernel
theorem dL_law_470 : decode cL_law 470 = .ok (.invokestatic 27, 3) := by decide +kernel
theorem dL_law_473 : decode cL_law 473 = .ok (.istore 17, 2) := by decide +kernel
theorem dL_law_475 : decode cL_law 475 = .ok (.aload_n 1, 1) := by decide +kernel
theorem dL_law_476 : decode cL_law 476 = .ok (.iload 14, 2) := by decide +kernel
theorem dL_law_478 : decode cL_law 478 = .ok (.iload 15, 2) := by decide +kernel
theorem dL_law_480 : decode cL_law 480 = .ok (.iload 16, 2) := by decide +kernel
theorem dL_law_482 : decode cL_law 482 = .ok (.iload 17, 2) := by decide +kernel
theorem dL_law_484 : decode cL_law 484 = .ok (.invokevirtual 53, 3) := by decide +kernel
theorem dL_law_487 : decode cL_law 487 = .ok (.aload_n 1, 1) := by decide +kernel
theorem dL_law_488 : decode cL_law 488 = .ok (.iload 14, 2) := by decide +kernel
theorem dL_law_490 : decode cL_law 490 = .ok (.iload 15, 2) := by decide +kernel
theorem dL_law_492 : decode cL_law 492 = .ok (.iload 16, 2) := by decide +kernel
theorem dL_law_494 : decode cL_law 494 = .ok (.iconst 0, 1) := by decide +kernel
theorem dL_law_495 : decode cL_law 495 = .ok (.invokevirtual 19, 3) := by decide +kernel
theorem dL_law_498 : decode cL_law 498 = .ok (.iload 17, 2) := by decide +kernel
theorem dL_law_500 : decode cL_law 500 = .ok (.if_icmp .ne 52, 3) := by decide +kernel
theorem dL_law_503 : decode cL_law 503 = .ok (.aload_n 1, 1) := by decide +kernel
theorem dL_law_504 : decode cL_law 504 = .ok (.iload 14, 2) := by decide +kernel
theorem dL_law_506 : decode cL_law 506 = .ok (.iload 15, 2) := by decide +kernel
theorem dL_law_508 : decode cL_law 508 = .ok (.iload 16, 2) := by decide +kernel
theorem dL_law_510 : decode cL_law 510 = .ok (.iconst 1, 1) := by decide +kernel
theorem dL_law_511 : decode cL_law 511 = .ok (.invokevirtual 19, 3) := by decide +kernel
theorem dL_law_514 : decode cL_law 514 = .ok (.iload 17, 2) := by decide +kernel
theorem dL_law_516 : decode cL_law 516 = .ok (.if_icmp .ne 36, 3) := by decide +kernel
theorem dL_law_519 : decode cL_law 519 = .ok (.aload_n 1, 1) := by decide +kernel
theorem dL_law_520 : decode cL_law 520 = .ok (.iload 14, 2) := by decide +kernel
theorem dL_law_522 : decode cL_law 522 = .ok (.iload 15, 2) := by decide +kernel
theorem dL_law_524 : decode cL_law 524 = .ok (.iload 16, 2) := by decide +kernel
theorem dL_law_526 : decode cL_law 526 = .ok (.iconst 3, 1) := by decide +kernel
theorem dL_law_527 : decode cL_law 527 = .ok (.invokevirtual 19, 3) := by decide +kernel
theorem dL_law_530 : decode cL_law 530 = .ok (.iconst 1, 1) := by decide +kernel
theorem dL_law_531 : decode cL_law 531 = .ok (.if_icmp .ne 21, 3) := by decide +kernel
theorem dL_law_534 : decode cL_law 534 = .ok (.aload_n 1, 1) := by decide +kernel
theorem dL_law_535 : decode cL_law 535 = .ok (.iload 14, 2) := by decide +kernel
theorem dL_law_537 : decode cL_law 537 = .ok (.iload 15, 2) := by decide +kernel
theorem dL_law_539 : decode cL_law 539 = .ok (.iload 16, 2) := by decide +kernel
theorem dL_law_541 : decode cL_law 541 = .ok (.iconst 4, 1) := by decide +kernel
theorem dL_law_542 : decode cL_law 542 = .ok (.invokevirtual 19, 3) := by decide +kernel
theorem dL_law_545 : decode cL_law 545 = .ok (.ifCond .ne 7, 3) := by decide +kernel
theorem dL_law_548 : decode cL_law 548 = .ok (.iconst 1, 1) := by decide +kernel
theorem dL_law_549 : decode cL_law 549 = .ok (.goto 4, 3) := by decide +kernel
theorem dL_law_552 : decode cL_law 552 = .ok (.iconst 0, 1) := by decide +kernel
theorem dL_law_553 : decode cL_law 553 = .ok (.istore 7, 2) := by decide +kernel
theorem dL_law_555 : decode cL_law 555 = .ok (.goto 511, 3) := by decide +kernel
theorem dL_law_558 : decode cL_law 558 = .ok (.iload 12, 2) := by decide +kernel
theorem dL_law_560 : decode cL_law 560 = .ok (.iconst 5, 1) := by decide +kernel
theorem dL_law_561 : decode cL_law 561 = .ok (.if_icmp .ne 68, 3) := by decide +kernel
theorem dL_law_564 : decode cL_law 564 = .ok (.aload_n 1, 1) := by decide +kernel
theorem dL_law_565 : decode cL_law 565 = .ok (.iload 14, 2) := by decide +kernel
theorem dL_law_567 : decode cL_law 567 = .ok (.invokevirtual 57, 3) := by decide +kernel
theorem dL_law_570 : decode cL_law 570 = .ok (.fstore 17, 2) := by decide +kernel
theorem dL_law_572 : decode cL_law 572 = .ok (.aload_n 1, 1) := by decide +kernel
theorem dL_law_573 : decode cL_law 573 = .ok (.iload 14, 2) := by decide +kernel
theorem dL_law_575 : decode cL_law 575 = .ok (.iload 11, 2) := by decide +kernel
theorem dL_law_577 : decode cL_law 577 = .ok (.iconst 5, 1) := by decide +kernel
theorem dL_law_578 : decode cL_law 578 = .ok (.ishr, 1) := by decide +kernel
theorem dL_law_579 : decode cL_law 579 = .ok (.ldc 61, 2) := by decide +kernel
theorem dL_law_581 : decode cL_law 581 = .ok (.invokestatic 27, 3) := by decide +kernel
theorem dL_law_584 : decode cL_law 584 = .ok (.iconst 1, 1) := by decide +kernel
theorem dL_law_585 : decode cL_law 585 = .ok (.iload 11, 2) := by decide +kernel
theorem dL_law_587 : decode cL_law 587 = .ok (.bipush 8, 2) := by decide +kernel
theorem dL_law_589 : decode cL_law 589 = .ok (.ishr, 1) := by decide +kernel
theorem dL_law_590 : decode cL_law 590 = .ok (.iconst 5, 1) := by decide +kernel
theorem dL_law_591 : decode cL_law 591 = .ok (.invokestatic 27, 3) := by decide +kernel
theorem dL_law_594 : decode cL_law 594 = .ok (.iadd, 1) := by decide +kernel
theorem dL_law_595 : decode cL_law 595 = .ok (.invokevirtual 62, 3) := by decide +kernel
theorem dL_law_598 : decode cL_law 598 = .ok (.istore 18, 2) := by decide +kernel
theorem dL_law_600 : decode cL_law 600 = .ok (.aload_n 1, 1) := by decide +kernel
theorem dL_law_601 : decode cL_law 601 = .ok (.iload 14, 2) := by decide +kernel
theorem dL_law_603 : decode cL_law 603 = .ok (.invokevirtual 57, 3) := by decide +kernel
theorem dL_law_606 : decode cL_law 606 = .ok (.fload 17, 2) := by decide +kernel
theorem dL_law_608 : decode cL_law 608 = .ok (.iload 18, 2) := by decide +kernel
theorem dL_law_610 : decode cL_law 610 = .ok (.i2f, 1) := by decide +kernel
theorem dL_law_611 : decode cL_law 611 = .ok (.ldc 66, 2) := by decide +kernel
theorem dL_law_613 : decode cL_law 613 = .ok (.fdiv, 1) := by decide +kernel
theorem dL_law_614 : decode cL_law 614 = .ok (.fadd, 1) := by decide +kernel
theorem dL_law_615 : decode cL_law 615 = .ok (.fcmp .l, 1) := by decide +kernel
theorem dL_law_616 : decode cL_law 616 = .ok (.ifCond .ne 7, 3) := by decide +kernel
theorem dL_law_619 : decode cL_law 619 = .ok (.iconst 1, 1) := by decide +kernel
theorem dL_law_620 : decode cL_law 620 = .ok (.goto 4, 3) := by decide +kernel
theorem dL_law_623 : decode cL_law 623 = .ok (.iconst 0, 1) := by decide +kernel
theorem dL_law_624 : decode cL_law 624 = .ok (.istore 7, 2) := by decide +kernel
theorem dL_law_626 : decode cL_law 626 = .ok (.goto 440, 3) := by decide +kernel
theorem dL_law_629 : decode cL_law 629 = .ok (.iload 12, 2) := by decide +kernel
theorem dL_law_631 : decode cL_law 631 = .ok (.bipush 6, 2) := by decide +kernel
theorem dL_law_633 : decode cL_law 633 = .ok (.if_icmp .ne 51, 3) := by decide +kernel
theorem dL_law_636 : decode cL_law 636 = .ok (.aload_n 1, 1) := by decide +kernel
theorem dL_law_637 : decode cL_law 637 = .ok (.invokevirtual 67, 3) := by decide +kernel
theorem dL_law_640 : decode cL_law 640 = .ok (.istore 17, 2) := by decide +kernel
theorem dL_law_642 : decode cL_law 642 = .ok (.aload_n 1, 1) := by decide +kernel
theorem dL_law_643 : decode cL_law 643 = .ok (.iconst 1, 1) := by decide +kernel
theorem dL_law_644 : decode cL_law 644 = .ok (.iload 11, 2) := by decide +kernel
theorem dL_law_646 : decode cL_law 646 = .ok (.iconst 4, 1) := by decide +kernel
theorem dL_law_647 : decode cL_law 647 = .ok (.ishr, 1) := by decide +kernel
theorem dL_law_648 : decode cL_law 648 = .ok (.bipush 60, 2) := by decide +kernel
theorem dL_law_650 : decode cL_law 650 = .ok (.invokestatic 27, 3) := by decide +kernel
theorem dL_law_653 : decode cL_law 653 = .ok (.iadd, 1) := by decide +kernel
theorem dL_law_654 : decode cL_law 654 = .ok (.invokevirtual 71, 3) := by decide +kernel
theorem dL_law_657 : decode cL_law 657 = .ok (.iload 17, 2) := by decide +kernel
theorem dL_law_659 : decode cL_law 659 = .ok (.iconst 1, 1) := by decide +kernel
theorem dL_law_660 : decode cL_law 660 = .ok (.iadd, 1) := by decide +kernel
theorem dL_law_661 : decode cL_law 661 = .ok (.iload 11, 2) := by decide +kernel
theorem dL_law_663 : decode cL_law 663 = .ok (.iconst 4, 1) := by decide +kernel
theorem dL_law_664 : decode cL_law 664 = .ok (.ishr, 1) := by decide +kernel
theorem dL_law_665 : decode cL_law 665 = .ok (.bipush 60, 2) := by decide +kernel
theorem dL_law_667 : decode cL_law 667 = .ok (.invokestatic 27, 3) := by decide +kernel
theorem dL_law_670 : decode cL_law 670 = .ok (.iadd, 1) := by decide +kernel
theorem dL_law_671 : decode cL_law 671 = .ok (.if_icmp .ne 7, 3) := by decide +kernel
theorem dL_law_674 : decode cL_law 674 = .ok (.iconst 1, 1) := by decide +kernel
theorem dL_law_675 : decode cL_law 675 = .ok (.goto 4, 3) := by decide +kernel
theorem dL_law_678 : decode cL_law 678 = .ok (.iconst 0, 1) := by decide +kernel
theorem dL_law_679 : decode cL_law 679 = .ok (.istore 7, 2) := by decide +kernel
theorem dL_law_681 : decode cL_law 681 = .ok (.goto 385, 3) := by decide +kernel
theorem dL_law_684 : decode cL_law 684 = .ok (.iload 12, 2) := by decide +kernel
